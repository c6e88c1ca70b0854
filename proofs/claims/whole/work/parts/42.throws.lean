def tX11_text_0 (M : me_M) (p0 : Int32) : Option (String × me_M) :=
  ((mX9_holds_1 M p0).bind fun v1 => (if v1 = 0 then some (xA, (me_s M 0 14 (M.1 0 14 + 1))) else none))
set_option maxRecDepth 100000 in
set_option maxHeartbeats 4000000 in
theorem ctTX11_text_0 {l : Launch} (hl : l.stackTraces = false) {n nt : Nat} (hn : 63 ≤ n) (hnt : 1 ≤ nt) {M : me_M} {p0 : Int32} {E : String} {M' : me_M} (h : tX11_text_0 M p0 = some (E, M')) : me_Cx l yX11_text cX11_text 3 (some .int) 7 n nt (fun ad => [.ref (ad 0), .int p0]) M E M' := by
  unfold tX11_text_0 at h
  refine me_enterX (N0 := 63) RX11 rfl pl_RX11 hn (Nat.le_trans (by decide) hnt) (fun _ => Nat.le_of_ble_eq_true rfl) ?_
  intro p e R s m args below meth c D cA ad tys A X hr hlk hz htab hRc hRs
  refine me_sub (L' := [(0, .ref (ad 0)), (1, .int p0)]) [0, 1] rfl ?_
  refine me_aload_n X (i := 0) 0 rfl dX11_text_0 ?_
  refine me_aload_n X (i := 0) 0 rfl dX11_text_1 ?_
  refine me_getr X 1 kF_X11_10 (Nat.le_of_ble_eq_true rfl) me_k0 me_f0_0 dX11_text_2 ?_
  refine me_iload_n X (i := 1) 1 rfl dX11_text_5 ?_
  obtain ⟨v1, e1, h⟩ := me_bd h
  refine me_callVi X [.int p0] (ctX9_holds_1 hn (Nat.le_trans (by decide) hnt) e1) kV_X11_118 rfl rfl (Nat.le_of_ble_eq_true rfl) me_k1 (Nat.le_of_ble_eq_true rfl) (Nat.le_refl _) (Nat.le_of_ble_eq_true rfl) dX11_text_6 ?_
  by_cases c1 : v1 = 0
  · have h := me_ip c1 h
    obtain ⟨rfl, rfl⟩ := me_sp h
    exact me_callX X hz htab hlk hRc hRs [.int v1] (ctT_needArgument hl hn (Nat.le_trans (by decide) hnt) c1) kV_X11_122 rfl rfl (Nat.le_of_ble_eq_true rfl) me_k0 (Nat.le_of_ble_eq_true rfl) (Nat.le_refl _) (Nat.le_of_ble_eq_true rfl) dX11_text_9 tw_654
  · have h := me_in c1 h
    cases h
def tX11_scheme_0 (M : me_M) (p0 : Int32) : Option (String × me_M) :=
  ((mX9_holds_1 M p0).bind fun v1 => (if v1 = 0 then some (xA, (me_s M 0 14 (M.1 0 14 + 1))) else none))
set_option maxRecDepth 100000 in
set_option maxHeartbeats 4000000 in
theorem ctTX11_scheme_0 {l : Launch} (hl : l.stackTraces = false) {n nt : Nat} (hn : 63 ≤ n) (hnt : 1 ≤ nt) {M : me_M} {p0 : Int32} {E : String} {M' : me_M} (h : tX11_scheme_0 M p0 = some (E, M')) : me_Cx l yX11_scheme cX11_scheme 3 (some .int) 7 n nt (fun ad => [.ref (ad 0), .int p0]) M E M' := by
  unfold tX11_scheme_0 at h
  refine me_enterX (N0 := 63) RX11 rfl pl_RX11 hn (Nat.le_trans (by decide) hnt) (fun _ => Nat.le_of_ble_eq_true rfl) ?_
  intro p e R s m args below meth c D cA ad tys A X hr hlk hz htab hRc hRs
  refine me_sub (L' := [(0, .ref (ad 0)), (1, .int p0)]) [0, 1] rfl ?_
  refine me_aload_n X (i := 0) 0 rfl dX11_scheme_0 ?_
  refine me_aload_n X (i := 0) 0 rfl dX11_scheme_1 ?_
  refine me_getr X 1 kF_X11_10 (Nat.le_of_ble_eq_true rfl) me_k0 me_f0_0 dX11_scheme_2 ?_
  refine me_iload_n X (i := 1) 1 rfl dX11_scheme_5 ?_
  obtain ⟨v1, e1, h⟩ := me_bd h
  refine me_callVi X [.int p0] (ctX9_holds_1 hn (Nat.le_trans (by decide) hnt) e1) kV_X11_118 rfl rfl (Nat.le_of_ble_eq_true rfl) me_k1 (Nat.le_of_ble_eq_true rfl) (Nat.le_refl _) (Nat.le_of_ble_eq_true rfl) dX11_scheme_6 ?_
  by_cases c1 : v1 = 0
  · have h := me_ip c1 h
    obtain ⟨rfl, rfl⟩ := me_sp h
    exact me_callX X hz htab hlk hRc hRs [.int v1] (ctT_needArgument hl hn (Nat.le_trans (by decide) hnt) c1) kV_X11_122 rfl rfl (Nat.le_of_ble_eq_true rfl) me_k0 (Nat.le_of_ble_eq_true rfl) (Nat.le_refl _) (Nat.le_of_ble_eq_true rfl) dX11_scheme_9 tw_654
  · have h := me_in c1 h
    cases h
def tX11_step_0_J17 (p0 : Int32) (M : me_M) (s1 : Int32) : Option (String × me_M) :=
  (if s1 = 0 then some (xA, (me_s M 0 14 (M.1 0 14 + 1))) else none)
def tX11_step_0_J16 (p0 : Int32) (M : me_M)  : Option (String × me_M) :=
  (tX11_step_0_J17 p0 M 0)
def tX11_step_0 (M : me_M) (p0 : Int32) : Option (String × me_M) :=
  (if p0 < 1 then (tX11_step_0_J16 p0 M ) else (if 16 < p0 then (tX11_step_0_J16 p0 M ) else (tX11_step_0_J17 p0 M 1)))
set_option maxRecDepth 100000 in
set_option maxHeartbeats 4000000 in
theorem ctTX11_step_0 {l : Launch} (hl : l.stackTraces = false) {n nt : Nat} (hn : 63 ≤ n) (hnt : 1 ≤ nt) {M : me_M} {p0 : Int32} {E : String} {M' : me_M} (h : tX11_step_0 M p0 = some (E, M')) : me_Cx l yX11_step cX11_step 3 (some .int) 7 n nt (fun ad => [.ref (ad 0), .int p0]) M E M' := by
  unfold tX11_step_0 at h
  refine me_enterX (N0 := 63) RX11 rfl pl_RX11 hn (Nat.le_trans (by decide) hnt) (fun _ => Nat.le_of_ble_eq_true rfl) ?_
  intro p e R s m args below meth c D cA ad tys A X hr hlk hz htab hRc hRs
  refine me_sub (L' := [(0, .ref (ad 0)), (1, .int p0)]) [0, 1] rfl ?_
  refine me_aload_n X (i := 0) 0 rfl dX11_step_0 ?_
  refine me_iload_n X (i := 1) 1 rfl dX11_step_1 ?_
  refine me_iconst X dX11_step_2 ic_1 ?_
  have hj17_2 : ∀ (s1 : Int32), tX11_step_0_J17 p0 M s1 = some (E, M') → me_W p l e R s m args below meth c 0 0 (vx_MQ below me_QF (me_XC D cA ad n A E M') args s 1 6 A) D cA ad n 3 A 17 [(0, .ref (ad 0)), (1, .int p0)] [.int s1, .ref (ad 0)] M := by
    intro s1 h
    unfold tX11_step_0_J17 at h
    by_cases c3 : s1 = 0
    · have h := me_ip c3 h
      obtain ⟨rfl, rfl⟩ := me_sp h
      exact me_callX X hz htab hlk hRc hRs [.int s1] (ctT_needArgument hl hn (Nat.le_trans (by decide) hnt) c3) kV_X11_122 rfl rfl (Nat.le_of_ble_eq_true rfl) me_k0 (Nat.le_of_ble_eq_true rfl) (Nat.le_refl _) (Nat.le_of_ble_eq_true rfl) dX11_step_17 tw_654
    · have h := me_in c3 h
      cases h
  have hj16_1 : tX11_step_0_J16 p0 M  = some (E, M') → me_W p l e R s m args below meth c 0 0 (vx_MQ below me_QF (me_XC D cA ad n A E M') args s 1 6 A) D cA ad n 3 A 16 [(0, .ref (ad 0)), (1, .int p0)] [.ref (ad 0)] M := by
    intro h
    unfold tX11_step_0_J16 at h
    refine me_iconst X dX11_step_16 ic_0 ?_
    exact hj17_2 0 h
  refine me_icmp_lt X 16 (by decide) dX11_step_3 (fun c1 => ?_) (fun c1 => ?_)
  · have h := me_ip c1 h
    exact hj16_1  h
  · have h := me_in c1 h
    refine me_iload_n X (i := 1) 1 rfl dX11_step_6 ?_
    refine me_bipush X dX11_step_7 ib_16 ?_
    refine me_icmp_gt X 16 (by decide) dX11_step_9 (fun c2 => ?_) (fun c2 => ?_)
    · have h := me_ip c2 h
      exact hj16_1  h
    · have h := me_in c2 h
      refine me_iconst X dX11_step_12 ic_1 ?_
      refine me_goto X 17 (by decide) dX11_step_13 ?_
      exact hj17_2 1 h
def tX11_grow_0_J42 (p0 : Int32) (p1 : Int32) (M : me_M) (s2 : Int32) : Option (String × me_M) :=
  (if s2 = 0 then some (xS, (me_s M 0 15 (M.1 0 15 + 1))) else none)
def tX11_grow_0_J21 (p0 : Int32) (p1 : Int32) (M : me_M) (s1 : Int32) : Option (String × me_M) :=
  (if s1 = 0 then some (xA, (me_s M 0 14 (M.1 0 14 + 1))) else (if 40 ≤ (M.1 19 4) then (tX11_grow_0_J42 p0 p1 M 0) else (tX11_grow_0_J42 p0 p1 M 1)))
def tX11_grow_0_J20 (p0 : Int32) (p1 : Int32) (M : me_M)  : Option (String × me_M) :=
  (tX11_grow_0_J21 p0 p1 M 0)
def tX11_grow_0 (M : me_M) (p0 : Int32) (p1 : Int32) : Option (String × me_M) :=
  ((mX11_isLetter p0).bind fun v1 => (if v1 = 0 then (tX11_grow_0_J20 p0 p1 M ) else ((mX11_isWhat p1 1).bind fun v2 => (if v2 = 0 then (tX11_grow_0_J20 p0 p1 M ) else (tX11_grow_0_J21 p0 p1 M 1)))))
set_option maxRecDepth 100000 in
set_option maxHeartbeats 4000000 in
theorem ctTX11_grow_0 {l : Launch} (hl : l.stackTraces = false) {n nt : Nat} (hn : 63 ≤ n) (hnt : 1 ≤ nt) {M : me_M} {p0 : Int32} {p1 : Int32} {E : String} {M' : me_M} (h : tX11_grow_0 M p0 p1 = some (E, M')) : me_Cx l yX11_grow cX11_grow 3 (some .int) 7 n nt (fun ad => [.ref (ad 0), .int p0, .int p1]) M E M' := by
  unfold tX11_grow_0 at h
  refine me_enterX (N0 := 63) RX11 rfl pl_RX11 hn (Nat.le_trans (by decide) hnt) (fun _ => Nat.le_of_ble_eq_true rfl) ?_
  intro p e R s m args below meth c D cA ad tys A X hr hlk hz htab hRc hRs
  refine me_sub (L' := [(0, .ref (ad 0)), (1, .int p0), (2, .int p1)]) [0, 1, 2] rfl ?_
  refine me_aload_n X (i := 0) 0 rfl dX11_grow_0 ?_
  refine me_iload_n X (i := 1) 1 rfl dX11_grow_1 ?_
  obtain ⟨v1, e1, h⟩ := me_bd h
  refine me_callSi X [.int p0] (ctX11_isLetter hn (Nat.le_trans (by decide) hnt) e1) kS_X11_154 rfl rfl (Nat.le_of_ble_eq_true rfl) (Nat.le_refl _) (Nat.le_of_ble_eq_true rfl) dX11_grow_2 ?_
  have hj21_2 : ∀ (s1 : Int32), tX11_grow_0_J21 p0 p1 M s1 = some (E, M') → me_W p l e R s m args below meth c 0 0 (vx_MQ below me_QF (me_XC D cA ad n A E M') args s 1 6 A) D cA ad n 3 A 21 [(0, .ref (ad 0)), (1, .int p0), (2, .int p1)] [.int s1, .ref (ad 0)] M := by
    intro s1 h
    unfold tX11_grow_0_J21 at h
    by_cases c3 : s1 = 0
    · have h := me_ip c3 h
      obtain ⟨rfl, rfl⟩ := me_sp h
      exact me_callX X hz htab hlk hRc hRs [.int s1] (ctT_needArgument hl hn (Nat.le_trans (by decide) hnt) c3) kV_X11_122 rfl rfl (Nat.le_of_ble_eq_true rfl) me_k0 (Nat.le_of_ble_eq_true rfl) (Nat.le_refl _) (Nat.le_of_ble_eq_true rfl) dX11_grow_21 tw_654
    · have h := me_in c3 h
      refine me_callVv X [.int s1] (ctX11_needArgument_0 hn (Nat.le_trans (by decide) hnt) (by unfold mX11_needArgument_0; rw [if_neg c3])) kV_X11_122 rfl rfl (Nat.le_of_ble_eq_true rfl) me_k0 (Nat.le_of_ble_eq_true rfl) (Nat.le_refl _) (Nat.le_of_ble_eq_true rfl) dX11_grow_21 ?_
      refine me_aload_n X (i := 0) 0 rfl dX11_grow_24 ?_
      refine me_aload_n X (i := 0) 0 rfl dX11_grow_25 ?_
      refine me_getr X 19 kF_X11_47 (Nat.le_of_ble_eq_true rfl) me_k0 me_f0_4 dX11_grow_26 ?_
      refine me_geti X kF_X11_161 (Nat.le_of_ble_eq_true rfl) me_k19 me_f19_4 dX11_grow_29 ?_
      refine me_bipush X dX11_grow_32 ib_40 ?_
      have hj42_3 : ∀ (s2 : Int32), tX11_grow_0_J42 p0 p1 M s2 = some (E, M') → me_W p l e R s m args below meth c 0 0 (vx_MQ below me_QF (me_XC D cA ad n A E M') args s 1 6 A) D cA ad n 3 A 42 [(0, .ref (ad 0)), (1, .int p0), (2, .int p1)] [.int s2, .ref (ad 0)] M := by
        intro s2 h
        unfold tX11_grow_0_J42 at h
        by_cases c5 : s2 = 0
        · have h := me_ip c5 h
          obtain ⟨rfl, rfl⟩ := me_sp h
          exact me_callX X hz htab hlk hRc hRs [.int s2] (ctT_needState hl hn (Nat.le_trans (by decide) hnt) c5) kV_X11_162 rfl rfl (Nat.le_of_ble_eq_true rfl) me_k0 (Nat.le_of_ble_eq_true rfl) (Nat.le_refl _) (Nat.le_of_ble_eq_true rfl) dX11_grow_42 tw_831
        · have h := me_in c5 h
          cases h
      refine me_icmp_ge X 41 (by decide) dX11_grow_34 (fun c4 => ?_) (fun c4 => ?_)
      · have h := me_ip c4 h
        refine me_iconst X dX11_grow_41 ic_0 ?_
        exact hj42_3 0 h
      · have h := me_in c4 h
        refine me_iconst X dX11_grow_37 ic_1 ?_
        refine me_goto X 42 (by decide) dX11_grow_38 ?_
        exact hj42_3 1 h
  have hj20_1 : tX11_grow_0_J20 p0 p1 M  = some (E, M') → me_W p l e R s m args below meth c 0 0 (vx_MQ below me_QF (me_XC D cA ad n A E M') args s 1 6 A) D cA ad n 3 A 20 [(0, .ref (ad 0)), (1, .int p0), (2, .int p1)] [.ref (ad 0)] M := by
    intro h
    unfold tX11_grow_0_J20 at h
    refine me_iconst X dX11_grow_20 ic_0 ?_
    exact hj21_2 0 h
  refine me_if_eq X 20 (by decide) dX11_grow_5 (fun c1 => ?_) (fun c1 => ?_)
  · have h := me_ip c1 h
    exact hj20_1  h
  · have h := me_in c1 h
    refine me_iload_n X (i := 2) 2 rfl dX11_grow_8 ?_
    refine me_iconst X dX11_grow_9 ic_1 ?_
    obtain ⟨v2, e2, h⟩ := me_bd h
    refine me_callSi X [.int p1, .int 1] (ctX11_isWhat hn (Nat.le_trans (by decide) hnt) e2) kS_X11_157 rfl rfl (Nat.le_of_ble_eq_true rfl) (Nat.le_refl _) (Nat.le_of_ble_eq_true rfl) dX11_grow_10 ?_
    refine me_if_eq X 20 (by decide) dX11_grow_13 (fun c2 => ?_) (fun c2 => ?_)
    · have h := me_ip c2 h
      exact hj20_1  h
    · have h := me_in c2 h
      refine me_iconst X dX11_grow_16 ic_1 ?_
      refine me_goto X 21 (by decide) dX11_grow_17 ?_
      exact hj21_2 1 h
def tX11_told_0 (M : me_M) (p0 : Int32) : Option (String × me_M) :=
  ((mX11_isWhat p0 13).bind fun v1 => (if v1 = 0 then some (xA, (me_s M 0 14 (M.1 0 14 + 1))) else none))
set_option maxRecDepth 100000 in
set_option maxHeartbeats 4000000 in
theorem ctTX11_told_0 {l : Launch} (hl : l.stackTraces = false) {n nt : Nat} (hn : 63 ≤ n) (hnt : 1 ≤ nt) {M : me_M} {p0 : Int32} {E : String} {M' : me_M} (h : tX11_told_0 M p0 = some (E, M')) : me_Cx l yX11_told cX11_told 2 (some .int) 7 n nt (fun ad => [.ref (ad 0), .int p0]) M E M' := by
  unfold tX11_told_0 at h
  refine me_enterX (N0 := 63) RX11 rfl pl_RX11 hn (Nat.le_trans (by decide) hnt) (fun _ => Nat.le_of_ble_eq_true rfl) ?_
  intro p e R s m args below meth c D cA ad tys A X hr hlk hz htab hRc hRs
  refine me_sub (L' := [(0, .ref (ad 0)), (1, .int p0)]) [0, 1] rfl ?_
  refine me_aload_n X (i := 0) 0 rfl dX11_told_0 ?_
  refine me_iload_n X (i := 1) 1 rfl dX11_told_1 ?_
  refine me_bipush X dX11_told_2 ib_13 ?_
  obtain ⟨v1, e1, h⟩ := me_bd h
  refine me_callSi X [.int p0, .int 13] (ctX11_isWhat hn (Nat.le_trans (by decide) hnt) e1) kS_X11_157 rfl rfl (Nat.le_of_ble_eq_true rfl) (Nat.le_refl _) (Nat.le_of_ble_eq_true rfl) dX11_told_4 ?_
  by_cases c1 : v1 = 0
  · have h := me_ip c1 h
    obtain ⟨rfl, rfl⟩ := me_sp h
    exact me_callX X hz htab hlk hRc hRs [.int v1] (ctT_needArgument hl hn (Nat.le_trans (by decide) hnt) c1) kV_X11_122 rfl rfl (Nat.le_of_ble_eq_true rfl) me_k0 (Nat.le_of_ble_eq_true rfl) (Nat.le_refl _) (Nat.le_of_ble_eq_true rfl) dX11_told_7 tw_654
  · have h := me_in c1 h
    cases h
def tX11_sign_0 (M : me_M) (p0 : Int32) : Option (String × me_M) :=
  ((mX11_isPlace_0 M p0).bind fun v1 => (if v1 = 0 then some (xN, (me_s M 0 13 (M.1 0 13 + 1))) else none))
set_option maxRecDepth 100000 in
set_option maxHeartbeats 4000000 in
theorem ctTX11_sign_0 {l : Launch} (hl : l.stackTraces = false) {n nt : Nat} (hn : 63 ≤ n) (hnt : 1 ≤ nt) {M : me_M} {p0 : Int32} {E : String} {M' : me_M} (h : tX11_sign_0 M p0 = some (E, M')) : me_Cx l yX11_sign cX11_sign 2 (some .int) 7 n nt (fun ad => [.ref (ad 0), .int p0]) M E M' := by
  unfold tX11_sign_0 at h
  refine me_enterX (N0 := 63) RX11 rfl pl_RX11 hn (Nat.le_trans (by decide) hnt) (fun _ => Nat.le_of_ble_eq_true rfl) ?_
  intro p e R s m args below meth c D cA ad tys A X hr hlk hz htab hRc hRs
  refine me_sub (L' := [(0, .ref (ad 0)), (1, .int p0)]) [0, 1] rfl ?_
  refine me_aload_n X (i := 0) 0 rfl dX11_sign_0 ?_
  refine me_aload_n X (i := 0) 0 rfl dX11_sign_1 ?_
  refine me_iload_n X (i := 1) 1 rfl dX11_sign_2 ?_
  obtain ⟨v1, e1, h⟩ := me_bd h
  refine me_callVi X [.int p0] (ctX11_isPlace_0 hn (Nat.le_trans (by decide) hnt) e1) kV_X11_203 rfl rfl (Nat.le_of_ble_eq_true rfl) me_k0 (Nat.le_of_ble_eq_true rfl) (Nat.le_refl _) (Nat.le_of_ble_eq_true rfl) dX11_sign_3 ?_
  by_cases c1 : v1 = 0
  · have h := me_ip c1 h
    obtain ⟨rfl, rfl⟩ := me_sp h
    exact me_callX X hz htab hlk hRc hRs [.int v1] (ctT_needElement hl hn (Nat.le_trans (by decide) hnt) c1) kV_X11_206 rfl rfl (Nat.le_of_ble_eq_true rfl) me_k0 (Nat.le_of_ble_eq_true rfl) (Nat.le_refl _) (Nat.le_of_ble_eq_true rfl) dX11_sign_6 tw_895
  · have h := me_in c1 h
    cases h
def tX11_row_0_J21 (p0 : Int32) (p1 : Int32) (p2 : Int32) (M : me_M) (s1 : Int32) : Option (String × me_M) :=
  (if s1 = 0 then some (xN, (me_s M 0 13 (M.1 0 13 + 1))) else ((mX11_isWhat p2 6).bind fun v3 => (if v3 = 0 then some (xA, (me_s M 0 14 (M.1 0 14 + 1))) else none)))
def tX11_row_0_J20 (p0 : Int32) (p1 : Int32) (p2 : Int32) (M : me_M)  : Option (String × me_M) :=
  (tX11_row_0_J21 p0 p1 p2 M 0)
def tX11_row_0 (M : me_M) (p0 : Int32) (p1 : Int32) (p2 : Int32) : Option (String × me_M) :=
  ((mX11_isSide p0).bind fun v1 => (if v1 = 0 then (tX11_row_0_J20 p0 p1 p2 M ) else ((mX11_isPlace_0 M p1).bind fun v2 => (if v2 = 0 then (tX11_row_0_J20 p0 p1 p2 M ) else (tX11_row_0_J21 p0 p1 p2 M 1)))))
set_option maxRecDepth 100000 in
set_option maxHeartbeats 4000000 in
theorem ctTX11_row_0 {l : Launch} (hl : l.stackTraces = false) {n nt : Nat} (hn : 63 ≤ n) (hnt : 1 ≤ nt) {M : me_M} {p0 : Int32} {p1 : Int32} {p2 : Int32} {E : String} {M' : me_M} (h : tX11_row_0 M p0 p1 p2 = some (E, M')) : me_Cx l yX11_row cX11_row 6 (some .int) 7 n nt (fun ad => [.ref (ad 0), .int p0, .int p1, .int p2]) M E M' := by
  unfold tX11_row_0 at h
  refine me_enterX (N0 := 63) RX11 rfl pl_RX11 hn (Nat.le_trans (by decide) hnt) (fun _ => Nat.le_of_ble_eq_true rfl) ?_
  intro p e R s m args below meth c D cA ad tys A X hr hlk hz htab hRc hRs
  refine me_sub (L' := [(0, .ref (ad 0)), (1, .int p0), (2, .int p1), (3, .int p2)]) [0, 1, 2, 3] rfl ?_
  refine me_aload_n X (i := 0) 0 rfl dX11_row_0 ?_
  refine me_iload_n X (i := 1) 1 rfl dX11_row_1 ?_
  obtain ⟨v1, e1, h⟩ := me_bd h
  refine me_callSi X [.int p0] (ctX11_isSide hn (Nat.le_trans (by decide) hnt) e1) kS_X11_212 rfl rfl (Nat.le_of_ble_eq_true rfl) (Nat.le_refl _) (Nat.le_of_ble_eq_true rfl) dX11_row_2 ?_
  have hj21_2 : ∀ (s1 : Int32), tX11_row_0_J21 p0 p1 p2 M s1 = some (E, M') → me_W p l e R s m args below meth c 0 0 (vx_MQ below me_QF (me_XC D cA ad n A E M') args s 1 6 A) D cA ad n 6 A 21 [(0, .ref (ad 0)), (1, .int p0), (2, .int p1), (3, .int p2)] [.int s1, .ref (ad 0)] M := by
    intro s1 h
    unfold tX11_row_0_J21 at h
    by_cases c3 : s1 = 0
    · have h := me_ip c3 h
      obtain ⟨rfl, rfl⟩ := me_sp h
      exact me_callX X hz htab hlk hRc hRs [.int s1] (ctT_needElement hl hn (Nat.le_trans (by decide) hnt) c3) kV_X11_206 rfl rfl (Nat.le_of_ble_eq_true rfl) me_k0 (Nat.le_of_ble_eq_true rfl) (Nat.le_refl _) (Nat.le_of_ble_eq_true rfl) dX11_row_21 tw_895
    · have h := me_in c3 h
      refine me_callVv X [.int s1] (ctX11_needElement_0 hn (Nat.le_trans (by decide) hnt) (by unfold mX11_needElement_0; rw [if_neg c3])) kV_X11_206 rfl rfl (Nat.le_of_ble_eq_true rfl) me_k0 (Nat.le_of_ble_eq_true rfl) (Nat.le_refl _) (Nat.le_of_ble_eq_true rfl) dX11_row_21 ?_
      refine me_aload_n X (i := 0) 0 rfl dX11_row_24 ?_
      refine me_iload_n X (i := 3) 3 rfl dX11_row_25 ?_
      refine me_bipush X dX11_row_26 ib_6 ?_
      obtain ⟨v3, e3, h⟩ := me_bd h
      refine me_callSi X [.int p2, .int 6] (ctX11_isWhat hn (Nat.le_trans (by decide) hnt) e3) kS_X11_157 rfl rfl (Nat.le_of_ble_eq_true rfl) (Nat.le_refl _) (Nat.le_of_ble_eq_true rfl) dX11_row_28 ?_
      by_cases c4 : v3 = 0
      · have h := me_ip c4 h
        obtain ⟨rfl, rfl⟩ := me_sp h
        exact me_callX X hz htab hlk hRc hRs [.int v3] (ctT_needArgument hl hn (Nat.le_trans (by decide) hnt) c4) kV_X11_122 rfl rfl (Nat.le_of_ble_eq_true rfl) me_k0 (Nat.le_of_ble_eq_true rfl) (Nat.le_refl _) (Nat.le_of_ble_eq_true rfl) dX11_row_31 tw_654
      · have h := me_in c4 h
        cases h
  have hj20_1 : tX11_row_0_J20 p0 p1 p2 M  = some (E, M') → me_W p l e R s m args below meth c 0 0 (vx_MQ below me_QF (me_XC D cA ad n A E M') args s 1 6 A) D cA ad n 6 A 20 [(0, .ref (ad 0)), (1, .int p0), (2, .int p1), (3, .int p2)] [.ref (ad 0)] M := by
    intro h
    unfold tX11_row_0_J20 at h
    refine me_iconst X dX11_row_20 ic_0 ?_
    exact hj21_2 0 h
  refine me_if_eq X 20 (by decide) dX11_row_5 (fun c1 => ?_) (fun c1 => ?_)
  · have h := me_ip c1 h
    exact hj20_1  h
  · have h := me_in c1 h
    refine me_aload_n X (i := 0) 0 rfl dX11_row_8 ?_
    refine me_iload_n X (i := 2) 2 rfl dX11_row_9 ?_
    obtain ⟨v2, e2, h⟩ := me_bd h
    refine me_callVi X [.int p1] (ctX11_isPlace_0 hn (Nat.le_trans (by decide) hnt) e2) kV_X11_203 rfl rfl (Nat.le_of_ble_eq_true rfl) me_k0 (Nat.le_of_ble_eq_true rfl) (Nat.le_refl _) (Nat.le_of_ble_eq_true rfl) dX11_row_10 ?_
    refine me_if_eq X 20 (by decide) dX11_row_13 (fun c2 => ?_) (fun c2 => ?_)
    · have h := me_ip c2 h
      exact hj20_1  h
    · have h := me_in c2 h
      refine me_iconst X dX11_row_16 ic_1 ?_
      refine me_goto X 21 (by decide) dX11_row_17 ?_
      exact hj21_2 1 h
def tX11_rowOf_0_J21 (p0 : Int32) (p1 : Int32) (M : me_M) (s1 : Int32) : Option (String × me_M) :=
  (if s1 = 0 then some (xN, (me_s M 0 13 (M.1 0 13 + 1))) else none)
def tX11_rowOf_0_J20 (p0 : Int32) (p1 : Int32) (M : me_M)  : Option (String × me_M) :=
  (tX11_rowOf_0_J21 p0 p1 M 0)
def tX11_rowOf_0 (M : me_M) (p0 : Int32) (p1 : Int32) : Option (String × me_M) :=
  ((mX11_isSide p0).bind fun v1 => (if v1 = 0 then (tX11_rowOf_0_J20 p0 p1 M ) else ((mX11_isPlace_0 M p1).bind fun v2 => (if v2 = 0 then (tX11_rowOf_0_J20 p0 p1 M ) else (tX11_rowOf_0_J21 p0 p1 M 1)))))
set_option maxRecDepth 100000 in
set_option maxHeartbeats 4000000 in
theorem ctTX11_rowOf_0 {l : Launch} (hl : l.stackTraces = false) {n nt : Nat} (hn : 63 ≤ n) (hnt : 1 ≤ nt) {M : me_M} {p0 : Int32} {p1 : Int32} {E : String} {M' : me_M} (h : tX11_rowOf_0 M p0 p1 = some (E, M')) : me_Cx l yX11_rowOf cX11_rowOf 3 (some .int) 7 n nt (fun ad => [.ref (ad 0), .int p0, .int p1]) M E M' := by
  unfold tX11_rowOf_0 at h
  refine me_enterX (N0 := 63) RX11 rfl pl_RX11 hn (Nat.le_trans (by decide) hnt) (fun _ => Nat.le_of_ble_eq_true rfl) ?_
  intro p e R s m args below meth c D cA ad tys A X hr hlk hz htab hRc hRs
  refine me_sub (L' := [(0, .ref (ad 0)), (1, .int p0), (2, .int p1)]) [0, 1, 2] rfl ?_
  refine me_aload_n X (i := 0) 0 rfl dX11_rowOf_0 ?_
  refine me_iload_n X (i := 1) 1 rfl dX11_rowOf_1 ?_
  obtain ⟨v1, e1, h⟩ := me_bd h
  refine me_callSi X [.int p0] (ctX11_isSide hn (Nat.le_trans (by decide) hnt) e1) kS_X11_212 rfl rfl (Nat.le_of_ble_eq_true rfl) (Nat.le_refl _) (Nat.le_of_ble_eq_true rfl) dX11_rowOf_2 ?_
  have hj21_2 : ∀ (s1 : Int32), tX11_rowOf_0_J21 p0 p1 M s1 = some (E, M') → me_W p l e R s m args below meth c 0 0 (vx_MQ below me_QF (me_XC D cA ad n A E M') args s 1 6 A) D cA ad n 3 A 21 [(0, .ref (ad 0)), (1, .int p0), (2, .int p1)] [.int s1, .ref (ad 0)] M := by
    intro s1 h
    unfold tX11_rowOf_0_J21 at h
    by_cases c3 : s1 = 0
    · have h := me_ip c3 h
      obtain ⟨rfl, rfl⟩ := me_sp h
      exact me_callX X hz htab hlk hRc hRs [.int s1] (ctT_needElement hl hn (Nat.le_trans (by decide) hnt) c3) kV_X11_206 rfl rfl (Nat.le_of_ble_eq_true rfl) me_k0 (Nat.le_of_ble_eq_true rfl) (Nat.le_refl _) (Nat.le_of_ble_eq_true rfl) dX11_rowOf_21 tw_895
    · have h := me_in c3 h
      cases h
  have hj20_1 : tX11_rowOf_0_J20 p0 p1 M  = some (E, M') → me_W p l e R s m args below meth c 0 0 (vx_MQ below me_QF (me_XC D cA ad n A E M') args s 1 6 A) D cA ad n 3 A 20 [(0, .ref (ad 0)), (1, .int p0), (2, .int p1)] [.ref (ad 0)] M := by
    intro h
    unfold tX11_rowOf_0_J20 at h
    refine me_iconst X dX11_rowOf_20 ic_0 ?_
    exact hj21_2 0 h
  refine me_if_eq X 20 (by decide) dX11_rowOf_5 (fun c1 => ?_) (fun c1 => ?_)
  · have h := me_ip c1 h
    exact hj20_1  h
  · have h := me_in c1 h
    refine me_aload_n X (i := 0) 0 rfl dX11_rowOf_8 ?_
    refine me_iload_n X (i := 2) 2 rfl dX11_rowOf_9 ?_
    obtain ⟨v2, e2, h⟩ := me_bd h
    refine me_callVi X [.int p1] (ctX11_isPlace_0 hn (Nat.le_trans (by decide) hnt) e2) kV_X11_203 rfl rfl (Nat.le_of_ble_eq_true rfl) me_k0 (Nat.le_of_ble_eq_true rfl) (Nat.le_refl _) (Nat.le_of_ble_eq_true rfl) dX11_rowOf_10 ?_
    refine me_if_eq X 20 (by decide) dX11_rowOf_13 (fun c2 => ?_) (fun c2 => ?_)
    · have h := me_ip c2 h
      exact hj20_1  h
    · have h := me_in c2 h
      refine me_iconst X dX11_rowOf_16 ic_1 ?_
      refine me_goto X 21 (by decide) dX11_rowOf_17 ?_
      exact hj21_2 1 h
def tX11_count_0_J30 (p0 : Int32) (p1 : Int32) (p2 : Int32) (M : me_M) (s1 : Int32) : Option (String × me_M) :=
  (if s1 = 0 then some (xN, (me_s M 0 13 (M.1 0 13 + 1))) else ((mX11_isLetter p2).bind fun v2 => (if v2 = 0 then some (xA, (me_s M 0 14 (M.1 0 14 + 1))) else none)))
def tX11_count_0_J29 (p0 : Int32) (p1 : Int32) (p2 : Int32) (M : me_M)  : Option (String × me_M) :=
  (tX11_count_0_J30 p0 p1 p2 M 0)
def tX11_count_0 (M : me_M) (p0 : Int32) (p1 : Int32) (p2 : Int32) : Option (String × me_M) :=
  ((mX11_isSide p0).bind fun v1 => (if v1 = 0 then (tX11_count_0_J29 p0 p1 p2 M ) else (if p1 < 0 then (tX11_count_0_J29 p0 p1 p2 M ) else (if ((M.1 3 5) + 1) < p1 then (tX11_count_0_J29 p0 p1 p2 M ) else (tX11_count_0_J30 p0 p1 p2 M 1)))))
set_option maxRecDepth 100000 in
set_option maxHeartbeats 4000000 in
theorem ctTX11_count_0 {l : Launch} (hl : l.stackTraces = false) {n nt : Nat} (hn : 63 ≤ n) (hnt : 1 ≤ nt) {M : me_M} {p0 : Int32} {p1 : Int32} {p2 : Int32} {E : String} {M' : me_M} (h : tX11_count_0 M p0 p1 p2 = some (E, M')) : me_Cx l yX11_count cX11_count 4 (some .int) 7 n nt (fun ad => [.ref (ad 0), .int p0, .int p1, .int p2]) M E M' := by
  unfold tX11_count_0 at h
  refine me_enterX (N0 := 63) RX11 rfl pl_RX11 hn (Nat.le_trans (by decide) hnt) (fun _ => Nat.le_of_ble_eq_true rfl) ?_
  intro p e R s m args below meth c D cA ad tys A X hr hlk hz htab hRc hRs
  refine me_sub (L' := [(0, .ref (ad 0)), (1, .int p0), (2, .int p1), (3, .int p2)]) [0, 1, 2, 3] rfl ?_
  refine me_aload_n X (i := 0) 0 rfl dX11_count_0 ?_
  refine me_iload_n X (i := 1) 1 rfl dX11_count_1 ?_
  obtain ⟨v1, e1, h⟩ := me_bd h
  refine me_callSi X [.int p0] (ctX11_isSide hn (Nat.le_trans (by decide) hnt) e1) kS_X11_212 rfl rfl (Nat.le_of_ble_eq_true rfl) (Nat.le_refl _) (Nat.le_of_ble_eq_true rfl) dX11_count_2 ?_
  have hj30_2 : ∀ (s1 : Int32), tX11_count_0_J30 p0 p1 p2 M s1 = some (E, M') → me_W p l e R s m args below meth c 0 0 (vx_MQ below me_QF (me_XC D cA ad n A E M') args s 1 6 A) D cA ad n 4 A 30 [(0, .ref (ad 0)), (1, .int p0), (2, .int p1), (3, .int p2)] [.int s1, .ref (ad 0)] M := by
    intro s1 h
    unfold tX11_count_0_J30 at h
    by_cases c4 : s1 = 0
    · have h := me_ip c4 h
      obtain ⟨rfl, rfl⟩ := me_sp h
      exact me_callX X hz htab hlk hRc hRs [.int s1] (ctT_needElement hl hn (Nat.le_trans (by decide) hnt) c4) kV_X11_206 rfl rfl (Nat.le_of_ble_eq_true rfl) me_k0 (Nat.le_of_ble_eq_true rfl) (Nat.le_refl _) (Nat.le_of_ble_eq_true rfl) dX11_count_30 tw_895
    · have h := me_in c4 h
      refine me_callVv X [.int s1] (ctX11_needElement_0 hn (Nat.le_trans (by decide) hnt) (by unfold mX11_needElement_0; rw [if_neg c4])) kV_X11_206 rfl rfl (Nat.le_of_ble_eq_true rfl) me_k0 (Nat.le_of_ble_eq_true rfl) (Nat.le_refl _) (Nat.le_of_ble_eq_true rfl) dX11_count_30 ?_
      refine me_aload_n X (i := 0) 0 rfl dX11_count_33 ?_
      refine me_iload_n X (i := 3) 3 rfl dX11_count_34 ?_
      obtain ⟨v2, e2, h⟩ := me_bd h
      refine me_callSi X [.int p2] (ctX11_isLetter hn (Nat.le_trans (by decide) hnt) e2) kS_X11_154 rfl rfl (Nat.le_of_ble_eq_true rfl) (Nat.le_refl _) (Nat.le_of_ble_eq_true rfl) dX11_count_35 ?_
      by_cases c5 : v2 = 0
      · have h := me_ip c5 h
        obtain ⟨rfl, rfl⟩ := me_sp h
        exact me_callX X hz htab hlk hRc hRs [.int v2] (ctT_needArgument hl hn (Nat.le_trans (by decide) hnt) c5) kV_X11_122 rfl rfl (Nat.le_of_ble_eq_true rfl) me_k0 (Nat.le_of_ble_eq_true rfl) (Nat.le_refl _) (Nat.le_of_ble_eq_true rfl) dX11_count_38 tw_654
      · have h := me_in c5 h
        cases h
  have hj29_1 : tX11_count_0_J29 p0 p1 p2 M  = some (E, M') → me_W p l e R s m args below meth c 0 0 (vx_MQ below me_QF (me_XC D cA ad n A E M') args s 1 6 A) D cA ad n 4 A 29 [(0, .ref (ad 0)), (1, .int p0), (2, .int p1), (3, .int p2)] [.ref (ad 0)] M := by
    intro h
    unfold tX11_count_0_J29 at h
    refine me_iconst X dX11_count_29 ic_0 ?_
    exact hj30_2 0 h
  refine me_if_eq X 29 (by decide) dX11_count_5 (fun c1 => ?_) (fun c1 => ?_)
  · have h := me_ip c1 h
    exact hj29_1  h
  · have h := me_in c1 h
    refine me_iload_n X (i := 2) 2 rfl dX11_count_8 ?_
    refine me_if_lt X 29 (by decide) dX11_count_9 (fun c2 => ?_) (fun c2 => ?_)
    · have h := me_ip c2 h
      exact hj29_1  h
    · have h := me_in c2 h
      refine me_iload_n X (i := 2) 2 rfl dX11_count_12 ?_
      refine me_aload_n X (i := 0) 0 rfl dX11_count_13 ?_
      refine me_getr X 3 kF_X11_19 (Nat.le_of_ble_eq_true rfl) me_k0 me_f0_1 dX11_count_14 ?_
      refine me_geti X kF_X11_176 (Nat.le_of_ble_eq_true rfl) me_k3 me_f3_5 dX11_count_17 ?_
      refine me_iconst X dX11_count_20 ic_1 ?_
      refine me_iadd X dX11_count_21 ?_
      refine me_icmp_gt X 29 (by decide) dX11_count_22 (fun c3 => ?_) (fun c3 => ?_)
      · have h := me_ip c3 h
        exact hj29_1  h
      · have h := me_in c3 h
        refine me_iconst X dX11_count_25 ic_1 ?_
        refine me_goto X 30 (by decide) dX11_count_26 ?_
        exact hj30_2 1 h
def tX11_letter_0_J21 (p0 : Int32) (M : me_M) (s1 : Int32) : Option (String × me_M) :=
  (if s1 = 0 then some (xN, (me_s M 0 13 (M.1 0 13 + 1))) else none)
def tX11_letter_0_J20 (p0 : Int32) (M : me_M)  : Option (String × me_M) :=
  (tX11_letter_0_J21 p0 M 0)
def tX11_letter_0 (M : me_M) (p0 : Int32) : Option (String × me_M) :=
  (if p0 < 0 then (tX11_letter_0_J20 p0 M ) else (if (M.1 19 4) ≤ p0 then (tX11_letter_0_J20 p0 M ) else (tX11_letter_0_J21 p0 M 1)))
set_option maxRecDepth 100000 in
set_option maxHeartbeats 4000000 in
theorem ctTX11_letter_0 {l : Launch} (hl : l.stackTraces = false) {n nt : Nat} (hn : 63 ≤ n) (hnt : 1 ≤ nt) {M : me_M} {p0 : Int32} {E : String} {M' : me_M} (h : tX11_letter_0 M p0 = some (E, M')) : me_Cx l yX11_letter cX11_letter 2 (some .int) 7 n nt (fun ad => [.ref (ad 0), .int p0]) M E M' := by
  unfold tX11_letter_0 at h
  refine me_enterX (N0 := 63) RX11 rfl pl_RX11 hn (Nat.le_trans (by decide) hnt) (fun _ => Nat.le_of_ble_eq_true rfl) ?_
  intro p e R s m args below meth c D cA ad tys A X hr hlk hz htab hRc hRs
  refine me_sub (L' := [(0, .ref (ad 0)), (1, .int p0)]) [0, 1] rfl ?_
  refine me_aload_n X (i := 0) 0 rfl dX11_letter_0 ?_
  refine me_iload_n X (i := 1) 1 rfl dX11_letter_1 ?_
  have hj21_2 : ∀ (s1 : Int32), tX11_letter_0_J21 p0 M s1 = some (E, M') → me_W p l e R s m args below meth c 0 0 (vx_MQ below me_QF (me_XC D cA ad n A E M') args s 1 6 A) D cA ad n 2 A 21 [(0, .ref (ad 0)), (1, .int p0)] [.int s1, .ref (ad 0)] M := by
    intro s1 h
    unfold tX11_letter_0_J21 at h
    by_cases c3 : s1 = 0
    · have h := me_ip c3 h
      obtain ⟨rfl, rfl⟩ := me_sp h
      exact me_callX X hz htab hlk hRc hRs [.int s1] (ctT_needElement hl hn (Nat.le_trans (by decide) hnt) c3) kV_X11_206 rfl rfl (Nat.le_of_ble_eq_true rfl) me_k0 (Nat.le_of_ble_eq_true rfl) (Nat.le_refl _) (Nat.le_of_ble_eq_true rfl) dX11_letter_21 tw_895
    · have h := me_in c3 h
      cases h
  have hj20_1 : tX11_letter_0_J20 p0 M  = some (E, M') → me_W p l e R s m args below meth c 0 0 (vx_MQ below me_QF (me_XC D cA ad n A E M') args s 1 6 A) D cA ad n 2 A 20 [(0, .ref (ad 0)), (1, .int p0)] [.ref (ad 0)] M := by
    intro h
    unfold tX11_letter_0_J20 at h
    refine me_iconst X dX11_letter_20 ic_0 ?_
    exact hj21_2 0 h
  refine me_if_lt X 20 (by decide) dX11_letter_2 (fun c1 => ?_) (fun c1 => ?_)
  · have h := me_ip c1 h
    exact hj20_1  h
  · have h := me_in c1 h
    refine me_iload_n X (i := 1) 1 rfl dX11_letter_5 ?_
    refine me_aload_n X (i := 0) 0 rfl dX11_letter_6 ?_
    refine me_getr X 19 kF_X11_47 (Nat.le_of_ble_eq_true rfl) me_k0 me_f0_4 dX11_letter_7 ?_
    refine me_geti X kF_X11_161 (Nat.le_of_ble_eq_true rfl) me_k19 me_f19_4 dX11_letter_10 ?_
    refine me_icmp_ge X 20 (by decide) dX11_letter_13 (fun c2 => ?_) (fun c2 => ?_)
    · have h := me_ip c2 h
      exact hj20_1  h
    · have h := me_in c2 h
      refine me_iconst X dX11_letter_16 ic_1 ?_
      refine me_goto X 21 (by decide) dX11_letter_17 ?_
      exact hj21_2 1 h
def tX11_grows_0 (M : me_M) (p0 : Int32) : Option (String × me_M) :=
  ((mX11_isWhat p0 1).bind fun v1 => (if v1 = 0 then some (xA, (me_s M 0 14 (M.1 0 14 + 1))) else none))
set_option maxRecDepth 100000 in
set_option maxHeartbeats 4000000 in
theorem ctTX11_grows_0 {l : Launch} (hl : l.stackTraces = false) {n nt : Nat} (hn : 63 ≤ n) (hnt : 1 ≤ nt) {M : me_M} {p0 : Int32} {E : String} {M' : me_M} (h : tX11_grows_0 M p0 = some (E, M')) : me_Cx l yX11_grows cX11_grows 2 (some .int) 7 n nt (fun ad => [.ref (ad 0), .int p0]) M E M' := by
  unfold tX11_grows_0 at h
  refine me_enterX (N0 := 63) RX11 rfl pl_RX11 hn (Nat.le_trans (by decide) hnt) (fun _ => Nat.le_of_ble_eq_true rfl) ?_
  intro p e R s m args below meth c D cA ad tys A X hr hlk hz htab hRc hRs
  refine me_sub (L' := [(0, .ref (ad 0)), (1, .int p0)]) [0, 1] rfl ?_
  refine me_aload_n X (i := 0) 0 rfl dX11_grows_0 ?_
  refine me_iload_n X (i := 1) 1 rfl dX11_grows_1 ?_
  refine me_iconst X dX11_grows_2 ic_1 ?_
  obtain ⟨v1, e1, h⟩ := me_bd h
  refine me_callSi X [.int p0, .int 1] (ctX11_isWhat hn (Nat.le_trans (by decide) hnt) e1) kS_X11_157 rfl rfl (Nat.le_of_ble_eq_true rfl) (Nat.le_refl _) (Nat.le_of_ble_eq_true rfl) dX11_grows_3 ?_
  by_cases c1 : v1 = 0
  · have h := me_ip c1 h
    obtain ⟨rfl, rfl⟩ := me_sp h
    exact me_callX X hz htab hlk hRc hRs [.int v1] (ctT_needArgument hl hn (Nat.le_trans (by decide) hnt) c1) kV_X11_122 rfl rfl (Nat.le_of_ble_eq_true rfl) me_k0 (Nat.le_of_ble_eq_true rfl) (Nat.le_refl _) (Nat.le_of_ble_eq_true rfl) dX11_grows_6 tw_654
  · have h := me_in c1 h
    cases h
def tX11_hit_0_J17 (p1 : Int32) (v1 : Int32) (M : me_M) (s1 : Int32) : Option (String × me_M) :=
  (if s1 = 0 then some (xN, (me_s M 0 13 (M.1 0 13 + 1))) else ((mX11_isWhat p1 2).bind fun v2 => (if v2 = 0 then some (xA, (me_s M 0 14 (M.1 0 14 + 1))) else none)))
def tX11_hit_0 (M : me_M) (p0 : Int32) (p1 : Int32) : Option (String × me_M) :=
  ((mX11_placeOfHit_0 M p0).bind fun v1 => (if v1 = (-1) then (tX11_hit_0_J17 p1 v1 M 0) else (tX11_hit_0_J17 p1 v1 M 1)))
set_option maxRecDepth 100000 in
set_option maxHeartbeats 4000000 in
theorem ctTX11_hit_0 {l : Launch} (hl : l.stackTraces = false) {n nt : Nat} (hn : 63 ≤ n) (hnt : 1 ≤ nt) {M : me_M} {p0 : Int32} {p1 : Int32} {E : String} {M' : me_M} (h : tX11_hit_0 M p0 p1 = some (E, M')) : me_Cx l yX11_hit cX11_hit 5 (some .int) 7 n nt (fun ad => [.ref (ad 0), .int p0, .int p1]) M E M' := by
  unfold tX11_hit_0 at h
  refine me_enterX (N0 := 63) RX11 rfl pl_RX11 hn (Nat.le_trans (by decide) hnt) (fun _ => Nat.le_of_ble_eq_true rfl) ?_
  intro p e R s m args below meth c D cA ad tys A X hr hlk hz htab hRc hRs
  refine me_sub (L' := [(0, .ref (ad 0)), (1, .int p0), (2, .int p1)]) [0, 1, 2] rfl ?_
  refine me_aload_n X (i := 0) 0 rfl dX11_hit_0 ?_
  refine me_iload_n X (i := 1) 1 rfl dX11_hit_1 ?_
  obtain ⟨v1, e1, h⟩ := me_bd h
  refine me_callVi X [.int p0] (ctX11_placeOfHit_0 hn (Nat.le_trans (by decide) hnt) e1) kV_X11_244 rfl rfl (Nat.le_of_ble_eq_true rfl) me_k0 (Nat.le_of_ble_eq_true rfl) (Nat.le_refl _) (Nat.le_of_ble_eq_true rfl) dX11_hit_2 ?_
  refine me_istore_n X (i := 3) [(3, .int v1), (0, .ref (ad 0)), (1, .int p0), (2, .int p1)] (Nat.le_of_ble_eq_true rfl) rfl dX11_hit_5 ?_
  refine me_aload_n X (i := 0) 1 rfl dX11_hit_6 ?_
  refine me_iload_n X (i := 3) 0 rfl dX11_hit_7 ?_
  refine me_iconst X dX11_hit_8 ic_m1 ?_
  have hj17_1 : ∀ (s1 : Int32), tX11_hit_0_J17 p1 v1 M s1 = some (E, M') → me_W p l e R s m args below meth c 0 0 (vx_MQ below me_QF (me_XC D cA ad n A E M') args s 1 6 A) D cA ad n 5 A 17 [(0, .ref (ad 0)), (2, .int p1), (3, .int v1)] [.int s1, .ref (ad 0)] M := by
    intro s1 h
    unfold tX11_hit_0_J17 at h
    by_cases c2 : s1 = 0
    · have h := me_ip c2 h
      obtain ⟨rfl, rfl⟩ := me_sp h
      exact me_callX X hz htab hlk hRc hRs [.int s1] (ctT_needElement hl hn (Nat.le_trans (by decide) hnt) c2) kV_X11_206 rfl rfl (Nat.le_of_ble_eq_true rfl) me_k0 (Nat.le_of_ble_eq_true rfl) (Nat.le_refl _) (Nat.le_of_ble_eq_true rfl) dX11_hit_17 tw_895
    · have h := me_in c2 h
      refine me_callVv X [.int s1] (ctX11_needElement_0 hn (Nat.le_trans (by decide) hnt) (by unfold mX11_needElement_0; rw [if_neg c2])) kV_X11_206 rfl rfl (Nat.le_of_ble_eq_true rfl) me_k0 (Nat.le_of_ble_eq_true rfl) (Nat.le_refl _) (Nat.le_of_ble_eq_true rfl) dX11_hit_17 ?_
      refine me_aload_n X (i := 0) 0 rfl dX11_hit_20 ?_
      refine me_iload_n X (i := 2) 1 rfl dX11_hit_21 ?_
      refine me_iconst X dX11_hit_22 ic_2 ?_
      obtain ⟨v2, e2, h⟩ := me_bd h
      refine me_callSi X [.int p1, .int 2] (ctX11_isWhat hn (Nat.le_trans (by decide) hnt) e2) kS_X11_157 rfl rfl (Nat.le_of_ble_eq_true rfl) (Nat.le_refl _) (Nat.le_of_ble_eq_true rfl) dX11_hit_23 ?_
      by_cases c3 : v2 = 0
      · have h := me_ip c3 h
        obtain ⟨rfl, rfl⟩ := me_sp h
        exact me_callX X hz htab hlk hRc hRs [.int v2] (ctT_needArgument hl hn (Nat.le_trans (by decide) hnt) c3) kV_X11_122 rfl rfl (Nat.le_of_ble_eq_true rfl) me_k0 (Nat.le_of_ble_eq_true rfl) (Nat.le_refl _) (Nat.le_of_ble_eq_true rfl) dX11_hit_26 tw_654
      · have h := me_in c3 h
        cases h
  refine me_icmp_eq X 16 (by decide) dX11_hit_9 (fun c1 => ?_) (fun c1 => ?_)
  · have h := me_ip c1 h
    refine me_iconst X dX11_hit_16 ic_0 ?_
    refine me_sub (L' := [(0, .ref (ad 0)), (2, .int p1), (3, .int v1)]) [1, 3, 0] rfl ?_
    exact hj17_1 0 h
  · have h := me_in c1 h
    refine me_iconst X dX11_hit_12 ic_1 ?_
    refine me_goto X 17 (by decide) dX11_hit_13 ?_
    refine me_sub (L' := [(0, .ref (ad 0)), (2, .int p1), (3, .int v1)]) [1, 3, 0] rfl ?_
    exact hj17_1 1 h
def tX11_hits_0 (M : me_M) (p0 : Int32) : Option (String × me_M) :=
  ((mX11_isWhat p0 3).bind fun v1 => (if v1 = 0 then some (xA, (me_s M 0 14 (M.1 0 14 + 1))) else none))
set_option maxRecDepth 100000 in
set_option maxHeartbeats 4000000 in
theorem ctTX11_hits_0 {l : Launch} (hl : l.stackTraces = false) {n nt : Nat} (hn : 63 ≤ n) (hnt : 1 ≤ nt) {M : me_M} {p0 : Int32} {E : String} {M' : me_M} (h : tX11_hits_0 M p0 = some (E, M')) : me_Cx l yX11_hits cX11_hits 2 (some .int) 7 n nt (fun ad => [.ref (ad 0), .int p0]) M E M' := by
  unfold tX11_hits_0 at h
  refine me_enterX (N0 := 63) RX11 rfl pl_RX11 hn (Nat.le_trans (by decide) hnt) (fun _ => Nat.le_of_ble_eq_true rfl) ?_
  intro p e R s m args below meth c D cA ad tys A X hr hlk hz htab hRc hRs
  refine me_sub (L' := [(0, .ref (ad 0)), (1, .int p0)]) [0, 1] rfl ?_
  refine me_aload_n X (i := 0) 0 rfl dX11_hits_0 ?_
  refine me_iload_n X (i := 1) 1 rfl dX11_hits_1 ?_
  refine me_iconst X dX11_hits_2 ic_3 ?_
  obtain ⟨v1, e1, h⟩ := me_bd h
  refine me_callSi X [.int p0, .int 3] (ctX11_isWhat hn (Nat.le_trans (by decide) hnt) e1) kS_X11_157 rfl rfl (Nat.le_of_ble_eq_true rfl) (Nat.le_refl _) (Nat.le_of_ble_eq_true rfl) dX11_hits_3 ?_
  by_cases c1 : v1 = 0
  · have h := me_ip c1 h
    obtain ⟨rfl, rfl⟩ := me_sp h
    exact me_callX X hz htab hlk hRc hRs [.int v1] (ctT_needArgument hl hn (Nat.le_trans (by decide) hnt) c1) kV_X11_122 rfl rfl (Nat.le_of_ble_eq_true rfl) me_k0 (Nat.le_of_ble_eq_true rfl) (Nat.le_refl _) (Nat.le_of_ble_eq_true rfl) dX11_hits_6 tw_654
  · have h := me_in c1 h
    cases h
def tX11_often_0_J28 (p0 : Int32) (M : me_M) (s1 : Int32) : Option (String × me_M) :=
  (if s1 = 0 then some (xA, (me_s M 0 14 (M.1 0 14 + 1))) else none)
def tX11_often_0_J27 (p0 : Int32) (M : me_M)  : Option (String × me_M) :=
  (tX11_often_0_J28 p0 M 0)
def tX11_often_0 (M : me_M) (p0 : Int32) : Option (String × me_M) :=
  ((mX9_holds_1 M p0).bind fun v1 => (if v1 = 0 then (tX11_often_0_J27 p0 M ) else ((mX9_lettersAlone_1 M p0).bind fun v2 => (if v2 = 0 then (tX11_often_0_J27 p0 M ) else (tX11_often_0_J28 p0 M 1)))))
set_option maxRecDepth 100000 in
set_option maxHeartbeats 4000000 in
theorem ctTX11_often_0 {l : Launch} (hl : l.stackTraces = false) {n nt : Nat} (hn : 63 ≤ n) (hnt : 1 ≤ nt) {M : me_M} {p0 : Int32} {E : String} {M' : me_M} (h : tX11_often_0 M p0 = some (E, M')) : me_Cx l yX11_often cX11_often 6 (some .int) 7 n nt (fun ad => [.ref (ad 0), .int p0]) M E M' := by
  unfold tX11_often_0 at h
  refine me_enterX (N0 := 63) RX11 rfl pl_RX11 hn (Nat.le_trans (by decide) hnt) (fun _ => Nat.le_of_ble_eq_true rfl) ?_
  intro p e R s m args below meth c D cA ad tys A X hr hlk hz htab hRc hRs
  refine me_sub (L' := [(0, .ref (ad 0)), (1, .int p0)]) [0, 1] rfl ?_
  refine me_aload_n X (i := 0) 0 rfl dX11_often_0 ?_
  refine me_aload_n X (i := 0) 0 rfl dX11_often_1 ?_
  refine me_getr X 1 kF_X11_10 (Nat.le_of_ble_eq_true rfl) me_k0 me_f0_0 dX11_often_2 ?_
  refine me_iload_n X (i := 1) 1 rfl dX11_often_5 ?_
  obtain ⟨v1, e1, h⟩ := me_bd h
  refine me_callVi X [.int p0] (ctX9_holds_1 hn (Nat.le_trans (by decide) hnt) e1) kV_X11_118 rfl rfl (Nat.le_of_ble_eq_true rfl) me_k1 (Nat.le_of_ble_eq_true rfl) (Nat.le_refl _) (Nat.le_of_ble_eq_true rfl) dX11_often_6 ?_
  have hj28_2 : ∀ (s1 : Int32), tX11_often_0_J28 p0 M s1 = some (E, M') → me_W p l e R s m args below meth c 0 0 (vx_MQ below me_QF (me_XC D cA ad n A E M') args s 1 6 A) D cA ad n 6 A 28 [(0, .ref (ad 0)), (1, .int p0)] [.int s1, .ref (ad 0)] M := by
    intro s1 h
    unfold tX11_often_0_J28 at h
    by_cases c3 : s1 = 0
    · have h := me_ip c3 h
      obtain ⟨rfl, rfl⟩ := me_sp h
      exact me_callX X hz htab hlk hRc hRs [.int s1] (ctT_needArgument hl hn (Nat.le_trans (by decide) hnt) c3) kV_X11_122 rfl rfl (Nat.le_of_ble_eq_true rfl) me_k0 (Nat.le_of_ble_eq_true rfl) (Nat.le_refl _) (Nat.le_of_ble_eq_true rfl) dX11_often_28 tw_654
    · have h := me_in c3 h
      cases h
  have hj27_1 : tX11_often_0_J27 p0 M  = some (E, M') → me_W p l e R s m args below meth c 0 0 (vx_MQ below me_QF (me_XC D cA ad n A E M') args s 1 6 A) D cA ad n 6 A 27 [(0, .ref (ad 0)), (1, .int p0)] [.ref (ad 0)] M := by
    intro h
    unfold tX11_often_0_J27 at h
    refine me_iconst X dX11_often_27 ic_0 ?_
    exact hj28_2 0 h
  refine me_if_eq X 27 (by decide) dX11_often_9 (fun c1 => ?_) (fun c1 => ?_)
  · have h := me_ip c1 h
    exact hj27_1  h
  · have h := me_in c1 h
    refine me_aload_n X (i := 0) 0 rfl dX11_often_12 ?_
    refine me_getr X 1 kF_X11_10 (Nat.le_of_ble_eq_true rfl) me_k0 me_f0_0 dX11_often_13 ?_
    refine me_iload_n X (i := 1) 1 rfl dX11_often_16 ?_
    obtain ⟨v2, e2, h⟩ := me_bd h
    refine me_callVi X [.int p0] (ctX9_lettersAlone_1 hn (Nat.le_trans (by decide) hnt) e2) kV_X11_259 rfl rfl (Nat.le_of_ble_eq_true rfl) me_k1 (Nat.le_of_ble_eq_true rfl) (Nat.le_refl _) (Nat.le_of_ble_eq_true rfl) dX11_often_17 ?_
    refine me_if_eq X 27 (by decide) dX11_often_20 (fun c2 => ?_) (fun c2 => ?_)
    · have h := me_ip c2 h
      exact hj27_1  h
    · have h := me_in c2 h
      refine me_iconst X dX11_often_23 ic_1 ?_
      refine me_goto X 28 (by decide) dX11_often_24 ?_
      exact hj28_2 1 h
def tX11_shares_0 (M : me_M) (p0 : Int32) : Option (String × me_M) :=
  ((mX11_isWhat p0 2).bind fun v1 => (if v1 = 0 then some (xA, (me_s M 0 14 (M.1 0 14 + 1))) else none))
set_option maxRecDepth 100000 in
set_option maxHeartbeats 4000000 in
theorem ctTX11_shares_0 {l : Launch} (hl : l.stackTraces = false) {n nt : Nat} (hn : 63 ≤ n) (hnt : 1 ≤ nt) {M : me_M} {p0 : Int32} {E : String} {M' : me_M} (h : tX11_shares_0 M p0 = some (E, M')) : me_Cx l yX11_shares cX11_shares 2 (some .int) 7 n nt (fun ad => [.ref (ad 0), .int p0]) M E M' := by
  unfold tX11_shares_0 at h
  refine me_enterX (N0 := 63) RX11 rfl pl_RX11 hn (Nat.le_trans (by decide) hnt) (fun _ => Nat.le_of_ble_eq_true rfl) ?_
  intro p e R s m args below meth c D cA ad tys A X hr hlk hz htab hRc hRs
  refine me_sub (L' := [(0, .ref (ad 0)), (1, .int p0)]) [0, 1] rfl ?_
  refine me_aload_n X (i := 0) 0 rfl dX11_shares_0 ?_
  refine me_iload_n X (i := 1) 1 rfl dX11_shares_1 ?_
  refine me_iconst X dX11_shares_2 ic_2 ?_
  obtain ⟨v1, e1, h⟩ := me_bd h
  refine me_callSi X [.int p0, .int 2] (ctX11_isWhat hn (Nat.le_trans (by decide) hnt) e1) kS_X11_157 rfl rfl (Nat.le_of_ble_eq_true rfl) (Nat.le_refl _) (Nat.le_of_ble_eq_true rfl) dX11_shares_3 ?_
  by_cases c1 : v1 = 0
  · have h := me_ip c1 h
    obtain ⟨rfl, rfl⟩ := me_sp h
    exact me_callX X hz htab hlk hRc hRs [.int v1] (ctT_needArgument hl hn (Nat.le_trans (by decide) hnt) c1) kV_X11_122 rfl rfl (Nat.le_of_ble_eq_true rfl) me_k0 (Nat.le_of_ble_eq_true rfl) (Nat.le_refl _) (Nat.le_of_ble_eq_true rfl) dX11_shares_6 tw_654
  · have h := me_in c1 h
    cases h
def tX11_digit_0_J29 (p0 : Int32) (p1 : Int32) (p2 : Int32) (M : me_M) (s1 : Int32) : Option (String × me_M) :=
  (if s1 = 0 then some (xN, (me_s M 0 13 (M.1 0 13 + 1))) else ((mX11_isWhat p2 2).bind fun v2 => (if v2 = 0 then some (xA, (me_s M 0 14 (M.1 0 14 + 1))) else none)))
def tX11_digit_0_J28 (p0 : Int32) (p1 : Int32) (p2 : Int32) (M : me_M)  : Option (String × me_M) :=
  (tX11_digit_0_J29 p0 p1 p2 M 0)
def tX11_digit_0 (M : me_M) (p0 : Int32) (p1 : Int32) (p2 : Int32) : Option (String × me_M) :=
  ((mX11_isSearch_0 M p0).bind fun v1 => (if v1 = 0 then (tX11_digit_0_J28 p0 p1 p2 M ) else (if p1 < 0 then (tX11_digit_0_J28 p0 p1 p2 M ) else (if M.2.1 0 = 53 then (if (M.1 53 5) ≤ p1 then (tX11_digit_0_J28 p0 p1 p2 M ) else (tX11_digit_0_J29 p0 p1 p2 M 1)) else if M.2.1 0 = 58 then (if (M.1 58 5) ≤ p1 then (tX11_digit_0_J28 p0 p1 p2 M ) else (tX11_digit_0_J29 p0 p1 p2 M 1)) else none))))
set_option maxRecDepth 100000 in
set_option maxHeartbeats 4000000 in
theorem ctTX11_digit_0 {l : Launch} (hl : l.stackTraces = false) {n nt : Nat} (hn : 63 ≤ n) (hnt : 1 ≤ nt) {M : me_M} {p0 : Int32} {p1 : Int32} {p2 : Int32} {E : String} {M' : me_M} (h : tX11_digit_0 M p0 p1 p2 = some (E, M')) : me_Cx l yX11_digit cX11_digit 5 (some .int) 7 n nt (fun ad => [.ref (ad 0), .int p0, .int p1, .int p2]) M E M' := by
  unfold tX11_digit_0 at h
  refine me_enterX (N0 := 63) RX11 rfl pl_RX11 hn (Nat.le_trans (by decide) hnt) (fun _ => Nat.le_of_ble_eq_true rfl) ?_
  intro p e R s m args below meth c D cA ad tys A X hr hlk hz htab hRc hRs
  refine me_sub (L' := [(0, .ref (ad 0)), (1, .int p0), (2, .int p1), (3, .int p2)]) [0, 1, 2, 3] rfl ?_
  refine me_aload_n X (i := 0) 0 rfl dX11_digit_0 ?_
  refine me_aload_n X (i := 0) 0 rfl dX11_digit_1 ?_
  refine me_iload_n X (i := 1) 1 rfl dX11_digit_2 ?_
  obtain ⟨v1, e1, h⟩ := me_bd h
  refine me_callVi X [.int p0] (ctX11_isSearch_0 hn (Nat.le_trans (by decide) hnt) e1) kV_X11_281 rfl rfl (Nat.le_of_ble_eq_true rfl) me_k0 (Nat.le_of_ble_eq_true rfl) (Nat.le_refl _) (Nat.le_of_ble_eq_true rfl) dX11_digit_3 ?_
  have hj29_2 : ∀ (s1 : Int32), tX11_digit_0_J29 p0 p1 p2 M s1 = some (E, M') → me_W p l e R s m args below meth c 0 0 (vx_MQ below me_QF (me_XC D cA ad n A E M') args s 1 6 A) D cA ad n 5 A 29 [(0, .ref (ad 0)), (1, .int p0), (2, .int p1), (3, .int p2)] [.int s1, .ref (ad 0)] M := by
    intro s1 h
    unfold tX11_digit_0_J29 at h
    by_cases c6 : s1 = 0
    · have h := me_ip c6 h
      obtain ⟨rfl, rfl⟩ := me_sp h
      exact me_callX X hz htab hlk hRc hRs [.int s1] (ctT_needElement hl hn (Nat.le_trans (by decide) hnt) c6) kV_X11_206 rfl rfl (Nat.le_of_ble_eq_true rfl) me_k0 (Nat.le_of_ble_eq_true rfl) (Nat.le_refl _) (Nat.le_of_ble_eq_true rfl) dX11_digit_29 tw_895
    · have h := me_in c6 h
      refine me_callVv X [.int s1] (ctX11_needElement_0 hn (Nat.le_trans (by decide) hnt) (by unfold mX11_needElement_0; rw [if_neg c6])) kV_X11_206 rfl rfl (Nat.le_of_ble_eq_true rfl) me_k0 (Nat.le_of_ble_eq_true rfl) (Nat.le_refl _) (Nat.le_of_ble_eq_true rfl) dX11_digit_29 ?_
      refine me_aload_n X (i := 0) 0 rfl dX11_digit_32 ?_
      refine me_iload_n X (i := 3) 3 rfl dX11_digit_33 ?_
      refine me_iconst X dX11_digit_34 ic_2 ?_
      obtain ⟨v2, e2, h⟩ := me_bd h
      refine me_callSi X [.int p2, .int 2] (ctX11_isWhat hn (Nat.le_trans (by decide) hnt) e2) kS_X11_157 rfl rfl (Nat.le_of_ble_eq_true rfl) (Nat.le_refl _) (Nat.le_of_ble_eq_true rfl) dX11_digit_35 ?_
      by_cases c7 : v2 = 0
      · have h := me_ip c7 h
        obtain ⟨rfl, rfl⟩ := me_sp h
        exact me_callX X hz htab hlk hRc hRs [.int v2] (ctT_needArgument hl hn (Nat.le_trans (by decide) hnt) c7) kV_X11_122 rfl rfl (Nat.le_of_ble_eq_true rfl) me_k0 (Nat.le_of_ble_eq_true rfl) (Nat.le_refl _) (Nat.le_of_ble_eq_true rfl) dX11_digit_38 tw_654
      · have h := me_in c7 h
        cases h
  have hj28_1 : tX11_digit_0_J28 p0 p1 p2 M  = some (E, M') → me_W p l e R s m args below meth c 0 0 (vx_MQ below me_QF (me_XC D cA ad n A E M') args s 1 6 A) D cA ad n 5 A 28 [(0, .ref (ad 0)), (1, .int p0), (2, .int p1), (3, .int p2)] [.ref (ad 0)] M := by
    intro h
    unfold tX11_digit_0_J28 at h
    refine me_iconst X dX11_digit_28 ic_0 ?_
    exact hj29_2 0 h
  refine me_if_eq X 28 (by decide) dX11_digit_6 (fun c1 => ?_) (fun c1 => ?_)
  · have h := me_ip c1 h
    exact hj28_1  h
  · have h := me_in c1 h
    refine me_iload_n X (i := 2) 2 rfl dX11_digit_9 ?_
    refine me_if_lt X 28 (by decide) dX11_digit_10 (fun c2 => ?_) (fun c2 => ?_)
    · have h := me_ip c2 h
      exact hj28_1  h
    · have h := me_in c2 h
      refine me_iload_n X (i := 2) 2 rfl dX11_digit_13 ?_
      refine me_aload_n X (i := 0) 0 rfl dX11_digit_14 ?_
      by_cases c3 : M.2.1 0 = 53
      · have h := me_ip c3 h
        refine me_getd0 X c3 kF_X11_97 (Nat.le_of_ble_eq_true rfl) me_k0 me_f0_10 dX11_digit_15 ?_
        refine me_geti X kF_X11_196 (Nat.le_of_ble_eq_true rfl) me_k53 me_f53_5 dX11_digit_18 ?_
        refine me_icmp_ge X 28 (by decide) dX11_digit_21 (fun c4 => ?_) (fun c4 => ?_)
        · have h := me_ip c4 h
          exact hj28_1  h
        · have h := me_in c4 h
          refine me_iconst X dX11_digit_24 ic_1 ?_
          refine me_goto X 29 (by decide) dX11_digit_25 ?_
          exact hj29_2 1 h
      · have h := me_in c3 h
        by_cases c3b : M.2.1 0 = 58
        · have h := me_ip c3b h
          refine me_getd0 X c3b kF_X11_97 (Nat.le_of_ble_eq_true rfl) me_k0 me_f0_10 dX11_digit_15 ?_
          refine me_geti X kF_X11_196 (Nat.le_of_ble_eq_true rfl) me_k58 me_f58_5 dX11_digit_18 ?_
          refine me_icmp_ge X 28 (by decide) dX11_digit_21 (fun c5 => ?_) (fun c5 => ?_)
          · have h := me_ip c5 h
            exact hj28_1  h
          · have h := me_in c5 h
            refine me_iconst X dX11_digit_24 ic_1 ?_
            refine me_goto X 29 (by decide) dX11_digit_25 ?_
            exact hj29_2 1 h
        · have h := me_in c3b h
          cases h
def tX11_search_0_J45 (p0 : Int32) (M : me_M) (s1 : Int32) : Option (String × me_M) :=
  (if s1 = 0 then some (xA, (me_s M 0 14 (M.1 0 14 + 1))) else none)
def tX11_search_0_J44 (p0 : Int32) (M : me_M)  : Option (String × me_M) :=
  (tX11_search_0_J45 p0 M 0)
def tX11_search_0 (M : me_M) (p0 : Int32) : Option (String × me_M) :=
  ((mX9_holds_1 M p0).bind fun v1 => (if v1 = 0 then (tX11_search_0_J44 p0 M ) else (if M.2.1 0 = 53 then (if p0 < (M.1 53 5) then (tX11_search_0_J44 p0 M ) else (if 24 < p0 then (tX11_search_0_J44 p0 M ) else ((mX9_lettersAlone_1 M p0).bind fun v2 => (if v2 = 0 then (tX11_search_0_J44 p0 M ) else (tX11_search_0_J45 p0 M 1))))) else if M.2.1 0 = 58 then (if p0 < (M.1 58 5) then (tX11_search_0_J44 p0 M ) else (if 24 < p0 then (tX11_search_0_J44 p0 M ) else ((mX9_lettersAlone_1 M p0).bind fun v3 => (if v3 = 0 then (tX11_search_0_J44 p0 M ) else (tX11_search_0_J45 p0 M 1))))) else none)))
set_option maxRecDepth 100000 in
set_option maxHeartbeats 4000000 in
theorem ctTX11_search_0 {l : Launch} (hl : l.stackTraces = false) {n nt : Nat} (hn : 63 ≤ n) (hnt : 1 ≤ nt) {M : me_M} {p0 : Int32} {E : String} {M' : me_M} (h : tX11_search_0 M p0 = some (E, M')) : me_Cx l yX11_search cX11_search 3 (some .int) 7 n nt (fun ad => [.ref (ad 0), .int p0]) M E M' := by
  unfold tX11_search_0 at h
  refine me_enterX (N0 := 63) RX11 rfl pl_RX11 hn (Nat.le_trans (by decide) hnt) (fun _ => Nat.le_of_ble_eq_true rfl) ?_
  intro p e R s m args below meth c D cA ad tys A X hr hlk hz htab hRc hRs
  refine me_sub (L' := [(0, .ref (ad 0)), (1, .int p0)]) [0, 1] rfl ?_
  refine me_aload_n X (i := 0) 0 rfl dX11_search_0 ?_
  refine me_aload_n X (i := 0) 0 rfl dX11_search_1 ?_
  refine me_getr X 1 kF_X11_10 (Nat.le_of_ble_eq_true rfl) me_k0 me_f0_0 dX11_search_2 ?_
  refine me_iload_n X (i := 1) 1 rfl dX11_search_5 ?_
  obtain ⟨v1, e1, h⟩ := me_bd h
  refine me_callVi X [.int p0] (ctX9_holds_1 hn (Nat.le_trans (by decide) hnt) e1) kV_X11_118 rfl rfl (Nat.le_of_ble_eq_true rfl) me_k1 (Nat.le_of_ble_eq_true rfl) (Nat.le_refl _) (Nat.le_of_ble_eq_true rfl) dX11_search_6 ?_
  have hj45_2 : ∀ (s1 : Int32), tX11_search_0_J45 p0 M s1 = some (E, M') → me_W p l e R s m args below meth c 0 0 (vx_MQ below me_QF (me_XC D cA ad n A E M') args s 1 6 A) D cA ad n 3 A 45 [(0, .ref (ad 0)), (1, .int p0)] [.int s1, .ref (ad 0)] M := by
    intro s1 h
    unfold tX11_search_0_J45 at h
    by_cases c9 : s1 = 0
    · have h := me_ip c9 h
      obtain ⟨rfl, rfl⟩ := me_sp h
      exact me_callX X hz htab hlk hRc hRs [.int s1] (ctT_needArgument hl hn (Nat.le_trans (by decide) hnt) c9) kV_X11_122 rfl rfl (Nat.le_of_ble_eq_true rfl) me_k0 (Nat.le_of_ble_eq_true rfl) (Nat.le_refl _) (Nat.le_of_ble_eq_true rfl) dX11_search_45 tw_654
    · have h := me_in c9 h
      cases h
  have hj44_1 : tX11_search_0_J44 p0 M  = some (E, M') → me_W p l e R s m args below meth c 0 0 (vx_MQ below me_QF (me_XC D cA ad n A E M') args s 1 6 A) D cA ad n 3 A 44 [(0, .ref (ad 0)), (1, .int p0)] [.ref (ad 0)] M := by
    intro h
    unfold tX11_search_0_J44 at h
    refine me_iconst X dX11_search_44 ic_0 ?_
    exact hj45_2 0 h
  refine me_if_eq X 44 (by decide) dX11_search_9 (fun c1 => ?_) (fun c1 => ?_)
  · have h := me_ip c1 h
    exact hj44_1  h
  · have h := me_in c1 h
    refine me_iload_n X (i := 1) 1 rfl dX11_search_12 ?_
    refine me_aload_n X (i := 0) 0 rfl dX11_search_13 ?_
    by_cases c2 : M.2.1 0 = 53
    · have h := me_ip c2 h
      refine me_getd0 X c2 kF_X11_97 (Nat.le_of_ble_eq_true rfl) me_k0 me_f0_10 dX11_search_14 ?_
      refine me_geti X kF_X11_196 (Nat.le_of_ble_eq_true rfl) me_k53 me_f53_5 dX11_search_17 ?_
      refine me_icmp_lt X 44 (by decide) dX11_search_20 (fun c3 => ?_) (fun c3 => ?_)
      · have h := me_ip c3 h
        exact hj44_1  h
      · have h := me_in c3 h
        refine me_iload_n X (i := 1) 1 rfl dX11_search_23 ?_
        refine me_bipush X dX11_search_24 ib_24 ?_
        refine me_icmp_gt X 44 (by decide) dX11_search_26 (fun c4 => ?_) (fun c4 => ?_)
        · have h := me_ip c4 h
          exact hj44_1  h
        · have h := me_in c4 h
          refine me_aload_n X (i := 0) 0 rfl dX11_search_29 ?_
          refine me_getr X 1 kF_X11_10 (Nat.le_of_ble_eq_true rfl) me_k0 me_f0_0 dX11_search_30 ?_
          refine me_iload_n X (i := 1) 1 rfl dX11_search_33 ?_
          obtain ⟨v2, e2, h⟩ := me_bd h
          refine me_callVi X [.int p0] (ctX9_lettersAlone_1 hn (Nat.le_trans (by decide) hnt) e2) kV_X11_259 rfl rfl (Nat.le_of_ble_eq_true rfl) me_k1 (Nat.le_of_ble_eq_true rfl) (Nat.le_refl _) (Nat.le_of_ble_eq_true rfl) dX11_search_34 ?_
          refine me_if_eq X 44 (by decide) dX11_search_37 (fun c5 => ?_) (fun c5 => ?_)
          · have h := me_ip c5 h
            exact hj44_1  h
          · have h := me_in c5 h
            refine me_iconst X dX11_search_40 ic_1 ?_
            refine me_goto X 45 (by decide) dX11_search_41 ?_
            exact hj45_2 1 h
    · have h := me_in c2 h
      by_cases c2b : M.2.1 0 = 58
      · have h := me_ip c2b h
        refine me_getd0 X c2b kF_X11_97 (Nat.le_of_ble_eq_true rfl) me_k0 me_f0_10 dX11_search_14 ?_
        refine me_geti X kF_X11_196 (Nat.le_of_ble_eq_true rfl) me_k58 me_f58_5 dX11_search_17 ?_
        refine me_icmp_lt X 44 (by decide) dX11_search_20 (fun c6 => ?_) (fun c6 => ?_)
        · have h := me_ip c6 h
          exact hj44_1  h
        · have h := me_in c6 h
          refine me_iload_n X (i := 1) 1 rfl dX11_search_23 ?_
          refine me_bipush X dX11_search_24 ib_24 ?_
          refine me_icmp_gt X 44 (by decide) dX11_search_26 (fun c7 => ?_) (fun c7 => ?_)
          · have h := me_ip c7 h
            exact hj44_1  h
          · have h := me_in c7 h
            refine me_aload_n X (i := 0) 0 rfl dX11_search_29 ?_
            refine me_getr X 1 kF_X11_10 (Nat.le_of_ble_eq_true rfl) me_k0 me_f0_0 dX11_search_30 ?_
            refine me_iload_n X (i := 1) 1 rfl dX11_search_33 ?_
            obtain ⟨v3, e3, h⟩ := me_bd h
            refine me_callVi X [.int p0] (ctX9_lettersAlone_1 hn (Nat.le_trans (by decide) hnt) e3) kV_X11_259 rfl rfl (Nat.le_of_ble_eq_true rfl) me_k1 (Nat.le_of_ble_eq_true rfl) (Nat.le_refl _) (Nat.le_of_ble_eq_true rfl) dX11_search_34 ?_
            refine me_if_eq X 44 (by decide) dX11_search_37 (fun c8 => ?_) (fun c8 => ?_)
            · have h := me_ip c8 h
              exact hj44_1  h
            · have h := me_in c8 h
              refine me_iconst X dX11_search_40 ic_1 ?_
              refine me_goto X 45 (by decide) dX11_search_41 ?_
              exact hj45_2 1 h
      · have h := me_in c2b h
        cases h
def tX11_found_0_J31 (p0 : Int32) (p1 : Int32) (M : me_M) (s1 : Int32) : Option (String × me_M) :=
  (if s1 = 0 then some (xN, (me_s M 0 13 (M.1 0 13 + 1))) else ((mX11_isWhat p1 3).bind fun v1 => (if v1 = 0 then some (xA, (me_s M 0 14 (M.1 0 14 + 1))) else none)))
def tX11_found_0_J30 (p0 : Int32) (p1 : Int32) (M : me_M)  : Option (String × me_M) :=
  (tX11_found_0_J31 p0 p1 M 0)
def tX11_found_0 (M : me_M) (p0 : Int32) (p1 : Int32) : Option (String × me_M) :=
  (if (M.1 47 4) = 0 then (tX11_found_0_J30 p0 p1 M ) else (if p0 < 0 then (tX11_found_0_J30 p0 p1 M ) else (if (M.1 47 6) ≤ p0 then (tX11_found_0_J30 p0 p1 M ) else (tX11_found_0_J31 p0 p1 M 1))))
set_option maxRecDepth 100000 in
set_option maxHeartbeats 4000000 in
theorem ctTX11_found_0 {l : Launch} (hl : l.stackTraces = false) {n nt : Nat} (hn : 63 ≤ n) (hnt : 1 ≤ nt) {M : me_M} {p0 : Int32} {p1 : Int32} {E : String} {M' : me_M} (h : tX11_found_0 M p0 p1 = some (E, M')) : me_Cx l yX11_found cX11_found 3 (some .int) 7 n nt (fun ad => [.ref (ad 0), .int p0, .int p1]) M E M' := by
  unfold tX11_found_0 at h
  refine me_enterX (N0 := 63) RX11 rfl pl_RX11 hn (Nat.le_trans (by decide) hnt) (fun _ => Nat.le_of_ble_eq_true rfl) ?_
  intro p e R s m args below meth c D cA ad tys A X hr hlk hz htab hRc hRs
  refine me_sub (L' := [(0, .ref (ad 0)), (1, .int p0), (2, .int p1)]) [0, 1, 2] rfl ?_
  refine me_aload_n X (i := 0) 0 rfl dX11_found_0 ?_
  refine me_aload_n X (i := 0) 0 rfl dX11_found_1 ?_
  refine me_getr X 47 kF_X11_81 (Nat.le_of_ble_eq_true rfl) me_k0 me_f0_8 dX11_found_2 ?_
  refine me_geti X kF_X11_134 (Nat.le_of_ble_eq_true rfl) me_k47 me_f47_4 dX11_found_5 ?_
  have hj31_2 : ∀ (s1 : Int32), tX11_found_0_J31 p0 p1 M s1 = some (E, M') → me_W p l e R s m args below meth c 0 0 (vx_MQ below me_QF (me_XC D cA ad n A E M') args s 1 6 A) D cA ad n 3 A 31 [(0, .ref (ad 0)), (1, .int p0), (2, .int p1)] [.int s1, .ref (ad 0)] M := by
    intro s1 h
    unfold tX11_found_0_J31 at h
    by_cases c4 : s1 = 0
    · have h := me_ip c4 h
      obtain ⟨rfl, rfl⟩ := me_sp h
      exact me_callX X hz htab hlk hRc hRs [.int s1] (ctT_needElement hl hn (Nat.le_trans (by decide) hnt) c4) kV_X11_206 rfl rfl (Nat.le_of_ble_eq_true rfl) me_k0 (Nat.le_of_ble_eq_true rfl) (Nat.le_refl _) (Nat.le_of_ble_eq_true rfl) dX11_found_31 tw_895
    · have h := me_in c4 h
      refine me_callVv X [.int s1] (ctX11_needElement_0 hn (Nat.le_trans (by decide) hnt) (by unfold mX11_needElement_0; rw [if_neg c4])) kV_X11_206 rfl rfl (Nat.le_of_ble_eq_true rfl) me_k0 (Nat.le_of_ble_eq_true rfl) (Nat.le_refl _) (Nat.le_of_ble_eq_true rfl) dX11_found_31 ?_
      refine me_aload_n X (i := 0) 0 rfl dX11_found_34 ?_
      refine me_iload_n X (i := 2) 2 rfl dX11_found_35 ?_
      refine me_iconst X dX11_found_36 ic_3 ?_
      obtain ⟨v1, e1, h⟩ := me_bd h
      refine me_callSi X [.int p1, .int 3] (ctX11_isWhat hn (Nat.le_trans (by decide) hnt) e1) kS_X11_157 rfl rfl (Nat.le_of_ble_eq_true rfl) (Nat.le_refl _) (Nat.le_of_ble_eq_true rfl) dX11_found_37 ?_
      by_cases c5 : v1 = 0
      · have h := me_ip c5 h
        obtain ⟨rfl, rfl⟩ := me_sp h
        exact me_callX X hz htab hlk hRc hRs [.int v1] (ctT_needArgument hl hn (Nat.le_trans (by decide) hnt) c5) kV_X11_122 rfl rfl (Nat.le_of_ble_eq_true rfl) me_k0 (Nat.le_of_ble_eq_true rfl) (Nat.le_refl _) (Nat.le_of_ble_eq_true rfl) dX11_found_40 tw_654
      · have h := me_in c5 h
        cases h
  have hj30_1 : tX11_found_0_J30 p0 p1 M  = some (E, M') → me_W p l e R s m args below meth c 0 0 (vx_MQ below me_QF (me_XC D cA ad n A E M') args s 1 6 A) D cA ad n 3 A 30 [(0, .ref (ad 0)), (1, .int p0), (2, .int p1)] [.ref (ad 0)] M := by
    intro h
    unfold tX11_found_0_J30 at h
    refine me_iconst X dX11_found_30 ic_0 ?_
    exact hj31_2 0 h
  refine me_if_eq X 30 (by decide) dX11_found_8 (fun c1 => ?_) (fun c1 => ?_)
  · have h := me_ip c1 h
    exact hj30_1  h
  · have h := me_in c1 h
    refine me_iload_n X (i := 1) 1 rfl dX11_found_11 ?_
    refine me_if_lt X 30 (by decide) dX11_found_12 (fun c2 => ?_) (fun c2 => ?_)
    · have h := me_ip c2 h
      exact hj30_1  h
    · have h := me_in c2 h
      refine me_iload_n X (i := 1) 1 rfl dX11_found_15 ?_
      refine me_aload_n X (i := 0) 0 rfl dX11_found_16 ?_
      refine me_getr X 47 kF_X11_81 (Nat.le_of_ble_eq_true rfl) me_k0 me_f0_8 dX11_found_17 ?_
      refine me_geti X kF_X11_202 (Nat.le_of_ble_eq_true rfl) me_k47 me_f47_6 dX11_found_20 ?_
      refine me_icmp_ge X 30 (by decide) dX11_found_23 (fun c3 => ?_) (fun c3 => ?_)
      · have h := me_ip c3 h
        exact hj30_1  h
      · have h := me_in c3 h
        refine me_iconst X dX11_found_26 ic_1 ?_
        refine me_goto X 31 (by decide) dX11_found_27 ?_
        exact hj31_2 1 h
def tX11_result_0 (M : me_M) (p0 : Int32) : Option (String × me_M) :=
  ((mX11_isWhat p0 4).bind fun v1 => (if v1 = 0 then some (xA, (me_s M 0 14 (M.1 0 14 + 1))) else none))
set_option maxRecDepth 100000 in
set_option maxHeartbeats 4000000 in
theorem ctTX11_result_0 {l : Launch} (hl : l.stackTraces = false) {n nt : Nat} (hn : 63 ≤ n) (hnt : 1 ≤ nt) {M : me_M} {p0 : Int32} {E : String} {M' : me_M} (h : tX11_result_0 M p0 = some (E, M')) : me_Cx l yX11_result cX11_result 2 (some .int) 7 n nt (fun ad => [.ref (ad 0), .int p0]) M E M' := by
  unfold tX11_result_0 at h
  refine me_enterX (N0 := 63) RX11 rfl pl_RX11 hn (Nat.le_trans (by decide) hnt) (fun _ => Nat.le_of_ble_eq_true rfl) ?_
  intro p e R s m args below meth c D cA ad tys A X hr hlk hz htab hRc hRs
  refine me_sub (L' := [(0, .ref (ad 0)), (1, .int p0)]) [0, 1] rfl ?_
  refine me_aload_n X (i := 0) 0 rfl dX11_result_0 ?_
  refine me_iload_n X (i := 1) 1 rfl dX11_result_1 ?_
  refine me_iconst X dX11_result_2 ic_4 ?_
  obtain ⟨v1, e1, h⟩ := me_bd h
  refine me_callSi X [.int p0, .int 4] (ctX11_isWhat hn (Nat.le_trans (by decide) hnt) e1) kS_X11_157 rfl rfl (Nat.le_of_ble_eq_true rfl) (Nat.le_refl _) (Nat.le_of_ble_eq_true rfl) dX11_result_3 ?_
  by_cases c1 : v1 = 0
  · have h := me_ip c1 h
    obtain ⟨rfl, rfl⟩ := me_sp h
    exact me_callX X hz htab hlk hRc hRs [.int v1] (ctT_needArgument hl hn (Nat.le_trans (by decide) hnt) c1) kV_X11_122 rfl rfl (Nat.le_of_ble_eq_true rfl) me_k0 (Nat.le_of_ble_eq_true rfl) (Nat.le_refl _) (Nat.le_of_ble_eq_true rfl) dX11_result_6 tw_654
  · have h := me_in c1 h
    cases h
def tX11_ran_0 (M : me_M) (p0 : Int32) (p1 : Int32) : Option (String × me_M) :=
  ((mX11_isSearch_0 M p0).bind fun v1 => (if v1 = 0 then some (xN, (me_s M 0 13 (M.1 0 13 + 1))) else ((mX11_isWhat p1 1).bind fun v2 => (if v2 = 0 then some (xA, (me_s M 0 14 (M.1 0 14 + 1))) else none))))
set_option maxRecDepth 100000 in
set_option maxHeartbeats 4000000 in
theorem ctTX11_ran_0 {l : Launch} (hl : l.stackTraces = false) {n nt : Nat} (hn : 63 ≤ n) (hnt : 1 ≤ nt) {M : me_M} {p0 : Int32} {p1 : Int32} {E : String} {M' : me_M} (h : tX11_ran_0 M p0 p1 = some (E, M')) : me_Cx l yX11_ran cX11_ran 3 (some .int) 7 n nt (fun ad => [.ref (ad 0), .int p0, .int p1]) M E M' := by
  unfold tX11_ran_0 at h
  refine me_enterX (N0 := 63) RX11 rfl pl_RX11 hn (Nat.le_trans (by decide) hnt) (fun _ => Nat.le_of_ble_eq_true rfl) ?_
  intro p e R s m args below meth c D cA ad tys A X hr hlk hz htab hRc hRs
  refine me_sub (L' := [(0, .ref (ad 0)), (1, .int p0), (2, .int p1)]) [0, 1, 2] rfl ?_
  refine me_aload_n X (i := 0) 0 rfl dX11_ran_0 ?_
  refine me_aload_n X (i := 0) 0 rfl dX11_ran_1 ?_
  refine me_iload_n X (i := 1) 1 rfl dX11_ran_2 ?_
  obtain ⟨v1, e1, h⟩ := me_bd h
  refine me_callVi X [.int p0] (ctX11_isSearch_0 hn (Nat.le_trans (by decide) hnt) e1) kV_X11_281 rfl rfl (Nat.le_of_ble_eq_true rfl) me_k0 (Nat.le_of_ble_eq_true rfl) (Nat.le_refl _) (Nat.le_of_ble_eq_true rfl) dX11_ran_3 ?_
  by_cases c1 : v1 = 0
  · have h := me_ip c1 h
    obtain ⟨rfl, rfl⟩ := me_sp h
    exact me_callX X hz htab hlk hRc hRs [.int v1] (ctT_needElement hl hn (Nat.le_trans (by decide) hnt) c1) kV_X11_206 rfl rfl (Nat.le_of_ble_eq_true rfl) me_k0 (Nat.le_of_ble_eq_true rfl) (Nat.le_refl _) (Nat.le_of_ble_eq_true rfl) dX11_ran_6 tw_895
  · have h := me_in c1 h
    refine me_callVv X [.int v1] (ctX11_needElement_0 hn (Nat.le_trans (by decide) hnt) (by unfold mX11_needElement_0; rw [if_neg c1])) kV_X11_206 rfl rfl (Nat.le_of_ble_eq_true rfl) me_k0 (Nat.le_of_ble_eq_true rfl) (Nat.le_refl _) (Nat.le_of_ble_eq_true rfl) dX11_ran_6 ?_
    refine me_aload_n X (i := 0) 0 rfl dX11_ran_9 ?_
    refine me_iload_n X (i := 2) 2 rfl dX11_ran_10 ?_
    refine me_iconst X dX11_ran_11 ic_1 ?_
    obtain ⟨v2, e2, h⟩ := me_bd h
    refine me_callSi X [.int p1, .int 1] (ctX11_isWhat hn (Nat.le_trans (by decide) hnt) e2) kS_X11_157 rfl rfl (Nat.le_of_ble_eq_true rfl) (Nat.le_refl _) (Nat.le_of_ble_eq_true rfl) dX11_ran_12 ?_
    by_cases c2 : v2 = 0
    · have h := me_ip c2 h
      obtain ⟨rfl, rfl⟩ := me_sp h
      exact me_callX X hz htab hlk hRc hRs [.int v2] (ctT_needArgument hl hn (Nat.le_trans (by decide) hnt) c2) kV_X11_122 rfl rfl (Nat.le_of_ble_eq_true rfl) me_k0 (Nat.le_of_ble_eq_true rfl) (Nat.le_refl _) (Nat.le_of_ble_eq_true rfl) dX11_ran_15 tw_654
    · have h := me_in c2 h
      cases h
def tX11_matches_0_J35 (p0 : Int32) (p1 : Int32) (M : me_M) (s1 : Int32) : Option (String × me_M) :=
  (if s1 = 0 then some (xA, (me_s M 0 14 (M.1 0 14 + 1))) else none)
def tX11_matches_0_J34 (p0 : Int32) (p1 : Int32) (M : me_M)  : Option (String × me_M) :=
  (tX11_matches_0_J35 p0 p1 M 0)
def tX11_matches_0 (M : me_M) (p0 : Int32) (p1 : Int32) : Option (String × me_M) :=
  ((mX9_holds_1 M p0).bind fun v1 => (if v1 = 0 then (tX11_matches_0_J34 p0 p1 M ) else ((mX11_isLength p1).bind fun v2 => (if v2 = 0 then (tX11_matches_0_J34 p0 p1 M ) else ((mX9_lettersAlone_1 M p0).bind fun v3 => (if v3 = 0 then (tX11_matches_0_J34 p0 p1 M ) else (tX11_matches_0_J35 p0 p1 M 1)))))))
set_option maxRecDepth 100000 in
set_option maxHeartbeats 4000000 in
theorem ctTX11_matches_0 {l : Launch} (hl : l.stackTraces = false) {n nt : Nat} (hn : 63 ≤ n) (hnt : 1 ≤ nt) {M : me_M} {p0 : Int32} {p1 : Int32} {E : String} {M' : me_M} (h : tX11_matches_0 M p0 p1 = some (E, M')) : me_Cx l yX11_matches cX11_matches 3 (some .int) 7 n nt (fun ad => [.ref (ad 0), .int p0, .int p1]) M E M' := by
  unfold tX11_matches_0 at h
  refine me_enterX (N0 := 63) RX11 rfl pl_RX11 hn (Nat.le_trans (by decide) hnt) (fun _ => Nat.le_of_ble_eq_true rfl) ?_
  intro p e R s m args below meth c D cA ad tys A X hr hlk hz htab hRc hRs
  refine me_sub (L' := [(0, .ref (ad 0)), (1, .int p0), (2, .int p1)]) [0, 1, 2] rfl ?_
  refine me_aload_n X (i := 0) 0 rfl dX11_matches_0 ?_
  refine me_aload_n X (i := 0) 0 rfl dX11_matches_1 ?_
  refine me_getr X 1 kF_X11_10 (Nat.le_of_ble_eq_true rfl) me_k0 me_f0_0 dX11_matches_2 ?_
  refine me_iload_n X (i := 1) 1 rfl dX11_matches_5 ?_
  obtain ⟨v1, e1, h⟩ := me_bd h
  refine me_callVi X [.int p0] (ctX9_holds_1 hn (Nat.le_trans (by decide) hnt) e1) kV_X11_118 rfl rfl (Nat.le_of_ble_eq_true rfl) me_k1 (Nat.le_of_ble_eq_true rfl) (Nat.le_refl _) (Nat.le_of_ble_eq_true rfl) dX11_matches_6 ?_
  have hj35_2 : ∀ (s1 : Int32), tX11_matches_0_J35 p0 p1 M s1 = some (E, M') → me_W p l e R s m args below meth c 0 0 (vx_MQ below me_QF (me_XC D cA ad n A E M') args s 1 6 A) D cA ad n 3 A 35 [(0, .ref (ad 0)), (1, .int p0), (2, .int p1)] [.int s1, .ref (ad 0)] M := by
    intro s1 h
    unfold tX11_matches_0_J35 at h
    by_cases c4 : s1 = 0
    · have h := me_ip c4 h
      obtain ⟨rfl, rfl⟩ := me_sp h
      exact me_callX X hz htab hlk hRc hRs [.int s1] (ctT_needArgument hl hn (Nat.le_trans (by decide) hnt) c4) kV_X11_122 rfl rfl (Nat.le_of_ble_eq_true rfl) me_k0 (Nat.le_of_ble_eq_true rfl) (Nat.le_refl _) (Nat.le_of_ble_eq_true rfl) dX11_matches_35 tw_654
    · have h := me_in c4 h
      cases h
  have hj34_1 : tX11_matches_0_J34 p0 p1 M  = some (E, M') → me_W p l e R s m args below meth c 0 0 (vx_MQ below me_QF (me_XC D cA ad n A E M') args s 1 6 A) D cA ad n 3 A 34 [(0, .ref (ad 0)), (1, .int p0), (2, .int p1)] [.ref (ad 0)] M := by
    intro h
    unfold tX11_matches_0_J34 at h
    refine me_iconst X dX11_matches_34 ic_0 ?_
    exact hj35_2 0 h
  refine me_if_eq X 34 (by decide) dX11_matches_9 (fun c1 => ?_) (fun c1 => ?_)
  · have h := me_ip c1 h
    exact hj34_1  h
  · have h := me_in c1 h
    refine me_iload_n X (i := 2) 2 rfl dX11_matches_12 ?_
    obtain ⟨v2, e2, h⟩ := me_bd h
    refine me_callSi X [.int p1] (ctX11_isLength hn (Nat.le_trans (by decide) hnt) e2) kS_X11_338 rfl rfl (Nat.le_of_ble_eq_true rfl) (Nat.le_refl _) (Nat.le_of_ble_eq_true rfl) dX11_matches_13 ?_
    refine me_if_eq X 34 (by decide) dX11_matches_16 (fun c2 => ?_) (fun c2 => ?_)
    · have h := me_ip c2 h
      exact hj34_1  h
    · have h := me_in c2 h
      refine me_aload_n X (i := 0) 0 rfl dX11_matches_19 ?_
      refine me_getr X 1 kF_X11_10 (Nat.le_of_ble_eq_true rfl) me_k0 me_f0_0 dX11_matches_20 ?_
      refine me_iload_n X (i := 1) 1 rfl dX11_matches_23 ?_
      obtain ⟨v3, e3, h⟩ := me_bd h
      refine me_callVi X [.int p0] (ctX9_lettersAlone_1 hn (Nat.le_trans (by decide) hnt) e3) kV_X11_259 rfl rfl (Nat.le_of_ble_eq_true rfl) me_k1 (Nat.le_of_ble_eq_true rfl) (Nat.le_refl _) (Nat.le_of_ble_eq_true rfl) dX11_matches_24 ?_
      refine me_if_eq X 34 (by decide) dX11_matches_27 (fun c3 => ?_) (fun c3 => ?_)
      · have h := me_ip c3 h
        exact hj34_1  h
      · have h := me_in c3 h
        refine me_iconst X dX11_matches_30 ic_1 ?_
        refine me_goto X 35 (by decide) dX11_matches_31 ?_
        exact hj35_2 1 h
def tX11_match_0_J21 (p0 : Int32) (p1 : Int32) (M : me_M) (s1 : Int32) : Option (String × me_M) :=
  (if s1 = 0 then some (xN, (me_s M 0 13 (M.1 0 13 + 1))) else ((mX11_isWhat p1 3).bind fun v1 => (if v1 = 0 then some (xA, (me_s M 0 14 (M.1 0 14 + 1))) else none)))
def tX11_match_0_J20 (p0 : Int32) (p1 : Int32) (M : me_M)  : Option (String × me_M) :=
  (tX11_match_0_J21 p0 p1 M 0)
def tX11_match_0 (M : me_M) (p0 : Int32) (p1 : Int32) : Option (String × me_M) :=
  (if p0 < 0 then (tX11_match_0_J20 p0 p1 M ) else (if (M.1 30 6) ≤ p0 then (tX11_match_0_J20 p0 p1 M ) else (tX11_match_0_J21 p0 p1 M 1)))
set_option maxRecDepth 100000 in
set_option maxHeartbeats 4000000 in
theorem ctTX11_match_0 {l : Launch} (hl : l.stackTraces = false) {n nt : Nat} (hn : 63 ≤ n) (hnt : 1 ≤ nt) {M : me_M} {p0 : Int32} {p1 : Int32} {E : String} {M' : me_M} (h : tX11_match_0 M p0 p1 = some (E, M')) : me_Cx l yX11_match cX11_match 3 (some .int) 7 n nt (fun ad => [.ref (ad 0), .int p0, .int p1]) M E M' := by
  unfold tX11_match_0 at h
  refine me_enterX (N0 := 63) RX11 rfl pl_RX11 hn (Nat.le_trans (by decide) hnt) (fun _ => Nat.le_of_ble_eq_true rfl) ?_
  intro p e R s m args below meth c D cA ad tys A X hr hlk hz htab hRc hRs
  refine me_sub (L' := [(0, .ref (ad 0)), (1, .int p0), (2, .int p1)]) [0, 1, 2] rfl ?_
  refine me_aload_n X (i := 0) 0 rfl dX11_match_0 ?_
  refine me_iload_n X (i := 1) 1 rfl dX11_match_1 ?_
  have hj21_2 : ∀ (s1 : Int32), tX11_match_0_J21 p0 p1 M s1 = some (E, M') → me_W p l e R s m args below meth c 0 0 (vx_MQ below me_QF (me_XC D cA ad n A E M') args s 1 6 A) D cA ad n 3 A 21 [(0, .ref (ad 0)), (1, .int p0), (2, .int p1)] [.int s1, .ref (ad 0)] M := by
    intro s1 h
    unfold tX11_match_0_J21 at h
    by_cases c3 : s1 = 0
    · have h := me_ip c3 h
      obtain ⟨rfl, rfl⟩ := me_sp h
      exact me_callX X hz htab hlk hRc hRs [.int s1] (ctT_needElement hl hn (Nat.le_trans (by decide) hnt) c3) kV_X11_206 rfl rfl (Nat.le_of_ble_eq_true rfl) me_k0 (Nat.le_of_ble_eq_true rfl) (Nat.le_refl _) (Nat.le_of_ble_eq_true rfl) dX11_match_21 tw_895
    · have h := me_in c3 h
      refine me_callVv X [.int s1] (ctX11_needElement_0 hn (Nat.le_trans (by decide) hnt) (by unfold mX11_needElement_0; rw [if_neg c3])) kV_X11_206 rfl rfl (Nat.le_of_ble_eq_true rfl) me_k0 (Nat.le_of_ble_eq_true rfl) (Nat.le_refl _) (Nat.le_of_ble_eq_true rfl) dX11_match_21 ?_
      refine me_aload_n X (i := 0) 0 rfl dX11_match_24 ?_
      refine me_iload_n X (i := 2) 2 rfl dX11_match_25 ?_
      refine me_iconst X dX11_match_26 ic_3 ?_
      obtain ⟨v1, e1, h⟩ := me_bd h
      refine me_callSi X [.int p1, .int 3] (ctX11_isWhat hn (Nat.le_trans (by decide) hnt) e1) kS_X11_157 rfl rfl (Nat.le_of_ble_eq_true rfl) (Nat.le_refl _) (Nat.le_of_ble_eq_true rfl) dX11_match_27 ?_
      by_cases c4 : v1 = 0
      · have h := me_ip c4 h
        obtain ⟨rfl, rfl⟩ := me_sp h
        exact me_callX X hz htab hlk hRc hRs [.int v1] (ctT_needArgument hl hn (Nat.le_trans (by decide) hnt) c4) kV_X11_122 rfl rfl (Nat.le_of_ble_eq_true rfl) me_k0 (Nat.le_of_ble_eq_true rfl) (Nat.le_refl _) (Nat.le_of_ble_eq_true rfl) dX11_match_30 tw_654
      · have h := me_in c4 h
        cases h
  have hj20_1 : tX11_match_0_J20 p0 p1 M  = some (E, M') → me_W p l e R s m args below meth c 0 0 (vx_MQ below me_QF (me_XC D cA ad n A E M') args s 1 6 A) D cA ad n 3 A 20 [(0, .ref (ad 0)), (1, .int p0), (2, .int p1)] [.ref (ad 0)] M := by
    intro h
    unfold tX11_match_0_J20 at h
    refine me_iconst X dX11_match_20 ic_0 ?_
    exact hj21_2 0 h
  refine me_if_lt X 20 (by decide) dX11_match_2 (fun c1 => ?_) (fun c1 => ?_)
  · have h := me_ip c1 h
    exact hj20_1  h
  · have h := me_in c1 h
    refine me_iload_n X (i := 1) 1 rfl dX11_match_5 ?_
    refine me_aload_n X (i := 0) 0 rfl dX11_match_6 ?_
    refine me_getr X 30 kF_X11_65 (Nat.le_of_ble_eq_true rfl) me_k0 me_f0_6 dX11_match_7 ?_
    refine me_geti X kF_X11_138 (Nat.le_of_ble_eq_true rfl) me_k30 me_f30_6 dX11_match_10 ?_
    refine me_icmp_ge X 20 (by decide) dX11_match_13 (fun c2 => ?_) (fun c2 => ?_)
    · have h := me_ip c2 h
      exact hj20_1  h
    · have h := me_in c2 h
      refine me_iconst X dX11_match_16 ic_1 ?_
      refine me_goto X 21 (by decide) dX11_match_17 ?_
      exact hj21_2 1 h
def tX11_maximals_0_J20 (p0 : Int32) (p1 : Int32) (M : me_M) (s1 : Int32) : Option (String × me_M) :=
  (if s1 = 0 then some (xA, (me_s M 0 14 (M.1 0 14 + 1))) else none)
def tX11_maximals_0_J19 (p0 : Int32) (p1 : Int32) (M : me_M)  : Option (String × me_M) :=
  (tX11_maximals_0_J20 p0 p1 M 0)
def tX11_maximals_0 (M : me_M) (p0 : Int32) (p1 : Int32) : Option (String × me_M) :=
  ((mX11_isLength p0).bind fun v1 => (if v1 = 0 then (tX11_maximals_0_J19 p0 p1 M ) else ((mX11_isOften p1).bind fun v2 => (if v2 = 0 then (tX11_maximals_0_J19 p0 p1 M ) else (tX11_maximals_0_J20 p0 p1 M 1)))))
set_option maxRecDepth 100000 in
set_option maxHeartbeats 4000000 in
theorem ctTX11_maximals_0 {l : Launch} (hl : l.stackTraces = false) {n nt : Nat} (hn : 63 ≤ n) (hnt : 1 ≤ nt) {M : me_M} {p0 : Int32} {p1 : Int32} {E : String} {M' : me_M} (h : tX11_maximals_0 M p0 p1 = some (E, M')) : me_Cx l yX11_maximals cX11_maximals 3 (some .int) 7 n nt (fun ad => [.ref (ad 0), .int p0, .int p1]) M E M' := by
  unfold tX11_maximals_0 at h
  refine me_enterX (N0 := 63) RX11 rfl pl_RX11 hn (Nat.le_trans (by decide) hnt) (fun _ => Nat.le_of_ble_eq_true rfl) ?_
  intro p e R s m args below meth c D cA ad tys A X hr hlk hz htab hRc hRs
  refine me_sub (L' := [(0, .ref (ad 0)), (1, .int p0), (2, .int p1)]) [0, 1, 2] rfl ?_
  refine me_aload_n X (i := 0) 0 rfl dX11_maximals_0 ?_
  refine me_iload_n X (i := 1) 1 rfl dX11_maximals_1 ?_
  obtain ⟨v1, e1, h⟩ := me_bd h
  refine me_callSi X [.int p0] (ctX11_isLength hn (Nat.le_trans (by decide) hnt) e1) kS_X11_338 rfl rfl (Nat.le_of_ble_eq_true rfl) (Nat.le_refl _) (Nat.le_of_ble_eq_true rfl) dX11_maximals_2 ?_
  have hj20_2 : ∀ (s1 : Int32), tX11_maximals_0_J20 p0 p1 M s1 = some (E, M') → me_W p l e R s m args below meth c 0 0 (vx_MQ below me_QF (me_XC D cA ad n A E M') args s 1 6 A) D cA ad n 3 A 20 [(0, .ref (ad 0)), (1, .int p0), (2, .int p1)] [.int s1, .ref (ad 0)] M := by
    intro s1 h
    unfold tX11_maximals_0_J20 at h
    by_cases c3 : s1 = 0
    · have h := me_ip c3 h
      obtain ⟨rfl, rfl⟩ := me_sp h
      exact me_callX X hz htab hlk hRc hRs [.int s1] (ctT_needArgument hl hn (Nat.le_trans (by decide) hnt) c3) kV_X11_122 rfl rfl (Nat.le_of_ble_eq_true rfl) me_k0 (Nat.le_of_ble_eq_true rfl) (Nat.le_refl _) (Nat.le_of_ble_eq_true rfl) dX11_maximals_20 tw_654
    · have h := me_in c3 h
      cases h
  have hj19_1 : tX11_maximals_0_J19 p0 p1 M  = some (E, M') → me_W p l e R s m args below meth c 0 0 (vx_MQ below me_QF (me_XC D cA ad n A E M') args s 1 6 A) D cA ad n 3 A 19 [(0, .ref (ad 0)), (1, .int p0), (2, .int p1)] [.ref (ad 0)] M := by
    intro h
    unfold tX11_maximals_0_J19 at h
    refine me_iconst X dX11_maximals_19 ic_0 ?_
    exact hj20_2 0 h
  refine me_if_eq X 19 (by decide) dX11_maximals_5 (fun c1 => ?_) (fun c1 => ?_)
  · have h := me_ip c1 h
    exact hj19_1  h
  · have h := me_in c1 h
    refine me_iload_n X (i := 2) 2 rfl dX11_maximals_8 ?_
    obtain ⟨v2, e2, h⟩ := me_bd h
    refine me_callSi X [.int p1] (ctX11_isOften hn (Nat.le_trans (by decide) hnt) e2) kS_X11_358 rfl rfl (Nat.le_of_ble_eq_true rfl) (Nat.le_refl _) (Nat.le_of_ble_eq_true rfl) dX11_maximals_9 ?_
    refine me_if_eq X 19 (by decide) dX11_maximals_12 (fun c2 => ?_) (fun c2 => ?_)
    · have h := me_ip c2 h
      exact hj19_1  h
    · have h := me_in c2 h
      refine me_iconst X dX11_maximals_15 ic_1 ?_
      refine me_goto X 20 (by decide) dX11_maximals_16 ?_
      exact hj20_2 1 h
def tX11_maximal_0_J56 (p3 : Int32) (v4 : Int32) (M : me_M) (s2 : Int32) : Option (String × me_M) :=
  (if s2 = 0 then some (xN, (me_s M 0 13 (M.1 0 13 + 1))) else none)
def tX11_maximal_0_J29 (p0 : Int32) (p1 : Int32) (p2 : Int32) (p3 : Int32) (M : me_M) (s1 : Int32) : Option (String × me_M) :=
  (if s1 = 0 then some (xA, (me_s M 0 14 (M.1 0 14 + 1))) else ((mX2_indexOfMaximal_26 M p0 p1 p2).bind fun v4 => (if v4 = (-1) then (tX11_maximal_0_J56 p3 v4 M 0) else (tX11_maximal_0_J56 p3 v4 M 1))))
def tX11_maximal_0_J28 (p0 : Int32) (p1 : Int32) (p2 : Int32) (p3 : Int32) (M : me_M)  : Option (String × me_M) :=
  (tX11_maximal_0_J29 p0 p1 p2 p3 M 0)
def tX11_maximal_0 (M : me_M) (p0 : Int32) (p1 : Int32) (p2 : Int32) (p3 : Int32) : Option (String × me_M) :=
  ((mX11_isLength p1).bind fun v1 => (if v1 = 0 then (tX11_maximal_0_J28 p0 p1 p2 p3 M ) else ((mX11_isOften p2).bind fun v2 => (if v2 = 0 then (tX11_maximal_0_J28 p0 p1 p2 p3 M ) else ((mX11_isWhat p3 2).bind fun v3 => (if v3 = 0 then (tX11_maximal_0_J28 p0 p1 p2 p3 M ) else (tX11_maximal_0_J29 p0 p1 p2 p3 M 1)))))))
set_option maxRecDepth 100000 in
set_option maxHeartbeats 4000000 in
theorem ctTX11_maximal_0 {l : Launch} (hl : l.stackTraces = false) {n nt : Nat} (hn : 63 ≤ n) (hnt : 1 ≤ nt) {M : me_M} {p0 : Int32} {p1 : Int32} {p2 : Int32} {p3 : Int32} {E : String} {M' : me_M} (h : tX11_maximal_0 M p0 p1 p2 p3 = some (E, M')) : me_Cx l yX11_maximal cX11_maximal 6 (some .int) 7 n nt (fun ad => [.ref (ad 0), .int p0, .int p1, .int p2, .int p3]) M E M' := by
  unfold tX11_maximal_0 at h
  refine me_enterX (N0 := 63) RX11 rfl pl_RX11 hn (Nat.le_trans (by decide) hnt) (fun _ => Nat.le_of_ble_eq_true rfl) ?_
  intro p e R s m args below meth c D cA ad tys A X hr hlk hz htab hRc hRs
  refine me_sub (L' := [(0, .ref (ad 0)), (1, .int p0), (2, .int p1), (3, .int p2), (4, .int p3)]) [0, 1, 2, 3, 4] rfl ?_
  refine me_aload_n X (i := 0) 0 rfl dX11_maximal_0 ?_
  refine me_iload_n X (i := 2) 2 rfl dX11_maximal_1 ?_
  obtain ⟨v1, e1, h⟩ := me_bd h
  refine me_callSi X [.int p1] (ctX11_isLength hn (Nat.le_trans (by decide) hnt) e1) kS_X11_338 rfl rfl (Nat.le_of_ble_eq_true rfl) (Nat.le_refl _) (Nat.le_of_ble_eq_true rfl) dX11_maximal_2 ?_
  have hj29_2 : ∀ (s1 : Int32), tX11_maximal_0_J29 p0 p1 p2 p3 M s1 = some (E, M') → me_W p l e R s m args below meth c 0 0 (vx_MQ below me_QF (me_XC D cA ad n A E M') args s 1 6 A) D cA ad n 6 A 29 [(0, .ref (ad 0)), (1, .int p0), (2, .int p1), (3, .int p2), (4, .int p3)] [.int s1, .ref (ad 0)] M := by
    intro s1 h
    unfold tX11_maximal_0_J29 at h
    by_cases c4 : s1 = 0
    · have h := me_ip c4 h
      obtain ⟨rfl, rfl⟩ := me_sp h
      exact me_callX X hz htab hlk hRc hRs [.int s1] (ctT_needArgument hl hn (Nat.le_trans (by decide) hnt) c4) kV_X11_122 rfl rfl (Nat.le_of_ble_eq_true rfl) me_k0 (Nat.le_of_ble_eq_true rfl) (Nat.le_refl _) (Nat.le_of_ble_eq_true rfl) dX11_maximal_29 tw_654
    · have h := me_in c4 h
      refine me_callVv X [.int s1] (ctX11_needArgument_0 hn (Nat.le_trans (by decide) hnt) (by unfold mX11_needArgument_0; rw [if_neg c4])) kV_X11_122 rfl rfl (Nat.le_of_ble_eq_true rfl) me_k0 (Nat.le_of_ble_eq_true rfl) (Nat.le_refl _) (Nat.le_of_ble_eq_true rfl) dX11_maximal_29 ?_
      refine me_aload_n X (i := 0) 0 rfl dX11_maximal_32 ?_
      refine me_getr X 26 kF_X11_56 (Nat.le_of_ble_eq_true rfl) me_k0 me_f0_5 dX11_maximal_33 ?_
      refine me_iload_n X (i := 1) 1 rfl dX11_maximal_36 ?_
      refine me_iload_n X (i := 2) 2 rfl dX11_maximal_37 ?_
      refine me_iload_n X (i := 3) 3 rfl dX11_maximal_38 ?_
      obtain ⟨v4, e4, h⟩ := me_bd h
      refine me_callVi X [.int p0, .int p1, .int p2] (ctX2_indexOfMaximal_26 hn (Nat.le_trans (by decide) hnt) e4) kV_X11_364 rfl rfl (Nat.le_of_ble_eq_true rfl) me_k26 (Nat.le_of_ble_eq_true rfl) (Nat.le_refl _) (Nat.le_of_ble_eq_true rfl) dX11_maximal_39 ?_
      refine me_istore X (i := 5) [(5, .int v4), (0, .ref (ad 0)), (1, .int p0), (2, .int p1), (3, .int p2), (4, .int p3)] (Nat.le_of_ble_eq_true rfl) rfl dX11_maximal_42 ?_
      refine me_aload_n X (i := 0) 1 rfl dX11_maximal_44 ?_
      refine me_iload X (i := 5) 0 rfl dX11_maximal_45 ?_
      refine me_iconst X dX11_maximal_47 ic_m1 ?_
      have hj56_3 : ∀ (s2 : Int32), tX11_maximal_0_J56 p3 v4 M s2 = some (E, M') → me_W p l e R s m args below meth c 0 0 (vx_MQ below me_QF (me_XC D cA ad n A E M') args s 1 6 A) D cA ad n 6 A 56 [(0, .ref (ad 0)), (4, .int p3), (5, .int v4)] [.int s2, .ref (ad 0)] M := by
        intro s2 h
        unfold tX11_maximal_0_J56 at h
        by_cases c6 : s2 = 0
        · have h := me_ip c6 h
          obtain ⟨rfl, rfl⟩ := me_sp h
          exact me_callX X hz htab hlk hRc hRs [.int s2] (ctT_needElement hl hn (Nat.le_trans (by decide) hnt) c6) kV_X11_206 rfl rfl (Nat.le_of_ble_eq_true rfl) me_k0 (Nat.le_of_ble_eq_true rfl) (Nat.le_refl _) (Nat.le_of_ble_eq_true rfl) dX11_maximal_56 tw_895
        · have h := me_in c6 h
          cases h
      refine me_icmp_eq X 55 (by decide) dX11_maximal_48 (fun c5 => ?_) (fun c5 => ?_)
      · have h := me_ip c5 h
        refine me_iconst X dX11_maximal_55 ic_0 ?_
        refine me_sub (L' := [(0, .ref (ad 0)), (4, .int p3), (5, .int v4)]) [1, 5, 0] rfl ?_
        exact hj56_3 0 h
      · have h := me_in c5 h
        refine me_iconst X dX11_maximal_51 ic_1 ?_
        refine me_goto X 56 (by decide) dX11_maximal_52 ?_
        refine me_sub (L' := [(0, .ref (ad 0)), (4, .int p3), (5, .int v4)]) [1, 5, 0] rfl ?_
        exact hj56_3 1 h
  have hj28_1 : tX11_maximal_0_J28 p0 p1 p2 p3 M  = some (E, M') → me_W p l e R s m args below meth c 0 0 (vx_MQ below me_QF (me_XC D cA ad n A E M') args s 1 6 A) D cA ad n 6 A 28 [(0, .ref (ad 0)), (1, .int p0), (2, .int p1), (3, .int p2), (4, .int p3)] [.ref (ad 0)] M := by
    intro h
    unfold tX11_maximal_0_J28 at h
    refine me_iconst X dX11_maximal_28 ic_0 ?_
    exact hj29_2 0 h
  refine me_if_eq X 28 (by decide) dX11_maximal_5 (fun c1 => ?_) (fun c1 => ?_)
  · have h := me_ip c1 h
    exact hj28_1  h
  · have h := me_in c1 h
    refine me_iload_n X (i := 3) 3 rfl dX11_maximal_8 ?_
    obtain ⟨v2, e2, h⟩ := me_bd h
    refine me_callSi X [.int p2] (ctX11_isOften hn (Nat.le_trans (by decide) hnt) e2) kS_X11_358 rfl rfl (Nat.le_of_ble_eq_true rfl) (Nat.le_refl _) (Nat.le_of_ble_eq_true rfl) dX11_maximal_9 ?_
    refine me_if_eq X 28 (by decide) dX11_maximal_12 (fun c2 => ?_) (fun c2 => ?_)
    · have h := me_ip c2 h
      exact hj28_1  h
    · have h := me_in c2 h
      refine me_iload X (i := 4) 4 rfl dX11_maximal_15 ?_
      refine me_iconst X dX11_maximal_17 ic_2 ?_
      obtain ⟨v3, e3, h⟩ := me_bd h
      refine me_callSi X [.int p3, .int 2] (ctX11_isWhat hn (Nat.le_trans (by decide) hnt) e3) kS_X11_157 rfl rfl (Nat.le_of_ble_eq_true rfl) (Nat.le_refl _) (Nat.le_of_ble_eq_true rfl) dX11_maximal_18 ?_
      refine me_if_eq X 28 (by decide) dX11_maximal_21 (fun c3 => ?_) (fun c3 => ?_)
      · have h := me_ip c3 h
        exact hj28_1  h
      · have h := me_in c3 h
        refine me_iconst X dX11_maximal_24 ic_1 ?_
        refine me_goto X 29 (by decide) dX11_maximal_25 ?_
        exact hj29_2 1 h
def tX11_strings_0 (M : me_M) (p0 : Int32) : Option (String × me_M) :=
  ((mX11_isLength p0).bind fun v1 => (if v1 = 0 then some (xA, (me_s M 0 14 (M.1 0 14 + 1))) else none))
set_option maxRecDepth 100000 in
set_option maxHeartbeats 4000000 in
theorem ctTX11_strings_0 {l : Launch} (hl : l.stackTraces = false) {n nt : Nat} (hn : 63 ≤ n) (hnt : 1 ≤ nt) {M : me_M} {p0 : Int32} {E : String} {M' : me_M} (h : tX11_strings_0 M p0 = some (E, M')) : me_Cx l yX11_strings cX11_strings 2 (some .int) 7 n nt (fun ad => [.ref (ad 0), .int p0]) M E M' := by
  unfold tX11_strings_0 at h
  refine me_enterX (N0 := 63) RX11 rfl pl_RX11 hn (Nat.le_trans (by decide) hnt) (fun _ => Nat.le_of_ble_eq_true rfl) ?_
  intro p e R s m args below meth c D cA ad tys A X hr hlk hz htab hRc hRs
  refine me_sub (L' := [(0, .ref (ad 0)), (1, .int p0)]) [0, 1] rfl ?_
  refine me_aload_n X (i := 0) 0 rfl dX11_strings_0 ?_
  refine me_iload_n X (i := 1) 1 rfl dX11_strings_1 ?_
  obtain ⟨v1, e1, h⟩ := me_bd h
  refine me_callSi X [.int p0] (ctX11_isLength hn (Nat.le_trans (by decide) hnt) e1) kS_X11_338 rfl rfl (Nat.le_of_ble_eq_true rfl) (Nat.le_refl _) (Nat.le_of_ble_eq_true rfl) dX11_strings_2 ?_
  by_cases c1 : v1 = 0
  · have h := me_ip c1 h
    obtain ⟨rfl, rfl⟩ := me_sp h
    exact me_callX X hz htab hlk hRc hRs [.int v1] (ctT_needArgument hl hn (Nat.le_trans (by decide) hnt) c1) kV_X11_122 rfl rfl (Nat.le_of_ble_eq_true rfl) me_k0 (Nat.le_of_ble_eq_true rfl) (Nat.le_refl _) (Nat.le_of_ble_eq_true rfl) dX11_strings_5 tw_654
  · have h := me_in c1 h
    cases h
def tX11_repeat_0 (M : me_M) (p0 : Int32) : Option (String × me_M) :=
  ((mX11_isWhat p0 2).bind fun v1 => (if v1 = 0 then some (xA, (me_s M 0 14 (M.1 0 14 + 1))) else none))
set_option maxRecDepth 100000 in
set_option maxHeartbeats 4000000 in
theorem ctTX11_repeat_0 {l : Launch} (hl : l.stackTraces = false) {n nt : Nat} (hn : 63 ≤ n) (hnt : 1 ≤ nt) {M : me_M} {p0 : Int32} {E : String} {M' : me_M} (h : tX11_repeat_0 M p0 = some (E, M')) : me_Cx l yX11_repeat cX11_repeat 4 (some .int) 7 n nt (fun ad => [.ref (ad 0), .int p0]) M E M' := by
  unfold tX11_repeat_0 at h
  refine me_enterX (N0 := 63) RX11 rfl pl_RX11 hn (Nat.le_trans (by decide) hnt) (fun _ => Nat.le_of_ble_eq_true rfl) ?_
  intro p e R s m args below meth c D cA ad tys A X hr hlk hz htab hRc hRs
  refine me_sub (L' := [(0, .ref (ad 0)), (1, .int p0)]) [0, 1] rfl ?_
  refine me_aload_n X (i := 0) 0 rfl dX11_repeat_0 ?_
  refine me_iload_n X (i := 1) 1 rfl dX11_repeat_1 ?_
  refine me_iconst X dX11_repeat_2 ic_2 ?_
  obtain ⟨v1, e1, h⟩ := me_bd h
  refine me_callSi X [.int p0, .int 2] (ctX11_isWhat hn (Nat.le_trans (by decide) hnt) e1) kS_X11_157 rfl rfl (Nat.le_of_ble_eq_true rfl) (Nat.le_refl _) (Nat.le_of_ble_eq_true rfl) dX11_repeat_3 ?_
  by_cases c1 : v1 = 0
  · have h := me_ip c1 h
    obtain ⟨rfl, rfl⟩ := me_sp h
    exact me_callX X hz htab hlk hRc hRs [.int v1] (ctT_needArgument hl hn (Nat.le_trans (by decide) hnt) c1) kV_X11_122 rfl rfl (Nat.le_of_ble_eq_true rfl) me_k0 (Nat.le_of_ble_eq_true rfl) (Nat.le_refl _) (Nat.le_of_ble_eq_true rfl) dX11_repeat_6 tw_654
  · have h := me_in c1 h
    cases h
def tX11_unique_0 (M : me_M) (p0 : Int32) : Option (String × me_M) :=
  ((mX11_isPlace_0 M p0).bind fun v1 => (if v1 = 0 then some (xN, (me_s M 0 13 (M.1 0 13 + 1))) else none))
set_option maxRecDepth 100000 in
set_option maxHeartbeats 4000000 in
theorem ctTX11_unique_0 {l : Launch} (hl : l.stackTraces = false) {n nt : Nat} (hn : 63 ≤ n) (hnt : 1 ≤ nt) {M : me_M} {p0 : Int32} {E : String} {M' : me_M} (h : tX11_unique_0 M p0 = some (E, M')) : me_Cx l yX11_unique cX11_unique 2 (some .int) 7 n nt (fun ad => [.ref (ad 0), .int p0]) M E M' := by
  unfold tX11_unique_0 at h
  refine me_enterX (N0 := 63) RX11 rfl pl_RX11 hn (Nat.le_trans (by decide) hnt) (fun _ => Nat.le_of_ble_eq_true rfl) ?_
  intro p e R s m args below meth c D cA ad tys A X hr hlk hz htab hRc hRs
  refine me_sub (L' := [(0, .ref (ad 0)), (1, .int p0)]) [0, 1] rfl ?_
  refine me_aload_n X (i := 0) 0 rfl dX11_unique_0 ?_
  refine me_aload_n X (i := 0) 0 rfl dX11_unique_1 ?_
  refine me_iload_n X (i := 1) 1 rfl dX11_unique_2 ?_
  obtain ⟨v1, e1, h⟩ := me_bd h
  refine me_callVi X [.int p0] (ctX11_isPlace_0 hn (Nat.le_trans (by decide) hnt) e1) kV_X11_203 rfl rfl (Nat.le_of_ble_eq_true rfl) me_k0 (Nat.le_of_ble_eq_true rfl) (Nat.le_refl _) (Nat.le_of_ble_eq_true rfl) dX11_unique_3 ?_
  by_cases c1 : v1 = 0
  · have h := me_ip c1 h
    obtain ⟨rfl, rfl⟩ := me_sp h
    exact me_callX X hz htab hlk hRc hRs [.int v1] (ctT_needElement hl hn (Nat.le_trans (by decide) hnt) c1) kV_X11_206 rfl rfl (Nat.le_of_ble_eq_true rfl) me_k0 (Nat.le_of_ble_eq_true rfl) (Nat.le_refl _) (Nat.le_of_ble_eq_true rfl) dX11_unique_6 tw_895
  · have h := me_in c1 h
    cases h
def tX11_around_0 (M : me_M) (p0 : Int32) (p1 : Int32) : Option (String × me_M) :=
  ((mX11_isPlace_0 M p0).bind fun v1 => (if v1 = 0 then some (xN, (me_s M 0 13 (M.1 0 13 + 1))) else ((mX11_isWhat p1 1).bind fun v2 => (if v2 = 0 then some (xA, (me_s M 0 14 (M.1 0 14 + 1))) else none))))
set_option maxRecDepth 100000 in
set_option maxHeartbeats 4000000 in
theorem ctTX11_around_0 {l : Launch} (hl : l.stackTraces = false) {n nt : Nat} (hn : 63 ≤ n) (hnt : 1 ≤ nt) {M : me_M} {p0 : Int32} {p1 : Int32} {E : String} {M' : me_M} (h : tX11_around_0 M p0 p1 = some (E, M')) : me_Cx l yX11_around cX11_around 4 (some .int) 7 n nt (fun ad => [.ref (ad 0), .int p0, .int p1]) M E M' := by
  unfold tX11_around_0 at h
  refine me_enterX (N0 := 63) RX11 rfl pl_RX11 hn (Nat.le_trans (by decide) hnt) (fun _ => Nat.le_of_ble_eq_true rfl) ?_
  intro p e R s m args below meth c D cA ad tys A X hr hlk hz htab hRc hRs
  refine me_sub (L' := [(0, .ref (ad 0)), (1, .int p0), (2, .int p1)]) [0, 1, 2] rfl ?_
  refine me_aload_n X (i := 0) 0 rfl dX11_around_0 ?_
  refine me_aload_n X (i := 0) 0 rfl dX11_around_1 ?_
  refine me_iload_n X (i := 1) 1 rfl dX11_around_2 ?_
  obtain ⟨v1, e1, h⟩ := me_bd h
  refine me_callVi X [.int p0] (ctX11_isPlace_0 hn (Nat.le_trans (by decide) hnt) e1) kV_X11_203 rfl rfl (Nat.le_of_ble_eq_true rfl) me_k0 (Nat.le_of_ble_eq_true rfl) (Nat.le_refl _) (Nat.le_of_ble_eq_true rfl) dX11_around_3 ?_
  by_cases c1 : v1 = 0
  · have h := me_ip c1 h
    obtain ⟨rfl, rfl⟩ := me_sp h
    exact me_callX X hz htab hlk hRc hRs [.int v1] (ctT_needElement hl hn (Nat.le_trans (by decide) hnt) c1) kV_X11_206 rfl rfl (Nat.le_of_ble_eq_true rfl) me_k0 (Nat.le_of_ble_eq_true rfl) (Nat.le_refl _) (Nat.le_of_ble_eq_true rfl) dX11_around_6 tw_895
  · have h := me_in c1 h
    refine me_callVv X [.int v1] (ctX11_needElement_0 hn (Nat.le_trans (by decide) hnt) (by unfold mX11_needElement_0; rw [if_neg c1])) kV_X11_206 rfl rfl (Nat.le_of_ble_eq_true rfl) me_k0 (Nat.le_of_ble_eq_true rfl) (Nat.le_refl _) (Nat.le_of_ble_eq_true rfl) dX11_around_6 ?_
    refine me_aload_n X (i := 0) 0 rfl dX11_around_9 ?_
    refine me_iload_n X (i := 2) 2 rfl dX11_around_10 ?_
    refine me_iconst X dX11_around_11 ic_1 ?_
    obtain ⟨v2, e2, h⟩ := me_bd h
    refine me_callSi X [.int p1, .int 1] (ctX11_isWhat hn (Nat.le_trans (by decide) hnt) e2) kS_X11_157 rfl rfl (Nat.le_of_ble_eq_true rfl) (Nat.le_refl _) (Nat.le_of_ble_eq_true rfl) dX11_around_12 ?_
    by_cases c2 : v2 = 0
    · have h := me_ip c2 h
      obtain ⟨rfl, rfl⟩ := me_sp h
      exact me_callX X hz htab hlk hRc hRs [.int v2] (ctT_needArgument hl hn (Nat.le_trans (by decide) hnt) c2) kV_X11_122 rfl rfl (Nat.le_of_ble_eq_true rfl) me_k0 (Nat.le_of_ble_eq_true rfl) (Nat.le_refl _) (Nat.le_of_ble_eq_true rfl) dX11_around_15 tw_654
    · have h := me_in c2 h
      cases h
def tX11_common_0 (M : me_M) (p0 : Int32) : Option (String × me_M) :=
  ((mX11_isWhat p0 1).bind fun v1 => (if v1 = 0 then some (xA, (me_s M 0 14 (M.1 0 14 + 1))) else none))
set_option maxRecDepth 100000 in
set_option maxHeartbeats 4000000 in
theorem ctTX11_common_0 {l : Launch} (hl : l.stackTraces = false) {n nt : Nat} (hn : 63 ≤ n) (hnt : 1 ≤ nt) {M : me_M} {p0 : Int32} {E : String} {M' : me_M} (h : tX11_common_0 M p0 = some (E, M')) : me_Cx l yX11_common cX11_common 2 (some .int) 7 n nt (fun ad => [.ref (ad 0), .int p0]) M E M' := by
  unfold tX11_common_0 at h
  refine me_enterX (N0 := 63) RX11 rfl pl_RX11 hn (Nat.le_trans (by decide) hnt) (fun _ => Nat.le_of_ble_eq_true rfl) ?_
  intro p e R s m args below meth c D cA ad tys A X hr hlk hz htab hRc hRs
  refine me_sub (L' := [(0, .ref (ad 0)), (1, .int p0)]) [0, 1] rfl ?_
  refine me_aload_n X (i := 0) 0 rfl dX11_common_0 ?_
  refine me_iload_n X (i := 1) 1 rfl dX11_common_1 ?_
  refine me_iconst X dX11_common_2 ic_1 ?_
  obtain ⟨v1, e1, h⟩ := me_bd h
  refine me_callSi X [.int p0, .int 1] (ctX11_isWhat hn (Nat.le_trans (by decide) hnt) e1) kS_X11_157 rfl rfl (Nat.le_of_ble_eq_true rfl) (Nat.le_refl _) (Nat.le_of_ble_eq_true rfl) dX11_common_3 ?_
  by_cases c1 : v1 = 0
  · have h := me_ip c1 h
    obtain ⟨rfl, rfl⟩ := me_sp h
    exact me_callX X hz htab hlk hRc hRs [.int v1] (ctT_needArgument hl hn (Nat.le_trans (by decide) hnt) c1) kV_X11_122 rfl rfl (Nat.le_of_ble_eq_true rfl) me_k0 (Nat.le_of_ble_eq_true rfl) (Nat.le_refl _) (Nat.le_of_ble_eq_true rfl) dX11_common_6 tw_654
  · have h := me_in c1 h
    cases h
def tX11_document_0_J21 (p0 : Int32) (p1 : Int32) (M : me_M) (s1 : Int32) : Option (String × me_M) :=
  (if s1 = 0 then some (xN, (me_s M 0 13 (M.1 0 13 + 1))) else ((mX11_isWhat p1 2).bind fun v1 => (if v1 = 0 then some (xA, (me_s M 0 14 (M.1 0 14 + 1))) else none)))
def tX11_document_0_J20 (p0 : Int32) (p1 : Int32) (M : me_M)  : Option (String × me_M) :=
  (tX11_document_0_J21 p0 p1 M 0)
def tX11_document_0 (M : me_M) (p0 : Int32) (p1 : Int32) : Option (String × me_M) :=
  (if p0 < 0 then (tX11_document_0_J20 p0 p1 M ) else (if (M.1 3 6) ≤ p0 then (tX11_document_0_J20 p0 p1 M ) else (tX11_document_0_J21 p0 p1 M 1)))
set_option maxRecDepth 100000 in
set_option maxHeartbeats 4000000 in
theorem ctTX11_document_0 {l : Launch} (hl : l.stackTraces = false) {n nt : Nat} (hn : 63 ≤ n) (hnt : 1 ≤ nt) {M : me_M} {p0 : Int32} {p1 : Int32} {E : String} {M' : me_M} (h : tX11_document_0 M p0 p1 = some (E, M')) : me_Cx l yX11_document cX11_document 4 (some .int) 7 n nt (fun ad => [.ref (ad 0), .int p0, .int p1]) M E M' := by
  unfold tX11_document_0 at h
  refine me_enterX (N0 := 63) RX11 rfl pl_RX11 hn (Nat.le_trans (by decide) hnt) (fun _ => Nat.le_of_ble_eq_true rfl) ?_
  intro p e R s m args below meth c D cA ad tys A X hr hlk hz htab hRc hRs
  refine me_sub (L' := [(0, .ref (ad 0)), (1, .int p0), (2, .int p1)]) [0, 1, 2] rfl ?_
  refine me_aload_n X (i := 0) 0 rfl dX11_document_0 ?_
  refine me_iload_n X (i := 1) 1 rfl dX11_document_1 ?_
  have hj21_2 : ∀ (s1 : Int32), tX11_document_0_J21 p0 p1 M s1 = some (E, M') → me_W p l e R s m args below meth c 0 0 (vx_MQ below me_QF (me_XC D cA ad n A E M') args s 1 6 A) D cA ad n 4 A 21 [(0, .ref (ad 0)), (1, .int p0), (2, .int p1)] [.int s1, .ref (ad 0)] M := by
    intro s1 h
    unfold tX11_document_0_J21 at h
    by_cases c3 : s1 = 0
    · have h := me_ip c3 h
      obtain ⟨rfl, rfl⟩ := me_sp h
      exact me_callX X hz htab hlk hRc hRs [.int s1] (ctT_needElement hl hn (Nat.le_trans (by decide) hnt) c3) kV_X11_206 rfl rfl (Nat.le_of_ble_eq_true rfl) me_k0 (Nat.le_of_ble_eq_true rfl) (Nat.le_refl _) (Nat.le_of_ble_eq_true rfl) dX11_document_21 tw_895
    · have h := me_in c3 h
      refine me_callVv X [.int s1] (ctX11_needElement_0 hn (Nat.le_trans (by decide) hnt) (by unfold mX11_needElement_0; rw [if_neg c3])) kV_X11_206 rfl rfl (Nat.le_of_ble_eq_true rfl) me_k0 (Nat.le_of_ble_eq_true rfl) (Nat.le_refl _) (Nat.le_of_ble_eq_true rfl) dX11_document_21 ?_
      refine me_aload_n X (i := 0) 0 rfl dX11_document_24 ?_
      refine me_iload_n X (i := 2) 2 rfl dX11_document_25 ?_
      refine me_iconst X dX11_document_26 ic_2 ?_
      obtain ⟨v1, e1, h⟩ := me_bd h
      refine me_callSi X [.int p1, .int 2] (ctX11_isWhat hn (Nat.le_trans (by decide) hnt) e1) kS_X11_157 rfl rfl (Nat.le_of_ble_eq_true rfl) (Nat.le_refl _) (Nat.le_of_ble_eq_true rfl) dX11_document_27 ?_
      by_cases c4 : v1 = 0
      · have h := me_ip c4 h
        obtain ⟨rfl, rfl⟩ := me_sp h
        exact me_callX X hz htab hlk hRc hRs [.int v1] (ctT_needArgument hl hn (Nat.le_trans (by decide) hnt) c4) kV_X11_122 rfl rfl (Nat.le_of_ble_eq_true rfl) me_k0 (Nat.le_of_ble_eq_true rfl) (Nat.le_refl _) (Nat.le_of_ble_eq_true rfl) dX11_document_30 tw_654
      · have h := me_in c4 h
        cases h
  have hj20_1 : tX11_document_0_J20 p0 p1 M  = some (E, M') → me_W p l e R s m args below meth c 0 0 (vx_MQ below me_QF (me_XC D cA ad n A E M') args s 1 6 A) D cA ad n 4 A 20 [(0, .ref (ad 0)), (1, .int p0), (2, .int p1)] [.ref (ad 0)] M := by
    intro h
    unfold tX11_document_0_J20 at h
    refine me_iconst X dX11_document_20 ic_0 ?_
    exact hj21_2 0 h
  refine me_if_lt X 20 (by decide) dX11_document_2 (fun c1 => ?_) (fun c1 => ?_)
  · have h := me_ip c1 h
    exact hj20_1  h
  · have h := me_in c1 h
    refine me_iload_n X (i := 1) 1 rfl dX11_document_5 ?_
    refine me_aload_n X (i := 0) 0 rfl dX11_document_6 ?_
    refine me_getr X 3 kF_X11_19 (Nat.le_of_ble_eq_true rfl) me_k0 me_f0_1 dX11_document_7 ?_
    refine me_geti X kF_X11_177 (Nat.le_of_ble_eq_true rfl) me_k3 me_f3_6 dX11_document_10 ?_
    refine me_icmp_ge X 20 (by decide) dX11_document_13 (fun c2 => ?_) (fun c2 => ?_)
    · have h := me_ip c2 h
      exact hj20_1  h
    · have h := me_in c2 h
      refine me_iconst X dX11_document_16 ic_1 ?_
      refine me_goto X 21 (by decide) dX11_document_17 ?_
      exact hj21_2 1 h
def tX11_print_0 (M : me_M) (p0 : Int32) : Option (String × me_M) :=
  ((mX11_isSide p0).bind fun v1 => (if v1 = 0 then some (xN, (me_s M 0 13 (M.1 0 13 + 1))) else none))
set_option maxRecDepth 100000 in
set_option maxHeartbeats 4000000 in
theorem ctTX11_print_0 {l : Launch} (hl : l.stackTraces = false) {n nt : Nat} (hn : 63 ≤ n) (hnt : 1 ≤ nt) {M : me_M} {p0 : Int32} {E : String} {M' : me_M} (h : tX11_print_0 M p0 = some (E, M')) : me_Cx l yX11_print cX11_print 6 (some .long) 7 n nt (fun ad => [.ref (ad 0), .int p0]) M E M' := by
  unfold tX11_print_0 at h
  refine me_enterX (N0 := 63) RX11 rfl pl_RX11 hn (Nat.le_trans (by decide) hnt) (fun _ => Nat.le_of_ble_eq_true rfl) ?_
  intro p e R s m args below meth c D cA ad tys A X hr hlk hz htab hRc hRs
  refine me_sub (L' := [(0, .ref (ad 0)), (1, .int p0)]) [0, 1] rfl ?_
  refine me_aload_n X (i := 0) 0 rfl dX11_print_0 ?_
  refine me_iload_n X (i := 1) 1 rfl dX11_print_1 ?_
  obtain ⟨v1, e1, h⟩ := me_bd h
  refine me_callSi X [.int p0] (ctX11_isSide hn (Nat.le_trans (by decide) hnt) e1) kS_X11_212 rfl rfl (Nat.le_of_ble_eq_true rfl) (Nat.le_refl _) (Nat.le_of_ble_eq_true rfl) dX11_print_2 ?_
  by_cases c1 : v1 = 0
  · have h := me_ip c1 h
    obtain ⟨rfl, rfl⟩ := me_sp h
    exact me_callX X hz htab hlk hRc hRs [.int v1] (ctT_needElement hl hn (Nat.le_trans (by decide) hnt) c1) kV_X11_206 rfl rfl (Nat.le_of_ble_eq_true rfl) me_k0 (Nat.le_of_ble_eq_true rfl) (Nat.le_refl _) (Nat.le_of_ble_eq_true rfl) dX11_print_5 tw_895
  · have h := me_in c1 h
    cases h
