def mX5_noteShare_53 (M : me_M) (p0 : Int32) : Option me_M :=
  ((mJ6_bitCount_0f7a4 p0).bind fun v1 => (if v1 = 0 then some (me_s (me_s M 53 7 ((M.1 53 7) + 1)) 53 8 (((me_s M 53 7 ((M.1 53 7) + 1)).1 53 8) + 1)) else (if v1 = 1 then some (me_s (me_s M 53 7 ((M.1 53 7) + 1)) 53 10 (((me_s M 53 7 ((M.1 53 7) + 1)).1 53 10) ||| p0)) else some (me_s (me_s M 53 7 ((M.1 53 7) + 1)) 53 9 (((me_s M 53 7 ((M.1 53 7) + 1)).1 53 9) + 1)))))
set_option maxRecDepth 100000 in
set_option maxHeartbeats 4000000 in
theorem ctX5_noteShare_53 {l : Launch} {n nt : Nat} (hn : 63 ≤ n) (hnt : 1 ≤ nt) {M : me_M} {p0 : Int32} {M' : me_M} (h : mX5_noteShare_53 M p0 = some M') : me_Ct l yX5_noteShare cX5_noteShare 3 none 1 n nt (fun ad => [.ref (ad 53), .int p0]) M (fun _ => none) M' := by
  unfold mX5_noteShare_53 at h
  refine me_enter (N0 := 63) RX5 rfl (plainFor_of_name pl_RX5) hn (Nat.le_trans (by decide) hnt) (fun _ => Nat.le_of_ble_eq_true rfl) ?_
  intro p e R s m args below meth c D cA ad tys A X hr hlk
  refine me_sub (L' := [(0, .ref (ad 53)), (1, .int p0)]) [0, 1] rfl ?_
  refine me_iload_n X (i := 1) 1 rfl dX5_noteShare_0 ?_
  obtain ⟨v1, e1, h⟩ := me_bd h
  refine me_callSi X [.int p0] (ctJ6_bitCount_0f7a4 hn (Nat.le_trans (by decide) hnt) e1) kS_X5_67 rfl rfl (Nat.le_of_ble_eq_true rfl) (Nat.le_refl _) (Nat.le_of_ble_eq_true rfl) dX5_noteShare_1 ?_
  refine me_istore_n X (i := 2) [(2, .int v1), (0, .ref (ad 53)), (1, .int p0)] (Nat.le_of_ble_eq_true rfl) rfl dX5_noteShare_4 ?_
  refine me_aload_n X (i := 0) 1 rfl dX5_noteShare_5 ?_
  refine me_dup X rfl dX5_noteShare_6 ?_
  refine me_geti X kF_X5_41 (Nat.le_of_ble_eq_true rfl) me_k53 me_f53_7 dX5_noteShare_7 ?_
  refine me_iconst X dX5_noteShare_10 ic_1 ?_
  refine me_iadd X dX5_noteShare_11 ?_
  refine me_puti X kG_X5_41 (Nat.le_of_ble_eq_true rfl) me_k53 me_f53_7 dX5_noteShare_12 ?_
  refine me_iload_n X (i := 2) 0 rfl dX5_noteShare_15 ?_
  refine me_if_ne X 32 (by decide) dX5_noteShare_16 (fun c1 => ?_) (fun c1 => ?_)
  · have h := me_in c1 h
    refine me_iload_n X (i := 2) 0 rfl dX5_noteShare_32 ?_
    refine me_iconst X dX5_noteShare_33 ic_1 ?_
    refine me_icmp_ne X 50 (by decide) dX5_noteShare_34 (fun c2 => ?_) (fun c2 => ?_)
    · have h := me_in c2 h
      refine me_aload_n X (i := 0) 1 rfl dX5_noteShare_50 ?_
      refine me_dup X rfl dX5_noteShare_51 ?_
      refine me_geti X kF_X5_47 (Nat.le_of_ble_eq_true rfl) me_k53 me_f53_9 dX5_noteShare_52 ?_
      refine me_iconst X dX5_noteShare_55 ic_1 ?_
      refine me_iadd X dX5_noteShare_56 ?_
      refine me_puti X kG_X5_47 (Nat.le_of_ble_eq_true rfl) me_k53 me_f53_9 dX5_noteShare_57 ?_
      obtain rfl := me_so h
      exact me_vret X hr hlk dX5_noteShare_60
    · have h := me_ip c2 h
      refine me_aload_n X (i := 0) 1 rfl dX5_noteShare_37 ?_
      refine me_dup X rfl dX5_noteShare_38 ?_
      refine me_geti X kF_X5_50 (Nat.le_of_ble_eq_true rfl) me_k53 me_f53_10 dX5_noteShare_39 ?_
      refine me_iload_n X (i := 1) 2 rfl dX5_noteShare_42 ?_
      refine me_ior X dX5_noteShare_43 ?_
      refine me_puti X kG_X5_50 (Nat.le_of_ble_eq_true rfl) me_k53 me_f53_10 dX5_noteShare_44 ?_
      refine me_goto X 60 (by decide) dX5_noteShare_47 ?_
      obtain rfl := me_so h
      exact me_vret X hr hlk dX5_noteShare_60
  · have h := me_ip c1 h
    refine me_aload_n X (i := 0) 1 rfl dX5_noteShare_19 ?_
    refine me_dup X rfl dX5_noteShare_20 ?_
    refine me_geti X kF_X5_44 (Nat.le_of_ble_eq_true rfl) me_k53 me_f53_8 dX5_noteShare_21 ?_
    refine me_iconst X dX5_noteShare_24 ic_1 ?_
    refine me_iadd X dX5_noteShare_25 ?_
    refine me_puti X kG_X5_44 (Nat.le_of_ble_eq_true rfl) me_k53 me_f53_8 dX5_noteShare_26 ?_
    refine me_goto X 60 (by decide) dX5_noteShare_29 ?_
    obtain rfl := me_so h
    exact me_vret X hr hlk dX5_noteShare_60
def mX5_nextShare_53_L2 (p0 : Int32) : (Int32 × me_M) → Option ((Int32 × me_M) ⊕ ((me_M) ⊕ (Int32 × me_M)))
  | (x2_1, M1) => (if (M1.1 53 5) ≤ x2_1 then some (.inr (.inl M1)) else (if p0 ≤ (M1.1 53 6) then ((me_r M1 57 5 x2_1).bind fun v1 => ((me_t (me_s M1 53 6 ((M1.1 53 6) - v1)) 57 5 x2_1 0).bind fun M2 => some (.inl ((x2_1 + 1), M2)))) else ((me_r M1 57 5 x2_1).bind fun v2 => ((me_t M1 57 5 x2_1 (v2 + 1)).bind fun M3 => some (.inr (.inr (1, (me_s M3 53 6 ((M3.1 53 6) + 1)))))))))
def mX5_nextShare_53 (M : me_M) (p0 : Int32) : Option (Int32 × me_M) :=
  ((me_l (mX5_nextShare_53_L2 p0) me_fu (0, M)).bind fun o => Sum.elim (fun M4 => some (0, M4)) (fun res => some res) o)
set_option maxRecDepth 100000 in
set_option maxHeartbeats 4000000 in
theorem ctX5_nextShare_53 {l : Launch} {n nt : Nat} (hn : 63 ≤ n) (hnt : 1 ≤ nt) {M : me_M} {p0 : Int32} {r : Int32} {M' : me_M} (h : mX5_nextShare_53 M p0 = some (r, M')) : me_Ct l yX5_nextShare cX5_nextShare 3 (some .boolean) 0 n nt (fun ad => [.ref (ad 53), .int p0]) M (fun _ => some (.int r)) M' := by
  unfold mX5_nextShare_53 at h
  refine me_enter (N0 := 63) RX5 rfl (plainFor_of_name pl_RX5) hn (Nat.le_trans (by decide) hnt) (fun _ => Nat.le_of_ble_eq_true rfl) ?_
  intro p e R s m args below meth c D cA ad tys A X hr hlk
  refine me_sub (L' := [(0, .ref (ad 53)), (1, .int p0)]) [0, 1] rfl ?_
  refine me_iconst X dX5_nextShare_0 ic_0 ?_
  refine me_istore_n X (i := 2) [(2, .int 0), (0, .ref (ad 53)), (1, .int p0)] (Nat.le_of_ble_eq_true rfl) rfl dX5_nextShare_1 ?_
  obtain ⟨o0, hq1l, hq1⟩ := me_bd h
  have hx1 : ∀ (M4 : me_M), o0 = .inl M4 → me_W p l e R s m args below meth c 0 0 (MQ below (me_Qc D cA ad n A (some (.int r)) M') args s 0 0 A) D cA ad n 3 A 68 [] [] M4 := by
    intro M4 q
    subst q
    have h := me_el hq1
    refine me_iconst X dX5_nextShare_68 ic_0 ?_
    obtain ⟨rfl, rfl⟩ := me_sp h
    exact me_zret X (by decide) hr hlk dX5_nextShare_69
  refine me_sub (L' := [(0, .ref (ad 53)), (1, .int p0), (2, .int 0)]) [1, 2, 0] rfl ?_
  refine me_l_W (b := (mX5_nextShare_53_L2 p0)) (P := fun w => me_W p l e R s m args below meth c 0 0 (MQ below (me_Qc D cA ad n A (some (.int r)) M') args s 0 0 A) D cA ad n 3 A 2 [(0, .ref (ad 53)), (1, .int p0), (2, .int w.1)] [] w.2) (r := o0) ?_ me_fu (0, M) hq1l
  rintro ⟨x2_1, M1⟩ z1 h hb1 - hr1
  unfold mX5_nextShare_53_L2 at h
  refine me_iload_n X (i := 2) 2 rfl dX5_nextShare_2 ?_
  refine me_aload_n X (i := 0) 0 rfl dX5_nextShare_3 ?_
  refine me_geti X kF_X5_28 (Nat.le_of_ble_eq_true rfl) me_k53 me_f53_5 dX5_nextShare_4 ?_
  refine me_icmp_ge X 68 (by decide) dX5_nextShare_7 (fun c1 => ?_) (fun c1 => ?_)
  · have h := me_ip c1 h
    obtain rfl := me_so h
    have q := hr1 _ rfl
    refine me_sub (L' := []) [] rfl ?_
    subst q
    exact hx1 _ rfl
  · have h := me_in c1 h
    refine me_aload_n X (i := 0) 0 rfl dX5_nextShare_10 ?_
    refine me_geti X kF_X5_73 (Nat.le_of_ble_eq_true rfl) me_k53 me_f53_6 dX5_nextShare_11 ?_
    refine me_iload_n X (i := 1) 1 rfl dX5_nextShare_14 ?_
    refine me_icmp_ge X 40 (by decide) dX5_nextShare_15 (fun c2 => ?_) (fun c2 => ?_)
    · have h := me_ip c2 h
      refine me_aload_n X (i := 0) 0 rfl dX5_nextShare_40 ?_
      refine me_dup X rfl dX5_nextShare_41 ?_
      refine me_geti X kF_X5_73 (Nat.le_of_ble_eq_true rfl) me_k53 me_f53_6 dX5_nextShare_42 ?_
      refine me_aload_n X (i := 0) 0 rfl dX5_nextShare_45 ?_
      refine me_getr X 57 kF_X5_21 (Nat.le_of_ble_eq_true rfl) me_k53 me_f53_3 dX5_nextShare_46 ?_
      refine me_iload_n X (i := 2) 2 rfl dX5_nextShare_49 ?_
      obtain ⟨v1, e1, h⟩ := me_bd h
      refine me_iald X (Nat.le_of_ble_eq_true rfl) me_k57 e1 dX5_nextShare_50 ?_
      refine me_isub X dX5_nextShare_51 ?_
      refine me_puti X kG_X5_73 (Nat.le_of_ble_eq_true rfl) me_k53 me_f53_6 dX5_nextShare_52 ?_
      refine me_aload_n X (i := 0) 0 rfl dX5_nextShare_55 ?_
      refine me_getr X 57 kF_X5_21 (Nat.le_of_ble_eq_true rfl) me_k53 me_f53_3 dX5_nextShare_56 ?_
      refine me_iload_n X (i := 2) 2 rfl dX5_nextShare_59 ?_
      refine me_iconst X dX5_nextShare_60 ic_0 ?_
      obtain ⟨M2, e2, h⟩ := me_bd h
      refine me_iast X (Nat.le_of_ble_eq_true rfl) me_k57 e2 dX5_nextShare_61 ?_
      refine me_iinc X (v := (x2_1 + 1)) 2 rfl (in_1 _) [(2, .int (x2_1 + 1)), (0, .ref (ad 53)), (1, .int p0)] (Nat.le_of_ble_eq_true rfl) rfl dX5_nextShare_62 ?_
      refine me_goto X 2 (by decide) dX5_nextShare_65 ?_
      obtain rfl := me_so h
      refine me_sub (L' := [(0, .ref (ad 53)), (1, .int p0), (2, .int (x2_1 + 1))]) [1, 2, 0] rfl ?_
      exact hb1 ((x2_1 + 1), M2) rfl
    · have h := me_in c2 h
      refine me_aload_n X (i := 0) 0 rfl dX5_nextShare_18 ?_
      refine me_getr X 57 kF_X5_21 (Nat.le_of_ble_eq_true rfl) me_k53 me_f53_3 dX5_nextShare_19 ?_
      refine me_iload_n X (i := 2) 2 rfl dX5_nextShare_22 ?_
      refine me_dup2 X rfl rfl dX5_nextShare_23 ?_
      obtain ⟨v2, e3, h⟩ := me_bd h
      refine me_iald X (Nat.le_of_ble_eq_true rfl) me_k57 e3 dX5_nextShare_24 ?_
      refine me_iconst X dX5_nextShare_25 ic_1 ?_
      refine me_iadd X dX5_nextShare_26 ?_
      obtain ⟨M3, e4, h⟩ := me_bd h
      refine me_iast X (Nat.le_of_ble_eq_true rfl) me_k57 e4 dX5_nextShare_27 ?_
      refine me_aload_n X (i := 0) 0 rfl dX5_nextShare_28 ?_
      refine me_dup X rfl dX5_nextShare_29 ?_
      refine me_geti X kF_X5_73 (Nat.le_of_ble_eq_true rfl) me_k53 me_f53_6 dX5_nextShare_30 ?_
      refine me_iconst X dX5_nextShare_33 ic_1 ?_
      refine me_iadd X dX5_nextShare_34 ?_
      refine me_puti X kG_X5_73 (Nat.le_of_ble_eq_true rfl) me_k53 me_f53_6 dX5_nextShare_35 ?_
      refine me_iconst X dX5_nextShare_38 ic_1 ?_
      obtain rfl := me_so h
      have q := hr1 _ rfl
      subst q
      have h : some (1, (me_s M3 53 6 ((M3.1 53 6) + 1))) = some (r, M') := hq1
      obtain ⟨rfl, rfl⟩ := me_sp h
      exact me_zret X (by decide) hr hlk dX5_nextShare_39
def mX5_surveyShares_53_L33 (v1 : Int32) : (Int32 × Int32 × me_M) → Option ((Int32 × Int32 × me_M) ⊕ (me_M))
  | (x2_1, x3_1, M2) => (if 126 ≤ x3_1 then some (.inr M2) else (if x2_1 = 0 then some (.inr M2) else ((mX5_coveringBits_53 M2).bind fun v3 => ((mX5_noteShare_53 M2 v3).bind fun M3 => ((mX5_nextShare_53 M3 v1).bind fun (v5, M4) => some (.inl (v5, (x3_1 + 1), M4)))))))
def mX5_surveyShares_53 (M : me_M)  : Option me_M :=
  ((mX5_budget_53 M).bind fun v1 => ((mX5_firstShare_53 (me_s (me_s (me_s (me_s M 53 7 0) 53 8 0) 53 9 0) 53 10 0)).bind fun M1 => ((me_l (mX5_surveyShares_53_L33 v1) me_fu (1, 0, M1)).bind fun M5 => some M5)))
set_option maxRecDepth 100000 in
set_option maxHeartbeats 4000000 in
theorem ctX5_surveyShares_53 {l : Launch} {n nt : Nat} (hn : 63 ≤ n) (hnt : 1 ≤ nt) {M : me_M} {M' : me_M} (h : mX5_surveyShares_53 M = some M') : me_Ct l yX5_surveyShares cX5_surveyShares 4 none 2 n nt (fun ad => [.ref (ad 53)]) M (fun _ => none) M' := by
  unfold mX5_surveyShares_53 at h
  refine me_enter (N0 := 63) RX5 rfl (plainFor_of_name pl_RX5) hn (Nat.le_trans (by decide) hnt) (fun _ => Nat.le_of_ble_eq_true rfl) ?_
  intro p e R s m args below meth c D cA ad tys A X hr hlk
  refine me_sub (L' := [(0, .ref (ad 53))]) [0] rfl ?_
  refine me_aload_n X (i := 0) 0 rfl dX5_surveyShares_0 ?_
  obtain ⟨v1, e1, h⟩ := me_bd h
  refine me_callVi X [] (ctX5_budget_53 hn (Nat.le_trans (by decide) hnt) e1) kV_X5_37 rfl rfl (Nat.le_of_ble_eq_true rfl) me_k53 (Nat.le_of_ble_eq_true rfl) (Nat.le_refl _) (Nat.le_of_ble_eq_true rfl) dX5_surveyShares_1 ?_
  refine me_istore_n X (i := 1) [(1, .int v1), (0, .ref (ad 53))] (Nat.le_of_ble_eq_true rfl) rfl dX5_surveyShares_4 ?_
  refine me_aload_n X (i := 0) 1 rfl dX5_surveyShares_5 ?_
  refine me_iconst X dX5_surveyShares_6 ic_0 ?_
  refine me_puti X kG_X5_41 (Nat.le_of_ble_eq_true rfl) me_k53 me_f53_7 dX5_surveyShares_7 ?_
  refine me_aload_n X (i := 0) 1 rfl dX5_surveyShares_10 ?_
  refine me_iconst X dX5_surveyShares_11 ic_0 ?_
  refine me_puti X kG_X5_44 (Nat.le_of_ble_eq_true rfl) me_k53 me_f53_8 dX5_surveyShares_12 ?_
  refine me_aload_n X (i := 0) 1 rfl dX5_surveyShares_15 ?_
  refine me_iconst X dX5_surveyShares_16 ic_0 ?_
  refine me_puti X kG_X5_47 (Nat.le_of_ble_eq_true rfl) me_k53 me_f53_9 dX5_surveyShares_17 ?_
  refine me_aload_n X (i := 0) 1 rfl dX5_surveyShares_20 ?_
  refine me_iconst X dX5_surveyShares_21 ic_0 ?_
  refine me_puti X kG_X5_50 (Nat.le_of_ble_eq_true rfl) me_k53 me_f53_10 dX5_surveyShares_22 ?_
  refine me_aload_n X (i := 0) 1 rfl dX5_surveyShares_25 ?_
  obtain ⟨M1, e2, h⟩ := me_bd h
  refine me_callVv X [] (ctX5_firstShare_53 hn (Nat.le_trans (by decide) hnt) e2) kV_X5_53 rfl rfl (Nat.le_of_ble_eq_true rfl) me_k53 (Nat.le_of_ble_eq_true rfl) (Nat.le_refl _) (Nat.le_of_ble_eq_true rfl) dX5_surveyShares_26 ?_
  refine me_iconst X dX5_surveyShares_29 ic_1 ?_
  refine me_istore_n X (i := 2) [(2, .int 1), (1, .int v1), (0, .ref (ad 53))] (Nat.le_of_ble_eq_true rfl) rfl dX5_surveyShares_30 ?_
  refine me_iconst X dX5_surveyShares_31 ic_0 ?_
  refine me_istore_n X (i := 3) [(3, .int 0), (2, .int 1), (1, .int v1), (0, .ref (ad 53))] (Nat.le_of_ble_eq_true rfl) rfl dX5_surveyShares_32 ?_
  obtain ⟨M5, hq1, h⟩ := me_bd h
  have hx1 : me_W p l e R s m args below meth c 0 0 (MQ below (me_Qc D cA ad n A none M') args s 0 0 A) D cA ad n 4 A 63 [] [] M5 := by
    obtain rfl := me_so h
    exact me_vret X hr hlk dX5_surveyShares_63
  refine me_sub (L' := [(0, .ref (ad 53)), (1, .int v1), (2, .int 1), (3, .int 0)]) [3, 2, 1, 0] rfl ?_
  refine me_l_W (b := (mX5_surveyShares_53_L33 v1)) (P := fun w => me_W p l e R s m args below meth c 0 0 (MQ below (me_Qc D cA ad n A none M') args s 0 0 A) D cA ad n 4 A 33 [(0, .ref (ad 53)), (1, .int v1), (2, .int w.1), (3, .int w.2.1)] [] w.2.2) (r := M5) ?_ me_fu (1, 0, M1) hq1
  rintro ⟨x2_1, x3_1, M2⟩ z1 h hb1 - hr1
  unfold mX5_surveyShares_53_L33 at h
  refine me_iload_n X (i := 3) 3 rfl dX5_surveyShares_33 ?_
  refine me_bipush X dX5_surveyShares_34 ib_126 ?_
  refine me_icmp_ge X 63 (by decide) dX5_surveyShares_36 (fun c1 => ?_) (fun c1 => ?_)
  · have h := me_ip c1 h
    obtain rfl := me_so h
    have q := hr1 _ rfl
    refine me_sub (L' := []) [] rfl ?_
    cases q
    exact hx1
  · have h := me_in c1 h
    refine me_iload_n X (i := 2) 2 rfl dX5_surveyShares_39 ?_
    refine me_if_eq X 63 (by decide) dX5_surveyShares_40 (fun c2 => ?_) (fun c2 => ?_)
    · have h := me_ip c2 h
      obtain rfl := me_so h
      have q := hr1 _ rfl
      refine me_sub (L' := []) [] rfl ?_
      cases q
      exact hx1
    · have h := me_in c2 h
      refine me_aload_n X (i := 0) 0 rfl dX5_surveyShares_43 ?_
      refine me_aload_n X (i := 0) 0 rfl dX5_surveyShares_44 ?_
      obtain ⟨v3, e3, h⟩ := me_bd h
      refine me_callVi X [] (ctX5_coveringBits_53 hn (Nat.le_trans (by decide) hnt) e3) kV_X5_56 rfl rfl (Nat.le_of_ble_eq_true rfl) me_k53 (Nat.le_of_ble_eq_true rfl) (Nat.le_refl _) (Nat.le_of_ble_eq_true rfl) dX5_surveyShares_45 ?_
      obtain ⟨M3, e4, h⟩ := me_bd h
      refine me_callVv X [.int v3] (ctX5_noteShare_53 hn (Nat.le_trans (by decide) hnt) e4) kV_X5_59 rfl rfl (Nat.le_of_ble_eq_true rfl) me_k53 (Nat.le_of_ble_eq_true rfl) (Nat.le_refl _) (Nat.le_of_ble_eq_true rfl) dX5_surveyShares_48 ?_
      refine me_aload_n X (i := 0) 0 rfl dX5_surveyShares_51 ?_
      refine me_iload_n X (i := 1) 1 rfl dX5_surveyShares_52 ?_
      obtain ⟨⟨v5, M4⟩, e5, h⟩ := me_bd h
      refine me_callVi X [.int v1] (ctX5_nextShare_53 hn (Nat.le_trans (by decide) hnt) e5) kV_X5_63 rfl rfl (Nat.le_of_ble_eq_true rfl) me_k53 (Nat.le_of_ble_eq_true rfl) (Nat.le_refl _) (Nat.le_of_ble_eq_true rfl) dX5_surveyShares_53 ?_
      refine me_istore_n X (i := 2) [(2, .int v5), (0, .ref (ad 53)), (1, .int v1), (3, .int x3_1)] (Nat.le_of_ble_eq_true rfl) rfl dX5_surveyShares_56 ?_
      refine me_iinc X (v := (x3_1 + 1)) 3 rfl (in_1 _) [(3, .int (x3_1 + 1)), (2, .int v5), (0, .ref (ad 53)), (1, .int v1)] (Nat.le_of_ble_eq_true rfl) rfl dX5_surveyShares_57 ?_
      refine me_goto X 33 (by decide) dX5_surveyShares_60 ?_
      obtain rfl := me_so h
      refine me_sub (L' := [(0, .ref (ad 53)), (1, .int v1), (2, .int v5), (3, .int (x3_1 + 1))]) [2, 3, 1, 0] rfl ?_
      exact hb1 (v5, (x3_1 + 1), M4) rfl
def mX6_skipBlanks_52_L0  : (me_M) → Option ((me_M) ⊕ (me_M))
  | M1 => (if (M1.1 52 1) ≤ (M1.1 52 2) then some (.inr M1) else ((me_r M1 2 240 (M1.1 52 2)).bind fun v1 => (if v1 = 32 then some (.inl (me_s M1 52 2 ((M1.1 52 2) + 1))) else some (.inr M1))))
def mX6_skipBlanks_52 (M : me_M)  : Option me_M :=
  ((me_l mX6_skipBlanks_52_L0 me_fu M).bind fun M2 => some M2)
set_option maxRecDepth 100000 in
set_option maxHeartbeats 4000000 in
theorem ctX6_skipBlanks_52 {l : Launch} {n nt : Nat} (hn : 63 ≤ n) (hnt : 1 ≤ nt) {M : me_M} {M' : me_M} (h : mX6_skipBlanks_52 M = some M') : me_Ct l yX6_skipBlanks cX6_skipBlanks 1 none 0 n nt (fun ad => [.ref (ad 52)]) M (fun _ => none) M' := by
  unfold mX6_skipBlanks_52 at h
  refine me_enter (N0 := 63) RX6 rfl (plainFor_of_name pl_RX6) hn (Nat.le_trans (by decide) hnt) (fun _ => Nat.le_of_ble_eq_true rfl) ?_
  intro p e R s m args below meth c D cA ad tys A X hr hlk
  refine me_sub (L' := [(0, .ref (ad 52))]) [0] rfl ?_
  obtain ⟨M2, hq1, h⟩ := me_bd h
  have hx1 : me_W p l e R s m args below meth c 0 0 (MQ below (me_Qc D cA ad n A none M') args s 0 0 A) D cA ad n 1 A 41 [] [] M2 := by
    obtain rfl := me_so h
    exact me_vret X hr hlk dX6_skipBlanks_41
  refine me_l_W (b := mX6_skipBlanks_52_L0) (P := fun w => me_W p l e R s m args below meth c 0 0 (MQ below (me_Qc D cA ad n A none M') args s 0 0 A) D cA ad n 1 A 0 [(0, .ref (ad 52))] [] w) (r := M2) ?_ me_fu M hq1
  rintro M1 z1 h hb1 - hr1
  unfold mX6_skipBlanks_52_L0 at h
  refine me_aload_n X (i := 0) 0 rfl dX6_skipBlanks_0 ?_
  refine me_geti X kF_X6_22 (Nat.le_of_ble_eq_true rfl) me_k52 me_f52_2 dX6_skipBlanks_1 ?_
  refine me_aload_n X (i := 0) 0 rfl dX6_skipBlanks_4 ?_
  refine me_geti X kF_X6_19 (Nat.le_of_ble_eq_true rfl) me_k52 me_f52_1 dX6_skipBlanks_5 ?_
  refine me_icmp_ge X 41 (by decide) dX6_skipBlanks_8 (fun c1 => ?_) (fun c1 => ?_)
  · have h := me_ip c1 h
    obtain rfl := me_so h
    have q := hr1 _ rfl
    refine me_sub (L' := []) [] rfl ?_
    cases q
    exact hx1
  · have h := me_in c1 h
    refine me_aload_n X (i := 0) 0 rfl dX6_skipBlanks_11 ?_
    refine me_getr X 1 kF_X6_9 (Nat.le_of_ble_eq_true rfl) me_k52 me_f52_0 dX6_skipBlanks_12 ?_
    refine me_getr X 2 kF_X6_104 (Nat.le_of_ble_eq_true rfl) me_k1 me_f1_0 dX6_skipBlanks_15 ?_
    refine me_aload_n X (i := 0) 0 rfl dX6_skipBlanks_18 ?_
    refine me_geti X kF_X6_22 (Nat.le_of_ble_eq_true rfl) me_k52 me_f52_2 dX6_skipBlanks_19 ?_
    obtain ⟨v1, e1, h⟩ := me_bd h
    refine me_iald X (Nat.le_of_ble_eq_true rfl) me_k2 e1 dX6_skipBlanks_22 ?_
    refine me_bipush X dX6_skipBlanks_23 ib_32 ?_
    refine me_icmp_ne X 41 (by decide) dX6_skipBlanks_25 (fun c2 => ?_) (fun c2 => ?_)
    · have h := me_in c2 h
      obtain rfl := me_so h
      have q := hr1 _ rfl
      refine me_sub (L' := []) [] rfl ?_
      cases q
      exact hx1
    · have h := me_ip c2 h
      refine me_aload_n X (i := 0) 0 rfl dX6_skipBlanks_28 ?_
      refine me_dup X rfl dX6_skipBlanks_29 ?_
      refine me_geti X kF_X6_22 (Nat.le_of_ble_eq_true rfl) me_k52 me_f52_2 dX6_skipBlanks_30 ?_
      refine me_iconst X dX6_skipBlanks_33 ic_1 ?_
      refine me_iadd X dX6_skipBlanks_34 ?_
      refine me_puti X kG_X6_22 (Nat.le_of_ble_eq_true rfl) me_k52 me_f52_2 dX6_skipBlanks_35 ?_
      refine me_goto X 0 (by decide) dX6_skipBlanks_38 ?_
      obtain rfl := me_so h
      exact hb1 (me_s M1 52 2 ((M1.1 52 2) + 1)) rfl
def mX6_isDigitByte (p0 : Int32) : Option Int32 :=
  (if p0 < 48 then some 0 else (if 57 < p0 then some 0 else some 1))
set_option maxRecDepth 100000 in
set_option maxHeartbeats 4000000 in
theorem ctX6_isDigitByte {l : Launch} {n nt : Nat} (hn : 63 ≤ n) (hnt : 1 ≤ nt) {M : me_M} {p0 : Int32} {r : Int32} (h : mX6_isDigitByte p0 = some r) : me_Ct l yX6_isDigitByte cX6_isDigitByte 1 (some .boolean) 0 n nt (fun _ => [.int p0]) M (fun _ => some (.int r)) M := by
  unfold mX6_isDigitByte at h
  refine me_enter (N0 := 63) RX6 rfl (plainFor_of_name pl_RX6) hn (Nat.le_trans (by decide) hnt) (fun _ => Nat.le_of_ble_eq_true rfl) ?_
  intro p e R s m args below meth c D cA ad tys A X hr hlk
  refine me_sub (L' := [(0, .int p0)]) [0] rfl ?_
  refine me_iload_n X (i := 0) 0 rfl dX6_isDigitByte_0 ?_
  refine me_bipush X dX6_isDigitByte_1 ib_48 ?_
  refine me_icmp_lt X 16 (by decide) dX6_isDigitByte_3 (fun c1 => ?_) (fun c1 => ?_)
  · have h := me_ip c1 h
    refine me_iconst X dX6_isDigitByte_16 ic_0 ?_
    obtain rfl := me_so h
    exact me_zret X (by decide) hr hlk dX6_isDigitByte_17
  · have h := me_in c1 h
    refine me_iload_n X (i := 0) 0 rfl dX6_isDigitByte_6 ?_
    refine me_bipush X dX6_isDigitByte_7 ib_57 ?_
    refine me_icmp_gt X 16 (by decide) dX6_isDigitByte_9 (fun c2 => ?_) (fun c2 => ?_)
    · have h := me_ip c2 h
      refine me_iconst X dX6_isDigitByte_16 ic_0 ?_
      obtain rfl := me_so h
      exact me_zret X (by decide) hr hlk dX6_isDigitByte_17
    · have h := me_in c2 h
      refine me_iconst X dX6_isDigitByte_12 ic_1 ?_
      refine me_goto X 17 (by decide) dX6_isDigitByte_13 ?_
      obtain rfl := me_so h
      exact me_zret X (by decide) hr hlk dX6_isDigitByte_17
def mX6_digitsFrom_52_L7 (M : me_M) : (Int32 × Int32) → Option ((Int32 × Int32) ⊕ (Int32))
  | (x1_1, x2_1) => (if (M.1 52 1) ≤ x2_1 then some (.inr x1_1) else ((me_r M 2 240 x2_1).bind fun v1 => ((mX6_isDigitByte v1).bind fun v2 => (if v2 = 0 then some (.inr x1_1) else some (.inl ((x1_1 + 1), (x2_1 + 1)))))))
def mX6_digitsFrom_52 (M : me_M)  : Option Int32 :=
  ((me_l (mX6_digitsFrom_52_L7 M) me_fu (0, (M.1 52 2))).bind fun y1_1 => some y1_1)
set_option maxRecDepth 100000 in
set_option maxHeartbeats 4000000 in
theorem ctX6_digitsFrom_52 {l : Launch} {n nt : Nat} (hn : 63 ≤ n) (hnt : 1 ≤ nt) {M : me_M} {r : Int32} (h : mX6_digitsFrom_52 M = some r) : me_Ct l yX6_digitsFrom cX6_digitsFrom 3 (some .int) 1 n nt (fun ad => [.ref (ad 52)]) M (fun _ => some (.int r)) M := by
  unfold mX6_digitsFrom_52 at h
  refine me_enter (N0 := 63) RX6 rfl (plainFor_of_name pl_RX6) hn (Nat.le_trans (by decide) hnt) (fun _ => Nat.le_of_ble_eq_true rfl) ?_
  intro p e R s m args below meth c D cA ad tys A X hr hlk
  refine me_sub (L' := [(0, .ref (ad 52))]) [0] rfl ?_
  refine me_iconst X dX6_digitsFrom_0 ic_0 ?_
  refine me_istore_n X (i := 1) [(1, .int 0), (0, .ref (ad 52))] (Nat.le_of_ble_eq_true rfl) rfl dX6_digitsFrom_1 ?_
  refine me_aload_n X (i := 0) 1 rfl dX6_digitsFrom_2 ?_
  refine me_geti X kF_X6_22 (Nat.le_of_ble_eq_true rfl) me_k52 me_f52_2 dX6_digitsFrom_3 ?_
  refine me_istore_n X (i := 2) [(2, .int (M.1 52 2)), (1, .int 0), (0, .ref (ad 52))] (Nat.le_of_ble_eq_true rfl) rfl dX6_digitsFrom_6 ?_
  obtain ⟨y1_1, hq1, h⟩ := me_bd h
  have hx1 : me_W p l e R s m args below meth c 0 0 (MQ below (me_Qc D cA ad n A (some (.int r)) M) args s 0 0 A) D cA ad n 3 A 39 [(1, .int y1_1)] [] M := by
    refine me_iload_n X (i := 1) 0 rfl dX6_digitsFrom_39 ?_
    obtain rfl := me_so h
    exact me_iret X hr hlk dX6_digitsFrom_40
  refine me_sub (L' := [(0, .ref (ad 52)), (1, .int 0), (2, .int (M.1 52 2))]) [2, 1, 0] rfl ?_
  refine me_l_W (b := (mX6_digitsFrom_52_L7 M)) (P := fun w => me_W p l e R s m args below meth c 0 0 (MQ below (me_Qc D cA ad n A (some (.int r)) M) args s 0 0 A) D cA ad n 3 A 7 [(0, .ref (ad 52)), (1, .int w.1), (2, .int w.2)] [] M) (r := y1_1) ?_ me_fu (0, (M.1 52 2)) hq1
  rintro ⟨x1_1, x2_1⟩ z1 h hb1 - hr1
  unfold mX6_digitsFrom_52_L7 at h
  refine me_iload_n X (i := 2) 2 rfl dX6_digitsFrom_7 ?_
  refine me_aload_n X (i := 0) 0 rfl dX6_digitsFrom_8 ?_
  refine me_geti X kF_X6_19 (Nat.le_of_ble_eq_true rfl) me_k52 me_f52_1 dX6_digitsFrom_9 ?_
  refine me_icmp_ge X 39 (by decide) dX6_digitsFrom_12 (fun c1 => ?_) (fun c1 => ?_)
  · have h := me_ip c1 h
    obtain rfl := me_so h
    have q := hr1 _ rfl
    refine me_sub (L' := [(1, .int x1_1)]) [1] rfl ?_
    cases q
    exact hx1
  · have h := me_in c1 h
    refine me_aload_n X (i := 0) 0 rfl dX6_digitsFrom_15 ?_
    refine me_getr X 1 kF_X6_9 (Nat.le_of_ble_eq_true rfl) me_k52 me_f52_0 dX6_digitsFrom_16 ?_
    refine me_getr X 2 kF_X6_104 (Nat.le_of_ble_eq_true rfl) me_k1 me_f1_0 dX6_digitsFrom_19 ?_
    refine me_iload_n X (i := 2) 2 rfl dX6_digitsFrom_22 ?_
    obtain ⟨v1, e1, h⟩ := me_bd h
    refine me_iald X (Nat.le_of_ble_eq_true rfl) me_k2 e1 dX6_digitsFrom_23 ?_
    obtain ⟨v2, e2, h⟩ := me_bd h
    refine me_callSi X [.int v1] (ctX6_isDigitByte hn (Nat.le_trans (by decide) hnt) e2) kS_X6_109 rfl rfl (Nat.le_of_ble_eq_true rfl) (Nat.le_refl _) (Nat.le_of_ble_eq_true rfl) dX6_digitsFrom_24 ?_
    refine me_if_eq X 39 (by decide) dX6_digitsFrom_27 (fun c2 => ?_) (fun c2 => ?_)
    · have h := me_ip c2 h
      obtain rfl := me_so h
      have q := hr1 _ rfl
      refine me_sub (L' := [(1, .int x1_1)]) [1] rfl ?_
      cases q
      exact hx1
    · have h := me_in c2 h
      refine me_iinc X (v := (x1_1 + 1)) 1 rfl (in_1 _) [(1, .int (x1_1 + 1)), (0, .ref (ad 52)), (2, .int x2_1)] (Nat.le_of_ble_eq_true rfl) rfl dX6_digitsFrom_30 ?_
      refine me_iinc X (v := (x2_1 + 1)) 2 rfl (in_1 _) [(2, .int (x2_1 + 1)), (1, .int (x1_1 + 1)), (0, .ref (ad 52))] (Nat.le_of_ble_eq_true rfl) rfl dX6_digitsFrom_33 ?_
      refine me_goto X 7 (by decide) dX6_digitsFrom_36 ?_
      obtain rfl := me_so h
      refine me_sub (L' := [(0, .ref (ad 52)), (1, .int (x1_1 + 1)), (2, .int (x2_1 + 1))]) [2, 1, 0] rfl ?_
      exact hb1 ((x1_1 + 1), (x2_1 + 1)) rfl
def mX6_isDigit_52 (M : me_M)  : Option Int32 :=
  (if (M.1 52 1) ≤ (M.1 52 2) then some 0 else ((me_r M 2 240 (M.1 52 2)).bind fun v1 => ((mX6_isDigitByte v1).bind fun v2 => (if v2 = 0 then some 0 else some 1))))
set_option maxRecDepth 100000 in
set_option maxHeartbeats 4000000 in
theorem ctX6_isDigit_52 {l : Launch} {n nt : Nat} (hn : 63 ≤ n) (hnt : 1 ≤ nt) {M : me_M} {r : Int32} (h : mX6_isDigit_52 M = some r) : me_Ct l yX6_isDigit cX6_isDigit 1 (some .boolean) 1 n nt (fun ad => [.ref (ad 52)]) M (fun _ => some (.int r)) M := by
  unfold mX6_isDigit_52 at h
  refine me_enter (N0 := 63) RX6 rfl (plainFor_of_name pl_RX6) hn (Nat.le_trans (by decide) hnt) (fun _ => Nat.le_of_ble_eq_true rfl) ?_
  intro p e R s m args below meth c D cA ad tys A X hr hlk
  refine me_sub (L' := [(0, .ref (ad 52))]) [0] rfl ?_
  refine me_aload_n X (i := 0) 0 rfl dX6_isDigit_0 ?_
  refine me_geti X kF_X6_22 (Nat.le_of_ble_eq_true rfl) me_k52 me_f52_2 dX6_isDigit_1 ?_
  refine me_aload_n X (i := 0) 0 rfl dX6_isDigit_4 ?_
  refine me_geti X kF_X6_19 (Nat.le_of_ble_eq_true rfl) me_k52 me_f52_1 dX6_isDigit_5 ?_
  refine me_icmp_ge X 33 (by decide) dX6_isDigit_8 (fun c1 => ?_) (fun c1 => ?_)
  · have h := me_ip c1 h
    refine me_iconst X dX6_isDigit_33 ic_0 ?_
    obtain rfl := me_so h
    exact me_zret X (by decide) hr hlk dX6_isDigit_34
  · have h := me_in c1 h
    refine me_aload_n X (i := 0) 0 rfl dX6_isDigit_11 ?_
    refine me_getr X 1 kF_X6_9 (Nat.le_of_ble_eq_true rfl) me_k52 me_f52_0 dX6_isDigit_12 ?_
    refine me_getr X 2 kF_X6_104 (Nat.le_of_ble_eq_true rfl) me_k1 me_f1_0 dX6_isDigit_15 ?_
    refine me_aload_n X (i := 0) 0 rfl dX6_isDigit_18 ?_
    refine me_geti X kF_X6_22 (Nat.le_of_ble_eq_true rfl) me_k52 me_f52_2 dX6_isDigit_19 ?_
    obtain ⟨v1, e1, h⟩ := me_bd h
    refine me_iald X (Nat.le_of_ble_eq_true rfl) me_k2 e1 dX6_isDigit_22 ?_
    obtain ⟨v2, e2, h⟩ := me_bd h
    refine me_callSi X [.int v1] (ctX6_isDigitByte hn (Nat.le_trans (by decide) hnt) e2) kS_X6_109 rfl rfl (Nat.le_of_ble_eq_true rfl) (Nat.le_refl _) (Nat.le_of_ble_eq_true rfl) dX6_isDigit_23 ?_
    refine me_if_eq X 33 (by decide) dX6_isDigit_26 (fun c2 => ?_) (fun c2 => ?_)
    · have h := me_ip c2 h
      refine me_iconst X dX6_isDigit_33 ic_0 ?_
      obtain rfl := me_so h
      exact me_zret X (by decide) hr hlk dX6_isDigit_34
    · have h := me_in c2 h
      refine me_iconst X dX6_isDigit_29 ic_1 ?_
      refine me_goto X 34 (by decide) dX6_isDigit_30 ?_
      obtain rfl := me_so h
      exact me_zret X (by decide) hr hlk dX6_isDigit_34
def mX6_digitHere_52 (M : me_M)  : Option Int32 :=
  ((me_r M 2 240 (M.1 52 2)).bind fun v1 => some (v1 - 48))
set_option maxRecDepth 100000 in
set_option maxHeartbeats 4000000 in
theorem ctX6_digitHere_52 {l : Launch} {n nt : Nat} (hn : 63 ≤ n) (hnt : 1 ≤ nt) {M : me_M} {r : Int32} (h : mX6_digitHere_52 M = some r) : me_Ct l yX6_digitHere cX6_digitHere 1 (some .int) 0 n nt (fun ad => [.ref (ad 52)]) M (fun _ => some (.int r)) M := by
  unfold mX6_digitHere_52 at h
  refine me_enter (N0 := 63) RX6 rfl (plainFor_of_name pl_RX6) hn (Nat.le_trans (by decide) hnt) (fun _ => Nat.le_of_ble_eq_true rfl) ?_
  intro p e R s m args below meth c D cA ad tys A X hr hlk
  refine me_sub (L' := [(0, .ref (ad 52))]) [0] rfl ?_
  refine me_aload_n X (i := 0) 0 rfl dX6_digitHere_0 ?_
  refine me_getr X 1 kF_X6_9 (Nat.le_of_ble_eq_true rfl) me_k52 me_f52_0 dX6_digitHere_1 ?_
  refine me_getr X 2 kF_X6_104 (Nat.le_of_ble_eq_true rfl) me_k1 me_f1_0 dX6_digitHere_4 ?_
  refine me_aload_n X (i := 0) 0 rfl dX6_digitHere_7 ?_
  refine me_geti X kF_X6_22 (Nat.le_of_ble_eq_true rfl) me_k52 me_f52_2 dX6_digitHere_8 ?_
  obtain ⟨v1, e1, h⟩ := me_bd h
  refine me_iald X (Nat.le_of_ble_eq_true rfl) me_k2 e1 dX6_digitHere_11 ?_
  refine me_bipush X dX6_digitHere_12 ib_48 ?_
  refine me_isub X dX6_digitHere_14 ?_
  obtain rfl := me_so h
  exact me_iret X hr hlk dX6_digitHere_15
def mX6_canFollow_J37  : Option Int32 :=
  some 1
def mX6_canFollow (p0 : Int32) (p1 : Int32) (p2 : Int32) : Option Int32 :=
  (if p2 ≤ p0 then some 0 else (if (p1 &&& (1 <<< (p0 &&& 31))) = 0 then (if p1 = 0 then (mX6_canFollow_J37 ) else (if (p1 &&& ((1 <<< ((p0 + 1) &&& 31)) ||| ((1 <<< (p0 &&& 31)) >>> (1 &&& 31)))) = 0 then some 0 else (mX6_canFollow_J37 ))) else some 0))
set_option maxRecDepth 100000 in
set_option maxHeartbeats 4000000 in
theorem ctX6_canFollow {l : Launch} {n nt : Nat} (hn : 63 ≤ n) (hnt : 1 ≤ nt) {M : me_M} {p0 : Int32} {p1 : Int32} {p2 : Int32} {r : Int32} (h : mX6_canFollow p0 p1 p2 = some r) : me_Ct l yX6_canFollow cX6_canFollow 4 (some .boolean) 0 n nt (fun _ => [.int p0, .int p1, .int p2]) M (fun _ => some (.int r)) M := by
  unfold mX6_canFollow at h
  refine me_enter (N0 := 63) RX6 rfl (plainFor_of_name pl_RX6) hn (Nat.le_trans (by decide) hnt) (fun _ => Nat.le_of_ble_eq_true rfl) ?_
  intro p e R s m args below meth c D cA ad tys A X hr hlk
  refine me_sub (L' := [(0, .int p0), (1, .int p1), (2, .int p2)]) [0, 1, 2] rfl ?_
  refine me_iload_n X (i := 0) 0 rfl dX6_canFollow_0 ?_
  refine me_iload_n X (i := 2) 2 rfl dX6_canFollow_1 ?_
  refine me_icmp_ge X 13 (by decide) dX6_canFollow_2 (fun c1 => ?_) (fun c1 => ?_)
  · have h := me_ip c1 h
    refine me_iconst X dX6_canFollow_13 ic_0 ?_
    obtain rfl := me_so h
    exact me_zret X (by decide) hr hlk dX6_canFollow_14
  · have h := me_in c1 h
    refine me_iload_n X (i := 1) 1 rfl dX6_canFollow_5 ?_
    refine me_iconst X dX6_canFollow_6 ic_1 ?_
    refine me_iload_n X (i := 0) 0 rfl dX6_canFollow_7 ?_
    refine me_ishl X dX6_canFollow_8 ?_
    refine me_iand X dX6_canFollow_9 ?_
    refine me_if_eq X 15 (by decide) dX6_canFollow_10 (fun c2 => ?_) (fun c2 => ?_)
    · have h := me_ip c2 h
      refine me_iconst X dX6_canFollow_15 ic_1 ?_
      refine me_iload_n X (i := 0) 0 rfl dX6_canFollow_16 ?_
      refine me_iconst X dX6_canFollow_17 ic_1 ?_
      refine me_iadd X dX6_canFollow_18 ?_
      refine me_ishl X dX6_canFollow_19 ?_
      refine me_iconst X dX6_canFollow_20 ic_1 ?_
      refine me_iload_n X (i := 0) 0 rfl dX6_canFollow_21 ?_
      refine me_ishl X dX6_canFollow_22 ?_
      refine me_iconst X dX6_canFollow_23 ic_1 ?_
      refine me_ishr X dX6_canFollow_24 ?_
      refine me_ior X dX6_canFollow_25 ?_
      refine me_istore_n X (i := 3) [(3, .int ((1 <<< ((p0 + 1) &&& 31)) ||| ((1 <<< (p0 &&& 31)) >>> (1 &&& 31)))), (0, .int p0), (1, .int p1), (2, .int p2)] (Nat.le_of_ble_eq_true rfl) rfl dX6_canFollow_26 ?_
      refine me_iload_n X (i := 1) 2 rfl dX6_canFollow_27 ?_
      have hj37_1 : mX6_canFollow_J37  = some r → me_W p l e R s m args below meth c 0 0 (MQ below (me_Qc D cA ad n A (some (.int r)) M) args s 0 0 A) D cA ad n 4 A 37 [] [] M := by
        intro h
        unfold mX6_canFollow_J37 at h
        refine me_iconst X dX6_canFollow_37 ic_1 ?_
        refine me_goto X 42 (by decide) dX6_canFollow_38 ?_
        obtain rfl := me_so h
        exact me_zret X (by decide) hr hlk dX6_canFollow_42
      refine me_if_eq X 37 (by decide) dX6_canFollow_28 (fun c3 => ?_) (fun c3 => ?_)
      · have h := me_ip c3 h
        refine me_sub (L' := []) [] rfl ?_
        exact hj37_1  h
      · have h := me_in c3 h
        refine me_iload_n X (i := 1) 2 rfl dX6_canFollow_31 ?_
        refine me_iload_n X (i := 3) 0 rfl dX6_canFollow_32 ?_
        refine me_iand X dX6_canFollow_33 ?_
        refine me_if_eq X 41 (by decide) dX6_canFollow_34 (fun c4 => ?_) (fun c4 => ?_)
        · have h := me_ip c4 h
          refine me_iconst X dX6_canFollow_41 ic_0 ?_
          obtain rfl := me_so h
          exact me_zret X (by decide) hr hlk dX6_canFollow_42
        · have h := me_in c4 h
          refine me_sub (L' := []) [] rfl ?_
          exact hj37_1  h
    · have h := me_in c2 h
      refine me_iconst X dX6_canFollow_13 ic_0 ?_
      obtain rfl := me_so h
      exact me_zret X (by decide) hr hlk dX6_canFollow_14
def mX6_fail_52 (M : me_M) (p0 : Int32) : Option (Int32 × me_M) :=
  some (0, (me_s (me_s M 52 3 p0) 52 4 ((me_s M 52 3 p0).1 52 2)))
set_option maxRecDepth 100000 in
set_option maxHeartbeats 4000000 in
theorem ctX6_fail_52 {l : Launch} {n nt : Nat} (hn : 63 ≤ n) (hnt : 1 ≤ nt) {M : me_M} {p0 : Int32} {r : Int32} {M' : me_M} (h : mX6_fail_52 M p0 = some (r, M')) : me_Ct l yX6_fail cX6_fail 2 (some .boolean) 0 n nt (fun ad => [.ref (ad 52), .int p0]) M (fun _ => some (.int r)) M' := by
  unfold mX6_fail_52 at h
  refine me_enter (N0 := 63) RX6 rfl (plainFor_of_name pl_RX6) hn (Nat.le_trans (by decide) hnt) (fun _ => Nat.le_of_ble_eq_true rfl) ?_
  intro p e R s m args below meth c D cA ad tys A X hr hlk
  refine me_sub (L' := [(0, .ref (ad 52)), (1, .int p0)]) [0, 1] rfl ?_
  refine me_aload_n X (i := 0) 0 rfl dX6_fail_0 ?_
  refine me_iload_n X (i := 1) 1 rfl dX6_fail_1 ?_
  refine me_puti X kG_X6_25 (Nat.le_of_ble_eq_true rfl) me_k52 me_f52_3 dX6_fail_2 ?_
  refine me_aload_n X (i := 0) 0 rfl dX6_fail_5 ?_
  refine me_aload_n X (i := 0) 0 rfl dX6_fail_6 ?_
  refine me_geti X kF_X6_22 (Nat.le_of_ble_eq_true rfl) me_k52 me_f52_2 dX6_fail_7 ?_
  refine me_puti X kG_X6_15 (Nat.le_of_ble_eq_true rfl) me_k52 me_f52_4 dX6_fail_10 ?_
  refine me_iconst X dX6_fail_13 ic_0 ?_
  obtain ⟨rfl, rfl⟩ := me_sp h
  exact me_zret X (by decide) hr hlk dX6_fail_14
def mX6_readOrder_52_53_L36  : (Int32 × Int32 × me_M) → Option ((Int32 × Int32 × me_M) ⊕ ((me_M) ⊕ (Int32 × me_M)))
  | (x2_1, x3_1, M2) => (if (M2.1 53 5) ≤ x3_1 then some (.inr (.inl M2)) else ((mX6_isDigit_52 M2).bind fun v3 => (if v3 = 0 then ((mX6_fail_52 M2 1).bind fun (v7, M5) => (if v7 = 0 ∨ v7 = 1 then some (.inr (.inr (v7, M5))) else none)) else ((mX6_digitHere_52 M2).bind fun v4 => ((mX6_canFollow v4 x2_1 (M2.1 53 5)).bind fun v5 => (if v5 = 0 then ((mX6_fail_52 M2 2).bind fun (v6, M4) => (if v6 = 0 ∨ v6 = 1 then some (.inr (.inr (v6, M4))) else none)) else ((me_t M2 54 40 (((M2.1 53 4) * 5) + x3_1) v4).bind fun M3 => some (.inl ((x2_1 ||| (1 <<< (v4 &&& 31))), (x3_1 + 1), (me_s M3 52 2 ((M3.1 52 2) + 1)))))))))))
def mX6_readOrder_52_53_J140 (M6 : me_M) (s1 : Int32) : Option (Int32 × me_M) :=
  ((mX6_fail_52 M6 s1).bind fun (v9, M7) => (if v9 = 0 ∨ v9 = 1 then some (v9, M7) else none))
def mX6_readOrder_52_53_J19 (M1 : me_M) : Option (Int32 × me_M) :=
  (if (M1.1 53 5) = 0 then ((mX6_fail_52 M1 1).bind fun (v10, M8) => (if v10 = 0 ∨ v10 = 1 then some (v10, M8) else none)) else ((me_l mX6_readOrder_52_53_L36 me_fu (0, 0, M1)).bind fun o => Sum.elim (fun M6 => ((mX6_isDigit_52 M6).bind fun v8 => (if v8 = 0 then some (1, M6) else (if (M6.1 53 4) = 0 then (mX6_readOrder_52_53_J140 M6 3) else (mX6_readOrder_52_53_J140 M6 1))))) (fun res => some res) o))
def mX6_readOrder_52_53 (M : me_M)  : Option (Int32 × me_M) :=
  (if (M.1 53 4) = 0 then ((mX6_digitsFrom_52 M).bind fun v1 => ((mJ9_min_7cf53 v1 5).bind fun v2 => (mX6_readOrder_52_53_J19 (me_s M 53 5 v2)))) else (mX6_readOrder_52_53_J19 M))
set_option maxRecDepth 100000 in
set_option maxHeartbeats 4000000 in
theorem ctX6_readOrder_52_53 {l : Launch} {n nt : Nat} (hn : 63 ≤ n) (hnt : 1 ≤ nt) {M : me_M} {r : Int32} {M' : me_M} (h : mX6_readOrder_52_53 M = some (r, M')) : me_Ct l yX6_readOrder cX6_readOrder 5 (some .boolean) 2 n nt (fun ad => [.ref (ad 52), .ref (ad 53)]) M (fun _ => some (.int r)) M' := by
  unfold mX6_readOrder_52_53 at h
  refine me_enter (N0 := 63) RX6 rfl (plainFor_of_name pl_RX6) hn (Nat.le_trans (by decide) hnt) (fun _ => Nat.le_of_ble_eq_true rfl) ?_
  intro p e R s m args below meth c D cA ad tys A X hr hlk
  refine me_sub (L' := [(0, .ref (ad 52)), (1, .ref (ad 53))]) [0, 1] rfl ?_
  refine me_aload_n X (i := 1) 1 rfl dX6_readOrder_0 ?_
  refine me_geti X kF_X6_28 (Nat.le_of_ble_eq_true rfl) me_k53 me_f53_4 dX6_readOrder_1 ?_
  have hj19_1 : ∀ (M1 : me_M), mX6_readOrder_52_53_J19 M1 = some (r, M') → me_W p l e R s m args below meth c 0 0 (MQ below (me_Qc D cA ad n A (some (.int r)) M') args s 0 0 A) D cA ad n 5 A 19 [(0, .ref (ad 52)), (1, .ref (ad 53))] [] M1 := by
    intro M1 h
    unfold mX6_readOrder_52_53_J19 at h
    refine me_aload_n X (i := 1) 1 rfl dX6_readOrder_19 ?_
    refine me_geti X kF_X6_74 (Nat.le_of_ble_eq_true rfl) me_k53 me_f53_5 dX6_readOrder_20 ?_
    refine me_if_ne X 32 (by decide) dX6_readOrder_23 (fun c2 => ?_) (fun c2 => ?_)
    · have h := me_in c2 h
      refine me_iconst X dX6_readOrder_32 ic_0 ?_
      refine me_istore_n X (i := 2) [(2, .int 0), (0, .ref (ad 52)), (1, .ref (ad 53))] (Nat.le_of_ble_eq_true rfl) rfl dX6_readOrder_33 ?_
      refine me_iconst X dX6_readOrder_34 ic_0 ?_
      refine me_istore_n X (i := 3) [(3, .int 0), (2, .int 0), (0, .ref (ad 52)), (1, .ref (ad 53))] (Nat.le_of_ble_eq_true rfl) rfl dX6_readOrder_35 ?_
      obtain ⟨o0, hq1l, hq1⟩ := me_bd h
      have hx1 : ∀ (M6 : me_M), o0 = .inl M6 → me_W p l e R s m args below meth c 0 0 (MQ below (me_Qc D cA ad n A (some (.int r)) M') args s 0 0 A) D cA ad n 5 A 120 [(0, .ref (ad 52)), (1, .ref (ad 53))] [] M6 := by
        intro M6 q
        subst q
        have h := me_el hq1
        refine me_aload_n X (i := 0) 0 rfl dX6_readOrder_120 ?_
        obtain ⟨v8, e9, h⟩ := me_bd h
        refine me_callVi X [] (ctX6_isDigit_52 hn (Nat.le_trans (by decide) hnt) e9) kV_X6_44 rfl rfl (Nat.le_of_ble_eq_true rfl) me_k52 (Nat.le_of_ble_eq_true rfl) (Nat.le_refl _) (Nat.le_of_ble_eq_true rfl) dX6_readOrder_121 ?_
        refine me_if_eq X 144 (by decide) dX6_readOrder_124 (fun c8 => ?_) (fun c8 => ?_)
        · have h := me_ip c8 h
          refine me_iconst X dX6_readOrder_144 ic_1 ?_
          obtain ⟨rfl, rfl⟩ := me_sp h
          exact me_zret X (by decide) hr hlk dX6_readOrder_145
        · have h := me_in c8 h
          refine me_aload_n X (i := 0) 0 rfl dX6_readOrder_127 ?_
          refine me_aload_n X (i := 1) 1 rfl dX6_readOrder_128 ?_
          refine me_geti X kF_X6_28 (Nat.le_of_ble_eq_true rfl) me_k53 me_f53_4 dX6_readOrder_129 ?_
          have hj140_2 : ∀ (s1 : Int32), mX6_readOrder_52_53_J140 M6 s1 = some (r, M') → me_W p l e R s m args below meth c 0 0 (MQ below (me_Qc D cA ad n A (some (.int r)) M') args s 0 0 A) D cA ad n 5 A 140 [] [.int s1, .ref (ad 52)] M6 := by
            intro s1 h
            unfold mX6_readOrder_52_53_J140 at h
            obtain ⟨⟨v9, M7⟩, e10, h⟩ := me_bd h
            refine me_callVi X [.int s1] (ctX6_fail_52 hn (Nat.le_trans (by decide) hnt) e10) kV_X6_40 rfl rfl (Nat.le_of_ble_eq_true rfl) me_k52 (Nat.le_of_ble_eq_true rfl) (Nat.le_refl _) (Nat.le_of_ble_eq_true rfl) dX6_readOrder_140 ?_
            by_cases c10 : v9 = 0 ∨ v9 = 1
            · have h := me_ip c10 h
              obtain ⟨rfl, rfl⟩ := me_sp h
              exact me_zret X (me_z c10) hr hlk dX6_readOrder_143
            · have h := me_in c10 h
              cases h
          refine me_if_ne X 139 (by decide) dX6_readOrder_132 (fun c9 => ?_) (fun c9 => ?_)
          · have h := me_in c9 h
            refine me_iconst X dX6_readOrder_139 ic_1 ?_
            refine me_sub (L' := []) [] rfl ?_
            exact hj140_2 1 h
          · have h := me_ip c9 h
            refine me_iconst X dX6_readOrder_135 ic_3 ?_
            refine me_goto X 140 (by decide) dX6_readOrder_136 ?_
            refine me_sub (L' := []) [] rfl ?_
            exact hj140_2 3 h
      refine me_sub (L' := [(0, .ref (ad 52)), (1, .ref (ad 53)), (2, .int 0), (3, .int 0)]) [2, 3, 1, 0] rfl ?_
      refine me_l_W (b := mX6_readOrder_52_53_L36) (P := fun w => me_W p l e R s m args below meth c 0 0 (MQ below (me_Qc D cA ad n A (some (.int r)) M') args s 0 0 A) D cA ad n 5 A 36 [(0, .ref (ad 52)), (1, .ref (ad 53)), (2, .int w.1), (3, .int w.2.1)] [] w.2.2) (r := o0) ?_ me_fu (0, 0, M1) hq1l
      rintro ⟨x2_1, x3_1, M2⟩ z1 h hb1 - hr1
      unfold mX6_readOrder_52_53_L36 at h
      refine me_iload_n X (i := 3) 3 rfl dX6_readOrder_36 ?_
      refine me_aload_n X (i := 1) 1 rfl dX6_readOrder_37 ?_
      refine me_geti X kF_X6_74 (Nat.le_of_ble_eq_true rfl) me_k53 me_f53_5 dX6_readOrder_38 ?_
      refine me_icmp_ge X 120 (by decide) dX6_readOrder_41 (fun c3 => ?_) (fun c3 => ?_)
      · have h := me_ip c3 h
        obtain rfl := me_so h
        have q := hr1 _ rfl
        refine me_sub (L' := [(0, .ref (ad 52)), (1, .ref (ad 53))]) [0, 1] rfl ?_
        subst q
        exact hx1 _ rfl
      · have h := me_in c3 h
        refine me_aload_n X (i := 0) 0 rfl dX6_readOrder_44 ?_
        obtain ⟨v3, e3, h⟩ := me_bd h
        refine me_callVi X [] (ctX6_isDigit_52 hn (Nat.le_trans (by decide) hnt) e3) kV_X6_44 rfl rfl (Nat.le_of_ble_eq_true rfl) me_k52 (Nat.le_of_ble_eq_true rfl) (Nat.le_refl _) (Nat.le_of_ble_eq_true rfl) dX6_readOrder_45 ?_
        refine me_if_ne X 57 (by decide) dX6_readOrder_48 (fun c4 => ?_) (fun c4 => ?_)
        · have h := me_in c4 h
          refine me_aload_n X (i := 0) 0 rfl dX6_readOrder_57 ?_
          obtain ⟨v4, e4, h⟩ := me_bd h
          refine me_callVi X [] (ctX6_digitHere_52 hn (Nat.le_trans (by decide) hnt) e4) kV_X6_77 rfl rfl (Nat.le_of_ble_eq_true rfl) me_k52 (Nat.le_of_ble_eq_true rfl) (Nat.le_refl _) (Nat.le_of_ble_eq_true rfl) dX6_readOrder_58 ?_
          refine me_istore X (i := 4) [(4, .int v4), (0, .ref (ad 52)), (1, .ref (ad 53)), (2, .int x2_1), (3, .int x3_1)] (Nat.le_of_ble_eq_true rfl) rfl dX6_readOrder_61 ?_
          refine me_iload X (i := 4) 0 rfl dX6_readOrder_63 ?_
          refine me_iload_n X (i := 2) 3 rfl dX6_readOrder_65 ?_
          refine me_aload_n X (i := 1) 2 rfl dX6_readOrder_66 ?_
          refine me_geti X kF_X6_74 (Nat.le_of_ble_eq_true rfl) me_k53 me_f53_5 dX6_readOrder_67 ?_
          obtain ⟨v5, e5, h⟩ := me_bd h
          refine me_callSi X [.int v4, .int x2_1, .int (M2.1 53 5)] (ctX6_canFollow hn (Nat.le_trans (by decide) hnt) e5) kS_X6_80 rfl rfl (Nat.le_of_ble_eq_true rfl) (Nat.le_refl _) (Nat.le_of_ble_eq_true rfl) dX6_readOrder_70 ?_
          refine me_if_ne X 82 (by decide) dX6_readOrder_73 (fun c5 => ?_) (fun c5 => ?_)
          · have h := me_in c5 h
            refine me_iload_n X (i := 2) 3 rfl dX6_readOrder_82 ?_
            refine me_iconst X dX6_readOrder_83 ic_1 ?_
            refine me_iload X (i := 4) 0 rfl dX6_readOrder_84 ?_
            refine me_ishl X dX6_readOrder_86 ?_
            refine me_ior X dX6_readOrder_87 ?_
            refine me_istore_n X (i := 2) [(2, .int (x2_1 ||| (1 <<< (v4 &&& 31)))), (4, .int v4), (0, .ref (ad 52)), (1, .ref (ad 53)), (3, .int x3_1)] (Nat.le_of_ble_eq_true rfl) rfl dX6_readOrder_88 ?_
            refine me_aload_n X (i := 1) 3 rfl dX6_readOrder_89 ?_
            refine me_getr X 54 kF_X6_84 (Nat.le_of_ble_eq_true rfl) me_k53 me_f53_0 dX6_readOrder_90 ?_
            refine me_aload_n X (i := 1) 3 rfl dX6_readOrder_93 ?_
            refine me_geti X kF_X6_28 (Nat.le_of_ble_eq_true rfl) me_k53 me_f53_4 dX6_readOrder_94 ?_
            refine me_iconst X dX6_readOrder_97 ic_5 ?_
            refine me_imul X dX6_readOrder_98 ?_
            refine me_iload_n X (i := 3) 4 rfl dX6_readOrder_99 ?_
            refine me_iadd X dX6_readOrder_100 ?_
            refine me_iload X (i := 4) 1 rfl dX6_readOrder_101 ?_
            obtain ⟨M3, e6, h⟩ := me_bd h
            refine me_iast X (Nat.le_of_ble_eq_true rfl) me_k54 e6 dX6_readOrder_103 ?_
            refine me_aload_n X (i := 0) 2 rfl dX6_readOrder_104 ?_
            refine me_dup X rfl dX6_readOrder_105 ?_
            refine me_geti X kF_X6_22 (Nat.le_of_ble_eq_true rfl) me_k52 me_f52_2 dX6_readOrder_106 ?_
            refine me_iconst X dX6_readOrder_109 ic_1 ?_
            refine me_iadd X dX6_readOrder_110 ?_
            refine me_puti X kG_X6_22 (Nat.le_of_ble_eq_true rfl) me_k52 me_f52_2 dX6_readOrder_111 ?_
            refine me_iinc X (v := (x3_1 + 1)) 4 rfl (in_1 _) [(3, .int (x3_1 + 1)), (2, .int (x2_1 ||| (1 <<< (v4 &&& 31)))), (4, .int v4), (0, .ref (ad 52)), (1, .ref (ad 53))] (Nat.le_of_ble_eq_true rfl) rfl dX6_readOrder_114 ?_
            refine me_goto X 36 (by decide) dX6_readOrder_117 ?_
            obtain rfl := me_so h
            refine me_sub (L' := [(0, .ref (ad 52)), (1, .ref (ad 53)), (2, .int (x2_1 ||| (1 <<< (v4 &&& 31)))), (3, .int (x3_1 + 1))]) [3, 4, 1, 0] rfl ?_
            exact hb1 ((x2_1 ||| (1 <<< (v4 &&& 31))), (x3_1 + 1), (me_s M3 52 2 ((M3.1 52 2) + 1))) rfl
          · have h := me_ip c5 h
            refine me_aload_n X (i := 0) 1 rfl dX6_readOrder_76 ?_
            refine me_iconst X dX6_readOrder_77 ic_2 ?_
            obtain ⟨⟨v6, M4⟩, e7, h⟩ := me_bd h
            refine me_callVi X [.int 2] (ctX6_fail_52 hn (Nat.le_trans (by decide) hnt) e7) kV_X6_40 rfl rfl (Nat.le_of_ble_eq_true rfl) me_k52 (Nat.le_of_ble_eq_true rfl) (Nat.le_refl _) (Nat.le_of_ble_eq_true rfl) dX6_readOrder_78 ?_
            by_cases c6 : v6 = 0 ∨ v6 = 1
            · have h := me_ip c6 h
              obtain rfl := me_so h
              have q := hr1 _ rfl
              subst q
              have h : some (v6, M4) = some (r, M') := hq1
              obtain ⟨rfl, rfl⟩ := me_sp h
              exact me_zret X (me_z c6) hr hlk dX6_readOrder_81
            · have h := me_in c6 h
              cases h
        · have h := me_ip c4 h
          refine me_aload_n X (i := 0) 0 rfl dX6_readOrder_51 ?_
          refine me_iconst X dX6_readOrder_52 ic_1 ?_
          obtain ⟨⟨v7, M5⟩, e8, h⟩ := me_bd h
          refine me_callVi X [.int 1] (ctX6_fail_52 hn (Nat.le_trans (by decide) hnt) e8) kV_X6_40 rfl rfl (Nat.le_of_ble_eq_true rfl) me_k52 (Nat.le_of_ble_eq_true rfl) (Nat.le_refl _) (Nat.le_of_ble_eq_true rfl) dX6_readOrder_53 ?_
          by_cases c7 : v7 = 0 ∨ v7 = 1
          · have h := me_ip c7 h
            obtain rfl := me_so h
            have q := hr1 _ rfl
            subst q
            have h : some (v7, M5) = some (r, M') := hq1
            obtain ⟨rfl, rfl⟩ := me_sp h
            exact me_zret X (me_z c7) hr hlk dX6_readOrder_56
          · have h := me_in c7 h
            cases h
    · have h := me_ip c2 h
      refine me_aload_n X (i := 0) 0 rfl dX6_readOrder_26 ?_
      refine me_iconst X dX6_readOrder_27 ic_1 ?_
      obtain ⟨⟨v10, M8⟩, e11, h⟩ := me_bd h
      refine me_callVi X [.int 1] (ctX6_fail_52 hn (Nat.le_trans (by decide) hnt) e11) kV_X6_40 rfl rfl (Nat.le_of_ble_eq_true rfl) me_k52 (Nat.le_of_ble_eq_true rfl) (Nat.le_refl _) (Nat.le_of_ble_eq_true rfl) dX6_readOrder_28 ?_
      by_cases c11 : v10 = 0 ∨ v10 = 1
      · have h := me_ip c11 h
        obtain ⟨rfl, rfl⟩ := me_sp h
        exact me_zret X (me_z c11) hr hlk dX6_readOrder_31
      · have h := me_in c11 h
        cases h
  refine me_if_ne X 19 (by decide) dX6_readOrder_4 (fun c1 => ?_) (fun c1 => ?_)
  · have h := me_in c1 h
    exact hj19_1 M h
  · have h := me_ip c1 h
    refine me_aload_n X (i := 1) 1 rfl dX6_readOrder_7 ?_
    refine me_aload_n X (i := 0) 0 rfl dX6_readOrder_8 ?_
    obtain ⟨v1, e1, h⟩ := me_bd h
    refine me_callVi X [] (ctX6_digitsFrom_52 hn (Nat.le_trans (by decide) hnt) e1) kV_X6_64 rfl rfl (Nat.le_of_ble_eq_true rfl) me_k52 (Nat.le_of_ble_eq_true rfl) (Nat.le_refl _) (Nat.le_of_ble_eq_true rfl) dX6_readOrder_9 ?_
    refine me_iconst X dX6_readOrder_12 ic_5 ?_
    obtain ⟨v2, e2, h⟩ := me_bd h
    refine me_callSi X [.int v1, .int 5] (ctJ9_min_7cf53 hn (Nat.le_trans (by decide) hnt) e2) kS_X6_68 rfl rfl (Nat.le_of_ble_eq_true rfl) (Nat.le_refl _) (Nat.le_of_ble_eq_true rfl) dX6_readOrder_13 ?_
    refine me_puti X kG_X6_74 (Nat.le_of_ble_eq_true rfl) me_k53 me_f53_5 dX6_readOrder_16 ?_
    exact hj19_1 (me_s M 53 5 v2) h
def mX6_isByte_52 (M : me_M) (p0 : Int32) : Option Int32 :=
  (if (M.1 52 1) ≤ (M.1 52 2) then some 0 else ((me_r M 2 240 (M.1 52 2)).bind fun v1 => (if v1 = p0 then some 1 else some 0)))
set_option maxRecDepth 100000 in
set_option maxHeartbeats 4000000 in
theorem ctX6_isByte_52 {l : Launch} {n nt : Nat} (hn : 63 ≤ n) (hnt : 1 ≤ nt) {M : me_M} {p0 : Int32} {r : Int32} (h : mX6_isByte_52 M p0 = some r) : me_Ct l yX6_isByte cX6_isByte 2 (some .boolean) 0 n nt (fun ad => [.ref (ad 52), .int p0]) M (fun _ => some (.int r)) M := by
  unfold mX6_isByte_52 at h
  refine me_enter (N0 := 63) RX6 rfl (plainFor_of_name pl_RX6) hn (Nat.le_trans (by decide) hnt) (fun _ => Nat.le_of_ble_eq_true rfl) ?_
  intro p e R s m args below meth c D cA ad tys A X hr hlk
  refine me_sub (L' := [(0, .ref (ad 52)), (1, .int p0)]) [0, 1] rfl ?_
  refine me_aload_n X (i := 0) 0 rfl dX6_isByte_0 ?_
  refine me_geti X kF_X6_22 (Nat.le_of_ble_eq_true rfl) me_k52 me_f52_2 dX6_isByte_1 ?_
  refine me_aload_n X (i := 0) 0 rfl dX6_isByte_4 ?_
  refine me_geti X kF_X6_19 (Nat.le_of_ble_eq_true rfl) me_k52 me_f52_1 dX6_isByte_5 ?_
  refine me_icmp_ge X 31 (by decide) dX6_isByte_8 (fun c1 => ?_) (fun c1 => ?_)
  · have h := me_ip c1 h
    refine me_iconst X dX6_isByte_31 ic_0 ?_
    obtain rfl := me_so h
    exact me_zret X (by decide) hr hlk dX6_isByte_32
  · have h := me_in c1 h
    refine me_aload_n X (i := 0) 0 rfl dX6_isByte_11 ?_
    refine me_getr X 1 kF_X6_9 (Nat.le_of_ble_eq_true rfl) me_k52 me_f52_0 dX6_isByte_12 ?_
    refine me_getr X 2 kF_X6_104 (Nat.le_of_ble_eq_true rfl) me_k1 me_f1_0 dX6_isByte_15 ?_
    refine me_aload_n X (i := 0) 0 rfl dX6_isByte_18 ?_
    refine me_geti X kF_X6_22 (Nat.le_of_ble_eq_true rfl) me_k52 me_f52_2 dX6_isByte_19 ?_
    obtain ⟨v1, e1, h⟩ := me_bd h
    refine me_iald X (Nat.le_of_ble_eq_true rfl) me_k2 e1 dX6_isByte_22 ?_
    refine me_iload_n X (i := 1) 1 rfl dX6_isByte_23 ?_
    refine me_icmp_ne X 31 (by decide) dX6_isByte_24 (fun c2 => ?_) (fun c2 => ?_)
    · have h := me_in c2 h
      refine me_iconst X dX6_isByte_31 ic_0 ?_
      obtain rfl := me_so h
      exact me_zret X (by decide) hr hlk dX6_isByte_32
    · have h := me_ip c2 h
      refine me_iconst X dX6_isByte_27 ic_1 ?_
      refine me_goto X 32 (by decide) dX6_isByte_28 ?_
      obtain rfl := me_so h
      exact me_zret X (by decide) hr hlk dX6_isByte_32
def mX6_readGap_52 (M : me_M)  : Option (Int32 × me_M) :=
  ((mX6_isByte_52 M 32).bind fun v1 => (if v1 = 0 then ((mX6_fail_52 M 1).bind fun (v3, M2) => (if v3 = 0 ∨ v3 = 1 then some (v3, M2) else none)) else ((mX6_skipBlanks_52 M).bind fun M1 => some (1, M1))))
set_option maxRecDepth 100000 in
set_option maxHeartbeats 4000000 in
theorem ctX6_readGap_52 {l : Launch} {n nt : Nat} (hn : 63 ≤ n) (hnt : 1 ≤ nt) {M : me_M} {r : Int32} {M' : me_M} (h : mX6_readGap_52 M = some (r, M')) : me_Ct l yX6_readGap cX6_readGap 1 (some .boolean) 1 n nt (fun ad => [.ref (ad 52)]) M (fun _ => some (.int r)) M' := by
  unfold mX6_readGap_52 at h
  refine me_enter (N0 := 63) RX6 rfl (plainFor_of_name pl_RX6) hn (Nat.le_trans (by decide) hnt) (fun _ => Nat.le_of_ble_eq_true rfl) ?_
  intro p e R s m args below meth c D cA ad tys A X hr hlk
  refine me_sub (L' := [(0, .ref (ad 52))]) [0] rfl ?_
  refine me_aload_n X (i := 0) 0 rfl dX6_readGap_0 ?_
  refine me_bipush X dX6_readGap_1 ib_32 ?_
  obtain ⟨v1, e1, h⟩ := me_bd h
  refine me_callVi X [.int 32] (ctX6_isByte_52 hn (Nat.le_trans (by decide) hnt) e1) kV_X6_101 rfl rfl (Nat.le_of_ble_eq_true rfl) me_k52 (Nat.le_of_ble_eq_true rfl) (Nat.le_refl _) (Nat.le_of_ble_eq_true rfl) dX6_readGap_3 ?_
  refine me_if_ne X 15 (by decide) dX6_readGap_6 (fun c1 => ?_) (fun c1 => ?_)
  · have h := me_in c1 h
    refine me_aload_n X (i := 0) 0 rfl dX6_readGap_15 ?_
    obtain ⟨M1, e2, h⟩ := me_bd h
    refine me_callVv X [] (ctX6_skipBlanks_52 hn (Nat.le_trans (by decide) hnt) e2) kV_X6_33 rfl rfl (Nat.le_of_ble_eq_true rfl) me_k52 (Nat.le_of_ble_eq_true rfl) (Nat.le_refl _) (Nat.le_of_ble_eq_true rfl) dX6_readGap_16 ?_
    refine me_iconst X dX6_readGap_19 ic_1 ?_
    obtain ⟨rfl, rfl⟩ := me_sp h
    exact me_zret X (by decide) hr hlk dX6_readGap_20
  · have h := me_ip c1 h
    refine me_aload_n X (i := 0) 0 rfl dX6_readGap_9 ?_
    refine me_iconst X dX6_readGap_10 ic_1 ?_
    obtain ⟨⟨v3, M2⟩, e3, h⟩ := me_bd h
    refine me_callVi X [.int 1] (ctX6_fail_52 hn (Nat.le_trans (by decide) hnt) e3) kV_X6_40 rfl rfl (Nat.le_of_ble_eq_true rfl) me_k52 (Nat.le_of_ble_eq_true rfl) (Nat.le_refl _) (Nat.le_of_ble_eq_true rfl) dX6_readGap_11 ?_
    by_cases c2 : v3 = 0 ∨ v3 = 1
    · have h := me_ip c2 h
      obtain ⟨rfl, rfl⟩ := me_sp h
      exact me_zret X (me_z c2) hr hlk dX6_readGap_14
    · have h := me_in c2 h
      cases h
def mX6_boundHere_52_J30 (M : me_M)  : Option (Int32 × me_M) :=
  ((mX6_fail_52 M 2).bind fun (v3, M1) => some ((-1), M1))
def mX6_boundHere_52 (M : me_M) (p0 : Int32) : Option (Int32 × me_M) :=
  ((mX6_isDigit_52 M).bind fun v1 => (if v1 = 0 then ((mX6_fail_52 M 1).bind fun (v4, M2) => some ((-1), M2)) else ((mX6_digitHere_52 M).bind fun v2 => (if v2 < p0 then (mX6_boundHere_52_J30 M ) else (if v2 ≤ 4 then some (v2, M) else (mX6_boundHere_52_J30 M ))))))
set_option maxRecDepth 100000 in
set_option maxHeartbeats 4000000 in
theorem ctX6_boundHere_52 {l : Launch} {n nt : Nat} (hn : 63 ≤ n) (hnt : 1 ≤ nt) {M : me_M} {p0 : Int32} {r : Int32} {M' : me_M} (h : mX6_boundHere_52 M p0 = some (r, M')) : me_Ct l yX6_boundHere cX6_boundHere 3 (some .int) 2 n nt (fun ad => [.ref (ad 52), .int p0]) M (fun _ => some (.int r)) M' := by
  unfold mX6_boundHere_52 at h
  refine me_enter (N0 := 63) RX6 rfl (plainFor_of_name pl_RX6) hn (Nat.le_trans (by decide) hnt) (fun _ => Nat.le_of_ble_eq_true rfl) ?_
  intro p e R s m args below meth c D cA ad tys A X hr hlk
  refine me_sub (L' := [(0, .ref (ad 52)), (1, .int p0)]) [0, 1] rfl ?_
  refine me_aload_n X (i := 0) 0 rfl dX6_boundHere_0 ?_
  obtain ⟨v1, e1, h⟩ := me_bd h
  refine me_callVi X [] (ctX6_isDigit_52 hn (Nat.le_trans (by decide) hnt) e1) kV_X6_44 rfl rfl (Nat.le_of_ble_eq_true rfl) me_k52 (Nat.le_of_ble_eq_true rfl) (Nat.le_refl _) (Nat.le_of_ble_eq_true rfl) dX6_boundHere_1 ?_
  refine me_if_ne X 15 (by decide) dX6_boundHere_4 (fun c1 => ?_) (fun c1 => ?_)
  · have h := me_in c1 h
    refine me_aload_n X (i := 0) 0 rfl dX6_boundHere_15 ?_
    obtain ⟨v2, e2, h⟩ := me_bd h
    refine me_callVi X [] (ctX6_digitHere_52 hn (Nat.le_trans (by decide) hnt) e2) kV_X6_77 rfl rfl (Nat.le_of_ble_eq_true rfl) me_k52 (Nat.le_of_ble_eq_true rfl) (Nat.le_refl _) (Nat.le_of_ble_eq_true rfl) dX6_boundHere_16 ?_
    refine me_istore_n X (i := 2) [(2, .int v2), (0, .ref (ad 52)), (1, .int p0)] (Nat.le_of_ble_eq_true rfl) rfl dX6_boundHere_19 ?_
    refine me_iload_n X (i := 2) 0 rfl dX6_boundHere_20 ?_
    refine me_iload_n X (i := 1) 2 rfl dX6_boundHere_21 ?_
    have hj30_1 : mX6_boundHere_52_J30 M  = some (r, M') → me_W p l e R s m args below meth c 0 0 (MQ below (me_Qc D cA ad n A (some (.int r)) M') args s 0 0 A) D cA ad n 3 A 30 [(0, .ref (ad 52))] [] M := by
      intro h
      unfold mX6_boundHere_52_J30 at h
      refine me_aload_n X (i := 0) 0 rfl dX6_boundHere_30 ?_
      refine me_iconst X dX6_boundHere_31 ic_2 ?_
      obtain ⟨⟨v3, M1⟩, e3, h⟩ := me_bd h
      refine me_callVi X [.int 2] (ctX6_fail_52 hn (Nat.le_trans (by decide) hnt) e3) kV_X6_40 rfl rfl (Nat.le_of_ble_eq_true rfl) me_k52 (Nat.le_of_ble_eq_true rfl) (Nat.le_refl _) (Nat.le_of_ble_eq_true rfl) dX6_boundHere_32 ?_
      refine me_pop X rfl dX6_boundHere_35 ?_
      refine me_iconst X dX6_boundHere_36 ic_m1 ?_
      obtain ⟨rfl, rfl⟩ := me_sp h
      exact me_iret X hr hlk dX6_boundHere_37
    refine me_icmp_lt X 30 (by decide) dX6_boundHere_22 (fun c2 => ?_) (fun c2 => ?_)
    · have h := me_ip c2 h
      refine me_sub (L' := [(0, .ref (ad 52))]) [1] rfl ?_
      exact hj30_1  h
    · have h := me_in c2 h
      refine me_iload_n X (i := 2) 0 rfl dX6_boundHere_25 ?_
      refine me_iconst X dX6_boundHere_26 ic_4 ?_
      refine me_icmp_le X 38 (by decide) dX6_boundHere_27 (fun c3 => ?_) (fun c3 => ?_)
      · have h := me_ip c3 h
        refine me_iload_n X (i := 2) 0 rfl dX6_boundHere_38 ?_
        obtain ⟨rfl, rfl⟩ := me_sp h
        exact me_iret X hr hlk dX6_boundHere_39
      · have h := me_in c3 h
        refine me_sub (L' := [(0, .ref (ad 52))]) [1] rfl ?_
        exact hj30_1  h
  · have h := me_ip c1 h
    refine me_aload_n X (i := 0) 0 rfl dX6_boundHere_7 ?_
    refine me_iconst X dX6_boundHere_8 ic_1 ?_
    obtain ⟨⟨v4, M2⟩, e4, h⟩ := me_bd h
    refine me_callVi X [.int 1] (ctX6_fail_52 hn (Nat.le_trans (by decide) hnt) e4) kV_X6_40 rfl rfl (Nat.le_of_ble_eq_true rfl) me_k52 (Nat.le_of_ble_eq_true rfl) (Nat.le_refl _) (Nat.le_of_ble_eq_true rfl) dX6_boundHere_9 ?_
    refine me_pop X rfl dX6_boundHere_12 ?_
    refine me_iconst X dX6_boundHere_13 ic_m1 ?_
    obtain ⟨rfl, rfl⟩ := me_sp h
    exact me_iret X hr hlk dX6_boundHere_14
def mX6_readLeast_52_53_L4  : (Int32 × Int32 × me_M) → Option ((Int32 × Int32 × me_M) ⊕ ((me_M) ⊕ (Int32 × me_M)))
  | (x2_1, x3_1, M1) => (if (M1.1 53 5) ≤ x3_1 then some (.inr (.inl M1)) else ((mX6_boundHere_52 M1 x2_1).bind fun (v1, M2) => (if v1 = (-1) then some (.inr (.inr (0, M2))) else ((me_t M2 55 40 (((M2.1 53 4) * 5) + x3_1) v1).bind fun M3 => some (.inl (v1, (x3_1 + 1), (me_s M3 52 2 ((M3.1 52 2) + 1))))))))
def mX6_readLeast_52_53 (M : me_M)  : Option (Int32 × me_M) :=
  ((me_l mX6_readLeast_52_53_L4 me_fu (0, 0, M)).bind fun o => Sum.elim (fun M4 => ((mX6_isDigit_52 M4).bind fun v2 => (if v2 = 0 then some (1, M4) else ((mX6_fail_52 M4 1).bind fun (v3, M5) => (if v3 = 0 ∨ v3 = 1 then some (v3, M5) else none))))) (fun res => some res) o)
set_option maxRecDepth 100000 in
set_option maxHeartbeats 4000000 in
theorem ctX6_readLeast_52_53 {l : Launch} {n nt : Nat} (hn : 63 ≤ n) (hnt : 1 ≤ nt) {M : me_M} {r : Int32} {M' : me_M} (h : mX6_readLeast_52_53 M = some (r, M')) : me_Ct l yX6_readLeast cX6_readLeast 5 (some .boolean) 3 n nt (fun ad => [.ref (ad 52), .ref (ad 53)]) M (fun _ => some (.int r)) M' := by
  unfold mX6_readLeast_52_53 at h
  refine me_enter (N0 := 63) RX6 rfl (plainFor_of_name pl_RX6) hn (Nat.le_trans (by decide) hnt) (fun _ => Nat.le_of_ble_eq_true rfl) ?_
  intro p e R s m args below meth c D cA ad tys A X hr hlk
  refine me_sub (L' := [(0, .ref (ad 52)), (1, .ref (ad 53))]) [0, 1] rfl ?_
  refine me_iconst X dX6_readLeast_0 ic_0 ?_
  refine me_istore_n X (i := 2) [(2, .int 0), (0, .ref (ad 52)), (1, .ref (ad 53))] (Nat.le_of_ble_eq_true rfl) rfl dX6_readLeast_1 ?_
  refine me_iconst X dX6_readLeast_2 ic_0 ?_
  refine me_istore_n X (i := 3) [(3, .int 0), (2, .int 0), (0, .ref (ad 52)), (1, .ref (ad 53))] (Nat.le_of_ble_eq_true rfl) rfl dX6_readLeast_3 ?_
  obtain ⟨o0, hq1l, hq1⟩ := me_bd h
  have hx1 : ∀ (M4 : me_M), o0 = .inl M4 → me_W p l e R s m args below meth c 0 0 (MQ below (me_Qc D cA ad n A (some (.int r)) M') args s 0 0 A) D cA ad n 5 A 61 [(0, .ref (ad 52))] [] M4 := by
    intro M4 q
    subst q
    have h := me_el hq1
    refine me_aload_n X (i := 0) 0 rfl dX6_readLeast_61 ?_
    obtain ⟨v2, e3, h⟩ := me_bd h
    refine me_callVi X [] (ctX6_isDigit_52 hn (Nat.le_trans (by decide) hnt) e3) kV_X6_44 rfl rfl (Nat.le_of_ble_eq_true rfl) me_k52 (Nat.le_of_ble_eq_true rfl) (Nat.le_refl _) (Nat.le_of_ble_eq_true rfl) dX6_readLeast_62 ?_
    refine me_if_eq X 76 (by decide) dX6_readLeast_65 (fun c3 => ?_) (fun c3 => ?_)
    · have h := me_ip c3 h
      refine me_iconst X dX6_readLeast_76 ic_1 ?_
      obtain ⟨rfl, rfl⟩ := me_sp h
      exact me_zret X (by decide) hr hlk dX6_readLeast_77
    · have h := me_in c3 h
      refine me_aload_n X (i := 0) 0 rfl dX6_readLeast_68 ?_
      refine me_iconst X dX6_readLeast_69 ic_1 ?_
      obtain ⟨⟨v3, M5⟩, e4, h⟩ := me_bd h
      refine me_callVi X [.int 1] (ctX6_fail_52 hn (Nat.le_trans (by decide) hnt) e4) kV_X6_40 rfl rfl (Nat.le_of_ble_eq_true rfl) me_k52 (Nat.le_of_ble_eq_true rfl) (Nat.le_refl _) (Nat.le_of_ble_eq_true rfl) dX6_readLeast_70 ?_
      refine me_goto X 77 (by decide) dX6_readLeast_73 ?_
      by_cases c4 : v3 = 0 ∨ v3 = 1
      · have h := me_ip c4 h
        obtain ⟨rfl, rfl⟩ := me_sp h
        exact me_zret X (me_z c4) hr hlk dX6_readLeast_77
      · have h := me_in c4 h
        cases h
  refine me_sub (L' := [(0, .ref (ad 52)), (1, .ref (ad 53)), (2, .int 0), (3, .int 0)]) [2, 3, 1, 0] rfl ?_
  refine me_l_W (b := mX6_readLeast_52_53_L4) (P := fun w => me_W p l e R s m args below meth c 0 0 (MQ below (me_Qc D cA ad n A (some (.int r)) M') args s 0 0 A) D cA ad n 5 A 4 [(0, .ref (ad 52)), (1, .ref (ad 53)), (2, .int w.1), (3, .int w.2.1)] [] w.2.2) (r := o0) ?_ me_fu (0, 0, M) hq1l
  rintro ⟨x2_1, x3_1, M1⟩ z1 h hb1 - hr1
  unfold mX6_readLeast_52_53_L4 at h
  refine me_iload_n X (i := 3) 3 rfl dX6_readLeast_4 ?_
  refine me_aload_n X (i := 1) 1 rfl dX6_readLeast_5 ?_
  refine me_geti X kF_X6_74 (Nat.le_of_ble_eq_true rfl) me_k53 me_f53_5 dX6_readLeast_6 ?_
  refine me_icmp_ge X 61 (by decide) dX6_readLeast_9 (fun c1 => ?_) (fun c1 => ?_)
  · have h := me_ip c1 h
    obtain rfl := me_so h
    have q := hr1 _ rfl
    refine me_sub (L' := [(0, .ref (ad 52))]) [0] rfl ?_
    subst q
    exact hx1 _ rfl
  · have h := me_in c1 h
    refine me_aload_n X (i := 0) 0 rfl dX6_readLeast_12 ?_
    refine me_iload_n X (i := 2) 2 rfl dX6_readLeast_13 ?_
    obtain ⟨⟨v1, M2⟩, e1, h⟩ := me_bd h
    refine me_callVi X [.int x2_1] (ctX6_boundHere_52 hn (Nat.le_trans (by decide) hnt) e1) kV_X6_88 rfl rfl (Nat.le_of_ble_eq_true rfl) me_k52 (Nat.le_of_ble_eq_true rfl) (Nat.le_refl _) (Nat.le_of_ble_eq_true rfl) dX6_readLeast_14 ?_
    refine me_istore X (i := 4) [(4, .int v1), (0, .ref (ad 52)), (1, .ref (ad 53)), (2, .int x2_1), (3, .int x3_1)] (Nat.le_of_ble_eq_true rfl) rfl dX6_readLeast_17 ?_
    refine me_iload X (i := 4) 0 rfl dX6_readLeast_19 ?_
    refine me_iconst X dX6_readLeast_21 ic_m1 ?_
    refine me_icmp_ne X 27 (by decide) dX6_readLeast_22 (fun c2 => ?_) (fun c2 => ?_)
    · have h := me_in c2 h
      refine me_aload_n X (i := 1) 2 rfl dX6_readLeast_27 ?_
      refine me_getr X 55 kF_X6_92 (Nat.le_of_ble_eq_true rfl) me_k53 me_f53_1 dX6_readLeast_28 ?_
      refine me_aload_n X (i := 1) 2 rfl dX6_readLeast_31 ?_
      refine me_geti X kF_X6_28 (Nat.le_of_ble_eq_true rfl) me_k53 me_f53_4 dX6_readLeast_32 ?_
      refine me_iconst X dX6_readLeast_35 ic_5 ?_
      refine me_imul X dX6_readLeast_36 ?_
      refine me_iload_n X (i := 3) 4 rfl dX6_readLeast_37 ?_
      refine me_iadd X dX6_readLeast_38 ?_
      refine me_iload X (i := 4) 0 rfl dX6_readLeast_39 ?_
      obtain ⟨M3, e2, h⟩ := me_bd h
      refine me_iast X (Nat.le_of_ble_eq_true rfl) me_k55 e2 dX6_readLeast_41 ?_
      refine me_iload X (i := 4) 0 rfl dX6_readLeast_42 ?_
      refine me_istore_n X (i := 2) [(2, .int v1), (4, .int v1), (0, .ref (ad 52)), (1, .ref (ad 53)), (3, .int x3_1)] (Nat.le_of_ble_eq_true rfl) rfl dX6_readLeast_44 ?_
      refine me_aload_n X (i := 0) 2 rfl dX6_readLeast_45 ?_
      refine me_dup X rfl dX6_readLeast_46 ?_
      refine me_geti X kF_X6_22 (Nat.le_of_ble_eq_true rfl) me_k52 me_f52_2 dX6_readLeast_47 ?_
      refine me_iconst X dX6_readLeast_50 ic_1 ?_
      refine me_iadd X dX6_readLeast_51 ?_
      refine me_puti X kG_X6_22 (Nat.le_of_ble_eq_true rfl) me_k52 me_f52_2 dX6_readLeast_52 ?_
      refine me_iinc X (v := (x3_1 + 1)) 4 rfl (in_1 _) [(3, .int (x3_1 + 1)), (2, .int v1), (4, .int v1), (0, .ref (ad 52)), (1, .ref (ad 53))] (Nat.le_of_ble_eq_true rfl) rfl dX6_readLeast_55 ?_
      refine me_goto X 4 (by decide) dX6_readLeast_58 ?_
      obtain rfl := me_so h
      refine me_sub (L' := [(0, .ref (ad 52)), (1, .ref (ad 53)), (2, .int v1), (3, .int (x3_1 + 1))]) [3, 4, 1, 0] rfl ?_
      exact hb1 (v1, (x3_1 + 1), (me_s M3 52 2 ((M3.1 52 2) + 1))) rfl
    · have h := me_ip c2 h
      refine me_iconst X dX6_readLeast_25 ic_0 ?_
      obtain rfl := me_so h
      have q := hr1 _ rfl
      subst q
      have h : some (0, M2) = some (r, M') := hq1
      obtain ⟨rfl, rfl⟩ := me_sp h
      exact me_zret X (by decide) hr hlk dX6_readLeast_26
def mX6_readMost_52_53_L4  : (Int32 × Int32 × me_M) → Option ((Int32 × Int32 × me_M) ⊕ ((me_M) ⊕ (Int32 × me_M)))
  | (x2_1, x3_1, M1) => (if (M1.1 53 5) ≤ x3_1 then some (.inr (.inl M1)) else ((me_r M1 55 40 (((M1.1 53 4) * 5) + x3_1)).bind fun v1 => ((mJ9_max_7cf53 x2_1 v1).bind fun v2 => ((mX6_boundHere_52 M1 v2).bind fun (v3, M2) => (if v3 = (-1) then some (.inr (.inr (0, M2))) else ((me_t M2 56 40 (((M1.1 53 4) * 5) + x3_1) v3).bind fun M3 => some (.inl (v3, (x3_1 + 1), (me_s M3 52 2 ((M3.1 52 2) + 1))))))))))
def mX6_readMost_52_53 (M : me_M)  : Option (Int32 × me_M) :=
  ((me_l mX6_readMost_52_53_L4 me_fu (0, 0, M)).bind fun o => Sum.elim (fun M4 => ((mX6_isDigit_52 M4).bind fun v4 => (if v4 = 0 then some (1, M4) else ((mX6_fail_52 M4 1).bind fun (v5, M5) => (if v5 = 0 ∨ v5 = 1 then some (v5, M5) else none))))) (fun res => some res) o)
set_option maxRecDepth 100000 in
set_option maxHeartbeats 4000000 in
theorem ctX6_readMost_52_53 {l : Launch} {n nt : Nat} (hn : 63 ≤ n) (hnt : 1 ≤ nt) {M : me_M} {r : Int32} {M' : me_M} (h : mX6_readMost_52_53 M = some (r, M')) : me_Ct l yX6_readMost cX6_readMost 6 (some .boolean) 3 n nt (fun ad => [.ref (ad 52), .ref (ad 53)]) M (fun _ => some (.int r)) M' := by
  unfold mX6_readMost_52_53 at h
  refine me_enter (N0 := 63) RX6 rfl (plainFor_of_name pl_RX6) hn (Nat.le_trans (by decide) hnt) (fun _ => Nat.le_of_ble_eq_true rfl) ?_
  intro p e R s m args below meth c D cA ad tys A X hr hlk
  refine me_sub (L' := [(0, .ref (ad 52)), (1, .ref (ad 53))]) [0, 1] rfl ?_
  refine me_iconst X dX6_readMost_0 ic_0 ?_
  refine me_istore_n X (i := 2) [(2, .int 0), (0, .ref (ad 52)), (1, .ref (ad 53))] (Nat.le_of_ble_eq_true rfl) rfl dX6_readMost_1 ?_
  refine me_iconst X dX6_readMost_2 ic_0 ?_
  refine me_istore_n X (i := 3) [(3, .int 0), (2, .int 0), (0, .ref (ad 52)), (1, .ref (ad 53))] (Nat.le_of_ble_eq_true rfl) rfl dX6_readMost_3 ?_
  obtain ⟨o0, hq1l, hq1⟩ := me_bd h
  have hx1 : ∀ (M4 : me_M), o0 = .inl M4 → me_W p l e R s m args below meth c 0 0 (MQ below (me_Qc D cA ad n A (some (.int r)) M') args s 0 0 A) D cA ad n 6 A 75 [(0, .ref (ad 52))] [] M4 := by
    intro M4 q
    subst q
    have h := me_el hq1
    refine me_aload_n X (i := 0) 0 rfl dX6_readMost_75 ?_
    obtain ⟨v4, e5, h⟩ := me_bd h
    refine me_callVi X [] (ctX6_isDigit_52 hn (Nat.le_trans (by decide) hnt) e5) kV_X6_44 rfl rfl (Nat.le_of_ble_eq_true rfl) me_k52 (Nat.le_of_ble_eq_true rfl) (Nat.le_refl _) (Nat.le_of_ble_eq_true rfl) dX6_readMost_76 ?_
    refine me_if_eq X 90 (by decide) dX6_readMost_79 (fun c3 => ?_) (fun c3 => ?_)
    · have h := me_ip c3 h
      refine me_iconst X dX6_readMost_90 ic_1 ?_
      obtain ⟨rfl, rfl⟩ := me_sp h
      exact me_zret X (by decide) hr hlk dX6_readMost_91
    · have h := me_in c3 h
      refine me_aload_n X (i := 0) 0 rfl dX6_readMost_82 ?_
      refine me_iconst X dX6_readMost_83 ic_1 ?_
      obtain ⟨⟨v5, M5⟩, e6, h⟩ := me_bd h
      refine me_callVi X [.int 1] (ctX6_fail_52 hn (Nat.le_trans (by decide) hnt) e6) kV_X6_40 rfl rfl (Nat.le_of_ble_eq_true rfl) me_k52 (Nat.le_of_ble_eq_true rfl) (Nat.le_refl _) (Nat.le_of_ble_eq_true rfl) dX6_readMost_84 ?_
      refine me_goto X 91 (by decide) dX6_readMost_87 ?_
      by_cases c4 : v5 = 0 ∨ v5 = 1
      · have h := me_ip c4 h
        obtain ⟨rfl, rfl⟩ := me_sp h
        exact me_zret X (me_z c4) hr hlk dX6_readMost_91
      · have h := me_in c4 h
        cases h
  refine me_sub (L' := [(0, .ref (ad 52)), (1, .ref (ad 53)), (2, .int 0), (3, .int 0)]) [2, 3, 1, 0] rfl ?_
  refine me_l_W (b := mX6_readMost_52_53_L4) (P := fun w => me_W p l e R s m args below meth c 0 0 (MQ below (me_Qc D cA ad n A (some (.int r)) M') args s 0 0 A) D cA ad n 6 A 4 [(0, .ref (ad 52)), (1, .ref (ad 53)), (2, .int w.1), (3, .int w.2.1)] [] w.2.2) (r := o0) ?_ me_fu (0, 0, M) hq1l
  rintro ⟨x2_1, x3_1, M1⟩ z1 h hb1 - hr1
  unfold mX6_readMost_52_53_L4 at h
  refine me_iload_n X (i := 3) 3 rfl dX6_readMost_4 ?_
  refine me_aload_n X (i := 1) 1 rfl dX6_readMost_5 ?_
  refine me_geti X kF_X6_74 (Nat.le_of_ble_eq_true rfl) me_k53 me_f53_5 dX6_readMost_6 ?_
  refine me_icmp_ge X 75 (by decide) dX6_readMost_9 (fun c1 => ?_) (fun c1 => ?_)
  · have h := me_ip c1 h
    obtain rfl := me_so h
    have q := hr1 _ rfl
    refine me_sub (L' := [(0, .ref (ad 52))]) [0] rfl ?_
    subst q
    exact hx1 _ rfl
  · have h := me_in c1 h
    refine me_aload_n X (i := 1) 1 rfl dX6_readMost_12 ?_
    refine me_geti X kF_X6_28 (Nat.le_of_ble_eq_true rfl) me_k53 me_f53_4 dX6_readMost_13 ?_
    refine me_iconst X dX6_readMost_16 ic_5 ?_
    refine me_imul X dX6_readMost_17 ?_
    refine me_iload_n X (i := 3) 3 rfl dX6_readMost_18 ?_
    refine me_iadd X dX6_readMost_19 ?_
    refine me_istore X (i := 4) [(4, .int (((M1.1 53 4) * 5) + x3_1)), (0, .ref (ad 52)), (1, .ref (ad 53)), (2, .int x2_1), (3, .int x3_1)] (Nat.le_of_ble_eq_true rfl) rfl dX6_readMost_20 ?_
    refine me_aload_n X (i := 0) 1 rfl dX6_readMost_22 ?_
    refine me_iload_n X (i := 2) 3 rfl dX6_readMost_23 ?_
    refine me_aload_n X (i := 1) 2 rfl dX6_readMost_24 ?_
    refine me_getr X 55 kF_X6_92 (Nat.le_of_ble_eq_true rfl) me_k53 me_f53_1 dX6_readMost_25 ?_
    refine me_iload X (i := 4) 0 rfl dX6_readMost_28 ?_
    obtain ⟨v1, e1, h⟩ := me_bd h
    refine me_iald X (Nat.le_of_ble_eq_true rfl) me_k55 e1 dX6_readMost_30 ?_
    obtain ⟨v2, e2, h⟩ := me_bd h
    refine me_callSi X [.int x2_1, .int v1] (ctJ9_max_7cf53 hn (Nat.le_trans (by decide) hnt) e2) kS_X6_95 rfl rfl (Nat.le_of_ble_eq_true rfl) (Nat.le_refl _) (Nat.le_of_ble_eq_true rfl) dX6_readMost_31 ?_
    obtain ⟨⟨v3, M2⟩, e3, h⟩ := me_bd h
    refine me_callVi X [.int v2] (ctX6_boundHere_52 hn (Nat.le_trans (by decide) hnt) e3) kV_X6_88 rfl rfl (Nat.le_of_ble_eq_true rfl) me_k52 (Nat.le_of_ble_eq_true rfl) (Nat.le_refl _) (Nat.le_of_ble_eq_true rfl) dX6_readMost_34 ?_
    refine me_istore X (i := 5) [(5, .int v3), (4, .int (((M1.1 53 4) * 5) + x3_1)), (0, .ref (ad 52)), (1, .ref (ad 53)), (2, .int x2_1), (3, .int x3_1)] (Nat.le_of_ble_eq_true rfl) rfl dX6_readMost_37 ?_
    refine me_iload X (i := 5) 0 rfl dX6_readMost_39 ?_
    refine me_iconst X dX6_readMost_41 ic_m1 ?_
    refine me_icmp_ne X 47 (by decide) dX6_readMost_42 (fun c2 => ?_) (fun c2 => ?_)
    · have h := me_in c2 h
      refine me_aload_n X (i := 1) 3 rfl dX6_readMost_47 ?_
      refine me_getr X 56 kF_X6_98 (Nat.le_of_ble_eq_true rfl) me_k53 me_f53_2 dX6_readMost_48 ?_
      refine me_iload X (i := 4) 1 rfl dX6_readMost_51 ?_
      refine me_iload X (i := 5) 0 rfl dX6_readMost_53 ?_
      obtain ⟨M3, e4, h⟩ := me_bd h
      refine me_iast X (Nat.le_of_ble_eq_true rfl) me_k56 e4 dX6_readMost_55 ?_
      refine me_iload X (i := 5) 0 rfl dX6_readMost_56 ?_
      refine me_istore_n X (i := 2) [(2, .int v3), (5, .int v3), (4, .int (((M1.1 53 4) * 5) + x3_1)), (0, .ref (ad 52)), (1, .ref (ad 53)), (3, .int x3_1)] (Nat.le_of_ble_eq_true rfl) rfl dX6_readMost_58 ?_
      refine me_aload_n X (i := 0) 3 rfl dX6_readMost_59 ?_
      refine me_dup X rfl dX6_readMost_60 ?_
      refine me_geti X kF_X6_22 (Nat.le_of_ble_eq_true rfl) me_k52 me_f52_2 dX6_readMost_61 ?_
      refine me_iconst X dX6_readMost_64 ic_1 ?_
      refine me_iadd X dX6_readMost_65 ?_
      refine me_puti X kG_X6_22 (Nat.le_of_ble_eq_true rfl) me_k52 me_f52_2 dX6_readMost_66 ?_
      refine me_iinc X (v := (x3_1 + 1)) 5 rfl (in_1 _) [(3, .int (x3_1 + 1)), (2, .int v3), (5, .int v3), (4, .int (((M1.1 53 4) * 5) + x3_1)), (0, .ref (ad 52)), (1, .ref (ad 53))] (Nat.le_of_ble_eq_true rfl) rfl dX6_readMost_69 ?_
      refine me_goto X 4 (by decide) dX6_readMost_72 ?_
      obtain rfl := me_so h
      refine me_sub (L' := [(0, .ref (ad 52)), (1, .ref (ad 53)), (2, .int v3), (3, .int (x3_1 + 1))]) [4, 5, 1, 0] rfl ?_
      exact hb1 (v3, (x3_1 + 1), (me_s M3 52 2 ((M3.1 52 2) + 1))) rfl
    · have h := me_ip c2 h
      refine me_iconst X dX6_readMost_45 ic_0 ?_
      obtain rfl := me_so h
      have q := hr1 _ rfl
      subst q
      have h : some (0, M2) = some (r, M') := hq1
      obtain ⟨rfl, rfl⟩ := me_sp h
      exact me_zret X (by decide) hr hlk dX6_readMost_46
def mX6_readSemicolon_52 (M : me_M)  : Option (Int32 × me_M) :=
  ((mX6_skipBlanks_52 M).bind fun M1 => ((mX6_isByte_52 M1 59).bind fun v2 => (if v2 = 0 then ((mX6_fail_52 M1 1).bind fun (v3, M2) => (if v3 = 0 ∨ v3 = 1 then some (v3, M2) else none)) else some (1, (me_s M1 52 2 ((M1.1 52 2) + 1))))))
set_option maxRecDepth 100000 in
set_option maxHeartbeats 4000000 in
theorem ctX6_readSemicolon_52 {l : Launch} {n nt : Nat} (hn : 63 ≤ n) (hnt : 1 ≤ nt) {M : me_M} {r : Int32} {M' : me_M} (h : mX6_readSemicolon_52 M = some (r, M')) : me_Ct l yX6_readSemicolon cX6_readSemicolon 1 (some .boolean) 1 n nt (fun ad => [.ref (ad 52)]) M (fun _ => some (.int r)) M' := by
  unfold mX6_readSemicolon_52 at h
  refine me_enter (N0 := 63) RX6 rfl (plainFor_of_name pl_RX6) hn (Nat.le_trans (by decide) hnt) (fun _ => Nat.le_of_ble_eq_true rfl) ?_
  intro p e R s m args below meth c D cA ad tys A X hr hlk
  refine me_sub (L' := [(0, .ref (ad 52))]) [0] rfl ?_
  refine me_aload_n X (i := 0) 0 rfl dX6_readSemicolon_0 ?_
  obtain ⟨M1, e1, h⟩ := me_bd h
  refine me_callVv X [] (ctX6_skipBlanks_52 hn (Nat.le_trans (by decide) hnt) e1) kV_X6_33 rfl rfl (Nat.le_of_ble_eq_true rfl) me_k52 (Nat.le_of_ble_eq_true rfl) (Nat.le_refl _) (Nat.le_of_ble_eq_true rfl) dX6_readSemicolon_1 ?_
  refine me_aload_n X (i := 0) 0 rfl dX6_readSemicolon_4 ?_
  refine me_bipush X dX6_readSemicolon_5 ib_59 ?_
  obtain ⟨v2, e2, h⟩ := me_bd h
  refine me_callVi X [.int 59] (ctX6_isByte_52 hn (Nat.le_trans (by decide) hnt) e2) kV_X6_101 rfl rfl (Nat.le_of_ble_eq_true rfl) me_k52 (Nat.le_of_ble_eq_true rfl) (Nat.le_refl _) (Nat.le_of_ble_eq_true rfl) dX6_readSemicolon_7 ?_
  refine me_if_ne X 19 (by decide) dX6_readSemicolon_10 (fun c1 => ?_) (fun c1 => ?_)
  · have h := me_in c1 h
    refine me_aload_n X (i := 0) 0 rfl dX6_readSemicolon_19 ?_
    refine me_dup X rfl dX6_readSemicolon_20 ?_
    refine me_geti X kF_X6_22 (Nat.le_of_ble_eq_true rfl) me_k52 me_f52_2 dX6_readSemicolon_21 ?_
    refine me_iconst X dX6_readSemicolon_24 ic_1 ?_
    refine me_iadd X dX6_readSemicolon_25 ?_
    refine me_puti X kG_X6_22 (Nat.le_of_ble_eq_true rfl) me_k52 me_f52_2 dX6_readSemicolon_26 ?_
    refine me_iconst X dX6_readSemicolon_29 ic_1 ?_
    obtain ⟨rfl, rfl⟩ := me_sp h
    exact me_zret X (by decide) hr hlk dX6_readSemicolon_30
  · have h := me_ip c1 h
    refine me_aload_n X (i := 0) 0 rfl dX6_readSemicolon_13 ?_
    refine me_iconst X dX6_readSemicolon_14 ic_1 ?_
    obtain ⟨⟨v3, M2⟩, e3, h⟩ := me_bd h
    refine me_callVi X [.int 1] (ctX6_fail_52 hn (Nat.le_trans (by decide) hnt) e3) kV_X6_40 rfl rfl (Nat.le_of_ble_eq_true rfl) me_k52 (Nat.le_of_ble_eq_true rfl) (Nat.le_refl _) (Nat.le_of_ble_eq_true rfl) dX6_readSemicolon_15 ?_
    by_cases c2 : v3 = 0 ∨ v3 = 1
    · have h := me_ip c2 h
      obtain ⟨rfl, rfl⟩ := me_sp h
      exact me_zret X (me_z c2) hr hlk dX6_readSemicolon_18
    · have h := me_in c2 h
      cases h
def mX6_readSearch_52_53_J77 (s1 : Int32) (M8 : me_M) : Option me_M :=
  (if s1 = 0 then some M8 else some (me_s M8 53 4 ((M8.1 53 4) + 1)))
def mX6_readSearch_52_53_J76 (M7 : me_M) : Option me_M :=
  (mX6_readSearch_52_53_J77 0 M7)
def mX6_readSearch_52_53_J22 (M : me_M) (s2 : Int32) : Option me_M :=
  ((mX6_fail_52 M s2).bind fun (v8, M9) => some M9)
def mX6_readSearch_52_53 (M : me_M)  : Option me_M :=
  (if (M.1 53 4) < 8 then ((mX6_readOrder_52_53 M).bind fun (v1, M1) => (if v1 = 0 then (mX6_readSearch_52_53_J76 M1) else ((mX6_readGap_52 M1).bind fun (v2, M2) => (if v2 = 0 then (mX6_readSearch_52_53_J76 M2) else ((mX6_readLeast_52_53 M2).bind fun (v3, M3) => (if v3 = 0 then (mX6_readSearch_52_53_J76 M3) else ((mX6_readGap_52 M3).bind fun (v4, M4) => (if v4 = 0 then (mX6_readSearch_52_53_J76 M4) else ((mX6_readMost_52_53 M4).bind fun (v5, M5) => (if v5 = 0 then (mX6_readSearch_52_53_J76 M5) else ((mX6_readSemicolon_52 M5).bind fun (v6, M6) => (if v6 = 0 then (mX6_readSearch_52_53_J76 M6) else (mX6_readSearch_52_53_J77 1 M6))))))))))))) else ((mX6_isDigit_52 M).bind fun v7 => (if v7 = 0 then (mX6_readSearch_52_53_J22 M 1) else (mX6_readSearch_52_53_J22 M 3))))
set_option maxRecDepth 100000 in
set_option maxHeartbeats 4000000 in
theorem ctX6_readSearch_52_53 {l : Launch} {n nt : Nat} (hn : 63 ≤ n) (hnt : 1 ≤ nt) {M : me_M} {M' : me_M} (h : mX6_readSearch_52_53 M = some M') : me_Ct l yX6_readSearch cX6_readSearch 3 none 4 n nt (fun ad => [.ref (ad 52), .ref (ad 53)]) M (fun _ => none) M' := by
  unfold mX6_readSearch_52_53 at h
  refine me_enter (N0 := 63) RX6 rfl (plainFor_of_name pl_RX6) hn (Nat.le_trans (by decide) hnt) (fun _ => Nat.le_of_ble_eq_true rfl) ?_
  intro p e R s m args below meth c D cA ad tys A X hr hlk
  refine me_sub (L' := [(0, .ref (ad 52)), (1, .ref (ad 53))]) [0, 1] rfl ?_
  refine me_aload_n X (i := 1) 1 rfl dX6_readSearch_0 ?_
  refine me_geti X kF_X6_28 (Nat.le_of_ble_eq_true rfl) me_k53 me_f53_4 dX6_readSearch_1 ?_
  refine me_bipush X dX6_readSearch_4 ib_8 ?_
  refine me_icmp_lt X 27 (by decide) dX6_readSearch_6 (fun c1 => ?_) (fun c1 => ?_)
  · have h := me_ip c1 h
    refine me_aload_n X (i := 0) 0 rfl dX6_readSearch_27 ?_
    refine me_aload_n X (i := 1) 1 rfl dX6_readSearch_28 ?_
    obtain ⟨⟨v1, M1⟩, e1, h⟩ := me_bd h
    refine me_callVi X [.ref (ad 53)] (ctX6_readOrder_52_53 hn (Nat.le_trans (by decide) hnt) e1) kV_X6_48 rfl rfl (Nat.le_of_ble_eq_true rfl) me_k52 (Nat.le_of_ble_eq_true rfl) (Nat.le_refl _) (Nat.le_of_ble_eq_true rfl) dX6_readSearch_29 ?_
    have hj77_2 : ∀ (s1 : Int32) (M8 : me_M), mX6_readSearch_52_53_J77 s1 M8 = some M' → me_W p l e R s m args below meth c 0 0 (MQ below (me_Qc D cA ad n A none M') args s 0 0 A) D cA ad n 3 A 77 [(1, .ref (ad 53))] [.int s1] M8 := by
      intro s1 M8 h
      unfold mX6_readSearch_52_53_J77 at h
      refine me_istore_n X (i := 2) [(2, .int s1), (1, .ref (ad 53))] (Nat.le_of_ble_eq_true rfl) rfl dX6_readSearch_77 ?_
      refine me_iload_n X (i := 2) 0 rfl dX6_readSearch_78 ?_
      refine me_if_eq X 92 (by decide) dX6_readSearch_79 (fun c8 => ?_) (fun c8 => ?_)
      · have h := me_ip c8 h
        obtain rfl := me_so h
        exact me_vret X hr hlk dX6_readSearch_92
      · have h := me_in c8 h
        refine me_aload_n X (i := 1) 1 rfl dX6_readSearch_82 ?_
        refine me_dup X rfl dX6_readSearch_83 ?_
        refine me_geti X kF_X6_28 (Nat.le_of_ble_eq_true rfl) me_k53 me_f53_4 dX6_readSearch_84 ?_
        refine me_iconst X dX6_readSearch_87 ic_1 ?_
        refine me_iadd X dX6_readSearch_88 ?_
        refine me_puti X kG_X6_28 (Nat.le_of_ble_eq_true rfl) me_k53 me_f53_4 dX6_readSearch_89 ?_
        obtain rfl := me_so h
        exact me_vret X hr hlk dX6_readSearch_92
    have hj76_1 : ∀ (M7 : me_M), mX6_readSearch_52_53_J76 M7 = some M' → me_W p l e R s m args below meth c 0 0 (MQ below (me_Qc D cA ad n A none M') args s 0 0 A) D cA ad n 3 A 76 [(1, .ref (ad 53))] [] M7 := by
      intro M7 h
      unfold mX6_readSearch_52_53_J76 at h
      refine me_iconst X dX6_readSearch_76 ic_0 ?_
      exact hj77_2 0 M7 h
    refine me_if_eq X 76 (by decide) dX6_readSearch_32 (fun c2 => ?_) (fun c2 => ?_)
    · have h := me_ip c2 h
      refine me_sub (L' := [(1, .ref (ad 53))]) [1] rfl ?_
      exact hj76_1 M1 h
    · have h := me_in c2 h
      refine me_aload_n X (i := 0) 0 rfl dX6_readSearch_35 ?_
      obtain ⟨⟨v2, M2⟩, e2, h⟩ := me_bd h
      refine me_callVi X [] (ctX6_readGap_52 hn (Nat.le_trans (by decide) hnt) e2) kV_X6_52 rfl rfl (Nat.le_of_ble_eq_true rfl) me_k52 (Nat.le_of_ble_eq_true rfl) (Nat.le_refl _) (Nat.le_of_ble_eq_true rfl) dX6_readSearch_36 ?_
      refine me_if_eq X 76 (by decide) dX6_readSearch_39 (fun c3 => ?_) (fun c3 => ?_)
      · have h := me_ip c3 h
        refine me_sub (L' := [(1, .ref (ad 53))]) [1] rfl ?_
        exact hj76_1 M2 h
      · have h := me_in c3 h
        refine me_aload_n X (i := 0) 0 rfl dX6_readSearch_42 ?_
        refine me_aload_n X (i := 1) 1 rfl dX6_readSearch_43 ?_
        obtain ⟨⟨v3, M3⟩, e3, h⟩ := me_bd h
        refine me_callVi X [.ref (ad 53)] (ctX6_readLeast_52_53 hn (Nat.le_trans (by decide) hnt) e3) kV_X6_55 rfl rfl (Nat.le_of_ble_eq_true rfl) me_k52 (Nat.le_of_ble_eq_true rfl) (Nat.le_refl _) (Nat.le_of_ble_eq_true rfl) dX6_readSearch_44 ?_
        refine me_if_eq X 76 (by decide) dX6_readSearch_47 (fun c4 => ?_) (fun c4 => ?_)
        · have h := me_ip c4 h
          refine me_sub (L' := [(1, .ref (ad 53))]) [1] rfl ?_
          exact hj76_1 M3 h
        · have h := me_in c4 h
          refine me_aload_n X (i := 0) 0 rfl dX6_readSearch_50 ?_
          obtain ⟨⟨v4, M4⟩, e4, h⟩ := me_bd h
          refine me_callVi X [] (ctX6_readGap_52 hn (Nat.le_trans (by decide) hnt) e4) kV_X6_52 rfl rfl (Nat.le_of_ble_eq_true rfl) me_k52 (Nat.le_of_ble_eq_true rfl) (Nat.le_refl _) (Nat.le_of_ble_eq_true rfl) dX6_readSearch_51 ?_
          refine me_if_eq X 76 (by decide) dX6_readSearch_54 (fun c5 => ?_) (fun c5 => ?_)
          · have h := me_ip c5 h
            refine me_sub (L' := [(1, .ref (ad 53))]) [1] rfl ?_
            exact hj76_1 M4 h
          · have h := me_in c5 h
            refine me_aload_n X (i := 0) 0 rfl dX6_readSearch_57 ?_
            refine me_aload_n X (i := 1) 1 rfl dX6_readSearch_58 ?_
            obtain ⟨⟨v5, M5⟩, e5, h⟩ := me_bd h
            refine me_callVi X [.ref (ad 53)] (ctX6_readMost_52_53 hn (Nat.le_trans (by decide) hnt) e5) kV_X6_58 rfl rfl (Nat.le_of_ble_eq_true rfl) me_k52 (Nat.le_of_ble_eq_true rfl) (Nat.le_refl _) (Nat.le_of_ble_eq_true rfl) dX6_readSearch_59 ?_
            refine me_if_eq X 76 (by decide) dX6_readSearch_62 (fun c6 => ?_) (fun c6 => ?_)
            · have h := me_ip c6 h
              refine me_sub (L' := [(1, .ref (ad 53))]) [1] rfl ?_
              exact hj76_1 M5 h
            · have h := me_in c6 h
              refine me_aload_n X (i := 0) 0 rfl dX6_readSearch_65 ?_
              obtain ⟨⟨v6, M6⟩, e6, h⟩ := me_bd h
              refine me_callVi X [] (ctX6_readSemicolon_52 hn (Nat.le_trans (by decide) hnt) e6) kV_X6_61 rfl rfl (Nat.le_of_ble_eq_true rfl) me_k52 (Nat.le_of_ble_eq_true rfl) (Nat.le_refl _) (Nat.le_of_ble_eq_true rfl) dX6_readSearch_66 ?_
              refine me_if_eq X 76 (by decide) dX6_readSearch_69 (fun c7 => ?_) (fun c7 => ?_)
              · have h := me_ip c7 h
                refine me_sub (L' := [(1, .ref (ad 53))]) [1] rfl ?_
                exact hj76_1 M6 h
              · have h := me_in c7 h
                refine me_iconst X dX6_readSearch_72 ic_1 ?_
                refine me_goto X 77 (by decide) dX6_readSearch_73 ?_
                refine me_sub (L' := [(1, .ref (ad 53))]) [1] rfl ?_
                exact hj77_2 1 M6 h
  · have h := me_in c1 h
    refine me_aload_n X (i := 0) 0 rfl dX6_readSearch_9 ?_
    refine me_aload_n X (i := 0) 0 rfl dX6_readSearch_10 ?_
    obtain ⟨v7, e7, h⟩ := me_bd h
    refine me_callVi X [] (ctX6_isDigit_52 hn (Nat.le_trans (by decide) hnt) e7) kV_X6_44 rfl rfl (Nat.le_of_ble_eq_true rfl) me_k52 (Nat.le_of_ble_eq_true rfl) (Nat.le_refl _) (Nat.le_of_ble_eq_true rfl) dX6_readSearch_11 ?_
    have hj22_3 : ∀ (s2 : Int32), mX6_readSearch_52_53_J22 M s2 = some M' → me_W p l e R s m args below meth c 0 0 (MQ below (me_Qc D cA ad n A none M') args s 0 0 A) D cA ad n 3 A 22 [] [.int s2, .ref (ad 52)] M := by
      intro s2 h
      unfold mX6_readSearch_52_53_J22 at h
      obtain ⟨⟨v8, M9⟩, e8, h⟩ := me_bd h
      refine me_callVi X [.int s2] (ctX6_fail_52 hn (Nat.le_trans (by decide) hnt) e8) kV_X6_40 rfl rfl (Nat.le_of_ble_eq_true rfl) me_k52 (Nat.le_of_ble_eq_true rfl) (Nat.le_refl _) (Nat.le_of_ble_eq_true rfl) dX6_readSearch_22 ?_
      refine me_pop X rfl dX6_readSearch_25 ?_
      obtain rfl := me_so h
      exact me_vret X hr hlk dX6_readSearch_26
    refine me_if_eq X 21 (by decide) dX6_readSearch_14 (fun c9 => ?_) (fun c9 => ?_)
    · have h := me_ip c9 h
      refine me_iconst X dX6_readSearch_21 ic_1 ?_
      refine me_sub (L' := []) [] rfl ?_
      exact hj22_3 1 h
    · have h := me_in c9 h
      refine me_iconst X dX6_readSearch_17 ic_3 ?_
      refine me_goto X 22 (by decide) dX6_readSearch_18 ?_
      refine me_sub (L' := []) [] rfl ?_
      exact hj22_3 3 h
def mX6_read_52_53_L31  : (Int32 × me_M) → Option ((Int32 × me_M) ⊕ (me_M))
  | (x3_1, M2) => (if 8 < x3_1 then some (.inr M2) else (if (M2.1 52 1) ≤ (M2.1 52 2) then some (.inr M2) else (if (M2.1 52 3) = 0 then ((mX6_readSearch_52_53 M2).bind fun M3 => ((mX6_skipBlanks_52 M3).bind fun M4 => some (.inl ((x3_1 + 1), M4)))) else some (.inr M2))))
def mX6_read_52_53 (M : me_M) (p0 : Int32) : Option me_M :=
  ((mX6_skipBlanks_52 (me_s (me_s (me_s (me_s (me_s M 52 1 p0) 52 2 0) 52 3 0) 52 4 (-1)) 53 4 0)).bind fun M1 => ((me_l mX6_read_52_53_L31 me_fu (0, M1)).bind fun M5 => (if (M5.1 52 3) = 0 then (if (M5.1 53 4) = 0 then ((mX6_fail_52 M5 1).bind fun (v4, M6) => some M6) else some M5) else some M5)))
set_option maxRecDepth 100000 in
set_option maxHeartbeats 4000000 in
theorem ctX6_read_52_53 {l : Launch} {n nt : Nat} (hn : 63 ≤ n) (hnt : 1 ≤ nt) {M : me_M} {p0 : Int32} {M' : me_M} (h : mX6_read_52_53 M p0 = some M') : me_Ct l yX6_read cX6_read 4 none 5 n nt (fun ad => [.ref (ad 52), .int p0, .ref (ad 53)]) M (fun _ => none) M' := by
  unfold mX6_read_52_53 at h
  refine me_enter (N0 := 63) RX6 rfl (plainFor_of_name pl_RX6) hn (Nat.le_trans (by decide) hnt) (fun _ => Nat.le_of_ble_eq_true rfl) ?_
  intro p e R s m args below meth c D cA ad tys A X hr hlk
  refine me_sub (L' := [(0, .ref (ad 52)), (1, .int p0), (2, .ref (ad 53))]) [0, 1, 2] rfl ?_
  refine me_aload_n X (i := 0) 0 rfl dX6_read_0 ?_
  refine me_iload_n X (i := 1) 1 rfl dX6_read_1 ?_
  refine me_puti X kG_X6_19 (Nat.le_of_ble_eq_true rfl) me_k52 me_f52_1 dX6_read_2 ?_
  refine me_aload_n X (i := 0) 0 rfl dX6_read_5 ?_
  refine me_iconst X dX6_read_6 ic_0 ?_
  refine me_puti X kG_X6_22 (Nat.le_of_ble_eq_true rfl) me_k52 me_f52_2 dX6_read_7 ?_
  refine me_aload_n X (i := 0) 0 rfl dX6_read_10 ?_
  refine me_iconst X dX6_read_11 ic_0 ?_
  refine me_puti X kG_X6_25 (Nat.le_of_ble_eq_true rfl) me_k52 me_f52_3 dX6_read_12 ?_
  refine me_aload_n X (i := 0) 0 rfl dX6_read_15 ?_
  refine me_iconst X dX6_read_16 ic_m1 ?_
  refine me_puti X kG_X6_15 (Nat.le_of_ble_eq_true rfl) me_k52 me_f52_4 dX6_read_17 ?_
  refine me_aload_n X (i := 2) 2 rfl dX6_read_20 ?_
  refine me_iconst X dX6_read_21 ic_0 ?_
  refine me_puti X kG_X6_28 (Nat.le_of_ble_eq_true rfl) me_k53 me_f53_4 dX6_read_22 ?_
  refine me_aload_n X (i := 0) 0 rfl dX6_read_25 ?_
  obtain ⟨M1, e1, h⟩ := me_bd h
  refine me_callVv X [] (ctX6_skipBlanks_52 hn (Nat.le_trans (by decide) hnt) e1) kV_X6_33 rfl rfl (Nat.le_of_ble_eq_true rfl) me_k52 (Nat.le_of_ble_eq_true rfl) (Nat.le_refl _) (Nat.le_of_ble_eq_true rfl) dX6_read_26 ?_
  refine me_iconst X dX6_read_29 ic_0 ?_
  refine me_istore_n X (i := 3) [(3, .int 0), (0, .ref (ad 52)), (1, .int p0), (2, .ref (ad 53))] (Nat.le_of_ble_eq_true rfl) rfl dX6_read_30 ?_
  obtain ⟨M5, hq1, h⟩ := me_bd h
  have hx1 : me_W p l e R s m args below meth c 0 0 (MQ below (me_Qc D cA ad n A none M') args s 0 0 A) D cA ad n 4 A 70 [(0, .ref (ad 52)), (2, .ref (ad 53))] [] M5 := by
    refine me_aload_n X (i := 0) 0 rfl dX6_read_70 ?_
    refine me_geti X kF_X6_25 (Nat.le_of_ble_eq_true rfl) me_k52 me_f52_3 dX6_read_71 ?_
    refine me_if_ne X 90 (by decide) dX6_read_74 (fun c4 => ?_) (fun c4 => ?_)
    · have h := me_in c4 h
      obtain rfl := me_so h
      exact me_vret X hr hlk dX6_read_90
    · have h := me_ip c4 h
      refine me_aload_n X (i := 2) 1 rfl dX6_read_77 ?_
      refine me_geti X kF_X6_28 (Nat.le_of_ble_eq_true rfl) me_k53 me_f53_4 dX6_read_78 ?_
      refine me_if_ne X 90 (by decide) dX6_read_81 (fun c5 => ?_) (fun c5 => ?_)
      · have h := me_in c5 h
        obtain rfl := me_so h
        exact me_vret X hr hlk dX6_read_90
      · have h := me_ip c5 h
        refine me_aload_n X (i := 0) 0 rfl dX6_read_84 ?_
        refine me_iconst X dX6_read_85 ic_1 ?_
        obtain ⟨⟨v4, M6⟩, e4, h⟩ := me_bd h
        refine me_callVi X [.int 1] (ctX6_fail_52 hn (Nat.le_trans (by decide) hnt) e4) kV_X6_40 rfl rfl (Nat.le_of_ble_eq_true rfl) me_k52 (Nat.le_of_ble_eq_true rfl) (Nat.le_refl _) (Nat.le_of_ble_eq_true rfl) dX6_read_86 ?_
        refine me_pop X rfl dX6_read_89 ?_
        obtain rfl := me_so h
        exact me_vret X hr hlk dX6_read_90
  refine me_sub (L' := [(0, .ref (ad 52)), (2, .ref (ad 53)), (3, .int 0)]) [1, 3, 0] rfl ?_
  refine me_l_W (b := mX6_read_52_53_L31) (P := fun w => me_W p l e R s m args below meth c 0 0 (MQ below (me_Qc D cA ad n A none M') args s 0 0 A) D cA ad n 4 A 31 [(0, .ref (ad 52)), (2, .ref (ad 53)), (3, .int w.1)] [] w.2) (r := M5) ?_ me_fu (0, M1) hq1
  rintro ⟨x3_1, M2⟩ z1 h hb1 - hr1
  unfold mX6_read_52_53_L31 at h
  refine me_iload_n X (i := 3) 2 rfl dX6_read_31 ?_
  refine me_bipush X dX6_read_32 ib_8 ?_
  refine me_icmp_gt X 70 (by decide) dX6_read_34 (fun c1 => ?_) (fun c1 => ?_)
  · have h := me_ip c1 h
    obtain rfl := me_so h
    have q := hr1 _ rfl
    refine me_sub (L' := [(0, .ref (ad 52)), (2, .ref (ad 53))]) [0, 1] rfl ?_
    cases q
    exact hx1
  · have h := me_in c1 h
    refine me_aload_n X (i := 0) 0 rfl dX6_read_37 ?_
    refine me_geti X kF_X6_22 (Nat.le_of_ble_eq_true rfl) me_k52 me_f52_2 dX6_read_38 ?_
    refine me_aload_n X (i := 0) 0 rfl dX6_read_41 ?_
    refine me_geti X kF_X6_19 (Nat.le_of_ble_eq_true rfl) me_k52 me_f52_1 dX6_read_42 ?_
    refine me_icmp_ge X 70 (by decide) dX6_read_45 (fun c2 => ?_) (fun c2 => ?_)
    · have h := me_ip c2 h
      obtain rfl := me_so h
      have q := hr1 _ rfl
      refine me_sub (L' := [(0, .ref (ad 52)), (2, .ref (ad 53))]) [0, 1] rfl ?_
      cases q
      exact hx1
    · have h := me_in c2 h
      refine me_aload_n X (i := 0) 0 rfl dX6_read_48 ?_
      refine me_geti X kF_X6_25 (Nat.le_of_ble_eq_true rfl) me_k52 me_f52_3 dX6_read_49 ?_
      refine me_if_ne X 70 (by decide) dX6_read_52 (fun c3 => ?_) (fun c3 => ?_)
      · have h := me_in c3 h
        obtain rfl := me_so h
        have q := hr1 _ rfl
        refine me_sub (L' := [(0, .ref (ad 52)), (2, .ref (ad 53))]) [0, 1] rfl ?_
        cases q
        exact hx1
      · have h := me_ip c3 h
        refine me_aload_n X (i := 0) 0 rfl dX6_read_55 ?_
        refine me_aload_n X (i := 2) 1 rfl dX6_read_56 ?_
        obtain ⟨M3, e2, h⟩ := me_bd h
        refine me_callVv X [.ref (ad 53)] (ctX6_readSearch_52_53 hn (Nat.le_trans (by decide) hnt) e2) kV_X6_36 rfl rfl (Nat.le_of_ble_eq_true rfl) me_k52 (Nat.le_of_ble_eq_true rfl) (Nat.le_refl _) (Nat.le_of_ble_eq_true rfl) dX6_read_57 ?_
        refine me_aload_n X (i := 0) 0 rfl dX6_read_60 ?_
        obtain ⟨M4, e3, h⟩ := me_bd h
        refine me_callVv X [] (ctX6_skipBlanks_52 hn (Nat.le_trans (by decide) hnt) e3) kV_X6_33 rfl rfl (Nat.le_of_ble_eq_true rfl) me_k52 (Nat.le_of_ble_eq_true rfl) (Nat.le_refl _) (Nat.le_of_ble_eq_true rfl) dX6_read_61 ?_
        refine me_iinc X (v := (x3_1 + 1)) 2 rfl (in_1 _) [(3, .int (x3_1 + 1)), (0, .ref (ad 52)), (2, .ref (ad 53))] (Nat.le_of_ble_eq_true rfl) rfl dX6_read_64 ?_
        refine me_goto X 31 (by decide) dX6_read_67 ?_
        obtain rfl := me_so h
        refine me_sub (L' := [(0, .ref (ad 52)), (2, .ref (ad 53)), (3, .int (x3_1 + 1))]) [1, 2, 0] rfl ?_
        exact hb1 ((x3_1 + 1), M4) rfl
def mX5_budget_58_L4 (M : me_M) : (Int32 × Int32) → Option ((Int32 × Int32) ⊕ (Int32))
  | (x1_1, x2_1) => (if (M.1 58 4) ≤ x2_1 then some (.inr x1_1) else ((me_r M 61 40 (((x2_1 * 5) + (M.1 58 5)) - 1)).bind fun v1 => ((mJ9_max_7cf53 x1_1 v1).bind fun v2 => some (.inl (v2, (x2_1 + 1))))))
def mX5_budget_58 (M : me_M)  : Option Int32 :=
  ((me_l (mX5_budget_58_L4 M) me_fu (0, 0)).bind fun y1_1 => some y1_1)
set_option maxRecDepth 100000 in
set_option maxHeartbeats 4000000 in
theorem ctX5_budget_58 {l : Launch} {n nt : Nat} (hn : 63 ≤ n) (hnt : 1 ≤ nt) {M : me_M} {r : Int32} (h : mX5_budget_58 M = some r) : me_Ct l yX5_budget cX5_budget 3 (some .int) 1 n nt (fun ad => [.ref (ad 58)]) M (fun _ => some (.int r)) M := by
  unfold mX5_budget_58 at h
  refine me_enter (N0 := 63) RX5 rfl (plainFor_of_name pl_RX5) hn (Nat.le_trans (by decide) hnt) (fun _ => Nat.le_of_ble_eq_true rfl) ?_
  intro p e R s m args below meth c D cA ad tys A X hr hlk
  refine me_sub (L' := [(0, .ref (ad 58))]) [0] rfl ?_
  refine me_iconst X dX5_budget_0 ic_0 ?_
  refine me_istore_n X (i := 1) [(1, .int 0), (0, .ref (ad 58))] (Nat.le_of_ble_eq_true rfl) rfl dX5_budget_1 ?_
  refine me_iconst X dX5_budget_2 ic_0 ?_
  refine me_istore_n X (i := 2) [(2, .int 0), (1, .int 0), (0, .ref (ad 58))] (Nat.le_of_ble_eq_true rfl) rfl dX5_budget_3 ?_
  obtain ⟨y1_1, hq1, h⟩ := me_bd h
  have hx1 : me_W p l e R s m args below meth c 0 0 (MQ below (me_Qc D cA ad n A (some (.int r)) M) args s 0 0 A) D cA ad n 3 A 38 [(1, .int y1_1)] [] M := by
    refine me_iload_n X (i := 1) 0 rfl dX5_budget_38 ?_
    obtain rfl := me_so h
    exact me_iret X hr hlk dX5_budget_39
  refine me_sub (L' := [(0, .ref (ad 58)), (1, .int 0), (2, .int 0)]) [2, 1, 0] rfl ?_
  refine me_l_W (b := (mX5_budget_58_L4 M)) (P := fun w => me_W p l e R s m args below meth c 0 0 (MQ below (me_Qc D cA ad n A (some (.int r)) M) args s 0 0 A) D cA ad n 3 A 4 [(0, .ref (ad 58)), (1, .int w.1), (2, .int w.2)] [] M) (r := y1_1) ?_ me_fu (0, 0) hq1
  rintro ⟨x1_1, x2_1⟩ z1 h hb1 - hr1
  unfold mX5_budget_58_L4 at h
  refine me_iload_n X (i := 2) 2 rfl dX5_budget_4 ?_
  refine me_aload_n X (i := 0) 0 rfl dX5_budget_5 ?_
  refine me_geti X kF_X5_24 (Nat.le_of_ble_eq_true rfl) me_k58 me_f58_4 dX5_budget_6 ?_
  refine me_icmp_ge X 38 (by decide) dX5_budget_9 (fun c1 => ?_) (fun c1 => ?_)
  · have h := me_ip c1 h
    obtain rfl := me_so h
    have q := hr1 _ rfl
    refine me_sub (L' := [(1, .int x1_1)]) [1] rfl ?_
    cases q
    exact hx1
  · have h := me_in c1 h
    refine me_iload_n X (i := 1) 1 rfl dX5_budget_12 ?_
    refine me_aload_n X (i := 0) 0 rfl dX5_budget_13 ?_
    refine me_getr X 61 kF_X5_18 (Nat.le_of_ble_eq_true rfl) me_k58 me_f58_2 dX5_budget_14 ?_
    refine me_iload_n X (i := 2) 2 rfl dX5_budget_17 ?_
    refine me_iconst X dX5_budget_18 ic_5 ?_
    refine me_imul X dX5_budget_19 ?_
    refine me_aload_n X (i := 0) 0 rfl dX5_budget_20 ?_
    refine me_geti X kF_X5_28 (Nat.le_of_ble_eq_true rfl) me_k58 me_f58_5 dX5_budget_21 ?_
    refine me_iadd X dX5_budget_24 ?_
    refine me_iconst X dX5_budget_25 ic_1 ?_
    refine me_isub X dX5_budget_26 ?_
    obtain ⟨v1, e1, h⟩ := me_bd h
    refine me_iald X (Nat.le_of_ble_eq_true rfl) me_k61 e1 dX5_budget_27 ?_
    obtain ⟨v2, e2, h⟩ := me_bd h
    refine me_callSi X [.int x1_1, .int v1] (ctJ9_max_7cf53 hn (Nat.le_trans (by decide) hnt) e2) kS_X5_31 rfl rfl (Nat.le_of_ble_eq_true rfl) (Nat.le_refl _) (Nat.le_of_ble_eq_true rfl) dX5_budget_28 ?_
    refine me_istore_n X (i := 1) [(1, .int v2), (0, .ref (ad 58)), (2, .int x2_1)] (Nat.le_of_ble_eq_true rfl) rfl dX5_budget_31 ?_
    refine me_iinc X (v := (x2_1 + 1)) 2 rfl (in_1 _) [(2, .int (x2_1 + 1)), (1, .int v2), (0, .ref (ad 58))] (Nat.le_of_ble_eq_true rfl) rfl dX5_budget_32 ?_
    refine me_goto X 4 (by decide) dX5_budget_35 ?_
    obtain rfl := me_so h
    refine me_sub (L' := [(0, .ref (ad 58)), (1, .int v2), (2, .int (x2_1 + 1))]) [2, 1, 0] rfl ?_
    exact hb1 (v2, (x2_1 + 1)) rfl
def mX5_firstShare_58_L7  : (Int32 × me_M) → Option ((Int32 × me_M) ⊕ (me_M))
  | (x1_1, M1) => (if 5 ≤ x1_1 then some (.inr M1) else ((me_t M1 62 5 x1_1 0).bind fun M2 => some (.inl ((x1_1 + 1), M2))))
def mX5_firstShare_58 (M : me_M)  : Option me_M :=
  ((me_l mX5_firstShare_58_L7 me_fu (0, (me_s M 58 6 0))).bind fun M3 => some M3)
set_option maxRecDepth 100000 in
set_option maxHeartbeats 4000000 in
theorem ctX5_firstShare_58 {l : Launch} {n nt : Nat} (hn : 63 ≤ n) (hnt : 1 ≤ nt) {M : me_M} {M' : me_M} (h : mX5_firstShare_58 M = some M') : me_Ct l yX5_firstShare cX5_firstShare 2 none 0 n nt (fun ad => [.ref (ad 58)]) M (fun _ => none) M' := by
  unfold mX5_firstShare_58 at h
  refine me_enter (N0 := 63) RX5 rfl (plainFor_of_name pl_RX5) hn (Nat.le_trans (by decide) hnt) (fun _ => Nat.le_of_ble_eq_true rfl) ?_
  intro p e R s m args below meth c D cA ad tys A X hr hlk
  refine me_sub (L' := [(0, .ref (ad 58))]) [0] rfl ?_
  refine me_aload_n X (i := 0) 0 rfl dX5_firstShare_0 ?_
  refine me_iconst X dX5_firstShare_1 ic_0 ?_
  refine me_puti X kG_X5_73 (Nat.le_of_ble_eq_true rfl) me_k58 me_f58_6 dX5_firstShare_2 ?_
  refine me_iconst X dX5_firstShare_5 ic_0 ?_
  refine me_istore_n X (i := 1) [(1, .int 0), (0, .ref (ad 58))] (Nat.le_of_ble_eq_true rfl) rfl dX5_firstShare_6 ?_
  obtain ⟨M3, hq1, h⟩ := me_bd h
  have hx1 : me_W p l e R s m args below meth c 0 0 (MQ below (me_Qc D cA ad n A none M') args s 0 0 A) D cA ad n 2 A 25 [] [] M3 := by
    obtain rfl := me_so h
    exact me_vret X hr hlk dX5_firstShare_25
  refine me_sub (L' := [(0, .ref (ad 58)), (1, .int 0)]) [1, 0] rfl ?_
  refine me_l_W (b := mX5_firstShare_58_L7) (P := fun w => me_W p l e R s m args below meth c 0 0 (MQ below (me_Qc D cA ad n A none M') args s 0 0 A) D cA ad n 2 A 7 [(0, .ref (ad 58)), (1, .int w.1)] [] w.2) (r := M3) ?_ me_fu (0, (me_s M 58 6 0)) hq1
  rintro ⟨x1_1, M1⟩ z1 h hb1 - hr1
  unfold mX5_firstShare_58_L7 at h
  refine me_iload_n X (i := 1) 1 rfl dX5_firstShare_7 ?_
  refine me_iconst X dX5_firstShare_8 ic_5 ?_
  refine me_icmp_ge X 25 (by decide) dX5_firstShare_9 (fun c1 => ?_) (fun c1 => ?_)
  · have h := me_ip c1 h
    obtain rfl := me_so h
    have q := hr1 _ rfl
    refine me_sub (L' := []) [] rfl ?_
    cases q
    exact hx1
  · have h := me_in c1 h
    refine me_aload_n X (i := 0) 0 rfl dX5_firstShare_12 ?_
    refine me_getr X 62 kF_X5_21 (Nat.le_of_ble_eq_true rfl) me_k58 me_f58_3 dX5_firstShare_13 ?_
    refine me_iload_n X (i := 1) 1 rfl dX5_firstShare_16 ?_
    refine me_iconst X dX5_firstShare_17 ic_0 ?_
    obtain ⟨M2, e1, h⟩ := me_bd h
    refine me_iast X (Nat.le_of_ble_eq_true rfl) me_k62 e1 dX5_firstShare_18 ?_
    refine me_iinc X (v := (x1_1 + 1)) 1 rfl (in_1 _) [(1, .int (x1_1 + 1)), (0, .ref (ad 58))] (Nat.le_of_ble_eq_true rfl) rfl dX5_firstShare_19 ?_
    refine me_goto X 7 (by decide) dX5_firstShare_22 ?_
    obtain rfl := me_so h
    refine me_sub (L' := [(0, .ref (ad 58)), (1, .int (x1_1 + 1))]) [1, 0] rfl ?_
    exact hb1 ((x1_1 + 1), M2) rfl
def mX5_covers_58_L4 (M : me_M) (p0 : Int32) : (Int32 × Int32) → Option ((Int32 × Int32) ⊕ ((Unit) ⊕ Int32))
  | (x2_1, x3_1) => (if (M.1 58 5) ≤ x3_1 then some (.inr (.inl ())) else ((me_r M 59 40 ((p0 * 5) + x3_1)).bind fun v1 => ((me_r M 62 5 v1).bind fun v2 => ((me_r M 60 40 ((p0 * 5) + x3_1)).bind fun v3 => (if (x2_1 + v2) < v3 then some (.inr (.inr 0)) else ((me_r M 61 40 ((p0 * 5) + x3_1)).bind fun v4 => (if (x2_1 + v2) ≤ v4 then some (.inl ((x2_1 + v2), (x3_1 + 1))) else some (.inr (.inr 0)))))))))
def mX5_covers_58 (M : me_M) (p0 : Int32) : Option Int32 :=
  ((me_l (mX5_covers_58_L4 M p0) me_fu (0, 0)).bind fun o => Sum.elim (fun _ => some 1) (fun res => some res) o)
set_option maxRecDepth 100000 in
set_option maxHeartbeats 4000000 in
theorem ctX5_covers_58 {l : Launch} {n nt : Nat} (hn : 63 ≤ n) (hnt : 1 ≤ nt) {M : me_M} {p0 : Int32} {r : Int32} (h : mX5_covers_58 M p0 = some r) : me_Ct l yX5_covers cX5_covers 5 (some .boolean) 0 n nt (fun ad => [.ref (ad 58), .int p0]) M (fun _ => some (.int r)) M := by
  unfold mX5_covers_58 at h
  refine me_enter (N0 := 63) RX5 rfl (plainFor_of_name pl_RX5) hn (Nat.le_trans (by decide) hnt) (fun _ => Nat.le_of_ble_eq_true rfl) ?_
  intro p e R s m args below meth c D cA ad tys A X hr hlk
  refine me_sub (L' := [(0, .ref (ad 58)), (1, .int p0)]) [0, 1] rfl ?_
  refine me_iconst X dX5_covers_0 ic_0 ?_
  refine me_istore_n X (i := 2) [(2, .int 0), (0, .ref (ad 58)), (1, .int p0)] (Nat.le_of_ble_eq_true rfl) rfl dX5_covers_1 ?_
  refine me_iconst X dX5_covers_2 ic_0 ?_
  refine me_istore_n X (i := 3) [(3, .int 0), (2, .int 0), (0, .ref (ad 58)), (1, .int p0)] (Nat.le_of_ble_eq_true rfl) rfl dX5_covers_3 ?_
  obtain ⟨o0, hq1l, hq1⟩ := me_bd h
  have hx1 : o0 = .inl () → me_W p l e R s m args below meth c 0 0 (MQ below (me_Qc D cA ad n A (some (.int r)) M) args s 0 0 A) D cA ad n 5 A 64 [] [] M := by
    intro q
    subst q
    have h := me_el hq1
    refine me_iconst X dX5_covers_64 ic_1 ?_
    obtain rfl := me_so h
    exact me_zret X (by decide) hr hlk dX5_covers_65
  refine me_sub (L' := [(0, .ref (ad 58)), (1, .int p0), (2, .int 0), (3, .int 0)]) [2, 3, 1, 0] rfl ?_
  refine me_l_W (b := (mX5_covers_58_L4 M p0)) (P := fun w => me_W p l e R s m args below meth c 0 0 (MQ below (me_Qc D cA ad n A (some (.int r)) M) args s 0 0 A) D cA ad n 5 A 4 [(0, .ref (ad 58)), (1, .int p0), (2, .int w.1), (3, .int w.2)] [] M) (r := o0) ?_ me_fu (0, 0) hq1l
  rintro ⟨x2_1, x3_1⟩ z1 h hb1 - hr1
  unfold mX5_covers_58_L4 at h
  refine me_iload_n X (i := 3) 3 rfl dX5_covers_4 ?_
  refine me_aload_n X (i := 0) 0 rfl dX5_covers_5 ?_
  refine me_geti X kF_X5_28 (Nat.le_of_ble_eq_true rfl) me_k58 me_f58_5 dX5_covers_6 ?_
  refine me_icmp_ge X 64 (by decide) dX5_covers_9 (fun c1 => ?_) (fun c1 => ?_)
  · have h := me_ip c1 h
    obtain rfl := me_so h
    have q := hr1 _ rfl
    refine me_sub (L' := []) [] rfl ?_
    subst q
    exact hx1 rfl
  · have h := me_in c1 h
    refine me_iload_n X (i := 1) 1 rfl dX5_covers_12 ?_
    refine me_iconst X dX5_covers_13 ic_5 ?_
    refine me_imul X dX5_covers_14 ?_
    refine me_iload_n X (i := 3) 3 rfl dX5_covers_15 ?_
    refine me_iadd X dX5_covers_16 ?_
    refine me_istore X (i := 4) [(4, .int ((p0 * 5) + x3_1)), (0, .ref (ad 58)), (1, .int p0), (2, .int x2_1), (3, .int x3_1)] (Nat.le_of_ble_eq_true rfl) rfl dX5_covers_17 ?_
    refine me_iload_n X (i := 2) 3 rfl dX5_covers_19 ?_
    refine me_aload_n X (i := 0) 1 rfl dX5_covers_20 ?_
    refine me_getr X 62 kF_X5_21 (Nat.le_of_ble_eq_true rfl) me_k58 me_f58_3 dX5_covers_21 ?_
    refine me_aload_n X (i := 0) 1 rfl dX5_covers_24 ?_
    refine me_getr X 59 kF_X5_9 (Nat.le_of_ble_eq_true rfl) me_k58 me_f58_0 dX5_covers_25 ?_
    refine me_iload X (i := 4) 0 rfl dX5_covers_28 ?_
    obtain ⟨v1, e1, h⟩ := me_bd h
    refine me_iald X (Nat.le_of_ble_eq_true rfl) me_k59 e1 dX5_covers_30 ?_
    obtain ⟨v2, e2, h⟩ := me_bd h
    refine me_iald X (Nat.le_of_ble_eq_true rfl) me_k62 e2 dX5_covers_31 ?_
    refine me_iadd X dX5_covers_32 ?_
    refine me_istore_n X (i := 2) [(2, .int (x2_1 + v2)), (4, .int ((p0 * 5) + x3_1)), (0, .ref (ad 58)), (1, .int p0), (3, .int x3_1)] (Nat.le_of_ble_eq_true rfl) rfl dX5_covers_33 ?_
    refine me_iload_n X (i := 2) 0 rfl dX5_covers_34 ?_
    refine me_aload_n X (i := 0) 2 rfl dX5_covers_35 ?_
    refine me_getr X 60 kF_X5_15 (Nat.le_of_ble_eq_true rfl) me_k58 me_f58_1 dX5_covers_36 ?_
    refine me_iload X (i := 4) 1 rfl dX5_covers_39 ?_
    obtain ⟨v3, e3, h⟩ := me_bd h
    refine me_iald X (Nat.le_of_ble_eq_true rfl) me_k60 e3 dX5_covers_41 ?_
    refine me_icmp_lt X 56 (by decide) dX5_covers_42 (fun c2 => ?_) (fun c2 => ?_)
    · have h := me_ip c2 h
      refine me_iconst X dX5_covers_56 ic_0 ?_
      obtain rfl := me_so h
      have q := hr1 _ rfl
      subst q
      have h : some 0 = some r := hq1
      obtain rfl := me_so h
      exact me_zret X (by decide) hr hlk dX5_covers_57
    · have h := me_in c2 h
      refine me_iload_n X (i := 2) 0 rfl dX5_covers_45 ?_
      refine me_aload_n X (i := 0) 2 rfl dX5_covers_46 ?_
      refine me_getr X 61 kF_X5_18 (Nat.le_of_ble_eq_true rfl) me_k58 me_f58_2 dX5_covers_47 ?_
      refine me_iload X (i := 4) 1 rfl dX5_covers_50 ?_
      obtain ⟨v4, e4, h⟩ := me_bd h
      refine me_iald X (Nat.le_of_ble_eq_true rfl) me_k61 e4 dX5_covers_52 ?_
      refine me_icmp_le X 58 (by decide) dX5_covers_53 (fun c3 => ?_) (fun c3 => ?_)
      · have h := me_ip c3 h
        refine me_iinc X (v := (x3_1 + 1)) 4 rfl (in_1 _) [(3, .int (x3_1 + 1)), (2, .int (x2_1 + v2)), (4, .int ((p0 * 5) + x3_1)), (0, .ref (ad 58)), (1, .int p0)] (Nat.le_of_ble_eq_true rfl) rfl dX5_covers_58 ?_
        refine me_goto X 4 (by decide) dX5_covers_61 ?_
        obtain rfl := me_so h
        refine me_sub (L' := [(0, .ref (ad 58)), (1, .int p0), (2, .int (x2_1 + v2)), (3, .int (x3_1 + 1))]) [3, 4, 1, 0] rfl ?_
        exact hb1 ((x2_1 + v2), (x3_1 + 1)) rfl
      · have h := me_in c3 h
        refine me_iconst X dX5_covers_56 ic_0 ?_
        obtain rfl := me_so h
        have q := hr1 _ rfl
        subst q
        have h : some 0 = some r := hq1
        obtain rfl := me_so h
        exact me_zret X (by decide) hr hlk dX5_covers_57
def mX5_coveringBits_58_J26 (x2_1 : Int32) (M : me_M) (x1_2 : Int32) : Option ((Int32 × Int32) ⊕ (Int32)) :=
  some (.inl (x1_2, (x2_1 + 1)))
def mX5_coveringBits_58_L4 (M : me_M) : (Int32 × Int32) → Option ((Int32 × Int32) ⊕ (Int32))
  | (x1_1, x2_1) => (if (M.1 58 4) ≤ x2_1 then some (.inr x1_1) else ((mX5_covers_58 M x2_1).bind fun v1 => (if v1 = 0 then (mX5_coveringBits_58_J26 x2_1 M x1_1) else (mX5_coveringBits_58_J26 x2_1 M (x1_1 ||| (1 <<< (x2_1 &&& 31)))))))
def mX5_coveringBits_58 (M : me_M)  : Option Int32 :=
  ((me_l (mX5_coveringBits_58_L4 M) me_fu (0, 0)).bind fun y1_1 => some y1_1)
set_option maxRecDepth 100000 in
set_option maxHeartbeats 4000000 in
theorem ctX5_coveringBits_58 {l : Launch} {n nt : Nat} (hn : 63 ≤ n) (hnt : 1 ≤ nt) {M : me_M} {r : Int32} (h : mX5_coveringBits_58 M = some r) : me_Ct l yX5_coveringBits cX5_coveringBits 3 (some .int) 1 n nt (fun ad => [.ref (ad 58)]) M (fun _ => some (.int r)) M := by
  unfold mX5_coveringBits_58 at h
  refine me_enter (N0 := 63) RX5 rfl (plainFor_of_name pl_RX5) hn (Nat.le_trans (by decide) hnt) (fun _ => Nat.le_of_ble_eq_true rfl) ?_
  intro p e R s m args below meth c D cA ad tys A X hr hlk
  refine me_sub (L' := [(0, .ref (ad 58))]) [0] rfl ?_
  refine me_iconst X dX5_coveringBits_0 ic_0 ?_
  refine me_istore_n X (i := 1) [(1, .int 0), (0, .ref (ad 58))] (Nat.le_of_ble_eq_true rfl) rfl dX5_coveringBits_1 ?_
  refine me_iconst X dX5_coveringBits_2 ic_0 ?_
  refine me_istore_n X (i := 2) [(2, .int 0), (1, .int 0), (0, .ref (ad 58))] (Nat.le_of_ble_eq_true rfl) rfl dX5_coveringBits_3 ?_
  obtain ⟨y1_1, hq1, h⟩ := me_bd h
  have hx1 : me_W p l e R s m args below meth c 0 0 (MQ below (me_Qc D cA ad n A (some (.int r)) M) args s 0 0 A) D cA ad n 3 A 32 [(1, .int y1_1)] [] M := by
    refine me_iload_n X (i := 1) 0 rfl dX5_coveringBits_32 ?_
    obtain rfl := me_so h
    exact me_iret X hr hlk dX5_coveringBits_33
  refine me_sub (L' := [(0, .ref (ad 58)), (1, .int 0), (2, .int 0)]) [2, 1, 0] rfl ?_
  refine me_l_W (b := (mX5_coveringBits_58_L4 M)) (P := fun w => me_W p l e R s m args below meth c 0 0 (MQ below (me_Qc D cA ad n A (some (.int r)) M) args s 0 0 A) D cA ad n 3 A 4 [(0, .ref (ad 58)), (1, .int w.1), (2, .int w.2)] [] M) (r := y1_1) ?_ me_fu (0, 0) hq1
  rintro ⟨x1_1, x2_1⟩ z1 h hb1 - hr1
  unfold mX5_coveringBits_58_L4 at h
  refine me_iload_n X (i := 2) 2 rfl dX5_coveringBits_4 ?_
  refine me_aload_n X (i := 0) 0 rfl dX5_coveringBits_5 ?_
  refine me_geti X kF_X5_24 (Nat.le_of_ble_eq_true rfl) me_k58 me_f58_4 dX5_coveringBits_6 ?_
  refine me_icmp_ge X 32 (by decide) dX5_coveringBits_9 (fun c1 => ?_) (fun c1 => ?_)
  · have h := me_ip c1 h
    obtain rfl := me_so h
    have q := hr1 _ rfl
    refine me_sub (L' := [(1, .int x1_1)]) [1] rfl ?_
    cases q
    exact hx1
  · have h := me_in c1 h
    refine me_aload_n X (i := 0) 0 rfl dX5_coveringBits_12 ?_
    refine me_iload_n X (i := 2) 2 rfl dX5_coveringBits_13 ?_
    obtain ⟨v1, e1, h⟩ := me_bd h
    refine me_callVi X [.int x2_1] (ctX5_covers_58 hn (Nat.le_trans (by decide) hnt) e1) kV_X5_76 rfl rfl (Nat.le_of_ble_eq_true rfl) me_k58 (Nat.le_of_ble_eq_true rfl) (Nat.le_refl _) (Nat.le_of_ble_eq_true rfl) dX5_coveringBits_14 ?_
    have hj26_1 : ∀ (x1_2 : Int32), mX5_coveringBits_58_J26 x2_1 M x1_2 = some z1 → me_W p l e R s m args below meth c 0 0 (MQ below (me_Qc D cA ad n A (some (.int r)) M) args s 0 0 A) D cA ad n 3 A 26 [(0, .ref (ad 58)), (1, .int x1_2), (2, .int x2_1)] [] M := by
      intro x1_2 h
      unfold mX5_coveringBits_58_J26 at h
      refine me_iinc X (v := (x2_1 + 1)) 2 rfl (in_1 _) [(2, .int (x2_1 + 1)), (0, .ref (ad 58)), (1, .int x1_2)] (Nat.le_of_ble_eq_true rfl) rfl dX5_coveringBits_26 ?_
      refine me_goto X 4 (by decide) dX5_coveringBits_29 ?_
      obtain rfl := me_so h
      refine me_sub (L' := [(0, .ref (ad 58)), (1, .int x1_2), (2, .int (x2_1 + 1))]) [1, 2, 0] rfl ?_
      exact hb1 (x1_2, (x2_1 + 1)) rfl
    refine me_if_eq X 26 (by decide) dX5_coveringBits_17 (fun c2 => ?_) (fun c2 => ?_)
    · have h := me_ip c2 h
      exact hj26_1 x1_1 h
    · have h := me_in c2 h
      refine me_iload_n X (i := 1) 1 rfl dX5_coveringBits_20 ?_
      refine me_iconst X dX5_coveringBits_21 ic_1 ?_
      refine me_iload_n X (i := 2) 2 rfl dX5_coveringBits_22 ?_
      refine me_ishl X dX5_coveringBits_23 ?_
      refine me_ior X dX5_coveringBits_24 ?_
      refine me_istore_n X (i := 1) [(1, .int (x1_1 ||| (1 <<< (x2_1 &&& 31)))), (0, .ref (ad 58)), (2, .int x2_1)] (Nat.le_of_ble_eq_true rfl) rfl dX5_coveringBits_25 ?_
      refine me_sub (L' := [(0, .ref (ad 58)), (1, .int (x1_1 ||| (1 <<< (x2_1 &&& 31)))), (2, .int x2_1)]) [1, 0, 2] rfl ?_
      exact hj26_1 (x1_1 ||| (1 <<< (x2_1 &&& 31))) h
def mX5_noteShare_58 (M : me_M) (p0 : Int32) : Option me_M :=
  ((mJ6_bitCount_0f7a4 p0).bind fun v1 => (if v1 = 0 then some (me_s (me_s M 58 7 ((M.1 58 7) + 1)) 58 8 (((me_s M 58 7 ((M.1 58 7) + 1)).1 58 8) + 1)) else (if v1 = 1 then some (me_s (me_s M 58 7 ((M.1 58 7) + 1)) 58 10 (((me_s M 58 7 ((M.1 58 7) + 1)).1 58 10) ||| p0)) else some (me_s (me_s M 58 7 ((M.1 58 7) + 1)) 58 9 (((me_s M 58 7 ((M.1 58 7) + 1)).1 58 9) + 1)))))
set_option maxRecDepth 100000 in
set_option maxHeartbeats 4000000 in
theorem ctX5_noteShare_58 {l : Launch} {n nt : Nat} (hn : 63 ≤ n) (hnt : 1 ≤ nt) {M : me_M} {p0 : Int32} {M' : me_M} (h : mX5_noteShare_58 M p0 = some M') : me_Ct l yX5_noteShare cX5_noteShare 3 none 1 n nt (fun ad => [.ref (ad 58), .int p0]) M (fun _ => none) M' := by
  unfold mX5_noteShare_58 at h
  refine me_enter (N0 := 63) RX5 rfl (plainFor_of_name pl_RX5) hn (Nat.le_trans (by decide) hnt) (fun _ => Nat.le_of_ble_eq_true rfl) ?_
  intro p e R s m args below meth c D cA ad tys A X hr hlk
  refine me_sub (L' := [(0, .ref (ad 58)), (1, .int p0)]) [0, 1] rfl ?_
  refine me_iload_n X (i := 1) 1 rfl dX5_noteShare_0 ?_
  obtain ⟨v1, e1, h⟩ := me_bd h
  refine me_callSi X [.int p0] (ctJ6_bitCount_0f7a4 hn (Nat.le_trans (by decide) hnt) e1) kS_X5_67 rfl rfl (Nat.le_of_ble_eq_true rfl) (Nat.le_refl _) (Nat.le_of_ble_eq_true rfl) dX5_noteShare_1 ?_
  refine me_istore_n X (i := 2) [(2, .int v1), (0, .ref (ad 58)), (1, .int p0)] (Nat.le_of_ble_eq_true rfl) rfl dX5_noteShare_4 ?_
  refine me_aload_n X (i := 0) 1 rfl dX5_noteShare_5 ?_
  refine me_dup X rfl dX5_noteShare_6 ?_
  refine me_geti X kF_X5_41 (Nat.le_of_ble_eq_true rfl) me_k58 me_f58_7 dX5_noteShare_7 ?_
  refine me_iconst X dX5_noteShare_10 ic_1 ?_
  refine me_iadd X dX5_noteShare_11 ?_
  refine me_puti X kG_X5_41 (Nat.le_of_ble_eq_true rfl) me_k58 me_f58_7 dX5_noteShare_12 ?_
  refine me_iload_n X (i := 2) 0 rfl dX5_noteShare_15 ?_
  refine me_if_ne X 32 (by decide) dX5_noteShare_16 (fun c1 => ?_) (fun c1 => ?_)
  · have h := me_in c1 h
    refine me_iload_n X (i := 2) 0 rfl dX5_noteShare_32 ?_
    refine me_iconst X dX5_noteShare_33 ic_1 ?_
    refine me_icmp_ne X 50 (by decide) dX5_noteShare_34 (fun c2 => ?_) (fun c2 => ?_)
    · have h := me_in c2 h
      refine me_aload_n X (i := 0) 1 rfl dX5_noteShare_50 ?_
      refine me_dup X rfl dX5_noteShare_51 ?_
      refine me_geti X kF_X5_47 (Nat.le_of_ble_eq_true rfl) me_k58 me_f58_9 dX5_noteShare_52 ?_
      refine me_iconst X dX5_noteShare_55 ic_1 ?_
      refine me_iadd X dX5_noteShare_56 ?_
      refine me_puti X kG_X5_47 (Nat.le_of_ble_eq_true rfl) me_k58 me_f58_9 dX5_noteShare_57 ?_
      obtain rfl := me_so h
      exact me_vret X hr hlk dX5_noteShare_60
    · have h := me_ip c2 h
      refine me_aload_n X (i := 0) 1 rfl dX5_noteShare_37 ?_
      refine me_dup X rfl dX5_noteShare_38 ?_
      refine me_geti X kF_X5_50 (Nat.le_of_ble_eq_true rfl) me_k58 me_f58_10 dX5_noteShare_39 ?_
      refine me_iload_n X (i := 1) 2 rfl dX5_noteShare_42 ?_
      refine me_ior X dX5_noteShare_43 ?_
      refine me_puti X kG_X5_50 (Nat.le_of_ble_eq_true rfl) me_k58 me_f58_10 dX5_noteShare_44 ?_
      refine me_goto X 60 (by decide) dX5_noteShare_47 ?_
      obtain rfl := me_so h
      exact me_vret X hr hlk dX5_noteShare_60
  · have h := me_ip c1 h
    refine me_aload_n X (i := 0) 1 rfl dX5_noteShare_19 ?_
    refine me_dup X rfl dX5_noteShare_20 ?_
    refine me_geti X kF_X5_44 (Nat.le_of_ble_eq_true rfl) me_k58 me_f58_8 dX5_noteShare_21 ?_
    refine me_iconst X dX5_noteShare_24 ic_1 ?_
    refine me_iadd X dX5_noteShare_25 ?_
    refine me_puti X kG_X5_44 (Nat.le_of_ble_eq_true rfl) me_k58 me_f58_8 dX5_noteShare_26 ?_
    refine me_goto X 60 (by decide) dX5_noteShare_29 ?_
    obtain rfl := me_so h
    exact me_vret X hr hlk dX5_noteShare_60
def mX5_nextShare_58_L2 (p0 : Int32) : (Int32 × me_M) → Option ((Int32 × me_M) ⊕ ((me_M) ⊕ (Int32 × me_M)))
  | (x2_1, M1) => (if (M1.1 58 5) ≤ x2_1 then some (.inr (.inl M1)) else (if p0 ≤ (M1.1 58 6) then ((me_r M1 62 5 x2_1).bind fun v1 => ((me_t (me_s M1 58 6 ((M1.1 58 6) - v1)) 62 5 x2_1 0).bind fun M2 => some (.inl ((x2_1 + 1), M2)))) else ((me_r M1 62 5 x2_1).bind fun v2 => ((me_t M1 62 5 x2_1 (v2 + 1)).bind fun M3 => some (.inr (.inr (1, (me_s M3 58 6 ((M3.1 58 6) + 1)))))))))
def mX5_nextShare_58 (M : me_M) (p0 : Int32) : Option (Int32 × me_M) :=
  ((me_l (mX5_nextShare_58_L2 p0) me_fu (0, M)).bind fun o => Sum.elim (fun M4 => some (0, M4)) (fun res => some res) o)
set_option maxRecDepth 100000 in
set_option maxHeartbeats 4000000 in
theorem ctX5_nextShare_58 {l : Launch} {n nt : Nat} (hn : 63 ≤ n) (hnt : 1 ≤ nt) {M : me_M} {p0 : Int32} {r : Int32} {M' : me_M} (h : mX5_nextShare_58 M p0 = some (r, M')) : me_Ct l yX5_nextShare cX5_nextShare 3 (some .boolean) 0 n nt (fun ad => [.ref (ad 58), .int p0]) M (fun _ => some (.int r)) M' := by
  unfold mX5_nextShare_58 at h
  refine me_enter (N0 := 63) RX5 rfl (plainFor_of_name pl_RX5) hn (Nat.le_trans (by decide) hnt) (fun _ => Nat.le_of_ble_eq_true rfl) ?_
  intro p e R s m args below meth c D cA ad tys A X hr hlk
  refine me_sub (L' := [(0, .ref (ad 58)), (1, .int p0)]) [0, 1] rfl ?_
  refine me_iconst X dX5_nextShare_0 ic_0 ?_
  refine me_istore_n X (i := 2) [(2, .int 0), (0, .ref (ad 58)), (1, .int p0)] (Nat.le_of_ble_eq_true rfl) rfl dX5_nextShare_1 ?_
  obtain ⟨o0, hq1l, hq1⟩ := me_bd h
  have hx1 : ∀ (M4 : me_M), o0 = .inl M4 → me_W p l e R s m args below meth c 0 0 (MQ below (me_Qc D cA ad n A (some (.int r)) M') args s 0 0 A) D cA ad n 3 A 68 [] [] M4 := by
    intro M4 q
    subst q
    have h := me_el hq1
    refine me_iconst X dX5_nextShare_68 ic_0 ?_
    obtain ⟨rfl, rfl⟩ := me_sp h
    exact me_zret X (by decide) hr hlk dX5_nextShare_69
  refine me_sub (L' := [(0, .ref (ad 58)), (1, .int p0), (2, .int 0)]) [1, 2, 0] rfl ?_
  refine me_l_W (b := (mX5_nextShare_58_L2 p0)) (P := fun w => me_W p l e R s m args below meth c 0 0 (MQ below (me_Qc D cA ad n A (some (.int r)) M') args s 0 0 A) D cA ad n 3 A 2 [(0, .ref (ad 58)), (1, .int p0), (2, .int w.1)] [] w.2) (r := o0) ?_ me_fu (0, M) hq1l
  rintro ⟨x2_1, M1⟩ z1 h hb1 - hr1
  unfold mX5_nextShare_58_L2 at h
  refine me_iload_n X (i := 2) 2 rfl dX5_nextShare_2 ?_
  refine me_aload_n X (i := 0) 0 rfl dX5_nextShare_3 ?_
  refine me_geti X kF_X5_28 (Nat.le_of_ble_eq_true rfl) me_k58 me_f58_5 dX5_nextShare_4 ?_
  refine me_icmp_ge X 68 (by decide) dX5_nextShare_7 (fun c1 => ?_) (fun c1 => ?_)
  · have h := me_ip c1 h
    obtain rfl := me_so h
    have q := hr1 _ rfl
    refine me_sub (L' := []) [] rfl ?_
    subst q
    exact hx1 _ rfl
  · have h := me_in c1 h
    refine me_aload_n X (i := 0) 0 rfl dX5_nextShare_10 ?_
    refine me_geti X kF_X5_73 (Nat.le_of_ble_eq_true rfl) me_k58 me_f58_6 dX5_nextShare_11 ?_
    refine me_iload_n X (i := 1) 1 rfl dX5_nextShare_14 ?_
    refine me_icmp_ge X 40 (by decide) dX5_nextShare_15 (fun c2 => ?_) (fun c2 => ?_)
    · have h := me_ip c2 h
      refine me_aload_n X (i := 0) 0 rfl dX5_nextShare_40 ?_
      refine me_dup X rfl dX5_nextShare_41 ?_
      refine me_geti X kF_X5_73 (Nat.le_of_ble_eq_true rfl) me_k58 me_f58_6 dX5_nextShare_42 ?_
      refine me_aload_n X (i := 0) 0 rfl dX5_nextShare_45 ?_
      refine me_getr X 62 kF_X5_21 (Nat.le_of_ble_eq_true rfl) me_k58 me_f58_3 dX5_nextShare_46 ?_
      refine me_iload_n X (i := 2) 2 rfl dX5_nextShare_49 ?_
      obtain ⟨v1, e1, h⟩ := me_bd h
      refine me_iald X (Nat.le_of_ble_eq_true rfl) me_k62 e1 dX5_nextShare_50 ?_
      refine me_isub X dX5_nextShare_51 ?_
      refine me_puti X kG_X5_73 (Nat.le_of_ble_eq_true rfl) me_k58 me_f58_6 dX5_nextShare_52 ?_
      refine me_aload_n X (i := 0) 0 rfl dX5_nextShare_55 ?_
      refine me_getr X 62 kF_X5_21 (Nat.le_of_ble_eq_true rfl) me_k58 me_f58_3 dX5_nextShare_56 ?_
      refine me_iload_n X (i := 2) 2 rfl dX5_nextShare_59 ?_
      refine me_iconst X dX5_nextShare_60 ic_0 ?_
      obtain ⟨M2, e2, h⟩ := me_bd h
      refine me_iast X (Nat.le_of_ble_eq_true rfl) me_k62 e2 dX5_nextShare_61 ?_
      refine me_iinc X (v := (x2_1 + 1)) 2 rfl (in_1 _) [(2, .int (x2_1 + 1)), (0, .ref (ad 58)), (1, .int p0)] (Nat.le_of_ble_eq_true rfl) rfl dX5_nextShare_62 ?_
      refine me_goto X 2 (by decide) dX5_nextShare_65 ?_
      obtain rfl := me_so h
      refine me_sub (L' := [(0, .ref (ad 58)), (1, .int p0), (2, .int (x2_1 + 1))]) [1, 2, 0] rfl ?_
      exact hb1 ((x2_1 + 1), M2) rfl
    · have h := me_in c2 h
      refine me_aload_n X (i := 0) 0 rfl dX5_nextShare_18 ?_
      refine me_getr X 62 kF_X5_21 (Nat.le_of_ble_eq_true rfl) me_k58 me_f58_3 dX5_nextShare_19 ?_
      refine me_iload_n X (i := 2) 2 rfl dX5_nextShare_22 ?_
      refine me_dup2 X rfl rfl dX5_nextShare_23 ?_
      obtain ⟨v2, e3, h⟩ := me_bd h
      refine me_iald X (Nat.le_of_ble_eq_true rfl) me_k62 e3 dX5_nextShare_24 ?_
      refine me_iconst X dX5_nextShare_25 ic_1 ?_
      refine me_iadd X dX5_nextShare_26 ?_
      obtain ⟨M3, e4, h⟩ := me_bd h
      refine me_iast X (Nat.le_of_ble_eq_true rfl) me_k62 e4 dX5_nextShare_27 ?_
      refine me_aload_n X (i := 0) 0 rfl dX5_nextShare_28 ?_
      refine me_dup X rfl dX5_nextShare_29 ?_
      refine me_geti X kF_X5_73 (Nat.le_of_ble_eq_true rfl) me_k58 me_f58_6 dX5_nextShare_30 ?_
      refine me_iconst X dX5_nextShare_33 ic_1 ?_
      refine me_iadd X dX5_nextShare_34 ?_
      refine me_puti X kG_X5_73 (Nat.le_of_ble_eq_true rfl) me_k58 me_f58_6 dX5_nextShare_35 ?_
      refine me_iconst X dX5_nextShare_38 ic_1 ?_
      obtain rfl := me_so h
      have q := hr1 _ rfl
      subst q
      have h : some (1, (me_s M3 58 6 ((M3.1 58 6) + 1))) = some (r, M') := hq1
      obtain ⟨rfl, rfl⟩ := me_sp h
      exact me_zret X (by decide) hr hlk dX5_nextShare_39
def mX5_surveyShares_58_L33 (v1 : Int32) : (Int32 × Int32 × me_M) → Option ((Int32 × Int32 × me_M) ⊕ (me_M))
  | (x2_1, x3_1, M2) => (if 126 ≤ x3_1 then some (.inr M2) else (if x2_1 = 0 then some (.inr M2) else ((mX5_coveringBits_58 M2).bind fun v3 => ((mX5_noteShare_58 M2 v3).bind fun M3 => ((mX5_nextShare_58 M3 v1).bind fun (v5, M4) => some (.inl (v5, (x3_1 + 1), M4)))))))
def mX5_surveyShares_58 (M : me_M)  : Option me_M :=
  ((mX5_budget_58 M).bind fun v1 => ((mX5_firstShare_58 (me_s (me_s (me_s (me_s M 58 7 0) 58 8 0) 58 9 0) 58 10 0)).bind fun M1 => ((me_l (mX5_surveyShares_58_L33 v1) me_fu (1, 0, M1)).bind fun M5 => some M5)))
set_option maxRecDepth 100000 in
set_option maxHeartbeats 4000000 in
theorem ctX5_surveyShares_58 {l : Launch} {n nt : Nat} (hn : 63 ≤ n) (hnt : 1 ≤ nt) {M : me_M} {M' : me_M} (h : mX5_surveyShares_58 M = some M') : me_Ct l yX5_surveyShares cX5_surveyShares 4 none 2 n nt (fun ad => [.ref (ad 58)]) M (fun _ => none) M' := by
  unfold mX5_surveyShares_58 at h
  refine me_enter (N0 := 63) RX5 rfl (plainFor_of_name pl_RX5) hn (Nat.le_trans (by decide) hnt) (fun _ => Nat.le_of_ble_eq_true rfl) ?_
  intro p e R s m args below meth c D cA ad tys A X hr hlk
  refine me_sub (L' := [(0, .ref (ad 58))]) [0] rfl ?_
  refine me_aload_n X (i := 0) 0 rfl dX5_surveyShares_0 ?_
  obtain ⟨v1, e1, h⟩ := me_bd h
  refine me_callVi X [] (ctX5_budget_58 hn (Nat.le_trans (by decide) hnt) e1) kV_X5_37 rfl rfl (Nat.le_of_ble_eq_true rfl) me_k58 (Nat.le_of_ble_eq_true rfl) (Nat.le_refl _) (Nat.le_of_ble_eq_true rfl) dX5_surveyShares_1 ?_
  refine me_istore_n X (i := 1) [(1, .int v1), (0, .ref (ad 58))] (Nat.le_of_ble_eq_true rfl) rfl dX5_surveyShares_4 ?_
  refine me_aload_n X (i := 0) 1 rfl dX5_surveyShares_5 ?_
  refine me_iconst X dX5_surveyShares_6 ic_0 ?_
  refine me_puti X kG_X5_41 (Nat.le_of_ble_eq_true rfl) me_k58 me_f58_7 dX5_surveyShares_7 ?_
  refine me_aload_n X (i := 0) 1 rfl dX5_surveyShares_10 ?_
  refine me_iconst X dX5_surveyShares_11 ic_0 ?_
  refine me_puti X kG_X5_44 (Nat.le_of_ble_eq_true rfl) me_k58 me_f58_8 dX5_surveyShares_12 ?_
  refine me_aload_n X (i := 0) 1 rfl dX5_surveyShares_15 ?_
  refine me_iconst X dX5_surveyShares_16 ic_0 ?_
  refine me_puti X kG_X5_47 (Nat.le_of_ble_eq_true rfl) me_k58 me_f58_9 dX5_surveyShares_17 ?_
  refine me_aload_n X (i := 0) 1 rfl dX5_surveyShares_20 ?_
  refine me_iconst X dX5_surveyShares_21 ic_0 ?_
  refine me_puti X kG_X5_50 (Nat.le_of_ble_eq_true rfl) me_k58 me_f58_10 dX5_surveyShares_22 ?_
  refine me_aload_n X (i := 0) 1 rfl dX5_surveyShares_25 ?_
  obtain ⟨M1, e2, h⟩ := me_bd h
  refine me_callVv X [] (ctX5_firstShare_58 hn (Nat.le_trans (by decide) hnt) e2) kV_X5_53 rfl rfl (Nat.le_of_ble_eq_true rfl) me_k58 (Nat.le_of_ble_eq_true rfl) (Nat.le_refl _) (Nat.le_of_ble_eq_true rfl) dX5_surveyShares_26 ?_
  refine me_iconst X dX5_surveyShares_29 ic_1 ?_
  refine me_istore_n X (i := 2) [(2, .int 1), (1, .int v1), (0, .ref (ad 58))] (Nat.le_of_ble_eq_true rfl) rfl dX5_surveyShares_30 ?_
  refine me_iconst X dX5_surveyShares_31 ic_0 ?_
  refine me_istore_n X (i := 3) [(3, .int 0), (2, .int 1), (1, .int v1), (0, .ref (ad 58))] (Nat.le_of_ble_eq_true rfl) rfl dX5_surveyShares_32 ?_
  obtain ⟨M5, hq1, h⟩ := me_bd h
  have hx1 : me_W p l e R s m args below meth c 0 0 (MQ below (me_Qc D cA ad n A none M') args s 0 0 A) D cA ad n 4 A 63 [] [] M5 := by
    obtain rfl := me_so h
    exact me_vret X hr hlk dX5_surveyShares_63
  refine me_sub (L' := [(0, .ref (ad 58)), (1, .int v1), (2, .int 1), (3, .int 0)]) [3, 2, 1, 0] rfl ?_
  refine me_l_W (b := (mX5_surveyShares_58_L33 v1)) (P := fun w => me_W p l e R s m args below meth c 0 0 (MQ below (me_Qc D cA ad n A none M') args s 0 0 A) D cA ad n 4 A 33 [(0, .ref (ad 58)), (1, .int v1), (2, .int w.1), (3, .int w.2.1)] [] w.2.2) (r := M5) ?_ me_fu (1, 0, M1) hq1
  rintro ⟨x2_1, x3_1, M2⟩ z1 h hb1 - hr1
  unfold mX5_surveyShares_58_L33 at h
  refine me_iload_n X (i := 3) 3 rfl dX5_surveyShares_33 ?_
  refine me_bipush X dX5_surveyShares_34 ib_126 ?_
  refine me_icmp_ge X 63 (by decide) dX5_surveyShares_36 (fun c1 => ?_) (fun c1 => ?_)
  · have h := me_ip c1 h
    obtain rfl := me_so h
    have q := hr1 _ rfl
    refine me_sub (L' := []) [] rfl ?_
    cases q
    exact hx1
  · have h := me_in c1 h
    refine me_iload_n X (i := 2) 2 rfl dX5_surveyShares_39 ?_
    refine me_if_eq X 63 (by decide) dX5_surveyShares_40 (fun c2 => ?_) (fun c2 => ?_)
    · have h := me_ip c2 h
      obtain rfl := me_so h
      have q := hr1 _ rfl
      refine me_sub (L' := []) [] rfl ?_
      cases q
      exact hx1
    · have h := me_in c2 h
      refine me_aload_n X (i := 0) 0 rfl dX5_surveyShares_43 ?_
      refine me_aload_n X (i := 0) 0 rfl dX5_surveyShares_44 ?_
      obtain ⟨v3, e3, h⟩ := me_bd h
      refine me_callVi X [] (ctX5_coveringBits_58 hn (Nat.le_trans (by decide) hnt) e3) kV_X5_56 rfl rfl (Nat.le_of_ble_eq_true rfl) me_k58 (Nat.le_of_ble_eq_true rfl) (Nat.le_refl _) (Nat.le_of_ble_eq_true rfl) dX5_surveyShares_45 ?_
      obtain ⟨M3, e4, h⟩ := me_bd h
      refine me_callVv X [.int v3] (ctX5_noteShare_58 hn (Nat.le_trans (by decide) hnt) e4) kV_X5_59 rfl rfl (Nat.le_of_ble_eq_true rfl) me_k58 (Nat.le_of_ble_eq_true rfl) (Nat.le_refl _) (Nat.le_of_ble_eq_true rfl) dX5_surveyShares_48 ?_
      refine me_aload_n X (i := 0) 0 rfl dX5_surveyShares_51 ?_
      refine me_iload_n X (i := 1) 1 rfl dX5_surveyShares_52 ?_
      obtain ⟨⟨v5, M4⟩, e5, h⟩ := me_bd h
      refine me_callVi X [.int v1] (ctX5_nextShare_58 hn (Nat.le_trans (by decide) hnt) e5) kV_X5_63 rfl rfl (Nat.le_of_ble_eq_true rfl) me_k58 (Nat.le_of_ble_eq_true rfl) (Nat.le_refl _) (Nat.le_of_ble_eq_true rfl) dX5_surveyShares_53 ?_
      refine me_istore_n X (i := 2) [(2, .int v5), (0, .ref (ad 58)), (1, .int v1), (3, .int x3_1)] (Nat.le_of_ble_eq_true rfl) rfl dX5_surveyShares_56 ?_
      refine me_iinc X (v := (x3_1 + 1)) 3 rfl (in_1 _) [(3, .int (x3_1 + 1)), (2, .int v5), (0, .ref (ad 58)), (1, .int v1)] (Nat.le_of_ble_eq_true rfl) rfl dX5_surveyShares_57 ?_
      refine me_goto X 33 (by decide) dX5_surveyShares_60 ?_
      obtain rfl := me_so h
      refine me_sub (L' := [(0, .ref (ad 58)), (1, .int v1), (2, .int v5), (3, .int (x3_1 + 1))]) [2, 3, 1, 0] rfl ?_
      exact hb1 (v5, (x3_1 + 1), M4) rfl
def mX6_readOrder_52_58_L36  : (Int32 × Int32 × me_M) → Option ((Int32 × Int32 × me_M) ⊕ ((me_M) ⊕ (Int32 × me_M)))
  | (x2_1, x3_1, M2) => (if (M2.1 58 5) ≤ x3_1 then some (.inr (.inl M2)) else ((mX6_isDigit_52 M2).bind fun v3 => (if v3 = 0 then ((mX6_fail_52 M2 1).bind fun (v7, M5) => (if v7 = 0 ∨ v7 = 1 then some (.inr (.inr (v7, M5))) else none)) else ((mX6_digitHere_52 M2).bind fun v4 => ((mX6_canFollow v4 x2_1 (M2.1 58 5)).bind fun v5 => (if v5 = 0 then ((mX6_fail_52 M2 2).bind fun (v6, M4) => (if v6 = 0 ∨ v6 = 1 then some (.inr (.inr (v6, M4))) else none)) else ((me_t M2 59 40 (((M2.1 58 4) * 5) + x3_1) v4).bind fun M3 => some (.inl ((x2_1 ||| (1 <<< (v4 &&& 31))), (x3_1 + 1), (me_s M3 52 2 ((M3.1 52 2) + 1)))))))))))
def mX6_readOrder_52_58_J140 (M6 : me_M) (s1 : Int32) : Option (Int32 × me_M) :=
  ((mX6_fail_52 M6 s1).bind fun (v9, M7) => (if v9 = 0 ∨ v9 = 1 then some (v9, M7) else none))
def mX6_readOrder_52_58_J19 (M1 : me_M) : Option (Int32 × me_M) :=
  (if (M1.1 58 5) = 0 then ((mX6_fail_52 M1 1).bind fun (v10, M8) => (if v10 = 0 ∨ v10 = 1 then some (v10, M8) else none)) else ((me_l mX6_readOrder_52_58_L36 me_fu (0, 0, M1)).bind fun o => Sum.elim (fun M6 => ((mX6_isDigit_52 M6).bind fun v8 => (if v8 = 0 then some (1, M6) else (if (M6.1 58 4) = 0 then (mX6_readOrder_52_58_J140 M6 3) else (mX6_readOrder_52_58_J140 M6 1))))) (fun res => some res) o))
def mX6_readOrder_52_58 (M : me_M)  : Option (Int32 × me_M) :=
  (if (M.1 58 4) = 0 then ((mX6_digitsFrom_52 M).bind fun v1 => ((mJ9_min_7cf53 v1 5).bind fun v2 => (mX6_readOrder_52_58_J19 (me_s M 58 5 v2)))) else (mX6_readOrder_52_58_J19 M))
set_option maxRecDepth 100000 in
set_option maxHeartbeats 4000000 in
theorem ctX6_readOrder_52_58 {l : Launch} {n nt : Nat} (hn : 63 ≤ n) (hnt : 1 ≤ nt) {M : me_M} {r : Int32} {M' : me_M} (h : mX6_readOrder_52_58 M = some (r, M')) : me_Ct l yX6_readOrder cX6_readOrder 5 (some .boolean) 2 n nt (fun ad => [.ref (ad 52), .ref (ad 58)]) M (fun _ => some (.int r)) M' := by
  unfold mX6_readOrder_52_58 at h
  refine me_enter (N0 := 63) RX6 rfl (plainFor_of_name pl_RX6) hn (Nat.le_trans (by decide) hnt) (fun _ => Nat.le_of_ble_eq_true rfl) ?_
  intro p e R s m args below meth c D cA ad tys A X hr hlk
  refine me_sub (L' := [(0, .ref (ad 52)), (1, .ref (ad 58))]) [0, 1] rfl ?_
  refine me_aload_n X (i := 1) 1 rfl dX6_readOrder_0 ?_
  refine me_geti X kF_X6_28 (Nat.le_of_ble_eq_true rfl) me_k58 me_f58_4 dX6_readOrder_1 ?_
  have hj19_1 : ∀ (M1 : me_M), mX6_readOrder_52_58_J19 M1 = some (r, M') → me_W p l e R s m args below meth c 0 0 (MQ below (me_Qc D cA ad n A (some (.int r)) M') args s 0 0 A) D cA ad n 5 A 19 [(0, .ref (ad 52)), (1, .ref (ad 58))] [] M1 := by
    intro M1 h
    unfold mX6_readOrder_52_58_J19 at h
    refine me_aload_n X (i := 1) 1 rfl dX6_readOrder_19 ?_
    refine me_geti X kF_X6_74 (Nat.le_of_ble_eq_true rfl) me_k58 me_f58_5 dX6_readOrder_20 ?_
    refine me_if_ne X 32 (by decide) dX6_readOrder_23 (fun c2 => ?_) (fun c2 => ?_)
    · have h := me_in c2 h
      refine me_iconst X dX6_readOrder_32 ic_0 ?_
      refine me_istore_n X (i := 2) [(2, .int 0), (0, .ref (ad 52)), (1, .ref (ad 58))] (Nat.le_of_ble_eq_true rfl) rfl dX6_readOrder_33 ?_
      refine me_iconst X dX6_readOrder_34 ic_0 ?_
      refine me_istore_n X (i := 3) [(3, .int 0), (2, .int 0), (0, .ref (ad 52)), (1, .ref (ad 58))] (Nat.le_of_ble_eq_true rfl) rfl dX6_readOrder_35 ?_
      obtain ⟨o0, hq1l, hq1⟩ := me_bd h
      have hx1 : ∀ (M6 : me_M), o0 = .inl M6 → me_W p l e R s m args below meth c 0 0 (MQ below (me_Qc D cA ad n A (some (.int r)) M') args s 0 0 A) D cA ad n 5 A 120 [(0, .ref (ad 52)), (1, .ref (ad 58))] [] M6 := by
        intro M6 q
        subst q
        have h := me_el hq1
        refine me_aload_n X (i := 0) 0 rfl dX6_readOrder_120 ?_
        obtain ⟨v8, e9, h⟩ := me_bd h
        refine me_callVi X [] (ctX6_isDigit_52 hn (Nat.le_trans (by decide) hnt) e9) kV_X6_44 rfl rfl (Nat.le_of_ble_eq_true rfl) me_k52 (Nat.le_of_ble_eq_true rfl) (Nat.le_refl _) (Nat.le_of_ble_eq_true rfl) dX6_readOrder_121 ?_
        refine me_if_eq X 144 (by decide) dX6_readOrder_124 (fun c8 => ?_) (fun c8 => ?_)
        · have h := me_ip c8 h
          refine me_iconst X dX6_readOrder_144 ic_1 ?_
          obtain ⟨rfl, rfl⟩ := me_sp h
          exact me_zret X (by decide) hr hlk dX6_readOrder_145
        · have h := me_in c8 h
          refine me_aload_n X (i := 0) 0 rfl dX6_readOrder_127 ?_
          refine me_aload_n X (i := 1) 1 rfl dX6_readOrder_128 ?_
          refine me_geti X kF_X6_28 (Nat.le_of_ble_eq_true rfl) me_k58 me_f58_4 dX6_readOrder_129 ?_
          have hj140_2 : ∀ (s1 : Int32), mX6_readOrder_52_58_J140 M6 s1 = some (r, M') → me_W p l e R s m args below meth c 0 0 (MQ below (me_Qc D cA ad n A (some (.int r)) M') args s 0 0 A) D cA ad n 5 A 140 [] [.int s1, .ref (ad 52)] M6 := by
            intro s1 h
            unfold mX6_readOrder_52_58_J140 at h
            obtain ⟨⟨v9, M7⟩, e10, h⟩ := me_bd h
            refine me_callVi X [.int s1] (ctX6_fail_52 hn (Nat.le_trans (by decide) hnt) e10) kV_X6_40 rfl rfl (Nat.le_of_ble_eq_true rfl) me_k52 (Nat.le_of_ble_eq_true rfl) (Nat.le_refl _) (Nat.le_of_ble_eq_true rfl) dX6_readOrder_140 ?_
            by_cases c10 : v9 = 0 ∨ v9 = 1
            · have h := me_ip c10 h
              obtain ⟨rfl, rfl⟩ := me_sp h
              exact me_zret X (me_z c10) hr hlk dX6_readOrder_143
            · have h := me_in c10 h
              cases h
          refine me_if_ne X 139 (by decide) dX6_readOrder_132 (fun c9 => ?_) (fun c9 => ?_)
          · have h := me_in c9 h
            refine me_iconst X dX6_readOrder_139 ic_1 ?_
            refine me_sub (L' := []) [] rfl ?_
            exact hj140_2 1 h
          · have h := me_ip c9 h
            refine me_iconst X dX6_readOrder_135 ic_3 ?_
            refine me_goto X 140 (by decide) dX6_readOrder_136 ?_
            refine me_sub (L' := []) [] rfl ?_
            exact hj140_2 3 h
      refine me_sub (L' := [(0, .ref (ad 52)), (1, .ref (ad 58)), (2, .int 0), (3, .int 0)]) [2, 3, 1, 0] rfl ?_
      refine me_l_W (b := mX6_readOrder_52_58_L36) (P := fun w => me_W p l e R s m args below meth c 0 0 (MQ below (me_Qc D cA ad n A (some (.int r)) M') args s 0 0 A) D cA ad n 5 A 36 [(0, .ref (ad 52)), (1, .ref (ad 58)), (2, .int w.1), (3, .int w.2.1)] [] w.2.2) (r := o0) ?_ me_fu (0, 0, M1) hq1l
      rintro ⟨x2_1, x3_1, M2⟩ z1 h hb1 - hr1
      unfold mX6_readOrder_52_58_L36 at h
      refine me_iload_n X (i := 3) 3 rfl dX6_readOrder_36 ?_
      refine me_aload_n X (i := 1) 1 rfl dX6_readOrder_37 ?_
      refine me_geti X kF_X6_74 (Nat.le_of_ble_eq_true rfl) me_k58 me_f58_5 dX6_readOrder_38 ?_
      refine me_icmp_ge X 120 (by decide) dX6_readOrder_41 (fun c3 => ?_) (fun c3 => ?_)
      · have h := me_ip c3 h
        obtain rfl := me_so h
        have q := hr1 _ rfl
        refine me_sub (L' := [(0, .ref (ad 52)), (1, .ref (ad 58))]) [0, 1] rfl ?_
        subst q
        exact hx1 _ rfl
      · have h := me_in c3 h
        refine me_aload_n X (i := 0) 0 rfl dX6_readOrder_44 ?_
        obtain ⟨v3, e3, h⟩ := me_bd h
        refine me_callVi X [] (ctX6_isDigit_52 hn (Nat.le_trans (by decide) hnt) e3) kV_X6_44 rfl rfl (Nat.le_of_ble_eq_true rfl) me_k52 (Nat.le_of_ble_eq_true rfl) (Nat.le_refl _) (Nat.le_of_ble_eq_true rfl) dX6_readOrder_45 ?_
        refine me_if_ne X 57 (by decide) dX6_readOrder_48 (fun c4 => ?_) (fun c4 => ?_)
        · have h := me_in c4 h
          refine me_aload_n X (i := 0) 0 rfl dX6_readOrder_57 ?_
          obtain ⟨v4, e4, h⟩ := me_bd h
          refine me_callVi X [] (ctX6_digitHere_52 hn (Nat.le_trans (by decide) hnt) e4) kV_X6_77 rfl rfl (Nat.le_of_ble_eq_true rfl) me_k52 (Nat.le_of_ble_eq_true rfl) (Nat.le_refl _) (Nat.le_of_ble_eq_true rfl) dX6_readOrder_58 ?_
          refine me_istore X (i := 4) [(4, .int v4), (0, .ref (ad 52)), (1, .ref (ad 58)), (2, .int x2_1), (3, .int x3_1)] (Nat.le_of_ble_eq_true rfl) rfl dX6_readOrder_61 ?_
          refine me_iload X (i := 4) 0 rfl dX6_readOrder_63 ?_
          refine me_iload_n X (i := 2) 3 rfl dX6_readOrder_65 ?_
          refine me_aload_n X (i := 1) 2 rfl dX6_readOrder_66 ?_
          refine me_geti X kF_X6_74 (Nat.le_of_ble_eq_true rfl) me_k58 me_f58_5 dX6_readOrder_67 ?_
          obtain ⟨v5, e5, h⟩ := me_bd h
          refine me_callSi X [.int v4, .int x2_1, .int (M2.1 58 5)] (ctX6_canFollow hn (Nat.le_trans (by decide) hnt) e5) kS_X6_80 rfl rfl (Nat.le_of_ble_eq_true rfl) (Nat.le_refl _) (Nat.le_of_ble_eq_true rfl) dX6_readOrder_70 ?_
          refine me_if_ne X 82 (by decide) dX6_readOrder_73 (fun c5 => ?_) (fun c5 => ?_)
          · have h := me_in c5 h
            refine me_iload_n X (i := 2) 3 rfl dX6_readOrder_82 ?_
            refine me_iconst X dX6_readOrder_83 ic_1 ?_
            refine me_iload X (i := 4) 0 rfl dX6_readOrder_84 ?_
            refine me_ishl X dX6_readOrder_86 ?_
            refine me_ior X dX6_readOrder_87 ?_
            refine me_istore_n X (i := 2) [(2, .int (x2_1 ||| (1 <<< (v4 &&& 31)))), (4, .int v4), (0, .ref (ad 52)), (1, .ref (ad 58)), (3, .int x3_1)] (Nat.le_of_ble_eq_true rfl) rfl dX6_readOrder_88 ?_
            refine me_aload_n X (i := 1) 3 rfl dX6_readOrder_89 ?_
            refine me_getr X 59 kF_X6_84 (Nat.le_of_ble_eq_true rfl) me_k58 me_f58_0 dX6_readOrder_90 ?_
            refine me_aload_n X (i := 1) 3 rfl dX6_readOrder_93 ?_
            refine me_geti X kF_X6_28 (Nat.le_of_ble_eq_true rfl) me_k58 me_f58_4 dX6_readOrder_94 ?_
            refine me_iconst X dX6_readOrder_97 ic_5 ?_
            refine me_imul X dX6_readOrder_98 ?_
            refine me_iload_n X (i := 3) 4 rfl dX6_readOrder_99 ?_
            refine me_iadd X dX6_readOrder_100 ?_
            refine me_iload X (i := 4) 1 rfl dX6_readOrder_101 ?_
            obtain ⟨M3, e6, h⟩ := me_bd h
            refine me_iast X (Nat.le_of_ble_eq_true rfl) me_k59 e6 dX6_readOrder_103 ?_
            refine me_aload_n X (i := 0) 2 rfl dX6_readOrder_104 ?_
            refine me_dup X rfl dX6_readOrder_105 ?_
            refine me_geti X kF_X6_22 (Nat.le_of_ble_eq_true rfl) me_k52 me_f52_2 dX6_readOrder_106 ?_
            refine me_iconst X dX6_readOrder_109 ic_1 ?_
            refine me_iadd X dX6_readOrder_110 ?_
            refine me_puti X kG_X6_22 (Nat.le_of_ble_eq_true rfl) me_k52 me_f52_2 dX6_readOrder_111 ?_
            refine me_iinc X (v := (x3_1 + 1)) 4 rfl (in_1 _) [(3, .int (x3_1 + 1)), (2, .int (x2_1 ||| (1 <<< (v4 &&& 31)))), (4, .int v4), (0, .ref (ad 52)), (1, .ref (ad 58))] (Nat.le_of_ble_eq_true rfl) rfl dX6_readOrder_114 ?_
            refine me_goto X 36 (by decide) dX6_readOrder_117 ?_
            obtain rfl := me_so h
            refine me_sub (L' := [(0, .ref (ad 52)), (1, .ref (ad 58)), (2, .int (x2_1 ||| (1 <<< (v4 &&& 31)))), (3, .int (x3_1 + 1))]) [3, 4, 1, 0] rfl ?_
            exact hb1 ((x2_1 ||| (1 <<< (v4 &&& 31))), (x3_1 + 1), (me_s M3 52 2 ((M3.1 52 2) + 1))) rfl
          · have h := me_ip c5 h
            refine me_aload_n X (i := 0) 1 rfl dX6_readOrder_76 ?_
            refine me_iconst X dX6_readOrder_77 ic_2 ?_
            obtain ⟨⟨v6, M4⟩, e7, h⟩ := me_bd h
            refine me_callVi X [.int 2] (ctX6_fail_52 hn (Nat.le_trans (by decide) hnt) e7) kV_X6_40 rfl rfl (Nat.le_of_ble_eq_true rfl) me_k52 (Nat.le_of_ble_eq_true rfl) (Nat.le_refl _) (Nat.le_of_ble_eq_true rfl) dX6_readOrder_78 ?_
            by_cases c6 : v6 = 0 ∨ v6 = 1
            · have h := me_ip c6 h
              obtain rfl := me_so h
              have q := hr1 _ rfl
              subst q
              have h : some (v6, M4) = some (r, M') := hq1
              obtain ⟨rfl, rfl⟩ := me_sp h
              exact me_zret X (me_z c6) hr hlk dX6_readOrder_81
            · have h := me_in c6 h
              cases h
        · have h := me_ip c4 h
          refine me_aload_n X (i := 0) 0 rfl dX6_readOrder_51 ?_
          refine me_iconst X dX6_readOrder_52 ic_1 ?_
          obtain ⟨⟨v7, M5⟩, e8, h⟩ := me_bd h
          refine me_callVi X [.int 1] (ctX6_fail_52 hn (Nat.le_trans (by decide) hnt) e8) kV_X6_40 rfl rfl (Nat.le_of_ble_eq_true rfl) me_k52 (Nat.le_of_ble_eq_true rfl) (Nat.le_refl _) (Nat.le_of_ble_eq_true rfl) dX6_readOrder_53 ?_
          by_cases c7 : v7 = 0 ∨ v7 = 1
          · have h := me_ip c7 h
            obtain rfl := me_so h
            have q := hr1 _ rfl
            subst q
            have h : some (v7, M5) = some (r, M') := hq1
            obtain ⟨rfl, rfl⟩ := me_sp h
            exact me_zret X (me_z c7) hr hlk dX6_readOrder_56
          · have h := me_in c7 h
            cases h
    · have h := me_ip c2 h
      refine me_aload_n X (i := 0) 0 rfl dX6_readOrder_26 ?_
      refine me_iconst X dX6_readOrder_27 ic_1 ?_
      obtain ⟨⟨v10, M8⟩, e11, h⟩ := me_bd h
      refine me_callVi X [.int 1] (ctX6_fail_52 hn (Nat.le_trans (by decide) hnt) e11) kV_X6_40 rfl rfl (Nat.le_of_ble_eq_true rfl) me_k52 (Nat.le_of_ble_eq_true rfl) (Nat.le_refl _) (Nat.le_of_ble_eq_true rfl) dX6_readOrder_28 ?_
      by_cases c11 : v10 = 0 ∨ v10 = 1
      · have h := me_ip c11 h
        obtain ⟨rfl, rfl⟩ := me_sp h
        exact me_zret X (me_z c11) hr hlk dX6_readOrder_31
      · have h := me_in c11 h
        cases h
  refine me_if_ne X 19 (by decide) dX6_readOrder_4 (fun c1 => ?_) (fun c1 => ?_)
  · have h := me_in c1 h
    exact hj19_1 M h
  · have h := me_ip c1 h
    refine me_aload_n X (i := 1) 1 rfl dX6_readOrder_7 ?_
    refine me_aload_n X (i := 0) 0 rfl dX6_readOrder_8 ?_
    obtain ⟨v1, e1, h⟩ := me_bd h
    refine me_callVi X [] (ctX6_digitsFrom_52 hn (Nat.le_trans (by decide) hnt) e1) kV_X6_64 rfl rfl (Nat.le_of_ble_eq_true rfl) me_k52 (Nat.le_of_ble_eq_true rfl) (Nat.le_refl _) (Nat.le_of_ble_eq_true rfl) dX6_readOrder_9 ?_
    refine me_iconst X dX6_readOrder_12 ic_5 ?_
    obtain ⟨v2, e2, h⟩ := me_bd h
    refine me_callSi X [.int v1, .int 5] (ctJ9_min_7cf53 hn (Nat.le_trans (by decide) hnt) e2) kS_X6_68 rfl rfl (Nat.le_of_ble_eq_true rfl) (Nat.le_refl _) (Nat.le_of_ble_eq_true rfl) dX6_readOrder_13 ?_
    refine me_puti X kG_X6_74 (Nat.le_of_ble_eq_true rfl) me_k58 me_f58_5 dX6_readOrder_16 ?_
    exact hj19_1 (me_s M 58 5 v2) h
def mX6_readLeast_52_58_L4  : (Int32 × Int32 × me_M) → Option ((Int32 × Int32 × me_M) ⊕ ((me_M) ⊕ (Int32 × me_M)))
  | (x2_1, x3_1, M1) => (if (M1.1 58 5) ≤ x3_1 then some (.inr (.inl M1)) else ((mX6_boundHere_52 M1 x2_1).bind fun (v1, M2) => (if v1 = (-1) then some (.inr (.inr (0, M2))) else ((me_t M2 60 40 (((M2.1 58 4) * 5) + x3_1) v1).bind fun M3 => some (.inl (v1, (x3_1 + 1), (me_s M3 52 2 ((M3.1 52 2) + 1))))))))
def mX6_readLeast_52_58 (M : me_M)  : Option (Int32 × me_M) :=
  ((me_l mX6_readLeast_52_58_L4 me_fu (0, 0, M)).bind fun o => Sum.elim (fun M4 => ((mX6_isDigit_52 M4).bind fun v2 => (if v2 = 0 then some (1, M4) else ((mX6_fail_52 M4 1).bind fun (v3, M5) => (if v3 = 0 ∨ v3 = 1 then some (v3, M5) else none))))) (fun res => some res) o)
set_option maxRecDepth 100000 in
set_option maxHeartbeats 4000000 in
theorem ctX6_readLeast_52_58 {l : Launch} {n nt : Nat} (hn : 63 ≤ n) (hnt : 1 ≤ nt) {M : me_M} {r : Int32} {M' : me_M} (h : mX6_readLeast_52_58 M = some (r, M')) : me_Ct l yX6_readLeast cX6_readLeast 5 (some .boolean) 3 n nt (fun ad => [.ref (ad 52), .ref (ad 58)]) M (fun _ => some (.int r)) M' := by
  unfold mX6_readLeast_52_58 at h
  refine me_enter (N0 := 63) RX6 rfl (plainFor_of_name pl_RX6) hn (Nat.le_trans (by decide) hnt) (fun _ => Nat.le_of_ble_eq_true rfl) ?_
  intro p e R s m args below meth c D cA ad tys A X hr hlk
  refine me_sub (L' := [(0, .ref (ad 52)), (1, .ref (ad 58))]) [0, 1] rfl ?_
  refine me_iconst X dX6_readLeast_0 ic_0 ?_
  refine me_istore_n X (i := 2) [(2, .int 0), (0, .ref (ad 52)), (1, .ref (ad 58))] (Nat.le_of_ble_eq_true rfl) rfl dX6_readLeast_1 ?_
  refine me_iconst X dX6_readLeast_2 ic_0 ?_
  refine me_istore_n X (i := 3) [(3, .int 0), (2, .int 0), (0, .ref (ad 52)), (1, .ref (ad 58))] (Nat.le_of_ble_eq_true rfl) rfl dX6_readLeast_3 ?_
  obtain ⟨o0, hq1l, hq1⟩ := me_bd h
  have hx1 : ∀ (M4 : me_M), o0 = .inl M4 → me_W p l e R s m args below meth c 0 0 (MQ below (me_Qc D cA ad n A (some (.int r)) M') args s 0 0 A) D cA ad n 5 A 61 [(0, .ref (ad 52))] [] M4 := by
    intro M4 q
    subst q
    have h := me_el hq1
    refine me_aload_n X (i := 0) 0 rfl dX6_readLeast_61 ?_
    obtain ⟨v2, e3, h⟩ := me_bd h
    refine me_callVi X [] (ctX6_isDigit_52 hn (Nat.le_trans (by decide) hnt) e3) kV_X6_44 rfl rfl (Nat.le_of_ble_eq_true rfl) me_k52 (Nat.le_of_ble_eq_true rfl) (Nat.le_refl _) (Nat.le_of_ble_eq_true rfl) dX6_readLeast_62 ?_
    refine me_if_eq X 76 (by decide) dX6_readLeast_65 (fun c3 => ?_) (fun c3 => ?_)
    · have h := me_ip c3 h
      refine me_iconst X dX6_readLeast_76 ic_1 ?_
      obtain ⟨rfl, rfl⟩ := me_sp h
      exact me_zret X (by decide) hr hlk dX6_readLeast_77
    · have h := me_in c3 h
      refine me_aload_n X (i := 0) 0 rfl dX6_readLeast_68 ?_
      refine me_iconst X dX6_readLeast_69 ic_1 ?_
      obtain ⟨⟨v3, M5⟩, e4, h⟩ := me_bd h
      refine me_callVi X [.int 1] (ctX6_fail_52 hn (Nat.le_trans (by decide) hnt) e4) kV_X6_40 rfl rfl (Nat.le_of_ble_eq_true rfl) me_k52 (Nat.le_of_ble_eq_true rfl) (Nat.le_refl _) (Nat.le_of_ble_eq_true rfl) dX6_readLeast_70 ?_
      refine me_goto X 77 (by decide) dX6_readLeast_73 ?_
      by_cases c4 : v3 = 0 ∨ v3 = 1
      · have h := me_ip c4 h
        obtain ⟨rfl, rfl⟩ := me_sp h
        exact me_zret X (me_z c4) hr hlk dX6_readLeast_77
      · have h := me_in c4 h
        cases h
  refine me_sub (L' := [(0, .ref (ad 52)), (1, .ref (ad 58)), (2, .int 0), (3, .int 0)]) [2, 3, 1, 0] rfl ?_
  refine me_l_W (b := mX6_readLeast_52_58_L4) (P := fun w => me_W p l e R s m args below meth c 0 0 (MQ below (me_Qc D cA ad n A (some (.int r)) M') args s 0 0 A) D cA ad n 5 A 4 [(0, .ref (ad 52)), (1, .ref (ad 58)), (2, .int w.1), (3, .int w.2.1)] [] w.2.2) (r := o0) ?_ me_fu (0, 0, M) hq1l
  rintro ⟨x2_1, x3_1, M1⟩ z1 h hb1 - hr1
  unfold mX6_readLeast_52_58_L4 at h
  refine me_iload_n X (i := 3) 3 rfl dX6_readLeast_4 ?_
  refine me_aload_n X (i := 1) 1 rfl dX6_readLeast_5 ?_
  refine me_geti X kF_X6_74 (Nat.le_of_ble_eq_true rfl) me_k58 me_f58_5 dX6_readLeast_6 ?_
  refine me_icmp_ge X 61 (by decide) dX6_readLeast_9 (fun c1 => ?_) (fun c1 => ?_)
  · have h := me_ip c1 h
    obtain rfl := me_so h
    have q := hr1 _ rfl
    refine me_sub (L' := [(0, .ref (ad 52))]) [0] rfl ?_
    subst q
    exact hx1 _ rfl
  · have h := me_in c1 h
    refine me_aload_n X (i := 0) 0 rfl dX6_readLeast_12 ?_
    refine me_iload_n X (i := 2) 2 rfl dX6_readLeast_13 ?_
    obtain ⟨⟨v1, M2⟩, e1, h⟩ := me_bd h
    refine me_callVi X [.int x2_1] (ctX6_boundHere_52 hn (Nat.le_trans (by decide) hnt) e1) kV_X6_88 rfl rfl (Nat.le_of_ble_eq_true rfl) me_k52 (Nat.le_of_ble_eq_true rfl) (Nat.le_refl _) (Nat.le_of_ble_eq_true rfl) dX6_readLeast_14 ?_
    refine me_istore X (i := 4) [(4, .int v1), (0, .ref (ad 52)), (1, .ref (ad 58)), (2, .int x2_1), (3, .int x3_1)] (Nat.le_of_ble_eq_true rfl) rfl dX6_readLeast_17 ?_
    refine me_iload X (i := 4) 0 rfl dX6_readLeast_19 ?_
    refine me_iconst X dX6_readLeast_21 ic_m1 ?_
    refine me_icmp_ne X 27 (by decide) dX6_readLeast_22 (fun c2 => ?_) (fun c2 => ?_)
    · have h := me_in c2 h
      refine me_aload_n X (i := 1) 2 rfl dX6_readLeast_27 ?_
      refine me_getr X 60 kF_X6_92 (Nat.le_of_ble_eq_true rfl) me_k58 me_f58_1 dX6_readLeast_28 ?_
      refine me_aload_n X (i := 1) 2 rfl dX6_readLeast_31 ?_
      refine me_geti X kF_X6_28 (Nat.le_of_ble_eq_true rfl) me_k58 me_f58_4 dX6_readLeast_32 ?_
      refine me_iconst X dX6_readLeast_35 ic_5 ?_
      refine me_imul X dX6_readLeast_36 ?_
      refine me_iload_n X (i := 3) 4 rfl dX6_readLeast_37 ?_
      refine me_iadd X dX6_readLeast_38 ?_
      refine me_iload X (i := 4) 0 rfl dX6_readLeast_39 ?_
      obtain ⟨M3, e2, h⟩ := me_bd h
      refine me_iast X (Nat.le_of_ble_eq_true rfl) me_k60 e2 dX6_readLeast_41 ?_
      refine me_iload X (i := 4) 0 rfl dX6_readLeast_42 ?_
      refine me_istore_n X (i := 2) [(2, .int v1), (4, .int v1), (0, .ref (ad 52)), (1, .ref (ad 58)), (3, .int x3_1)] (Nat.le_of_ble_eq_true rfl) rfl dX6_readLeast_44 ?_
      refine me_aload_n X (i := 0) 2 rfl dX6_readLeast_45 ?_
      refine me_dup X rfl dX6_readLeast_46 ?_
      refine me_geti X kF_X6_22 (Nat.le_of_ble_eq_true rfl) me_k52 me_f52_2 dX6_readLeast_47 ?_
      refine me_iconst X dX6_readLeast_50 ic_1 ?_
      refine me_iadd X dX6_readLeast_51 ?_
      refine me_puti X kG_X6_22 (Nat.le_of_ble_eq_true rfl) me_k52 me_f52_2 dX6_readLeast_52 ?_
      refine me_iinc X (v := (x3_1 + 1)) 4 rfl (in_1 _) [(3, .int (x3_1 + 1)), (2, .int v1), (4, .int v1), (0, .ref (ad 52)), (1, .ref (ad 58))] (Nat.le_of_ble_eq_true rfl) rfl dX6_readLeast_55 ?_
      refine me_goto X 4 (by decide) dX6_readLeast_58 ?_
      obtain rfl := me_so h
      refine me_sub (L' := [(0, .ref (ad 52)), (1, .ref (ad 58)), (2, .int v1), (3, .int (x3_1 + 1))]) [3, 4, 1, 0] rfl ?_
      exact hb1 (v1, (x3_1 + 1), (me_s M3 52 2 ((M3.1 52 2) + 1))) rfl
    · have h := me_ip c2 h
      refine me_iconst X dX6_readLeast_25 ic_0 ?_
      obtain rfl := me_so h
      have q := hr1 _ rfl
      subst q
      have h : some (0, M2) = some (r, M') := hq1
      obtain ⟨rfl, rfl⟩ := me_sp h
      exact me_zret X (by decide) hr hlk dX6_readLeast_26
def mX6_readMost_52_58_L4  : (Int32 × Int32 × me_M) → Option ((Int32 × Int32 × me_M) ⊕ ((me_M) ⊕ (Int32 × me_M)))
  | (x2_1, x3_1, M1) => (if (M1.1 58 5) ≤ x3_1 then some (.inr (.inl M1)) else ((me_r M1 60 40 (((M1.1 58 4) * 5) + x3_1)).bind fun v1 => ((mJ9_max_7cf53 x2_1 v1).bind fun v2 => ((mX6_boundHere_52 M1 v2).bind fun (v3, M2) => (if v3 = (-1) then some (.inr (.inr (0, M2))) else ((me_t M2 61 40 (((M1.1 58 4) * 5) + x3_1) v3).bind fun M3 => some (.inl (v3, (x3_1 + 1), (me_s M3 52 2 ((M3.1 52 2) + 1))))))))))
def mX6_readMost_52_58 (M : me_M)  : Option (Int32 × me_M) :=
  ((me_l mX6_readMost_52_58_L4 me_fu (0, 0, M)).bind fun o => Sum.elim (fun M4 => ((mX6_isDigit_52 M4).bind fun v4 => (if v4 = 0 then some (1, M4) else ((mX6_fail_52 M4 1).bind fun (v5, M5) => (if v5 = 0 ∨ v5 = 1 then some (v5, M5) else none))))) (fun res => some res) o)
set_option maxRecDepth 100000 in
set_option maxHeartbeats 4000000 in
theorem ctX6_readMost_52_58 {l : Launch} {n nt : Nat} (hn : 63 ≤ n) (hnt : 1 ≤ nt) {M : me_M} {r : Int32} {M' : me_M} (h : mX6_readMost_52_58 M = some (r, M')) : me_Ct l yX6_readMost cX6_readMost 6 (some .boolean) 3 n nt (fun ad => [.ref (ad 52), .ref (ad 58)]) M (fun _ => some (.int r)) M' := by
  unfold mX6_readMost_52_58 at h
  refine me_enter (N0 := 63) RX6 rfl (plainFor_of_name pl_RX6) hn (Nat.le_trans (by decide) hnt) (fun _ => Nat.le_of_ble_eq_true rfl) ?_
  intro p e R s m args below meth c D cA ad tys A X hr hlk
  refine me_sub (L' := [(0, .ref (ad 52)), (1, .ref (ad 58))]) [0, 1] rfl ?_
  refine me_iconst X dX6_readMost_0 ic_0 ?_
  refine me_istore_n X (i := 2) [(2, .int 0), (0, .ref (ad 52)), (1, .ref (ad 58))] (Nat.le_of_ble_eq_true rfl) rfl dX6_readMost_1 ?_
  refine me_iconst X dX6_readMost_2 ic_0 ?_
  refine me_istore_n X (i := 3) [(3, .int 0), (2, .int 0), (0, .ref (ad 52)), (1, .ref (ad 58))] (Nat.le_of_ble_eq_true rfl) rfl dX6_readMost_3 ?_
  obtain ⟨o0, hq1l, hq1⟩ := me_bd h
  have hx1 : ∀ (M4 : me_M), o0 = .inl M4 → me_W p l e R s m args below meth c 0 0 (MQ below (me_Qc D cA ad n A (some (.int r)) M') args s 0 0 A) D cA ad n 6 A 75 [(0, .ref (ad 52))] [] M4 := by
    intro M4 q
    subst q
    have h := me_el hq1
    refine me_aload_n X (i := 0) 0 rfl dX6_readMost_75 ?_
    obtain ⟨v4, e5, h⟩ := me_bd h
    refine me_callVi X [] (ctX6_isDigit_52 hn (Nat.le_trans (by decide) hnt) e5) kV_X6_44 rfl rfl (Nat.le_of_ble_eq_true rfl) me_k52 (Nat.le_of_ble_eq_true rfl) (Nat.le_refl _) (Nat.le_of_ble_eq_true rfl) dX6_readMost_76 ?_
    refine me_if_eq X 90 (by decide) dX6_readMost_79 (fun c3 => ?_) (fun c3 => ?_)
    · have h := me_ip c3 h
      refine me_iconst X dX6_readMost_90 ic_1 ?_
      obtain ⟨rfl, rfl⟩ := me_sp h
      exact me_zret X (by decide) hr hlk dX6_readMost_91
    · have h := me_in c3 h
      refine me_aload_n X (i := 0) 0 rfl dX6_readMost_82 ?_
      refine me_iconst X dX6_readMost_83 ic_1 ?_
      obtain ⟨⟨v5, M5⟩, e6, h⟩ := me_bd h
      refine me_callVi X [.int 1] (ctX6_fail_52 hn (Nat.le_trans (by decide) hnt) e6) kV_X6_40 rfl rfl (Nat.le_of_ble_eq_true rfl) me_k52 (Nat.le_of_ble_eq_true rfl) (Nat.le_refl _) (Nat.le_of_ble_eq_true rfl) dX6_readMost_84 ?_
      refine me_goto X 91 (by decide) dX6_readMost_87 ?_
      by_cases c4 : v5 = 0 ∨ v5 = 1
      · have h := me_ip c4 h
        obtain ⟨rfl, rfl⟩ := me_sp h
        exact me_zret X (me_z c4) hr hlk dX6_readMost_91
      · have h := me_in c4 h
        cases h
  refine me_sub (L' := [(0, .ref (ad 52)), (1, .ref (ad 58)), (2, .int 0), (3, .int 0)]) [2, 3, 1, 0] rfl ?_
  refine me_l_W (b := mX6_readMost_52_58_L4) (P := fun w => me_W p l e R s m args below meth c 0 0 (MQ below (me_Qc D cA ad n A (some (.int r)) M') args s 0 0 A) D cA ad n 6 A 4 [(0, .ref (ad 52)), (1, .ref (ad 58)), (2, .int w.1), (3, .int w.2.1)] [] w.2.2) (r := o0) ?_ me_fu (0, 0, M) hq1l
  rintro ⟨x2_1, x3_1, M1⟩ z1 h hb1 - hr1
  unfold mX6_readMost_52_58_L4 at h
  refine me_iload_n X (i := 3) 3 rfl dX6_readMost_4 ?_
  refine me_aload_n X (i := 1) 1 rfl dX6_readMost_5 ?_
  refine me_geti X kF_X6_74 (Nat.le_of_ble_eq_true rfl) me_k58 me_f58_5 dX6_readMost_6 ?_
  refine me_icmp_ge X 75 (by decide) dX6_readMost_9 (fun c1 => ?_) (fun c1 => ?_)
  · have h := me_ip c1 h
    obtain rfl := me_so h
    have q := hr1 _ rfl
    refine me_sub (L' := [(0, .ref (ad 52))]) [0] rfl ?_
    subst q
    exact hx1 _ rfl
  · have h := me_in c1 h
    refine me_aload_n X (i := 1) 1 rfl dX6_readMost_12 ?_
    refine me_geti X kF_X6_28 (Nat.le_of_ble_eq_true rfl) me_k58 me_f58_4 dX6_readMost_13 ?_
    refine me_iconst X dX6_readMost_16 ic_5 ?_
    refine me_imul X dX6_readMost_17 ?_
    refine me_iload_n X (i := 3) 3 rfl dX6_readMost_18 ?_
    refine me_iadd X dX6_readMost_19 ?_
    refine me_istore X (i := 4) [(4, .int (((M1.1 58 4) * 5) + x3_1)), (0, .ref (ad 52)), (1, .ref (ad 58)), (2, .int x2_1), (3, .int x3_1)] (Nat.le_of_ble_eq_true rfl) rfl dX6_readMost_20 ?_
    refine me_aload_n X (i := 0) 1 rfl dX6_readMost_22 ?_
    refine me_iload_n X (i := 2) 3 rfl dX6_readMost_23 ?_
    refine me_aload_n X (i := 1) 2 rfl dX6_readMost_24 ?_
    refine me_getr X 60 kF_X6_92 (Nat.le_of_ble_eq_true rfl) me_k58 me_f58_1 dX6_readMost_25 ?_
    refine me_iload X (i := 4) 0 rfl dX6_readMost_28 ?_
    obtain ⟨v1, e1, h⟩ := me_bd h
    refine me_iald X (Nat.le_of_ble_eq_true rfl) me_k60 e1 dX6_readMost_30 ?_
    obtain ⟨v2, e2, h⟩ := me_bd h
    refine me_callSi X [.int x2_1, .int v1] (ctJ9_max_7cf53 hn (Nat.le_trans (by decide) hnt) e2) kS_X6_95 rfl rfl (Nat.le_of_ble_eq_true rfl) (Nat.le_refl _) (Nat.le_of_ble_eq_true rfl) dX6_readMost_31 ?_
    obtain ⟨⟨v3, M2⟩, e3, h⟩ := me_bd h
    refine me_callVi X [.int v2] (ctX6_boundHere_52 hn (Nat.le_trans (by decide) hnt) e3) kV_X6_88 rfl rfl (Nat.le_of_ble_eq_true rfl) me_k52 (Nat.le_of_ble_eq_true rfl) (Nat.le_refl _) (Nat.le_of_ble_eq_true rfl) dX6_readMost_34 ?_
    refine me_istore X (i := 5) [(5, .int v3), (4, .int (((M1.1 58 4) * 5) + x3_1)), (0, .ref (ad 52)), (1, .ref (ad 58)), (2, .int x2_1), (3, .int x3_1)] (Nat.le_of_ble_eq_true rfl) rfl dX6_readMost_37 ?_
    refine me_iload X (i := 5) 0 rfl dX6_readMost_39 ?_
    refine me_iconst X dX6_readMost_41 ic_m1 ?_
    refine me_icmp_ne X 47 (by decide) dX6_readMost_42 (fun c2 => ?_) (fun c2 => ?_)
    · have h := me_in c2 h
      refine me_aload_n X (i := 1) 3 rfl dX6_readMost_47 ?_
      refine me_getr X 61 kF_X6_98 (Nat.le_of_ble_eq_true rfl) me_k58 me_f58_2 dX6_readMost_48 ?_
      refine me_iload X (i := 4) 1 rfl dX6_readMost_51 ?_
      refine me_iload X (i := 5) 0 rfl dX6_readMost_53 ?_
      obtain ⟨M3, e4, h⟩ := me_bd h
      refine me_iast X (Nat.le_of_ble_eq_true rfl) me_k61 e4 dX6_readMost_55 ?_
      refine me_iload X (i := 5) 0 rfl dX6_readMost_56 ?_
      refine me_istore_n X (i := 2) [(2, .int v3), (5, .int v3), (4, .int (((M1.1 58 4) * 5) + x3_1)), (0, .ref (ad 52)), (1, .ref (ad 58)), (3, .int x3_1)] (Nat.le_of_ble_eq_true rfl) rfl dX6_readMost_58 ?_
      refine me_aload_n X (i := 0) 3 rfl dX6_readMost_59 ?_
      refine me_dup X rfl dX6_readMost_60 ?_
      refine me_geti X kF_X6_22 (Nat.le_of_ble_eq_true rfl) me_k52 me_f52_2 dX6_readMost_61 ?_
      refine me_iconst X dX6_readMost_64 ic_1 ?_
      refine me_iadd X dX6_readMost_65 ?_
      refine me_puti X kG_X6_22 (Nat.le_of_ble_eq_true rfl) me_k52 me_f52_2 dX6_readMost_66 ?_
      refine me_iinc X (v := (x3_1 + 1)) 5 rfl (in_1 _) [(3, .int (x3_1 + 1)), (2, .int v3), (5, .int v3), (4, .int (((M1.1 58 4) * 5) + x3_1)), (0, .ref (ad 52)), (1, .ref (ad 58))] (Nat.le_of_ble_eq_true rfl) rfl dX6_readMost_69 ?_
      refine me_goto X 4 (by decide) dX6_readMost_72 ?_
      obtain rfl := me_so h
      refine me_sub (L' := [(0, .ref (ad 52)), (1, .ref (ad 58)), (2, .int v3), (3, .int (x3_1 + 1))]) [4, 5, 1, 0] rfl ?_
      exact hb1 (v3, (x3_1 + 1), (me_s M3 52 2 ((M3.1 52 2) + 1))) rfl
    · have h := me_ip c2 h
      refine me_iconst X dX6_readMost_45 ic_0 ?_
      obtain rfl := me_so h
      have q := hr1 _ rfl
      subst q
      have h : some (0, M2) = some (r, M') := hq1
      obtain ⟨rfl, rfl⟩ := me_sp h
      exact me_zret X (by decide) hr hlk dX6_readMost_46
