def mX11_needArgument_0 (p0 : Int32) : Option Unit :=
  (if p0 = 0 then none else some ())
set_option maxRecDepth 100000 in
set_option maxHeartbeats 4000000 in
theorem ctX11_needArgument_0 {l : Launch} {n nt : Nat} (hn : 63 ≤ n) (hnt : 1 ≤ nt) {M : me_M} {p0 : Int32} (h : mX11_needArgument_0 p0 = some ()) : me_Ct l yX11_needArgument cX11_needArgument 2 none 0 n nt (fun ad => [.ref (ad 0), .int p0]) M (fun _ => none) M := by
  unfold mX11_needArgument_0 at h
  refine me_enter (N0 := 63) RX11 rfl (plainFor_of_name pl_RX11) hn (Nat.le_trans (by decide) hnt) (fun _ => Nat.le_of_ble_eq_true rfl) ?_
  intro p e R s m args below meth c D cA ad tys A X hr hlk
  refine me_sub (L' := [(0, .ref (ad 0)), (1, .int p0)]) [0, 1] rfl ?_
  refine me_iload_n X (i := 1) 1 rfl dX11_needArgument_0 ?_
  refine me_if_ne X 25 (by decide) dX11_needArgument_1 (fun c1 => ?_) (fun c1 => ?_)
  · have h := me_in c1 h
    exact me_vret X hr hlk dX11_needArgument_25
  · have h := me_ip c1 h
    cases h
def mX11_text_0_J58 (v3 : Int32) (M3 : me_M) : Option (Int32 × me_M) :=
  (if v3 = (-1) then some (0, (me_s M3 1 1 0)) else some (((-1) - v3), (me_s M3 1 1 0)))
def mX11_text_0 (M : me_M) (p0 : Int32) : Option (Int32 × me_M) :=
  ((mX9_holds_1 M p0).bind fun v1 => ((mX11_needArgument_0 v1).bind fun _ => ((mX9_firstNoText_1 M p0).bind fun v3 => (if v3 = (-1) then ((mX10_take_3_1 M p0).bind fun M1 => ((mX11_index_0 M1).bind fun M2 => (mX11_text_0_J58 v3 (me_s (me_s M2 47 4 0) 30 6 0)))) else (mX11_text_0_J58 v3 M)))))
set_option maxRecDepth 100000 in
set_option maxHeartbeats 4000000 in
theorem ctX11_text_0 {l : Launch} {n nt : Nat} (hn : 63 ≤ n) (hnt : 1 ≤ nt) {M : me_M} {p0 : Int32} {r : Int32} {M' : me_M} (h : mX11_text_0 M p0 = some (r, M')) : me_Ct l yX11_text cX11_text 3 (some .int) 6 n nt (fun ad => [.ref (ad 0), .int p0]) M (fun _ => some (.int r)) M' := by
  unfold mX11_text_0 at h
  refine me_enter (N0 := 63) RX11 rfl (plainFor_of_name pl_RX11) hn (Nat.le_trans (by decide) hnt) (fun _ => Nat.le_of_ble_eq_true rfl) ?_
  intro p e R s m args below meth c D cA ad tys A X hr hlk
  refine me_sub (L' := [(0, .ref (ad 0)), (1, .int p0)]) [0, 1] rfl ?_
  refine me_aload_n X (i := 0) 0 rfl dX11_text_0 ?_
  refine me_aload_n X (i := 0) 0 rfl dX11_text_1 ?_
  refine me_getr X 1 kF_X11_10 (Nat.le_of_ble_eq_true rfl) me_k0 me_f0_0 dX11_text_2 ?_
  refine me_iload_n X (i := 1) 1 rfl dX11_text_5 ?_
  obtain ⟨v1, e1, h⟩ := me_bd h
  refine me_callVi X [.int p0] (ctX9_holds_1 hn (Nat.le_trans (by decide) hnt) e1) kV_X11_118 rfl rfl (Nat.le_of_ble_eq_true rfl) me_k1 (Nat.le_of_ble_eq_true rfl) (Nat.le_refl _) (Nat.le_of_ble_eq_true rfl) dX11_text_6 ?_
  obtain ⟨_, e2, h⟩ := me_bd h
  refine me_callVv X [.int v1] (ctX11_needArgument_0 hn (Nat.le_trans (by decide) hnt) e2) kV_X11_122 rfl rfl (Nat.le_of_ble_eq_true rfl) me_k0 (Nat.le_of_ble_eq_true rfl) (Nat.le_refl _) (Nat.le_of_ble_eq_true rfl) dX11_text_9 ?_
  refine me_aload_n X (i := 0) 0 rfl dX11_text_12 ?_
  refine me_getr X 1 kF_X11_10 (Nat.le_of_ble_eq_true rfl) me_k0 me_f0_0 dX11_text_13 ?_
  refine me_iload_n X (i := 1) 1 rfl dX11_text_16 ?_
  obtain ⟨v3, e3, h⟩ := me_bd h
  refine me_callVi X [.int p0] (ctX9_firstNoText_1 hn (Nat.le_trans (by decide) hnt) e3) kV_X11_126 rfl rfl (Nat.le_of_ble_eq_true rfl) me_k1 (Nat.le_of_ble_eq_true rfl) (Nat.le_refl _) (Nat.le_of_ble_eq_true rfl) dX11_text_17 ?_
  refine me_istore_n X (i := 2) [(2, .int v3), (0, .ref (ad 0)), (1, .int p0)] (Nat.le_of_ble_eq_true rfl) rfl dX11_text_20 ?_
  refine me_iload_n X (i := 2) 0 rfl dX11_text_21 ?_
  refine me_iconst X dX11_text_22 ic_m1 ?_
  have hj58_1 : ∀ (M3 : me_M), mX11_text_0_J58 v3 M3 = some (r, M') → me_W p l e R s m args below meth c 0 0 (MQ below (me_Qc D cA ad n A (some (.int r)) M') args s 0 0 A) D cA ad n 3 A 58 [(0, .ref (ad 0)), (2, .int v3)] [] M3 := by
    intro M3 h
    unfold mX11_text_0_J58 at h
    refine me_aload_n X (i := 0) 0 rfl dX11_text_58 ?_
    refine me_getr X 1 kF_X11_10 (Nat.le_of_ble_eq_true rfl) me_k0 me_f0_0 dX11_text_59 ?_
    refine me_iconst X dX11_text_62 ic_0 ?_
    refine me_puti X kG_X11_111 (Nat.le_of_ble_eq_true rfl) me_k1 me_f1_1 dX11_text_63 ?_
    refine me_iload_n X (i := 2) 1 rfl dX11_text_66 ?_
    refine me_iconst X dX11_text_67 ic_m1 ?_
    refine me_icmp_ne X 75 (by decide) dX11_text_68 (fun c2 => ?_) (fun c2 => ?_)
    · have h := me_in c2 h
      refine me_iconst X dX11_text_75 ic_m1 ?_
      refine me_iload_n X (i := 2) 1 rfl dX11_text_76 ?_
      refine me_isub X dX11_text_77 ?_
      obtain ⟨rfl, rfl⟩ := me_sp h
      exact me_iret X hr hlk dX11_text_78
    · have h := me_ip c2 h
      refine me_iconst X dX11_text_71 ic_0 ?_
      refine me_goto X 78 (by decide) dX11_text_72 ?_
      obtain ⟨rfl, rfl⟩ := me_sp h
      exact me_iret X hr hlk dX11_text_78
  refine me_icmp_ne X 58 (by decide) dX11_text_23 (fun c1 => ?_) (fun c1 => ?_)
  · have h := me_in c1 h
    refine me_sub (L' := [(0, .ref (ad 0)), (2, .int v3)]) [1, 0] rfl ?_
    exact hj58_1 M h
  · have h := me_ip c1 h
    refine me_aload_n X (i := 0) 1 rfl dX11_text_26 ?_
    refine me_getr X 3 kF_X11_19 (Nat.le_of_ble_eq_true rfl) me_k0 me_f0_1 dX11_text_27 ?_
    refine me_aload_n X (i := 0) 1 rfl dX11_text_30 ?_
    refine me_getr X 1 kF_X11_10 (Nat.le_of_ble_eq_true rfl) me_k0 me_f0_0 dX11_text_31 ?_
    refine me_iload_n X (i := 1) 2 rfl dX11_text_34 ?_
    obtain ⟨M1, e4, h⟩ := me_bd h
    refine me_callVv X [.ref (ad 1), .int p0] (ctX10_take_3_1 hn (Nat.le_trans (by decide) hnt) e4) kV_X11_130 rfl rfl (Nat.le_of_ble_eq_true rfl) me_k3 (Nat.le_of_ble_eq_true rfl) (Nat.le_refl _) (Nat.le_of_ble_eq_true rfl) dX11_text_35 ?_
    refine me_aload_n X (i := 0) 1 rfl dX11_text_38 ?_
    obtain ⟨M2, e5, h⟩ := me_bd h
    refine me_callVv X [] (ctX11_index_0 hn (Nat.le_trans (by decide) hnt) e5) kV_X11_108 rfl rfl (Nat.le_of_ble_eq_true rfl) me_k0 (Nat.le_of_ble_eq_true rfl) (Nat.le_refl _) (Nat.le_of_ble_eq_true rfl) dX11_text_39 ?_
    refine me_aload_n X (i := 0) 1 rfl dX11_text_42 ?_
    refine me_getr X 47 kF_X11_81 (Nat.le_of_ble_eq_true rfl) me_k0 me_f0_8 dX11_text_43 ?_
    refine me_iconst X dX11_text_46 ic_0 ?_
    refine me_putz X ⟨by decide, by decide⟩ kG_X11_134 (Nat.le_of_ble_eq_true rfl) me_k47 me_f47_4 dX11_text_47 ?_
    refine me_aload_n X (i := 0) 1 rfl dX11_text_50 ?_
    refine me_getr X 30 kF_X11_65 (Nat.le_of_ble_eq_true rfl) me_k0 me_f0_6 dX11_text_51 ?_
    refine me_iconst X dX11_text_54 ic_0 ?_
    refine me_puti X kG_X11_138 (Nat.le_of_ble_eq_true rfl) me_k30 me_f30_6 dX11_text_55 ?_
    refine me_sub (L' := [(0, .ref (ad 0)), (2, .int v3)]) [1, 0] rfl ?_
    exact hj58_1 (me_s (me_s M2 47 4 0) 30 6 0) h
def mX11_scheme_0 (M : me_M) (p0 : Int32) : Option (Int32 × me_M) :=
  ((mX9_holds_1 M p0).bind fun v1 => ((mX11_needArgument_0 v1).bind fun _ => (if M.2.1 1 = 53 then ((mX6_read_52_53 M p0).bind fun M1 => (if ((me_s M1 1 1 0).1 52 3) = 0 then (if (me_s M1 1 1 0).2.1 0 = 53 then (if (me_s M1 1 1 0).2.1 1 = 53 then (if (me_p (me_p (me_s M1 1 1 0) 0 53) 1 53).2.1 0 = 53 then some (((me_p (me_p (me_s M1 1 1 0) 0 53) 1 53).1 53 4), (me_p (me_p (me_s M1 1 1 0) 0 53) 1 53)) else if (me_p (me_p (me_s M1 1 1 0) 0 53) 1 53).2.1 0 = 58 then some (((me_p (me_p (me_s M1 1 1 0) 0 53) 1 53).1 58 4), (me_p (me_p (me_s M1 1 1 0) 0 53) 1 53)) else none) else if (me_s M1 1 1 0).2.1 1 = 58 then (if (me_p (me_p (me_s M1 1 1 0) 0 58) 1 53).2.1 0 = 53 then some (((me_p (me_p (me_s M1 1 1 0) 0 58) 1 53).1 53 4), (me_p (me_p (me_s M1 1 1 0) 0 58) 1 53)) else if (me_p (me_p (me_s M1 1 1 0) 0 58) 1 53).2.1 0 = 58 then some (((me_p (me_p (me_s M1 1 1 0) 0 58) 1 53).1 58 4), (me_p (me_p (me_s M1 1 1 0) 0 58) 1 53)) else none) else none) else if (me_s M1 1 1 0).2.1 0 = 58 then (if (me_s M1 1 1 0).2.1 1 = 53 then (if (me_p (me_p (me_s M1 1 1 0) 0 53) 1 58).2.1 0 = 53 then some (((me_p (me_p (me_s M1 1 1 0) 0 53) 1 58).1 53 4), (me_p (me_p (me_s M1 1 1 0) 0 53) 1 58)) else if (me_p (me_p (me_s M1 1 1 0) 0 53) 1 58).2.1 0 = 58 then some (((me_p (me_p (me_s M1 1 1 0) 0 53) 1 58).1 58 4), (me_p (me_p (me_s M1 1 1 0) 0 53) 1 58)) else none) else if (me_s M1 1 1 0).2.1 1 = 58 then (if (me_p (me_p (me_s M1 1 1 0) 0 58) 1 58).2.1 0 = 53 then some (((me_p (me_p (me_s M1 1 1 0) 0 58) 1 58).1 53 4), (me_p (me_p (me_s M1 1 1 0) 0 58) 1 58)) else if (me_p (me_p (me_s M1 1 1 0) 0 58) 1 58).2.1 0 = 58 then some (((me_p (me_p (me_s M1 1 1 0) 0 58) 1 58).1 58 4), (me_p (me_p (me_s M1 1 1 0) 0 58) 1 58)) else none) else none) else none) else some ((((me_s M1 1 1 0).1 52 3) - 10), (me_s M1 1 1 0)))) else if M.2.1 1 = 58 then ((mX6_read_52_58 M p0).bind fun M2 => (if ((me_s M2 1 1 0).1 52 3) = 0 then (if (me_s M2 1 1 0).2.1 0 = 53 then (if (me_s M2 1 1 0).2.1 1 = 53 then (if (me_p (me_p (me_s M2 1 1 0) 0 53) 1 53).2.1 0 = 53 then some (((me_p (me_p (me_s M2 1 1 0) 0 53) 1 53).1 53 4), (me_p (me_p (me_s M2 1 1 0) 0 53) 1 53)) else if (me_p (me_p (me_s M2 1 1 0) 0 53) 1 53).2.1 0 = 58 then some (((me_p (me_p (me_s M2 1 1 0) 0 53) 1 53).1 58 4), (me_p (me_p (me_s M2 1 1 0) 0 53) 1 53)) else none) else if (me_s M2 1 1 0).2.1 1 = 58 then (if (me_p (me_p (me_s M2 1 1 0) 0 58) 1 53).2.1 0 = 53 then some (((me_p (me_p (me_s M2 1 1 0) 0 58) 1 53).1 53 4), (me_p (me_p (me_s M2 1 1 0) 0 58) 1 53)) else if (me_p (me_p (me_s M2 1 1 0) 0 58) 1 53).2.1 0 = 58 then some (((me_p (me_p (me_s M2 1 1 0) 0 58) 1 53).1 58 4), (me_p (me_p (me_s M2 1 1 0) 0 58) 1 53)) else none) else none) else if (me_s M2 1 1 0).2.1 0 = 58 then (if (me_s M2 1 1 0).2.1 1 = 53 then (if (me_p (me_p (me_s M2 1 1 0) 0 53) 1 58).2.1 0 = 53 then some (((me_p (me_p (me_s M2 1 1 0) 0 53) 1 58).1 53 4), (me_p (me_p (me_s M2 1 1 0) 0 53) 1 58)) else if (me_p (me_p (me_s M2 1 1 0) 0 53) 1 58).2.1 0 = 58 then some (((me_p (me_p (me_s M2 1 1 0) 0 53) 1 58).1 58 4), (me_p (me_p (me_s M2 1 1 0) 0 53) 1 58)) else none) else if (me_s M2 1 1 0).2.1 1 = 58 then (if (me_p (me_p (me_s M2 1 1 0) 0 58) 1 58).2.1 0 = 53 then some (((me_p (me_p (me_s M2 1 1 0) 0 58) 1 58).1 53 4), (me_p (me_p (me_s M2 1 1 0) 0 58) 1 58)) else if (me_p (me_p (me_s M2 1 1 0) 0 58) 1 58).2.1 0 = 58 then some (((me_p (me_p (me_s M2 1 1 0) 0 58) 1 58).1 58 4), (me_p (me_p (me_s M2 1 1 0) 0 58) 1 58)) else none) else none) else none) else some ((((me_s M2 1 1 0).1 52 3) - 10), (me_s M2 1 1 0)))) else none)))
set_option maxRecDepth 100000 in
set_option maxHeartbeats 4000000 in
theorem ctX11_scheme_0 {l : Launch} {n nt : Nat} (hn : 63 ≤ n) (hnt : 1 ≤ nt) {M : me_M} {p0 : Int32} {r : Int32} {M' : me_M} (h : mX11_scheme_0 M p0 = some (r, M')) : me_Ct l yX11_scheme cX11_scheme 3 (some .int) 6 n nt (fun ad => [.ref (ad 0), .int p0]) M (fun _ => some (.int r)) M' := by
  unfold mX11_scheme_0 at h
  refine me_enter (N0 := 63) RX11 rfl (plainFor_of_name pl_RX11) hn (Nat.le_trans (by decide) hnt) (fun _ => Nat.le_of_ble_eq_true rfl) ?_
  intro p e R s m args below meth c D cA ad tys A X hr hlk
  refine me_sub (L' := [(0, .ref (ad 0)), (1, .int p0)]) [0, 1] rfl ?_
  refine me_aload_n X (i := 0) 0 rfl dX11_scheme_0 ?_
  refine me_aload_n X (i := 0) 0 rfl dX11_scheme_1 ?_
  refine me_getr X 1 kF_X11_10 (Nat.le_of_ble_eq_true rfl) me_k0 me_f0_0 dX11_scheme_2 ?_
  refine me_iload_n X (i := 1) 1 rfl dX11_scheme_5 ?_
  obtain ⟨v1, e1, h⟩ := me_bd h
  refine me_callVi X [.int p0] (ctX9_holds_1 hn (Nat.le_trans (by decide) hnt) e1) kV_X11_118 rfl rfl (Nat.le_of_ble_eq_true rfl) me_k1 (Nat.le_of_ble_eq_true rfl) (Nat.le_refl _) (Nat.le_of_ble_eq_true rfl) dX11_scheme_6 ?_
  obtain ⟨_, e2, h⟩ := me_bd h
  refine me_callVv X [.int v1] (ctX11_needArgument_0 hn (Nat.le_trans (by decide) hnt) e2) kV_X11_122 rfl rfl (Nat.le_of_ble_eq_true rfl) me_k0 (Nat.le_of_ble_eq_true rfl) (Nat.le_refl _) (Nat.le_of_ble_eq_true rfl) dX11_scheme_9 ?_
  refine me_aload_n X (i := 0) 0 rfl dX11_scheme_12 ?_
  refine me_getr X 52 kF_X11_90 (Nat.le_of_ble_eq_true rfl) me_k0 me_f0_9 dX11_scheme_13 ?_
  refine me_iload_n X (i := 1) 1 rfl dX11_scheme_16 ?_
  refine me_aload_n X (i := 0) 0 rfl dX11_scheme_17 ?_
  by_cases c1 : M.2.1 1 = 53
  · have h := me_ip c1 h
    refine me_getd1 X c1 kF_X11_101 (Nat.le_of_ble_eq_true rfl) me_k0 me_f0_11 dX11_scheme_18 ?_
    obtain ⟨M1, e3, h⟩ := me_bd h
    refine me_callVv X [.int p0, .ref (ad 53)] (ctX6_read_52_53 hn (Nat.le_trans (by decide) hnt) e3) kV_X11_141 rfl rfl (Nat.le_of_ble_eq_true rfl) me_k52 (Nat.le_of_ble_eq_true rfl) (Nat.le_refl _) (Nat.le_of_ble_eq_true rfl) dX11_scheme_21 ?_
    refine me_aload_n X (i := 0) 0 rfl dX11_scheme_24 ?_
    refine me_getr X 1 kF_X11_10 (Nat.le_of_ble_eq_true rfl) me_k0 me_f0_0 dX11_scheme_25 ?_
    refine me_iconst X dX11_scheme_28 ic_0 ?_
    refine me_puti X kG_X11_111 (Nat.le_of_ble_eq_true rfl) me_k1 me_f1_1 dX11_scheme_29 ?_
    refine me_aload_n X (i := 0) 0 rfl dX11_scheme_32 ?_
    refine me_getr X 52 kF_X11_90 (Nat.le_of_ble_eq_true rfl) me_k0 me_f0_9 dX11_scheme_33 ?_
    refine me_geti X kF_X11_145 (Nat.le_of_ble_eq_true rfl) me_k52 me_f52_3 dX11_scheme_36 ?_
    refine me_if_eq X 53 (by decide) dX11_scheme_39 (fun c2 => ?_) (fun c2 => ?_)
    · have h := me_ip c2 h
      refine me_aload_n X (i := 0) 0 rfl dX11_scheme_53 ?_
      by_cases c3 : (me_s M1 1 1 0).2.1 0 = 53
      · have h := me_ip c3 h
        refine me_getd0 X c3 kF_X11_97 (Nat.le_of_ble_eq_true rfl) me_k0 me_f0_10 dX11_scheme_54 ?_
        refine me_astore_n X (i := 2) [(2, .ref (ad 53)), (0, .ref (ad 0)), (1, .int p0)] (Nat.le_of_ble_eq_true rfl) rfl dX11_scheme_57 ?_
        refine me_aload_n X (i := 0) 1 rfl dX11_scheme_58 ?_
        refine me_aload_n X (i := 0) 1 rfl dX11_scheme_59 ?_
        by_cases c4 : (me_s M1 1 1 0).2.1 1 = 53
        · have h := me_ip c4 h
          refine me_getd1 X c4 kF_X11_101 (Nat.le_of_ble_eq_true rfl) me_k0 me_f0_11 dX11_scheme_60 ?_
          refine me_putp0 X kG_X11_97 (Nat.le_of_ble_eq_true rfl) me_k0 me_f0_10 dX11_scheme_63 ?_
          refine me_aload_n X (i := 0) 1 rfl dX11_scheme_66 ?_
          refine me_aload_n X (i := 2) 0 rfl dX11_scheme_67 ?_
          refine me_putp1 X kG_X11_101 (Nat.le_of_ble_eq_true rfl) me_k0 me_f0_11 dX11_scheme_68 ?_
          refine me_aload_n X (i := 0) 1 rfl dX11_scheme_71 ?_
          by_cases c5 : (me_p (me_p (me_s M1 1 1 0) 0 53) 1 53).2.1 0 = 53
          · have h := me_ip c5 h
            refine me_getd0 X c5 kF_X11_97 (Nat.le_of_ble_eq_true rfl) me_k0 me_f0_10 dX11_scheme_72 ?_
            refine me_geti X kF_X11_148 (Nat.le_of_ble_eq_true rfl) me_k53 me_f53_4 dX11_scheme_75 ?_
            obtain ⟨rfl, rfl⟩ := me_sp h
            exact me_iret X hr hlk dX11_scheme_78
          · have h := me_in c5 h
            by_cases c5b : (me_p (me_p (me_s M1 1 1 0) 0 53) 1 53).2.1 0 = 58
            · have h := me_ip c5b h
              refine me_getd0 X c5b kF_X11_97 (Nat.le_of_ble_eq_true rfl) me_k0 me_f0_10 dX11_scheme_72 ?_
              refine me_geti X kF_X11_148 (Nat.le_of_ble_eq_true rfl) me_k58 me_f58_4 dX11_scheme_75 ?_
              obtain ⟨rfl, rfl⟩ := me_sp h
              exact me_iret X hr hlk dX11_scheme_78
            · have h := me_in c5b h
              cases h
        · have h := me_in c4 h
          by_cases c4b : (me_s M1 1 1 0).2.1 1 = 58
          · have h := me_ip c4b h
            refine me_getd1 X c4b kF_X11_101 (Nat.le_of_ble_eq_true rfl) me_k0 me_f0_11 dX11_scheme_60 ?_
            refine me_putp0 X kG_X11_97 (Nat.le_of_ble_eq_true rfl) me_k0 me_f0_10 dX11_scheme_63 ?_
            refine me_aload_n X (i := 0) 1 rfl dX11_scheme_66 ?_
            refine me_aload_n X (i := 2) 0 rfl dX11_scheme_67 ?_
            refine me_putp1 X kG_X11_101 (Nat.le_of_ble_eq_true rfl) me_k0 me_f0_11 dX11_scheme_68 ?_
            refine me_aload_n X (i := 0) 1 rfl dX11_scheme_71 ?_
            by_cases c6 : (me_p (me_p (me_s M1 1 1 0) 0 58) 1 53).2.1 0 = 53
            · have h := me_ip c6 h
              refine me_getd0 X c6 kF_X11_97 (Nat.le_of_ble_eq_true rfl) me_k0 me_f0_10 dX11_scheme_72 ?_
              refine me_geti X kF_X11_148 (Nat.le_of_ble_eq_true rfl) me_k53 me_f53_4 dX11_scheme_75 ?_
              obtain ⟨rfl, rfl⟩ := me_sp h
              exact me_iret X hr hlk dX11_scheme_78
            · have h := me_in c6 h
              by_cases c6b : (me_p (me_p (me_s M1 1 1 0) 0 58) 1 53).2.1 0 = 58
              · have h := me_ip c6b h
                refine me_getd0 X c6b kF_X11_97 (Nat.le_of_ble_eq_true rfl) me_k0 me_f0_10 dX11_scheme_72 ?_
                refine me_geti X kF_X11_148 (Nat.le_of_ble_eq_true rfl) me_k58 me_f58_4 dX11_scheme_75 ?_
                obtain ⟨rfl, rfl⟩ := me_sp h
                exact me_iret X hr hlk dX11_scheme_78
              · have h := me_in c6b h
                cases h
          · have h := me_in c4b h
            cases h
      · have h := me_in c3 h
        by_cases c3b : (me_s M1 1 1 0).2.1 0 = 58
        · have h := me_ip c3b h
          refine me_getd0 X c3b kF_X11_97 (Nat.le_of_ble_eq_true rfl) me_k0 me_f0_10 dX11_scheme_54 ?_
          refine me_astore_n X (i := 2) [(2, .ref (ad 58)), (0, .ref (ad 0)), (1, .int p0)] (Nat.le_of_ble_eq_true rfl) rfl dX11_scheme_57 ?_
          refine me_aload_n X (i := 0) 1 rfl dX11_scheme_58 ?_
          refine me_aload_n X (i := 0) 1 rfl dX11_scheme_59 ?_
          by_cases c7 : (me_s M1 1 1 0).2.1 1 = 53
          · have h := me_ip c7 h
            refine me_getd1 X c7 kF_X11_101 (Nat.le_of_ble_eq_true rfl) me_k0 me_f0_11 dX11_scheme_60 ?_
            refine me_putp0 X kG_X11_97 (Nat.le_of_ble_eq_true rfl) me_k0 me_f0_10 dX11_scheme_63 ?_
            refine me_aload_n X (i := 0) 1 rfl dX11_scheme_66 ?_
            refine me_aload_n X (i := 2) 0 rfl dX11_scheme_67 ?_
            refine me_putp1 X kG_X11_101 (Nat.le_of_ble_eq_true rfl) me_k0 me_f0_11 dX11_scheme_68 ?_
            refine me_aload_n X (i := 0) 1 rfl dX11_scheme_71 ?_
            by_cases c8 : (me_p (me_p (me_s M1 1 1 0) 0 53) 1 58).2.1 0 = 53
            · have h := me_ip c8 h
              refine me_getd0 X c8 kF_X11_97 (Nat.le_of_ble_eq_true rfl) me_k0 me_f0_10 dX11_scheme_72 ?_
              refine me_geti X kF_X11_148 (Nat.le_of_ble_eq_true rfl) me_k53 me_f53_4 dX11_scheme_75 ?_
              obtain ⟨rfl, rfl⟩ := me_sp h
              exact me_iret X hr hlk dX11_scheme_78
            · have h := me_in c8 h
              by_cases c8b : (me_p (me_p (me_s M1 1 1 0) 0 53) 1 58).2.1 0 = 58
              · have h := me_ip c8b h
                refine me_getd0 X c8b kF_X11_97 (Nat.le_of_ble_eq_true rfl) me_k0 me_f0_10 dX11_scheme_72 ?_
                refine me_geti X kF_X11_148 (Nat.le_of_ble_eq_true rfl) me_k58 me_f58_4 dX11_scheme_75 ?_
                obtain ⟨rfl, rfl⟩ := me_sp h
                exact me_iret X hr hlk dX11_scheme_78
              · have h := me_in c8b h
                cases h
          · have h := me_in c7 h
            by_cases c7b : (me_s M1 1 1 0).2.1 1 = 58
            · have h := me_ip c7b h
              refine me_getd1 X c7b kF_X11_101 (Nat.le_of_ble_eq_true rfl) me_k0 me_f0_11 dX11_scheme_60 ?_
              refine me_putp0 X kG_X11_97 (Nat.le_of_ble_eq_true rfl) me_k0 me_f0_10 dX11_scheme_63 ?_
              refine me_aload_n X (i := 0) 1 rfl dX11_scheme_66 ?_
              refine me_aload_n X (i := 2) 0 rfl dX11_scheme_67 ?_
              refine me_putp1 X kG_X11_101 (Nat.le_of_ble_eq_true rfl) me_k0 me_f0_11 dX11_scheme_68 ?_
              refine me_aload_n X (i := 0) 1 rfl dX11_scheme_71 ?_
              by_cases c9 : (me_p (me_p (me_s M1 1 1 0) 0 58) 1 58).2.1 0 = 53
              · have h := me_ip c9 h
                refine me_getd0 X c9 kF_X11_97 (Nat.le_of_ble_eq_true rfl) me_k0 me_f0_10 dX11_scheme_72 ?_
                refine me_geti X kF_X11_148 (Nat.le_of_ble_eq_true rfl) me_k53 me_f53_4 dX11_scheme_75 ?_
                obtain ⟨rfl, rfl⟩ := me_sp h
                exact me_iret X hr hlk dX11_scheme_78
              · have h := me_in c9 h
                by_cases c9b : (me_p (me_p (me_s M1 1 1 0) 0 58) 1 58).2.1 0 = 58
                · have h := me_ip c9b h
                  refine me_getd0 X c9b kF_X11_97 (Nat.le_of_ble_eq_true rfl) me_k0 me_f0_10 dX11_scheme_72 ?_
                  refine me_geti X kF_X11_148 (Nat.le_of_ble_eq_true rfl) me_k58 me_f58_4 dX11_scheme_75 ?_
                  obtain ⟨rfl, rfl⟩ := me_sp h
                  exact me_iret X hr hlk dX11_scheme_78
                · have h := me_in c9b h
                  cases h
            · have h := me_in c7b h
              cases h
        · have h := me_in c3b h
          cases h
    · have h := me_in c2 h
      refine me_aload_n X (i := 0) 0 rfl dX11_scheme_42 ?_
      refine me_getr X 52 kF_X11_90 (Nat.le_of_ble_eq_true rfl) me_k0 me_f0_9 dX11_scheme_43 ?_
      refine me_geti X kF_X11_145 (Nat.le_of_ble_eq_true rfl) me_k52 me_f52_3 dX11_scheme_46 ?_
      refine me_bipush X dX11_scheme_49 ib_10 ?_
      refine me_isub X dX11_scheme_51 ?_
      obtain ⟨rfl, rfl⟩ := me_sp h
      exact me_iret X hr hlk dX11_scheme_52
  · have h := me_in c1 h
    by_cases c1b : M.2.1 1 = 58
    · have h := me_ip c1b h
      refine me_getd1 X c1b kF_X11_101 (Nat.le_of_ble_eq_true rfl) me_k0 me_f0_11 dX11_scheme_18 ?_
      obtain ⟨M2, e4, h⟩ := me_bd h
      refine me_callVv X [.int p0, .ref (ad 58)] (ctX6_read_52_58 hn (Nat.le_trans (by decide) hnt) e4) kV_X11_141 rfl rfl (Nat.le_of_ble_eq_true rfl) me_k52 (Nat.le_of_ble_eq_true rfl) (Nat.le_refl _) (Nat.le_of_ble_eq_true rfl) dX11_scheme_21 ?_
      refine me_aload_n X (i := 0) 0 rfl dX11_scheme_24 ?_
      refine me_getr X 1 kF_X11_10 (Nat.le_of_ble_eq_true rfl) me_k0 me_f0_0 dX11_scheme_25 ?_
      refine me_iconst X dX11_scheme_28 ic_0 ?_
      refine me_puti X kG_X11_111 (Nat.le_of_ble_eq_true rfl) me_k1 me_f1_1 dX11_scheme_29 ?_
      refine me_aload_n X (i := 0) 0 rfl dX11_scheme_32 ?_
      refine me_getr X 52 kF_X11_90 (Nat.le_of_ble_eq_true rfl) me_k0 me_f0_9 dX11_scheme_33 ?_
      refine me_geti X kF_X11_145 (Nat.le_of_ble_eq_true rfl) me_k52 me_f52_3 dX11_scheme_36 ?_
      refine me_if_eq X 53 (by decide) dX11_scheme_39 (fun c10 => ?_) (fun c10 => ?_)
      · have h := me_ip c10 h
        refine me_aload_n X (i := 0) 0 rfl dX11_scheme_53 ?_
        by_cases c11 : (me_s M2 1 1 0).2.1 0 = 53
        · have h := me_ip c11 h
          refine me_getd0 X c11 kF_X11_97 (Nat.le_of_ble_eq_true rfl) me_k0 me_f0_10 dX11_scheme_54 ?_
          refine me_astore_n X (i := 2) [(2, .ref (ad 53)), (0, .ref (ad 0)), (1, .int p0)] (Nat.le_of_ble_eq_true rfl) rfl dX11_scheme_57 ?_
          refine me_aload_n X (i := 0) 1 rfl dX11_scheme_58 ?_
          refine me_aload_n X (i := 0) 1 rfl dX11_scheme_59 ?_
          by_cases c12 : (me_s M2 1 1 0).2.1 1 = 53
          · have h := me_ip c12 h
            refine me_getd1 X c12 kF_X11_101 (Nat.le_of_ble_eq_true rfl) me_k0 me_f0_11 dX11_scheme_60 ?_
            refine me_putp0 X kG_X11_97 (Nat.le_of_ble_eq_true rfl) me_k0 me_f0_10 dX11_scheme_63 ?_
            refine me_aload_n X (i := 0) 1 rfl dX11_scheme_66 ?_
            refine me_aload_n X (i := 2) 0 rfl dX11_scheme_67 ?_
            refine me_putp1 X kG_X11_101 (Nat.le_of_ble_eq_true rfl) me_k0 me_f0_11 dX11_scheme_68 ?_
            refine me_aload_n X (i := 0) 1 rfl dX11_scheme_71 ?_
            by_cases c13 : (me_p (me_p (me_s M2 1 1 0) 0 53) 1 53).2.1 0 = 53
            · have h := me_ip c13 h
              refine me_getd0 X c13 kF_X11_97 (Nat.le_of_ble_eq_true rfl) me_k0 me_f0_10 dX11_scheme_72 ?_
              refine me_geti X kF_X11_148 (Nat.le_of_ble_eq_true rfl) me_k53 me_f53_4 dX11_scheme_75 ?_
              obtain ⟨rfl, rfl⟩ := me_sp h
              exact me_iret X hr hlk dX11_scheme_78
            · have h := me_in c13 h
              by_cases c13b : (me_p (me_p (me_s M2 1 1 0) 0 53) 1 53).2.1 0 = 58
              · have h := me_ip c13b h
                refine me_getd0 X c13b kF_X11_97 (Nat.le_of_ble_eq_true rfl) me_k0 me_f0_10 dX11_scheme_72 ?_
                refine me_geti X kF_X11_148 (Nat.le_of_ble_eq_true rfl) me_k58 me_f58_4 dX11_scheme_75 ?_
                obtain ⟨rfl, rfl⟩ := me_sp h
                exact me_iret X hr hlk dX11_scheme_78
              · have h := me_in c13b h
                cases h
          · have h := me_in c12 h
            by_cases c12b : (me_s M2 1 1 0).2.1 1 = 58
            · have h := me_ip c12b h
              refine me_getd1 X c12b kF_X11_101 (Nat.le_of_ble_eq_true rfl) me_k0 me_f0_11 dX11_scheme_60 ?_
              refine me_putp0 X kG_X11_97 (Nat.le_of_ble_eq_true rfl) me_k0 me_f0_10 dX11_scheme_63 ?_
              refine me_aload_n X (i := 0) 1 rfl dX11_scheme_66 ?_
              refine me_aload_n X (i := 2) 0 rfl dX11_scheme_67 ?_
              refine me_putp1 X kG_X11_101 (Nat.le_of_ble_eq_true rfl) me_k0 me_f0_11 dX11_scheme_68 ?_
              refine me_aload_n X (i := 0) 1 rfl dX11_scheme_71 ?_
              by_cases c14 : (me_p (me_p (me_s M2 1 1 0) 0 58) 1 53).2.1 0 = 53
              · have h := me_ip c14 h
                refine me_getd0 X c14 kF_X11_97 (Nat.le_of_ble_eq_true rfl) me_k0 me_f0_10 dX11_scheme_72 ?_
                refine me_geti X kF_X11_148 (Nat.le_of_ble_eq_true rfl) me_k53 me_f53_4 dX11_scheme_75 ?_
                obtain ⟨rfl, rfl⟩ := me_sp h
                exact me_iret X hr hlk dX11_scheme_78
              · have h := me_in c14 h
                by_cases c14b : (me_p (me_p (me_s M2 1 1 0) 0 58) 1 53).2.1 0 = 58
                · have h := me_ip c14b h
                  refine me_getd0 X c14b kF_X11_97 (Nat.le_of_ble_eq_true rfl) me_k0 me_f0_10 dX11_scheme_72 ?_
                  refine me_geti X kF_X11_148 (Nat.le_of_ble_eq_true rfl) me_k58 me_f58_4 dX11_scheme_75 ?_
                  obtain ⟨rfl, rfl⟩ := me_sp h
                  exact me_iret X hr hlk dX11_scheme_78
                · have h := me_in c14b h
                  cases h
            · have h := me_in c12b h
              cases h
        · have h := me_in c11 h
          by_cases c11b : (me_s M2 1 1 0).2.1 0 = 58
          · have h := me_ip c11b h
            refine me_getd0 X c11b kF_X11_97 (Nat.le_of_ble_eq_true rfl) me_k0 me_f0_10 dX11_scheme_54 ?_
            refine me_astore_n X (i := 2) [(2, .ref (ad 58)), (0, .ref (ad 0)), (1, .int p0)] (Nat.le_of_ble_eq_true rfl) rfl dX11_scheme_57 ?_
            refine me_aload_n X (i := 0) 1 rfl dX11_scheme_58 ?_
            refine me_aload_n X (i := 0) 1 rfl dX11_scheme_59 ?_
            by_cases c15 : (me_s M2 1 1 0).2.1 1 = 53
            · have h := me_ip c15 h
              refine me_getd1 X c15 kF_X11_101 (Nat.le_of_ble_eq_true rfl) me_k0 me_f0_11 dX11_scheme_60 ?_
              refine me_putp0 X kG_X11_97 (Nat.le_of_ble_eq_true rfl) me_k0 me_f0_10 dX11_scheme_63 ?_
              refine me_aload_n X (i := 0) 1 rfl dX11_scheme_66 ?_
              refine me_aload_n X (i := 2) 0 rfl dX11_scheme_67 ?_
              refine me_putp1 X kG_X11_101 (Nat.le_of_ble_eq_true rfl) me_k0 me_f0_11 dX11_scheme_68 ?_
              refine me_aload_n X (i := 0) 1 rfl dX11_scheme_71 ?_
              by_cases c16 : (me_p (me_p (me_s M2 1 1 0) 0 53) 1 58).2.1 0 = 53
              · have h := me_ip c16 h
                refine me_getd0 X c16 kF_X11_97 (Nat.le_of_ble_eq_true rfl) me_k0 me_f0_10 dX11_scheme_72 ?_
                refine me_geti X kF_X11_148 (Nat.le_of_ble_eq_true rfl) me_k53 me_f53_4 dX11_scheme_75 ?_
                obtain ⟨rfl, rfl⟩ := me_sp h
                exact me_iret X hr hlk dX11_scheme_78
              · have h := me_in c16 h
                by_cases c16b : (me_p (me_p (me_s M2 1 1 0) 0 53) 1 58).2.1 0 = 58
                · have h := me_ip c16b h
                  refine me_getd0 X c16b kF_X11_97 (Nat.le_of_ble_eq_true rfl) me_k0 me_f0_10 dX11_scheme_72 ?_
                  refine me_geti X kF_X11_148 (Nat.le_of_ble_eq_true rfl) me_k58 me_f58_4 dX11_scheme_75 ?_
                  obtain ⟨rfl, rfl⟩ := me_sp h
                  exact me_iret X hr hlk dX11_scheme_78
                · have h := me_in c16b h
                  cases h
            · have h := me_in c15 h
              by_cases c15b : (me_s M2 1 1 0).2.1 1 = 58
              · have h := me_ip c15b h
                refine me_getd1 X c15b kF_X11_101 (Nat.le_of_ble_eq_true rfl) me_k0 me_f0_11 dX11_scheme_60 ?_
                refine me_putp0 X kG_X11_97 (Nat.le_of_ble_eq_true rfl) me_k0 me_f0_10 dX11_scheme_63 ?_
                refine me_aload_n X (i := 0) 1 rfl dX11_scheme_66 ?_
                refine me_aload_n X (i := 2) 0 rfl dX11_scheme_67 ?_
                refine me_putp1 X kG_X11_101 (Nat.le_of_ble_eq_true rfl) me_k0 me_f0_11 dX11_scheme_68 ?_
                refine me_aload_n X (i := 0) 1 rfl dX11_scheme_71 ?_
                by_cases c17 : (me_p (me_p (me_s M2 1 1 0) 0 58) 1 58).2.1 0 = 53
                · have h := me_ip c17 h
                  refine me_getd0 X c17 kF_X11_97 (Nat.le_of_ble_eq_true rfl) me_k0 me_f0_10 dX11_scheme_72 ?_
                  refine me_geti X kF_X11_148 (Nat.le_of_ble_eq_true rfl) me_k53 me_f53_4 dX11_scheme_75 ?_
                  obtain ⟨rfl, rfl⟩ := me_sp h
                  exact me_iret X hr hlk dX11_scheme_78
                · have h := me_in c17 h
                  by_cases c17b : (me_p (me_p (me_s M2 1 1 0) 0 58) 1 58).2.1 0 = 58
                  · have h := me_ip c17b h
                    refine me_getd0 X c17b kF_X11_97 (Nat.le_of_ble_eq_true rfl) me_k0 me_f0_10 dX11_scheme_72 ?_
                    refine me_geti X kF_X11_148 (Nat.le_of_ble_eq_true rfl) me_k58 me_f58_4 dX11_scheme_75 ?_
                    obtain ⟨rfl, rfl⟩ := me_sp h
                    exact me_iret X hr hlk dX11_scheme_78
                  · have h := me_in c17b h
                    cases h
              · have h := me_in c15b h
                cases h
          · have h := me_in c11b h
            cases h
      · have h := me_in c10 h
        refine me_aload_n X (i := 0) 0 rfl dX11_scheme_42 ?_
        refine me_getr X 52 kF_X11_90 (Nat.le_of_ble_eq_true rfl) me_k0 me_f0_9 dX11_scheme_43 ?_
        refine me_geti X kF_X11_145 (Nat.le_of_ble_eq_true rfl) me_k52 me_f52_3 dX11_scheme_46 ?_
        refine me_bipush X dX11_scheme_49 ib_10 ?_
        refine me_isub X dX11_scheme_51 ?_
        obtain ⟨rfl, rfl⟩ := me_sp h
        exact me_iret X hr hlk dX11_scheme_52
    · have h := me_in c1b h
      cases h
def mX11_step_0_J17 (p0 : Int32) (M : me_M) (s1 : Int32) : Option (Int32 × me_M) :=
  ((mX11_needArgument_0 s1).bind fun _ => some ((M.1 0 12), (me_s M 0 12 p0)))
def mX11_step_0_J16 (p0 : Int32) (M : me_M)  : Option (Int32 × me_M) :=
  (mX11_step_0_J17 p0 M 0)
def mX11_step_0 (M : me_M) (p0 : Int32) : Option (Int32 × me_M) :=
  (if p0 < 1 then (mX11_step_0_J16 p0 M ) else (if 16 < p0 then (mX11_step_0_J16 p0 M ) else (mX11_step_0_J17 p0 M 1)))
set_option maxRecDepth 100000 in
set_option maxHeartbeats 4000000 in
theorem ctX11_step_0 {l : Launch} {n nt : Nat} (hn : 63 ≤ n) (hnt : 1 ≤ nt) {M : me_M} {p0 : Int32} {r : Int32} {M' : me_M} (h : mX11_step_0 M p0 = some (r, M')) : me_Ct l yX11_step cX11_step 3 (some .int) 1 n nt (fun ad => [.ref (ad 0), .int p0]) M (fun _ => some (.int r)) M' := by
  unfold mX11_step_0 at h
  refine me_enter (N0 := 63) RX11 rfl (plainFor_of_name pl_RX11) hn (Nat.le_trans (by decide) hnt) (fun _ => Nat.le_of_ble_eq_true rfl) ?_
  intro p e R s m args below meth c D cA ad tys A X hr hlk
  refine me_sub (L' := [(0, .ref (ad 0)), (1, .int p0)]) [0, 1] rfl ?_
  refine me_aload_n X (i := 0) 0 rfl dX11_step_0 ?_
  refine me_iload_n X (i := 1) 1 rfl dX11_step_1 ?_
  refine me_iconst X dX11_step_2 ic_1 ?_
  have hj17_2 : ∀ (s1 : Int32), mX11_step_0_J17 p0 M s1 = some (r, M') → me_W p l e R s m args below meth c 0 0 (MQ below (me_Qc D cA ad n A (some (.int r)) M') args s 0 0 A) D cA ad n 3 A 17 [(0, .ref (ad 0)), (1, .int p0)] [.int s1, .ref (ad 0)] M := by
    intro s1 h
    unfold mX11_step_0_J17 at h
    obtain ⟨_, e1, h⟩ := me_bd h
    refine me_callVv X [.int s1] (ctX11_needArgument_0 hn (Nat.le_trans (by decide) hnt) e1) kV_X11_122 rfl rfl (Nat.le_of_ble_eq_true rfl) me_k0 (Nat.le_of_ble_eq_true rfl) (Nat.le_refl _) (Nat.le_of_ble_eq_true rfl) dX11_step_17 ?_
    refine me_aload_n X (i := 0) 0 rfl dX11_step_20 ?_
    refine me_geti X kF_X11_104 (Nat.le_of_ble_eq_true rfl) me_k0 me_f0_12 dX11_step_21 ?_
    refine me_istore_n X (i := 2) [(2, .int (M.1 0 12)), (0, .ref (ad 0)), (1, .int p0)] (Nat.le_of_ble_eq_true rfl) rfl dX11_step_24 ?_
    refine me_aload_n X (i := 0) 1 rfl dX11_step_25 ?_
    refine me_iload_n X (i := 1) 2 rfl dX11_step_26 ?_
    refine me_puti X kG_X11_104 (Nat.le_of_ble_eq_true rfl) me_k0 me_f0_12 dX11_step_27 ?_
    refine me_iload_n X (i := 2) 0 rfl dX11_step_30 ?_
    obtain ⟨rfl, rfl⟩ := me_sp h
    exact me_iret X hr hlk dX11_step_31
  have hj16_1 : mX11_step_0_J16 p0 M  = some (r, M') → me_W p l e R s m args below meth c 0 0 (MQ below (me_Qc D cA ad n A (some (.int r)) M') args s 0 0 A) D cA ad n 3 A 16 [(0, .ref (ad 0)), (1, .int p0)] [.ref (ad 0)] M := by
    intro h
    unfold mX11_step_0_J16 at h
    refine me_iconst X dX11_step_16 ic_0 ?_
    exact hj17_2 0 h
  refine me_icmp_lt X 16 (by decide) dX11_step_3 (fun c1 => ?_) (fun c1 => ?_)
  · have h := me_ip c1 h
    exact hj16_1  h
  · have h := me_in c1 h
    refine me_iload_n X (i := 1) 1 rfl dX11_step_6 ?_
    refine me_bipush X dX11_step_7 ib_16 ?_
    refine me_icmp_gt X 16 (by decide) dX11_step_9 (fun c2 => ?_) (fun c2 => ?_)
    · have h := me_ip c2 h
      exact hj16_1  h
    · have h := me_in c2 h
      refine me_iconst X dX11_step_12 ic_1 ?_
      refine me_goto X 17 (by decide) dX11_step_13 ?_
      exact hj17_2 1 h
def mX11_needState_0 (p0 : Int32) : Option Unit :=
  (if p0 = 0 then none else some ())
set_option maxRecDepth 100000 in
set_option maxHeartbeats 4000000 in
theorem ctX11_needState_0 {l : Launch} {n nt : Nat} (hn : 63 ≤ n) (hnt : 1 ≤ nt) {M : me_M} {p0 : Int32} (h : mX11_needState_0 p0 = some ()) : me_Ct l yX11_needState cX11_needState 2 none 0 n nt (fun ad => [.ref (ad 0), .int p0]) M (fun _ => none) M := by
  unfold mX11_needState_0 at h
  refine me_enter (N0 := 63) RX11 rfl (plainFor_of_name pl_RX11) hn (Nat.le_trans (by decide) hnt) (fun _ => Nat.le_of_ble_eq_true rfl) ?_
  intro p e R s m args below meth c D cA ad tys A X hr hlk
  refine me_sub (L' := [(0, .ref (ad 0)), (1, .int p0)]) [0, 1] rfl ?_
  refine me_iload_n X (i := 1) 1 rfl dX11_needState_0 ?_
  refine me_if_ne X 25 (by decide) dX11_needState_1 (fun c1 => ?_) (fun c1 => ?_)
  · have h := me_in c1 h
    exact me_vret X hr hlk dX11_needState_25
  · have h := me_ip c1 h
    cases h
def mX11_grow_0_J42 (p0 : Int32) (p1 : Int32) (M : me_M) (s2 : Int32) : Option (Int32 × me_M) :=
  ((mX11_needState_0 s2).bind fun _ => ((mX0_push_19 M (p0 - 97) p1).bind fun (v5, M1) => some (v5, M1)))
def mX11_grow_0_J21 (p0 : Int32) (p1 : Int32) (M : me_M) (s1 : Int32) : Option (Int32 × me_M) :=
  ((mX11_needArgument_0 s1).bind fun _ => (if 40 ≤ (M.1 19 4) then (mX11_grow_0_J42 p0 p1 M 0) else (mX11_grow_0_J42 p0 p1 M 1)))
def mX11_grow_0_J20 (p0 : Int32) (p1 : Int32) (M : me_M)  : Option (Int32 × me_M) :=
  (mX11_grow_0_J21 p0 p1 M 0)
def mX11_grow_0 (M : me_M) (p0 : Int32) (p1 : Int32) : Option (Int32 × me_M) :=
  ((mX11_isLetter p0).bind fun v1 => (if v1 = 0 then (mX11_grow_0_J20 p0 p1 M ) else ((mX11_isWhat p1 1).bind fun v2 => (if v2 = 0 then (mX11_grow_0_J20 p0 p1 M ) else (mX11_grow_0_J21 p0 p1 M 1)))))
set_option maxRecDepth 100000 in
set_option maxHeartbeats 4000000 in
theorem ctX11_grow_0 {l : Launch} {n nt : Nat} (hn : 63 ≤ n) (hnt : 1 ≤ nt) {M : me_M} {p0 : Int32} {p1 : Int32} {r : Int32} {M' : me_M} (h : mX11_grow_0 M p0 p1 = some (r, M')) : me_Ct l yX11_grow cX11_grow 3 (some .int) 5 n nt (fun ad => [.ref (ad 0), .int p0, .int p1]) M (fun _ => some (.int r)) M' := by
  unfold mX11_grow_0 at h
  refine me_enter (N0 := 63) RX11 rfl (plainFor_of_name pl_RX11) hn (Nat.le_trans (by decide) hnt) (fun _ => Nat.le_of_ble_eq_true rfl) ?_
  intro p e R s m args below meth c D cA ad tys A X hr hlk
  refine me_sub (L' := [(0, .ref (ad 0)), (1, .int p0), (2, .int p1)]) [0, 1, 2] rfl ?_
  refine me_aload_n X (i := 0) 0 rfl dX11_grow_0 ?_
  refine me_iload_n X (i := 1) 1 rfl dX11_grow_1 ?_
  obtain ⟨v1, e1, h⟩ := me_bd h
  refine me_callSi X [.int p0] (ctX11_isLetter hn (Nat.le_trans (by decide) hnt) e1) kS_X11_154 rfl rfl (Nat.le_of_ble_eq_true rfl) (Nat.le_refl _) (Nat.le_of_ble_eq_true rfl) dX11_grow_2 ?_
  have hj21_2 : ∀ (s1 : Int32), mX11_grow_0_J21 p0 p1 M s1 = some (r, M') → me_W p l e R s m args below meth c 0 0 (MQ below (me_Qc D cA ad n A (some (.int r)) M') args s 0 0 A) D cA ad n 3 A 21 [(0, .ref (ad 0)), (1, .int p0), (2, .int p1)] [.int s1, .ref (ad 0)] M := by
    intro s1 h
    unfold mX11_grow_0_J21 at h
    obtain ⟨_, e3, h⟩ := me_bd h
    refine me_callVv X [.int s1] (ctX11_needArgument_0 hn (Nat.le_trans (by decide) hnt) e3) kV_X11_122 rfl rfl (Nat.le_of_ble_eq_true rfl) me_k0 (Nat.le_of_ble_eq_true rfl) (Nat.le_refl _) (Nat.le_of_ble_eq_true rfl) dX11_grow_21 ?_
    refine me_aload_n X (i := 0) 0 rfl dX11_grow_24 ?_
    refine me_aload_n X (i := 0) 0 rfl dX11_grow_25 ?_
    refine me_getr X 19 kF_X11_47 (Nat.le_of_ble_eq_true rfl) me_k0 me_f0_4 dX11_grow_26 ?_
    refine me_geti X kF_X11_161 (Nat.le_of_ble_eq_true rfl) me_k19 me_f19_4 dX11_grow_29 ?_
    refine me_bipush X dX11_grow_32 ib_40 ?_
    have hj42_3 : ∀ (s2 : Int32), mX11_grow_0_J42 p0 p1 M s2 = some (r, M') → me_W p l e R s m args below meth c 0 0 (MQ below (me_Qc D cA ad n A (some (.int r)) M') args s 0 0 A) D cA ad n 3 A 42 [(0, .ref (ad 0)), (1, .int p0), (2, .int p1)] [.int s2, .ref (ad 0)] M := by
      intro s2 h
      unfold mX11_grow_0_J42 at h
      obtain ⟨_, e4, h⟩ := me_bd h
      refine me_callVv X [.int s2] (ctX11_needState_0 hn (Nat.le_trans (by decide) hnt) e4) kV_X11_162 rfl rfl (Nat.le_of_ble_eq_true rfl) me_k0 (Nat.le_of_ble_eq_true rfl) (Nat.le_refl _) (Nat.le_of_ble_eq_true rfl) dX11_grow_42 ?_
      refine me_aload_n X (i := 0) 0 rfl dX11_grow_45 ?_
      refine me_getr X 19 kF_X11_47 (Nat.le_of_ble_eq_true rfl) me_k0 me_f0_4 dX11_grow_46 ?_
      refine me_iload_n X (i := 1) 1 rfl dX11_grow_49 ?_
      refine me_bipush X dX11_grow_50 ib_97 ?_
      refine me_isub X dX11_grow_52 ?_
      refine me_iload_n X (i := 2) 2 rfl dX11_grow_53 ?_
      obtain ⟨⟨v5, M1⟩, e5, h⟩ := me_bd h
      refine me_callVi X [.int (p0 - 97), .int p1] (ctX0_push_19 hn (Nat.le_trans (by decide) hnt) e5) kV_X11_165 rfl rfl (Nat.le_of_ble_eq_true rfl) me_k19 (Nat.le_of_ble_eq_true rfl) (Nat.le_refl _) (Nat.le_of_ble_eq_true rfl) dX11_grow_54 ?_
      obtain ⟨rfl, rfl⟩ := me_sp h
      exact me_iret X hr hlk dX11_grow_57
    refine me_icmp_ge X 41 (by decide) dX11_grow_34 (fun c3 => ?_) (fun c3 => ?_)
    · have h := me_ip c3 h
      refine me_iconst X dX11_grow_41 ic_0 ?_
      exact hj42_3 0 h
    · have h := me_in c3 h
      refine me_iconst X dX11_grow_37 ic_1 ?_
      refine me_goto X 42 (by decide) dX11_grow_38 ?_
      exact hj42_3 1 h
  have hj20_1 : mX11_grow_0_J20 p0 p1 M  = some (r, M') → me_W p l e R s m args below meth c 0 0 (MQ below (me_Qc D cA ad n A (some (.int r)) M') args s 0 0 A) D cA ad n 3 A 20 [(0, .ref (ad 0)), (1, .int p0), (2, .int p1)] [.ref (ad 0)] M := by
    intro h
    unfold mX11_grow_0_J20 at h
    refine me_iconst X dX11_grow_20 ic_0 ?_
    exact hj21_2 0 h
  refine me_if_eq X 20 (by decide) dX11_grow_5 (fun c1 => ?_) (fun c1 => ?_)
  · have h := me_ip c1 h
    exact hj20_1  h
  · have h := me_in c1 h
    refine me_iload_n X (i := 2) 2 rfl dX11_grow_8 ?_
    refine me_iconst X dX11_grow_9 ic_1 ?_
    obtain ⟨v2, e2, h⟩ := me_bd h
    refine me_callSi X [.int p1, .int 1] (ctX11_isWhat hn (Nat.le_trans (by decide) hnt) e2) kS_X11_157 rfl rfl (Nat.le_of_ble_eq_true rfl) (Nat.le_refl _) (Nat.le_of_ble_eq_true rfl) dX11_grow_10 ?_
    refine me_if_eq X 20 (by decide) dX11_grow_13 (fun c2 => ?_) (fun c2 => ?_)
    · have h := me_ip c2 h
      exact hj20_1  h
    · have h := me_in c2 h
      refine me_iconst X dX11_grow_16 ic_1 ?_
      refine me_goto X 21 (by decide) dX11_grow_17 ?_
      exact hj21_2 1 h
def mX11_told_0 (M : me_M) (p0 : Int32) : Option Int32 :=
  ((mX11_isWhat p0 13).bind fun v1 => ((mX11_needArgument_0 v1).bind fun _ => (if p0 = 0 then some (M.1 3 5) else (if p0 = 1 then some (M.1 3 6) else (if p0 = 2 then ((mJ6_bitCount_0f7a4 (M.1 3 7)).bind fun v3 => some v3) else (if p0 = 3 then some (M.1 0 12) else (if p0 = 4 then some (M.1 19 4) else (if p0 = 5 then ((mX0_lowForth_19 M).bind fun v4 => some v4) else (if p0 = 6 then ((mX0_lowBack_19 M).bind fun v5 => some v5) else (if p0 = 7 then ((mX0_size_19 M).bind fun v6 => some v6) else (if p0 = 8 then ((me_dv (M.1 3 5) (M.1 0 12)).bind fun v7 => some (v7 + 1)) else (if p0 = 9 then (if M.2.1 0 = 53 then some (M.1 53 4) else if M.2.1 0 = 58 then some (M.1 58 4) else none) else (if p0 = 10 then (if M.2.1 0 = 53 then some (M.1 53 5) else if M.2.1 0 = 58 then some (M.1 58 5) else none) else (if p0 = 11 then (if M.2.1 0 = 53 then ((mX5_budget_53 M).bind fun v8 => some v8) else if M.2.1 0 = 58 then ((mX5_budget_58 M).bind fun v9 => some v9) else none) else (if p0 = 12 then some (M.1 1 1) else (if (M.1 47 4) = 0 then some (-1) else some (M.1 47 6)))))))))))))))))
set_option maxRecDepth 100000 in
set_option maxHeartbeats 4000000 in
theorem ctX11_told_0 {l : Launch} {n nt : Nat} (hn : 63 ≤ n) (hnt : 1 ≤ nt) {M : me_M} {p0 : Int32} {r : Int32} (h : mX11_told_0 M p0 = some r) : me_Ct l yX11_told cX11_told 2 (some .int) 2 n nt (fun ad => [.ref (ad 0), .int p0]) M (fun _ => some (.int r)) M := by
  unfold mX11_told_0 at h
  refine me_enter (N0 := 63) RX11 rfl (plainFor_of_name pl_RX11) hn (Nat.le_trans (by decide) hnt) (fun _ => Nat.le_of_ble_eq_true rfl) ?_
  intro p e R s m args below meth c D cA ad tys A X hr hlk
  refine me_sub (L' := [(0, .ref (ad 0)), (1, .int p0)]) [0, 1] rfl ?_
  refine me_aload_n X (i := 0) 0 rfl dX11_told_0 ?_
  refine me_iload_n X (i := 1) 1 rfl dX11_told_1 ?_
  refine me_bipush X dX11_told_2 ib_13 ?_
  obtain ⟨v1, e1, h⟩ := me_bd h
  refine me_callSi X [.int p0, .int 13] (ctX11_isWhat hn (Nat.le_trans (by decide) hnt) e1) kS_X11_157 rfl rfl (Nat.le_of_ble_eq_true rfl) (Nat.le_refl _) (Nat.le_of_ble_eq_true rfl) dX11_told_4 ?_
  obtain ⟨_, e2, h⟩ := me_bd h
  refine me_callVv X [.int v1] (ctX11_needArgument_0 hn (Nat.le_trans (by decide) hnt) e2) kV_X11_122 rfl rfl (Nat.le_of_ble_eq_true rfl) me_k0 (Nat.le_of_ble_eq_true rfl) (Nat.le_refl _) (Nat.le_of_ble_eq_true rfl) dX11_told_7 ?_
  refine me_iload_n X (i := 1) 1 rfl dX11_told_10 ?_
  by_cases c1 : p0 = 0
  · have h := me_ip c1 h
    refine me_tin X (off := 65) 76 (by rw [c1]; decide) (by rw [c1]; decide) (by rw [c1] <;> decide) (by decide) dX11_told_11 ?_
    refine me_aload_n X (i := 0) 0 rfl dX11_told_76 ?_
    refine me_getr X 3 kF_X11_19 (Nat.le_of_ble_eq_true rfl) me_k0 me_f0_1 dX11_told_77 ?_
    refine me_geti X kF_X11_176 (Nat.le_of_ble_eq_true rfl) me_k3 me_f3_5 dX11_told_80 ?_
    obtain rfl := me_so h
    exact me_iret X hr hlk dX11_told_83
  · have h := me_in c1 h
    by_cases c2 : p0 = 1
    · have h := me_ip c2 h
      refine me_tin X (off := 73) 84 (by rw [c2]; decide) (by rw [c2]; decide) (by rw [c2] <;> decide) (by decide) dX11_told_11 ?_
      refine me_aload_n X (i := 0) 0 rfl dX11_told_84 ?_
      refine me_getr X 3 kF_X11_19 (Nat.le_of_ble_eq_true rfl) me_k0 me_f0_1 dX11_told_85 ?_
      refine me_geti X kF_X11_177 (Nat.le_of_ble_eq_true rfl) me_k3 me_f3_6 dX11_told_88 ?_
      obtain rfl := me_so h
      exact me_iret X hr hlk dX11_told_91
    · have h := me_in c2 h
      by_cases c3 : p0 = 2
      · have h := me_ip c3 h
        refine me_tin X (off := 81) 92 (by rw [c3]; decide) (by rw [c3]; decide) (by rw [c3] <;> decide) (by decide) dX11_told_11 ?_
        refine me_aload_n X (i := 0) 0 rfl dX11_told_92 ?_
        refine me_getr X 3 kF_X11_19 (Nat.le_of_ble_eq_true rfl) me_k0 me_f0_1 dX11_told_93 ?_
        refine me_geti X kF_X11_180 (Nat.le_of_ble_eq_true rfl) me_k3 me_f3_7 dX11_told_96 ?_
        obtain ⟨v3, e3, h⟩ := me_bd h
        refine me_callSi X [.int (M.1 3 7)] (ctJ6_bitCount_0f7a4 hn (Nat.le_trans (by decide) hnt) e3) kS_X11_183 rfl rfl (Nat.le_of_ble_eq_true rfl) (Nat.le_refl _) (Nat.le_of_ble_eq_true rfl) dX11_told_99 ?_
        obtain rfl := me_so h
        exact me_iret X hr hlk dX11_told_102
      · have h := me_in c3 h
        by_cases c4 : p0 = 3
        · have h := me_ip c4 h
          refine me_tin X (off := 92) 103 (by rw [c4]; decide) (by rw [c4]; decide) (by rw [c4] <;> decide) (by decide) dX11_told_11 ?_
          refine me_aload_n X (i := 0) 0 rfl dX11_told_103 ?_
          refine me_geti X kF_X11_104 (Nat.le_of_ble_eq_true rfl) me_k0 me_f0_12 dX11_told_104 ?_
          obtain rfl := me_so h
          exact me_iret X hr hlk dX11_told_107
        · have h := me_in c4 h
          by_cases c5 : p0 = 4
          · have h := me_ip c5 h
            refine me_tin X (off := 97) 108 (by rw [c5]; decide) (by rw [c5]; decide) (by rw [c5] <;> decide) (by decide) dX11_told_11 ?_
            refine me_aload_n X (i := 0) 0 rfl dX11_told_108 ?_
            refine me_getr X 19 kF_X11_47 (Nat.le_of_ble_eq_true rfl) me_k0 me_f0_4 dX11_told_109 ?_
            refine me_geti X kF_X11_161 (Nat.le_of_ble_eq_true rfl) me_k19 me_f19_4 dX11_told_112 ?_
            obtain rfl := me_so h
            exact me_iret X hr hlk dX11_told_115
          · have h := me_in c5 h
            by_cases c6 : p0 = 5
            · have h := me_ip c6 h
              refine me_tin X (off := 105) 116 (by rw [c6]; decide) (by rw [c6]; decide) (by rw [c6] <;> decide) (by decide) dX11_told_11 ?_
              refine me_aload_n X (i := 0) 0 rfl dX11_told_116 ?_
              refine me_getr X 19 kF_X11_47 (Nat.le_of_ble_eq_true rfl) me_k0 me_f0_4 dX11_told_117 ?_
              obtain ⟨v4, e4, h⟩ := me_bd h
              refine me_callVi X [] (ctX0_lowForth_19 hn (Nat.le_trans (by decide) hnt) e4) kV_X11_188 rfl rfl (Nat.le_of_ble_eq_true rfl) me_k19 (Nat.le_of_ble_eq_true rfl) (Nat.le_refl _) (Nat.le_of_ble_eq_true rfl) dX11_told_120 ?_
              obtain rfl := me_so h
              exact me_iret X hr hlk dX11_told_123
            · have h := me_in c6 h
              by_cases c7 : p0 = 6
              · have h := me_ip c7 h
                refine me_tin X (off := 113) 124 (by rw [c7]; decide) (by rw [c7]; decide) (by rw [c7] <;> decide) (by decide) dX11_told_11 ?_
                refine me_aload_n X (i := 0) 0 rfl dX11_told_124 ?_
                refine me_getr X 19 kF_X11_47 (Nat.le_of_ble_eq_true rfl) me_k0 me_f0_4 dX11_told_125 ?_
                obtain ⟨v5, e5, h⟩ := me_bd h
                refine me_callVi X [] (ctX0_lowBack_19 hn (Nat.le_trans (by decide) hnt) e5) kV_X11_191 rfl rfl (Nat.le_of_ble_eq_true rfl) me_k19 (Nat.le_of_ble_eq_true rfl) (Nat.le_refl _) (Nat.le_of_ble_eq_true rfl) dX11_told_128 ?_
                obtain rfl := me_so h
                exact me_iret X hr hlk dX11_told_131
              · have h := me_in c7 h
                by_cases c8 : p0 = 7
                · have h := me_ip c8 h
                  refine me_tin X (off := 121) 132 (by rw [c8]; decide) (by rw [c8]; decide) (by rw [c8] <;> decide) (by decide) dX11_told_11 ?_
                  refine me_aload_n X (i := 0) 0 rfl dX11_told_132 ?_
                  refine me_getr X 19 kF_X11_47 (Nat.le_of_ble_eq_true rfl) me_k0 me_f0_4 dX11_told_133 ?_
                  obtain ⟨v6, e6, h⟩ := me_bd h
                  refine me_callVi X [] (ctX0_size_19 hn (Nat.le_trans (by decide) hnt) e6) kV_X11_194 rfl rfl (Nat.le_of_ble_eq_true rfl) me_k19 (Nat.le_of_ble_eq_true rfl) (Nat.le_refl _) (Nat.le_of_ble_eq_true rfl) dX11_told_136 ?_
                  obtain rfl := me_so h
                  exact me_iret X hr hlk dX11_told_139
                · have h := me_in c8 h
                  by_cases c9 : p0 = 8
                  · have h := me_ip c9 h
                    refine me_tin X (off := 129) 140 (by rw [c9]; decide) (by rw [c9]; decide) (by rw [c9] <;> decide) (by decide) dX11_told_11 ?_
                    refine me_aload_n X (i := 0) 0 rfl dX11_told_140 ?_
                    refine me_getr X 3 kF_X11_19 (Nat.le_of_ble_eq_true rfl) me_k0 me_f0_1 dX11_told_141 ?_
                    refine me_geti X kF_X11_176 (Nat.le_of_ble_eq_true rfl) me_k3 me_f3_5 dX11_told_144 ?_
                    refine me_aload_n X (i := 0) 0 rfl dX11_told_147 ?_
                    refine me_geti X kF_X11_104 (Nat.le_of_ble_eq_true rfl) me_k0 me_f0_12 dX11_told_148 ?_
                    obtain ⟨v7, e7, h⟩ := me_bd h
                    refine me_idiv X e7 dX11_told_151 ?_
                    refine me_iconst X dX11_told_152 ic_1 ?_
                    refine me_iadd X dX11_told_153 ?_
                    obtain rfl := me_so h
                    exact me_iret X hr hlk dX11_told_154
                  · have h := me_in c9 h
                    by_cases c10 : p0 = 9
                    · have h := me_ip c10 h
                      refine me_tin X (off := 144) 155 (by rw [c10]; decide) (by rw [c10]; decide) (by rw [c10] <;> decide) (by decide) dX11_told_11 ?_
                      refine me_aload_n X (i := 0) 0 rfl dX11_told_155 ?_
                      by_cases c11 : M.2.1 0 = 53
                      · have h := me_ip c11 h
                        refine me_getd0 X c11 kF_X11_97 (Nat.le_of_ble_eq_true rfl) me_k0 me_f0_10 dX11_told_156 ?_
                        refine me_geti X kF_X11_148 (Nat.le_of_ble_eq_true rfl) me_k53 me_f53_4 dX11_told_159 ?_
                        obtain rfl := me_so h
                        exact me_iret X hr hlk dX11_told_162
                      · have h := me_in c11 h
                        by_cases c11b : M.2.1 0 = 58
                        · have h := me_ip c11b h
                          refine me_getd0 X c11b kF_X11_97 (Nat.le_of_ble_eq_true rfl) me_k0 me_f0_10 dX11_told_156 ?_
                          refine me_geti X kF_X11_148 (Nat.le_of_ble_eq_true rfl) me_k58 me_f58_4 dX11_told_159 ?_
                          obtain rfl := me_so h
                          exact me_iret X hr hlk dX11_told_162
                        · have h := me_in c11b h
                          cases h
                    · have h := me_in c10 h
                      by_cases c12 : p0 = 10
                      · have h := me_ip c12 h
                        refine me_tin X (off := 152) 163 (by rw [c12]; decide) (by rw [c12]; decide) (by rw [c12] <;> decide) (by decide) dX11_told_11 ?_
                        refine me_aload_n X (i := 0) 0 rfl dX11_told_163 ?_
                        by_cases c13 : M.2.1 0 = 53
                        · have h := me_ip c13 h
                          refine me_getd0 X c13 kF_X11_97 (Nat.le_of_ble_eq_true rfl) me_k0 me_f0_10 dX11_told_164 ?_
                          refine me_geti X kF_X11_196 (Nat.le_of_ble_eq_true rfl) me_k53 me_f53_5 dX11_told_167 ?_
                          obtain rfl := me_so h
                          exact me_iret X hr hlk dX11_told_170
                        · have h := me_in c13 h
                          by_cases c13b : M.2.1 0 = 58
                          · have h := me_ip c13b h
                            refine me_getd0 X c13b kF_X11_97 (Nat.le_of_ble_eq_true rfl) me_k0 me_f0_10 dX11_told_164 ?_
                            refine me_geti X kF_X11_196 (Nat.le_of_ble_eq_true rfl) me_k58 me_f58_5 dX11_told_167 ?_
                            obtain rfl := me_so h
                            exact me_iret X hr hlk dX11_told_170
                          · have h := me_in c13b h
                            cases h
                      · have h := me_in c12 h
                        by_cases c14 : p0 = 11
                        · have h := me_ip c14 h
                          refine me_tin X (off := 160) 171 (by rw [c14]; decide) (by rw [c14]; decide) (by rw [c14] <;> decide) (by decide) dX11_told_11 ?_
                          refine me_aload_n X (i := 0) 0 rfl dX11_told_171 ?_
                          by_cases c15 : M.2.1 0 = 53
                          · have h := me_ip c15 h
                            refine me_getd0 X c15 kF_X11_97 (Nat.le_of_ble_eq_true rfl) me_k0 me_f0_10 dX11_told_172 ?_
                            obtain ⟨v8, e8, h⟩ := me_bd h
                            refine me_callVi X [] (ctX5_budget_53 hn (Nat.le_trans (by decide) hnt) e8) kV_X11_199 rfl rfl (Nat.le_of_ble_eq_true rfl) me_k53 (Nat.le_of_ble_eq_true rfl) (Nat.le_refl _) (Nat.le_of_ble_eq_true rfl) dX11_told_175 ?_
                            obtain rfl := me_so h
                            exact me_iret X hr hlk dX11_told_178
                          · have h := me_in c15 h
                            by_cases c15b : M.2.1 0 = 58
                            · have h := me_ip c15b h
                              refine me_getd0 X c15b kF_X11_97 (Nat.le_of_ble_eq_true rfl) me_k0 me_f0_10 dX11_told_172 ?_
                              obtain ⟨v9, e9, h⟩ := me_bd h
                              refine me_callVi X [] (ctX5_budget_58 hn (Nat.le_trans (by decide) hnt) e9) kV_X11_199 rfl rfl (Nat.le_of_ble_eq_true rfl) me_k58 (Nat.le_of_ble_eq_true rfl) (Nat.le_refl _) (Nat.le_of_ble_eq_true rfl) dX11_told_175 ?_
                              obtain rfl := me_so h
                              exact me_iret X hr hlk dX11_told_178
                            · have h := me_in c15b h
                              cases h
                        · have h := me_in c14 h
                          by_cases c16 : p0 = 12
                          · have h := me_ip c16 h
                            refine me_tin X (off := 168) 179 (by rw [c16]; decide) (by rw [c16]; decide) (by rw [c16] <;> decide) (by decide) dX11_told_11 ?_
                            refine me_aload_n X (i := 0) 0 rfl dX11_told_179 ?_
                            refine me_getr X 1 kF_X11_10 (Nat.le_of_ble_eq_true rfl) me_k0 me_f0_0 dX11_told_180 ?_
                            refine me_geti X kF_X11_111 (Nat.le_of_ble_eq_true rfl) me_k1 me_f1_1 dX11_told_183 ?_
                            obtain rfl := me_so h
                            exact me_iret X hr hlk dX11_told_186
                          · have h := me_in c16 h
                            refine me_tout X 187 (by have q0 := lv_neT (k := 0) (a := 0) c1 (by decide); have q1 := lv_neT (k := 1) (a := 1) c2 (by decide); have q2 := lv_neT (k := 2) (a := 2) c3 (by decide); have q3 := lv_neT (k := 3) (a := 3) c4 (by decide); have q4 := lv_neT (k := 4) (a := 4) c5 (by decide); have q5 := lv_neT (k := 5) (a := 5) c6 (by decide); have q6 := lv_neT (k := 6) (a := 6) c7 (by decide); have q7 := lv_neT (k := 7) (a := 7) c8 (by decide); have q8 := lv_neT (k := 8) (a := 8) c9 (by decide); have q9 := lv_neT (k := 9) (a := 9) c10 (by decide); have q10 := lv_neT (k := 10) (a := 10) c12 (by decide); have q11 := lv_neT (k := 11) (a := 11) c14 (by decide); have q12 := lv_neT (k := 12) (a := 12) c16 (by decide); omega) (by decide) dX11_told_11 ?_
                            refine me_aload_n X (i := 0) 0 rfl dX11_told_187 ?_
                            refine me_getr X 47 kF_X11_81 (Nat.le_of_ble_eq_true rfl) me_k0 me_f0_8 dX11_told_188 ?_
                            refine me_geti X kF_X11_134 (Nat.le_of_ble_eq_true rfl) me_k47 me_f47_4 dX11_told_191 ?_
                            refine me_if_eq X 207 (by decide) dX11_told_194 (fun c17 => ?_) (fun c17 => ?_)
                            · have h := me_ip c17 h
                              refine me_iconst X dX11_told_207 ic_m1 ?_
                              obtain rfl := me_so h
                              exact me_iret X hr hlk dX11_told_208
                            · have h := me_in c17 h
                              refine me_aload_n X (i := 0) 0 rfl dX11_told_197 ?_
                              refine me_getr X 47 kF_X11_81 (Nat.le_of_ble_eq_true rfl) me_k0 me_f0_8 dX11_told_198 ?_
                              refine me_geti X kF_X11_202 (Nat.le_of_ble_eq_true rfl) me_k47 me_f47_6 dX11_told_201 ?_
                              refine me_goto X 208 (by decide) dX11_told_204 ?_
                              obtain rfl := me_so h
                              exact me_iret X hr hlk dX11_told_208
def mX11_needElement_0 (p0 : Int32) : Option Unit :=
  (if p0 = 0 then none else some ())
set_option maxRecDepth 100000 in
set_option maxHeartbeats 4000000 in
theorem ctX11_needElement_0 {l : Launch} {n nt : Nat} (hn : 63 ≤ n) (hnt : 1 ≤ nt) {M : me_M} {p0 : Int32} (h : mX11_needElement_0 p0 = some ()) : me_Ct l yX11_needElement cX11_needElement 2 none 0 n nt (fun ad => [.ref (ad 0), .int p0]) M (fun _ => none) M := by
  unfold mX11_needElement_0 at h
  refine me_enter (N0 := 63) RX11 rfl (plainFor_of_name pl_RX11) hn (Nat.le_trans (by decide) hnt) (fun _ => Nat.le_of_ble_eq_true rfl) ?_
  intro p e R s m args below meth c D cA ad tys A X hr hlk
  refine me_sub (L' := [(0, .ref (ad 0)), (1, .int p0)]) [0, 1] rfl ?_
  refine me_iload_n X (i := 1) 1 rfl dX11_needElement_0 ?_
  refine me_if_ne X 25 (by decide) dX11_needElement_1 (fun c1 => ?_) (fun c1 => ?_)
  · have h := me_in c1 h
    exact me_vret X hr hlk dX11_needElement_25
  · have h := me_ip c1 h
    cases h
def mX11_sign_0 (M : me_M) (p0 : Int32) : Option Int32 :=
  ((mX11_isPlace_0 M p0).bind fun v1 => ((mX11_needElement_0 v1).bind fun _ => ((me_r M 4 241 p0).bind fun v3 => ((mX11_byteOf v3).bind fun v4 => some v4))))
set_option maxRecDepth 100000 in
set_option maxHeartbeats 4000000 in
theorem ctX11_sign_0 {l : Launch} {n nt : Nat} (hn : 63 ≤ n) (hnt : 1 ≤ nt) {M : me_M} {p0 : Int32} {r : Int32} (h : mX11_sign_0 M p0 = some r) : me_Ct l yX11_sign cX11_sign 2 (some .int) 1 n nt (fun ad => [.ref (ad 0), .int p0]) M (fun _ => some (.int r)) M := by
  unfold mX11_sign_0 at h
  refine me_enter (N0 := 63) RX11 rfl (plainFor_of_name pl_RX11) hn (Nat.le_trans (by decide) hnt) (fun _ => Nat.le_of_ble_eq_true rfl) ?_
  intro p e R s m args below meth c D cA ad tys A X hr hlk
  refine me_sub (L' := [(0, .ref (ad 0)), (1, .int p0)]) [0, 1] rfl ?_
  refine me_aload_n X (i := 0) 0 rfl dX11_sign_0 ?_
  refine me_aload_n X (i := 0) 0 rfl dX11_sign_1 ?_
  refine me_iload_n X (i := 1) 1 rfl dX11_sign_2 ?_
  obtain ⟨v1, e1, h⟩ := me_bd h
  refine me_callVi X [.int p0] (ctX11_isPlace_0 hn (Nat.le_trans (by decide) hnt) e1) kV_X11_203 rfl rfl (Nat.le_of_ble_eq_true rfl) me_k0 (Nat.le_of_ble_eq_true rfl) (Nat.le_refl _) (Nat.le_of_ble_eq_true rfl) dX11_sign_3 ?_
  obtain ⟨_, e2, h⟩ := me_bd h
  refine me_callVv X [.int v1] (ctX11_needElement_0 hn (Nat.le_trans (by decide) hnt) e2) kV_X11_206 rfl rfl (Nat.le_of_ble_eq_true rfl) me_k0 (Nat.le_of_ble_eq_true rfl) (Nat.le_refl _) (Nat.le_of_ble_eq_true rfl) dX11_sign_6 ?_
  refine me_aload_n X (i := 0) 0 rfl dX11_sign_9 ?_
  refine me_getr X 3 kF_X11_19 (Nat.le_of_ble_eq_true rfl) me_k0 me_f0_1 dX11_sign_10 ?_
  refine me_getr X 4 kF_X11_25 (Nat.le_of_ble_eq_true rfl) me_k3 me_f3_0 dX11_sign_13 ?_
  refine me_iload_n X (i := 1) 1 rfl dX11_sign_16 ?_
  obtain ⟨v3, e3, h⟩ := me_bd h
  refine me_iald X (Nat.le_of_ble_eq_true rfl) me_k4 e3 dX11_sign_17 ?_
  obtain ⟨v4, e4, h⟩ := me_bd h
  refine me_callSi X [.int v3] (ctX11_byteOf hn (Nat.le_trans (by decide) hnt) e4) kS_X11_209 rfl rfl (Nat.le_of_ble_eq_true rfl) (Nat.le_refl _) (Nat.le_of_ble_eq_true rfl) dX11_sign_18 ?_
  obtain rfl := me_so h
  exact me_iret X hr hlk dX11_sign_21
def mX11_row_0_J21 (p0 : Int32) (p1 : Int32) (p2 : Int32) (M : me_M) (s1 : Int32) : Option Int32 :=
  ((mX11_needElement_0 s1).bind fun _ => ((mX11_isWhat p2 6).bind fun v4 => ((mX11_needArgument_0 v4).bind fun _ => ((mX11_rowsOf_0 M p0).bind fun v6 => (if v6 = 9 then ((me_r M 10 241 p1).bind fun v7 => (if p2 = 0 then some v7 else (if p2 = 1 then ((me_r M 4 241 v7).bind fun v8 => ((mX11_byteOf v8).bind fun v9 => some v9)) else (if p2 = 2 then ((mX4_before_9 M p1).bind fun v10 => ((mX11_byteOf v10).bind fun v11 => some v11)) else (if p2 = 3 then ((mX4_walk_9 M p1).bind fun v12 => some v12) else (if p2 = 4 then ((me_md v7 (M.1 0 12)).bind fun v13 => (if v13 = 0 then some 1 else some 0)) else (if p2 = 5 then ((me_md v7 (M.1 0 12)).bind fun v14 => some v14) else ((me_r M 12 241 p1).bind fun v15 => some v15)))))))) else (if v6 = 14 then ((me_r M 15 241 p1).bind fun v16 => (if p2 = 0 then some v16 else (if p2 = 1 then ((me_r M 5 241 v16).bind fun v17 => ((mX11_byteOf v17).bind fun v18 => some v18)) else (if p2 = 2 then ((mX4_before_14 M p1).bind fun v19 => ((mX11_byteOf v19).bind fun v20 => some v20)) else (if p2 = 3 then ((mX4_walk_14 M p1).bind fun v21 => some v21) else (if p2 = 4 then ((me_md v16 (M.1 0 12)).bind fun v22 => (if v22 = 0 then some 1 else some 0)) else (if p2 = 5 then ((me_md v16 (M.1 0 12)).bind fun v23 => some v23) else ((me_r M 17 241 p1).bind fun v24 => some v24)))))))) else none))))))
def mX11_row_0_J20 (p0 : Int32) (p1 : Int32) (p2 : Int32) (M : me_M)  : Option Int32 :=
  (mX11_row_0_J21 p0 p1 p2 M 0)
def mX11_row_0 (M : me_M) (p0 : Int32) (p1 : Int32) (p2 : Int32) : Option Int32 :=
  ((mX11_isSide p0).bind fun v1 => (if v1 = 0 then (mX11_row_0_J20 p0 p1 p2 M ) else ((mX11_isPlace_0 M p1).bind fun v2 => (if v2 = 0 then (mX11_row_0_J20 p0 p1 p2 M ) else (mX11_row_0_J21 p0 p1 p2 M 1)))))
set_option maxRecDepth 100000 in
set_option maxHeartbeats 4000000 in
theorem ctX11_row_0 {l : Launch} {n nt : Nat} (hn : 63 ≤ n) (hnt : 1 ≤ nt) {M : me_M} {p0 : Int32} {p1 : Int32} {p2 : Int32} {r : Int32} (h : mX11_row_0 M p0 p1 p2 = some r) : me_Ct l yX11_row cX11_row 6 (some .int) 1 n nt (fun ad => [.ref (ad 0), .int p0, .int p1, .int p2]) M (fun _ => some (.int r)) M := by
  unfold mX11_row_0 at h
  refine me_enter (N0 := 63) RX11 rfl (plainFor_of_name pl_RX11) hn (Nat.le_trans (by decide) hnt) (fun _ => Nat.le_of_ble_eq_true rfl) ?_
  intro p e R s m args below meth c D cA ad tys A X hr hlk
  refine me_sub (L' := [(0, .ref (ad 0)), (1, .int p0), (2, .int p1), (3, .int p2)]) [0, 1, 2, 3] rfl ?_
  refine me_aload_n X (i := 0) 0 rfl dX11_row_0 ?_
  refine me_iload_n X (i := 1) 1 rfl dX11_row_1 ?_
  obtain ⟨v1, e1, h⟩ := me_bd h
  refine me_callSi X [.int p0] (ctX11_isSide hn (Nat.le_trans (by decide) hnt) e1) kS_X11_212 rfl rfl (Nat.le_of_ble_eq_true rfl) (Nat.le_refl _) (Nat.le_of_ble_eq_true rfl) dX11_row_2 ?_
  have hj21_2 : ∀ (s1 : Int32), mX11_row_0_J21 p0 p1 p2 M s1 = some r → me_W p l e R s m args below meth c 0 0 (MQ below (me_Qc D cA ad n A (some (.int r)) M) args s 0 0 A) D cA ad n 6 A 21 [(0, .ref (ad 0)), (1, .int p0), (2, .int p1), (3, .int p2)] [.int s1, .ref (ad 0)] M := by
    intro s1 h
    unfold mX11_row_0_J21 at h
    obtain ⟨_, e3, h⟩ := me_bd h
    refine me_callVv X [.int s1] (ctX11_needElement_0 hn (Nat.le_trans (by decide) hnt) e3) kV_X11_206 rfl rfl (Nat.le_of_ble_eq_true rfl) me_k0 (Nat.le_of_ble_eq_true rfl) (Nat.le_refl _) (Nat.le_of_ble_eq_true rfl) dX11_row_21 ?_
    refine me_aload_n X (i := 0) 0 rfl dX11_row_24 ?_
    refine me_iload_n X (i := 3) 3 rfl dX11_row_25 ?_
    refine me_bipush X dX11_row_26 ib_6 ?_
    obtain ⟨v4, e4, h⟩ := me_bd h
    refine me_callSi X [.int p2, .int 6] (ctX11_isWhat hn (Nat.le_trans (by decide) hnt) e4) kS_X11_157 rfl rfl (Nat.le_of_ble_eq_true rfl) (Nat.le_refl _) (Nat.le_of_ble_eq_true rfl) dX11_row_28 ?_
    obtain ⟨_, e5, h⟩ := me_bd h
    refine me_callVv X [.int v4] (ctX11_needArgument_0 hn (Nat.le_trans (by decide) hnt) e5) kV_X11_122 rfl rfl (Nat.le_of_ble_eq_true rfl) me_k0 (Nat.le_of_ble_eq_true rfl) (Nat.le_refl _) (Nat.le_of_ble_eq_true rfl) dX11_row_31 ?_
    refine me_aload_n X (i := 0) 0 rfl dX11_row_34 ?_
    refine me_iload_n X (i := 1) 1 rfl dX11_row_35 ?_
    obtain ⟨v6, e6, h⟩ := me_bd h
    refine me_callVa X [.int p0] (ctX11_rowsOf_0 hn (Nat.le_trans (by decide) hnt) e6) kV_X11_215 rfl rfl (Nat.le_of_ble_eq_true rfl) me_k0 (Nat.le_of_ble_eq_true rfl) (Nat.le_refl _) (Nat.le_of_ble_eq_true rfl) dX11_row_36 ?_
    by_cases c18 : v6 = 9
    · have h := me_ip c18 h
      subst c18
      refine me_astore X (i := 4) [(4, .ref (ad 9)), (0, .ref (ad 0)), (1, .int p0), (2, .int p1), (3, .int p2)] (Nat.le_of_ble_eq_true rfl) rfl dX11_row_39 ?_
      refine me_aload X (i := 4) 0 rfl dX11_row_41 ?_
      refine me_getr X 10 kF_X11_219 (Nat.le_of_ble_eq_true rfl) me_k9 me_f9_1 dX11_row_43 ?_
      refine me_iload_n X (i := 2) 3 rfl dX11_row_46 ?_
      obtain ⟨v7, e7, h⟩ := me_bd h
      refine me_iald X (Nat.le_of_ble_eq_true rfl) me_k10 e7 dX11_row_47 ?_
      refine me_istore X (i := 5) [(5, .int v7), (4, .ref (ad 9)), (0, .ref (ad 0)), (1, .int p0), (2, .int p1), (3, .int p2)] (Nat.le_of_ble_eq_true rfl) rfl dX11_row_48 ?_
      refine me_iload_n X (i := 3) 5 rfl dX11_row_50 ?_
      by_cases c3 : p2 = 0
      · have h := me_ip c3 h
        refine me_tin X (off := 37) 88 (by rw [c3]; decide) (by rw [c3]; decide) (by rw [c3] <;> decide) (by decide) dX11_row_51 ?_
        refine me_iload X (i := 5) 0 rfl dX11_row_88 ?_
        obtain rfl := me_so h
        exact me_iret X hr hlk dX11_row_90
      · have h := me_in c3 h
        by_cases c4 : p2 = 1
        · have h := me_ip c4 h
          refine me_tin X (off := 40) 91 (by rw [c4]; decide) (by rw [c4]; decide) (by rw [c4] <;> decide) (by decide) dX11_row_51 ?_
          refine me_aload X (i := 4) 1 rfl dX11_row_91 ?_
          refine me_getr X 4 kF_X11_222 (Nat.le_of_ble_eq_true rfl) me_k9 me_f9_0 dX11_row_93 ?_
          refine me_iload X (i := 5) 0 rfl dX11_row_96 ?_
          obtain ⟨v8, e8, h⟩ := me_bd h
          refine me_iald X (Nat.le_of_ble_eq_true rfl) me_k4 e8 dX11_row_98 ?_
          obtain ⟨v9, e9, h⟩ := me_bd h
          refine me_callSi X [.int v8] (ctX11_byteOf hn (Nat.le_trans (by decide) hnt) e9) kS_X11_209 rfl rfl (Nat.le_of_ble_eq_true rfl) (Nat.le_refl _) (Nat.le_of_ble_eq_true rfl) dX11_row_99 ?_
          obtain rfl := me_so h
          exact me_iret X hr hlk dX11_row_102
        · have h := me_in c4 h
          by_cases c5 : p2 = 2
          · have h := me_ip c5 h
            refine me_tin X (off := 52) 103 (by rw [c5]; decide) (by rw [c5]; decide) (by rw [c5] <;> decide) (by decide) dX11_row_51 ?_
            refine me_aload X (i := 4) 1 rfl dX11_row_103 ?_
            refine me_iload_n X (i := 2) 4 rfl dX11_row_105 ?_
            obtain ⟨v10, e10, h⟩ := me_bd h
            refine me_callVi X [.int p1] (ctX4_before_9 hn (Nat.le_trans (by decide) hnt) e10) kV_X11_223 rfl rfl (Nat.le_of_ble_eq_true rfl) me_k9 (Nat.le_of_ble_eq_true rfl) (Nat.le_refl _) (Nat.le_of_ble_eq_true rfl) dX11_row_106 ?_
            obtain ⟨v11, e11, h⟩ := me_bd h
            refine me_callSi X [.int v10] (ctX11_byteOf hn (Nat.le_trans (by decide) hnt) e11) kS_X11_209 rfl rfl (Nat.le_of_ble_eq_true rfl) (Nat.le_refl _) (Nat.le_of_ble_eq_true rfl) dX11_row_109 ?_
            obtain rfl := me_so h
            exact me_iret X hr hlk dX11_row_112
          · have h := me_in c5 h
            by_cases c6 : p2 = 3
            · have h := me_ip c6 h
              refine me_tin X (off := 62) 113 (by rw [c6]; decide) (by rw [c6]; decide) (by rw [c6] <;> decide) (by decide) dX11_row_51 ?_
              refine me_aload X (i := 4) 1 rfl dX11_row_113 ?_
              refine me_iload_n X (i := 2) 4 rfl dX11_row_115 ?_
              obtain ⟨v12, e12, h⟩ := me_bd h
              refine me_callVi X [.int p1] (ctX4_walk_9 hn (Nat.le_trans (by decide) hnt) e12) kV_X11_226 rfl rfl (Nat.le_of_ble_eq_true rfl) me_k9 (Nat.le_of_ble_eq_true rfl) (Nat.le_refl _) (Nat.le_of_ble_eq_true rfl) dX11_row_116 ?_
              obtain rfl := me_so h
              exact me_iret X hr hlk dX11_row_119
            · have h := me_in c6 h
              by_cases c7 : p2 = 4
              · have h := me_ip c7 h
                refine me_tin X (off := 69) 120 (by rw [c7]; decide) (by rw [c7]; decide) (by rw [c7] <;> decide) (by decide) dX11_row_51 ?_
                refine me_iload X (i := 5) 0 rfl dX11_row_120 ?_
                refine me_aload_n X (i := 0) 2 rfl dX11_row_122 ?_
                refine me_geti X kF_X11_104 (Nat.le_of_ble_eq_true rfl) me_k0 me_f0_12 dX11_row_123 ?_
                obtain ⟨v13, e13, h⟩ := me_bd h
                refine me_irem X e13 dX11_row_126 ?_
                refine me_if_ne X 134 (by decide) dX11_row_127 (fun c8 => ?_) (fun c8 => ?_)
                · have h := me_in c8 h
                  refine me_iconst X dX11_row_134 ic_0 ?_
                  obtain rfl := me_so h
                  exact me_iret X hr hlk dX11_row_135
                · have h := me_ip c8 h
                  refine me_iconst X dX11_row_130 ic_1 ?_
                  refine me_goto X 135 (by decide) dX11_row_131 ?_
                  obtain rfl := me_so h
                  exact me_iret X hr hlk dX11_row_135
              · have h := me_in c7 h
                by_cases c9 : p2 = 5
                · have h := me_ip c9 h
                  refine me_tin X (off := 85) 136 (by rw [c9]; decide) (by rw [c9]; decide) (by rw [c9] <;> decide) (by decide) dX11_row_51 ?_
                  refine me_iload X (i := 5) 0 rfl dX11_row_136 ?_
                  refine me_aload_n X (i := 0) 2 rfl dX11_row_138 ?_
                  refine me_geti X kF_X11_104 (Nat.le_of_ble_eq_true rfl) me_k0 me_f0_12 dX11_row_139 ?_
                  obtain ⟨v14, e14, h⟩ := me_bd h
                  refine me_irem X e14 dX11_row_142 ?_
                  obtain rfl := me_so h
                  exact me_iret X hr hlk dX11_row_143
                · have h := me_in c9 h
                  refine me_tout X 144 (by have q0 := lv_neT (k := 0) (a := 0) c3 (by decide); have q1 := lv_neT (k := 1) (a := 1) c4 (by decide); have q2 := lv_neT (k := 2) (a := 2) c5 (by decide); have q3 := lv_neT (k := 3) (a := 3) c6 (by decide); have q4 := lv_neT (k := 4) (a := 4) c7 (by decide); have q5 := lv_neT (k := 5) (a := 5) c9 (by decide); omega) (by decide) dX11_row_51 ?_
                  refine me_aload X (i := 4) 1 rfl dX11_row_144 ?_
                  refine me_getr X 12 kF_X11_229 (Nat.le_of_ble_eq_true rfl) me_k9 me_f9_3 dX11_row_146 ?_
                  refine me_iload_n X (i := 2) 4 rfl dX11_row_149 ?_
                  obtain ⟨v15, e15, h⟩ := me_bd h
                  refine me_iald X (Nat.le_of_ble_eq_true rfl) me_k12 e15 dX11_row_150 ?_
                  obtain rfl := me_so h
                  exact me_iret X hr hlk dX11_row_151
    · have h := me_in c18 h
      by_cases c17 : v6 = 14
      · have h := me_ip c17 h
        subst c17
        refine me_astore X (i := 4) [(4, .ref (ad 14)), (0, .ref (ad 0)), (1, .int p0), (2, .int p1), (3, .int p2)] (Nat.le_of_ble_eq_true rfl) rfl dX11_row_39 ?_
        refine me_aload X (i := 4) 0 rfl dX11_row_41 ?_
        refine me_getr X 15 kF_X11_219 (Nat.le_of_ble_eq_true rfl) me_k14 me_f14_1 dX11_row_43 ?_
        refine me_iload_n X (i := 2) 3 rfl dX11_row_46 ?_
        obtain ⟨v16, e16, h⟩ := me_bd h
        refine me_iald X (Nat.le_of_ble_eq_true rfl) me_k15 e16 dX11_row_47 ?_
        refine me_istore X (i := 5) [(5, .int v16), (4, .ref (ad 14)), (0, .ref (ad 0)), (1, .int p0), (2, .int p1), (3, .int p2)] (Nat.le_of_ble_eq_true rfl) rfl dX11_row_48 ?_
        refine me_iload_n X (i := 3) 5 rfl dX11_row_50 ?_
        by_cases c10 : p2 = 0
        · have h := me_ip c10 h
          refine me_tin X (off := 37) 88 (by rw [c10]; decide) (by rw [c10]; decide) (by rw [c10] <;> decide) (by decide) dX11_row_51 ?_
          refine me_iload X (i := 5) 0 rfl dX11_row_88 ?_
          obtain rfl := me_so h
          exact me_iret X hr hlk dX11_row_90
        · have h := me_in c10 h
          by_cases c11 : p2 = 1
          · have h := me_ip c11 h
            refine me_tin X (off := 40) 91 (by rw [c11]; decide) (by rw [c11]; decide) (by rw [c11] <;> decide) (by decide) dX11_row_51 ?_
            refine me_aload X (i := 4) 1 rfl dX11_row_91 ?_
            refine me_getr X 5 kF_X11_222 (Nat.le_of_ble_eq_true rfl) me_k14 me_f14_0 dX11_row_93 ?_
            refine me_iload X (i := 5) 0 rfl dX11_row_96 ?_
            obtain ⟨v17, e17, h⟩ := me_bd h
            refine me_iald X (Nat.le_of_ble_eq_true rfl) me_k5 e17 dX11_row_98 ?_
            obtain ⟨v18, e18, h⟩ := me_bd h
            refine me_callSi X [.int v17] (ctX11_byteOf hn (Nat.le_trans (by decide) hnt) e18) kS_X11_209 rfl rfl (Nat.le_of_ble_eq_true rfl) (Nat.le_refl _) (Nat.le_of_ble_eq_true rfl) dX11_row_99 ?_
            obtain rfl := me_so h
            exact me_iret X hr hlk dX11_row_102
          · have h := me_in c11 h
            by_cases c12 : p2 = 2
            · have h := me_ip c12 h
              refine me_tin X (off := 52) 103 (by rw [c12]; decide) (by rw [c12]; decide) (by rw [c12] <;> decide) (by decide) dX11_row_51 ?_
              refine me_aload X (i := 4) 1 rfl dX11_row_103 ?_
              refine me_iload_n X (i := 2) 4 rfl dX11_row_105 ?_
              obtain ⟨v19, e19, h⟩ := me_bd h
              refine me_callVi X [.int p1] (ctX4_before_14 hn (Nat.le_trans (by decide) hnt) e19) kV_X11_223 rfl rfl (Nat.le_of_ble_eq_true rfl) me_k14 (Nat.le_of_ble_eq_true rfl) (Nat.le_refl _) (Nat.le_of_ble_eq_true rfl) dX11_row_106 ?_
              obtain ⟨v20, e20, h⟩ := me_bd h
              refine me_callSi X [.int v19] (ctX11_byteOf hn (Nat.le_trans (by decide) hnt) e20) kS_X11_209 rfl rfl (Nat.le_of_ble_eq_true rfl) (Nat.le_refl _) (Nat.le_of_ble_eq_true rfl) dX11_row_109 ?_
              obtain rfl := me_so h
              exact me_iret X hr hlk dX11_row_112
            · have h := me_in c12 h
              by_cases c13 : p2 = 3
              · have h := me_ip c13 h
                refine me_tin X (off := 62) 113 (by rw [c13]; decide) (by rw [c13]; decide) (by rw [c13] <;> decide) (by decide) dX11_row_51 ?_
                refine me_aload X (i := 4) 1 rfl dX11_row_113 ?_
                refine me_iload_n X (i := 2) 4 rfl dX11_row_115 ?_
                obtain ⟨v21, e21, h⟩ := me_bd h
                refine me_callVi X [.int p1] (ctX4_walk_14 hn (Nat.le_trans (by decide) hnt) e21) kV_X11_226 rfl rfl (Nat.le_of_ble_eq_true rfl) me_k14 (Nat.le_of_ble_eq_true rfl) (Nat.le_refl _) (Nat.le_of_ble_eq_true rfl) dX11_row_116 ?_
                obtain rfl := me_so h
                exact me_iret X hr hlk dX11_row_119
              · have h := me_in c13 h
                by_cases c14 : p2 = 4
                · have h := me_ip c14 h
                  refine me_tin X (off := 69) 120 (by rw [c14]; decide) (by rw [c14]; decide) (by rw [c14] <;> decide) (by decide) dX11_row_51 ?_
                  refine me_iload X (i := 5) 0 rfl dX11_row_120 ?_
                  refine me_aload_n X (i := 0) 2 rfl dX11_row_122 ?_
                  refine me_geti X kF_X11_104 (Nat.le_of_ble_eq_true rfl) me_k0 me_f0_12 dX11_row_123 ?_
                  obtain ⟨v22, e22, h⟩ := me_bd h
                  refine me_irem X e22 dX11_row_126 ?_
                  refine me_if_ne X 134 (by decide) dX11_row_127 (fun c15 => ?_) (fun c15 => ?_)
                  · have h := me_in c15 h
                    refine me_iconst X dX11_row_134 ic_0 ?_
                    obtain rfl := me_so h
                    exact me_iret X hr hlk dX11_row_135
                  · have h := me_ip c15 h
                    refine me_iconst X dX11_row_130 ic_1 ?_
                    refine me_goto X 135 (by decide) dX11_row_131 ?_
                    obtain rfl := me_so h
                    exact me_iret X hr hlk dX11_row_135
                · have h := me_in c14 h
                  by_cases c16 : p2 = 5
                  · have h := me_ip c16 h
                    refine me_tin X (off := 85) 136 (by rw [c16]; decide) (by rw [c16]; decide) (by rw [c16] <;> decide) (by decide) dX11_row_51 ?_
                    refine me_iload X (i := 5) 0 rfl dX11_row_136 ?_
                    refine me_aload_n X (i := 0) 2 rfl dX11_row_138 ?_
                    refine me_geti X kF_X11_104 (Nat.le_of_ble_eq_true rfl) me_k0 me_f0_12 dX11_row_139 ?_
                    obtain ⟨v23, e23, h⟩ := me_bd h
                    refine me_irem X e23 dX11_row_142 ?_
                    obtain rfl := me_so h
                    exact me_iret X hr hlk dX11_row_143
                  · have h := me_in c16 h
                    refine me_tout X 144 (by have q0 := lv_neT (k := 0) (a := 0) c10 (by decide); have q1 := lv_neT (k := 1) (a := 1) c11 (by decide); have q2 := lv_neT (k := 2) (a := 2) c12 (by decide); have q3 := lv_neT (k := 3) (a := 3) c13 (by decide); have q4 := lv_neT (k := 4) (a := 4) c14 (by decide); have q5 := lv_neT (k := 5) (a := 5) c16 (by decide); omega) (by decide) dX11_row_51 ?_
                    refine me_aload X (i := 4) 1 rfl dX11_row_144 ?_
                    refine me_getr X 17 kF_X11_229 (Nat.le_of_ble_eq_true rfl) me_k14 me_f14_3 dX11_row_146 ?_
                    refine me_iload_n X (i := 2) 4 rfl dX11_row_149 ?_
                    obtain ⟨v24, e24, h⟩ := me_bd h
                    refine me_iald X (Nat.le_of_ble_eq_true rfl) me_k17 e24 dX11_row_150 ?_
                    obtain rfl := me_so h
                    exact me_iret X hr hlk dX11_row_151
      · have h := me_in c17 h
        cases h
  have hj20_1 : mX11_row_0_J20 p0 p1 p2 M  = some r → me_W p l e R s m args below meth c 0 0 (MQ below (me_Qc D cA ad n A (some (.int r)) M) args s 0 0 A) D cA ad n 6 A 20 [(0, .ref (ad 0)), (1, .int p0), (2, .int p1), (3, .int p2)] [.ref (ad 0)] M := by
    intro h
    unfold mX11_row_0_J20 at h
    refine me_iconst X dX11_row_20 ic_0 ?_
    exact hj21_2 0 h
  refine me_if_eq X 20 (by decide) dX11_row_5 (fun c1 => ?_) (fun c1 => ?_)
  · have h := me_ip c1 h
    exact hj20_1  h
  · have h := me_in c1 h
    refine me_aload_n X (i := 0) 0 rfl dX11_row_8 ?_
    refine me_iload_n X (i := 2) 2 rfl dX11_row_9 ?_
    obtain ⟨v2, e2, h⟩ := me_bd h
    refine me_callVi X [.int p1] (ctX11_isPlace_0 hn (Nat.le_trans (by decide) hnt) e2) kV_X11_203 rfl rfl (Nat.le_of_ble_eq_true rfl) me_k0 (Nat.le_of_ble_eq_true rfl) (Nat.le_refl _) (Nat.le_of_ble_eq_true rfl) dX11_row_10 ?_
    refine me_if_eq X 20 (by decide) dX11_row_13 (fun c2 => ?_) (fun c2 => ?_)
    · have h := me_ip c2 h
      exact hj20_1  h
    · have h := me_in c2 h
      refine me_iconst X dX11_row_16 ic_1 ?_
      refine me_goto X 21 (by decide) dX11_row_17 ?_
      exact hj21_2 1 h
def mX11_rowOf_0_J21 (p0 : Int32) (p1 : Int32) (M : me_M) (s1 : Int32) : Option Int32 :=
  ((mX11_needElement_0 s1).bind fun _ => ((mX11_rowsOf_0 M p0).bind fun v4 => (if v4 = 9 then ((me_r M 11 241 p1).bind fun v5 => some v5) else (if v4 = 14 then ((me_r M 16 241 p1).bind fun v6 => some v6) else none))))
def mX11_rowOf_0_J20 (p0 : Int32) (p1 : Int32) (M : me_M)  : Option Int32 :=
  (mX11_rowOf_0_J21 p0 p1 M 0)
def mX11_rowOf_0 (M : me_M) (p0 : Int32) (p1 : Int32) : Option Int32 :=
  ((mX11_isSide p0).bind fun v1 => (if v1 = 0 then (mX11_rowOf_0_J20 p0 p1 M ) else ((mX11_isPlace_0 M p1).bind fun v2 => (if v2 = 0 then (mX11_rowOf_0_J20 p0 p1 M ) else (mX11_rowOf_0_J21 p0 p1 M 1)))))
set_option maxRecDepth 100000 in
set_option maxHeartbeats 4000000 in
theorem ctX11_rowOf_0 {l : Launch} {n nt : Nat} (hn : 63 ≤ n) (hnt : 1 ≤ nt) {M : me_M} {p0 : Int32} {p1 : Int32} {r : Int32} (h : mX11_rowOf_0 M p0 p1 = some r) : me_Ct l yX11_rowOf cX11_rowOf 3 (some .int) 1 n nt (fun ad => [.ref (ad 0), .int p0, .int p1]) M (fun _ => some (.int r)) M := by
  unfold mX11_rowOf_0 at h
  refine me_enter (N0 := 63) RX11 rfl (plainFor_of_name pl_RX11) hn (Nat.le_trans (by decide) hnt) (fun _ => Nat.le_of_ble_eq_true rfl) ?_
  intro p e R s m args below meth c D cA ad tys A X hr hlk
  refine me_sub (L' := [(0, .ref (ad 0)), (1, .int p0), (2, .int p1)]) [0, 1, 2] rfl ?_
  refine me_aload_n X (i := 0) 0 rfl dX11_rowOf_0 ?_
  refine me_iload_n X (i := 1) 1 rfl dX11_rowOf_1 ?_
  obtain ⟨v1, e1, h⟩ := me_bd h
  refine me_callSi X [.int p0] (ctX11_isSide hn (Nat.le_trans (by decide) hnt) e1) kS_X11_212 rfl rfl (Nat.le_of_ble_eq_true rfl) (Nat.le_refl _) (Nat.le_of_ble_eq_true rfl) dX11_rowOf_2 ?_
  have hj21_2 : ∀ (s1 : Int32), mX11_rowOf_0_J21 p0 p1 M s1 = some r → me_W p l e R s m args below meth c 0 0 (MQ below (me_Qc D cA ad n A (some (.int r)) M) args s 0 0 A) D cA ad n 3 A 21 [(0, .ref (ad 0)), (1, .int p0), (2, .int p1)] [.int s1, .ref (ad 0)] M := by
    intro s1 h
    unfold mX11_rowOf_0_J21 at h
    obtain ⟨_, e3, h⟩ := me_bd h
    refine me_callVv X [.int s1] (ctX11_needElement_0 hn (Nat.le_trans (by decide) hnt) e3) kV_X11_206 rfl rfl (Nat.le_of_ble_eq_true rfl) me_k0 (Nat.le_of_ble_eq_true rfl) (Nat.le_refl _) (Nat.le_of_ble_eq_true rfl) dX11_rowOf_21 ?_
    refine me_aload_n X (i := 0) 0 rfl dX11_rowOf_24 ?_
    refine me_iload_n X (i := 1) 1 rfl dX11_rowOf_25 ?_
    obtain ⟨v4, e4, h⟩ := me_bd h
    refine me_callVa X [.int p0] (ctX11_rowsOf_0 hn (Nat.le_trans (by decide) hnt) e4) kV_X11_215 rfl rfl (Nat.le_of_ble_eq_true rfl) me_k0 (Nat.le_of_ble_eq_true rfl) (Nat.le_refl _) (Nat.le_of_ble_eq_true rfl) dX11_rowOf_26 ?_
    by_cases c4 : v4 = 9
    · have h := me_ip c4 h
      subst c4
      refine me_getr X 11 kF_X11_232 (Nat.le_of_ble_eq_true rfl) me_k9 me_f9_2 dX11_rowOf_29 ?_
      refine me_iload_n X (i := 2) 2 rfl dX11_rowOf_32 ?_
      obtain ⟨v5, e5, h⟩ := me_bd h
      refine me_iald X (Nat.le_of_ble_eq_true rfl) me_k11 e5 dX11_rowOf_33 ?_
      obtain rfl := me_so h
      exact me_iret X hr hlk dX11_rowOf_34
    · have h := me_in c4 h
      by_cases c3 : v4 = 14
      · have h := me_ip c3 h
        subst c3
        refine me_getr X 16 kF_X11_232 (Nat.le_of_ble_eq_true rfl) me_k14 me_f14_2 dX11_rowOf_29 ?_
        refine me_iload_n X (i := 2) 2 rfl dX11_rowOf_32 ?_
        obtain ⟨v6, e6, h⟩ := me_bd h
        refine me_iald X (Nat.le_of_ble_eq_true rfl) me_k16 e6 dX11_rowOf_33 ?_
        obtain rfl := me_so h
        exact me_iret X hr hlk dX11_rowOf_34
      · have h := me_in c3 h
        cases h
  have hj20_1 : mX11_rowOf_0_J20 p0 p1 M  = some r → me_W p l e R s m args below meth c 0 0 (MQ below (me_Qc D cA ad n A (some (.int r)) M) args s 0 0 A) D cA ad n 3 A 20 [(0, .ref (ad 0)), (1, .int p0), (2, .int p1)] [.ref (ad 0)] M := by
    intro h
    unfold mX11_rowOf_0_J20 at h
    refine me_iconst X dX11_rowOf_20 ic_0 ?_
    exact hj21_2 0 h
  refine me_if_eq X 20 (by decide) dX11_rowOf_5 (fun c1 => ?_) (fun c1 => ?_)
  · have h := me_ip c1 h
    exact hj20_1  h
  · have h := me_in c1 h
    refine me_aload_n X (i := 0) 0 rfl dX11_rowOf_8 ?_
    refine me_iload_n X (i := 2) 2 rfl dX11_rowOf_9 ?_
    obtain ⟨v2, e2, h⟩ := me_bd h
    refine me_callVi X [.int p1] (ctX11_isPlace_0 hn (Nat.le_trans (by decide) hnt) e2) kV_X11_203 rfl rfl (Nat.le_of_ble_eq_true rfl) me_k0 (Nat.le_of_ble_eq_true rfl) (Nat.le_refl _) (Nat.le_of_ble_eq_true rfl) dX11_rowOf_10 ?_
    refine me_if_eq X 20 (by decide) dX11_rowOf_13 (fun c2 => ?_) (fun c2 => ?_)
    · have h := me_ip c2 h
      exact hj20_1  h
    · have h := me_in c2 h
      refine me_iconst X dX11_rowOf_16 ic_1 ?_
      refine me_goto X 21 (by decide) dX11_rowOf_17 ?_
      exact hj21_2 1 h
def mX11_count_0_J30 (p0 : Int32) (p1 : Int32) (p2 : Int32) (M : me_M) (s1 : Int32) : Option Int32 :=
  ((mX11_needElement_0 s1).bind fun _ => ((mX11_isLetter p2).bind fun v3 => ((mX11_needArgument_0 v3).bind fun _ => ((mX11_rowsOf_0 M p0).bind fun v5 => (if v5 = 9 then ((mX4_lettersAhead_9 M p1 (p2 - 97)).bind fun v6 => some v6) else (if v5 = 14 then ((mX4_lettersAhead_14 M p1 (p2 - 97)).bind fun v7 => some v7) else none))))))
def mX11_count_0_J29 (p0 : Int32) (p1 : Int32) (p2 : Int32) (M : me_M)  : Option Int32 :=
  (mX11_count_0_J30 p0 p1 p2 M 0)
def mX11_count_0 (M : me_M) (p0 : Int32) (p1 : Int32) (p2 : Int32) : Option Int32 :=
  ((mX11_isSide p0).bind fun v1 => (if v1 = 0 then (mX11_count_0_J29 p0 p1 p2 M ) else (if p1 < 0 then (mX11_count_0_J29 p0 p1 p2 M ) else (if ((M.1 3 5) + 1) < p1 then (mX11_count_0_J29 p0 p1 p2 M ) else (mX11_count_0_J30 p0 p1 p2 M 1)))))
set_option maxRecDepth 100000 in
set_option maxHeartbeats 4000000 in
theorem ctX11_count_0 {l : Launch} {n nt : Nat} (hn : 63 ≤ n) (hnt : 1 ≤ nt) {M : me_M} {p0 : Int32} {p1 : Int32} {p2 : Int32} {r : Int32} (h : mX11_count_0 M p0 p1 p2 = some r) : me_Ct l yX11_count cX11_count 4 (some .int) 2 n nt (fun ad => [.ref (ad 0), .int p0, .int p1, .int p2]) M (fun _ => some (.int r)) M := by
  unfold mX11_count_0 at h
  refine me_enter (N0 := 63) RX11 rfl (plainFor_of_name pl_RX11) hn (Nat.le_trans (by decide) hnt) (fun _ => Nat.le_of_ble_eq_true rfl) ?_
  intro p e R s m args below meth c D cA ad tys A X hr hlk
  refine me_sub (L' := [(0, .ref (ad 0)), (1, .int p0), (2, .int p1), (3, .int p2)]) [0, 1, 2, 3] rfl ?_
  refine me_aload_n X (i := 0) 0 rfl dX11_count_0 ?_
  refine me_iload_n X (i := 1) 1 rfl dX11_count_1 ?_
  obtain ⟨v1, e1, h⟩ := me_bd h
  refine me_callSi X [.int p0] (ctX11_isSide hn (Nat.le_trans (by decide) hnt) e1) kS_X11_212 rfl rfl (Nat.le_of_ble_eq_true rfl) (Nat.le_refl _) (Nat.le_of_ble_eq_true rfl) dX11_count_2 ?_
  have hj30_2 : ∀ (s1 : Int32), mX11_count_0_J30 p0 p1 p2 M s1 = some r → me_W p l e R s m args below meth c 0 0 (MQ below (me_Qc D cA ad n A (some (.int r)) M) args s 0 0 A) D cA ad n 4 A 30 [(0, .ref (ad 0)), (1, .int p0), (2, .int p1), (3, .int p2)] [.int s1, .ref (ad 0)] M := by
    intro s1 h
    unfold mX11_count_0_J30 at h
    obtain ⟨_, e2, h⟩ := me_bd h
    refine me_callVv X [.int s1] (ctX11_needElement_0 hn (Nat.le_trans (by decide) hnt) e2) kV_X11_206 rfl rfl (Nat.le_of_ble_eq_true rfl) me_k0 (Nat.le_of_ble_eq_true rfl) (Nat.le_refl _) (Nat.le_of_ble_eq_true rfl) dX11_count_30 ?_
    refine me_aload_n X (i := 0) 0 rfl dX11_count_33 ?_
    refine me_iload_n X (i := 3) 3 rfl dX11_count_34 ?_
    obtain ⟨v3, e3, h⟩ := me_bd h
    refine me_callSi X [.int p2] (ctX11_isLetter hn (Nat.le_trans (by decide) hnt) e3) kS_X11_154 rfl rfl (Nat.le_of_ble_eq_true rfl) (Nat.le_refl _) (Nat.le_of_ble_eq_true rfl) dX11_count_35 ?_
    obtain ⟨_, e4, h⟩ := me_bd h
    refine me_callVv X [.int v3] (ctX11_needArgument_0 hn (Nat.le_trans (by decide) hnt) e4) kV_X11_122 rfl rfl (Nat.le_of_ble_eq_true rfl) me_k0 (Nat.le_of_ble_eq_true rfl) (Nat.le_refl _) (Nat.le_of_ble_eq_true rfl) dX11_count_38 ?_
    refine me_aload_n X (i := 0) 0 rfl dX11_count_41 ?_
    refine me_iload_n X (i := 1) 1 rfl dX11_count_42 ?_
    obtain ⟨v5, e5, h⟩ := me_bd h
    refine me_callVa X [.int p0] (ctX11_rowsOf_0 hn (Nat.le_trans (by decide) hnt) e5) kV_X11_215 rfl rfl (Nat.le_of_ble_eq_true rfl) me_k0 (Nat.le_of_ble_eq_true rfl) (Nat.le_refl _) (Nat.le_of_ble_eq_true rfl) dX11_count_43 ?_
    by_cases c5 : v5 = 9
    · have h := me_ip c5 h
      subst c5
      refine me_iload_n X (i := 2) 2 rfl dX11_count_46 ?_
      refine me_iload_n X (i := 3) 3 rfl dX11_count_47 ?_
      refine me_bipush X dX11_count_48 ib_97 ?_
      refine me_isub X dX11_count_50 ?_
      obtain ⟨v6, e6, h⟩ := me_bd h
      refine me_callVi X [.int p1, .int (p2 - 97)] (ctX4_lettersAhead_9 hn (Nat.le_trans (by decide) hnt) e6) kV_X11_235 rfl rfl (Nat.le_of_ble_eq_true rfl) me_k9 (Nat.le_of_ble_eq_true rfl) (Nat.le_refl _) (Nat.le_of_ble_eq_true rfl) dX11_count_51 ?_
      obtain rfl := me_so h
      exact me_iret X hr hlk dX11_count_54
    · have h := me_in c5 h
      by_cases c4 : v5 = 14
      · have h := me_ip c4 h
        subst c4
        refine me_iload_n X (i := 2) 2 rfl dX11_count_46 ?_
        refine me_iload_n X (i := 3) 3 rfl dX11_count_47 ?_
        refine me_bipush X dX11_count_48 ib_97 ?_
        refine me_isub X dX11_count_50 ?_
        obtain ⟨v7, e7, h⟩ := me_bd h
        refine me_callVi X [.int p1, .int (p2 - 97)] (ctX4_lettersAhead_14 hn (Nat.le_trans (by decide) hnt) e7) kV_X11_235 rfl rfl (Nat.le_of_ble_eq_true rfl) me_k14 (Nat.le_of_ble_eq_true rfl) (Nat.le_refl _) (Nat.le_of_ble_eq_true rfl) dX11_count_51 ?_
        obtain rfl := me_so h
        exact me_iret X hr hlk dX11_count_54
      · have h := me_in c4 h
        cases h
  have hj29_1 : mX11_count_0_J29 p0 p1 p2 M  = some r → me_W p l e R s m args below meth c 0 0 (MQ below (me_Qc D cA ad n A (some (.int r)) M) args s 0 0 A) D cA ad n 4 A 29 [(0, .ref (ad 0)), (1, .int p0), (2, .int p1), (3, .int p2)] [.ref (ad 0)] M := by
    intro h
    unfold mX11_count_0_J29 at h
    refine me_iconst X dX11_count_29 ic_0 ?_
    exact hj30_2 0 h
  refine me_if_eq X 29 (by decide) dX11_count_5 (fun c1 => ?_) (fun c1 => ?_)
  · have h := me_ip c1 h
    exact hj29_1  h
  · have h := me_in c1 h
    refine me_iload_n X (i := 2) 2 rfl dX11_count_8 ?_
    refine me_if_lt X 29 (by decide) dX11_count_9 (fun c2 => ?_) (fun c2 => ?_)
    · have h := me_ip c2 h
      exact hj29_1  h
    · have h := me_in c2 h
      refine me_iload_n X (i := 2) 2 rfl dX11_count_12 ?_
      refine me_aload_n X (i := 0) 0 rfl dX11_count_13 ?_
      refine me_getr X 3 kF_X11_19 (Nat.le_of_ble_eq_true rfl) me_k0 me_f0_1 dX11_count_14 ?_
      refine me_geti X kF_X11_176 (Nat.le_of_ble_eq_true rfl) me_k3 me_f3_5 dX11_count_17 ?_
      refine me_iconst X dX11_count_20 ic_1 ?_
      refine me_iadd X dX11_count_21 ?_
      refine me_icmp_gt X 29 (by decide) dX11_count_22 (fun c3 => ?_) (fun c3 => ?_)
      · have h := me_ip c3 h
        exact hj29_1  h
      · have h := me_in c3 h
        refine me_iconst X dX11_count_25 ic_1 ?_
        refine me_goto X 30 (by decide) dX11_count_26 ?_
        exact hj30_2 1 h
def mX11_letter_0_J21 (p0 : Int32) (M : me_M) (s1 : Int32) : Option Int32 :=
  ((mX11_needElement_0 s1).bind fun _ => ((mX0_letterAt_19 M p0).bind fun v2 => some (v2 + 97)))
def mX11_letter_0_J20 (p0 : Int32) (M : me_M)  : Option Int32 :=
  (mX11_letter_0_J21 p0 M 0)
def mX11_letter_0 (M : me_M) (p0 : Int32) : Option Int32 :=
  (if p0 < 0 then (mX11_letter_0_J20 p0 M ) else (if (M.1 19 4) ≤ p0 then (mX11_letter_0_J20 p0 M ) else (mX11_letter_0_J21 p0 M 1)))
set_option maxRecDepth 100000 in
set_option maxHeartbeats 4000000 in
theorem ctX11_letter_0 {l : Launch} {n nt : Nat} (hn : 63 ≤ n) (hnt : 1 ≤ nt) {M : me_M} {p0 : Int32} {r : Int32} (h : mX11_letter_0 M p0 = some r) : me_Ct l yX11_letter cX11_letter 2 (some .int) 1 n nt (fun ad => [.ref (ad 0), .int p0]) M (fun _ => some (.int r)) M := by
  unfold mX11_letter_0 at h
  refine me_enter (N0 := 63) RX11 rfl (plainFor_of_name pl_RX11) hn (Nat.le_trans (by decide) hnt) (fun _ => Nat.le_of_ble_eq_true rfl) ?_
  intro p e R s m args below meth c D cA ad tys A X hr hlk
  refine me_sub (L' := [(0, .ref (ad 0)), (1, .int p0)]) [0, 1] rfl ?_
  refine me_aload_n X (i := 0) 0 rfl dX11_letter_0 ?_
  refine me_iload_n X (i := 1) 1 rfl dX11_letter_1 ?_
  have hj21_2 : ∀ (s1 : Int32), mX11_letter_0_J21 p0 M s1 = some r → me_W p l e R s m args below meth c 0 0 (MQ below (me_Qc D cA ad n A (some (.int r)) M) args s 0 0 A) D cA ad n 2 A 21 [(0, .ref (ad 0)), (1, .int p0)] [.int s1, .ref (ad 0)] M := by
    intro s1 h
    unfold mX11_letter_0_J21 at h
    obtain ⟨_, e1, h⟩ := me_bd h
    refine me_callVv X [.int s1] (ctX11_needElement_0 hn (Nat.le_trans (by decide) hnt) e1) kV_X11_206 rfl rfl (Nat.le_of_ble_eq_true rfl) me_k0 (Nat.le_of_ble_eq_true rfl) (Nat.le_refl _) (Nat.le_of_ble_eq_true rfl) dX11_letter_21 ?_
    refine me_aload_n X (i := 0) 0 rfl dX11_letter_24 ?_
    refine me_getr X 19 kF_X11_47 (Nat.le_of_ble_eq_true rfl) me_k0 me_f0_4 dX11_letter_25 ?_
    refine me_iload_n X (i := 1) 1 rfl dX11_letter_28 ?_
    obtain ⟨v2, e2, h⟩ := me_bd h
    refine me_callVi X [.int p0] (ctX0_letterAt_19 hn (Nat.le_trans (by decide) hnt) e2) kV_X11_238 rfl rfl (Nat.le_of_ble_eq_true rfl) me_k19 (Nat.le_of_ble_eq_true rfl) (Nat.le_refl _) (Nat.le_of_ble_eq_true rfl) dX11_letter_29 ?_
    refine me_bipush X dX11_letter_32 ib_97 ?_
    refine me_iadd X dX11_letter_34 ?_
    obtain rfl := me_so h
    exact me_iret X hr hlk dX11_letter_35
  have hj20_1 : mX11_letter_0_J20 p0 M  = some r → me_W p l e R s m args below meth c 0 0 (MQ below (me_Qc D cA ad n A (some (.int r)) M) args s 0 0 A) D cA ad n 2 A 20 [(0, .ref (ad 0)), (1, .int p0)] [.ref (ad 0)] M := by
    intro h
    unfold mX11_letter_0_J20 at h
    refine me_iconst X dX11_letter_20 ic_0 ?_
    exact hj21_2 0 h
  refine me_if_lt X 20 (by decide) dX11_letter_2 (fun c1 => ?_) (fun c1 => ?_)
  · have h := me_ip c1 h
    exact hj20_1  h
  · have h := me_in c1 h
    refine me_iload_n X (i := 1) 1 rfl dX11_letter_5 ?_
    refine me_aload_n X (i := 0) 0 rfl dX11_letter_6 ?_
    refine me_getr X 19 kF_X11_47 (Nat.le_of_ble_eq_true rfl) me_k0 me_f0_4 dX11_letter_7 ?_
    refine me_geti X kF_X11_161 (Nat.le_of_ble_eq_true rfl) me_k19 me_f19_4 dX11_letter_10 ?_
    refine me_icmp_ge X 20 (by decide) dX11_letter_13 (fun c2 => ?_) (fun c2 => ?_)
    · have h := me_ip c2 h
      exact hj20_1  h
    · have h := me_in c2 h
      refine me_iconst X dX11_letter_16 ic_1 ?_
      refine me_goto X 21 (by decide) dX11_letter_17 ?_
      exact hj21_2 1 h
def mX11_grows_0 (M : me_M) (p0 : Int32) : Option (Int32 × me_M) :=
  ((mX11_isWhat p0 1).bind fun v1 => ((mX11_needArgument_0 v1).bind fun _ => ((mX0_waysOn_19 M p0).bind fun (v3, M1) => some (v3, M1))))
set_option maxRecDepth 100000 in
set_option maxHeartbeats 4000000 in
theorem ctX11_grows_0 {l : Launch} {n nt : Nat} (hn : 63 ≤ n) (hnt : 1 ≤ nt) {M : me_M} {p0 : Int32} {r : Int32} {M' : me_M} (h : mX11_grows_0 M p0 = some (r, M')) : me_Ct l yX11_grows cX11_grows 2 (some .int) 5 n nt (fun ad => [.ref (ad 0), .int p0]) M (fun _ => some (.int r)) M' := by
  unfold mX11_grows_0 at h
  refine me_enter (N0 := 63) RX11 rfl (plainFor_of_name pl_RX11) hn (Nat.le_trans (by decide) hnt) (fun _ => Nat.le_of_ble_eq_true rfl) ?_
  intro p e R s m args below meth c D cA ad tys A X hr hlk
  refine me_sub (L' := [(0, .ref (ad 0)), (1, .int p0)]) [0, 1] rfl ?_
  refine me_aload_n X (i := 0) 0 rfl dX11_grows_0 ?_
  refine me_iload_n X (i := 1) 1 rfl dX11_grows_1 ?_
  refine me_iconst X dX11_grows_2 ic_1 ?_
  obtain ⟨v1, e1, h⟩ := me_bd h
  refine me_callSi X [.int p0, .int 1] (ctX11_isWhat hn (Nat.le_trans (by decide) hnt) e1) kS_X11_157 rfl rfl (Nat.le_of_ble_eq_true rfl) (Nat.le_refl _) (Nat.le_of_ble_eq_true rfl) dX11_grows_3 ?_
  obtain ⟨_, e2, h⟩ := me_bd h
  refine me_callVv X [.int v1] (ctX11_needArgument_0 hn (Nat.le_trans (by decide) hnt) e2) kV_X11_122 rfl rfl (Nat.le_of_ble_eq_true rfl) me_k0 (Nat.le_of_ble_eq_true rfl) (Nat.le_refl _) (Nat.le_of_ble_eq_true rfl) dX11_grows_6 ?_
  refine me_aload_n X (i := 0) 0 rfl dX11_grows_9 ?_
  refine me_getr X 19 kF_X11_47 (Nat.le_of_ble_eq_true rfl) me_k0 me_f0_4 dX11_grows_10 ?_
  refine me_iload_n X (i := 1) 1 rfl dX11_grows_13 ?_
  obtain ⟨⟨v3, M1⟩, e3, h⟩ := me_bd h
  refine me_callVi X [.int p0] (ctX0_waysOn_19 hn (Nat.le_trans (by decide) hnt) e3) kV_X11_241 rfl rfl (Nat.le_of_ble_eq_true rfl) me_k19 (Nat.le_of_ble_eq_true rfl) (Nat.le_refl _) (Nat.le_of_ble_eq_true rfl) dX11_grows_14 ?_
  obtain ⟨rfl, rfl⟩ := me_sp h
  exact me_iret X hr hlk dX11_grows_17
def mX11_hit_0_J17 (p1 : Int32) (v1 : Int32) (M : me_M) (s1 : Int32) : Option Int32 :=
  ((mX11_needElement_0 s1).bind fun _ => ((mX11_isWhat p1 2).bind fun v3 => ((mX11_needArgument_0 v3).bind fun _ => ((me_r M 7 241 v1).bind fun v5 => (if p1 = 0 then some v1 else (if p1 = 1 then some v5 else ((me_r M 8 241 v5).bind fun v6 => some (v1 - v6))))))))
def mX11_hit_0 (M : me_M) (p0 : Int32) (p1 : Int32) : Option Int32 :=
  ((mX11_placeOfHit_0 M p0).bind fun v1 => (if v1 = (-1) then (mX11_hit_0_J17 p1 v1 M 0) else (mX11_hit_0_J17 p1 v1 M 1)))
set_option maxRecDepth 100000 in
set_option maxHeartbeats 4000000 in
theorem ctX11_hit_0 {l : Launch} {n nt : Nat} (hn : 63 ≤ n) (hnt : 1 ≤ nt) {M : me_M} {p0 : Int32} {p1 : Int32} {r : Int32} (h : mX11_hit_0 M p0 p1 = some r) : me_Ct l yX11_hit cX11_hit 5 (some .int) 4 n nt (fun ad => [.ref (ad 0), .int p0, .int p1]) M (fun _ => some (.int r)) M := by
  unfold mX11_hit_0 at h
  refine me_enter (N0 := 63) RX11 rfl (plainFor_of_name pl_RX11) hn (Nat.le_trans (by decide) hnt) (fun _ => Nat.le_of_ble_eq_true rfl) ?_
  intro p e R s m args below meth c D cA ad tys A X hr hlk
  refine me_sub (L' := [(0, .ref (ad 0)), (1, .int p0), (2, .int p1)]) [0, 1, 2] rfl ?_
  refine me_aload_n X (i := 0) 0 rfl dX11_hit_0 ?_
  refine me_iload_n X (i := 1) 1 rfl dX11_hit_1 ?_
  obtain ⟨v1, e1, h⟩ := me_bd h
  refine me_callVi X [.int p0] (ctX11_placeOfHit_0 hn (Nat.le_trans (by decide) hnt) e1) kV_X11_244 rfl rfl (Nat.le_of_ble_eq_true rfl) me_k0 (Nat.le_of_ble_eq_true rfl) (Nat.le_refl _) (Nat.le_of_ble_eq_true rfl) dX11_hit_2 ?_
  refine me_istore_n X (i := 3) [(3, .int v1), (0, .ref (ad 0)), (1, .int p0), (2, .int p1)] (Nat.le_of_ble_eq_true rfl) rfl dX11_hit_5 ?_
  refine me_aload_n X (i := 0) 1 rfl dX11_hit_6 ?_
  refine me_iload_n X (i := 3) 0 rfl dX11_hit_7 ?_
  refine me_iconst X dX11_hit_8 ic_m1 ?_
  have hj17_1 : ∀ (s1 : Int32), mX11_hit_0_J17 p1 v1 M s1 = some r → me_W p l e R s m args below meth c 0 0 (MQ below (me_Qc D cA ad n A (some (.int r)) M) args s 0 0 A) D cA ad n 5 A 17 [(0, .ref (ad 0)), (2, .int p1), (3, .int v1)] [.int s1, .ref (ad 0)] M := by
    intro s1 h
    unfold mX11_hit_0_J17 at h
    obtain ⟨_, e2, h⟩ := me_bd h
    refine me_callVv X [.int s1] (ctX11_needElement_0 hn (Nat.le_trans (by decide) hnt) e2) kV_X11_206 rfl rfl (Nat.le_of_ble_eq_true rfl) me_k0 (Nat.le_of_ble_eq_true rfl) (Nat.le_refl _) (Nat.le_of_ble_eq_true rfl) dX11_hit_17 ?_
    refine me_aload_n X (i := 0) 0 rfl dX11_hit_20 ?_
    refine me_iload_n X (i := 2) 1 rfl dX11_hit_21 ?_
    refine me_iconst X dX11_hit_22 ic_2 ?_
    obtain ⟨v3, e3, h⟩ := me_bd h
    refine me_callSi X [.int p1, .int 2] (ctX11_isWhat hn (Nat.le_trans (by decide) hnt) e3) kS_X11_157 rfl rfl (Nat.le_of_ble_eq_true rfl) (Nat.le_refl _) (Nat.le_of_ble_eq_true rfl) dX11_hit_23 ?_
    obtain ⟨_, e4, h⟩ := me_bd h
    refine me_callVv X [.int v3] (ctX11_needArgument_0 hn (Nat.le_trans (by decide) hnt) e4) kV_X11_122 rfl rfl (Nat.le_of_ble_eq_true rfl) me_k0 (Nat.le_of_ble_eq_true rfl) (Nat.le_refl _) (Nat.le_of_ble_eq_true rfl) dX11_hit_26 ?_
    refine me_aload_n X (i := 0) 0 rfl dX11_hit_29 ?_
    refine me_getr X 3 kF_X11_19 (Nat.le_of_ble_eq_true rfl) me_k0 me_f0_1 dX11_hit_30 ?_
    refine me_getr X 7 kF_X11_247 (Nat.le_of_ble_eq_true rfl) me_k3 me_f3_3 dX11_hit_33 ?_
    refine me_iload_n X (i := 3) 2 rfl dX11_hit_36 ?_
    obtain ⟨v5, e5, h⟩ := me_bd h
    refine me_iald X (Nat.le_of_ble_eq_true rfl) me_k7 e5 dX11_hit_37 ?_
    refine me_istore X (i := 4) [(4, .int v5), (0, .ref (ad 0)), (2, .int p1), (3, .int v1)] (Nat.le_of_ble_eq_true rfl) rfl dX11_hit_38 ?_
    refine me_iload_n X (i := 2) 2 rfl dX11_hit_40 ?_
    by_cases c2 : p1 = 0
    · have h := me_ip c2 h
      refine me_look X (off := 27) 68 (by decide) (by rw [c2] <;> decide) (by decide) dX11_hit_41 ?_
      refine me_iload_n X (i := 3) 3 rfl dX11_hit_68 ?_
      obtain rfl := me_so h
      exact me_iret X hr hlk dX11_hit_69
    · have h := me_in c2 h
      by_cases c3 : p1 = 1
      · have h := me_ip c3 h
        refine me_look X (off := 29) 70 (by decide) (by rw [c3] <;> decide) (by decide) dX11_hit_41 ?_
        refine me_iload X (i := 4) 0 rfl dX11_hit_70 ?_
        obtain rfl := me_so h
        exact me_iret X hr hlk dX11_hit_72
      · have h := me_in c3 h
        refine me_look X 73 (off := 32) (by decide) (by show Op.lookupswitch.offset [(0, 27), (1, 29)] 32 _ = _; rw [lv_osw (k := 0) c2 (by decide), lv_osw (k := 1) c3 (by decide)]; rfl) (by decide) dX11_hit_41 ?_
        refine me_iload_n X (i := 3) 3 rfl dX11_hit_73 ?_
        refine me_aload_n X (i := 0) 1 rfl dX11_hit_74 ?_
        refine me_getr X 3 kF_X11_19 (Nat.le_of_ble_eq_true rfl) me_k0 me_f0_1 dX11_hit_75 ?_
        refine me_getr X 8 kF_X11_250 (Nat.le_of_ble_eq_true rfl) me_k3 me_f3_4 dX11_hit_78 ?_
        refine me_iload X (i := 4) 0 rfl dX11_hit_81 ?_
        obtain ⟨v6, e6, h⟩ := me_bd h
        refine me_iald X (Nat.le_of_ble_eq_true rfl) me_k8 e6 dX11_hit_83 ?_
        refine me_isub X dX11_hit_84 ?_
        obtain rfl := me_so h
        exact me_iret X hr hlk dX11_hit_85
  refine me_icmp_eq X 16 (by decide) dX11_hit_9 (fun c1 => ?_) (fun c1 => ?_)
  · have h := me_ip c1 h
    refine me_iconst X dX11_hit_16 ic_0 ?_
    refine me_sub (L' := [(0, .ref (ad 0)), (2, .int p1), (3, .int v1)]) [1, 3, 0] rfl ?_
    exact hj17_1 0 h
  · have h := me_in c1 h
    refine me_iconst X dX11_hit_12 ic_1 ?_
    refine me_goto X 17 (by decide) dX11_hit_13 ?_
    refine me_sub (L' := [(0, .ref (ad 0)), (2, .int p1), (3, .int v1)]) [1, 3, 0] rfl ?_
    exact hj17_1 1 h
def mX11_hits_0 (M : me_M) (p0 : Int32) : Option Int32 :=
  ((mX11_isWhat p0 3).bind fun v1 => ((mX11_needArgument_0 v1).bind fun _ => (if p0 = 0 then ((mX11_documentsHit_0 M).bind fun v4 => some v4) else ((mX11_gapsBetweenHits_0 M p0).bind fun v3 => some v3))))
set_option maxRecDepth 100000 in
set_option maxHeartbeats 4000000 in
theorem ctX11_hits_0 {l : Launch} {n nt : Nat} (hn : 63 ≤ n) (hnt : 1 ≤ nt) {M : me_M} {p0 : Int32} {r : Int32} (h : mX11_hits_0 M p0 = some r) : me_Ct l yX11_hits cX11_hits 2 (some .int) 4 n nt (fun ad => [.ref (ad 0), .int p0]) M (fun _ => some (.int r)) M := by
  unfold mX11_hits_0 at h
  refine me_enter (N0 := 63) RX11 rfl (plainFor_of_name pl_RX11) hn (Nat.le_trans (by decide) hnt) (fun _ => Nat.le_of_ble_eq_true rfl) ?_
  intro p e R s m args below meth c D cA ad tys A X hr hlk
  refine me_sub (L' := [(0, .ref (ad 0)), (1, .int p0)]) [0, 1] rfl ?_
  refine me_aload_n X (i := 0) 0 rfl dX11_hits_0 ?_
  refine me_iload_n X (i := 1) 1 rfl dX11_hits_1 ?_
  refine me_iconst X dX11_hits_2 ic_3 ?_
  obtain ⟨v1, e1, h⟩ := me_bd h
  refine me_callSi X [.int p0, .int 3] (ctX11_isWhat hn (Nat.le_trans (by decide) hnt) e1) kS_X11_157 rfl rfl (Nat.le_of_ble_eq_true rfl) (Nat.le_refl _) (Nat.le_of_ble_eq_true rfl) dX11_hits_3 ?_
  obtain ⟨_, e2, h⟩ := me_bd h
  refine me_callVv X [.int v1] (ctX11_needArgument_0 hn (Nat.le_trans (by decide) hnt) e2) kV_X11_122 rfl rfl (Nat.le_of_ble_eq_true rfl) me_k0 (Nat.le_of_ble_eq_true rfl) (Nat.le_refl _) (Nat.le_of_ble_eq_true rfl) dX11_hits_6 ?_
  refine me_iload_n X (i := 1) 1 rfl dX11_hits_9 ?_
  refine me_if_ne X 20 (by decide) dX11_hits_10 (fun c1 => ?_) (fun c1 => ?_)
  · have h := me_in c1 h
    refine me_aload_n X (i := 0) 0 rfl dX11_hits_20 ?_
    refine me_iload_n X (i := 1) 1 rfl dX11_hits_21 ?_
    obtain ⟨v3, e3, h⟩ := me_bd h
    refine me_callVi X [.int p0] (ctX11_gapsBetweenHits_0 hn (Nat.le_trans (by decide) hnt) e3) kV_X11_256 rfl rfl (Nat.le_of_ble_eq_true rfl) me_k0 (Nat.le_of_ble_eq_true rfl) (Nat.le_refl _) (Nat.le_of_ble_eq_true rfl) dX11_hits_22 ?_
    obtain rfl := me_so h
    exact me_iret X hr hlk dX11_hits_25
  · have h := me_ip c1 h
    refine me_aload_n X (i := 0) 0 rfl dX11_hits_13 ?_
    obtain ⟨v4, e4, h⟩ := me_bd h
    refine me_callVi X [] (ctX11_documentsHit_0 hn (Nat.le_trans (by decide) hnt) e4) kV_X11_253 rfl rfl (Nat.le_of_ble_eq_true rfl) me_k0 (Nat.le_of_ble_eq_true rfl) (Nat.le_refl _) (Nat.le_of_ble_eq_true rfl) dX11_hits_14 ?_
    refine me_goto X 25 (by decide) dX11_hits_17 ?_
    obtain rfl := me_so h
    exact me_iret X hr hlk dX11_hits_25
def mX11_often_0_L48 (M : me_M) : (Int32 × Int32 × Int32) → Option ((Int32 × Int32 × Int32) ⊕ (Int32 × Int32))
  | (x2_1, x3_1, x4_1) => (if x4_1 < 0 then some (.inr (x2_1, x3_1)) else ((mX9_letterAt_1 M x4_1).bind fun v4 => ((mX4_rowWith_9 M x2_1 v4).bind fun v5 => ((mX4_rowWith_9 M x3_1 v4).bind fun v6 => some (.inl (v5, v6, (x4_1 + (-1))))))))
def mX11_often_0_J28 (p0 : Int32) (M : me_M) (s1 : Int32) : Option Int32 :=
  ((mX11_needArgument_0 s1).bind fun _ => ((me_l (mX11_often_0_L48 M) me_fu (0, ((M.1 3 5) + 1), (p0 - 1))).bind fun (y2_1, y3_1) => some (y3_1 - y2_1)))
def mX11_often_0_J27 (p0 : Int32) (M : me_M)  : Option Int32 :=
  (mX11_often_0_J28 p0 M 0)
def mX11_often_0 (M : me_M) (p0 : Int32) : Option Int32 :=
  ((mX9_holds_1 M p0).bind fun v1 => (if v1 = 0 then (mX11_often_0_J27 p0 M ) else ((mX9_lettersAlone_1 M p0).bind fun v2 => (if v2 = 0 then (mX11_often_0_J27 p0 M ) else (mX11_often_0_J28 p0 M 1)))))
set_option maxRecDepth 100000 in
set_option maxHeartbeats 4000000 in
theorem ctX11_often_0 {l : Launch} {n nt : Nat} (hn : 63 ≤ n) (hnt : 1 ≤ nt) {M : me_M} {p0 : Int32} {r : Int32} (h : mX11_often_0 M p0 = some r) : me_Ct l yX11_often cX11_often 6 (some .int) 3 n nt (fun ad => [.ref (ad 0), .int p0]) M (fun _ => some (.int r)) M := by
  unfold mX11_often_0 at h
  refine me_enter (N0 := 63) RX11 rfl (plainFor_of_name pl_RX11) hn (Nat.le_trans (by decide) hnt) (fun _ => Nat.le_of_ble_eq_true rfl) ?_
  intro p e R s m args below meth c D cA ad tys A X hr hlk
  refine me_sub (L' := [(0, .ref (ad 0)), (1, .int p0)]) [0, 1] rfl ?_
  refine me_aload_n X (i := 0) 0 rfl dX11_often_0 ?_
  refine me_aload_n X (i := 0) 0 rfl dX11_often_1 ?_
  refine me_getr X 1 kF_X11_10 (Nat.le_of_ble_eq_true rfl) me_k0 me_f0_0 dX11_often_2 ?_
  refine me_iload_n X (i := 1) 1 rfl dX11_often_5 ?_
  obtain ⟨v1, e1, h⟩ := me_bd h
  refine me_callVi X [.int p0] (ctX9_holds_1 hn (Nat.le_trans (by decide) hnt) e1) kV_X11_118 rfl rfl (Nat.le_of_ble_eq_true rfl) me_k1 (Nat.le_of_ble_eq_true rfl) (Nat.le_refl _) (Nat.le_of_ble_eq_true rfl) dX11_often_6 ?_
  have hj28_2 : ∀ (s1 : Int32), mX11_often_0_J28 p0 M s1 = some r → me_W p l e R s m args below meth c 0 0 (MQ below (me_Qc D cA ad n A (some (.int r)) M) args s 0 0 A) D cA ad n 6 A 28 [(0, .ref (ad 0)), (1, .int p0)] [.int s1, .ref (ad 0)] M := by
    intro s1 h
    unfold mX11_often_0_J28 at h
    obtain ⟨_, e3, h⟩ := me_bd h
    refine me_callVv X [.int s1] (ctX11_needArgument_0 hn (Nat.le_trans (by decide) hnt) e3) kV_X11_122 rfl rfl (Nat.le_of_ble_eq_true rfl) me_k0 (Nat.le_of_ble_eq_true rfl) (Nat.le_refl _) (Nat.le_of_ble_eq_true rfl) dX11_often_28 ?_
    refine me_iconst X dX11_often_31 ic_0 ?_
    refine me_istore_n X (i := 2) [(2, .int 0), (0, .ref (ad 0)), (1, .int p0)] (Nat.le_of_ble_eq_true rfl) rfl dX11_often_32 ?_
    refine me_aload_n X (i := 0) 1 rfl dX11_often_33 ?_
    refine me_getr X 3 kF_X11_19 (Nat.le_of_ble_eq_true rfl) me_k0 me_f0_1 dX11_often_34 ?_
    refine me_geti X kF_X11_176 (Nat.le_of_ble_eq_true rfl) me_k3 me_f3_5 dX11_often_37 ?_
    refine me_iconst X dX11_often_40 ic_1 ?_
    refine me_iadd X dX11_often_41 ?_
    refine me_istore_n X (i := 3) [(3, .int ((M.1 3 5) + 1)), (2, .int 0), (0, .ref (ad 0)), (1, .int p0)] (Nat.le_of_ble_eq_true rfl) rfl dX11_often_42 ?_
    refine me_iload_n X (i := 1) 3 rfl dX11_often_43 ?_
    refine me_iconst X dX11_often_44 ic_1 ?_
    refine me_isub X dX11_often_45 ?_
    refine me_istore X (i := 4) [(4, .int (p0 - 1)), (3, .int ((M.1 3 5) + 1)), (2, .int 0), (0, .ref (ad 0)), (1, .int p0)] (Nat.le_of_ble_eq_true rfl) rfl dX11_often_46 ?_
    obtain ⟨⟨y2_1, y3_1⟩, hq1, h⟩ := me_bd h
    have hx1 : me_W p l e R s m args below meth c 0 0 (MQ below (me_Qc D cA ad n A (some (.int r)) M) args s 0 0 A) D cA ad n 6 A 92 [(2, .int y2_1), (3, .int y3_1)] [] M := by
      refine me_iload_n X (i := 3) 1 rfl dX11_often_92 ?_
      refine me_iload_n X (i := 2) 0 rfl dX11_often_93 ?_
      refine me_isub X dX11_often_94 ?_
      obtain rfl := me_so h
      exact me_iret X hr hlk dX11_often_95
    refine me_sub (L' := [(0, .ref (ad 0)), (2, .int 0), (3, .int ((M.1 3 5) + 1)), (4, .int (p0 - 1))]) [3, 2, 1, 0] rfl ?_
    refine me_l_W (b := (mX11_often_0_L48 M)) (P := fun w => me_W p l e R s m args below meth c 0 0 (MQ below (me_Qc D cA ad n A (some (.int r)) M) args s 0 0 A) D cA ad n 6 A 48 [(0, .ref (ad 0)), (2, .int w.1), (3, .int w.2.1), (4, .int w.2.2)] [] M) (r := (y2_1, y3_1)) ?_ me_fu (0, ((M.1 3 5) + 1), (p0 - 1)) hq1
    rintro ⟨x2_1, x3_1, x4_1⟩ z1 h hb1 - hr1
    unfold mX11_often_0_L48 at h
    refine me_iload X (i := 4) 3 rfl dX11_often_48 ?_
    refine me_if_lt X 92 (by decide) dX11_often_50 (fun c3 => ?_) (fun c3 => ?_)
    · have h := me_ip c3 h
      obtain rfl := me_so h
      have q := hr1 _ rfl
      refine me_sub (L' := [(2, .int x2_1), (3, .int x3_1)]) [1, 2] rfl ?_
      cases q
      exact hx1
    · have h := me_in c3 h
      refine me_aload_n X (i := 0) 0 rfl dX11_often_53 ?_
      refine me_getr X 1 kF_X11_10 (Nat.le_of_ble_eq_true rfl) me_k0 me_f0_0 dX11_often_54 ?_
      refine me_iload X (i := 4) 3 rfl dX11_often_57 ?_
      obtain ⟨v4, e4, h⟩ := me_bd h
      refine me_callVi X [.int x4_1] (ctX9_letterAt_1 hn (Nat.le_trans (by decide) hnt) e4) kV_X11_262 rfl rfl (Nat.le_of_ble_eq_true rfl) me_k1 (Nat.le_of_ble_eq_true rfl) (Nat.le_refl _) (Nat.le_of_ble_eq_true rfl) dX11_often_59 ?_
      refine me_istore X (i := 5) [(5, .int v4), (0, .ref (ad 0)), (2, .int x2_1), (3, .int x3_1), (4, .int x4_1)] (Nat.le_of_ble_eq_true rfl) rfl dX11_often_62 ?_
      refine me_aload_n X (i := 0) 1 rfl dX11_often_64 ?_
      refine me_getr X 9 kF_X11_32 (Nat.le_of_ble_eq_true rfl) me_k0 me_f0_2 dX11_often_65 ?_
      refine me_iload_n X (i := 2) 2 rfl dX11_often_68 ?_
      refine me_iload X (i := 5) 0 rfl dX11_often_69 ?_
      obtain ⟨v5, e5, h⟩ := me_bd h
      refine me_callVi X [.int x2_1, .int v4] (ctX4_rowWith_9 hn (Nat.le_trans (by decide) hnt) e5) kV_X11_263 rfl rfl (Nat.le_of_ble_eq_true rfl) me_k9 (Nat.le_of_ble_eq_true rfl) (Nat.le_refl _) (Nat.le_of_ble_eq_true rfl) dX11_often_71 ?_
      refine me_istore_n X (i := 2) [(2, .int v5), (5, .int v4), (0, .ref (ad 0)), (3, .int x3_1), (4, .int x4_1)] (Nat.le_of_ble_eq_true rfl) rfl dX11_often_74 ?_
      refine me_aload_n X (i := 0) 2 rfl dX11_often_75 ?_
      refine me_getr X 9 kF_X11_32 (Nat.le_of_ble_eq_true rfl) me_k0 me_f0_2 dX11_often_76 ?_
      refine me_iload_n X (i := 3) 3 rfl dX11_often_79 ?_
      refine me_iload X (i := 5) 1 rfl dX11_often_80 ?_
      obtain ⟨v6, e6, h⟩ := me_bd h
      refine me_callVi X [.int x3_1, .int v4] (ctX4_rowWith_9 hn (Nat.le_trans (by decide) hnt) e6) kV_X11_263 rfl rfl (Nat.le_of_ble_eq_true rfl) me_k9 (Nat.le_of_ble_eq_true rfl) (Nat.le_refl _) (Nat.le_of_ble_eq_true rfl) dX11_often_82 ?_
      refine me_istore_n X (i := 3) [(3, .int v6), (2, .int v5), (5, .int v4), (0, .ref (ad 0)), (4, .int x4_1)] (Nat.le_of_ble_eq_true rfl) rfl dX11_often_85 ?_
      refine me_iinc X (v := (x4_1 + (-1))) 4 rfl (in_m1 _) [(4, .int (x4_1 + (-1))), (3, .int v6), (2, .int v5), (5, .int v4), (0, .ref (ad 0))] (Nat.le_of_ble_eq_true rfl) rfl dX11_often_86 ?_
      refine me_goto X 48 (by decide) dX11_often_89 ?_
      obtain rfl := me_so h
      refine me_sub (L' := [(0, .ref (ad 0)), (2, .int v5), (3, .int v6), (4, .int (x4_1 + (-1)))]) [4, 2, 1, 0] rfl ?_
      exact hb1 (v5, v6, (x4_1 + (-1))) rfl
  have hj27_1 : mX11_often_0_J27 p0 M  = some r → me_W p l e R s m args below meth c 0 0 (MQ below (me_Qc D cA ad n A (some (.int r)) M) args s 0 0 A) D cA ad n 6 A 27 [(0, .ref (ad 0)), (1, .int p0)] [.ref (ad 0)] M := by
    intro h
    unfold mX11_often_0_J27 at h
    refine me_iconst X dX11_often_27 ic_0 ?_
    exact hj28_2 0 h
  refine me_if_eq X 27 (by decide) dX11_often_9 (fun c1 => ?_) (fun c1 => ?_)
  · have h := me_ip c1 h
    exact hj27_1  h
  · have h := me_in c1 h
    refine me_aload_n X (i := 0) 0 rfl dX11_often_12 ?_
    refine me_getr X 1 kF_X11_10 (Nat.le_of_ble_eq_true rfl) me_k0 me_f0_0 dX11_often_13 ?_
    refine me_iload_n X (i := 1) 1 rfl dX11_often_16 ?_
    obtain ⟨v2, e2, h⟩ := me_bd h
    refine me_callVi X [.int p0] (ctX9_lettersAlone_1 hn (Nat.le_trans (by decide) hnt) e2) kV_X11_259 rfl rfl (Nat.le_of_ble_eq_true rfl) me_k1 (Nat.le_of_ble_eq_true rfl) (Nat.le_refl _) (Nat.le_of_ble_eq_true rfl) dX11_often_17 ?_
    refine me_if_eq X 27 (by decide) dX11_often_20 (fun c2 => ?_) (fun c2 => ?_)
    · have h := me_ip c2 h
      exact hj27_1  h
    · have h := me_in c2 h
      refine me_iconst X dX11_often_23 ic_1 ?_
      refine me_goto X 28 (by decide) dX11_often_24 ?_
      exact hj28_2 1 h
def mX11_shares_0 (M : me_M) (p0 : Int32) : Option (Int32 × me_M) :=
  ((mX11_isWhat p0 2).bind fun v1 => ((mX11_needArgument_0 v1).bind fun _ => (if M.2.1 0 = 53 then ((mX5_surveyShares_53 M).bind fun M1 => (if p0 = 0 then (if M1.2.1 0 = 53 then some ((M1.1 53 7), M1) else if M1.2.1 0 = 58 then some ((M1.1 58 7), M1) else none) else (if p0 = 1 then (if M1.2.1 0 = 53 then some ((M1.1 53 8), M1) else if M1.2.1 0 = 58 then some ((M1.1 58 8), M1) else none) else (if M1.2.1 0 = 53 then some ((M1.1 53 9), M1) else if M1.2.1 0 = 58 then some ((M1.1 58 9), M1) else none)))) else if M.2.1 0 = 58 then ((mX5_surveyShares_58 M).bind fun M2 => (if p0 = 0 then (if M2.2.1 0 = 53 then some ((M2.1 53 7), M2) else if M2.2.1 0 = 58 then some ((M2.1 58 7), M2) else none) else (if p0 = 1 then (if M2.2.1 0 = 53 then some ((M2.1 53 8), M2) else if M2.2.1 0 = 58 then some ((M2.1 58 8), M2) else none) else (if M2.2.1 0 = 53 then some ((M2.1 53 9), M2) else if M2.2.1 0 = 58 then some ((M2.1 58 9), M2) else none)))) else none)))
set_option maxRecDepth 100000 in
set_option maxHeartbeats 4000000 in
theorem ctX11_shares_0 {l : Launch} {n nt : Nat} (hn : 63 ≤ n) (hnt : 1 ≤ nt) {M : me_M} {p0 : Int32} {r : Int32} {M' : me_M} (h : mX11_shares_0 M p0 = some (r, M')) : me_Ct l yX11_shares cX11_shares 2 (some .int) 3 n nt (fun ad => [.ref (ad 0), .int p0]) M (fun _ => some (.int r)) M' := by
  unfold mX11_shares_0 at h
  refine me_enter (N0 := 63) RX11 rfl (plainFor_of_name pl_RX11) hn (Nat.le_trans (by decide) hnt) (fun _ => Nat.le_of_ble_eq_true rfl) ?_
  intro p e R s m args below meth c D cA ad tys A X hr hlk
  refine me_sub (L' := [(0, .ref (ad 0)), (1, .int p0)]) [0, 1] rfl ?_
  refine me_aload_n X (i := 0) 0 rfl dX11_shares_0 ?_
  refine me_iload_n X (i := 1) 1 rfl dX11_shares_1 ?_
  refine me_iconst X dX11_shares_2 ic_2 ?_
  obtain ⟨v1, e1, h⟩ := me_bd h
  refine me_callSi X [.int p0, .int 2] (ctX11_isWhat hn (Nat.le_trans (by decide) hnt) e1) kS_X11_157 rfl rfl (Nat.le_of_ble_eq_true rfl) (Nat.le_refl _) (Nat.le_of_ble_eq_true rfl) dX11_shares_3 ?_
  obtain ⟨_, e2, h⟩ := me_bd h
  refine me_callVv X [.int v1] (ctX11_needArgument_0 hn (Nat.le_trans (by decide) hnt) e2) kV_X11_122 rfl rfl (Nat.le_of_ble_eq_true rfl) me_k0 (Nat.le_of_ble_eq_true rfl) (Nat.le_refl _) (Nat.le_of_ble_eq_true rfl) dX11_shares_6 ?_
  refine me_aload_n X (i := 0) 0 rfl dX11_shares_9 ?_
  by_cases c1 : M.2.1 0 = 53
  · have h := me_ip c1 h
    refine me_getd0 X c1 kF_X11_97 (Nat.le_of_ble_eq_true rfl) me_k0 me_f0_10 dX11_shares_10 ?_
    obtain ⟨M1, e3, h⟩ := me_bd h
    refine me_callVv X [] (ctX5_surveyShares_53 hn (Nat.le_trans (by decide) hnt) e3) kV_X11_266 rfl rfl (Nat.le_of_ble_eq_true rfl) me_k53 (Nat.le_of_ble_eq_true rfl) (Nat.le_refl _) (Nat.le_of_ble_eq_true rfl) dX11_shares_13 ?_
    refine me_iload_n X (i := 1) 1 rfl dX11_shares_16 ?_
    by_cases c2 : p0 = 0
    · have h := me_ip c2 h
      refine me_look X (off := 27) 44 (by decide) (by rw [c2] <;> decide) (by decide) dX11_shares_17 ?_
      refine me_aload_n X (i := 0) 0 rfl dX11_shares_44 ?_
      by_cases c3 : M1.2.1 0 = 53
      · have h := me_ip c3 h
        refine me_getd0 X c3 kF_X11_97 (Nat.le_of_ble_eq_true rfl) me_k0 me_f0_10 dX11_shares_45 ?_
        refine me_geti X kF_X11_269 (Nat.le_of_ble_eq_true rfl) me_k53 me_f53_7 dX11_shares_48 ?_
        obtain ⟨rfl, rfl⟩ := me_sp h
        exact me_iret X hr hlk dX11_shares_51
      · have h := me_in c3 h
        by_cases c3b : M1.2.1 0 = 58
        · have h := me_ip c3b h
          refine me_getd0 X c3b kF_X11_97 (Nat.le_of_ble_eq_true rfl) me_k0 me_f0_10 dX11_shares_45 ?_
          refine me_geti X kF_X11_269 (Nat.le_of_ble_eq_true rfl) me_k58 me_f58_7 dX11_shares_48 ?_
          obtain ⟨rfl, rfl⟩ := me_sp h
          exact me_iret X hr hlk dX11_shares_51
        · have h := me_in c3b h
          cases h
    · have h := me_in c2 h
      by_cases c4 : p0 = 1
      · have h := me_ip c4 h
        refine me_look X (off := 35) 52 (by decide) (by rw [c4] <;> decide) (by decide) dX11_shares_17 ?_
        refine me_aload_n X (i := 0) 0 rfl dX11_shares_52 ?_
        by_cases c5 : M1.2.1 0 = 53
        · have h := me_ip c5 h
          refine me_getd0 X c5 kF_X11_97 (Nat.le_of_ble_eq_true rfl) me_k0 me_f0_10 dX11_shares_53 ?_
          refine me_geti X kF_X11_272 (Nat.le_of_ble_eq_true rfl) me_k53 me_f53_8 dX11_shares_56 ?_
          obtain ⟨rfl, rfl⟩ := me_sp h
          exact me_iret X hr hlk dX11_shares_59
        · have h := me_in c5 h
          by_cases c5b : M1.2.1 0 = 58
          · have h := me_ip c5b h
            refine me_getd0 X c5b kF_X11_97 (Nat.le_of_ble_eq_true rfl) me_k0 me_f0_10 dX11_shares_53 ?_
            refine me_geti X kF_X11_272 (Nat.le_of_ble_eq_true rfl) me_k58 me_f58_8 dX11_shares_56 ?_
            obtain ⟨rfl, rfl⟩ := me_sp h
            exact me_iret X hr hlk dX11_shares_59
          · have h := me_in c5b h
            cases h
      · have h := me_in c4 h
        refine me_look X 60 (off := 43) (by decide) (by show Op.lookupswitch.offset [(0, 27), (1, 35)] 43 _ = _; rw [lv_osw (k := 0) c2 (by decide), lv_osw (k := 1) c4 (by decide)]; rfl) (by decide) dX11_shares_17 ?_
        refine me_aload_n X (i := 0) 0 rfl dX11_shares_60 ?_
        by_cases c6 : M1.2.1 0 = 53
        · have h := me_ip c6 h
          refine me_getd0 X c6 kF_X11_97 (Nat.le_of_ble_eq_true rfl) me_k0 me_f0_10 dX11_shares_61 ?_
          refine me_geti X kF_X11_275 (Nat.le_of_ble_eq_true rfl) me_k53 me_f53_9 dX11_shares_64 ?_
          obtain ⟨rfl, rfl⟩ := me_sp h
          exact me_iret X hr hlk dX11_shares_67
        · have h := me_in c6 h
          by_cases c6b : M1.2.1 0 = 58
          · have h := me_ip c6b h
            refine me_getd0 X c6b kF_X11_97 (Nat.le_of_ble_eq_true rfl) me_k0 me_f0_10 dX11_shares_61 ?_
            refine me_geti X kF_X11_275 (Nat.le_of_ble_eq_true rfl) me_k58 me_f58_9 dX11_shares_64 ?_
            obtain ⟨rfl, rfl⟩ := me_sp h
            exact me_iret X hr hlk dX11_shares_67
          · have h := me_in c6b h
            cases h
  · have h := me_in c1 h
    by_cases c1b : M.2.1 0 = 58
    · have h := me_ip c1b h
      refine me_getd0 X c1b kF_X11_97 (Nat.le_of_ble_eq_true rfl) me_k0 me_f0_10 dX11_shares_10 ?_
      obtain ⟨M2, e4, h⟩ := me_bd h
      refine me_callVv X [] (ctX5_surveyShares_58 hn (Nat.le_trans (by decide) hnt) e4) kV_X11_266 rfl rfl (Nat.le_of_ble_eq_true rfl) me_k58 (Nat.le_of_ble_eq_true rfl) (Nat.le_refl _) (Nat.le_of_ble_eq_true rfl) dX11_shares_13 ?_
      refine me_iload_n X (i := 1) 1 rfl dX11_shares_16 ?_
      by_cases c7 : p0 = 0
      · have h := me_ip c7 h
        refine me_look X (off := 27) 44 (by decide) (by rw [c7] <;> decide) (by decide) dX11_shares_17 ?_
        refine me_aload_n X (i := 0) 0 rfl dX11_shares_44 ?_
        by_cases c8 : M2.2.1 0 = 53
        · have h := me_ip c8 h
          refine me_getd0 X c8 kF_X11_97 (Nat.le_of_ble_eq_true rfl) me_k0 me_f0_10 dX11_shares_45 ?_
          refine me_geti X kF_X11_269 (Nat.le_of_ble_eq_true rfl) me_k53 me_f53_7 dX11_shares_48 ?_
          obtain ⟨rfl, rfl⟩ := me_sp h
          exact me_iret X hr hlk dX11_shares_51
        · have h := me_in c8 h
          by_cases c8b : M2.2.1 0 = 58
          · have h := me_ip c8b h
            refine me_getd0 X c8b kF_X11_97 (Nat.le_of_ble_eq_true rfl) me_k0 me_f0_10 dX11_shares_45 ?_
            refine me_geti X kF_X11_269 (Nat.le_of_ble_eq_true rfl) me_k58 me_f58_7 dX11_shares_48 ?_
            obtain ⟨rfl, rfl⟩ := me_sp h
            exact me_iret X hr hlk dX11_shares_51
          · have h := me_in c8b h
            cases h
      · have h := me_in c7 h
        by_cases c9 : p0 = 1
        · have h := me_ip c9 h
          refine me_look X (off := 35) 52 (by decide) (by rw [c9] <;> decide) (by decide) dX11_shares_17 ?_
          refine me_aload_n X (i := 0) 0 rfl dX11_shares_52 ?_
          by_cases c10 : M2.2.1 0 = 53
          · have h := me_ip c10 h
            refine me_getd0 X c10 kF_X11_97 (Nat.le_of_ble_eq_true rfl) me_k0 me_f0_10 dX11_shares_53 ?_
            refine me_geti X kF_X11_272 (Nat.le_of_ble_eq_true rfl) me_k53 me_f53_8 dX11_shares_56 ?_
            obtain ⟨rfl, rfl⟩ := me_sp h
            exact me_iret X hr hlk dX11_shares_59
          · have h := me_in c10 h
            by_cases c10b : M2.2.1 0 = 58
            · have h := me_ip c10b h
              refine me_getd0 X c10b kF_X11_97 (Nat.le_of_ble_eq_true rfl) me_k0 me_f0_10 dX11_shares_53 ?_
              refine me_geti X kF_X11_272 (Nat.le_of_ble_eq_true rfl) me_k58 me_f58_8 dX11_shares_56 ?_
              obtain ⟨rfl, rfl⟩ := me_sp h
              exact me_iret X hr hlk dX11_shares_59
            · have h := me_in c10b h
              cases h
        · have h := me_in c9 h
          refine me_look X 60 (off := 43) (by decide) (by show Op.lookupswitch.offset [(0, 27), (1, 35)] 43 _ = _; rw [lv_osw (k := 0) c7 (by decide), lv_osw (k := 1) c9 (by decide)]; rfl) (by decide) dX11_shares_17 ?_
          refine me_aload_n X (i := 0) 0 rfl dX11_shares_60 ?_
          by_cases c11 : M2.2.1 0 = 53
          · have h := me_ip c11 h
            refine me_getd0 X c11 kF_X11_97 (Nat.le_of_ble_eq_true rfl) me_k0 me_f0_10 dX11_shares_61 ?_
            refine me_geti X kF_X11_275 (Nat.le_of_ble_eq_true rfl) me_k53 me_f53_9 dX11_shares_64 ?_
            obtain ⟨rfl, rfl⟩ := me_sp h
            exact me_iret X hr hlk dX11_shares_67
          · have h := me_in c11 h
            by_cases c11b : M2.2.1 0 = 58
            · have h := me_ip c11b h
              refine me_getd0 X c11b kF_X11_97 (Nat.le_of_ble_eq_true rfl) me_k0 me_f0_10 dX11_shares_61 ?_
              refine me_geti X kF_X11_275 (Nat.le_of_ble_eq_true rfl) me_k58 me_f58_9 dX11_shares_64 ?_
              obtain ⟨rfl, rfl⟩ := me_sp h
              exact me_iret X hr hlk dX11_shares_67
            · have h := me_in c11b h
              cases h
    · have h := me_in c1b h
      cases h
def mX11_digit_0_J29 (p0 : Int32) (p1 : Int32) (p2 : Int32) (M : me_M) (s1 : Int32) : Option Int32 :=
  ((mX11_needElement_0 s1).bind fun _ => ((mX11_isWhat p2 2).bind fun v3 => ((mX11_needArgument_0 v3).bind fun _ => (if p2 = 0 then (if M.2.1 0 = 53 then ((me_r M 54 40 ((p0 * 5) + p1)).bind fun v5 => some v5) else if M.2.1 0 = 58 then ((me_r M 59 40 ((p0 * 5) + p1)).bind fun v6 => some v6) else none) else (if p2 = 1 then (if M.2.1 0 = 53 then ((me_r M 55 40 ((p0 * 5) + p1)).bind fun v7 => some v7) else if M.2.1 0 = 58 then ((me_r M 60 40 ((p0 * 5) + p1)).bind fun v8 => some v8) else none) else (if M.2.1 0 = 53 then ((me_r M 56 40 ((p0 * 5) + p1)).bind fun v9 => some v9) else if M.2.1 0 = 58 then ((me_r M 61 40 ((p0 * 5) + p1)).bind fun v10 => some v10) else none))))))
def mX11_digit_0_J28 (p0 : Int32) (p1 : Int32) (p2 : Int32) (M : me_M)  : Option Int32 :=
  (mX11_digit_0_J29 p0 p1 p2 M 0)
def mX11_digit_0 (M : me_M) (p0 : Int32) (p1 : Int32) (p2 : Int32) : Option Int32 :=
  ((mX11_isSearch_0 M p0).bind fun v1 => (if v1 = 0 then (mX11_digit_0_J28 p0 p1 p2 M ) else (if p1 < 0 then (mX11_digit_0_J28 p0 p1 p2 M ) else (if M.2.1 0 = 53 then (if (M.1 53 5) ≤ p1 then (mX11_digit_0_J28 p0 p1 p2 M ) else (mX11_digit_0_J29 p0 p1 p2 M 1)) else if M.2.1 0 = 58 then (if (M.1 58 5) ≤ p1 then (mX11_digit_0_J28 p0 p1 p2 M ) else (mX11_digit_0_J29 p0 p1 p2 M 1)) else none))))
set_option maxRecDepth 100000 in
set_option maxHeartbeats 4000000 in
theorem ctX11_digit_0 {l : Launch} {n nt : Nat} (hn : 63 ≤ n) (hnt : 1 ≤ nt) {M : me_M} {p0 : Int32} {p1 : Int32} {p2 : Int32} {r : Int32} (h : mX11_digit_0 M p0 p1 p2 = some r) : me_Ct l yX11_digit cX11_digit 5 (some .int) 1 n nt (fun ad => [.ref (ad 0), .int p0, .int p1, .int p2]) M (fun _ => some (.int r)) M := by
  unfold mX11_digit_0 at h
  refine me_enter (N0 := 63) RX11 rfl (plainFor_of_name pl_RX11) hn (Nat.le_trans (by decide) hnt) (fun _ => Nat.le_of_ble_eq_true rfl) ?_
  intro p e R s m args below meth c D cA ad tys A X hr hlk
  refine me_sub (L' := [(0, .ref (ad 0)), (1, .int p0), (2, .int p1), (3, .int p2)]) [0, 1, 2, 3] rfl ?_
  refine me_aload_n X (i := 0) 0 rfl dX11_digit_0 ?_
  refine me_aload_n X (i := 0) 0 rfl dX11_digit_1 ?_
  refine me_iload_n X (i := 1) 1 rfl dX11_digit_2 ?_
  obtain ⟨v1, e1, h⟩ := me_bd h
  refine me_callVi X [.int p0] (ctX11_isSearch_0 hn (Nat.le_trans (by decide) hnt) e1) kV_X11_281 rfl rfl (Nat.le_of_ble_eq_true rfl) me_k0 (Nat.le_of_ble_eq_true rfl) (Nat.le_refl _) (Nat.le_of_ble_eq_true rfl) dX11_digit_3 ?_
  have hj29_2 : ∀ (s1 : Int32), mX11_digit_0_J29 p0 p1 p2 M s1 = some r → me_W p l e R s m args below meth c 0 0 (MQ below (me_Qc D cA ad n A (some (.int r)) M) args s 0 0 A) D cA ad n 5 A 29 [(0, .ref (ad 0)), (1, .int p0), (2, .int p1), (3, .int p2)] [.int s1, .ref (ad 0)] M := by
    intro s1 h
    unfold mX11_digit_0_J29 at h
    obtain ⟨_, e2, h⟩ := me_bd h
    refine me_callVv X [.int s1] (ctX11_needElement_0 hn (Nat.le_trans (by decide) hnt) e2) kV_X11_206 rfl rfl (Nat.le_of_ble_eq_true rfl) me_k0 (Nat.le_of_ble_eq_true rfl) (Nat.le_refl _) (Nat.le_of_ble_eq_true rfl) dX11_digit_29 ?_
    refine me_aload_n X (i := 0) 0 rfl dX11_digit_32 ?_
    refine me_iload_n X (i := 3) 3 rfl dX11_digit_33 ?_
    refine me_iconst X dX11_digit_34 ic_2 ?_
    obtain ⟨v3, e3, h⟩ := me_bd h
    refine me_callSi X [.int p2, .int 2] (ctX11_isWhat hn (Nat.le_trans (by decide) hnt) e3) kS_X11_157 rfl rfl (Nat.le_of_ble_eq_true rfl) (Nat.le_refl _) (Nat.le_of_ble_eq_true rfl) dX11_digit_35 ?_
    obtain ⟨_, e4, h⟩ := me_bd h
    refine me_callVv X [.int v3] (ctX11_needArgument_0 hn (Nat.le_trans (by decide) hnt) e4) kV_X11_122 rfl rfl (Nat.le_of_ble_eq_true rfl) me_k0 (Nat.le_of_ble_eq_true rfl) (Nat.le_refl _) (Nat.le_of_ble_eq_true rfl) dX11_digit_38 ?_
    refine me_iload_n X (i := 1) 1 rfl dX11_digit_41 ?_
    refine me_iconst X dX11_digit_42 ic_5 ?_
    refine me_imul X dX11_digit_43 ?_
    refine me_iload_n X (i := 2) 2 rfl dX11_digit_44 ?_
    refine me_iadd X dX11_digit_45 ?_
    refine me_istore X (i := 4) [(4, .int ((p0 * 5) + p1)), (0, .ref (ad 0)), (1, .int p0), (2, .int p1), (3, .int p2)] (Nat.le_of_ble_eq_true rfl) rfl dX11_digit_46 ?_
    refine me_iload_n X (i := 3) 4 rfl dX11_digit_48 ?_
    by_cases c6 : p2 = 0
    · have h := me_ip c6 h
      refine me_look X (off := 27) 76 (by decide) (by rw [c6] <;> decide) (by decide) dX11_digit_49 ?_
      refine me_aload_n X (i := 0) 1 rfl dX11_digit_76 ?_
      by_cases c7 : M.2.1 0 = 53
      · have h := me_ip c7 h
        refine me_getd0 X c7 kF_X11_97 (Nat.le_of_ble_eq_true rfl) me_k0 me_f0_10 dX11_digit_77 ?_
        refine me_getr X 54 kF_X11_284 (Nat.le_of_ble_eq_true rfl) me_k53 me_f53_0 dX11_digit_80 ?_
        refine me_iload X (i := 4) 0 rfl dX11_digit_83 ?_
        obtain ⟨v5, e5, h⟩ := me_bd h
        refine me_iald X (Nat.le_of_ble_eq_true rfl) me_k54 e5 dX11_digit_85 ?_
        obtain rfl := me_so h
        exact me_iret X hr hlk dX11_digit_86
      · have h := me_in c7 h
        by_cases c7b : M.2.1 0 = 58
        · have h := me_ip c7b h
          refine me_getd0 X c7b kF_X11_97 (Nat.le_of_ble_eq_true rfl) me_k0 me_f0_10 dX11_digit_77 ?_
          refine me_getr X 59 kF_X11_284 (Nat.le_of_ble_eq_true rfl) me_k58 me_f58_0 dX11_digit_80 ?_
          refine me_iload X (i := 4) 0 rfl dX11_digit_83 ?_
          obtain ⟨v6, e6, h⟩ := me_bd h
          refine me_iald X (Nat.le_of_ble_eq_true rfl) me_k59 e6 dX11_digit_85 ?_
          obtain rfl := me_so h
          exact me_iret X hr hlk dX11_digit_86
        · have h := me_in c7b h
          cases h
    · have h := me_in c6 h
      by_cases c8 : p2 = 1
      · have h := me_ip c8 h
        refine me_look X (off := 38) 87 (by decide) (by rw [c8] <;> decide) (by decide) dX11_digit_49 ?_
        refine me_aload_n X (i := 0) 1 rfl dX11_digit_87 ?_
        by_cases c9 : M.2.1 0 = 53
        · have h := me_ip c9 h
          refine me_getd0 X c9 kF_X11_97 (Nat.le_of_ble_eq_true rfl) me_k0 me_f0_10 dX11_digit_88 ?_
          refine me_getr X 55 kF_X11_287 (Nat.le_of_ble_eq_true rfl) me_k53 me_f53_1 dX11_digit_91 ?_
          refine me_iload X (i := 4) 0 rfl dX11_digit_94 ?_
          obtain ⟨v7, e7, h⟩ := me_bd h
          refine me_iald X (Nat.le_of_ble_eq_true rfl) me_k55 e7 dX11_digit_96 ?_
          obtain rfl := me_so h
          exact me_iret X hr hlk dX11_digit_97
        · have h := me_in c9 h
          by_cases c9b : M.2.1 0 = 58
          · have h := me_ip c9b h
            refine me_getd0 X c9b kF_X11_97 (Nat.le_of_ble_eq_true rfl) me_k0 me_f0_10 dX11_digit_88 ?_
            refine me_getr X 60 kF_X11_287 (Nat.le_of_ble_eq_true rfl) me_k58 me_f58_1 dX11_digit_91 ?_
            refine me_iload X (i := 4) 0 rfl dX11_digit_94 ?_
            obtain ⟨v8, e8, h⟩ := me_bd h
            refine me_iald X (Nat.le_of_ble_eq_true rfl) me_k60 e8 dX11_digit_96 ?_
            obtain rfl := me_so h
            exact me_iret X hr hlk dX11_digit_97
          · have h := me_in c9b h
            cases h
      · have h := me_in c8 h
        refine me_look X 98 (off := 49) (by decide) (by show Op.lookupswitch.offset [(0, 27), (1, 38)] 49 _ = _; rw [lv_osw (k := 0) c6 (by decide), lv_osw (k := 1) c8 (by decide)]; rfl) (by decide) dX11_digit_49 ?_
        refine me_aload_n X (i := 0) 1 rfl dX11_digit_98 ?_
        by_cases c10 : M.2.1 0 = 53
        · have h := me_ip c10 h
          refine me_getd0 X c10 kF_X11_97 (Nat.le_of_ble_eq_true rfl) me_k0 me_f0_10 dX11_digit_99 ?_
          refine me_getr X 56 kF_X11_290 (Nat.le_of_ble_eq_true rfl) me_k53 me_f53_2 dX11_digit_102 ?_
          refine me_iload X (i := 4) 0 rfl dX11_digit_105 ?_
          obtain ⟨v9, e9, h⟩ := me_bd h
          refine me_iald X (Nat.le_of_ble_eq_true rfl) me_k56 e9 dX11_digit_107 ?_
          obtain rfl := me_so h
          exact me_iret X hr hlk dX11_digit_108
        · have h := me_in c10 h
          by_cases c10b : M.2.1 0 = 58
          · have h := me_ip c10b h
            refine me_getd0 X c10b kF_X11_97 (Nat.le_of_ble_eq_true rfl) me_k0 me_f0_10 dX11_digit_99 ?_
            refine me_getr X 61 kF_X11_290 (Nat.le_of_ble_eq_true rfl) me_k58 me_f58_2 dX11_digit_102 ?_
            refine me_iload X (i := 4) 0 rfl dX11_digit_105 ?_
            obtain ⟨v10, e10, h⟩ := me_bd h
            refine me_iald X (Nat.le_of_ble_eq_true rfl) me_k61 e10 dX11_digit_107 ?_
            obtain rfl := me_so h
            exact me_iret X hr hlk dX11_digit_108
          · have h := me_in c10b h
            cases h
  have hj28_1 : mX11_digit_0_J28 p0 p1 p2 M  = some r → me_W p l e R s m args below meth c 0 0 (MQ below (me_Qc D cA ad n A (some (.int r)) M) args s 0 0 A) D cA ad n 5 A 28 [(0, .ref (ad 0)), (1, .int p0), (2, .int p1), (3, .int p2)] [.ref (ad 0)] M := by
    intro h
    unfold mX11_digit_0_J28 at h
    refine me_iconst X dX11_digit_28 ic_0 ?_
    exact hj29_2 0 h
  refine me_if_eq X 28 (by decide) dX11_digit_6 (fun c1 => ?_) (fun c1 => ?_)
  · have h := me_ip c1 h
    exact hj28_1  h
  · have h := me_in c1 h
    refine me_iload_n X (i := 2) 2 rfl dX11_digit_9 ?_
    refine me_if_lt X 28 (by decide) dX11_digit_10 (fun c2 => ?_) (fun c2 => ?_)
    · have h := me_ip c2 h
      exact hj28_1  h
    · have h := me_in c2 h
      refine me_iload_n X (i := 2) 2 rfl dX11_digit_13 ?_
      refine me_aload_n X (i := 0) 0 rfl dX11_digit_14 ?_
      by_cases c3 : M.2.1 0 = 53
      · have h := me_ip c3 h
        refine me_getd0 X c3 kF_X11_97 (Nat.le_of_ble_eq_true rfl) me_k0 me_f0_10 dX11_digit_15 ?_
        refine me_geti X kF_X11_196 (Nat.le_of_ble_eq_true rfl) me_k53 me_f53_5 dX11_digit_18 ?_
        refine me_icmp_ge X 28 (by decide) dX11_digit_21 (fun c4 => ?_) (fun c4 => ?_)
        · have h := me_ip c4 h
          exact hj28_1  h
        · have h := me_in c4 h
          refine me_iconst X dX11_digit_24 ic_1 ?_
          refine me_goto X 29 (by decide) dX11_digit_25 ?_
          exact hj29_2 1 h
      · have h := me_in c3 h
        by_cases c3b : M.2.1 0 = 58
        · have h := me_ip c3b h
          refine me_getd0 X c3b kF_X11_97 (Nat.le_of_ble_eq_true rfl) me_k0 me_f0_10 dX11_digit_15 ?_
          refine me_geti X kF_X11_196 (Nat.le_of_ble_eq_true rfl) me_k58 me_f58_5 dX11_digit_18 ?_
          refine me_icmp_ge X 28 (by decide) dX11_digit_21 (fun c5 => ?_) (fun c5 => ?_)
          · have h := me_ip c5 h
            exact hj28_1  h
          · have h := me_in c5 h
            refine me_iconst X dX11_digit_24 ic_1 ?_
            refine me_goto X 29 (by decide) dX11_digit_25 ?_
            exact hj29_2 1 h
        · have h := me_in c3b h
          cases h
def mX11_search_0_L77 (p0 : Int32) : (Int32 × me_M) → Option ((Int32 × me_M) ⊕ (me_M))
  | (x2_1, M3) => (if M3.2.1 0 = 53 then (if (M3.1 53 4) ≤ x2_1 then some (.inr M3) else (if M3.2.1 0 = 53 then ((mX1_run_36_53_48 M3 x2_1 p0).bind fun M4 => some (.inl ((x2_1 + 1), M4))) else if M3.2.1 0 = 58 then ((mX1_run_36_58_48 M3 x2_1 p0).bind fun M5 => some (.inl ((x2_1 + 1), M5))) else none)) else if M3.2.1 0 = 58 then (if (M3.1 58 4) ≤ x2_1 then some (.inr M3) else (if M3.2.1 0 = 53 then ((mX1_run_36_53_48 M3 x2_1 p0).bind fun M6 => some (.inl ((x2_1 + 1), M6))) else if M3.2.1 0 = 58 then ((mX1_run_36_58_48 M3 x2_1 p0).bind fun M7 => some (.inl ((x2_1 + 1), M7))) else none)) else none)
def mX11_search_0_J45 (p0 : Int32) (M : me_M) (s1 : Int32) : Option (Int32 × me_M) :=
  ((mX11_needArgument_0 s1).bind fun _ => ((mX3_takePattern_47_1 M p0).bind fun M1 => ((mX1_forget_36 (me_s M1 1 1 0)).bind fun M2 => ((me_l (mX11_search_0_L77 p0) me_fu (0, M2)).bind fun M8 => ((mX3_gather_47_36 M8 (M8.1 3 5)).bind fun M9 => some ((M9.1 47 6), M9))))))
def mX11_search_0_J44 (p0 : Int32) (M : me_M)  : Option (Int32 × me_M) :=
  (mX11_search_0_J45 p0 M 0)
def mX11_search_0 (M : me_M) (p0 : Int32) : Option (Int32 × me_M) :=
  ((mX9_holds_1 M p0).bind fun v1 => (if v1 = 0 then (mX11_search_0_J44 p0 M ) else (if M.2.1 0 = 53 then (if p0 < (M.1 53 5) then (mX11_search_0_J44 p0 M ) else (if 24 < p0 then (mX11_search_0_J44 p0 M ) else ((mX9_lettersAlone_1 M p0).bind fun v2 => (if v2 = 0 then (mX11_search_0_J44 p0 M ) else (mX11_search_0_J45 p0 M 1))))) else if M.2.1 0 = 58 then (if p0 < (M.1 58 5) then (mX11_search_0_J44 p0 M ) else (if 24 < p0 then (mX11_search_0_J44 p0 M ) else ((mX9_lettersAlone_1 M p0).bind fun v3 => (if v3 = 0 then (mX11_search_0_J44 p0 M ) else (mX11_search_0_J45 p0 M 1))))) else none)))
set_option maxRecDepth 100000 in
set_option maxHeartbeats 4000000 in
theorem ctX11_search_0 {l : Launch} {n nt : Nat} (hn : 63 ≤ n) (hnt : 1 ≤ nt) {M : me_M} {p0 : Int32} {r : Int32} {M' : me_M} (h : mX11_search_0 M p0 = some (r, M')) : me_Ct l yX11_search cX11_search 3 (some .int) 32 n nt (fun ad => [.ref (ad 0), .int p0]) M (fun _ => some (.int r)) M' := by
  unfold mX11_search_0 at h
  refine me_enter (N0 := 63) RX11 rfl (plainFor_of_name pl_RX11) hn (Nat.le_trans (by decide) hnt) (fun _ => Nat.le_of_ble_eq_true rfl) ?_
  intro p e R s m args below meth c D cA ad tys A X hr hlk
  refine me_sub (L' := [(0, .ref (ad 0)), (1, .int p0)]) [0, 1] rfl ?_
  refine me_aload_n X (i := 0) 0 rfl dX11_search_0 ?_
  refine me_aload_n X (i := 0) 0 rfl dX11_search_1 ?_
  refine me_getr X 1 kF_X11_10 (Nat.le_of_ble_eq_true rfl) me_k0 me_f0_0 dX11_search_2 ?_
  refine me_iload_n X (i := 1) 1 rfl dX11_search_5 ?_
  obtain ⟨v1, e1, h⟩ := me_bd h
  refine me_callVi X [.int p0] (ctX9_holds_1 hn (Nat.le_trans (by decide) hnt) e1) kV_X11_118 rfl rfl (Nat.le_of_ble_eq_true rfl) me_k1 (Nat.le_of_ble_eq_true rfl) (Nat.le_refl _) (Nat.le_of_ble_eq_true rfl) dX11_search_6 ?_
  have hj45_2 : ∀ (s1 : Int32), mX11_search_0_J45 p0 M s1 = some (r, M') → me_W p l e R s m args below meth c 0 0 (MQ below (me_Qc D cA ad n A (some (.int r)) M') args s 0 0 A) D cA ad n 3 A 45 [(0, .ref (ad 0)), (1, .int p0)] [.int s1, .ref (ad 0)] M := by
    intro s1 h
    unfold mX11_search_0_J45 at h
    obtain ⟨_, e4, h⟩ := me_bd h
    refine me_callVv X [.int s1] (ctX11_needArgument_0 hn (Nat.le_trans (by decide) hnt) e4) kV_X11_122 rfl rfl (Nat.le_of_ble_eq_true rfl) me_k0 (Nat.le_of_ble_eq_true rfl) (Nat.le_refl _) (Nat.le_of_ble_eq_true rfl) dX11_search_45 ?_
    refine me_aload_n X (i := 0) 0 rfl dX11_search_48 ?_
    refine me_getr X 47 kF_X11_81 (Nat.le_of_ble_eq_true rfl) me_k0 me_f0_8 dX11_search_49 ?_
    refine me_aload_n X (i := 0) 0 rfl dX11_search_52 ?_
    refine me_getr X 1 kF_X11_10 (Nat.le_of_ble_eq_true rfl) me_k0 me_f0_0 dX11_search_53 ?_
    refine me_iload_n X (i := 1) 1 rfl dX11_search_56 ?_
    obtain ⟨M1, e5, h⟩ := me_bd h
    refine me_callVv X [.ref (ad 1), .int p0] (ctX3_takePattern_47_1 hn (Nat.le_trans (by decide) hnt) e5) kV_X11_293 rfl rfl (Nat.le_of_ble_eq_true rfl) me_k47 (Nat.le_of_ble_eq_true rfl) (Nat.le_refl _) (Nat.le_of_ble_eq_true rfl) dX11_search_57 ?_
    refine me_aload_n X (i := 0) 0 rfl dX11_search_60 ?_
    refine me_getr X 1 kF_X11_10 (Nat.le_of_ble_eq_true rfl) me_k0 me_f0_0 dX11_search_61 ?_
    refine me_iconst X dX11_search_64 ic_0 ?_
    refine me_puti X kG_X11_111 (Nat.le_of_ble_eq_true rfl) me_k1 me_f1_1 dX11_search_65 ?_
    refine me_aload_n X (i := 0) 0 rfl dX11_search_68 ?_
    refine me_getr X 36 kF_X11_74 (Nat.le_of_ble_eq_true rfl) me_k0 me_f0_7 dX11_search_69 ?_
    obtain ⟨M2, e6, h⟩ := me_bd h
    refine me_callVv X [] (ctX1_forget_36 hn (Nat.le_trans (by decide) hnt) e6) kV_X11_296 rfl rfl (Nat.le_of_ble_eq_true rfl) me_k36 (Nat.le_of_ble_eq_true rfl) (Nat.le_refl _) (Nat.le_of_ble_eq_true rfl) dX11_search_72 ?_
    refine me_iconst X dX11_search_75 ic_0 ?_
    refine me_istore_n X (i := 2) [(2, .int 0), (0, .ref (ad 0)), (1, .int p0)] (Nat.le_of_ble_eq_true rfl) rfl dX11_search_76 ?_
    obtain ⟨M8, hq1, h⟩ := me_bd h
    have hx1 : me_W p l e R s m args below meth c 0 0 (MQ below (me_Qc D cA ad n A (some (.int r)) M') args s 0 0 A) D cA ad n 3 A 114 [(0, .ref (ad 0))] [] M8 := by
      refine me_aload_n X (i := 0) 0 rfl dX11_search_114 ?_
      refine me_getr X 47 kF_X11_81 (Nat.le_of_ble_eq_true rfl) me_k0 me_f0_8 dX11_search_115 ?_
      refine me_aload_n X (i := 0) 0 rfl dX11_search_118 ?_
      refine me_getr X 36 kF_X11_74 (Nat.le_of_ble_eq_true rfl) me_k0 me_f0_7 dX11_search_119 ?_
      refine me_aload_n X (i := 0) 0 rfl dX11_search_122 ?_
      refine me_getr X 3 kF_X11_19 (Nat.le_of_ble_eq_true rfl) me_k0 me_f0_1 dX11_search_123 ?_
      refine me_geti X kF_X11_176 (Nat.le_of_ble_eq_true rfl) me_k3 me_f3_5 dX11_search_126 ?_
      obtain ⟨M9, e11, h⟩ := me_bd h
      refine me_callVv X [.ref (ad 36), .int (M8.1 3 5)] (ctX3_gather_47_36 hn (Nat.le_trans (by decide) hnt) e11) kV_X11_306 rfl rfl (Nat.le_of_ble_eq_true rfl) me_k47 (Nat.le_of_ble_eq_true rfl) (Nat.le_refl _) (Nat.le_of_ble_eq_true rfl) dX11_search_129 ?_
      refine me_aload_n X (i := 0) 0 rfl dX11_search_132 ?_
      refine me_getr X 47 kF_X11_81 (Nat.le_of_ble_eq_true rfl) me_k0 me_f0_8 dX11_search_133 ?_
      refine me_geti X kF_X11_202 (Nat.le_of_ble_eq_true rfl) me_k47 me_f47_6 dX11_search_136 ?_
      obtain ⟨rfl, rfl⟩ := me_sp h
      exact me_iret X hr hlk dX11_search_139
    refine me_sub (L' := [(0, .ref (ad 0)), (1, .int p0), (2, .int 0)]) [1, 2, 0] rfl ?_
    refine me_l_W (b := (mX11_search_0_L77 p0)) (P := fun w => me_W p l e R s m args below meth c 0 0 (MQ below (me_Qc D cA ad n A (some (.int r)) M') args s 0 0 A) D cA ad n 3 A 77 [(0, .ref (ad 0)), (1, .int p0), (2, .int w.1)] [] w.2) (r := M8) ?_ me_fu (0, M2) hq1
    rintro ⟨x2_1, M3⟩ z1 h hb1 - hr1
    unfold mX11_search_0_L77 at h
    refine me_iload_n X (i := 2) 2 rfl dX11_search_77 ?_
    refine me_aload_n X (i := 0) 0 rfl dX11_search_78 ?_
    by_cases c9 : M3.2.1 0 = 53
    · have h := me_ip c9 h
      refine me_getd0 X c9 kF_X11_97 (Nat.le_of_ble_eq_true rfl) me_k0 me_f0_10 dX11_search_79 ?_
      refine me_geti X kF_X11_148 (Nat.le_of_ble_eq_true rfl) me_k53 me_f53_4 dX11_search_82 ?_
      refine me_icmp_ge X 114 (by decide) dX11_search_85 (fun c10 => ?_) (fun c10 => ?_)
      · have h := me_ip c10 h
        obtain rfl := me_so h
        have q := hr1 _ rfl
        refine me_sub (L' := [(0, .ref (ad 0))]) [0] rfl ?_
        cases q
        exact hx1
      · have h := me_in c10 h
        refine me_aload_n X (i := 0) 0 rfl dX11_search_88 ?_
        refine me_getr X 36 kF_X11_74 (Nat.le_of_ble_eq_true rfl) me_k0 me_f0_7 dX11_search_89 ?_
        refine me_aload_n X (i := 0) 0 rfl dX11_search_92 ?_
        by_cases c11 : M3.2.1 0 = 53
        · have h := me_ip c11 h
          refine me_getd0 X c11 kF_X11_97 (Nat.le_of_ble_eq_true rfl) me_k0 me_f0_10 dX11_search_93 ?_
          refine me_iload_n X (i := 2) 2 rfl dX11_search_96 ?_
          refine me_aload_n X (i := 0) 0 rfl dX11_search_97 ?_
          refine me_getr X 47 kF_X11_81 (Nat.le_of_ble_eq_true rfl) me_k0 me_f0_8 dX11_search_98 ?_
          refine me_getr X 48 kF_X11_299 (Nat.le_of_ble_eq_true rfl) me_k47 me_f47_0 dX11_search_101 ?_
          refine me_iload_n X (i := 1) 1 rfl dX11_search_104 ?_
          obtain ⟨M4, e7, h⟩ := me_bd h
          refine me_callVv X [.ref (ad 53), .int x2_1, .ref (ad 48), .int p0] (ctX1_run_36_53_48 hn (Nat.le_trans (by decide) hnt) e7) kV_X11_302 rfl rfl (Nat.le_of_ble_eq_true rfl) me_k36 (Nat.le_of_ble_eq_true rfl) (Nat.le_refl _) (Nat.le_of_ble_eq_true rfl) dX11_search_105 ?_
          refine me_iinc X (v := (x2_1 + 1)) 2 rfl (in_1 _) [(2, .int (x2_1 + 1)), (0, .ref (ad 0)), (1, .int p0)] (Nat.le_of_ble_eq_true rfl) rfl dX11_search_108 ?_
          refine me_goto X 77 (by decide) dX11_search_111 ?_
          obtain rfl := me_so h
          refine me_sub (L' := [(0, .ref (ad 0)), (1, .int p0), (2, .int (x2_1 + 1))]) [1, 2, 0] rfl ?_
          exact hb1 ((x2_1 + 1), M4) rfl
        · have h := me_in c11 h
          by_cases c11b : M3.2.1 0 = 58
          · have h := me_ip c11b h
            refine me_getd0 X c11b kF_X11_97 (Nat.le_of_ble_eq_true rfl) me_k0 me_f0_10 dX11_search_93 ?_
            refine me_iload_n X (i := 2) 2 rfl dX11_search_96 ?_
            refine me_aload_n X (i := 0) 0 rfl dX11_search_97 ?_
            refine me_getr X 47 kF_X11_81 (Nat.le_of_ble_eq_true rfl) me_k0 me_f0_8 dX11_search_98 ?_
            refine me_getr X 48 kF_X11_299 (Nat.le_of_ble_eq_true rfl) me_k47 me_f47_0 dX11_search_101 ?_
            refine me_iload_n X (i := 1) 1 rfl dX11_search_104 ?_
            obtain ⟨M5, e8, h⟩ := me_bd h
            refine me_callVv X [.ref (ad 58), .int x2_1, .ref (ad 48), .int p0] (ctX1_run_36_58_48 hn (Nat.le_trans (by decide) hnt) e8) kV_X11_302 rfl rfl (Nat.le_of_ble_eq_true rfl) me_k36 (Nat.le_of_ble_eq_true rfl) (Nat.le_refl _) (Nat.le_of_ble_eq_true rfl) dX11_search_105 ?_
            refine me_iinc X (v := (x2_1 + 1)) 2 rfl (in_1 _) [(2, .int (x2_1 + 1)), (0, .ref (ad 0)), (1, .int p0)] (Nat.le_of_ble_eq_true rfl) rfl dX11_search_108 ?_
            refine me_goto X 77 (by decide) dX11_search_111 ?_
            obtain rfl := me_so h
            refine me_sub (L' := [(0, .ref (ad 0)), (1, .int p0), (2, .int (x2_1 + 1))]) [1, 2, 0] rfl ?_
            exact hb1 ((x2_1 + 1), M5) rfl
          · have h := me_in c11b h
            cases h
    · have h := me_in c9 h
      by_cases c9b : M3.2.1 0 = 58
      · have h := me_ip c9b h
        refine me_getd0 X c9b kF_X11_97 (Nat.le_of_ble_eq_true rfl) me_k0 me_f0_10 dX11_search_79 ?_
        refine me_geti X kF_X11_148 (Nat.le_of_ble_eq_true rfl) me_k58 me_f58_4 dX11_search_82 ?_
        refine me_icmp_ge X 114 (by decide) dX11_search_85 (fun c12 => ?_) (fun c12 => ?_)
        · have h := me_ip c12 h
          obtain rfl := me_so h
          have q := hr1 _ rfl
          refine me_sub (L' := [(0, .ref (ad 0))]) [0] rfl ?_
          cases q
          exact hx1
        · have h := me_in c12 h
          refine me_aload_n X (i := 0) 0 rfl dX11_search_88 ?_
          refine me_getr X 36 kF_X11_74 (Nat.le_of_ble_eq_true rfl) me_k0 me_f0_7 dX11_search_89 ?_
          refine me_aload_n X (i := 0) 0 rfl dX11_search_92 ?_
          by_cases c13 : M3.2.1 0 = 53
          · have h := me_ip c13 h
            refine me_getd0 X c13 kF_X11_97 (Nat.le_of_ble_eq_true rfl) me_k0 me_f0_10 dX11_search_93 ?_
            refine me_iload_n X (i := 2) 2 rfl dX11_search_96 ?_
            refine me_aload_n X (i := 0) 0 rfl dX11_search_97 ?_
            refine me_getr X 47 kF_X11_81 (Nat.le_of_ble_eq_true rfl) me_k0 me_f0_8 dX11_search_98 ?_
            refine me_getr X 48 kF_X11_299 (Nat.le_of_ble_eq_true rfl) me_k47 me_f47_0 dX11_search_101 ?_
            refine me_iload_n X (i := 1) 1 rfl dX11_search_104 ?_
            obtain ⟨M6, e9, h⟩ := me_bd h
            refine me_callVv X [.ref (ad 53), .int x2_1, .ref (ad 48), .int p0] (ctX1_run_36_53_48 hn (Nat.le_trans (by decide) hnt) e9) kV_X11_302 rfl rfl (Nat.le_of_ble_eq_true rfl) me_k36 (Nat.le_of_ble_eq_true rfl) (Nat.le_refl _) (Nat.le_of_ble_eq_true rfl) dX11_search_105 ?_
            refine me_iinc X (v := (x2_1 + 1)) 2 rfl (in_1 _) [(2, .int (x2_1 + 1)), (0, .ref (ad 0)), (1, .int p0)] (Nat.le_of_ble_eq_true rfl) rfl dX11_search_108 ?_
            refine me_goto X 77 (by decide) dX11_search_111 ?_
            obtain rfl := me_so h
            refine me_sub (L' := [(0, .ref (ad 0)), (1, .int p0), (2, .int (x2_1 + 1))]) [1, 2, 0] rfl ?_
            exact hb1 ((x2_1 + 1), M6) rfl
          · have h := me_in c13 h
            by_cases c13b : M3.2.1 0 = 58
            · have h := me_ip c13b h
              refine me_getd0 X c13b kF_X11_97 (Nat.le_of_ble_eq_true rfl) me_k0 me_f0_10 dX11_search_93 ?_
              refine me_iload_n X (i := 2) 2 rfl dX11_search_96 ?_
              refine me_aload_n X (i := 0) 0 rfl dX11_search_97 ?_
              refine me_getr X 47 kF_X11_81 (Nat.le_of_ble_eq_true rfl) me_k0 me_f0_8 dX11_search_98 ?_
              refine me_getr X 48 kF_X11_299 (Nat.le_of_ble_eq_true rfl) me_k47 me_f47_0 dX11_search_101 ?_
              refine me_iload_n X (i := 1) 1 rfl dX11_search_104 ?_
              obtain ⟨M7, e10, h⟩ := me_bd h
              refine me_callVv X [.ref (ad 58), .int x2_1, .ref (ad 48), .int p0] (ctX1_run_36_58_48 hn (Nat.le_trans (by decide) hnt) e10) kV_X11_302 rfl rfl (Nat.le_of_ble_eq_true rfl) me_k36 (Nat.le_of_ble_eq_true rfl) (Nat.le_refl _) (Nat.le_of_ble_eq_true rfl) dX11_search_105 ?_
              refine me_iinc X (v := (x2_1 + 1)) 2 rfl (in_1 _) [(2, .int (x2_1 + 1)), (0, .ref (ad 0)), (1, .int p0)] (Nat.le_of_ble_eq_true rfl) rfl dX11_search_108 ?_
              refine me_goto X 77 (by decide) dX11_search_111 ?_
              obtain rfl := me_so h
              refine me_sub (L' := [(0, .ref (ad 0)), (1, .int p0), (2, .int (x2_1 + 1))]) [1, 2, 0] rfl ?_
              exact hb1 ((x2_1 + 1), M7) rfl
            · have h := me_in c13b h
              cases h
      · have h := me_in c9b h
        cases h
  have hj44_1 : mX11_search_0_J44 p0 M  = some (r, M') → me_W p l e R s m args below meth c 0 0 (MQ below (me_Qc D cA ad n A (some (.int r)) M') args s 0 0 A) D cA ad n 3 A 44 [(0, .ref (ad 0)), (1, .int p0)] [.ref (ad 0)] M := by
    intro h
    unfold mX11_search_0_J44 at h
    refine me_iconst X dX11_search_44 ic_0 ?_
    exact hj45_2 0 h
  refine me_if_eq X 44 (by decide) dX11_search_9 (fun c1 => ?_) (fun c1 => ?_)
  · have h := me_ip c1 h
    exact hj44_1  h
  · have h := me_in c1 h
    refine me_iload_n X (i := 1) 1 rfl dX11_search_12 ?_
    refine me_aload_n X (i := 0) 0 rfl dX11_search_13 ?_
    by_cases c2 : M.2.1 0 = 53
    · have h := me_ip c2 h
      refine me_getd0 X c2 kF_X11_97 (Nat.le_of_ble_eq_true rfl) me_k0 me_f0_10 dX11_search_14 ?_
      refine me_geti X kF_X11_196 (Nat.le_of_ble_eq_true rfl) me_k53 me_f53_5 dX11_search_17 ?_
      refine me_icmp_lt X 44 (by decide) dX11_search_20 (fun c3 => ?_) (fun c3 => ?_)
      · have h := me_ip c3 h
        exact hj44_1  h
      · have h := me_in c3 h
        refine me_iload_n X (i := 1) 1 rfl dX11_search_23 ?_
        refine me_bipush X dX11_search_24 ib_24 ?_
        refine me_icmp_gt X 44 (by decide) dX11_search_26 (fun c4 => ?_) (fun c4 => ?_)
        · have h := me_ip c4 h
          exact hj44_1  h
        · have h := me_in c4 h
          refine me_aload_n X (i := 0) 0 rfl dX11_search_29 ?_
          refine me_getr X 1 kF_X11_10 (Nat.le_of_ble_eq_true rfl) me_k0 me_f0_0 dX11_search_30 ?_
          refine me_iload_n X (i := 1) 1 rfl dX11_search_33 ?_
          obtain ⟨v2, e2, h⟩ := me_bd h
          refine me_callVi X [.int p0] (ctX9_lettersAlone_1 hn (Nat.le_trans (by decide) hnt) e2) kV_X11_259 rfl rfl (Nat.le_of_ble_eq_true rfl) me_k1 (Nat.le_of_ble_eq_true rfl) (Nat.le_refl _) (Nat.le_of_ble_eq_true rfl) dX11_search_34 ?_
          refine me_if_eq X 44 (by decide) dX11_search_37 (fun c5 => ?_) (fun c5 => ?_)
          · have h := me_ip c5 h
            exact hj44_1  h
          · have h := me_in c5 h
            refine me_iconst X dX11_search_40 ic_1 ?_
            refine me_goto X 45 (by decide) dX11_search_41 ?_
            exact hj45_2 1 h
    · have h := me_in c2 h
      by_cases c2b : M.2.1 0 = 58
      · have h := me_ip c2b h
        refine me_getd0 X c2b kF_X11_97 (Nat.le_of_ble_eq_true rfl) me_k0 me_f0_10 dX11_search_14 ?_
        refine me_geti X kF_X11_196 (Nat.le_of_ble_eq_true rfl) me_k58 me_f58_5 dX11_search_17 ?_
        refine me_icmp_lt X 44 (by decide) dX11_search_20 (fun c6 => ?_) (fun c6 => ?_)
        · have h := me_ip c6 h
          exact hj44_1  h
        · have h := me_in c6 h
          refine me_iload_n X (i := 1) 1 rfl dX11_search_23 ?_
          refine me_bipush X dX11_search_24 ib_24 ?_
          refine me_icmp_gt X 44 (by decide) dX11_search_26 (fun c7 => ?_) (fun c7 => ?_)
          · have h := me_ip c7 h
            exact hj44_1  h
          · have h := me_in c7 h
            refine me_aload_n X (i := 0) 0 rfl dX11_search_29 ?_
            refine me_getr X 1 kF_X11_10 (Nat.le_of_ble_eq_true rfl) me_k0 me_f0_0 dX11_search_30 ?_
            refine me_iload_n X (i := 1) 1 rfl dX11_search_33 ?_
            obtain ⟨v3, e3, h⟩ := me_bd h
            refine me_callVi X [.int p0] (ctX9_lettersAlone_1 hn (Nat.le_trans (by decide) hnt) e3) kV_X11_259 rfl rfl (Nat.le_of_ble_eq_true rfl) me_k1 (Nat.le_of_ble_eq_true rfl) (Nat.le_refl _) (Nat.le_of_ble_eq_true rfl) dX11_search_34 ?_
            refine me_if_eq X 44 (by decide) dX11_search_37 (fun c8 => ?_) (fun c8 => ?_)
            · have h := me_ip c8 h
              exact hj44_1  h
            · have h := me_in c8 h
              refine me_iconst X dX11_search_40 ic_1 ?_
              refine me_goto X 45 (by decide) dX11_search_41 ?_
              exact hj45_2 1 h
      · have h := me_in c2b h
        cases h
def mX11_found_0_J31 (p0 : Int32) (p1 : Int32) (M : me_M) (s1 : Int32) : Option Int32 :=
  ((mX11_needElement_0 s1).bind fun _ => ((mX11_isWhat p1 3).bind fun v2 => ((mX11_needArgument_0 v2).bind fun _ => (if p1 = 0 then ((me_r M 49 241 p0).bind fun v4 => some v4) else (if p1 = 1 then ((me_r M 50 241 p0).bind fun v5 => some v5) else (if p1 = 2 then ((me_r M 51 241 p0).bind fun v6 => some v6) else ((me_r M 49 241 p0).bind fun v7 => ((mX3_unlikeBits_47_3 M v7).bind fun v8 => some v8))))))))
def mX11_found_0_J30 (p0 : Int32) (p1 : Int32) (M : me_M)  : Option Int32 :=
  (mX11_found_0_J31 p0 p1 M 0)
def mX11_found_0 (M : me_M) (p0 : Int32) (p1 : Int32) : Option Int32 :=
  (if (M.1 47 4) = 0 then (mX11_found_0_J30 p0 p1 M ) else (if p0 < 0 then (mX11_found_0_J30 p0 p1 M ) else (if (M.1 47 6) ≤ p0 then (mX11_found_0_J30 p0 p1 M ) else (mX11_found_0_J31 p0 p1 M 1))))
set_option maxRecDepth 100000 in
set_option maxHeartbeats 4000000 in
theorem ctX11_found_0 {l : Launch} {n nt : Nat} (hn : 63 ≤ n) (hnt : 1 ≤ nt) {M : me_M} {p0 : Int32} {p1 : Int32} {r : Int32} (h : mX11_found_0 M p0 p1 = some r) : me_Ct l yX11_found cX11_found 3 (some .int) 1 n nt (fun ad => [.ref (ad 0), .int p0, .int p1]) M (fun _ => some (.int r)) M := by
  unfold mX11_found_0 at h
  refine me_enter (N0 := 63) RX11 rfl (plainFor_of_name pl_RX11) hn (Nat.le_trans (by decide) hnt) (fun _ => Nat.le_of_ble_eq_true rfl) ?_
  intro p e R s m args below meth c D cA ad tys A X hr hlk
  refine me_sub (L' := [(0, .ref (ad 0)), (1, .int p0), (2, .int p1)]) [0, 1, 2] rfl ?_
  refine me_aload_n X (i := 0) 0 rfl dX11_found_0 ?_
  refine me_aload_n X (i := 0) 0 rfl dX11_found_1 ?_
  refine me_getr X 47 kF_X11_81 (Nat.le_of_ble_eq_true rfl) me_k0 me_f0_8 dX11_found_2 ?_
  refine me_geti X kF_X11_134 (Nat.le_of_ble_eq_true rfl) me_k47 me_f47_4 dX11_found_5 ?_
  have hj31_2 : ∀ (s1 : Int32), mX11_found_0_J31 p0 p1 M s1 = some r → me_W p l e R s m args below meth c 0 0 (MQ below (me_Qc D cA ad n A (some (.int r)) M) args s 0 0 A) D cA ad n 3 A 31 [(0, .ref (ad 0)), (1, .int p0), (2, .int p1)] [.int s1, .ref (ad 0)] M := by
    intro s1 h
    unfold mX11_found_0_J31 at h
    obtain ⟨_, e1, h⟩ := me_bd h
    refine me_callVv X [.int s1] (ctX11_needElement_0 hn (Nat.le_trans (by decide) hnt) e1) kV_X11_206 rfl rfl (Nat.le_of_ble_eq_true rfl) me_k0 (Nat.le_of_ble_eq_true rfl) (Nat.le_refl _) (Nat.le_of_ble_eq_true rfl) dX11_found_31 ?_
    refine me_aload_n X (i := 0) 0 rfl dX11_found_34 ?_
    refine me_iload_n X (i := 2) 2 rfl dX11_found_35 ?_
    refine me_iconst X dX11_found_36 ic_3 ?_
    obtain ⟨v2, e2, h⟩ := me_bd h
    refine me_callSi X [.int p1, .int 3] (ctX11_isWhat hn (Nat.le_trans (by decide) hnt) e2) kS_X11_157 rfl rfl (Nat.le_of_ble_eq_true rfl) (Nat.le_refl _) (Nat.le_of_ble_eq_true rfl) dX11_found_37 ?_
    obtain ⟨_, e3, h⟩ := me_bd h
    refine me_callVv X [.int v2] (ctX11_needArgument_0 hn (Nat.le_trans (by decide) hnt) e3) kV_X11_122 rfl rfl (Nat.le_of_ble_eq_true rfl) me_k0 (Nat.le_of_ble_eq_true rfl) (Nat.le_refl _) (Nat.le_of_ble_eq_true rfl) dX11_found_40 ?_
    refine me_iload_n X (i := 2) 2 rfl dX11_found_43 ?_
    by_cases c4 : p1 = 0
    · have h := me_ip c4 h
      refine me_tin X (off := 28) 72 (by rw [c4]; decide) (by rw [c4]; decide) (by rw [c4] <;> decide) (by decide) dX11_found_44 ?_
      refine me_aload_n X (i := 0) 0 rfl dX11_found_72 ?_
      refine me_getr X 47 kF_X11_81 (Nat.le_of_ble_eq_true rfl) me_k0 me_f0_8 dX11_found_73 ?_
      refine me_getr X 49 kF_X11_310 (Nat.le_of_ble_eq_true rfl) me_k47 me_f47_1 dX11_found_76 ?_
      refine me_iload_n X (i := 1) 1 rfl dX11_found_79 ?_
      obtain ⟨v4, e4, h⟩ := me_bd h
      refine me_iald X (Nat.le_of_ble_eq_true rfl) me_k49 e4 dX11_found_80 ?_
      obtain rfl := me_so h
      exact me_iret X hr hlk dX11_found_81
    · have h := me_in c4 h
      by_cases c5 : p1 = 1
      · have h := me_ip c5 h
        refine me_tin X (off := 38) 82 (by rw [c5]; decide) (by rw [c5]; decide) (by rw [c5] <;> decide) (by decide) dX11_found_44 ?_
        refine me_aload_n X (i := 0) 0 rfl dX11_found_82 ?_
        refine me_getr X 47 kF_X11_81 (Nat.le_of_ble_eq_true rfl) me_k0 me_f0_8 dX11_found_83 ?_
        refine me_getr X 50 kF_X11_311 (Nat.le_of_ble_eq_true rfl) me_k47 me_f47_2 dX11_found_86 ?_
        refine me_iload_n X (i := 1) 1 rfl dX11_found_89 ?_
        obtain ⟨v5, e5, h⟩ := me_bd h
        refine me_iald X (Nat.le_of_ble_eq_true rfl) me_k50 e5 dX11_found_90 ?_
        obtain rfl := me_so h
        exact me_iret X hr hlk dX11_found_91
      · have h := me_in c5 h
        by_cases c6 : p1 = 2
        · have h := me_ip c6 h
          refine me_tin X (off := 48) 92 (by rw [c6]; decide) (by rw [c6]; decide) (by rw [c6] <;> decide) (by decide) dX11_found_44 ?_
          refine me_aload_n X (i := 0) 0 rfl dX11_found_92 ?_
          refine me_getr X 47 kF_X11_81 (Nat.le_of_ble_eq_true rfl) me_k0 me_f0_8 dX11_found_93 ?_
          refine me_getr X 51 kF_X11_314 (Nat.le_of_ble_eq_true rfl) me_k47 me_f47_3 dX11_found_96 ?_
          refine me_iload_n X (i := 1) 1 rfl dX11_found_99 ?_
          obtain ⟨v6, e6, h⟩ := me_bd h
          refine me_iald X (Nat.le_of_ble_eq_true rfl) me_k51 e6 dX11_found_100 ?_
          obtain rfl := me_so h
          exact me_iret X hr hlk dX11_found_101
        · have h := me_in c6 h
          refine me_tout X 102 (by have q0 := lv_neT (k := 0) (a := 0) c4 (by decide); have q1 := lv_neT (k := 1) (a := 1) c5 (by decide); have q2 := lv_neT (k := 2) (a := 2) c6 (by decide); omega) (by decide) dX11_found_44 ?_
          refine me_aload_n X (i := 0) 0 rfl dX11_found_102 ?_
          refine me_getr X 47 kF_X11_81 (Nat.le_of_ble_eq_true rfl) me_k0 me_f0_8 dX11_found_103 ?_
          refine me_aload_n X (i := 0) 0 rfl dX11_found_106 ?_
          refine me_getr X 3 kF_X11_19 (Nat.le_of_ble_eq_true rfl) me_k0 me_f0_1 dX11_found_107 ?_
          refine me_aload_n X (i := 0) 0 rfl dX11_found_110 ?_
          refine me_getr X 47 kF_X11_81 (Nat.le_of_ble_eq_true rfl) me_k0 me_f0_8 dX11_found_111 ?_
          refine me_getr X 49 kF_X11_310 (Nat.le_of_ble_eq_true rfl) me_k47 me_f47_1 dX11_found_114 ?_
          refine me_iload_n X (i := 1) 1 rfl dX11_found_117 ?_
          obtain ⟨v7, e7, h⟩ := me_bd h
          refine me_iald X (Nat.le_of_ble_eq_true rfl) me_k49 e7 dX11_found_118 ?_
          obtain ⟨v8, e8, h⟩ := me_bd h
          refine me_callVi X [.ref (ad 3), .int v7] (ctX3_unlikeBits_47_3 hn (Nat.le_trans (by decide) hnt) e8) kV_X11_317 rfl rfl (Nat.le_of_ble_eq_true rfl) me_k47 (Nat.le_of_ble_eq_true rfl) (Nat.le_refl _) (Nat.le_of_ble_eq_true rfl) dX11_found_119 ?_
          obtain rfl := me_so h
          exact me_iret X hr hlk dX11_found_122
  have hj30_1 : mX11_found_0_J30 p0 p1 M  = some r → me_W p l e R s m args below meth c 0 0 (MQ below (me_Qc D cA ad n A (some (.int r)) M) args s 0 0 A) D cA ad n 3 A 30 [(0, .ref (ad 0)), (1, .int p0), (2, .int p1)] [.ref (ad 0)] M := by
    intro h
    unfold mX11_found_0_J30 at h
    refine me_iconst X dX11_found_30 ic_0 ?_
    exact hj31_2 0 h
  refine me_if_eq X 30 (by decide) dX11_found_8 (fun c1 => ?_) (fun c1 => ?_)
  · have h := me_ip c1 h
    exact hj30_1  h
  · have h := me_in c1 h
    refine me_iload_n X (i := 1) 1 rfl dX11_found_11 ?_
    refine me_if_lt X 30 (by decide) dX11_found_12 (fun c2 => ?_) (fun c2 => ?_)
    · have h := me_ip c2 h
      exact hj30_1  h
    · have h := me_in c2 h
      refine me_iload_n X (i := 1) 1 rfl dX11_found_15 ?_
      refine me_aload_n X (i := 0) 0 rfl dX11_found_16 ?_
      refine me_getr X 47 kF_X11_81 (Nat.le_of_ble_eq_true rfl) me_k0 me_f0_8 dX11_found_17 ?_
      refine me_geti X kF_X11_202 (Nat.le_of_ble_eq_true rfl) me_k47 me_f47_6 dX11_found_20 ?_
      refine me_icmp_ge X 30 (by decide) dX11_found_23 (fun c3 => ?_) (fun c3 => ?_)
      · have h := me_ip c3 h
        exact hj30_1  h
      · have h := me_in c3 h
        refine me_iconst X dX11_found_26 ic_1 ?_
        refine me_goto X 31 (by decide) dX11_found_27 ?_
        exact hj31_2 1 h
