def mX4_isAhead_9_J31 (p0 : Int32) (p1 : Int32) (M : me_M)  : Option Int32 :=
  ((me_r M 4 241 p0).bind fun v5 => ((me_r M 4 241 p1).bind fun v6 => (if v6 ≤ v5 then some 0 else some 1)))
def mX4_isAhead_9 (M : me_M) (p0 : Int32) (p1 : Int32) : Option Int32 :=
  ((me_r M 4 241 p0).bind fun v1 => ((me_r M 4 241 p1).bind fun v2 => (if v1 = v2 then (if (M.1 9 5) ≤ p0 then (mX4_isAhead_9_J31 p0 p1 M ) else (if p1 < (M.1 9 5) then ((me_r M 11 241 (p0 + 1)).bind fun v3 => ((me_r M 11 241 (p1 + 1)).bind fun v4 => (if v4 ≤ v3 then some 0 else some 1))) else (mX4_isAhead_9_J31 p0 p1 M ))) else (mX4_isAhead_9_J31 p0 p1 M ))))
set_option maxRecDepth 100000 in
set_option maxHeartbeats 4000000 in
theorem ctX4_isAhead_9 {l : Launch} {n nt : Nat} (hn : 63 ≤ n) (hnt : 1 ≤ nt) {M : me_M} {p0 : Int32} {p1 : Int32} {r : Int32} (h : mX4_isAhead_9 M p0 p1 = some r) : me_Ct l yX4_isAhead cX4_isAhead 3 (some .boolean) 0 n nt (fun ad => [.ref (ad 9), .int p0, .int p1]) M (fun _ => some (.int r)) M := by
  unfold mX4_isAhead_9 at h
  refine me_enter (N0 := 63) RX4 rfl (plainFor_of_name pl_RX4) hn (Nat.le_trans (by decide) hnt) (fun _ => Nat.le_of_ble_eq_true rfl) ?_
  intro p e R s m args below meth c D cA ad tys A X hr hlk
  refine me_sub (L' := [(0, .ref (ad 9)), (1, .int p0), (2, .int p1)]) [0, 1, 2] rfl ?_
  refine me_aload_n X (i := 0) 0 rfl dX4_isAhead_0 ?_
  refine me_getr X 4 kF_X4_24 (Nat.le_of_ble_eq_true rfl) me_k9 me_f9_0 dX4_isAhead_1 ?_
  refine me_iload_n X (i := 1) 1 rfl dX4_isAhead_4 ?_
  obtain ⟨v1, e1, h⟩ := me_bd h
  refine me_iald X (Nat.le_of_ble_eq_true rfl) me_k4 e1 dX4_isAhead_5 ?_
  refine me_aload_n X (i := 0) 0 rfl dX4_isAhead_6 ?_
  refine me_getr X 4 kF_X4_24 (Nat.le_of_ble_eq_true rfl) me_k9 me_f9_0 dX4_isAhead_7 ?_
  refine me_iload_n X (i := 2) 2 rfl dX4_isAhead_10 ?_
  obtain ⟨v2, e2, h⟩ := me_bd h
  refine me_iald X (Nat.le_of_ble_eq_true rfl) me_k4 e2 dX4_isAhead_11 ?_
  have hj31_1 : mX4_isAhead_9_J31 p0 p1 M  = some r → me_W p l e R s m args below meth c 0 0 (MQ below (me_Qc D cA ad n A (some (.int r)) M) args s 0 0 A) D cA ad n 3 A 31 [(0, .ref (ad 9)), (1, .int p0), (2, .int p1)] [] M := by
    intro h
    unfold mX4_isAhead_9_J31 at h
    refine me_aload_n X (i := 0) 0 rfl dX4_isAhead_31 ?_
    refine me_getr X 4 kF_X4_24 (Nat.le_of_ble_eq_true rfl) me_k9 me_f9_0 dX4_isAhead_32 ?_
    refine me_iload_n X (i := 1) 1 rfl dX4_isAhead_35 ?_
    obtain ⟨v5, e5, h⟩ := me_bd h
    refine me_iald X (Nat.le_of_ble_eq_true rfl) me_k4 e5 dX4_isAhead_36 ?_
    refine me_aload_n X (i := 0) 0 rfl dX4_isAhead_37 ?_
    refine me_getr X 4 kF_X4_24 (Nat.le_of_ble_eq_true rfl) me_k9 me_f9_0 dX4_isAhead_38 ?_
    refine me_iload_n X (i := 2) 2 rfl dX4_isAhead_41 ?_
    obtain ⟨v6, e6, h⟩ := me_bd h
    refine me_iald X (Nat.le_of_ble_eq_true rfl) me_k4 e6 dX4_isAhead_42 ?_
    refine me_icmp_ge X 50 (by decide) dX4_isAhead_43 (fun c5 => ?_) (fun c5 => ?_)
    · have h := me_ip c5 h
      refine me_iconst X dX4_isAhead_50 ic_0 ?_
      obtain rfl := me_so h
      exact me_zret X (by decide) hr hlk dX4_isAhead_51
    · have h := me_in c5 h
      refine me_iconst X dX4_isAhead_46 ic_1 ?_
      refine me_goto X 51 (by decide) dX4_isAhead_47 ?_
      obtain rfl := me_so h
      exact me_zret X (by decide) hr hlk dX4_isAhead_51
  refine me_icmp_ne X 31 (by decide) dX4_isAhead_12 (fun c1 => ?_) (fun c1 => ?_)
  · have h := me_in c1 h
    exact hj31_1  h
  · have h := me_ip c1 h
    refine me_iload_n X (i := 1) 1 rfl dX4_isAhead_15 ?_
    refine me_aload_n X (i := 0) 0 rfl dX4_isAhead_16 ?_
    refine me_geti X kF_X4_27 (Nat.le_of_ble_eq_true rfl) me_k9 me_f9_5 dX4_isAhead_17 ?_
    refine me_icmp_ge X 31 (by decide) dX4_isAhead_20 (fun c2 => ?_) (fun c2 => ?_)
    · have h := me_ip c2 h
      exact hj31_1  h
    · have h := me_in c2 h
      refine me_iload_n X (i := 2) 2 rfl dX4_isAhead_23 ?_
      refine me_aload_n X (i := 0) 0 rfl dX4_isAhead_24 ?_
      refine me_geti X kF_X4_27 (Nat.le_of_ble_eq_true rfl) me_k9 me_f9_5 dX4_isAhead_25 ?_
      refine me_icmp_lt X 52 (by decide) dX4_isAhead_28 (fun c3 => ?_) (fun c3 => ?_)
      · have h := me_ip c3 h
        refine me_aload_n X (i := 0) 0 rfl dX4_isAhead_52 ?_
        refine me_getr X 11 kF_X4_15 (Nat.le_of_ble_eq_true rfl) me_k9 me_f9_2 dX4_isAhead_53 ?_
        refine me_iload_n X (i := 1) 1 rfl dX4_isAhead_56 ?_
        refine me_iconst X dX4_isAhead_57 ic_1 ?_
        refine me_iadd X dX4_isAhead_58 ?_
        obtain ⟨v3, e3, h⟩ := me_bd h
        refine me_iald X (Nat.le_of_ble_eq_true rfl) me_k11 e3 dX4_isAhead_59 ?_
        refine me_aload_n X (i := 0) 0 rfl dX4_isAhead_60 ?_
        refine me_getr X 11 kF_X4_15 (Nat.le_of_ble_eq_true rfl) me_k9 me_f9_2 dX4_isAhead_61 ?_
        refine me_iload_n X (i := 2) 2 rfl dX4_isAhead_64 ?_
        refine me_iconst X dX4_isAhead_65 ic_1 ?_
        refine me_iadd X dX4_isAhead_66 ?_
        obtain ⟨v4, e4, h⟩ := me_bd h
        refine me_iald X (Nat.le_of_ble_eq_true rfl) me_k11 e4 dX4_isAhead_67 ?_
        refine me_icmp_ge X 75 (by decide) dX4_isAhead_68 (fun c4 => ?_) (fun c4 => ?_)
        · have h := me_ip c4 h
          refine me_iconst X dX4_isAhead_75 ic_0 ?_
          obtain rfl := me_so h
          exact me_zret X (by decide) hr hlk dX4_isAhead_76
        · have h := me_in c4 h
          refine me_iconst X dX4_isAhead_71 ic_1 ?_
          refine me_goto X 76 (by decide) dX4_isAhead_72 ?_
          obtain rfl := me_so h
          exact me_zret X (by decide) hr hlk dX4_isAhead_76
      · have h := me_in c3 h
        exact hj31_1  h
def mX4_sortPlaces_9_L38 (x1_1 : Int32) : (Int32 × me_M) → Option ((Int32 × me_M) ⊕ (Int32 × me_M))
  | (x2_1, M4) => (if x2_1 ≤ 0 then some (.inr (x2_1, M4)) else ((me_r M4 10 241 (x2_1 - 1)).bind fun v1 => ((mX4_isAhead_9 M4 x1_1 v1).bind fun v2 => (if v2 = 0 then some (.inr (x2_1, M4)) else ((me_r M4 10 241 (x2_1 - 1)).bind fun v3 => ((me_t M4 10 241 x2_1 v3).bind fun M5 => ((me_r M5 10 241 x2_1).bind fun v4 => ((me_t M5 11 241 v4 x2_1).bind fun M6 => some (.inl ((x2_1 + (-1)), M6))))))))))
def mX4_sortPlaces_9_L27  : (Int32 × me_M) → Option ((Int32 × me_M) ⊕ (me_M))
  | (x1_1, M3) => (if x1_1 < 0 then some (.inr M3) else ((me_l (mX4_sortPlaces_9_L38 x1_1) me_fu (((M3.1 9 5) - x1_1), M3)).bind fun (y2_1, M7) => ((me_t M7 10 241 y2_1 x1_1).bind fun M8 => ((me_t M8 11 241 x1_1 y2_1).bind fun M9 => some (.inl ((x1_1 + (-1)), M9))))))
def mX4_sortPlaces_9 (M : me_M)  : Option me_M :=
  ((me_t M 10 241 0 (M.1 9 5)).bind fun M1 => ((me_t M1 11 241 (M1.1 9 5) 0).bind fun M2 => ((me_l mX4_sortPlaces_9_L27 me_fu (((M2.1 9 5) - 1), M2)).bind fun M10 => some M10)))
set_option maxRecDepth 100000 in
set_option maxHeartbeats 4000000 in
theorem ctX4_sortPlaces_9 {l : Launch} {n nt : Nat} (hn : 63 ≤ n) (hnt : 1 ≤ nt) {M : me_M} {M' : me_M} (h : mX4_sortPlaces_9 M = some M') : me_Ct l yX4_sortPlaces cX4_sortPlaces 3 none 1 n nt (fun ad => [.ref (ad 9)]) M (fun _ => none) M' := by
  unfold mX4_sortPlaces_9 at h
  refine me_enter (N0 := 63) RX4 rfl (plainFor_of_name pl_RX4) hn (Nat.le_trans (by decide) hnt) (fun _ => Nat.le_of_ble_eq_true rfl) ?_
  intro p e R s m args below meth c D cA ad tys A X hr hlk
  refine me_sub (L' := [(0, .ref (ad 9))]) [0] rfl ?_
  refine me_aload_n X (i := 0) 0 rfl dX4_sortPlaces_0 ?_
  refine me_getr X 10 kF_X4_9 (Nat.le_of_ble_eq_true rfl) me_k9 me_f9_1 dX4_sortPlaces_1 ?_
  refine me_iconst X dX4_sortPlaces_4 ic_0 ?_
  refine me_aload_n X (i := 0) 0 rfl dX4_sortPlaces_5 ?_
  refine me_geti X kF_X4_27 (Nat.le_of_ble_eq_true rfl) me_k9 me_f9_5 dX4_sortPlaces_6 ?_
  obtain ⟨M1, e1, h⟩ := me_bd h
  refine me_iast X (Nat.le_of_ble_eq_true rfl) me_k10 e1 dX4_sortPlaces_9 ?_
  refine me_aload_n X (i := 0) 0 rfl dX4_sortPlaces_10 ?_
  refine me_getr X 11 kF_X4_15 (Nat.le_of_ble_eq_true rfl) me_k9 me_f9_2 dX4_sortPlaces_11 ?_
  refine me_aload_n X (i := 0) 0 rfl dX4_sortPlaces_14 ?_
  refine me_geti X kF_X4_27 (Nat.le_of_ble_eq_true rfl) me_k9 me_f9_5 dX4_sortPlaces_15 ?_
  refine me_iconst X dX4_sortPlaces_18 ic_0 ?_
  obtain ⟨M2, e2, h⟩ := me_bd h
  refine me_iast X (Nat.le_of_ble_eq_true rfl) me_k11 e2 dX4_sortPlaces_19 ?_
  refine me_aload_n X (i := 0) 0 rfl dX4_sortPlaces_20 ?_
  refine me_geti X kF_X4_27 (Nat.le_of_ble_eq_true rfl) me_k9 me_f9_5 dX4_sortPlaces_21 ?_
  refine me_iconst X dX4_sortPlaces_24 ic_1 ?_
  refine me_isub X dX4_sortPlaces_25 ?_
  refine me_istore_n X (i := 1) [(1, .int ((M2.1 9 5) - 1)), (0, .ref (ad 9))] (Nat.le_of_ble_eq_true rfl) rfl dX4_sortPlaces_26 ?_
  obtain ⟨M10, hq1, h⟩ := me_bd h
  have hx2 : me_W p l e R s m args below meth c 0 0 (MQ below (me_Qc D cA ad n A none M') args s 0 0 A) D cA ad n 3 A 110 [] [] M10 := by
    obtain rfl := me_so h
    exact me_vret X hr hlk dX4_sortPlaces_110
  refine me_sub (L' := [(0, .ref (ad 9)), (1, .int ((M2.1 9 5) - 1))]) [1, 0] rfl ?_
  refine me_l_W (b := mX4_sortPlaces_9_L27) (P := fun w => me_W p l e R s m args below meth c 0 0 (MQ below (me_Qc D cA ad n A none M') args s 0 0 A) D cA ad n 3 A 27 [(0, .ref (ad 9)), (1, .int w.1)] [] w.2) (r := M10) ?_ me_fu (((M2.1 9 5) - 1), M2) hq1
  rintro ⟨x1_1, M3⟩ z1 h hb1 - hr1
  unfold mX4_sortPlaces_9_L27 at h
  refine me_iload_n X (i := 1) 1 rfl dX4_sortPlaces_27 ?_
  refine me_if_lt X 110 (by decide) dX4_sortPlaces_28 (fun c1 => ?_) (fun c1 => ?_)
  · have h := me_ip c1 h
    obtain rfl := me_so h
    have q := hr1 _ rfl
    refine me_sub (L' := []) [] rfl ?_
    cases q
    exact hx2
  · have h := me_in c1 h
    refine me_aload_n X (i := 0) 0 rfl dX4_sortPlaces_31 ?_
    refine me_geti X kF_X4_27 (Nat.le_of_ble_eq_true rfl) me_k9 me_f9_5 dX4_sortPlaces_32 ?_
    refine me_iload_n X (i := 1) 1 rfl dX4_sortPlaces_35 ?_
    refine me_isub X dX4_sortPlaces_36 ?_
    refine me_istore_n X (i := 2) [(2, .int ((M3.1 9 5) - x1_1)), (0, .ref (ad 9)), (1, .int x1_1)] (Nat.le_of_ble_eq_true rfl) rfl dX4_sortPlaces_37 ?_
    obtain ⟨⟨y2_1, M7⟩, hq2, h⟩ := me_bd h
    have hx1 : me_W p l e R s m args below meth c 0 0 (MQ below (me_Qc D cA ad n A none M') args s 0 0 A) D cA ad n 3 A 90 [(0, .ref (ad 9)), (1, .int x1_1), (2, .int y2_1)] [] M7 := by
      refine me_aload_n X (i := 0) 0 rfl dX4_sortPlaces_90 ?_
      refine me_getr X 10 kF_X4_9 (Nat.le_of_ble_eq_true rfl) me_k9 me_f9_1 dX4_sortPlaces_91 ?_
      refine me_iload_n X (i := 2) 2 rfl dX4_sortPlaces_94 ?_
      refine me_iload_n X (i := 1) 1 rfl dX4_sortPlaces_95 ?_
      obtain ⟨M8, e9, h⟩ := me_bd h
      refine me_iast X (Nat.le_of_ble_eq_true rfl) me_k10 e9 dX4_sortPlaces_96 ?_
      refine me_aload_n X (i := 0) 0 rfl dX4_sortPlaces_97 ?_
      refine me_getr X 11 kF_X4_15 (Nat.le_of_ble_eq_true rfl) me_k9 me_f9_2 dX4_sortPlaces_98 ?_
      refine me_iload_n X (i := 1) 1 rfl dX4_sortPlaces_101 ?_
      refine me_iload_n X (i := 2) 2 rfl dX4_sortPlaces_102 ?_
      obtain ⟨M9, e10, h⟩ := me_bd h
      refine me_iast X (Nat.le_of_ble_eq_true rfl) me_k11 e10 dX4_sortPlaces_103 ?_
      refine me_iinc X (v := (x1_1 + (-1))) 1 rfl (in_m1 _) [(1, .int (x1_1 + (-1))), (0, .ref (ad 9)), (2, .int y2_1)] (Nat.le_of_ble_eq_true rfl) rfl dX4_sortPlaces_104 ?_
      refine me_goto X 27 (by decide) dX4_sortPlaces_107 ?_
      obtain rfl := me_so h
      refine me_sub (L' := [(0, .ref (ad 9)), (1, .int (x1_1 + (-1)))]) [1, 0] rfl ?_
      exact hb1 ((x1_1 + (-1)), M9) rfl
    refine me_sub (L' := [(0, .ref (ad 9)), (1, .int x1_1), (2, .int ((M3.1 9 5) - x1_1))]) [1, 2, 0] rfl ?_
    refine me_l_W (b := (mX4_sortPlaces_9_L38 x1_1)) (P := fun w => me_W p l e R s m args below meth c 0 0 (MQ below (me_Qc D cA ad n A none M') args s 0 0 A) D cA ad n 3 A 38 [(0, .ref (ad 9)), (1, .int x1_1), (2, .int w.1)] [] w.2) (r := (y2_1, M7)) ?_ me_fu (((M3.1 9 5) - x1_1), M3) hq2
    rintro ⟨x2_1, M4⟩ z2 h hb2 - hr2
    unfold mX4_sortPlaces_9_L38 at h
    refine me_iload_n X (i := 2) 2 rfl dX4_sortPlaces_38 ?_
    refine me_if_le X 90 (by decide) dX4_sortPlaces_39 (fun c2 => ?_) (fun c2 => ?_)
    · have h := me_ip c2 h
      obtain rfl := me_so h
      have q := hr2 _ rfl
      cases q
      exact hx1
    · have h := me_in c2 h
      refine me_aload_n X (i := 0) 0 rfl dX4_sortPlaces_42 ?_
      refine me_iload_n X (i := 1) 1 rfl dX4_sortPlaces_43 ?_
      refine me_aload_n X (i := 0) 0 rfl dX4_sortPlaces_44 ?_
      refine me_getr X 10 kF_X4_9 (Nat.le_of_ble_eq_true rfl) me_k9 me_f9_1 dX4_sortPlaces_45 ?_
      refine me_iload_n X (i := 2) 2 rfl dX4_sortPlaces_48 ?_
      refine me_iconst X dX4_sortPlaces_49 ic_1 ?_
      refine me_isub X dX4_sortPlaces_50 ?_
      obtain ⟨v1, e3, h⟩ := me_bd h
      refine me_iald X (Nat.le_of_ble_eq_true rfl) me_k10 e3 dX4_sortPlaces_51 ?_
      obtain ⟨v2, e4, h⟩ := me_bd h
      refine me_callVi X [.int x1_1, .int v1] (ctX4_isAhead_9 hn (Nat.le_trans (by decide) hnt) e4) kV_X4_40 rfl rfl (Nat.le_of_ble_eq_true rfl) me_k9 (Nat.le_of_ble_eq_true rfl) (Nat.le_refl _) (Nat.le_of_ble_eq_true rfl) dX4_sortPlaces_52 ?_
      refine me_if_eq X 90 (by decide) dX4_sortPlaces_55 (fun c3 => ?_) (fun c3 => ?_)
      · have h := me_ip c3 h
        obtain rfl := me_so h
        have q := hr2 _ rfl
        cases q
        exact hx1
      · have h := me_in c3 h
        refine me_aload_n X (i := 0) 0 rfl dX4_sortPlaces_58 ?_
        refine me_getr X 10 kF_X4_9 (Nat.le_of_ble_eq_true rfl) me_k9 me_f9_1 dX4_sortPlaces_59 ?_
        refine me_iload_n X (i := 2) 2 rfl dX4_sortPlaces_62 ?_
        refine me_aload_n X (i := 0) 0 rfl dX4_sortPlaces_63 ?_
        refine me_getr X 10 kF_X4_9 (Nat.le_of_ble_eq_true rfl) me_k9 me_f9_1 dX4_sortPlaces_64 ?_
        refine me_iload_n X (i := 2) 2 rfl dX4_sortPlaces_67 ?_
        refine me_iconst X dX4_sortPlaces_68 ic_1 ?_
        refine me_isub X dX4_sortPlaces_69 ?_
        obtain ⟨v3, e5, h⟩ := me_bd h
        refine me_iald X (Nat.le_of_ble_eq_true rfl) me_k10 e5 dX4_sortPlaces_70 ?_
        obtain ⟨M5, e6, h⟩ := me_bd h
        refine me_iast X (Nat.le_of_ble_eq_true rfl) me_k10 e6 dX4_sortPlaces_71 ?_
        refine me_aload_n X (i := 0) 0 rfl dX4_sortPlaces_72 ?_
        refine me_getr X 11 kF_X4_15 (Nat.le_of_ble_eq_true rfl) me_k9 me_f9_2 dX4_sortPlaces_73 ?_
        refine me_aload_n X (i := 0) 0 rfl dX4_sortPlaces_76 ?_
        refine me_getr X 10 kF_X4_9 (Nat.le_of_ble_eq_true rfl) me_k9 me_f9_1 dX4_sortPlaces_77 ?_
        refine me_iload_n X (i := 2) 2 rfl dX4_sortPlaces_80 ?_
        obtain ⟨v4, e7, h⟩ := me_bd h
        refine me_iald X (Nat.le_of_ble_eq_true rfl) me_k10 e7 dX4_sortPlaces_81 ?_
        refine me_iload_n X (i := 2) 2 rfl dX4_sortPlaces_82 ?_
        obtain ⟨M6, e8, h⟩ := me_bd h
        refine me_iast X (Nat.le_of_ble_eq_true rfl) me_k11 e8 dX4_sortPlaces_83 ?_
        refine me_iinc X (v := (x2_1 + (-1))) 2 rfl (in_m1 _) [(2, .int (x2_1 + (-1))), (0, .ref (ad 9)), (1, .int x1_1)] (Nat.le_of_ble_eq_true rfl) rfl dX4_sortPlaces_84 ?_
        refine me_goto X 38 (by decide) dX4_sortPlaces_87 ?_
        obtain rfl := me_so h
        refine me_sub (L' := [(0, .ref (ad 9)), (1, .int x1_1), (2, .int (x2_1 + (-1)))]) [1, 2, 0] rfl ?_
        exact hb2 ((x2_1 + (-1)), M6) rfl
def mJ9_max_7cf53 (p0 : Int32) (p1 : Int32) : Option Int32 :=
  (if p0 < p1 then some p1 else some p0)
set_option maxRecDepth 100000 in
set_option maxHeartbeats 4000000 in
theorem ctJ9_max_7cf53 {l : Launch} {n nt : Nat} (hn : 63 ≤ n) (hnt : 1 ≤ nt) {M : me_M} {p0 : Int32} {p1 : Int32} {r : Int32} (h : mJ9_max_7cf53 p0 p1 = some r) : me_Ct l yJ9_max_7cf53 cJ9_max_7cf53 2 (some .int) 0 n nt (fun _ => [.int p0, .int p1]) M (fun _ => some (.int r)) M := by
  unfold mJ9_max_7cf53 at h
  refine me_enter (N0 := 63) RJ9 rfl plf_yJ9_max_7cf53 hn (Nat.le_trans (by decide) hnt) (fun _ => Nat.le_of_ble_eq_true rfl) ?_
  intro p e R s m args below meth c D cA ad tys A X hr hlk
  refine me_sub (L' := [(0, .int p0), (1, .int p1)]) [0, 1] rfl ?_
  refine me_iload_n X (i := 0) 0 rfl dJ9_max_7cf53_0 ?_
  refine me_iload_n X (i := 1) 1 rfl dJ9_max_7cf53_1 ?_
  refine me_icmp_lt X 9 (by decide) dJ9_max_7cf53_2 (fun c1 => ?_) (fun c1 => ?_)
  · have h := me_ip c1 h
    refine me_iload_n X (i := 1) 1 rfl dJ9_max_7cf53_9 ?_
    obtain rfl := me_so h
    exact me_iret X hr hlk dJ9_max_7cf53_10
  · have h := me_in c1 h
    refine me_iload_n X (i := 0) 0 rfl dJ9_max_7cf53_5 ?_
    refine me_goto X 10 (by decide) dJ9_max_7cf53_6 ?_
    obtain rfl := me_so h
    exact me_iret X hr hlk dJ9_max_7cf53_10
def mX4_compareNeighbours_9_J107 (x2_1 : Int32) (x1_3 : Int32) (M4 : me_M) : Option ((Int32 × Int32 × me_M) ⊕ (me_M)) :=
  some (.inl (x1_3, (x2_1 + 1), M4))
def mX4_compareNeighbours_9_L45 (M1 : me_M) (x2_1 : Int32) (v1 : Int32) (v2 : Int32) : (Int32) → Option ((Int32) ⊕ (Int32))
  | x1_2 => (if (M1.1 9 5) ≤ (x2_1 + x1_2) then some (.inr x1_2) else (if (M1.1 9 5) ≤ (v2 + x1_2) then some (.inr x1_2) else ((me_r M1 4 241 (x2_1 + x1_2)).bind fun v3 => ((me_r M1 4 241 (v2 + x1_2)).bind fun v4 => (if v3 = v4 then some (.inl (x1_2 + 1)) else some (.inr x1_2))))))
def mX4_compareNeighbours_9_L4  : (Int32 × Int32 × me_M) → Option ((Int32 × Int32 × me_M) ⊕ (me_M))
  | (x1_1, x2_1, M1) => (if (M1.1 9 5) < x2_1 then some (.inr M1) else ((me_r M1 11 241 x2_1).bind fun v1 => (if v1 = 0 then ((me_t M1 12 241 v1 0).bind fun M3 => (mX4_compareNeighbours_9_J107 x2_1 0 M3)) else ((me_r M1 10 241 (v1 - 1)).bind fun v2 => ((me_l (mX4_compareNeighbours_9_L45 M1 x2_1 v1 v2) me_fu x1_1).bind fun y1_1 => ((me_t M1 12 241 v1 y1_1).bind fun M2 => ((mJ9_max_7cf53 0 (y1_1 - 1)).bind fun v5 => (mX4_compareNeighbours_9_J107 x2_1 v5 M2))))))))
def mX4_compareNeighbours_9 (M : me_M)  : Option me_M :=
  ((me_l mX4_compareNeighbours_9_L4 me_fu (0, 0, M)).bind fun M5 => some M5)
set_option maxRecDepth 100000 in
set_option maxHeartbeats 4000000 in
theorem ctX4_compareNeighbours_9 {l : Launch} {n nt : Nat} (hn : 63 ≤ n) (hnt : 1 ≤ nt) {M : me_M} {M' : me_M} (h : mX4_compareNeighbours_9 M = some M') : me_Ct l yX4_compareNeighbours cX4_compareNeighbours 5 none 1 n nt (fun ad => [.ref (ad 9)]) M (fun _ => none) M' := by
  unfold mX4_compareNeighbours_9 at h
  refine me_enter (N0 := 63) RX4 rfl (plainFor_of_name pl_RX4) hn (Nat.le_trans (by decide) hnt) (fun _ => Nat.le_of_ble_eq_true rfl) ?_
  intro p e R s m args below meth c D cA ad tys A X hr hlk
  refine me_sub (L' := [(0, .ref (ad 9))]) [0] rfl ?_
  refine me_iconst X dX4_compareNeighbours_0 ic_0 ?_
  refine me_istore_n X (i := 1) [(1, .int 0), (0, .ref (ad 9))] (Nat.le_of_ble_eq_true rfl) rfl dX4_compareNeighbours_1 ?_
  refine me_iconst X dX4_compareNeighbours_2 ic_0 ?_
  refine me_istore_n X (i := 2) [(2, .int 0), (1, .int 0), (0, .ref (ad 9))] (Nat.le_of_ble_eq_true rfl) rfl dX4_compareNeighbours_3 ?_
  obtain ⟨M5, hq1, h⟩ := me_bd h
  have hx2 : me_W p l e R s m args below meth c 0 0 (MQ below (me_Qc D cA ad n A none M') args s 0 0 A) D cA ad n 5 A 113 [] [] M5 := by
    obtain rfl := me_so h
    exact me_vret X hr hlk dX4_compareNeighbours_113
  refine me_sub (L' := [(0, .ref (ad 9)), (1, .int 0), (2, .int 0)]) [2, 1, 0] rfl ?_
  refine me_l_W (b := mX4_compareNeighbours_9_L4) (P := fun w => me_W p l e R s m args below meth c 0 0 (MQ below (me_Qc D cA ad n A none M') args s 0 0 A) D cA ad n 5 A 4 [(0, .ref (ad 9)), (1, .int w.1), (2, .int w.2.1)] [] w.2.2) (r := M5) ?_ me_fu (0, 0, M) hq1
  rintro ⟨x1_1, x2_1, M1⟩ z1 h hb1 - hr1
  unfold mX4_compareNeighbours_9_L4 at h
  refine me_iload_n X (i := 2) 2 rfl dX4_compareNeighbours_4 ?_
  refine me_aload_n X (i := 0) 0 rfl dX4_compareNeighbours_5 ?_
  refine me_geti X kF_X4_27 (Nat.le_of_ble_eq_true rfl) me_k9 me_f9_5 dX4_compareNeighbours_6 ?_
  refine me_icmp_gt X 113 (by decide) dX4_compareNeighbours_9 (fun c1 => ?_) (fun c1 => ?_)
  · have h := me_ip c1 h
    obtain rfl := me_so h
    have q := hr1 _ rfl
    refine me_sub (L' := []) [] rfl ?_
    cases q
    exact hx2
  · have h := me_in c1 h
    refine me_aload_n X (i := 0) 0 rfl dX4_compareNeighbours_12 ?_
    refine me_getr X 11 kF_X4_15 (Nat.le_of_ble_eq_true rfl) me_k9 me_f9_2 dX4_compareNeighbours_13 ?_
    refine me_iload_n X (i := 2) 2 rfl dX4_compareNeighbours_16 ?_
    obtain ⟨v1, e1, h⟩ := me_bd h
    refine me_iald X (Nat.le_of_ble_eq_true rfl) me_k11 e1 dX4_compareNeighbours_17 ?_
    refine me_istore_n X (i := 3) [(3, .int v1), (0, .ref (ad 9)), (1, .int x1_1), (2, .int x2_1)] (Nat.le_of_ble_eq_true rfl) rfl dX4_compareNeighbours_18 ?_
    refine me_iload_n X (i := 3) 0 rfl dX4_compareNeighbours_19 ?_
    have hj107_1 : ∀ (x1_3 : Int32) (M4 : me_M), mX4_compareNeighbours_9_J107 x2_1 x1_3 M4 = some z1 → me_W p l e R s m args below meth c 0 0 (MQ below (me_Qc D cA ad n A none M') args s 0 0 A) D cA ad n 5 A 107 [(0, .ref (ad 9)), (1, .int x1_3), (2, .int x2_1)] [] M4 := by
      intro x1_3 M4 h
      unfold mX4_compareNeighbours_9_J107 at h
      refine me_iinc X (v := (x2_1 + 1)) 2 rfl (in_1 _) [(2, .int (x2_1 + 1)), (0, .ref (ad 9)), (1, .int x1_3)] (Nat.le_of_ble_eq_true rfl) rfl dX4_compareNeighbours_107 ?_
      refine me_goto X 4 (by decide) dX4_compareNeighbours_110 ?_
      obtain rfl := me_so h
      refine me_sub (L' := [(0, .ref (ad 9)), (1, .int x1_3), (2, .int (x2_1 + 1))]) [1, 2, 0] rfl ?_
      exact hb1 (x1_3, (x2_1 + 1), M4) rfl
    refine me_if_ne X 35 (by decide) dX4_compareNeighbours_20 (fun c2 => ?_) (fun c2 => ?_)
    · have h := me_in c2 h
      refine me_aload_n X (i := 0) 1 rfl dX4_compareNeighbours_35 ?_
      refine me_getr X 10 kF_X4_9 (Nat.le_of_ble_eq_true rfl) me_k9 me_f9_1 dX4_compareNeighbours_36 ?_
      refine me_iload_n X (i := 3) 0 rfl dX4_compareNeighbours_39 ?_
      refine me_iconst X dX4_compareNeighbours_40 ic_1 ?_
      refine me_isub X dX4_compareNeighbours_41 ?_
      obtain ⟨v2, e2, h⟩ := me_bd h
      refine me_iald X (Nat.le_of_ble_eq_true rfl) me_k10 e2 dX4_compareNeighbours_42 ?_
      refine me_istore X (i := 4) [(4, .int v2), (3, .int v1), (0, .ref (ad 9)), (1, .int x1_1), (2, .int x2_1)] (Nat.le_of_ble_eq_true rfl) rfl dX4_compareNeighbours_43 ?_
      obtain ⟨y1_1, hq2, h⟩ := me_bd h
      have hx1 : me_W p l e R s m args below meth c 0 0 (MQ below (me_Qc D cA ad n A none M') args s 0 0 A) D cA ad n 5 A 92 [(0, .ref (ad 9)), (1, .int y1_1), (2, .int x2_1), (3, .int v1)] [] M1 := by
        refine me_aload_n X (i := 0) 0 rfl dX4_compareNeighbours_92 ?_
        refine me_getr X 12 kF_X4_18 (Nat.le_of_ble_eq_true rfl) me_k9 me_f9_3 dX4_compareNeighbours_93 ?_
        refine me_iload_n X (i := 3) 3 rfl dX4_compareNeighbours_96 ?_
        refine me_iload_n X (i := 1) 1 rfl dX4_compareNeighbours_97 ?_
        obtain ⟨M2, e5, h⟩ := me_bd h
        refine me_iast X (Nat.le_of_ble_eq_true rfl) me_k12 e5 dX4_compareNeighbours_98 ?_
        refine me_iconst X dX4_compareNeighbours_99 ic_0 ?_
        refine me_iload_n X (i := 1) 1 rfl dX4_compareNeighbours_100 ?_
        refine me_iconst X dX4_compareNeighbours_101 ic_1 ?_
        refine me_isub X dX4_compareNeighbours_102 ?_
        obtain ⟨v5, e6, h⟩ := me_bd h
        refine me_callSi X [.int 0, .int (y1_1 - 1)] (ctJ9_max_7cf53 hn (Nat.le_trans (by decide) hnt) e6) kS_X4_44 rfl rfl (Nat.le_of_ble_eq_true rfl) (Nat.le_refl _) (Nat.le_of_ble_eq_true rfl) dX4_compareNeighbours_103 ?_
        refine me_istore_n X (i := 1) [(1, .int v5), (0, .ref (ad 9)), (2, .int x2_1), (3, .int v1)] (Nat.le_of_ble_eq_true rfl) rfl dX4_compareNeighbours_106 ?_
        refine me_sub (L' := [(0, .ref (ad 9)), (1, .int v5), (2, .int x2_1)]) [1, 0, 2] rfl ?_
        exact hj107_1 v5 M2 h
      refine me_sub (L' := [(0, .ref (ad 9)), (1, .int x1_1), (2, .int x2_1), (3, .int v1), (4, .int v2)]) [2, 3, 4, 1, 0] rfl ?_
      refine me_l_W (b := (mX4_compareNeighbours_9_L45 M1 x2_1 v1 v2)) (P := fun w => me_W p l e R s m args below meth c 0 0 (MQ below (me_Qc D cA ad n A none M') args s 0 0 A) D cA ad n 5 A 45 [(0, .ref (ad 9)), (1, .int w), (2, .int x2_1), (3, .int v1), (4, .int v2)] [] M1) (r := y1_1) ?_ me_fu x1_1 hq2
      rintro x1_2 z2 h hb2 - hr2
      unfold mX4_compareNeighbours_9_L45 at h
      refine me_iload_n X (i := 2) 2 rfl dX4_compareNeighbours_45 ?_
      refine me_iload_n X (i := 1) 1 rfl dX4_compareNeighbours_46 ?_
      refine me_iadd X dX4_compareNeighbours_47 ?_
      refine me_aload_n X (i := 0) 0 rfl dX4_compareNeighbours_48 ?_
      refine me_geti X kF_X4_27 (Nat.le_of_ble_eq_true rfl) me_k9 me_f9_5 dX4_compareNeighbours_49 ?_
      refine me_icmp_ge X 92 (by decide) dX4_compareNeighbours_52 (fun c3 => ?_) (fun c3 => ?_)
      · have h := me_ip c3 h
        obtain rfl := me_so h
        have q := hr2 _ rfl
        refine me_sub (L' := [(0, .ref (ad 9)), (1, .int x1_2), (2, .int x2_1), (3, .int v1)]) [0, 1, 2, 3] rfl ?_
        cases q
        exact hx1
      · have h := me_in c3 h
        refine me_iload X (i := 4) 4 rfl dX4_compareNeighbours_55 ?_
        refine me_iload_n X (i := 1) 1 rfl dX4_compareNeighbours_57 ?_
        refine me_iadd X dX4_compareNeighbours_58 ?_
        refine me_aload_n X (i := 0) 0 rfl dX4_compareNeighbours_59 ?_
        refine me_geti X kF_X4_27 (Nat.le_of_ble_eq_true rfl) me_k9 me_f9_5 dX4_compareNeighbours_60 ?_
        refine me_icmp_ge X 92 (by decide) dX4_compareNeighbours_63 (fun c4 => ?_) (fun c4 => ?_)
        · have h := me_ip c4 h
          obtain rfl := me_so h
          have q := hr2 _ rfl
          refine me_sub (L' := [(0, .ref (ad 9)), (1, .int x1_2), (2, .int x2_1), (3, .int v1)]) [0, 1, 2, 3] rfl ?_
          cases q
          exact hx1
        · have h := me_in c4 h
          refine me_aload_n X (i := 0) 0 rfl dX4_compareNeighbours_66 ?_
          refine me_getr X 4 kF_X4_24 (Nat.le_of_ble_eq_true rfl) me_k9 me_f9_0 dX4_compareNeighbours_67 ?_
          refine me_iload_n X (i := 2) 2 rfl dX4_compareNeighbours_70 ?_
          refine me_iload_n X (i := 1) 1 rfl dX4_compareNeighbours_71 ?_
          refine me_iadd X dX4_compareNeighbours_72 ?_
          obtain ⟨v3, e3, h⟩ := me_bd h
          refine me_iald X (Nat.le_of_ble_eq_true rfl) me_k4 e3 dX4_compareNeighbours_73 ?_
          refine me_aload_n X (i := 0) 0 rfl dX4_compareNeighbours_74 ?_
          refine me_getr X 4 kF_X4_24 (Nat.le_of_ble_eq_true rfl) me_k9 me_f9_0 dX4_compareNeighbours_75 ?_
          refine me_iload X (i := 4) 4 rfl dX4_compareNeighbours_78 ?_
          refine me_iload_n X (i := 1) 1 rfl dX4_compareNeighbours_80 ?_
          refine me_iadd X dX4_compareNeighbours_81 ?_
          obtain ⟨v4, e4, h⟩ := me_bd h
          refine me_iald X (Nat.le_of_ble_eq_true rfl) me_k4 e4 dX4_compareNeighbours_82 ?_
          refine me_icmp_ne X 92 (by decide) dX4_compareNeighbours_83 (fun c5 => ?_) (fun c5 => ?_)
          · have h := me_in c5 h
            obtain rfl := me_so h
            have q := hr2 _ rfl
            refine me_sub (L' := [(0, .ref (ad 9)), (1, .int x1_2), (2, .int x2_1), (3, .int v1)]) [0, 1, 2, 3] rfl ?_
            cases q
            exact hx1
          · have h := me_ip c5 h
            refine me_iinc X (v := (x1_2 + 1)) 1 rfl (in_1 _) [(1, .int (x1_2 + 1)), (0, .ref (ad 9)), (2, .int x2_1), (3, .int v1), (4, .int v2)] (Nat.le_of_ble_eq_true rfl) rfl dX4_compareNeighbours_86 ?_
            refine me_goto X 45 (by decide) dX4_compareNeighbours_89 ?_
            obtain rfl := me_so h
            refine me_sub (L' := [(0, .ref (ad 9)), (1, .int (x1_2 + 1)), (2, .int x2_1), (3, .int v1), (4, .int v2)]) [1, 0, 2, 3, 4] rfl ?_
            exact hb2 (x1_2 + 1) rfl
    · have h := me_ip c2 h
      refine me_aload_n X (i := 0) 1 rfl dX4_compareNeighbours_23 ?_
      refine me_getr X 12 kF_X4_18 (Nat.le_of_ble_eq_true rfl) me_k9 me_f9_3 dX4_compareNeighbours_24 ?_
      refine me_iload_n X (i := 3) 0 rfl dX4_compareNeighbours_27 ?_
      refine me_iconst X dX4_compareNeighbours_28 ic_0 ?_
      obtain ⟨M3, e7, h⟩ := me_bd h
      refine me_iast X (Nat.le_of_ble_eq_true rfl) me_k12 e7 dX4_compareNeighbours_29 ?_
      refine me_iconst X dX4_compareNeighbours_30 ic_0 ?_
      refine me_istore_n X (i := 1) [(1, .int 0), (3, .int v1), (0, .ref (ad 9)), (2, .int x2_1)] (Nat.le_of_ble_eq_true rfl) rfl dX4_compareNeighbours_31 ?_
      refine me_goto X 107 (by decide) dX4_compareNeighbours_32 ?_
      refine me_sub (L' := [(0, .ref (ad 9)), (1, .int 0), (2, .int x2_1)]) [2, 0, 3] rfl ?_
      exact hj107_1 0 M3 h
def mX4_before_9 (M : me_M) (p0 : Int32) : Option Int32 :=
  ((me_r M 10 241 p0).bind fun v1 => (if v1 = 0 then some 0 else ((me_r M 4 241 (v1 - 1)).bind fun v2 => some v2)))
set_option maxRecDepth 100000 in
set_option maxHeartbeats 4000000 in
theorem ctX4_before_9 {l : Launch} {n nt : Nat} (hn : 63 ≤ n) (hnt : 1 ≤ nt) {M : me_M} {p0 : Int32} {r : Int32} (h : mX4_before_9 M p0 = some r) : me_Ct l yX4_before cX4_before 3 (some .int) 0 n nt (fun ad => [.ref (ad 9), .int p0]) M (fun _ => some (.int r)) M := by
  unfold mX4_before_9 at h
  refine me_enter (N0 := 63) RX4 rfl (plainFor_of_name pl_RX4) hn (Nat.le_trans (by decide) hnt) (fun _ => Nat.le_of_ble_eq_true rfl) ?_
  intro p e R s m args below meth c D cA ad tys A X hr hlk
  refine me_sub (L' := [(0, .ref (ad 9)), (1, .int p0)]) [0, 1] rfl ?_
  refine me_aload_n X (i := 0) 0 rfl dX4_before_0 ?_
  refine me_getr X 10 kF_X4_9 (Nat.le_of_ble_eq_true rfl) me_k9 me_f9_1 dX4_before_1 ?_
  refine me_iload_n X (i := 1) 1 rfl dX4_before_4 ?_
  obtain ⟨v1, e1, h⟩ := me_bd h
  refine me_iald X (Nat.le_of_ble_eq_true rfl) me_k10 e1 dX4_before_5 ?_
  refine me_istore_n X (i := 2) [(2, .int v1), (0, .ref (ad 9)), (1, .int p0)] (Nat.le_of_ble_eq_true rfl) rfl dX4_before_6 ?_
  refine me_iload_n X (i := 2) 0 rfl dX4_before_7 ?_
  refine me_if_ne X 15 (by decide) dX4_before_8 (fun c1 => ?_) (fun c1 => ?_)
  · have h := me_in c1 h
    refine me_aload_n X (i := 0) 1 rfl dX4_before_15 ?_
    refine me_getr X 4 kF_X4_24 (Nat.le_of_ble_eq_true rfl) me_k9 me_f9_0 dX4_before_16 ?_
    refine me_iload_n X (i := 2) 0 rfl dX4_before_19 ?_
    refine me_iconst X dX4_before_20 ic_1 ?_
    refine me_isub X dX4_before_21 ?_
    obtain ⟨v2, e2, h⟩ := me_bd h
    refine me_iald X (Nat.le_of_ble_eq_true rfl) me_k4 e2 dX4_before_22 ?_
    obtain rfl := me_so h
    exact me_iret X hr hlk dX4_before_23
  · have h := me_ip c1 h
    refine me_iconst X dX4_before_11 ic_0 ?_
    refine me_goto X 23 (by decide) dX4_before_12 ?_
    obtain rfl := me_so h
    exact me_iret X hr hlk dX4_before_23
def mX4_tallySmaller_9_J36 (x1_1 : Int32) (v1 : Int32) (x3_1 : Int32) (M2 : me_M) (s1 : Int32) : Option ((Int32 × me_M) ⊕ (me_M)) :=
  ((me_r M2 13 1936 ((x1_1 * 8) + x3_1)).bind fun v2 => ((me_t M2 13 1936 (((x1_1 + 1) * 8) + x3_1) (v2 + s1)).bind fun M3 => some (.inl ((x3_1 + 1), M3))))
def mX4_tallySmaller_9_L18 (x1_1 : Int32) (v1 : Int32) : (Int32 × me_M) → Option ((Int32 × me_M) ⊕ (me_M))
  | (x3_1, M2) => (if 8 ≤ x3_1 then some (.inr M2) else (if (2 + x3_1) ≤ v1 then (mX4_tallySmaller_9_J36 x1_1 v1 x3_1 M2 0) else (mX4_tallySmaller_9_J36 x1_1 v1 x3_1 M2 1)))
def mX4_tallySmaller_9_L2  : (Int32 × me_M) → Option ((Int32 × me_M) ⊕ (me_M))
  | (x1_1, M1) => (if (M1.1 9 5) < x1_1 then some (.inr M1) else ((mX4_before_9 M1 x1_1).bind fun v1 => ((me_l (mX4_tallySmaller_9_L18 x1_1 v1) me_fu (0, M1)).bind fun M4 => some (.inl ((x1_1 + 1), M4)))))
def mX4_tallySmaller_9 (M : me_M)  : Option me_M :=
  ((me_l mX4_tallySmaller_9_L2 me_fu (0, M)).bind fun M5 => some M5)
set_option maxRecDepth 100000 in
set_option maxHeartbeats 4000000 in
theorem ctX4_tallySmaller_9 {l : Launch} {n nt : Nat} (hn : 63 ≤ n) (hnt : 1 ≤ nt) {M : me_M} {M' : me_M} (h : mX4_tallySmaller_9 M = some M') : me_Ct l yX4_tallySmaller cX4_tallySmaller 5 none 1 n nt (fun ad => [.ref (ad 9)]) M (fun _ => none) M' := by
  unfold mX4_tallySmaller_9 at h
  refine me_enter (N0 := 63) RX4 rfl (plainFor_of_name pl_RX4) hn (Nat.le_trans (by decide) hnt) (fun _ => Nat.le_of_ble_eq_true rfl) ?_
  intro p e R s m args below meth c D cA ad tys A X hr hlk
  refine me_sub (L' := [(0, .ref (ad 9))]) [0] rfl ?_
  refine me_iconst X dX4_tallySmaller_0 ic_0 ?_
  refine me_istore_n X (i := 1) [(1, .int 0), (0, .ref (ad 9))] (Nat.le_of_ble_eq_true rfl) rfl dX4_tallySmaller_1 ?_
  obtain ⟨M5, hq1, h⟩ := me_bd h
  have hx2 : me_W p l e R s m args below meth c 0 0 (MQ below (me_Qc D cA ad n A none M') args s 0 0 A) D cA ad n 5 A 77 [] [] M5 := by
    obtain rfl := me_so h
    exact me_vret X hr hlk dX4_tallySmaller_77
  refine me_sub (L' := [(0, .ref (ad 9)), (1, .int 0)]) [1, 0] rfl ?_
  refine me_l_W (b := mX4_tallySmaller_9_L2) (P := fun w => me_W p l e R s m args below meth c 0 0 (MQ below (me_Qc D cA ad n A none M') args s 0 0 A) D cA ad n 5 A 2 [(0, .ref (ad 9)), (1, .int w.1)] [] w.2) (r := M5) ?_ me_fu (0, M) hq1
  rintro ⟨x1_1, M1⟩ z1 h hb1 - hr1
  unfold mX4_tallySmaller_9_L2 at h
  refine me_iload_n X (i := 1) 1 rfl dX4_tallySmaller_2 ?_
  refine me_aload_n X (i := 0) 0 rfl dX4_tallySmaller_3 ?_
  refine me_geti X kF_X4_27 (Nat.le_of_ble_eq_true rfl) me_k9 me_f9_5 dX4_tallySmaller_4 ?_
  refine me_icmp_gt X 77 (by decide) dX4_tallySmaller_7 (fun c1 => ?_) (fun c1 => ?_)
  · have h := me_ip c1 h
    obtain rfl := me_so h
    have q := hr1 _ rfl
    refine me_sub (L' := []) [] rfl ?_
    cases q
    exact hx2
  · have h := me_in c1 h
    refine me_aload_n X (i := 0) 0 rfl dX4_tallySmaller_10 ?_
    refine me_iload_n X (i := 1) 1 rfl dX4_tallySmaller_11 ?_
    obtain ⟨v1, e1, h⟩ := me_bd h
    refine me_callVi X [.int x1_1] (ctX4_before_9 hn (Nat.le_trans (by decide) hnt) e1) kV_X4_50 rfl rfl (Nat.le_of_ble_eq_true rfl) me_k9 (Nat.le_of_ble_eq_true rfl) (Nat.le_refl _) (Nat.le_of_ble_eq_true rfl) dX4_tallySmaller_12 ?_
    refine me_istore_n X (i := 2) [(2, .int v1), (0, .ref (ad 9)), (1, .int x1_1)] (Nat.le_of_ble_eq_true rfl) rfl dX4_tallySmaller_15 ?_
    refine me_iconst X dX4_tallySmaller_16 ic_0 ?_
    refine me_istore_n X (i := 3) [(3, .int 0), (2, .int v1), (0, .ref (ad 9)), (1, .int x1_1)] (Nat.le_of_ble_eq_true rfl) rfl dX4_tallySmaller_17 ?_
    obtain ⟨M4, hq2, h⟩ := me_bd h
    have hx1 : me_W p l e R s m args below meth c 0 0 (MQ below (me_Qc D cA ad n A none M') args s 0 0 A) D cA ad n 5 A 71 [(0, .ref (ad 9)), (1, .int x1_1)] [] M4 := by
      refine me_iinc X (v := (x1_1 + 1)) 1 rfl (in_1 _) [(1, .int (x1_1 + 1)), (0, .ref (ad 9))] (Nat.le_of_ble_eq_true rfl) rfl dX4_tallySmaller_71 ?_
      refine me_goto X 2 (by decide) dX4_tallySmaller_74 ?_
      obtain rfl := me_so h
      refine me_sub (L' := [(0, .ref (ad 9)), (1, .int (x1_1 + 1))]) [1, 0] rfl ?_
      exact hb1 ((x1_1 + 1), M4) rfl
    refine me_sub (L' := [(0, .ref (ad 9)), (1, .int x1_1), (2, .int v1), (3, .int 0)]) [2, 3, 1, 0] rfl ?_
    refine me_l_W (b := (mX4_tallySmaller_9_L18 x1_1 v1)) (P := fun w => me_W p l e R s m args below meth c 0 0 (MQ below (me_Qc D cA ad n A none M') args s 0 0 A) D cA ad n 5 A 18 [(0, .ref (ad 9)), (1, .int x1_1), (2, .int v1), (3, .int w.1)] [] w.2) (r := M4) ?_ me_fu (0, M1) hq2
    rintro ⟨x3_1, M2⟩ z2 h hb2 - hr2
    unfold mX4_tallySmaller_9_L18 at h
    refine me_iload_n X (i := 3) 3 rfl dX4_tallySmaller_18 ?_
    refine me_bipush X dX4_tallySmaller_19 ib_8 ?_
    refine me_icmp_ge X 71 (by decide) dX4_tallySmaller_21 (fun c2 => ?_) (fun c2 => ?_)
    · have h := me_ip c2 h
      obtain rfl := me_so h
      have q := hr2 _ rfl
      refine me_sub (L' := [(0, .ref (ad 9)), (1, .int x1_1)]) [0, 1] rfl ?_
      cases q
      exact hx1
    · have h := me_in c2 h
      refine me_iload_n X (i := 2) 2 rfl dX4_tallySmaller_24 ?_
      refine me_iconst X dX4_tallySmaller_25 ic_2 ?_
      refine me_iload_n X (i := 3) 3 rfl dX4_tallySmaller_26 ?_
      refine me_iadd X dX4_tallySmaller_27 ?_
      have hj36_1 : ∀ (s1 : Int32), mX4_tallySmaller_9_J36 x1_1 v1 x3_1 M2 s1 = some z2 → me_W p l e R s m args below meth c 0 0 (MQ below (me_Qc D cA ad n A none M') args s 0 0 A) D cA ad n 5 A 36 [(0, .ref (ad 9)), (1, .int x1_1), (2, .int v1), (3, .int x3_1)] [.int s1] M2 := by
        intro s1 h
        unfold mX4_tallySmaller_9_J36 at h
        refine me_istore X (i := 4) [(4, .int s1), (0, .ref (ad 9)), (1, .int x1_1), (2, .int v1), (3, .int x3_1)] (Nat.le_of_ble_eq_true rfl) rfl dX4_tallySmaller_36 ?_
        refine me_aload_n X (i := 0) 1 rfl dX4_tallySmaller_38 ?_
        refine me_getr X 13 kF_X4_21 (Nat.le_of_ble_eq_true rfl) me_k9 me_f9_4 dX4_tallySmaller_39 ?_
        refine me_iload_n X (i := 1) 2 rfl dX4_tallySmaller_42 ?_
        refine me_iconst X dX4_tallySmaller_43 ic_1 ?_
        refine me_iadd X dX4_tallySmaller_44 ?_
        refine me_bipush X dX4_tallySmaller_45 ib_8 ?_
        refine me_imul X dX4_tallySmaller_47 ?_
        refine me_iload_n X (i := 3) 4 rfl dX4_tallySmaller_48 ?_
        refine me_iadd X dX4_tallySmaller_49 ?_
        refine me_aload_n X (i := 0) 1 rfl dX4_tallySmaller_50 ?_
        refine me_getr X 13 kF_X4_21 (Nat.le_of_ble_eq_true rfl) me_k9 me_f9_4 dX4_tallySmaller_51 ?_
        refine me_iload_n X (i := 1) 2 rfl dX4_tallySmaller_54 ?_
        refine me_bipush X dX4_tallySmaller_55 ib_8 ?_
        refine me_imul X dX4_tallySmaller_57 ?_
        refine me_iload_n X (i := 3) 4 rfl dX4_tallySmaller_58 ?_
        refine me_iadd X dX4_tallySmaller_59 ?_
        obtain ⟨v2, e2, h⟩ := me_bd h
        refine me_iald X (Nat.le_of_ble_eq_true rfl) me_k13 e2 dX4_tallySmaller_60 ?_
        refine me_iload X (i := 4) 0 rfl dX4_tallySmaller_61 ?_
        refine me_iadd X dX4_tallySmaller_63 ?_
        obtain ⟨M3, e3, h⟩ := me_bd h
        refine me_iast X (Nat.le_of_ble_eq_true rfl) me_k13 e3 dX4_tallySmaller_64 ?_
        refine me_iinc X (v := (x3_1 + 1)) 4 rfl (in_1 _) [(3, .int (x3_1 + 1)), (4, .int s1), (0, .ref (ad 9)), (1, .int x1_1), (2, .int v1)] (Nat.le_of_ble_eq_true rfl) rfl dX4_tallySmaller_65 ?_
        refine me_goto X 18 (by decide) dX4_tallySmaller_68 ?_
        obtain rfl := me_so h
        refine me_sub (L' := [(0, .ref (ad 9)), (1, .int x1_1), (2, .int v1), (3, .int (x3_1 + 1))]) [2, 3, 4, 0] rfl ?_
        exact hb2 ((x3_1 + 1), M3) rfl
      refine me_icmp_ge X 35 (by decide) dX4_tallySmaller_28 (fun c3 => ?_) (fun c3 => ?_)
      · have h := me_ip c3 h
        refine me_iconst X dX4_tallySmaller_35 ic_0 ?_
        exact hj36_1 0 h
      · have h := me_in c3 h
        refine me_iconst X dX4_tallySmaller_31 ic_1 ?_
        refine me_goto X 36 (by decide) dX4_tallySmaller_32 ?_
        exact hj36_1 1 h
def mX4_arrange_9 (M : me_M) (p0 : Int32) : Option me_M :=
  ((mX4_sortPlaces_9 (me_s M 9 5 p0)).bind fun M1 => ((mX4_compareNeighbours_9 M1).bind fun M2 => ((mX4_tallySmaller_9 M2).bind fun M3 => some M3)))
set_option maxRecDepth 100000 in
set_option maxHeartbeats 4000000 in
theorem ctX4_arrange_9 {l : Launch} {n nt : Nat} (hn : 63 ≤ n) (hnt : 1 ≤ nt) {M : me_M} {p0 : Int32} {M' : me_M} (h : mX4_arrange_9 M p0 = some M') : me_Ct l yX4_arrange cX4_arrange 2 none 2 n nt (fun ad => [.ref (ad 9), .int p0]) M (fun _ => none) M' := by
  unfold mX4_arrange_9 at h
  refine me_enter (N0 := 63) RX4 rfl (plainFor_of_name pl_RX4) hn (Nat.le_trans (by decide) hnt) (fun _ => Nat.le_of_ble_eq_true rfl) ?_
  intro p e R s m args below meth c D cA ad tys A X hr hlk
  refine me_sub (L' := [(0, .ref (ad 9)), (1, .int p0)]) [0, 1] rfl ?_
  refine me_aload_n X (i := 0) 0 rfl dX4_arrange_0 ?_
  refine me_iload_n X (i := 1) 1 rfl dX4_arrange_1 ?_
  refine me_puti X kG_X4_27 (Nat.le_of_ble_eq_true rfl) me_k9 me_f9_5 dX4_arrange_2 ?_
  refine me_aload_n X (i := 0) 0 rfl dX4_arrange_5 ?_
  obtain ⟨M1, e1, h⟩ := me_bd h
  refine me_callVv X [] (ctX4_sortPlaces_9 hn (Nat.le_trans (by decide) hnt) e1) kV_X4_31 rfl rfl (Nat.le_of_ble_eq_true rfl) me_k9 (Nat.le_of_ble_eq_true rfl) (Nat.le_refl _) (Nat.le_of_ble_eq_true rfl) dX4_arrange_6 ?_
  refine me_aload_n X (i := 0) 0 rfl dX4_arrange_9 ?_
  obtain ⟨M2, e2, h⟩ := me_bd h
  refine me_callVv X [] (ctX4_compareNeighbours_9 hn (Nat.le_trans (by decide) hnt) e2) kV_X4_34 rfl rfl (Nat.le_of_ble_eq_true rfl) me_k9 (Nat.le_of_ble_eq_true rfl) (Nat.le_refl _) (Nat.le_of_ble_eq_true rfl) dX4_arrange_10 ?_
  refine me_aload_n X (i := 0) 0 rfl dX4_arrange_13 ?_
  obtain ⟨M3, e3, h⟩ := me_bd h
  refine me_callVv X [] (ctX4_tallySmaller_9 hn (Nat.le_trans (by decide) hnt) e3) kV_X4_37 rfl rfl (Nat.le_of_ble_eq_true rfl) me_k9 (Nat.le_of_ble_eq_true rfl) (Nat.le_refl _) (Nat.le_of_ble_eq_true rfl) dX4_arrange_14 ?_
  obtain rfl := me_so h
  exact me_vret X hr hlk dX4_arrange_17
def mX4_walk_9 (M : me_M) (p0 : Int32) : Option Int32 :=
  ((me_r M 10 241 p0).bind fun v1 => (if v1 = 0 then some 0 else ((me_r M 11 241 (v1 - 1)).bind fun v2 => some v2)))
set_option maxRecDepth 100000 in
set_option maxHeartbeats 4000000 in
theorem ctX4_walk_9 {l : Launch} {n nt : Nat} (hn : 63 ≤ n) (hnt : 1 ≤ nt) {M : me_M} {p0 : Int32} {r : Int32} (h : mX4_walk_9 M p0 = some r) : me_Ct l yX4_walk cX4_walk 3 (some .int) 0 n nt (fun ad => [.ref (ad 9), .int p0]) M (fun _ => some (.int r)) M := by
  unfold mX4_walk_9 at h
  refine me_enter (N0 := 63) RX4 rfl (plainFor_of_name pl_RX4) hn (Nat.le_trans (by decide) hnt) (fun _ => Nat.le_of_ble_eq_true rfl) ?_
  intro p e R s m args below meth c D cA ad tys A X hr hlk
  refine me_sub (L' := [(0, .ref (ad 9)), (1, .int p0)]) [0, 1] rfl ?_
  refine me_aload_n X (i := 0) 0 rfl dX4_walk_0 ?_
  refine me_getr X 10 kF_X4_9 (Nat.le_of_ble_eq_true rfl) me_k9 me_f9_1 dX4_walk_1 ?_
  refine me_iload_n X (i := 1) 1 rfl dX4_walk_4 ?_
  obtain ⟨v1, e1, h⟩ := me_bd h
  refine me_iald X (Nat.le_of_ble_eq_true rfl) me_k10 e1 dX4_walk_5 ?_
  refine me_istore_n X (i := 2) [(2, .int v1), (0, .ref (ad 9)), (1, .int p0)] (Nat.le_of_ble_eq_true rfl) rfl dX4_walk_6 ?_
  refine me_iload_n X (i := 2) 0 rfl dX4_walk_7 ?_
  refine me_if_ne X 15 (by decide) dX4_walk_8 (fun c1 => ?_) (fun c1 => ?_)
  · have h := me_in c1 h
    refine me_aload_n X (i := 0) 1 rfl dX4_walk_15 ?_
    refine me_getr X 11 kF_X4_15 (Nat.le_of_ble_eq_true rfl) me_k9 me_f9_2 dX4_walk_16 ?_
    refine me_iload_n X (i := 2) 0 rfl dX4_walk_19 ?_
    refine me_iconst X dX4_walk_20 ic_1 ?_
    refine me_isub X dX4_walk_21 ?_
    obtain ⟨v2, e2, h⟩ := me_bd h
    refine me_iald X (Nat.le_of_ble_eq_true rfl) me_k11 e2 dX4_walk_22 ?_
    obtain rfl := me_so h
    exact me_iret X hr hlk dX4_walk_23
  · have h := me_ip c1 h
    refine me_iconst X dX4_walk_11 ic_0 ?_
    refine me_goto X 23 (by decide) dX4_walk_12 ?_
    obtain rfl := me_so h
    exact me_iret X hr hlk dX4_walk_23
def mX4_smallerAhead_9 (M : me_M) (p0 : Int32) (p1 : Int32) : Option Int32 :=
  (if p1 < 8 then ((me_r M 13 1936 ((p0 * 8) + p1)).bind fun v1 => some v1) else some p0)
set_option maxRecDepth 100000 in
set_option maxHeartbeats 4000000 in
theorem ctX4_smallerAhead_9 {l : Launch} {n nt : Nat} (hn : 63 ≤ n) (hnt : 1 ≤ nt) {M : me_M} {p0 : Int32} {p1 : Int32} {r : Int32} (h : mX4_smallerAhead_9 M p0 p1 = some r) : me_Ct l yX4_smallerAhead cX4_smallerAhead 3 (some .int) 0 n nt (fun ad => [.ref (ad 9), .int p0, .int p1]) M (fun _ => some (.int r)) M := by
  unfold mX4_smallerAhead_9 at h
  refine me_enter (N0 := 63) RX4 rfl (plainFor_of_name pl_RX4) hn (Nat.le_trans (by decide) hnt) (fun _ => Nat.le_of_ble_eq_true rfl) ?_
  intro p e R s m args below meth c D cA ad tys A X hr hlk
  refine me_sub (L' := [(0, .ref (ad 9)), (1, .int p0), (2, .int p1)]) [0, 1, 2] rfl ?_
  refine me_iload_n X (i := 2) 2 rfl dX4_smallerAhead_0 ?_
  refine me_bipush X dX4_smallerAhead_1 ib_8 ?_
  refine me_icmp_lt X 10 (by decide) dX4_smallerAhead_3 (fun c1 => ?_) (fun c1 => ?_)
  · have h := me_ip c1 h
    refine me_aload_n X (i := 0) 0 rfl dX4_smallerAhead_10 ?_
    refine me_getr X 13 kF_X4_21 (Nat.le_of_ble_eq_true rfl) me_k9 me_f9_4 dX4_smallerAhead_11 ?_
    refine me_iload_n X (i := 1) 1 rfl dX4_smallerAhead_14 ?_
    refine me_bipush X dX4_smallerAhead_15 ib_8 ?_
    refine me_imul X dX4_smallerAhead_17 ?_
    refine me_iload_n X (i := 2) 2 rfl dX4_smallerAhead_18 ?_
    refine me_iadd X dX4_smallerAhead_19 ?_
    obtain ⟨v1, e1, h⟩ := me_bd h
    refine me_iald X (Nat.le_of_ble_eq_true rfl) me_k13 e1 dX4_smallerAhead_20 ?_
    obtain rfl := me_so h
    exact me_iret X hr hlk dX4_smallerAhead_21
  · have h := me_in c1 h
    refine me_iload_n X (i := 1) 1 rfl dX4_smallerAhead_6 ?_
    refine me_goto X 21 (by decide) dX4_smallerAhead_7 ?_
    obtain rfl := me_so h
    exact me_iret X hr hlk dX4_smallerAhead_21
def mX4_lettersAhead_9 (M : me_M) (p0 : Int32) (p1 : Int32) : Option Int32 :=
  ((mX4_smallerAhead_9 M p0 (p1 + 1)).bind fun v1 => ((mX4_smallerAhead_9 M p0 p1).bind fun v2 => some (v1 - v2)))
set_option maxRecDepth 100000 in
set_option maxHeartbeats 4000000 in
theorem ctX4_lettersAhead_9 {l : Launch} {n nt : Nat} (hn : 63 ≤ n) (hnt : 1 ≤ nt) {M : me_M} {p0 : Int32} {p1 : Int32} {r : Int32} (h : mX4_lettersAhead_9 M p0 p1 = some r) : me_Ct l yX4_lettersAhead cX4_lettersAhead 3 (some .int) 1 n nt (fun ad => [.ref (ad 9), .int p0, .int p1]) M (fun _ => some (.int r)) M := by
  unfold mX4_lettersAhead_9 at h
  refine me_enter (N0 := 63) RX4 rfl (plainFor_of_name pl_RX4) hn (Nat.le_trans (by decide) hnt) (fun _ => Nat.le_of_ble_eq_true rfl) ?_
  intro p e R s m args below meth c D cA ad tys A X hr hlk
  refine me_sub (L' := [(0, .ref (ad 9)), (1, .int p0), (2, .int p1)]) [0, 1, 2] rfl ?_
  refine me_aload_n X (i := 0) 0 rfl dX4_lettersAhead_0 ?_
  refine me_iload_n X (i := 1) 1 rfl dX4_lettersAhead_1 ?_
  refine me_iload_n X (i := 2) 2 rfl dX4_lettersAhead_2 ?_
  refine me_iconst X dX4_lettersAhead_3 ic_1 ?_
  refine me_iadd X dX4_lettersAhead_4 ?_
  obtain ⟨v1, e1, h⟩ := me_bd h
  refine me_callVi X [.int p0, .int (p1 + 1)] (ctX4_smallerAhead_9 hn (Nat.le_trans (by decide) hnt) e1) kV_X4_54 rfl rfl (Nat.le_of_ble_eq_true rfl) me_k9 (Nat.le_of_ble_eq_true rfl) (Nat.le_refl _) (Nat.le_of_ble_eq_true rfl) dX4_lettersAhead_5 ?_
  refine me_aload_n X (i := 0) 0 rfl dX4_lettersAhead_8 ?_
  refine me_iload_n X (i := 1) 1 rfl dX4_lettersAhead_9 ?_
  refine me_iload_n X (i := 2) 2 rfl dX4_lettersAhead_10 ?_
  obtain ⟨v2, e2, h⟩ := me_bd h
  refine me_callVi X [.int p0, .int p1] (ctX4_smallerAhead_9 hn (Nat.le_trans (by decide) hnt) e2) kV_X4_54 rfl rfl (Nat.le_of_ble_eq_true rfl) me_k9 (Nat.le_of_ble_eq_true rfl) (Nat.le_refl _) (Nat.le_of_ble_eq_true rfl) dX4_lettersAhead_11 ?_
  refine me_isub X dX4_lettersAhead_14 ?_
  obtain rfl := me_so h
  exact me_iret X hr hlk dX4_lettersAhead_15
def mX4_rowWith_9 (M : me_M) (p0 : Int32) (p1 : Int32) : Option Int32 :=
  ((mX4_smallerAhead_9 M ((M.1 9 5) + 1) p1).bind fun v1 => ((mX4_lettersAhead_9 M p0 p1).bind fun v2 => some (v1 + v2)))
set_option maxRecDepth 100000 in
set_option maxHeartbeats 4000000 in
theorem ctX4_rowWith_9 {l : Launch} {n nt : Nat} (hn : 63 ≤ n) (hnt : 1 ≤ nt) {M : me_M} {p0 : Int32} {p1 : Int32} {r : Int32} (h : mX4_rowWith_9 M p0 p1 = some r) : me_Ct l yX4_rowWith cX4_rowWith 3 (some .int) 2 n nt (fun ad => [.ref (ad 9), .int p0, .int p1]) M (fun _ => some (.int r)) M := by
  unfold mX4_rowWith_9 at h
  refine me_enter (N0 := 63) RX4 rfl (plainFor_of_name pl_RX4) hn (Nat.le_trans (by decide) hnt) (fun _ => Nat.le_of_ble_eq_true rfl) ?_
  intro p e R s m args below meth c D cA ad tys A X hr hlk
  refine me_sub (L' := [(0, .ref (ad 9)), (1, .int p0), (2, .int p1)]) [0, 1, 2] rfl ?_
  refine me_aload_n X (i := 0) 0 rfl dX4_rowWith_0 ?_
  refine me_aload_n X (i := 0) 0 rfl dX4_rowWith_1 ?_
  refine me_geti X kF_X4_27 (Nat.le_of_ble_eq_true rfl) me_k9 me_f9_5 dX4_rowWith_2 ?_
  refine me_iconst X dX4_rowWith_5 ic_1 ?_
  refine me_iadd X dX4_rowWith_6 ?_
  refine me_iload_n X (i := 2) 2 rfl dX4_rowWith_7 ?_
  obtain ⟨v1, e1, h⟩ := me_bd h
  refine me_callVi X [.int ((M.1 9 5) + 1), .int p1] (ctX4_smallerAhead_9 hn (Nat.le_trans (by decide) hnt) e1) kV_X4_54 rfl rfl (Nat.le_of_ble_eq_true rfl) me_k9 (Nat.le_of_ble_eq_true rfl) (Nat.le_refl _) (Nat.le_of_ble_eq_true rfl) dX4_rowWith_8 ?_
  refine me_aload_n X (i := 0) 0 rfl dX4_rowWith_11 ?_
  refine me_iload_n X (i := 1) 1 rfl dX4_rowWith_12 ?_
  refine me_iload_n X (i := 2) 2 rfl dX4_rowWith_13 ?_
  obtain ⟨v2, e2, h⟩ := me_bd h
  refine me_callVi X [.int p0, .int p1] (ctX4_lettersAhead_9 hn (Nat.le_trans (by decide) hnt) e2) kV_X4_57 rfl rfl (Nat.le_of_ble_eq_true rfl) me_k9 (Nat.le_of_ble_eq_true rfl) (Nat.le_refl _) (Nat.le_of_ble_eq_true rfl) dX4_rowWith_14 ?_
  refine me_iadd X dX4_rowWith_17 ?_
  obtain rfl := me_so h
  exact me_iret X hr hlk dX4_rowWith_18
def mX4_isAhead_14_J31 (p0 : Int32) (p1 : Int32) (M : me_M)  : Option Int32 :=
  ((me_r M 5 241 p0).bind fun v5 => ((me_r M 5 241 p1).bind fun v6 => (if v6 ≤ v5 then some 0 else some 1)))
def mX4_isAhead_14 (M : me_M) (p0 : Int32) (p1 : Int32) : Option Int32 :=
  ((me_r M 5 241 p0).bind fun v1 => ((me_r M 5 241 p1).bind fun v2 => (if v1 = v2 then (if (M.1 14 5) ≤ p0 then (mX4_isAhead_14_J31 p0 p1 M ) else (if p1 < (M.1 14 5) then ((me_r M 16 241 (p0 + 1)).bind fun v3 => ((me_r M 16 241 (p1 + 1)).bind fun v4 => (if v4 ≤ v3 then some 0 else some 1))) else (mX4_isAhead_14_J31 p0 p1 M ))) else (mX4_isAhead_14_J31 p0 p1 M ))))
set_option maxRecDepth 100000 in
set_option maxHeartbeats 4000000 in
theorem ctX4_isAhead_14 {l : Launch} {n nt : Nat} (hn : 63 ≤ n) (hnt : 1 ≤ nt) {M : me_M} {p0 : Int32} {p1 : Int32} {r : Int32} (h : mX4_isAhead_14 M p0 p1 = some r) : me_Ct l yX4_isAhead cX4_isAhead 3 (some .boolean) 0 n nt (fun ad => [.ref (ad 14), .int p0, .int p1]) M (fun _ => some (.int r)) M := by
  unfold mX4_isAhead_14 at h
  refine me_enter (N0 := 63) RX4 rfl (plainFor_of_name pl_RX4) hn (Nat.le_trans (by decide) hnt) (fun _ => Nat.le_of_ble_eq_true rfl) ?_
  intro p e R s m args below meth c D cA ad tys A X hr hlk
  refine me_sub (L' := [(0, .ref (ad 14)), (1, .int p0), (2, .int p1)]) [0, 1, 2] rfl ?_
  refine me_aload_n X (i := 0) 0 rfl dX4_isAhead_0 ?_
  refine me_getr X 5 kF_X4_24 (Nat.le_of_ble_eq_true rfl) me_k14 me_f14_0 dX4_isAhead_1 ?_
  refine me_iload_n X (i := 1) 1 rfl dX4_isAhead_4 ?_
  obtain ⟨v1, e1, h⟩ := me_bd h
  refine me_iald X (Nat.le_of_ble_eq_true rfl) me_k5 e1 dX4_isAhead_5 ?_
  refine me_aload_n X (i := 0) 0 rfl dX4_isAhead_6 ?_
  refine me_getr X 5 kF_X4_24 (Nat.le_of_ble_eq_true rfl) me_k14 me_f14_0 dX4_isAhead_7 ?_
  refine me_iload_n X (i := 2) 2 rfl dX4_isAhead_10 ?_
  obtain ⟨v2, e2, h⟩ := me_bd h
  refine me_iald X (Nat.le_of_ble_eq_true rfl) me_k5 e2 dX4_isAhead_11 ?_
  have hj31_1 : mX4_isAhead_14_J31 p0 p1 M  = some r → me_W p l e R s m args below meth c 0 0 (MQ below (me_Qc D cA ad n A (some (.int r)) M) args s 0 0 A) D cA ad n 3 A 31 [(0, .ref (ad 14)), (1, .int p0), (2, .int p1)] [] M := by
    intro h
    unfold mX4_isAhead_14_J31 at h
    refine me_aload_n X (i := 0) 0 rfl dX4_isAhead_31 ?_
    refine me_getr X 5 kF_X4_24 (Nat.le_of_ble_eq_true rfl) me_k14 me_f14_0 dX4_isAhead_32 ?_
    refine me_iload_n X (i := 1) 1 rfl dX4_isAhead_35 ?_
    obtain ⟨v5, e5, h⟩ := me_bd h
    refine me_iald X (Nat.le_of_ble_eq_true rfl) me_k5 e5 dX4_isAhead_36 ?_
    refine me_aload_n X (i := 0) 0 rfl dX4_isAhead_37 ?_
    refine me_getr X 5 kF_X4_24 (Nat.le_of_ble_eq_true rfl) me_k14 me_f14_0 dX4_isAhead_38 ?_
    refine me_iload_n X (i := 2) 2 rfl dX4_isAhead_41 ?_
    obtain ⟨v6, e6, h⟩ := me_bd h
    refine me_iald X (Nat.le_of_ble_eq_true rfl) me_k5 e6 dX4_isAhead_42 ?_
    refine me_icmp_ge X 50 (by decide) dX4_isAhead_43 (fun c5 => ?_) (fun c5 => ?_)
    · have h := me_ip c5 h
      refine me_iconst X dX4_isAhead_50 ic_0 ?_
      obtain rfl := me_so h
      exact me_zret X (by decide) hr hlk dX4_isAhead_51
    · have h := me_in c5 h
      refine me_iconst X dX4_isAhead_46 ic_1 ?_
      refine me_goto X 51 (by decide) dX4_isAhead_47 ?_
      obtain rfl := me_so h
      exact me_zret X (by decide) hr hlk dX4_isAhead_51
  refine me_icmp_ne X 31 (by decide) dX4_isAhead_12 (fun c1 => ?_) (fun c1 => ?_)
  · have h := me_in c1 h
    exact hj31_1  h
  · have h := me_ip c1 h
    refine me_iload_n X (i := 1) 1 rfl dX4_isAhead_15 ?_
    refine me_aload_n X (i := 0) 0 rfl dX4_isAhead_16 ?_
    refine me_geti X kF_X4_27 (Nat.le_of_ble_eq_true rfl) me_k14 me_f14_5 dX4_isAhead_17 ?_
    refine me_icmp_ge X 31 (by decide) dX4_isAhead_20 (fun c2 => ?_) (fun c2 => ?_)
    · have h := me_ip c2 h
      exact hj31_1  h
    · have h := me_in c2 h
      refine me_iload_n X (i := 2) 2 rfl dX4_isAhead_23 ?_
      refine me_aload_n X (i := 0) 0 rfl dX4_isAhead_24 ?_
      refine me_geti X kF_X4_27 (Nat.le_of_ble_eq_true rfl) me_k14 me_f14_5 dX4_isAhead_25 ?_
      refine me_icmp_lt X 52 (by decide) dX4_isAhead_28 (fun c3 => ?_) (fun c3 => ?_)
      · have h := me_ip c3 h
        refine me_aload_n X (i := 0) 0 rfl dX4_isAhead_52 ?_
        refine me_getr X 16 kF_X4_15 (Nat.le_of_ble_eq_true rfl) me_k14 me_f14_2 dX4_isAhead_53 ?_
        refine me_iload_n X (i := 1) 1 rfl dX4_isAhead_56 ?_
        refine me_iconst X dX4_isAhead_57 ic_1 ?_
        refine me_iadd X dX4_isAhead_58 ?_
        obtain ⟨v3, e3, h⟩ := me_bd h
        refine me_iald X (Nat.le_of_ble_eq_true rfl) me_k16 e3 dX4_isAhead_59 ?_
        refine me_aload_n X (i := 0) 0 rfl dX4_isAhead_60 ?_
        refine me_getr X 16 kF_X4_15 (Nat.le_of_ble_eq_true rfl) me_k14 me_f14_2 dX4_isAhead_61 ?_
        refine me_iload_n X (i := 2) 2 rfl dX4_isAhead_64 ?_
        refine me_iconst X dX4_isAhead_65 ic_1 ?_
        refine me_iadd X dX4_isAhead_66 ?_
        obtain ⟨v4, e4, h⟩ := me_bd h
        refine me_iald X (Nat.le_of_ble_eq_true rfl) me_k16 e4 dX4_isAhead_67 ?_
        refine me_icmp_ge X 75 (by decide) dX4_isAhead_68 (fun c4 => ?_) (fun c4 => ?_)
        · have h := me_ip c4 h
          refine me_iconst X dX4_isAhead_75 ic_0 ?_
          obtain rfl := me_so h
          exact me_zret X (by decide) hr hlk dX4_isAhead_76
        · have h := me_in c4 h
          refine me_iconst X dX4_isAhead_71 ic_1 ?_
          refine me_goto X 76 (by decide) dX4_isAhead_72 ?_
          obtain rfl := me_so h
          exact me_zret X (by decide) hr hlk dX4_isAhead_76
      · have h := me_in c3 h
        exact hj31_1  h
def mX4_sortPlaces_14_L38 (x1_1 : Int32) : (Int32 × me_M) → Option ((Int32 × me_M) ⊕ (Int32 × me_M))
  | (x2_1, M4) => (if x2_1 ≤ 0 then some (.inr (x2_1, M4)) else ((me_r M4 15 241 (x2_1 - 1)).bind fun v1 => ((mX4_isAhead_14 M4 x1_1 v1).bind fun v2 => (if v2 = 0 then some (.inr (x2_1, M4)) else ((me_r M4 15 241 (x2_1 - 1)).bind fun v3 => ((me_t M4 15 241 x2_1 v3).bind fun M5 => ((me_r M5 15 241 x2_1).bind fun v4 => ((me_t M5 16 241 v4 x2_1).bind fun M6 => some (.inl ((x2_1 + (-1)), M6))))))))))
def mX4_sortPlaces_14_L27  : (Int32 × me_M) → Option ((Int32 × me_M) ⊕ (me_M))
  | (x1_1, M3) => (if x1_1 < 0 then some (.inr M3) else ((me_l (mX4_sortPlaces_14_L38 x1_1) me_fu (((M3.1 14 5) - x1_1), M3)).bind fun (y2_1, M7) => ((me_t M7 15 241 y2_1 x1_1).bind fun M8 => ((me_t M8 16 241 x1_1 y2_1).bind fun M9 => some (.inl ((x1_1 + (-1)), M9))))))
def mX4_sortPlaces_14 (M : me_M)  : Option me_M :=
  ((me_t M 15 241 0 (M.1 14 5)).bind fun M1 => ((me_t M1 16 241 (M1.1 14 5) 0).bind fun M2 => ((me_l mX4_sortPlaces_14_L27 me_fu (((M2.1 14 5) - 1), M2)).bind fun M10 => some M10)))
set_option maxRecDepth 100000 in
set_option maxHeartbeats 4000000 in
theorem ctX4_sortPlaces_14 {l : Launch} {n nt : Nat} (hn : 63 ≤ n) (hnt : 1 ≤ nt) {M : me_M} {M' : me_M} (h : mX4_sortPlaces_14 M = some M') : me_Ct l yX4_sortPlaces cX4_sortPlaces 3 none 1 n nt (fun ad => [.ref (ad 14)]) M (fun _ => none) M' := by
  unfold mX4_sortPlaces_14 at h
  refine me_enter (N0 := 63) RX4 rfl (plainFor_of_name pl_RX4) hn (Nat.le_trans (by decide) hnt) (fun _ => Nat.le_of_ble_eq_true rfl) ?_
  intro p e R s m args below meth c D cA ad tys A X hr hlk
  refine me_sub (L' := [(0, .ref (ad 14))]) [0] rfl ?_
  refine me_aload_n X (i := 0) 0 rfl dX4_sortPlaces_0 ?_
  refine me_getr X 15 kF_X4_9 (Nat.le_of_ble_eq_true rfl) me_k14 me_f14_1 dX4_sortPlaces_1 ?_
  refine me_iconst X dX4_sortPlaces_4 ic_0 ?_
  refine me_aload_n X (i := 0) 0 rfl dX4_sortPlaces_5 ?_
  refine me_geti X kF_X4_27 (Nat.le_of_ble_eq_true rfl) me_k14 me_f14_5 dX4_sortPlaces_6 ?_
  obtain ⟨M1, e1, h⟩ := me_bd h
  refine me_iast X (Nat.le_of_ble_eq_true rfl) me_k15 e1 dX4_sortPlaces_9 ?_
  refine me_aload_n X (i := 0) 0 rfl dX4_sortPlaces_10 ?_
  refine me_getr X 16 kF_X4_15 (Nat.le_of_ble_eq_true rfl) me_k14 me_f14_2 dX4_sortPlaces_11 ?_
  refine me_aload_n X (i := 0) 0 rfl dX4_sortPlaces_14 ?_
  refine me_geti X kF_X4_27 (Nat.le_of_ble_eq_true rfl) me_k14 me_f14_5 dX4_sortPlaces_15 ?_
  refine me_iconst X dX4_sortPlaces_18 ic_0 ?_
  obtain ⟨M2, e2, h⟩ := me_bd h
  refine me_iast X (Nat.le_of_ble_eq_true rfl) me_k16 e2 dX4_sortPlaces_19 ?_
  refine me_aload_n X (i := 0) 0 rfl dX4_sortPlaces_20 ?_
  refine me_geti X kF_X4_27 (Nat.le_of_ble_eq_true rfl) me_k14 me_f14_5 dX4_sortPlaces_21 ?_
  refine me_iconst X dX4_sortPlaces_24 ic_1 ?_
  refine me_isub X dX4_sortPlaces_25 ?_
  refine me_istore_n X (i := 1) [(1, .int ((M2.1 14 5) - 1)), (0, .ref (ad 14))] (Nat.le_of_ble_eq_true rfl) rfl dX4_sortPlaces_26 ?_
  obtain ⟨M10, hq1, h⟩ := me_bd h
  have hx2 : me_W p l e R s m args below meth c 0 0 (MQ below (me_Qc D cA ad n A none M') args s 0 0 A) D cA ad n 3 A 110 [] [] M10 := by
    obtain rfl := me_so h
    exact me_vret X hr hlk dX4_sortPlaces_110
  refine me_sub (L' := [(0, .ref (ad 14)), (1, .int ((M2.1 14 5) - 1))]) [1, 0] rfl ?_
  refine me_l_W (b := mX4_sortPlaces_14_L27) (P := fun w => me_W p l e R s m args below meth c 0 0 (MQ below (me_Qc D cA ad n A none M') args s 0 0 A) D cA ad n 3 A 27 [(0, .ref (ad 14)), (1, .int w.1)] [] w.2) (r := M10) ?_ me_fu (((M2.1 14 5) - 1), M2) hq1
  rintro ⟨x1_1, M3⟩ z1 h hb1 - hr1
  unfold mX4_sortPlaces_14_L27 at h
  refine me_iload_n X (i := 1) 1 rfl dX4_sortPlaces_27 ?_
  refine me_if_lt X 110 (by decide) dX4_sortPlaces_28 (fun c1 => ?_) (fun c1 => ?_)
  · have h := me_ip c1 h
    obtain rfl := me_so h
    have q := hr1 _ rfl
    refine me_sub (L' := []) [] rfl ?_
    cases q
    exact hx2
  · have h := me_in c1 h
    refine me_aload_n X (i := 0) 0 rfl dX4_sortPlaces_31 ?_
    refine me_geti X kF_X4_27 (Nat.le_of_ble_eq_true rfl) me_k14 me_f14_5 dX4_sortPlaces_32 ?_
    refine me_iload_n X (i := 1) 1 rfl dX4_sortPlaces_35 ?_
    refine me_isub X dX4_sortPlaces_36 ?_
    refine me_istore_n X (i := 2) [(2, .int ((M3.1 14 5) - x1_1)), (0, .ref (ad 14)), (1, .int x1_1)] (Nat.le_of_ble_eq_true rfl) rfl dX4_sortPlaces_37 ?_
    obtain ⟨⟨y2_1, M7⟩, hq2, h⟩ := me_bd h
    have hx1 : me_W p l e R s m args below meth c 0 0 (MQ below (me_Qc D cA ad n A none M') args s 0 0 A) D cA ad n 3 A 90 [(0, .ref (ad 14)), (1, .int x1_1), (2, .int y2_1)] [] M7 := by
      refine me_aload_n X (i := 0) 0 rfl dX4_sortPlaces_90 ?_
      refine me_getr X 15 kF_X4_9 (Nat.le_of_ble_eq_true rfl) me_k14 me_f14_1 dX4_sortPlaces_91 ?_
      refine me_iload_n X (i := 2) 2 rfl dX4_sortPlaces_94 ?_
      refine me_iload_n X (i := 1) 1 rfl dX4_sortPlaces_95 ?_
      obtain ⟨M8, e9, h⟩ := me_bd h
      refine me_iast X (Nat.le_of_ble_eq_true rfl) me_k15 e9 dX4_sortPlaces_96 ?_
      refine me_aload_n X (i := 0) 0 rfl dX4_sortPlaces_97 ?_
      refine me_getr X 16 kF_X4_15 (Nat.le_of_ble_eq_true rfl) me_k14 me_f14_2 dX4_sortPlaces_98 ?_
      refine me_iload_n X (i := 1) 1 rfl dX4_sortPlaces_101 ?_
      refine me_iload_n X (i := 2) 2 rfl dX4_sortPlaces_102 ?_
      obtain ⟨M9, e10, h⟩ := me_bd h
      refine me_iast X (Nat.le_of_ble_eq_true rfl) me_k16 e10 dX4_sortPlaces_103 ?_
      refine me_iinc X (v := (x1_1 + (-1))) 1 rfl (in_m1 _) [(1, .int (x1_1 + (-1))), (0, .ref (ad 14)), (2, .int y2_1)] (Nat.le_of_ble_eq_true rfl) rfl dX4_sortPlaces_104 ?_
      refine me_goto X 27 (by decide) dX4_sortPlaces_107 ?_
      obtain rfl := me_so h
      refine me_sub (L' := [(0, .ref (ad 14)), (1, .int (x1_1 + (-1)))]) [1, 0] rfl ?_
      exact hb1 ((x1_1 + (-1)), M9) rfl
    refine me_sub (L' := [(0, .ref (ad 14)), (1, .int x1_1), (2, .int ((M3.1 14 5) - x1_1))]) [1, 2, 0] rfl ?_
    refine me_l_W (b := (mX4_sortPlaces_14_L38 x1_1)) (P := fun w => me_W p l e R s m args below meth c 0 0 (MQ below (me_Qc D cA ad n A none M') args s 0 0 A) D cA ad n 3 A 38 [(0, .ref (ad 14)), (1, .int x1_1), (2, .int w.1)] [] w.2) (r := (y2_1, M7)) ?_ me_fu (((M3.1 14 5) - x1_1), M3) hq2
    rintro ⟨x2_1, M4⟩ z2 h hb2 - hr2
    unfold mX4_sortPlaces_14_L38 at h
    refine me_iload_n X (i := 2) 2 rfl dX4_sortPlaces_38 ?_
    refine me_if_le X 90 (by decide) dX4_sortPlaces_39 (fun c2 => ?_) (fun c2 => ?_)
    · have h := me_ip c2 h
      obtain rfl := me_so h
      have q := hr2 _ rfl
      cases q
      exact hx1
    · have h := me_in c2 h
      refine me_aload_n X (i := 0) 0 rfl dX4_sortPlaces_42 ?_
      refine me_iload_n X (i := 1) 1 rfl dX4_sortPlaces_43 ?_
      refine me_aload_n X (i := 0) 0 rfl dX4_sortPlaces_44 ?_
      refine me_getr X 15 kF_X4_9 (Nat.le_of_ble_eq_true rfl) me_k14 me_f14_1 dX4_sortPlaces_45 ?_
      refine me_iload_n X (i := 2) 2 rfl dX4_sortPlaces_48 ?_
      refine me_iconst X dX4_sortPlaces_49 ic_1 ?_
      refine me_isub X dX4_sortPlaces_50 ?_
      obtain ⟨v1, e3, h⟩ := me_bd h
      refine me_iald X (Nat.le_of_ble_eq_true rfl) me_k15 e3 dX4_sortPlaces_51 ?_
      obtain ⟨v2, e4, h⟩ := me_bd h
      refine me_callVi X [.int x1_1, .int v1] (ctX4_isAhead_14 hn (Nat.le_trans (by decide) hnt) e4) kV_X4_40 rfl rfl (Nat.le_of_ble_eq_true rfl) me_k14 (Nat.le_of_ble_eq_true rfl) (Nat.le_refl _) (Nat.le_of_ble_eq_true rfl) dX4_sortPlaces_52 ?_
      refine me_if_eq X 90 (by decide) dX4_sortPlaces_55 (fun c3 => ?_) (fun c3 => ?_)
      · have h := me_ip c3 h
        obtain rfl := me_so h
        have q := hr2 _ rfl
        cases q
        exact hx1
      · have h := me_in c3 h
        refine me_aload_n X (i := 0) 0 rfl dX4_sortPlaces_58 ?_
        refine me_getr X 15 kF_X4_9 (Nat.le_of_ble_eq_true rfl) me_k14 me_f14_1 dX4_sortPlaces_59 ?_
        refine me_iload_n X (i := 2) 2 rfl dX4_sortPlaces_62 ?_
        refine me_aload_n X (i := 0) 0 rfl dX4_sortPlaces_63 ?_
        refine me_getr X 15 kF_X4_9 (Nat.le_of_ble_eq_true rfl) me_k14 me_f14_1 dX4_sortPlaces_64 ?_
        refine me_iload_n X (i := 2) 2 rfl dX4_sortPlaces_67 ?_
        refine me_iconst X dX4_sortPlaces_68 ic_1 ?_
        refine me_isub X dX4_sortPlaces_69 ?_
        obtain ⟨v3, e5, h⟩ := me_bd h
        refine me_iald X (Nat.le_of_ble_eq_true rfl) me_k15 e5 dX4_sortPlaces_70 ?_
        obtain ⟨M5, e6, h⟩ := me_bd h
        refine me_iast X (Nat.le_of_ble_eq_true rfl) me_k15 e6 dX4_sortPlaces_71 ?_
        refine me_aload_n X (i := 0) 0 rfl dX4_sortPlaces_72 ?_
        refine me_getr X 16 kF_X4_15 (Nat.le_of_ble_eq_true rfl) me_k14 me_f14_2 dX4_sortPlaces_73 ?_
        refine me_aload_n X (i := 0) 0 rfl dX4_sortPlaces_76 ?_
        refine me_getr X 15 kF_X4_9 (Nat.le_of_ble_eq_true rfl) me_k14 me_f14_1 dX4_sortPlaces_77 ?_
        refine me_iload_n X (i := 2) 2 rfl dX4_sortPlaces_80 ?_
        obtain ⟨v4, e7, h⟩ := me_bd h
        refine me_iald X (Nat.le_of_ble_eq_true rfl) me_k15 e7 dX4_sortPlaces_81 ?_
        refine me_iload_n X (i := 2) 2 rfl dX4_sortPlaces_82 ?_
        obtain ⟨M6, e8, h⟩ := me_bd h
        refine me_iast X (Nat.le_of_ble_eq_true rfl) me_k16 e8 dX4_sortPlaces_83 ?_
        refine me_iinc X (v := (x2_1 + (-1))) 2 rfl (in_m1 _) [(2, .int (x2_1 + (-1))), (0, .ref (ad 14)), (1, .int x1_1)] (Nat.le_of_ble_eq_true rfl) rfl dX4_sortPlaces_84 ?_
        refine me_goto X 38 (by decide) dX4_sortPlaces_87 ?_
        obtain rfl := me_so h
        refine me_sub (L' := [(0, .ref (ad 14)), (1, .int x1_1), (2, .int (x2_1 + (-1)))]) [1, 2, 0] rfl ?_
        exact hb2 ((x2_1 + (-1)), M6) rfl
def mX4_compareNeighbours_14_J107 (x2_1 : Int32) (x1_3 : Int32) (M4 : me_M) : Option ((Int32 × Int32 × me_M) ⊕ (me_M)) :=
  some (.inl (x1_3, (x2_1 + 1), M4))
def mX4_compareNeighbours_14_L45 (M1 : me_M) (x2_1 : Int32) (v1 : Int32) (v2 : Int32) : (Int32) → Option ((Int32) ⊕ (Int32))
  | x1_2 => (if (M1.1 14 5) ≤ (x2_1 + x1_2) then some (.inr x1_2) else (if (M1.1 14 5) ≤ (v2 + x1_2) then some (.inr x1_2) else ((me_r M1 5 241 (x2_1 + x1_2)).bind fun v3 => ((me_r M1 5 241 (v2 + x1_2)).bind fun v4 => (if v3 = v4 then some (.inl (x1_2 + 1)) else some (.inr x1_2))))))
def mX4_compareNeighbours_14_L4  : (Int32 × Int32 × me_M) → Option ((Int32 × Int32 × me_M) ⊕ (me_M))
  | (x1_1, x2_1, M1) => (if (M1.1 14 5) < x2_1 then some (.inr M1) else ((me_r M1 16 241 x2_1).bind fun v1 => (if v1 = 0 then ((me_t M1 17 241 v1 0).bind fun M3 => (mX4_compareNeighbours_14_J107 x2_1 0 M3)) else ((me_r M1 15 241 (v1 - 1)).bind fun v2 => ((me_l (mX4_compareNeighbours_14_L45 M1 x2_1 v1 v2) me_fu x1_1).bind fun y1_1 => ((me_t M1 17 241 v1 y1_1).bind fun M2 => ((mJ9_max_7cf53 0 (y1_1 - 1)).bind fun v5 => (mX4_compareNeighbours_14_J107 x2_1 v5 M2))))))))
def mX4_compareNeighbours_14 (M : me_M)  : Option me_M :=
  ((me_l mX4_compareNeighbours_14_L4 me_fu (0, 0, M)).bind fun M5 => some M5)
set_option maxRecDepth 100000 in
set_option maxHeartbeats 4000000 in
theorem ctX4_compareNeighbours_14 {l : Launch} {n nt : Nat} (hn : 63 ≤ n) (hnt : 1 ≤ nt) {M : me_M} {M' : me_M} (h : mX4_compareNeighbours_14 M = some M') : me_Ct l yX4_compareNeighbours cX4_compareNeighbours 5 none 1 n nt (fun ad => [.ref (ad 14)]) M (fun _ => none) M' := by
  unfold mX4_compareNeighbours_14 at h
  refine me_enter (N0 := 63) RX4 rfl (plainFor_of_name pl_RX4) hn (Nat.le_trans (by decide) hnt) (fun _ => Nat.le_of_ble_eq_true rfl) ?_
  intro p e R s m args below meth c D cA ad tys A X hr hlk
  refine me_sub (L' := [(0, .ref (ad 14))]) [0] rfl ?_
  refine me_iconst X dX4_compareNeighbours_0 ic_0 ?_
  refine me_istore_n X (i := 1) [(1, .int 0), (0, .ref (ad 14))] (Nat.le_of_ble_eq_true rfl) rfl dX4_compareNeighbours_1 ?_
  refine me_iconst X dX4_compareNeighbours_2 ic_0 ?_
  refine me_istore_n X (i := 2) [(2, .int 0), (1, .int 0), (0, .ref (ad 14))] (Nat.le_of_ble_eq_true rfl) rfl dX4_compareNeighbours_3 ?_
  obtain ⟨M5, hq1, h⟩ := me_bd h
  have hx2 : me_W p l e R s m args below meth c 0 0 (MQ below (me_Qc D cA ad n A none M') args s 0 0 A) D cA ad n 5 A 113 [] [] M5 := by
    obtain rfl := me_so h
    exact me_vret X hr hlk dX4_compareNeighbours_113
  refine me_sub (L' := [(0, .ref (ad 14)), (1, .int 0), (2, .int 0)]) [2, 1, 0] rfl ?_
  refine me_l_W (b := mX4_compareNeighbours_14_L4) (P := fun w => me_W p l e R s m args below meth c 0 0 (MQ below (me_Qc D cA ad n A none M') args s 0 0 A) D cA ad n 5 A 4 [(0, .ref (ad 14)), (1, .int w.1), (2, .int w.2.1)] [] w.2.2) (r := M5) ?_ me_fu (0, 0, M) hq1
  rintro ⟨x1_1, x2_1, M1⟩ z1 h hb1 - hr1
  unfold mX4_compareNeighbours_14_L4 at h
  refine me_iload_n X (i := 2) 2 rfl dX4_compareNeighbours_4 ?_
  refine me_aload_n X (i := 0) 0 rfl dX4_compareNeighbours_5 ?_
  refine me_geti X kF_X4_27 (Nat.le_of_ble_eq_true rfl) me_k14 me_f14_5 dX4_compareNeighbours_6 ?_
  refine me_icmp_gt X 113 (by decide) dX4_compareNeighbours_9 (fun c1 => ?_) (fun c1 => ?_)
  · have h := me_ip c1 h
    obtain rfl := me_so h
    have q := hr1 _ rfl
    refine me_sub (L' := []) [] rfl ?_
    cases q
    exact hx2
  · have h := me_in c1 h
    refine me_aload_n X (i := 0) 0 rfl dX4_compareNeighbours_12 ?_
    refine me_getr X 16 kF_X4_15 (Nat.le_of_ble_eq_true rfl) me_k14 me_f14_2 dX4_compareNeighbours_13 ?_
    refine me_iload_n X (i := 2) 2 rfl dX4_compareNeighbours_16 ?_
    obtain ⟨v1, e1, h⟩ := me_bd h
    refine me_iald X (Nat.le_of_ble_eq_true rfl) me_k16 e1 dX4_compareNeighbours_17 ?_
    refine me_istore_n X (i := 3) [(3, .int v1), (0, .ref (ad 14)), (1, .int x1_1), (2, .int x2_1)] (Nat.le_of_ble_eq_true rfl) rfl dX4_compareNeighbours_18 ?_
    refine me_iload_n X (i := 3) 0 rfl dX4_compareNeighbours_19 ?_
    have hj107_1 : ∀ (x1_3 : Int32) (M4 : me_M), mX4_compareNeighbours_14_J107 x2_1 x1_3 M4 = some z1 → me_W p l e R s m args below meth c 0 0 (MQ below (me_Qc D cA ad n A none M') args s 0 0 A) D cA ad n 5 A 107 [(0, .ref (ad 14)), (1, .int x1_3), (2, .int x2_1)] [] M4 := by
      intro x1_3 M4 h
      unfold mX4_compareNeighbours_14_J107 at h
      refine me_iinc X (v := (x2_1 + 1)) 2 rfl (in_1 _) [(2, .int (x2_1 + 1)), (0, .ref (ad 14)), (1, .int x1_3)] (Nat.le_of_ble_eq_true rfl) rfl dX4_compareNeighbours_107 ?_
      refine me_goto X 4 (by decide) dX4_compareNeighbours_110 ?_
      obtain rfl := me_so h
      refine me_sub (L' := [(0, .ref (ad 14)), (1, .int x1_3), (2, .int (x2_1 + 1))]) [1, 2, 0] rfl ?_
      exact hb1 (x1_3, (x2_1 + 1), M4) rfl
    refine me_if_ne X 35 (by decide) dX4_compareNeighbours_20 (fun c2 => ?_) (fun c2 => ?_)
    · have h := me_in c2 h
      refine me_aload_n X (i := 0) 1 rfl dX4_compareNeighbours_35 ?_
      refine me_getr X 15 kF_X4_9 (Nat.le_of_ble_eq_true rfl) me_k14 me_f14_1 dX4_compareNeighbours_36 ?_
      refine me_iload_n X (i := 3) 0 rfl dX4_compareNeighbours_39 ?_
      refine me_iconst X dX4_compareNeighbours_40 ic_1 ?_
      refine me_isub X dX4_compareNeighbours_41 ?_
      obtain ⟨v2, e2, h⟩ := me_bd h
      refine me_iald X (Nat.le_of_ble_eq_true rfl) me_k15 e2 dX4_compareNeighbours_42 ?_
      refine me_istore X (i := 4) [(4, .int v2), (3, .int v1), (0, .ref (ad 14)), (1, .int x1_1), (2, .int x2_1)] (Nat.le_of_ble_eq_true rfl) rfl dX4_compareNeighbours_43 ?_
      obtain ⟨y1_1, hq2, h⟩ := me_bd h
      have hx1 : me_W p l e R s m args below meth c 0 0 (MQ below (me_Qc D cA ad n A none M') args s 0 0 A) D cA ad n 5 A 92 [(0, .ref (ad 14)), (1, .int y1_1), (2, .int x2_1), (3, .int v1)] [] M1 := by
        refine me_aload_n X (i := 0) 0 rfl dX4_compareNeighbours_92 ?_
        refine me_getr X 17 kF_X4_18 (Nat.le_of_ble_eq_true rfl) me_k14 me_f14_3 dX4_compareNeighbours_93 ?_
        refine me_iload_n X (i := 3) 3 rfl dX4_compareNeighbours_96 ?_
        refine me_iload_n X (i := 1) 1 rfl dX4_compareNeighbours_97 ?_
        obtain ⟨M2, e5, h⟩ := me_bd h
        refine me_iast X (Nat.le_of_ble_eq_true rfl) me_k17 e5 dX4_compareNeighbours_98 ?_
        refine me_iconst X dX4_compareNeighbours_99 ic_0 ?_
        refine me_iload_n X (i := 1) 1 rfl dX4_compareNeighbours_100 ?_
        refine me_iconst X dX4_compareNeighbours_101 ic_1 ?_
        refine me_isub X dX4_compareNeighbours_102 ?_
        obtain ⟨v5, e6, h⟩ := me_bd h
        refine me_callSi X [.int 0, .int (y1_1 - 1)] (ctJ9_max_7cf53 hn (Nat.le_trans (by decide) hnt) e6) kS_X4_44 rfl rfl (Nat.le_of_ble_eq_true rfl) (Nat.le_refl _) (Nat.le_of_ble_eq_true rfl) dX4_compareNeighbours_103 ?_
        refine me_istore_n X (i := 1) [(1, .int v5), (0, .ref (ad 14)), (2, .int x2_1), (3, .int v1)] (Nat.le_of_ble_eq_true rfl) rfl dX4_compareNeighbours_106 ?_
        refine me_sub (L' := [(0, .ref (ad 14)), (1, .int v5), (2, .int x2_1)]) [1, 0, 2] rfl ?_
        exact hj107_1 v5 M2 h
      refine me_sub (L' := [(0, .ref (ad 14)), (1, .int x1_1), (2, .int x2_1), (3, .int v1), (4, .int v2)]) [2, 3, 4, 1, 0] rfl ?_
      refine me_l_W (b := (mX4_compareNeighbours_14_L45 M1 x2_1 v1 v2)) (P := fun w => me_W p l e R s m args below meth c 0 0 (MQ below (me_Qc D cA ad n A none M') args s 0 0 A) D cA ad n 5 A 45 [(0, .ref (ad 14)), (1, .int w), (2, .int x2_1), (3, .int v1), (4, .int v2)] [] M1) (r := y1_1) ?_ me_fu x1_1 hq2
      rintro x1_2 z2 h hb2 - hr2
      unfold mX4_compareNeighbours_14_L45 at h
      refine me_iload_n X (i := 2) 2 rfl dX4_compareNeighbours_45 ?_
      refine me_iload_n X (i := 1) 1 rfl dX4_compareNeighbours_46 ?_
      refine me_iadd X dX4_compareNeighbours_47 ?_
      refine me_aload_n X (i := 0) 0 rfl dX4_compareNeighbours_48 ?_
      refine me_geti X kF_X4_27 (Nat.le_of_ble_eq_true rfl) me_k14 me_f14_5 dX4_compareNeighbours_49 ?_
      refine me_icmp_ge X 92 (by decide) dX4_compareNeighbours_52 (fun c3 => ?_) (fun c3 => ?_)
      · have h := me_ip c3 h
        obtain rfl := me_so h
        have q := hr2 _ rfl
        refine me_sub (L' := [(0, .ref (ad 14)), (1, .int x1_2), (2, .int x2_1), (3, .int v1)]) [0, 1, 2, 3] rfl ?_
        cases q
        exact hx1
      · have h := me_in c3 h
        refine me_iload X (i := 4) 4 rfl dX4_compareNeighbours_55 ?_
        refine me_iload_n X (i := 1) 1 rfl dX4_compareNeighbours_57 ?_
        refine me_iadd X dX4_compareNeighbours_58 ?_
        refine me_aload_n X (i := 0) 0 rfl dX4_compareNeighbours_59 ?_
        refine me_geti X kF_X4_27 (Nat.le_of_ble_eq_true rfl) me_k14 me_f14_5 dX4_compareNeighbours_60 ?_
        refine me_icmp_ge X 92 (by decide) dX4_compareNeighbours_63 (fun c4 => ?_) (fun c4 => ?_)
        · have h := me_ip c4 h
          obtain rfl := me_so h
          have q := hr2 _ rfl
          refine me_sub (L' := [(0, .ref (ad 14)), (1, .int x1_2), (2, .int x2_1), (3, .int v1)]) [0, 1, 2, 3] rfl ?_
          cases q
          exact hx1
        · have h := me_in c4 h
          refine me_aload_n X (i := 0) 0 rfl dX4_compareNeighbours_66 ?_
          refine me_getr X 5 kF_X4_24 (Nat.le_of_ble_eq_true rfl) me_k14 me_f14_0 dX4_compareNeighbours_67 ?_
          refine me_iload_n X (i := 2) 2 rfl dX4_compareNeighbours_70 ?_
          refine me_iload_n X (i := 1) 1 rfl dX4_compareNeighbours_71 ?_
          refine me_iadd X dX4_compareNeighbours_72 ?_
          obtain ⟨v3, e3, h⟩ := me_bd h
          refine me_iald X (Nat.le_of_ble_eq_true rfl) me_k5 e3 dX4_compareNeighbours_73 ?_
          refine me_aload_n X (i := 0) 0 rfl dX4_compareNeighbours_74 ?_
          refine me_getr X 5 kF_X4_24 (Nat.le_of_ble_eq_true rfl) me_k14 me_f14_0 dX4_compareNeighbours_75 ?_
          refine me_iload X (i := 4) 4 rfl dX4_compareNeighbours_78 ?_
          refine me_iload_n X (i := 1) 1 rfl dX4_compareNeighbours_80 ?_
          refine me_iadd X dX4_compareNeighbours_81 ?_
          obtain ⟨v4, e4, h⟩ := me_bd h
          refine me_iald X (Nat.le_of_ble_eq_true rfl) me_k5 e4 dX4_compareNeighbours_82 ?_
          refine me_icmp_ne X 92 (by decide) dX4_compareNeighbours_83 (fun c5 => ?_) (fun c5 => ?_)
          · have h := me_in c5 h
            obtain rfl := me_so h
            have q := hr2 _ rfl
            refine me_sub (L' := [(0, .ref (ad 14)), (1, .int x1_2), (2, .int x2_1), (3, .int v1)]) [0, 1, 2, 3] rfl ?_
            cases q
            exact hx1
          · have h := me_ip c5 h
            refine me_iinc X (v := (x1_2 + 1)) 1 rfl (in_1 _) [(1, .int (x1_2 + 1)), (0, .ref (ad 14)), (2, .int x2_1), (3, .int v1), (4, .int v2)] (Nat.le_of_ble_eq_true rfl) rfl dX4_compareNeighbours_86 ?_
            refine me_goto X 45 (by decide) dX4_compareNeighbours_89 ?_
            obtain rfl := me_so h
            refine me_sub (L' := [(0, .ref (ad 14)), (1, .int (x1_2 + 1)), (2, .int x2_1), (3, .int v1), (4, .int v2)]) [1, 0, 2, 3, 4] rfl ?_
            exact hb2 (x1_2 + 1) rfl
    · have h := me_ip c2 h
      refine me_aload_n X (i := 0) 1 rfl dX4_compareNeighbours_23 ?_
      refine me_getr X 17 kF_X4_18 (Nat.le_of_ble_eq_true rfl) me_k14 me_f14_3 dX4_compareNeighbours_24 ?_
      refine me_iload_n X (i := 3) 0 rfl dX4_compareNeighbours_27 ?_
      refine me_iconst X dX4_compareNeighbours_28 ic_0 ?_
      obtain ⟨M3, e7, h⟩ := me_bd h
      refine me_iast X (Nat.le_of_ble_eq_true rfl) me_k17 e7 dX4_compareNeighbours_29 ?_
      refine me_iconst X dX4_compareNeighbours_30 ic_0 ?_
      refine me_istore_n X (i := 1) [(1, .int 0), (3, .int v1), (0, .ref (ad 14)), (2, .int x2_1)] (Nat.le_of_ble_eq_true rfl) rfl dX4_compareNeighbours_31 ?_
      refine me_goto X 107 (by decide) dX4_compareNeighbours_32 ?_
      refine me_sub (L' := [(0, .ref (ad 14)), (1, .int 0), (2, .int x2_1)]) [2, 0, 3] rfl ?_
      exact hj107_1 0 M3 h
def mX4_before_14 (M : me_M) (p0 : Int32) : Option Int32 :=
  ((me_r M 15 241 p0).bind fun v1 => (if v1 = 0 then some 0 else ((me_r M 5 241 (v1 - 1)).bind fun v2 => some v2)))
set_option maxRecDepth 100000 in
set_option maxHeartbeats 4000000 in
theorem ctX4_before_14 {l : Launch} {n nt : Nat} (hn : 63 ≤ n) (hnt : 1 ≤ nt) {M : me_M} {p0 : Int32} {r : Int32} (h : mX4_before_14 M p0 = some r) : me_Ct l yX4_before cX4_before 3 (some .int) 0 n nt (fun ad => [.ref (ad 14), .int p0]) M (fun _ => some (.int r)) M := by
  unfold mX4_before_14 at h
  refine me_enter (N0 := 63) RX4 rfl (plainFor_of_name pl_RX4) hn (Nat.le_trans (by decide) hnt) (fun _ => Nat.le_of_ble_eq_true rfl) ?_
  intro p e R s m args below meth c D cA ad tys A X hr hlk
  refine me_sub (L' := [(0, .ref (ad 14)), (1, .int p0)]) [0, 1] rfl ?_
  refine me_aload_n X (i := 0) 0 rfl dX4_before_0 ?_
  refine me_getr X 15 kF_X4_9 (Nat.le_of_ble_eq_true rfl) me_k14 me_f14_1 dX4_before_1 ?_
  refine me_iload_n X (i := 1) 1 rfl dX4_before_4 ?_
  obtain ⟨v1, e1, h⟩ := me_bd h
  refine me_iald X (Nat.le_of_ble_eq_true rfl) me_k15 e1 dX4_before_5 ?_
  refine me_istore_n X (i := 2) [(2, .int v1), (0, .ref (ad 14)), (1, .int p0)] (Nat.le_of_ble_eq_true rfl) rfl dX4_before_6 ?_
  refine me_iload_n X (i := 2) 0 rfl dX4_before_7 ?_
  refine me_if_ne X 15 (by decide) dX4_before_8 (fun c1 => ?_) (fun c1 => ?_)
  · have h := me_in c1 h
    refine me_aload_n X (i := 0) 1 rfl dX4_before_15 ?_
    refine me_getr X 5 kF_X4_24 (Nat.le_of_ble_eq_true rfl) me_k14 me_f14_0 dX4_before_16 ?_
    refine me_iload_n X (i := 2) 0 rfl dX4_before_19 ?_
    refine me_iconst X dX4_before_20 ic_1 ?_
    refine me_isub X dX4_before_21 ?_
    obtain ⟨v2, e2, h⟩ := me_bd h
    refine me_iald X (Nat.le_of_ble_eq_true rfl) me_k5 e2 dX4_before_22 ?_
    obtain rfl := me_so h
    exact me_iret X hr hlk dX4_before_23
  · have h := me_ip c1 h
    refine me_iconst X dX4_before_11 ic_0 ?_
    refine me_goto X 23 (by decide) dX4_before_12 ?_
    obtain rfl := me_so h
    exact me_iret X hr hlk dX4_before_23
def mX4_tallySmaller_14_J36 (x1_1 : Int32) (v1 : Int32) (x3_1 : Int32) (M2 : me_M) (s1 : Int32) : Option ((Int32 × me_M) ⊕ (me_M)) :=
  ((me_r M2 18 1936 ((x1_1 * 8) + x3_1)).bind fun v2 => ((me_t M2 18 1936 (((x1_1 + 1) * 8) + x3_1) (v2 + s1)).bind fun M3 => some (.inl ((x3_1 + 1), M3))))
def mX4_tallySmaller_14_L18 (x1_1 : Int32) (v1 : Int32) : (Int32 × me_M) → Option ((Int32 × me_M) ⊕ (me_M))
  | (x3_1, M2) => (if 8 ≤ x3_1 then some (.inr M2) else (if (2 + x3_1) ≤ v1 then (mX4_tallySmaller_14_J36 x1_1 v1 x3_1 M2 0) else (mX4_tallySmaller_14_J36 x1_1 v1 x3_1 M2 1)))
def mX4_tallySmaller_14_L2  : (Int32 × me_M) → Option ((Int32 × me_M) ⊕ (me_M))
  | (x1_1, M1) => (if (M1.1 14 5) < x1_1 then some (.inr M1) else ((mX4_before_14 M1 x1_1).bind fun v1 => ((me_l (mX4_tallySmaller_14_L18 x1_1 v1) me_fu (0, M1)).bind fun M4 => some (.inl ((x1_1 + 1), M4)))))
def mX4_tallySmaller_14 (M : me_M)  : Option me_M :=
  ((me_l mX4_tallySmaller_14_L2 me_fu (0, M)).bind fun M5 => some M5)
set_option maxRecDepth 100000 in
set_option maxHeartbeats 4000000 in
theorem ctX4_tallySmaller_14 {l : Launch} {n nt : Nat} (hn : 63 ≤ n) (hnt : 1 ≤ nt) {M : me_M} {M' : me_M} (h : mX4_tallySmaller_14 M = some M') : me_Ct l yX4_tallySmaller cX4_tallySmaller 5 none 1 n nt (fun ad => [.ref (ad 14)]) M (fun _ => none) M' := by
  unfold mX4_tallySmaller_14 at h
  refine me_enter (N0 := 63) RX4 rfl (plainFor_of_name pl_RX4) hn (Nat.le_trans (by decide) hnt) (fun _ => Nat.le_of_ble_eq_true rfl) ?_
  intro p e R s m args below meth c D cA ad tys A X hr hlk
  refine me_sub (L' := [(0, .ref (ad 14))]) [0] rfl ?_
  refine me_iconst X dX4_tallySmaller_0 ic_0 ?_
  refine me_istore_n X (i := 1) [(1, .int 0), (0, .ref (ad 14))] (Nat.le_of_ble_eq_true rfl) rfl dX4_tallySmaller_1 ?_
  obtain ⟨M5, hq1, h⟩ := me_bd h
  have hx2 : me_W p l e R s m args below meth c 0 0 (MQ below (me_Qc D cA ad n A none M') args s 0 0 A) D cA ad n 5 A 77 [] [] M5 := by
    obtain rfl := me_so h
    exact me_vret X hr hlk dX4_tallySmaller_77
  refine me_sub (L' := [(0, .ref (ad 14)), (1, .int 0)]) [1, 0] rfl ?_
  refine me_l_W (b := mX4_tallySmaller_14_L2) (P := fun w => me_W p l e R s m args below meth c 0 0 (MQ below (me_Qc D cA ad n A none M') args s 0 0 A) D cA ad n 5 A 2 [(0, .ref (ad 14)), (1, .int w.1)] [] w.2) (r := M5) ?_ me_fu (0, M) hq1
  rintro ⟨x1_1, M1⟩ z1 h hb1 - hr1
  unfold mX4_tallySmaller_14_L2 at h
  refine me_iload_n X (i := 1) 1 rfl dX4_tallySmaller_2 ?_
  refine me_aload_n X (i := 0) 0 rfl dX4_tallySmaller_3 ?_
  refine me_geti X kF_X4_27 (Nat.le_of_ble_eq_true rfl) me_k14 me_f14_5 dX4_tallySmaller_4 ?_
  refine me_icmp_gt X 77 (by decide) dX4_tallySmaller_7 (fun c1 => ?_) (fun c1 => ?_)
  · have h := me_ip c1 h
    obtain rfl := me_so h
    have q := hr1 _ rfl
    refine me_sub (L' := []) [] rfl ?_
    cases q
    exact hx2
  · have h := me_in c1 h
    refine me_aload_n X (i := 0) 0 rfl dX4_tallySmaller_10 ?_
    refine me_iload_n X (i := 1) 1 rfl dX4_tallySmaller_11 ?_
    obtain ⟨v1, e1, h⟩ := me_bd h
    refine me_callVi X [.int x1_1] (ctX4_before_14 hn (Nat.le_trans (by decide) hnt) e1) kV_X4_50 rfl rfl (Nat.le_of_ble_eq_true rfl) me_k14 (Nat.le_of_ble_eq_true rfl) (Nat.le_refl _) (Nat.le_of_ble_eq_true rfl) dX4_tallySmaller_12 ?_
    refine me_istore_n X (i := 2) [(2, .int v1), (0, .ref (ad 14)), (1, .int x1_1)] (Nat.le_of_ble_eq_true rfl) rfl dX4_tallySmaller_15 ?_
    refine me_iconst X dX4_tallySmaller_16 ic_0 ?_
    refine me_istore_n X (i := 3) [(3, .int 0), (2, .int v1), (0, .ref (ad 14)), (1, .int x1_1)] (Nat.le_of_ble_eq_true rfl) rfl dX4_tallySmaller_17 ?_
    obtain ⟨M4, hq2, h⟩ := me_bd h
    have hx1 : me_W p l e R s m args below meth c 0 0 (MQ below (me_Qc D cA ad n A none M') args s 0 0 A) D cA ad n 5 A 71 [(0, .ref (ad 14)), (1, .int x1_1)] [] M4 := by
      refine me_iinc X (v := (x1_1 + 1)) 1 rfl (in_1 _) [(1, .int (x1_1 + 1)), (0, .ref (ad 14))] (Nat.le_of_ble_eq_true rfl) rfl dX4_tallySmaller_71 ?_
      refine me_goto X 2 (by decide) dX4_tallySmaller_74 ?_
      obtain rfl := me_so h
      refine me_sub (L' := [(0, .ref (ad 14)), (1, .int (x1_1 + 1))]) [1, 0] rfl ?_
      exact hb1 ((x1_1 + 1), M4) rfl
    refine me_sub (L' := [(0, .ref (ad 14)), (1, .int x1_1), (2, .int v1), (3, .int 0)]) [2, 3, 1, 0] rfl ?_
    refine me_l_W (b := (mX4_tallySmaller_14_L18 x1_1 v1)) (P := fun w => me_W p l e R s m args below meth c 0 0 (MQ below (me_Qc D cA ad n A none M') args s 0 0 A) D cA ad n 5 A 18 [(0, .ref (ad 14)), (1, .int x1_1), (2, .int v1), (3, .int w.1)] [] w.2) (r := M4) ?_ me_fu (0, M1) hq2
    rintro ⟨x3_1, M2⟩ z2 h hb2 - hr2
    unfold mX4_tallySmaller_14_L18 at h
    refine me_iload_n X (i := 3) 3 rfl dX4_tallySmaller_18 ?_
    refine me_bipush X dX4_tallySmaller_19 ib_8 ?_
    refine me_icmp_ge X 71 (by decide) dX4_tallySmaller_21 (fun c2 => ?_) (fun c2 => ?_)
    · have h := me_ip c2 h
      obtain rfl := me_so h
      have q := hr2 _ rfl
      refine me_sub (L' := [(0, .ref (ad 14)), (1, .int x1_1)]) [0, 1] rfl ?_
      cases q
      exact hx1
    · have h := me_in c2 h
      refine me_iload_n X (i := 2) 2 rfl dX4_tallySmaller_24 ?_
      refine me_iconst X dX4_tallySmaller_25 ic_2 ?_
      refine me_iload_n X (i := 3) 3 rfl dX4_tallySmaller_26 ?_
      refine me_iadd X dX4_tallySmaller_27 ?_
      have hj36_1 : ∀ (s1 : Int32), mX4_tallySmaller_14_J36 x1_1 v1 x3_1 M2 s1 = some z2 → me_W p l e R s m args below meth c 0 0 (MQ below (me_Qc D cA ad n A none M') args s 0 0 A) D cA ad n 5 A 36 [(0, .ref (ad 14)), (1, .int x1_1), (2, .int v1), (3, .int x3_1)] [.int s1] M2 := by
        intro s1 h
        unfold mX4_tallySmaller_14_J36 at h
        refine me_istore X (i := 4) [(4, .int s1), (0, .ref (ad 14)), (1, .int x1_1), (2, .int v1), (3, .int x3_1)] (Nat.le_of_ble_eq_true rfl) rfl dX4_tallySmaller_36 ?_
        refine me_aload_n X (i := 0) 1 rfl dX4_tallySmaller_38 ?_
        refine me_getr X 18 kF_X4_21 (Nat.le_of_ble_eq_true rfl) me_k14 me_f14_4 dX4_tallySmaller_39 ?_
        refine me_iload_n X (i := 1) 2 rfl dX4_tallySmaller_42 ?_
        refine me_iconst X dX4_tallySmaller_43 ic_1 ?_
        refine me_iadd X dX4_tallySmaller_44 ?_
        refine me_bipush X dX4_tallySmaller_45 ib_8 ?_
        refine me_imul X dX4_tallySmaller_47 ?_
        refine me_iload_n X (i := 3) 4 rfl dX4_tallySmaller_48 ?_
        refine me_iadd X dX4_tallySmaller_49 ?_
        refine me_aload_n X (i := 0) 1 rfl dX4_tallySmaller_50 ?_
        refine me_getr X 18 kF_X4_21 (Nat.le_of_ble_eq_true rfl) me_k14 me_f14_4 dX4_tallySmaller_51 ?_
        refine me_iload_n X (i := 1) 2 rfl dX4_tallySmaller_54 ?_
        refine me_bipush X dX4_tallySmaller_55 ib_8 ?_
        refine me_imul X dX4_tallySmaller_57 ?_
        refine me_iload_n X (i := 3) 4 rfl dX4_tallySmaller_58 ?_
        refine me_iadd X dX4_tallySmaller_59 ?_
        obtain ⟨v2, e2, h⟩ := me_bd h
        refine me_iald X (Nat.le_of_ble_eq_true rfl) me_k18 e2 dX4_tallySmaller_60 ?_
        refine me_iload X (i := 4) 0 rfl dX4_tallySmaller_61 ?_
        refine me_iadd X dX4_tallySmaller_63 ?_
        obtain ⟨M3, e3, h⟩ := me_bd h
        refine me_iast X (Nat.le_of_ble_eq_true rfl) me_k18 e3 dX4_tallySmaller_64 ?_
        refine me_iinc X (v := (x3_1 + 1)) 4 rfl (in_1 _) [(3, .int (x3_1 + 1)), (4, .int s1), (0, .ref (ad 14)), (1, .int x1_1), (2, .int v1)] (Nat.le_of_ble_eq_true rfl) rfl dX4_tallySmaller_65 ?_
        refine me_goto X 18 (by decide) dX4_tallySmaller_68 ?_
        obtain rfl := me_so h
        refine me_sub (L' := [(0, .ref (ad 14)), (1, .int x1_1), (2, .int v1), (3, .int (x3_1 + 1))]) [2, 3, 4, 0] rfl ?_
        exact hb2 ((x3_1 + 1), M3) rfl
      refine me_icmp_ge X 35 (by decide) dX4_tallySmaller_28 (fun c3 => ?_) (fun c3 => ?_)
      · have h := me_ip c3 h
        refine me_iconst X dX4_tallySmaller_35 ic_0 ?_
        exact hj36_1 0 h
      · have h := me_in c3 h
        refine me_iconst X dX4_tallySmaller_31 ic_1 ?_
        refine me_goto X 36 (by decide) dX4_tallySmaller_32 ?_
        exact hj36_1 1 h
def mX4_arrange_14 (M : me_M) (p0 : Int32) : Option me_M :=
  ((mX4_sortPlaces_14 (me_s M 14 5 p0)).bind fun M1 => ((mX4_compareNeighbours_14 M1).bind fun M2 => ((mX4_tallySmaller_14 M2).bind fun M3 => some M3)))
set_option maxRecDepth 100000 in
set_option maxHeartbeats 4000000 in
theorem ctX4_arrange_14 {l : Launch} {n nt : Nat} (hn : 63 ≤ n) (hnt : 1 ≤ nt) {M : me_M} {p0 : Int32} {M' : me_M} (h : mX4_arrange_14 M p0 = some M') : me_Ct l yX4_arrange cX4_arrange 2 none 2 n nt (fun ad => [.ref (ad 14), .int p0]) M (fun _ => none) M' := by
  unfold mX4_arrange_14 at h
  refine me_enter (N0 := 63) RX4 rfl (plainFor_of_name pl_RX4) hn (Nat.le_trans (by decide) hnt) (fun _ => Nat.le_of_ble_eq_true rfl) ?_
  intro p e R s m args below meth c D cA ad tys A X hr hlk
  refine me_sub (L' := [(0, .ref (ad 14)), (1, .int p0)]) [0, 1] rfl ?_
  refine me_aload_n X (i := 0) 0 rfl dX4_arrange_0 ?_
  refine me_iload_n X (i := 1) 1 rfl dX4_arrange_1 ?_
  refine me_puti X kG_X4_27 (Nat.le_of_ble_eq_true rfl) me_k14 me_f14_5 dX4_arrange_2 ?_
  refine me_aload_n X (i := 0) 0 rfl dX4_arrange_5 ?_
  obtain ⟨M1, e1, h⟩ := me_bd h
  refine me_callVv X [] (ctX4_sortPlaces_14 hn (Nat.le_trans (by decide) hnt) e1) kV_X4_31 rfl rfl (Nat.le_of_ble_eq_true rfl) me_k14 (Nat.le_of_ble_eq_true rfl) (Nat.le_refl _) (Nat.le_of_ble_eq_true rfl) dX4_arrange_6 ?_
  refine me_aload_n X (i := 0) 0 rfl dX4_arrange_9 ?_
  obtain ⟨M2, e2, h⟩ := me_bd h
  refine me_callVv X [] (ctX4_compareNeighbours_14 hn (Nat.le_trans (by decide) hnt) e2) kV_X4_34 rfl rfl (Nat.le_of_ble_eq_true rfl) me_k14 (Nat.le_of_ble_eq_true rfl) (Nat.le_refl _) (Nat.le_of_ble_eq_true rfl) dX4_arrange_10 ?_
  refine me_aload_n X (i := 0) 0 rfl dX4_arrange_13 ?_
  obtain ⟨M3, e3, h⟩ := me_bd h
  refine me_callVv X [] (ctX4_tallySmaller_14 hn (Nat.le_trans (by decide) hnt) e3) kV_X4_37 rfl rfl (Nat.le_of_ble_eq_true rfl) me_k14 (Nat.le_of_ble_eq_true rfl) (Nat.le_refl _) (Nat.le_of_ble_eq_true rfl) dX4_arrange_14 ?_
  obtain rfl := me_so h
  exact me_vret X hr hlk dX4_arrange_17
def mX4_walk_14 (M : me_M) (p0 : Int32) : Option Int32 :=
  ((me_r M 15 241 p0).bind fun v1 => (if v1 = 0 then some 0 else ((me_r M 16 241 (v1 - 1)).bind fun v2 => some v2)))
set_option maxRecDepth 100000 in
set_option maxHeartbeats 4000000 in
theorem ctX4_walk_14 {l : Launch} {n nt : Nat} (hn : 63 ≤ n) (hnt : 1 ≤ nt) {M : me_M} {p0 : Int32} {r : Int32} (h : mX4_walk_14 M p0 = some r) : me_Ct l yX4_walk cX4_walk 3 (some .int) 0 n nt (fun ad => [.ref (ad 14), .int p0]) M (fun _ => some (.int r)) M := by
  unfold mX4_walk_14 at h
  refine me_enter (N0 := 63) RX4 rfl (plainFor_of_name pl_RX4) hn (Nat.le_trans (by decide) hnt) (fun _ => Nat.le_of_ble_eq_true rfl) ?_
  intro p e R s m args below meth c D cA ad tys A X hr hlk
  refine me_sub (L' := [(0, .ref (ad 14)), (1, .int p0)]) [0, 1] rfl ?_
  refine me_aload_n X (i := 0) 0 rfl dX4_walk_0 ?_
  refine me_getr X 15 kF_X4_9 (Nat.le_of_ble_eq_true rfl) me_k14 me_f14_1 dX4_walk_1 ?_
  refine me_iload_n X (i := 1) 1 rfl dX4_walk_4 ?_
  obtain ⟨v1, e1, h⟩ := me_bd h
  refine me_iald X (Nat.le_of_ble_eq_true rfl) me_k15 e1 dX4_walk_5 ?_
  refine me_istore_n X (i := 2) [(2, .int v1), (0, .ref (ad 14)), (1, .int p0)] (Nat.le_of_ble_eq_true rfl) rfl dX4_walk_6 ?_
  refine me_iload_n X (i := 2) 0 rfl dX4_walk_7 ?_
  refine me_if_ne X 15 (by decide) dX4_walk_8 (fun c1 => ?_) (fun c1 => ?_)
  · have h := me_in c1 h
    refine me_aload_n X (i := 0) 1 rfl dX4_walk_15 ?_
    refine me_getr X 16 kF_X4_15 (Nat.le_of_ble_eq_true rfl) me_k14 me_f14_2 dX4_walk_16 ?_
    refine me_iload_n X (i := 2) 0 rfl dX4_walk_19 ?_
    refine me_iconst X dX4_walk_20 ic_1 ?_
    refine me_isub X dX4_walk_21 ?_
    obtain ⟨v2, e2, h⟩ := me_bd h
    refine me_iald X (Nat.le_of_ble_eq_true rfl) me_k16 e2 dX4_walk_22 ?_
    obtain rfl := me_so h
    exact me_iret X hr hlk dX4_walk_23
  · have h := me_ip c1 h
    refine me_iconst X dX4_walk_11 ic_0 ?_
    refine me_goto X 23 (by decide) dX4_walk_12 ?_
    obtain rfl := me_so h
    exact me_iret X hr hlk dX4_walk_23
def mX4_smallerAhead_14 (M : me_M) (p0 : Int32) (p1 : Int32) : Option Int32 :=
  (if p1 < 8 then ((me_r M 18 1936 ((p0 * 8) + p1)).bind fun v1 => some v1) else some p0)
set_option maxRecDepth 100000 in
set_option maxHeartbeats 4000000 in
theorem ctX4_smallerAhead_14 {l : Launch} {n nt : Nat} (hn : 63 ≤ n) (hnt : 1 ≤ nt) {M : me_M} {p0 : Int32} {p1 : Int32} {r : Int32} (h : mX4_smallerAhead_14 M p0 p1 = some r) : me_Ct l yX4_smallerAhead cX4_smallerAhead 3 (some .int) 0 n nt (fun ad => [.ref (ad 14), .int p0, .int p1]) M (fun _ => some (.int r)) M := by
  unfold mX4_smallerAhead_14 at h
  refine me_enter (N0 := 63) RX4 rfl (plainFor_of_name pl_RX4) hn (Nat.le_trans (by decide) hnt) (fun _ => Nat.le_of_ble_eq_true rfl) ?_
  intro p e R s m args below meth c D cA ad tys A X hr hlk
  refine me_sub (L' := [(0, .ref (ad 14)), (1, .int p0), (2, .int p1)]) [0, 1, 2] rfl ?_
  refine me_iload_n X (i := 2) 2 rfl dX4_smallerAhead_0 ?_
  refine me_bipush X dX4_smallerAhead_1 ib_8 ?_
  refine me_icmp_lt X 10 (by decide) dX4_smallerAhead_3 (fun c1 => ?_) (fun c1 => ?_)
  · have h := me_ip c1 h
    refine me_aload_n X (i := 0) 0 rfl dX4_smallerAhead_10 ?_
    refine me_getr X 18 kF_X4_21 (Nat.le_of_ble_eq_true rfl) me_k14 me_f14_4 dX4_smallerAhead_11 ?_
    refine me_iload_n X (i := 1) 1 rfl dX4_smallerAhead_14 ?_
    refine me_bipush X dX4_smallerAhead_15 ib_8 ?_
    refine me_imul X dX4_smallerAhead_17 ?_
    refine me_iload_n X (i := 2) 2 rfl dX4_smallerAhead_18 ?_
    refine me_iadd X dX4_smallerAhead_19 ?_
    obtain ⟨v1, e1, h⟩ := me_bd h
    refine me_iald X (Nat.le_of_ble_eq_true rfl) me_k18 e1 dX4_smallerAhead_20 ?_
    obtain rfl := me_so h
    exact me_iret X hr hlk dX4_smallerAhead_21
  · have h := me_in c1 h
    refine me_iload_n X (i := 1) 1 rfl dX4_smallerAhead_6 ?_
    refine me_goto X 21 (by decide) dX4_smallerAhead_7 ?_
    obtain rfl := me_so h
    exact me_iret X hr hlk dX4_smallerAhead_21
def mX4_lettersAhead_14 (M : me_M) (p0 : Int32) (p1 : Int32) : Option Int32 :=
  ((mX4_smallerAhead_14 M p0 (p1 + 1)).bind fun v1 => ((mX4_smallerAhead_14 M p0 p1).bind fun v2 => some (v1 - v2)))
set_option maxRecDepth 100000 in
set_option maxHeartbeats 4000000 in
theorem ctX4_lettersAhead_14 {l : Launch} {n nt : Nat} (hn : 63 ≤ n) (hnt : 1 ≤ nt) {M : me_M} {p0 : Int32} {p1 : Int32} {r : Int32} (h : mX4_lettersAhead_14 M p0 p1 = some r) : me_Ct l yX4_lettersAhead cX4_lettersAhead 3 (some .int) 1 n nt (fun ad => [.ref (ad 14), .int p0, .int p1]) M (fun _ => some (.int r)) M := by
  unfold mX4_lettersAhead_14 at h
  refine me_enter (N0 := 63) RX4 rfl (plainFor_of_name pl_RX4) hn (Nat.le_trans (by decide) hnt) (fun _ => Nat.le_of_ble_eq_true rfl) ?_
  intro p e R s m args below meth c D cA ad tys A X hr hlk
  refine me_sub (L' := [(0, .ref (ad 14)), (1, .int p0), (2, .int p1)]) [0, 1, 2] rfl ?_
  refine me_aload_n X (i := 0) 0 rfl dX4_lettersAhead_0 ?_
  refine me_iload_n X (i := 1) 1 rfl dX4_lettersAhead_1 ?_
  refine me_iload_n X (i := 2) 2 rfl dX4_lettersAhead_2 ?_
  refine me_iconst X dX4_lettersAhead_3 ic_1 ?_
  refine me_iadd X dX4_lettersAhead_4 ?_
  obtain ⟨v1, e1, h⟩ := me_bd h
  refine me_callVi X [.int p0, .int (p1 + 1)] (ctX4_smallerAhead_14 hn (Nat.le_trans (by decide) hnt) e1) kV_X4_54 rfl rfl (Nat.le_of_ble_eq_true rfl) me_k14 (Nat.le_of_ble_eq_true rfl) (Nat.le_refl _) (Nat.le_of_ble_eq_true rfl) dX4_lettersAhead_5 ?_
  refine me_aload_n X (i := 0) 0 rfl dX4_lettersAhead_8 ?_
  refine me_iload_n X (i := 1) 1 rfl dX4_lettersAhead_9 ?_
  refine me_iload_n X (i := 2) 2 rfl dX4_lettersAhead_10 ?_
  obtain ⟨v2, e2, h⟩ := me_bd h
  refine me_callVi X [.int p0, .int p1] (ctX4_smallerAhead_14 hn (Nat.le_trans (by decide) hnt) e2) kV_X4_54 rfl rfl (Nat.le_of_ble_eq_true rfl) me_k14 (Nat.le_of_ble_eq_true rfl) (Nat.le_refl _) (Nat.le_of_ble_eq_true rfl) dX4_lettersAhead_11 ?_
  refine me_isub X dX4_lettersAhead_14 ?_
  obtain rfl := me_so h
  exact me_iret X hr hlk dX4_lettersAhead_15
def mX4_rowWith_14 (M : me_M) (p0 : Int32) (p1 : Int32) : Option Int32 :=
  ((mX4_smallerAhead_14 M ((M.1 14 5) + 1) p1).bind fun v1 => ((mX4_lettersAhead_14 M p0 p1).bind fun v2 => some (v1 + v2)))
set_option maxRecDepth 100000 in
set_option maxHeartbeats 4000000 in
theorem ctX4_rowWith_14 {l : Launch} {n nt : Nat} (hn : 63 ≤ n) (hnt : 1 ≤ nt) {M : me_M} {p0 : Int32} {p1 : Int32} {r : Int32} (h : mX4_rowWith_14 M p0 p1 = some r) : me_Ct l yX4_rowWith cX4_rowWith 3 (some .int) 2 n nt (fun ad => [.ref (ad 14), .int p0, .int p1]) M (fun _ => some (.int r)) M := by
  unfold mX4_rowWith_14 at h
  refine me_enter (N0 := 63) RX4 rfl (plainFor_of_name pl_RX4) hn (Nat.le_trans (by decide) hnt) (fun _ => Nat.le_of_ble_eq_true rfl) ?_
  intro p e R s m args below meth c D cA ad tys A X hr hlk
  refine me_sub (L' := [(0, .ref (ad 14)), (1, .int p0), (2, .int p1)]) [0, 1, 2] rfl ?_
  refine me_aload_n X (i := 0) 0 rfl dX4_rowWith_0 ?_
  refine me_aload_n X (i := 0) 0 rfl dX4_rowWith_1 ?_
  refine me_geti X kF_X4_27 (Nat.le_of_ble_eq_true rfl) me_k14 me_f14_5 dX4_rowWith_2 ?_
  refine me_iconst X dX4_rowWith_5 ic_1 ?_
  refine me_iadd X dX4_rowWith_6 ?_
  refine me_iload_n X (i := 2) 2 rfl dX4_rowWith_7 ?_
  obtain ⟨v1, e1, h⟩ := me_bd h
  refine me_callVi X [.int ((M.1 14 5) + 1), .int p1] (ctX4_smallerAhead_14 hn (Nat.le_trans (by decide) hnt) e1) kV_X4_54 rfl rfl (Nat.le_of_ble_eq_true rfl) me_k14 (Nat.le_of_ble_eq_true rfl) (Nat.le_refl _) (Nat.le_of_ble_eq_true rfl) dX4_rowWith_8 ?_
  refine me_aload_n X (i := 0) 0 rfl dX4_rowWith_11 ?_
  refine me_iload_n X (i := 1) 1 rfl dX4_rowWith_12 ?_
  refine me_iload_n X (i := 2) 2 rfl dX4_rowWith_13 ?_
  obtain ⟨v2, e2, h⟩ := me_bd h
  refine me_callVi X [.int p0, .int p1] (ctX4_lettersAhead_14 hn (Nat.le_trans (by decide) hnt) e2) kV_X4_57 rfl rfl (Nat.le_of_ble_eq_true rfl) me_k14 (Nat.le_of_ble_eq_true rfl) (Nat.le_refl _) (Nat.le_of_ble_eq_true rfl) dX4_rowWith_14 ?_
  refine me_iadd X dX4_rowWith_17 ?_
  obtain rfl := me_so h
  exact me_iret X hr hlk dX4_rowWith_18
def mX9_put_1_J45 (p0 : Int32) (x2_1 : Int32) (M3 : me_M) : Option ((Int32 × me_M) ⊕ (me_M)) :=
  some (.inl ((x2_1 + (-8)), M3))
def mX9_put_1_L3 (p0 : Int32) : (Int32 × me_M) → Option ((Int32 × me_M) ⊕ (me_M))
  | (x2_1, M1) => (if x2_1 < 0 then some (.inr M1) else (if 240 ≤ (M1.1 1 1) then (mX9_put_1_J45 p0 x2_1 M1) else ((me_t M1 2 240 (M1.1 1 1) (((p0.toUInt32 >>> (x2_1.toUInt32 &&& Int32.toUInt32 31)).toInt32) &&& 255)).bind fun M2 => (mX9_put_1_J45 p0 x2_1 (me_s M2 1 1 ((M2.1 1 1) + 1))))))
def mX9_put_1 (M : me_M) (p0 : Int32) : Option me_M :=
  ((me_l (mX9_put_1_L3 p0) me_fu (24, M)).bind fun M4 => some M4)
set_option maxRecDepth 100000 in
set_option maxHeartbeats 4000000 in
theorem ctX9_put_1 {l : Launch} {n nt : Nat} (hn : 63 ≤ n) (hnt : 1 ≤ nt) {M : me_M} {p0 : Int32} {M' : me_M} (h : mX9_put_1 M p0 = some M') : me_Ct l yX9_put cX9_put 3 none 0 n nt (fun ad => [.ref (ad 1), .int p0]) M (fun _ => none) M' := by
  unfold mX9_put_1 at h
  refine me_enter (N0 := 63) RX9 rfl (plainFor_of_name pl_RX9) hn (Nat.le_trans (by decide) hnt) (fun _ => Nat.le_of_ble_eq_true rfl) ?_
  intro p e R s m args below meth c D cA ad tys A X hr hlk
  refine me_sub (L' := [(0, .ref (ad 1)), (1, .int p0)]) [0, 1] rfl ?_
  refine me_bipush X dX9_put_0 ib_24 ?_
  refine me_istore_n X (i := 2) [(2, .int 24), (0, .ref (ad 1)), (1, .int p0)] (Nat.le_of_ble_eq_true rfl) rfl dX9_put_2 ?_
  obtain ⟨M4, hq1, h⟩ := me_bd h
  have hx1 : me_W p l e R s m args below meth c 0 0 (MQ below (me_Qc D cA ad n A none M') args s 0 0 A) D cA ad n 3 A 51 [] [] M4 := by
    obtain rfl := me_so h
    exact me_vret X hr hlk dX9_put_51
  refine me_sub (L' := [(0, .ref (ad 1)), (1, .int p0), (2, .int 24)]) [1, 2, 0] rfl ?_
  refine me_l_W (b := (mX9_put_1_L3 p0)) (P := fun w => me_W p l e R s m args below meth c 0 0 (MQ below (me_Qc D cA ad n A none M') args s 0 0 A) D cA ad n 3 A 3 [(0, .ref (ad 1)), (1, .int p0), (2, .int w.1)] [] w.2) (r := M4) ?_ me_fu (24, M) hq1
  rintro ⟨x2_1, M1⟩ z1 h hb1 - hr1
  unfold mX9_put_1_L3 at h
  refine me_iload_n X (i := 2) 2 rfl dX9_put_3 ?_
  refine me_if_lt X 51 (by decide) dX9_put_4 (fun c1 => ?_) (fun c1 => ?_)
  · have h := me_ip c1 h
    obtain rfl := me_so h
    have q := hr1 _ rfl
    refine me_sub (L' := []) [] rfl ?_
    cases q
    exact hx1
  · have h := me_in c1 h
    refine me_aload_n X (i := 0) 0 rfl dX9_put_7 ?_
    refine me_geti X kF_X9_15 (Nat.le_of_ble_eq_true rfl) me_k1 me_f1_1 dX9_put_8 ?_
    refine me_aload_n X (i := 0) 0 rfl dX9_put_11 ?_
    refine me_getr X 2 kF_X9_9 (Nat.le_of_ble_eq_true rfl) me_k1 me_f1_0 dX9_put_12 ?_
    refine me_alen (v := 240) X (Nat.le_of_ble_eq_true rfl) me_k2 (by decide) dX9_put_15 ?_
    have hj45_1 : ∀ (M3 : me_M), mX9_put_1_J45 p0 x2_1 M3 = some z1 → me_W p l e R s m args below meth c 0 0 (MQ below (me_Qc D cA ad n A none M') args s 0 0 A) D cA ad n 3 A 45 [(0, .ref (ad 1)), (1, .int p0), (2, .int x2_1)] [] M3 := by
      intro M3 h
      unfold mX9_put_1_J45 at h
      refine me_iinc X (v := (x2_1 + (-8))) 2 rfl (in_m8 _) [(2, .int (x2_1 + (-8))), (0, .ref (ad 1)), (1, .int p0)] (Nat.le_of_ble_eq_true rfl) rfl dX9_put_45 ?_
      refine me_goto X 3 (by decide) dX9_put_48 ?_
      obtain rfl := me_so h
      refine me_sub (L' := [(0, .ref (ad 1)), (1, .int p0), (2, .int (x2_1 + (-8)))]) [1, 2, 0] rfl ?_
      exact hb1 ((x2_1 + (-8)), M3) rfl
    refine me_icmp_ge X 45 (by decide) dX9_put_16 (fun c2 => ?_) (fun c2 => ?_)
    · have h := me_ip c2 h
      exact hj45_1 M1 h
    · have h := me_in c2 h
      refine me_aload_n X (i := 0) 0 rfl dX9_put_19 ?_
      refine me_getr X 2 kF_X9_9 (Nat.le_of_ble_eq_true rfl) me_k1 me_f1_0 dX9_put_20 ?_
      refine me_aload_n X (i := 0) 0 rfl dX9_put_23 ?_
      refine me_geti X kF_X9_15 (Nat.le_of_ble_eq_true rfl) me_k1 me_f1_1 dX9_put_24 ?_
      refine me_iload_n X (i := 1) 1 rfl dX9_put_27 ?_
      refine me_iload_n X (i := 2) 2 rfl dX9_put_28 ?_
      refine me_iushr X dX9_put_29 ?_
      refine me_sipush X dX9_put_30 is_255 ?_
      refine me_iand X dX9_put_33 ?_
      obtain ⟨M2, e1, h⟩ := me_bd h
      refine me_iast X (Nat.le_of_ble_eq_true rfl) me_k2 e1 dX9_put_34 ?_
      refine me_aload_n X (i := 0) 0 rfl dX9_put_35 ?_
      refine me_dup X rfl dX9_put_36 ?_
      refine me_geti X kF_X9_15 (Nat.le_of_ble_eq_true rfl) me_k1 me_f1_1 dX9_put_37 ?_
      refine me_iconst X dX9_put_40 ic_1 ?_
      refine me_iadd X dX9_put_41 ?_
      refine me_puti X kG_X9_15 (Nat.le_of_ble_eq_true rfl) me_k1 me_f1_1 dX9_put_42 ?_
      exact hj45_1 (me_s M2 1 1 ((M2.1 1 1) + 1)) h
def mX9_holds_1 (M : me_M) (p0 : Int32) : Option Int32 :=
  (if p0 < 1 then some 0 else (if (M.1 1 1) < p0 then some 0 else some 1))
set_option maxRecDepth 100000 in
set_option maxHeartbeats 4000000 in
theorem ctX9_holds_1 {l : Launch} {n nt : Nat} (hn : 63 ≤ n) (hnt : 1 ≤ nt) {M : me_M} {p0 : Int32} {r : Int32} (h : mX9_holds_1 M p0 = some r) : me_Ct l yX9_holds cX9_holds 2 (some .boolean) 0 n nt (fun ad => [.ref (ad 1), .int p0]) M (fun _ => some (.int r)) M := by
  unfold mX9_holds_1 at h
  refine me_enter (N0 := 63) RX9 rfl (plainFor_of_name pl_RX9) hn (Nat.le_trans (by decide) hnt) (fun _ => Nat.le_of_ble_eq_true rfl) ?_
  intro p e R s m args below meth c D cA ad tys A X hr hlk
  refine me_sub (L' := [(0, .ref (ad 1)), (1, .int p0)]) [0, 1] rfl ?_
  refine me_iload_n X (i := 1) 1 rfl dX9_holds_0 ?_
  refine me_iconst X dX9_holds_1 ic_1 ?_
  refine me_icmp_lt X 17 (by decide) dX9_holds_2 (fun c1 => ?_) (fun c1 => ?_)
  · have h := me_ip c1 h
    refine me_iconst X dX9_holds_17 ic_0 ?_
    obtain rfl := me_so h
    exact me_zret X (by decide) hr hlk dX9_holds_18
  · have h := me_in c1 h
    refine me_iload_n X (i := 1) 1 rfl dX9_holds_5 ?_
    refine me_aload_n X (i := 0) 0 rfl dX9_holds_6 ?_
    refine me_geti X kF_X9_15 (Nat.le_of_ble_eq_true rfl) me_k1 me_f1_1 dX9_holds_7 ?_
    refine me_icmp_gt X 17 (by decide) dX9_holds_10 (fun c2 => ?_) (fun c2 => ?_)
    · have h := me_ip c2 h
      refine me_iconst X dX9_holds_17 ic_0 ?_
      obtain rfl := me_so h
      exact me_zret X (by decide) hr hlk dX9_holds_18
    · have h := me_in c2 h
      refine me_iconst X dX9_holds_13 ic_1 ?_
      refine me_goto X 18 (by decide) dX9_holds_14 ?_
      obtain rfl := me_so h
      exact me_zret X (by decide) hr hlk dX9_holds_18
def mX11_isLetter (p0 : Int32) : Option Int32 :=
  (if p0 < 97 then some 0 else (if 105 ≤ p0 then some 0 else some 1))
set_option maxRecDepth 100000 in
set_option maxHeartbeats 4000000 in
theorem ctX11_isLetter {l : Launch} {n nt : Nat} (hn : 63 ≤ n) (hnt : 1 ≤ nt) {M : me_M} {p0 : Int32} {r : Int32} (h : mX11_isLetter p0 = some r) : me_Ct l yX11_isLetter cX11_isLetter 1 (some .boolean) 0 n nt (fun _ => [.int p0]) M (fun _ => some (.int r)) M := by
  unfold mX11_isLetter at h
  refine me_enter (N0 := 63) RX11 rfl (plainFor_of_name pl_RX11) hn (Nat.le_trans (by decide) hnt) (fun _ => Nat.le_of_ble_eq_true rfl) ?_
  intro p e R s m args below meth c D cA ad tys A X hr hlk
  refine me_sub (L' := [(0, .int p0)]) [0] rfl ?_
  refine me_iload_n X (i := 0) 0 rfl dX11_isLetter_0 ?_
  refine me_bipush X dX11_isLetter_1 ib_97 ?_
  refine me_icmp_lt X 16 (by decide) dX11_isLetter_3 (fun c1 => ?_) (fun c1 => ?_)
  · have h := me_ip c1 h
    refine me_iconst X dX11_isLetter_16 ic_0 ?_
    obtain rfl := me_so h
    exact me_zret X (by decide) hr hlk dX11_isLetter_17
  · have h := me_in c1 h
    refine me_iload_n X (i := 0) 0 rfl dX11_isLetter_6 ?_
    refine me_bipush X dX11_isLetter_7 ib_105 ?_
    refine me_icmp_ge X 16 (by decide) dX11_isLetter_9 (fun c2 => ?_) (fun c2 => ?_)
    · have h := me_ip c2 h
      refine me_iconst X dX11_isLetter_16 ic_0 ?_
      obtain rfl := me_so h
      exact me_zret X (by decide) hr hlk dX11_isLetter_17
    · have h := me_in c2 h
      refine me_iconst X dX11_isLetter_12 ic_1 ?_
      refine me_goto X 17 (by decide) dX11_isLetter_13 ?_
      obtain rfl := me_so h
      exact me_zret X (by decide) hr hlk dX11_isLetter_17
def mX9_lettersAlone_1_L2 (M : me_M) (p0 : Int32) : (Int32) → Option ((Int32) ⊕ ((Unit) ⊕ Int32))
  | x2_1 => (if p0 ≤ x2_1 then some (.inr (.inl ())) else ((me_r M 2 240 x2_1).bind fun v1 => ((mX11_isLetter v1).bind fun v2 => (if v2 = 0 then some (.inr (.inr 0)) else some (.inl (x2_1 + 1))))))
def mX9_lettersAlone_1 (M : me_M) (p0 : Int32) : Option Int32 :=
  ((me_l (mX9_lettersAlone_1_L2 M p0) me_fu 0).bind fun o => Sum.elim (fun _ => some 1) (fun res => some res) o)
set_option maxRecDepth 100000 in
set_option maxHeartbeats 4000000 in
theorem ctX9_lettersAlone_1 {l : Launch} {n nt : Nat} (hn : 63 ≤ n) (hnt : 1 ≤ nt) {M : me_M} {p0 : Int32} {r : Int32} (h : mX9_lettersAlone_1 M p0 = some r) : me_Ct l yX9_lettersAlone cX9_lettersAlone 3 (some .boolean) 1 n nt (fun ad => [.ref (ad 1), .int p0]) M (fun _ => some (.int r)) M := by
  unfold mX9_lettersAlone_1 at h
  refine me_enter (N0 := 63) RX9 rfl (plainFor_of_name pl_RX9) hn (Nat.le_trans (by decide) hnt) (fun _ => Nat.le_of_ble_eq_true rfl) ?_
  intro p e R s m args below meth c D cA ad tys A X hr hlk
  refine me_sub (L' := [(0, .ref (ad 1)), (1, .int p0)]) [0, 1] rfl ?_
  refine me_iconst X dX9_lettersAlone_0 ic_0 ?_
  refine me_istore_n X (i := 2) [(2, .int 0), (0, .ref (ad 1)), (1, .int p0)] (Nat.le_of_ble_eq_true rfl) rfl dX9_lettersAlone_1 ?_
  obtain ⟨o0, hq1l, hq1⟩ := me_bd h
  have hx1 : o0 = .inl () → me_W p l e R s m args below meth c 0 0 (MQ below (me_Qc D cA ad n A (some (.int r)) M) args s 0 0 A) D cA ad n 3 A 27 [] [] M := by
    intro q
    subst q
    have h := me_el hq1
    refine me_iconst X dX9_lettersAlone_27 ic_1 ?_
    obtain rfl := me_so h
    exact me_zret X (by decide) hr hlk dX9_lettersAlone_28
  refine me_sub (L' := [(0, .ref (ad 1)), (1, .int p0), (2, .int 0)]) [1, 2, 0] rfl ?_
  refine me_l_W (b := (mX9_lettersAlone_1_L2 M p0)) (P := fun w => me_W p l e R s m args below meth c 0 0 (MQ below (me_Qc D cA ad n A (some (.int r)) M) args s 0 0 A) D cA ad n 3 A 2 [(0, .ref (ad 1)), (1, .int p0), (2, .int w)] [] M) (r := o0) ?_ me_fu 0 hq1l
  rintro x2_1 z1 h hb1 - hr1
  unfold mX9_lettersAlone_1_L2 at h
  refine me_iload_n X (i := 2) 2 rfl dX9_lettersAlone_2 ?_
  refine me_iload_n X (i := 1) 1 rfl dX9_lettersAlone_3 ?_
  refine me_icmp_ge X 27 (by decide) dX9_lettersAlone_4 (fun c1 => ?_) (fun c1 => ?_)
  · have h := me_ip c1 h
    obtain rfl := me_so h
    have q := hr1 _ rfl
    refine me_sub (L' := []) [] rfl ?_
    subst q
    exact hx1 rfl
  · have h := me_in c1 h
    refine me_aload_n X (i := 0) 0 rfl dX9_lettersAlone_7 ?_
    refine me_getr X 2 kF_X9_9 (Nat.le_of_ble_eq_true rfl) me_k1 me_f1_0 dX9_lettersAlone_8 ?_
    refine me_iload_n X (i := 2) 2 rfl dX9_lettersAlone_11 ?_
    obtain ⟨v1, e1, h⟩ := me_bd h
    refine me_iald X (Nat.le_of_ble_eq_true rfl) me_k2 e1 dX9_lettersAlone_12 ?_
    obtain ⟨v2, e2, h⟩ := me_bd h
    refine me_callSi X [.int v1] (ctX11_isLetter hn (Nat.le_trans (by decide) hnt) e2) kS_X9_19 rfl rfl (Nat.le_of_ble_eq_true rfl) (Nat.le_refl _) (Nat.le_of_ble_eq_true rfl) dX9_lettersAlone_13 ?_
    refine me_if_ne X 21 (by decide) dX9_lettersAlone_16 (fun c2 => ?_) (fun c2 => ?_)
    · have h := me_in c2 h
      refine me_iinc X (v := (x2_1 + 1)) 2 rfl (in_1 _) [(2, .int (x2_1 + 1)), (0, .ref (ad 1)), (1, .int p0)] (Nat.le_of_ble_eq_true rfl) rfl dX9_lettersAlone_21 ?_
      refine me_goto X 2 (by decide) dX9_lettersAlone_24 ?_
      obtain rfl := me_so h
      refine me_sub (L' := [(0, .ref (ad 1)), (1, .int p0), (2, .int (x2_1 + 1))]) [1, 2, 0] rfl ?_
      exact hb1 (x2_1 + 1) rfl
    · have h := me_ip c2 h
      refine me_iconst X dX9_lettersAlone_19 ic_0 ?_
      obtain rfl := me_so h
      have q := hr1 _ rfl
      subst q
      have h : some 0 = some r := hq1
      obtain rfl := me_so h
      exact me_zret X (by decide) hr hlk dX9_lettersAlone_20
def mX9_letterAt_1 (M : me_M) (p0 : Int32) : Option Int32 :=
  ((me_r M 2 240 p0).bind fun v1 => some (v1 - 97))
set_option maxRecDepth 100000 in
set_option maxHeartbeats 4000000 in
theorem ctX9_letterAt_1 {l : Launch} {n nt : Nat} (hn : 63 ≤ n) (hnt : 1 ≤ nt) {M : me_M} {p0 : Int32} {r : Int32} (h : mX9_letterAt_1 M p0 = some r) : me_Ct l yX9_letterAt cX9_letterAt 2 (some .int) 0 n nt (fun ad => [.ref (ad 1), .int p0]) M (fun _ => some (.int r)) M := by
  unfold mX9_letterAt_1 at h
  refine me_enter (N0 := 63) RX9 rfl (plainFor_of_name pl_RX9) hn (Nat.le_trans (by decide) hnt) (fun _ => Nat.le_of_ble_eq_true rfl) ?_
  intro p e R s m args below meth c D cA ad tys A X hr hlk
  refine me_sub (L' := [(0, .ref (ad 1)), (1, .int p0)]) [0, 1] rfl ?_
  refine me_aload_n X (i := 0) 0 rfl dX9_letterAt_0 ?_
  refine me_getr X 2 kF_X9_9 (Nat.le_of_ble_eq_true rfl) me_k1 me_f1_0 dX9_letterAt_1 ?_
  refine me_iload_n X (i := 1) 1 rfl dX9_letterAt_4 ?_
  obtain ⟨v1, e1, h⟩ := me_bd h
  refine me_iald X (Nat.le_of_ble_eq_true rfl) me_k2 e1 dX9_letterAt_5 ?_
  refine me_bipush X dX9_letterAt_6 ib_97 ?_
  refine me_isub X dX9_letterAt_8 ?_
  obtain rfl := me_so h
  exact me_iret X hr hlk dX9_letterAt_9
def mX9_isParting_1 (M : me_M) (p0 : Int32) (p1 : Int32) : Option Int32 :=
  ((me_r M 2 240 p0).bind fun v1 => (if v1 = 124 then (if p0 ≤ 0 then some 0 else (if (p1 - 1) ≤ p0 then some 0 else ((me_r M 2 240 (p0 - 1)).bind fun v2 => (if v2 = 124 then some 0 else some 1)))) else some 0))
set_option maxRecDepth 100000 in
set_option maxHeartbeats 4000000 in
theorem ctX9_isParting_1 {l : Launch} {n nt : Nat} (hn : 63 ≤ n) (hnt : 1 ≤ nt) {M : me_M} {p0 : Int32} {p1 : Int32} {r : Int32} (h : mX9_isParting_1 M p0 p1 = some r) : me_Ct l yX9_isParting cX9_isParting 3 (some .boolean) 0 n nt (fun ad => [.ref (ad 1), .int p0, .int p1]) M (fun _ => some (.int r)) M := by
  unfold mX9_isParting_1 at h
  refine me_enter (N0 := 63) RX9 rfl (plainFor_of_name pl_RX9) hn (Nat.le_trans (by decide) hnt) (fun _ => Nat.le_of_ble_eq_true rfl) ?_
  intro p e R s m args below meth c D cA ad tys A X hr hlk
  refine me_sub (L' := [(0, .ref (ad 1)), (1, .int p0), (2, .int p1)]) [0, 1, 2] rfl ?_
  refine me_aload_n X (i := 0) 0 rfl dX9_isParting_0 ?_
  refine me_getr X 2 kF_X9_9 (Nat.le_of_ble_eq_true rfl) me_k1 me_f1_0 dX9_isParting_1 ?_
  refine me_iload_n X (i := 1) 1 rfl dX9_isParting_4 ?_
  obtain ⟨v1, e1, h⟩ := me_bd h
  refine me_iald X (Nat.le_of_ble_eq_true rfl) me_k2 e1 dX9_isParting_5 ?_
  refine me_bipush X dX9_isParting_6 ib_124 ?_
  refine me_icmp_ne X 39 (by decide) dX9_isParting_8 (fun c1 => ?_) (fun c1 => ?_)
  · have h := me_in c1 h
    refine me_iconst X dX9_isParting_39 ic_0 ?_
    obtain rfl := me_so h
    exact me_zret X (by decide) hr hlk dX9_isParting_40
  · have h := me_ip c1 h
    refine me_iload_n X (i := 1) 1 rfl dX9_isParting_11 ?_
    refine me_if_le X 39 (by decide) dX9_isParting_12 (fun c2 => ?_) (fun c2 => ?_)
    · have h := me_ip c2 h
      refine me_iconst X dX9_isParting_39 ic_0 ?_
      obtain rfl := me_so h
      exact me_zret X (by decide) hr hlk dX9_isParting_40
    · have h := me_in c2 h
      refine me_iload_n X (i := 1) 1 rfl dX9_isParting_15 ?_
      refine me_iload_n X (i := 2) 2 rfl dX9_isParting_16 ?_
      refine me_iconst X dX9_isParting_17 ic_1 ?_
      refine me_isub X dX9_isParting_18 ?_
      refine me_icmp_ge X 39 (by decide) dX9_isParting_19 (fun c3 => ?_) (fun c3 => ?_)
      · have h := me_ip c3 h
        refine me_iconst X dX9_isParting_39 ic_0 ?_
        obtain rfl := me_so h
        exact me_zret X (by decide) hr hlk dX9_isParting_40
      · have h := me_in c3 h
        refine me_aload_n X (i := 0) 0 rfl dX9_isParting_22 ?_
        refine me_getr X 2 kF_X9_9 (Nat.le_of_ble_eq_true rfl) me_k1 me_f1_0 dX9_isParting_23 ?_
        refine me_iload_n X (i := 1) 1 rfl dX9_isParting_26 ?_
        refine me_iconst X dX9_isParting_27 ic_1 ?_
        refine me_isub X dX9_isParting_28 ?_
        obtain ⟨v2, e2, h⟩ := me_bd h
        refine me_iald X (Nat.le_of_ble_eq_true rfl) me_k2 e2 dX9_isParting_29 ?_
        refine me_bipush X dX9_isParting_30 ib_124 ?_
        refine me_icmp_eq X 39 (by decide) dX9_isParting_32 (fun c4 => ?_) (fun c4 => ?_)
        · have h := me_ip c4 h
          refine me_iconst X dX9_isParting_39 ic_0 ?_
          obtain rfl := me_so h
          exact me_zret X (by decide) hr hlk dX9_isParting_40
        · have h := me_in c4 h
          refine me_iconst X dX9_isParting_35 ic_1 ?_
          refine me_goto X 40 (by decide) dX9_isParting_36 ?_
          obtain rfl := me_so h
          exact me_zret X (by decide) hr hlk dX9_isParting_40
def mX9_firstNoText_1_J30 (p0 : Int32) (x2_1 : Int32) (M : me_M)  : Option ((Int32) ⊕ ((Unit) ⊕ Int32)) :=
  some (.inl (x2_1 + 1))
def mX9_firstNoText_1_L2 (M : me_M) (p0 : Int32) : (Int32) → Option ((Int32) ⊕ ((Unit) ⊕ Int32))
  | x2_1 => (if p0 ≤ x2_1 then some (.inr (.inl ())) else ((me_r M 2 240 x2_1).bind fun v1 => ((mX11_isLetter v1).bind fun v2 => (if v2 = 0 then ((mX9_isParting_1 M x2_1 p0).bind fun v3 => (if v3 = 0 then some (.inr (.inr x2_1)) else (mX9_firstNoText_1_J30 p0 x2_1 M ))) else (mX9_firstNoText_1_J30 p0 x2_1 M )))))
def mX9_firstNoText_1 (M : me_M) (p0 : Int32) : Option Int32 :=
  ((me_l (mX9_firstNoText_1_L2 M p0) me_fu 0).bind fun o => Sum.elim (fun _ => some (-1)) (fun res => some res) o)
set_option maxRecDepth 100000 in
set_option maxHeartbeats 4000000 in
theorem ctX9_firstNoText_1 {l : Launch} {n nt : Nat} (hn : 63 ≤ n) (hnt : 1 ≤ nt) {M : me_M} {p0 : Int32} {r : Int32} (h : mX9_firstNoText_1 M p0 = some r) : me_Ct l yX9_firstNoText cX9_firstNoText 3 (some .int) 1 n nt (fun ad => [.ref (ad 1), .int p0]) M (fun _ => some (.int r)) M := by
  unfold mX9_firstNoText_1 at h
  refine me_enter (N0 := 63) RX9 rfl (plainFor_of_name pl_RX9) hn (Nat.le_trans (by decide) hnt) (fun _ => Nat.le_of_ble_eq_true rfl) ?_
  intro p e R s m args below meth c D cA ad tys A X hr hlk
  refine me_sub (L' := [(0, .ref (ad 1)), (1, .int p0)]) [0, 1] rfl ?_
  refine me_iconst X dX9_firstNoText_0 ic_0 ?_
  refine me_istore_n X (i := 2) [(2, .int 0), (0, .ref (ad 1)), (1, .int p0)] (Nat.le_of_ble_eq_true rfl) rfl dX9_firstNoText_1 ?_
  obtain ⟨o0, hq1l, hq1⟩ := me_bd h
  have hx1 : o0 = .inl () → me_W p l e R s m args below meth c 0 0 (MQ below (me_Qc D cA ad n A (some (.int r)) M) args s 0 0 A) D cA ad n 3 A 36 [] [] M := by
    intro q
    subst q
    have h := me_el hq1
    refine me_iconst X dX9_firstNoText_36 ic_m1 ?_
    obtain rfl := me_so h
    exact me_iret X hr hlk dX9_firstNoText_37
  refine me_sub (L' := [(0, .ref (ad 1)), (1, .int p0), (2, .int 0)]) [1, 2, 0] rfl ?_
  refine me_l_W (b := (mX9_firstNoText_1_L2 M p0)) (P := fun w => me_W p l e R s m args below meth c 0 0 (MQ below (me_Qc D cA ad n A (some (.int r)) M) args s 0 0 A) D cA ad n 3 A 2 [(0, .ref (ad 1)), (1, .int p0), (2, .int w)] [] M) (r := o0) ?_ me_fu 0 hq1l
  rintro x2_1 z1 h hb1 - hr1
  unfold mX9_firstNoText_1_L2 at h
  refine me_iload_n X (i := 2) 2 rfl dX9_firstNoText_2 ?_
  refine me_iload_n X (i := 1) 1 rfl dX9_firstNoText_3 ?_
  refine me_icmp_ge X 36 (by decide) dX9_firstNoText_4 (fun c1 => ?_) (fun c1 => ?_)
  · have h := me_ip c1 h
    obtain rfl := me_so h
    have q := hr1 _ rfl
    refine me_sub (L' := []) [] rfl ?_
    subst q
    exact hx1 rfl
  · have h := me_in c1 h
    refine me_aload_n X (i := 0) 0 rfl dX9_firstNoText_7 ?_
    refine me_getr X 2 kF_X9_9 (Nat.le_of_ble_eq_true rfl) me_k1 me_f1_0 dX9_firstNoText_8 ?_
    refine me_iload_n X (i := 2) 2 rfl dX9_firstNoText_11 ?_
    obtain ⟨v1, e1, h⟩ := me_bd h
    refine me_iald X (Nat.le_of_ble_eq_true rfl) me_k2 e1 dX9_firstNoText_12 ?_
    obtain ⟨v2, e2, h⟩ := me_bd h
    refine me_callSi X [.int v1] (ctX11_isLetter hn (Nat.le_trans (by decide) hnt) e2) kS_X9_19 rfl rfl (Nat.le_of_ble_eq_true rfl) (Nat.le_refl _) (Nat.le_of_ble_eq_true rfl) dX9_firstNoText_13 ?_
    have hj30_1 : mX9_firstNoText_1_J30 p0 x2_1 M  = some z1 → me_W p l e R s m args below meth c 0 0 (MQ below (me_Qc D cA ad n A (some (.int r)) M) args s 0 0 A) D cA ad n 3 A 30 [(0, .ref (ad 1)), (1, .int p0), (2, .int x2_1)] [] M := by
      intro h
      unfold mX9_firstNoText_1_J30 at h
      refine me_iinc X (v := (x2_1 + 1)) 2 rfl (in_1 _) [(2, .int (x2_1 + 1)), (0, .ref (ad 1)), (1, .int p0)] (Nat.le_of_ble_eq_true rfl) rfl dX9_firstNoText_30 ?_
      refine me_goto X 2 (by decide) dX9_firstNoText_33 ?_
      obtain rfl := me_so h
      refine me_sub (L' := [(0, .ref (ad 1)), (1, .int p0), (2, .int (x2_1 + 1))]) [1, 2, 0] rfl ?_
      exact hb1 (x2_1 + 1) rfl
    refine me_if_ne X 30 (by decide) dX9_firstNoText_16 (fun c2 => ?_) (fun c2 => ?_)
    · have h := me_in c2 h
      exact hj30_1  h
    · have h := me_ip c2 h
      refine me_aload_n X (i := 0) 0 rfl dX9_firstNoText_19 ?_
      refine me_iload_n X (i := 2) 2 rfl dX9_firstNoText_20 ?_
      refine me_iload_n X (i := 1) 1 rfl dX9_firstNoText_21 ?_
      obtain ⟨v3, e3, h⟩ := me_bd h
      refine me_callVi X [.int x2_1, .int p0] (ctX9_isParting_1 hn (Nat.le_trans (by decide) hnt) e3) kV_X9_23 rfl rfl (Nat.le_of_ble_eq_true rfl) me_k1 (Nat.le_of_ble_eq_true rfl) (Nat.le_refl _) (Nat.le_of_ble_eq_true rfl) dX9_firstNoText_22 ?_
      refine me_if_ne X 30 (by decide) dX9_firstNoText_25 (fun c3 => ?_) (fun c3 => ?_)
      · have h := me_in c3 h
        exact hj30_1  h
      · have h := me_ip c3 h
        refine me_iload_n X (i := 2) 2 rfl dX9_firstNoText_28 ?_
        obtain rfl := me_so h
        have q := hr1 _ rfl
        subst q
        have h : some x2_1 = some r := hq1
        obtain rfl := me_so h
        exact me_iret X hr hlk dX9_firstNoText_29
def mX10_take_3_1_J38 (p0 : Int32) (x3_1 : Int32) (M1 : me_M) (s1 : Int32) : Option ((Int32 × me_M) ⊕ (me_M)) :=
  ((me_t M1 4 241 x3_1 s1).bind fun M2 => some (.inl ((x3_1 + 1), M2)))
def mX10_take_3_1_L2 (p0 : Int32) : (Int32 × me_M) → Option ((Int32 × me_M) ⊕ (me_M))
  | (x3_1, M1) => (if p0 ≤ x3_1 then some (.inr M1) else ((me_r M1 2 240 x3_1).bind fun v1 => (if v1 = 124 then (mX10_take_3_1_J38 p0 x3_1 M1 1) else (mX10_take_3_1_J38 p0 x3_1 M1 ((v1 - 97) + 2)))))
def mX10_take_3_1 (M : me_M) (p0 : Int32) : Option me_M :=
  ((me_l (mX10_take_3_1_L2 p0) me_fu (0, M)).bind fun M3 => ((me_t M3 4 241 p0 0).bind fun M4 => some (me_s M4 3 5 p0)))
set_option maxRecDepth 100000 in
set_option maxHeartbeats 4000000 in
theorem ctX10_take_3_1 {l : Launch} {n nt : Nat} (hn : 63 ≤ n) (hnt : 1 ≤ nt) {M : me_M} {p0 : Int32} {M' : me_M} (h : mX10_take_3_1 M p0 = some M') : me_Ct l yX10_take cX10_take 5 none 0 n nt (fun ad => [.ref (ad 3), .ref (ad 1), .int p0]) M (fun _ => none) M' := by
  unfold mX10_take_3_1 at h
  refine me_enter (N0 := 63) RX10 rfl (plainFor_of_name pl_RX10) hn (Nat.le_trans (by decide) hnt) (fun _ => Nat.le_of_ble_eq_true rfl) ?_
  intro p e R s m args below meth c D cA ad tys A X hr hlk
  refine me_sub (L' := [(0, .ref (ad 3)), (1, .ref (ad 1)), (2, .int p0)]) [0, 1, 2] rfl ?_
  refine me_iconst X dX10_take_0 ic_0 ?_
  refine me_istore_n X (i := 3) [(3, .int 0), (0, .ref (ad 3)), (1, .ref (ad 1)), (2, .int p0)] (Nat.le_of_ble_eq_true rfl) rfl dX10_take_1 ?_
  obtain ⟨M3, hq1, h⟩ := me_bd h
  have hx1 : me_W p l e R s m args below meth c 0 0 (MQ below (me_Qc D cA ad n A none M') args s 0 0 A) D cA ad n 5 A 45 [(0, .ref (ad 3)), (2, .int p0)] [] M3 := by
    refine me_aload_n X (i := 0) 0 rfl dX10_take_45 ?_
    refine me_getr X 4 kF_X10_9 (Nat.le_of_ble_eq_true rfl) me_k3 me_f3_0 dX10_take_46 ?_
    refine me_iload_n X (i := 2) 1 rfl dX10_take_49 ?_
    refine me_iconst X dX10_take_50 ic_0 ?_
    obtain ⟨M4, e3, h⟩ := me_bd h
    refine me_iast X (Nat.le_of_ble_eq_true rfl) me_k4 e3 dX10_take_51 ?_
    refine me_aload_n X (i := 0) 0 rfl dX10_take_52 ?_
    refine me_iload_n X (i := 2) 1 rfl dX10_take_53 ?_
    refine me_puti X kG_X10_27 (Nat.le_of_ble_eq_true rfl) me_k3 me_f3_5 dX10_take_54 ?_
    obtain rfl := me_so h
    exact me_vret X hr hlk dX10_take_57
  refine me_sub (L' := [(0, .ref (ad 3)), (1, .ref (ad 1)), (2, .int p0), (3, .int 0)]) [1, 2, 3, 0] rfl ?_
  refine me_l_W (b := (mX10_take_3_1_L2 p0)) (P := fun w => me_W p l e R s m args below meth c 0 0 (MQ below (me_Qc D cA ad n A none M') args s 0 0 A) D cA ad n 5 A 2 [(0, .ref (ad 3)), (1, .ref (ad 1)), (2, .int p0), (3, .int w.1)] [] w.2) (r := M3) ?_ me_fu (0, M) hq1
  rintro ⟨x3_1, M1⟩ z1 h hb1 - hr1
  unfold mX10_take_3_1_L2 at h
  refine me_iload_n X (i := 3) 3 rfl dX10_take_2 ?_
  refine me_iload_n X (i := 2) 2 rfl dX10_take_3 ?_
  refine me_icmp_ge X 45 (by decide) dX10_take_4 (fun c1 => ?_) (fun c1 => ?_)
  · have h := me_ip c1 h
    obtain rfl := me_so h
    have q := hr1 _ rfl
    refine me_sub (L' := [(0, .ref (ad 3)), (2, .int p0)]) [0, 2] rfl ?_
    cases q
    exact hx1
  · have h := me_in c1 h
    refine me_aload_n X (i := 1) 1 rfl dX10_take_7 ?_
    refine me_getr X 2 kF_X10_31 (Nat.le_of_ble_eq_true rfl) me_k1 me_f1_0 dX10_take_8 ?_
    refine me_iload_n X (i := 3) 3 rfl dX10_take_11 ?_
    obtain ⟨v1, e1, h⟩ := me_bd h
    refine me_iald X (Nat.le_of_ble_eq_true rfl) me_k2 e1 dX10_take_12 ?_
    refine me_istore X (i := 4) [(4, .int v1), (0, .ref (ad 3)), (1, .ref (ad 1)), (2, .int p0), (3, .int x3_1)] (Nat.le_of_ble_eq_true rfl) rfl dX10_take_13 ?_
    refine me_aload_n X (i := 0) 1 rfl dX10_take_15 ?_
    refine me_getr X 4 kF_X10_9 (Nat.le_of_ble_eq_true rfl) me_k3 me_f3_0 dX10_take_16 ?_
    refine me_iload_n X (i := 3) 4 rfl dX10_take_19 ?_
    refine me_iload X (i := 4) 0 rfl dX10_take_20 ?_
    refine me_bipush X dX10_take_22 ib_124 ?_
    have hj38_1 : ∀ (s1 : Int32), mX10_take_3_1_J38 p0 x3_1 M1 s1 = some z1 → me_W p l e R s m args below meth c 0 0 (MQ below (me_Qc D cA ad n A none M') args s 0 0 A) D cA ad n 5 A 38 [(0, .ref (ad 3)), (1, .ref (ad 1)), (2, .int p0), (3, .int x3_1)] [.int s1, .int x3_1, .ref (ad 4)] M1 := by
      intro s1 h
      unfold mX10_take_3_1_J38 at h
      obtain ⟨M2, e2, h⟩ := me_bd h
      refine me_iast X (Nat.le_of_ble_eq_true rfl) me_k4 e2 dX10_take_38 ?_
      refine me_iinc X (v := (x3_1 + 1)) 3 rfl (in_1 _) [(3, .int (x3_1 + 1)), (0, .ref (ad 3)), (1, .ref (ad 1)), (2, .int p0)] (Nat.le_of_ble_eq_true rfl) rfl dX10_take_39 ?_
      refine me_goto X 2 (by decide) dX10_take_42 ?_
      obtain rfl := me_so h
      refine me_sub (L' := [(0, .ref (ad 3)), (1, .ref (ad 1)), (2, .int p0), (3, .int (x3_1 + 1))]) [1, 2, 3, 0] rfl ?_
      exact hb1 ((x3_1 + 1), M2) rfl
    refine me_icmp_ne X 31 (by decide) dX10_take_24 (fun c2 => ?_) (fun c2 => ?_)
    · have h := me_in c2 h
      refine me_iload X (i := 4) 0 rfl dX10_take_31 ?_
      refine me_bipush X dX10_take_33 ib_97 ?_
      refine me_isub X dX10_take_35 ?_
      refine me_iconst X dX10_take_36 ic_2 ?_
      refine me_iadd X dX10_take_37 ?_
      refine me_sub (L' := [(0, .ref (ad 3)), (1, .ref (ad 1)), (2, .int p0), (3, .int x3_1)]) [1, 2, 3, 4] rfl ?_
      exact hj38_1 ((v1 - 97) + 2) h
    · have h := me_ip c2 h
      refine me_iconst X dX10_take_27 ic_1 ?_
      refine me_goto X 38 (by decide) dX10_take_28 ?_
      refine me_sub (L' := [(0, .ref (ad 3)), (1, .ref (ad 1)), (2, .int p0), (3, .int x3_1)]) [1, 2, 3, 4] rfl ?_
      exact hj38_1 1 h
def mX10_mirror_3_L2  : (Int32 × me_M) → Option ((Int32 × me_M) ⊕ (me_M))
  | (x1_1, M1) => (if (M1.1 3 5) ≤ x1_1 then some (.inr M1) else ((me_r M1 4 241 (((M1.1 3 5) - 1) - x1_1)).bind fun v1 => ((me_t M1 5 241 x1_1 v1).bind fun M2 => some (.inl ((x1_1 + 1), M2)))))
def mX10_mirror_3 (M : me_M)  : Option me_M :=
  ((me_l mX10_mirror_3_L2 me_fu (0, M)).bind fun M3 => ((me_t M3 5 241 (M3.1 3 5) 0).bind fun M4 => some M4))
set_option maxRecDepth 100000 in
set_option maxHeartbeats 4000000 in
theorem ctX10_mirror_3 {l : Launch} {n nt : Nat} (hn : 63 ≤ n) (hnt : 1 ≤ nt) {M : me_M} {M' : me_M} (h : mX10_mirror_3 M = some M') : me_Ct l yX10_mirror cX10_mirror 2 none 0 n nt (fun ad => [.ref (ad 3)]) M (fun _ => none) M' := by
  unfold mX10_mirror_3 at h
  refine me_enter (N0 := 63) RX10 rfl (plainFor_of_name pl_RX10) hn (Nat.le_trans (by decide) hnt) (fun _ => Nat.le_of_ble_eq_true rfl) ?_
  intro p e R s m args below meth c D cA ad tys A X hr hlk
  refine me_sub (L' := [(0, .ref (ad 3))]) [0] rfl ?_
  refine me_iconst X dX10_mirror_0 ic_0 ?_
  refine me_istore_n X (i := 1) [(1, .int 0), (0, .ref (ad 3))] (Nat.le_of_ble_eq_true rfl) rfl dX10_mirror_1 ?_
  obtain ⟨M3, hq1, h⟩ := me_bd h
  have hx1 : me_W p l e R s m args below meth c 0 0 (MQ below (me_Qc D cA ad n A none M') args s 0 0 A) D cA ad n 2 A 35 [(0, .ref (ad 3))] [] M3 := by
    refine me_aload_n X (i := 0) 0 rfl dX10_mirror_35 ?_
    refine me_getr X 5 kF_X10_15 (Nat.le_of_ble_eq_true rfl) me_k3 me_f3_1 dX10_mirror_36 ?_
    refine me_aload_n X (i := 0) 0 rfl dX10_mirror_39 ?_
    refine me_geti X kF_X10_27 (Nat.le_of_ble_eq_true rfl) me_k3 me_f3_5 dX10_mirror_40 ?_
    refine me_iconst X dX10_mirror_43 ic_0 ?_
    obtain ⟨M4, e3, h⟩ := me_bd h
    refine me_iast X (Nat.le_of_ble_eq_true rfl) me_k5 e3 dX10_mirror_44 ?_
    obtain rfl := me_so h
    exact me_vret X hr hlk dX10_mirror_45
  refine me_sub (L' := [(0, .ref (ad 3)), (1, .int 0)]) [1, 0] rfl ?_
  refine me_l_W (b := mX10_mirror_3_L2) (P := fun w => me_W p l e R s m args below meth c 0 0 (MQ below (me_Qc D cA ad n A none M') args s 0 0 A) D cA ad n 2 A 2 [(0, .ref (ad 3)), (1, .int w.1)] [] w.2) (r := M3) ?_ me_fu (0, M) hq1
  rintro ⟨x1_1, M1⟩ z1 h hb1 - hr1
  unfold mX10_mirror_3_L2 at h
  refine me_iload_n X (i := 1) 1 rfl dX10_mirror_2 ?_
  refine me_aload_n X (i := 0) 0 rfl dX10_mirror_3 ?_
  refine me_geti X kF_X10_27 (Nat.le_of_ble_eq_true rfl) me_k3 me_f3_5 dX10_mirror_4 ?_
  refine me_icmp_ge X 35 (by decide) dX10_mirror_7 (fun c1 => ?_) (fun c1 => ?_)
  · have h := me_ip c1 h
    obtain rfl := me_so h
    have q := hr1 _ rfl
    refine me_sub (L' := [(0, .ref (ad 3))]) [0] rfl ?_
    cases q
    exact hx1
  · have h := me_in c1 h
    refine me_aload_n X (i := 0) 0 rfl dX10_mirror_10 ?_
    refine me_getr X 5 kF_X10_15 (Nat.le_of_ble_eq_true rfl) me_k3 me_f3_1 dX10_mirror_11 ?_
    refine me_iload_n X (i := 1) 1 rfl dX10_mirror_14 ?_
    refine me_aload_n X (i := 0) 0 rfl dX10_mirror_15 ?_
    refine me_getr X 4 kF_X10_9 (Nat.le_of_ble_eq_true rfl) me_k3 me_f3_0 dX10_mirror_16 ?_
    refine me_aload_n X (i := 0) 0 rfl dX10_mirror_19 ?_
    refine me_geti X kF_X10_27 (Nat.le_of_ble_eq_true rfl) me_k3 me_f3_5 dX10_mirror_20 ?_
    refine me_iconst X dX10_mirror_23 ic_1 ?_
    refine me_isub X dX10_mirror_24 ?_
    refine me_iload_n X (i := 1) 1 rfl dX10_mirror_25 ?_
    refine me_isub X dX10_mirror_26 ?_
    obtain ⟨v1, e1, h⟩ := me_bd h
    refine me_iald X (Nat.le_of_ble_eq_true rfl) me_k4 e1 dX10_mirror_27 ?_
    obtain ⟨M2, e2, h⟩ := me_bd h
    refine me_iast X (Nat.le_of_ble_eq_true rfl) me_k5 e2 dX10_mirror_28 ?_
    refine me_iinc X (v := (x1_1 + 1)) 1 rfl (in_1 _) [(1, .int (x1_1 + 1)), (0, .ref (ad 3))] (Nat.le_of_ble_eq_true rfl) rfl dX10_mirror_29 ?_
    refine me_goto X 2 (by decide) dX10_mirror_32 ?_
    obtain rfl := me_so h
    refine me_sub (L' := [(0, .ref (ad 3)), (1, .int (x1_1 + 1))]) [1, 0] rfl ?_
    exact hb1 ((x1_1 + 1), M2) rfl
def mX10_gatherLetters_3_J44 (x1_1 : Int32) (M2 : me_M) : Option ((Int32 × me_M) ⊕ (me_M)) :=
  some (.inl ((x1_1 + 1), M2))
def mX10_gatherLetters_3_L7  : (Int32 × me_M) → Option ((Int32 × me_M) ⊕ (me_M))
  | (x1_1, M1) => (if (M1.1 3 5) ≤ x1_1 then some (.inr M1) else ((me_r M1 4 241 x1_1).bind fun v1 => (if v1 < 2 then (mX10_gatherLetters_3_J44 x1_1 M1) else ((me_r M1 4 241 x1_1).bind fun v2 => (mX10_gatherLetters_3_J44 x1_1 (me_s M1 3 7 ((M1.1 3 7) ||| (1 <<< ((v2 - 2) &&& 31)))))))))
def mX10_gatherLetters_3 (M : me_M)  : Option me_M :=
  ((me_l mX10_gatherLetters_3_L7 me_fu (0, (me_s M 3 7 0))).bind fun M3 => some M3)
set_option maxRecDepth 100000 in
set_option maxHeartbeats 4000000 in
theorem ctX10_gatherLetters_3 {l : Launch} {n nt : Nat} (hn : 63 ≤ n) (hnt : 1 ≤ nt) {M : me_M} {M' : me_M} (h : mX10_gatherLetters_3 M = some M') : me_Ct l yX10_gatherLetters cX10_gatherLetters 2 none 0 n nt (fun ad => [.ref (ad 3)]) M (fun _ => none) M' := by
  unfold mX10_gatherLetters_3 at h
  refine me_enter (N0 := 63) RX10 rfl (plainFor_of_name pl_RX10) hn (Nat.le_trans (by decide) hnt) (fun _ => Nat.le_of_ble_eq_true rfl) ?_
  intro p e R s m args below meth c D cA ad tys A X hr hlk
  refine me_sub (L' := [(0, .ref (ad 3))]) [0] rfl ?_
  refine me_aload_n X (i := 0) 0 rfl dX10_gatherLetters_0 ?_
  refine me_iconst X dX10_gatherLetters_1 ic_0 ?_
  refine me_puti X kG_X10_48 (Nat.le_of_ble_eq_true rfl) me_k3 me_f3_7 dX10_gatherLetters_2 ?_
  refine me_iconst X dX10_gatherLetters_5 ic_0 ?_
  refine me_istore_n X (i := 1) [(1, .int 0), (0, .ref (ad 3))] (Nat.le_of_ble_eq_true rfl) rfl dX10_gatherLetters_6 ?_
  obtain ⟨M3, hq1, h⟩ := me_bd h
  have hx1 : me_W p l e R s m args below meth c 0 0 (MQ below (me_Qc D cA ad n A none M') args s 0 0 A) D cA ad n 2 A 50 [] [] M3 := by
    obtain rfl := me_so h
    exact me_vret X hr hlk dX10_gatherLetters_50
  refine me_sub (L' := [(0, .ref (ad 3)), (1, .int 0)]) [1, 0] rfl ?_
  refine me_l_W (b := mX10_gatherLetters_3_L7) (P := fun w => me_W p l e R s m args below meth c 0 0 (MQ below (me_Qc D cA ad n A none M') args s 0 0 A) D cA ad n 2 A 7 [(0, .ref (ad 3)), (1, .int w.1)] [] w.2) (r := M3) ?_ me_fu (0, (me_s M 3 7 0)) hq1
  rintro ⟨x1_1, M1⟩ z1 h hb1 - hr1
  unfold mX10_gatherLetters_3_L7 at h
  refine me_iload_n X (i := 1) 1 rfl dX10_gatherLetters_7 ?_
  refine me_aload_n X (i := 0) 0 rfl dX10_gatherLetters_8 ?_
  refine me_geti X kF_X10_27 (Nat.le_of_ble_eq_true rfl) me_k3 me_f3_5 dX10_gatherLetters_9 ?_
  refine me_icmp_ge X 50 (by decide) dX10_gatherLetters_12 (fun c1 => ?_) (fun c1 => ?_)
  · have h := me_ip c1 h
    obtain rfl := me_so h
    have q := hr1 _ rfl
    refine me_sub (L' := []) [] rfl ?_
    cases q
    exact hx1
  · have h := me_in c1 h
    refine me_aload_n X (i := 0) 0 rfl dX10_gatherLetters_15 ?_
    refine me_getr X 4 kF_X10_9 (Nat.le_of_ble_eq_true rfl) me_k3 me_f3_0 dX10_gatherLetters_16 ?_
    refine me_iload_n X (i := 1) 1 rfl dX10_gatherLetters_19 ?_
    obtain ⟨v1, e1, h⟩ := me_bd h
    refine me_iald X (Nat.le_of_ble_eq_true rfl) me_k4 e1 dX10_gatherLetters_20 ?_
    refine me_iconst X dX10_gatherLetters_21 ic_2 ?_
    have hj44_1 : ∀ (M2 : me_M), mX10_gatherLetters_3_J44 x1_1 M2 = some z1 → me_W p l e R s m args below meth c 0 0 (MQ below (me_Qc D cA ad n A none M') args s 0 0 A) D cA ad n 2 A 44 [(0, .ref (ad 3)), (1, .int x1_1)] [] M2 := by
      intro M2 h
      unfold mX10_gatherLetters_3_J44 at h
      refine me_iinc X (v := (x1_1 + 1)) 1 rfl (in_1 _) [(1, .int (x1_1 + 1)), (0, .ref (ad 3))] (Nat.le_of_ble_eq_true rfl) rfl dX10_gatherLetters_44 ?_
      refine me_goto X 7 (by decide) dX10_gatherLetters_47 ?_
      obtain rfl := me_so h
      refine me_sub (L' := [(0, .ref (ad 3)), (1, .int (x1_1 + 1))]) [1, 0] rfl ?_
      exact hb1 ((x1_1 + 1), M2) rfl
    refine me_icmp_lt X 44 (by decide) dX10_gatherLetters_22 (fun c2 => ?_) (fun c2 => ?_)
    · have h := me_ip c2 h
      exact hj44_1 M1 h
    · have h := me_in c2 h
      refine me_aload_n X (i := 0) 0 rfl dX10_gatherLetters_25 ?_
      refine me_dup X rfl dX10_gatherLetters_26 ?_
      refine me_geti X kF_X10_48 (Nat.le_of_ble_eq_true rfl) me_k3 me_f3_7 dX10_gatherLetters_27 ?_
      refine me_iconst X dX10_gatherLetters_30 ic_1 ?_
      refine me_aload_n X (i := 0) 0 rfl dX10_gatherLetters_31 ?_
      refine me_getr X 4 kF_X10_9 (Nat.le_of_ble_eq_true rfl) me_k3 me_f3_0 dX10_gatherLetters_32 ?_
      refine me_iload_n X (i := 1) 1 rfl dX10_gatherLetters_35 ?_
      obtain ⟨v2, e2, h⟩ := me_bd h
      refine me_iald X (Nat.le_of_ble_eq_true rfl) me_k4 e2 dX10_gatherLetters_36 ?_
      refine me_iconst X dX10_gatherLetters_37 ic_2 ?_
      refine me_isub X dX10_gatherLetters_38 ?_
      refine me_ishl X dX10_gatherLetters_39 ?_
      refine me_ior X dX10_gatherLetters_40 ?_
      refine me_puti X kG_X10_48 (Nat.le_of_ble_eq_true rfl) me_k3 me_f3_7 dX10_gatherLetters_41 ?_
      exact hj44_1 (me_s M1 3 7 ((M1.1 3 7) ||| (1 <<< ((v2 - 2) &&& 31)))) h
def mX10_partDocuments_3_J48 (x2_1 : Int32) (x1_2 : Int32) (M5 : me_M) : Option ((Int32 × Int32 × me_M) ⊕ (Int32 × me_M)) :=
  some (.inl (x1_2, (x2_1 + 1), M5))
def mX10_partDocuments_3_L11  : (Int32 × Int32 × me_M) → Option ((Int32 × Int32 × me_M) ⊕ (Int32 × me_M))
  | (x1_1, x2_1, M2) => (if (M2.1 3 5) < x2_1 then some (.inr (x1_1, M2)) else ((me_t M2 7 241 x2_1 x1_1).bind fun M3 => ((me_r M3 4 241 x2_1).bind fun v1 => (if v1 = 1 then ((me_t M3 8 241 (x1_1 + 1) (x2_1 + 1)).bind fun M4 => (mX10_partDocuments_3_J48 x2_1 (x1_1 + 1) M4)) else (mX10_partDocuments_3_J48 x2_1 x1_1 M3)))))
def mX10_partDocuments_3 (M : me_M)  : Option me_M :=
  ((me_t M 8 241 0 0).bind fun M1 => ((me_l mX10_partDocuments_3_L11 me_fu (0, 0, M1)).bind fun (y1_1, M6) => some (me_s M6 3 6 (y1_1 + 1))))
set_option maxRecDepth 100000 in
set_option maxHeartbeats 4000000 in
theorem ctX10_partDocuments_3 {l : Launch} {n nt : Nat} (hn : 63 ≤ n) (hnt : 1 ≤ nt) {M : me_M} {M' : me_M} (h : mX10_partDocuments_3 M = some M') : me_Ct l yX10_partDocuments cX10_partDocuments 3 none 0 n nt (fun ad => [.ref (ad 3)]) M (fun _ => none) M' := by
  unfold mX10_partDocuments_3 at h
  refine me_enter (N0 := 63) RX10 rfl (plainFor_of_name pl_RX10) hn (Nat.le_trans (by decide) hnt) (fun _ => Nat.le_of_ble_eq_true rfl) ?_
  intro p e R s m args below meth c D cA ad tys A X hr hlk
  refine me_sub (L' := [(0, .ref (ad 3))]) [0] rfl ?_
  refine me_iconst X dX10_partDocuments_0 ic_0 ?_
  refine me_istore_n X (i := 1) [(1, .int 0), (0, .ref (ad 3))] (Nat.le_of_ble_eq_true rfl) rfl dX10_partDocuments_1 ?_
  refine me_aload_n X (i := 0) 1 rfl dX10_partDocuments_2 ?_
  refine me_getr X 8 kF_X10_24 (Nat.le_of_ble_eq_true rfl) me_k3 me_f3_4 dX10_partDocuments_3 ?_
  refine me_iconst X dX10_partDocuments_6 ic_0 ?_
  refine me_iconst X dX10_partDocuments_7 ic_0 ?_
  obtain ⟨M1, e1, h⟩ := me_bd h
  refine me_iast X (Nat.le_of_ble_eq_true rfl) me_k8 e1 dX10_partDocuments_8 ?_
  refine me_iconst X dX10_partDocuments_9 ic_0 ?_
  refine me_istore_n X (i := 2) [(2, .int 0), (1, .int 0), (0, .ref (ad 3))] (Nat.le_of_ble_eq_true rfl) rfl dX10_partDocuments_10 ?_
  obtain ⟨⟨y1_1, M6⟩, hq1, h⟩ := me_bd h
  have hx1 : me_W p l e R s m args below meth c 0 0 (MQ below (me_Qc D cA ad n A none M') args s 0 0 A) D cA ad n 3 A 54 [(0, .ref (ad 3)), (1, .int y1_1)] [] M6 := by
    refine me_aload_n X (i := 0) 0 rfl dX10_partDocuments_54 ?_
    refine me_iload_n X (i := 1) 1 rfl dX10_partDocuments_55 ?_
    refine me_iconst X dX10_partDocuments_56 ic_1 ?_
    refine me_iadd X dX10_partDocuments_57 ?_
    refine me_puti X kG_X10_51 (Nat.le_of_ble_eq_true rfl) me_k3 me_f3_6 dX10_partDocuments_58 ?_
    obtain rfl := me_so h
    exact me_vret X hr hlk dX10_partDocuments_61
  refine me_sub (L' := [(0, .ref (ad 3)), (1, .int 0), (2, .int 0)]) [2, 1, 0] rfl ?_
  refine me_l_W (b := mX10_partDocuments_3_L11) (P := fun w => me_W p l e R s m args below meth c 0 0 (MQ below (me_Qc D cA ad n A none M') args s 0 0 A) D cA ad n 3 A 11 [(0, .ref (ad 3)), (1, .int w.1), (2, .int w.2.1)] [] w.2.2) (r := (y1_1, M6)) ?_ me_fu (0, 0, M1) hq1
  rintro ⟨x1_1, x2_1, M2⟩ z1 h hb1 - hr1
  unfold mX10_partDocuments_3_L11 at h
  refine me_iload_n X (i := 2) 2 rfl dX10_partDocuments_11 ?_
  refine me_aload_n X (i := 0) 0 rfl dX10_partDocuments_12 ?_
  refine me_geti X kF_X10_27 (Nat.le_of_ble_eq_true rfl) me_k3 me_f3_5 dX10_partDocuments_13 ?_
  refine me_icmp_gt X 54 (by decide) dX10_partDocuments_16 (fun c1 => ?_) (fun c1 => ?_)
  · have h := me_ip c1 h
    obtain rfl := me_so h
    have q := hr1 _ rfl
    refine me_sub (L' := [(0, .ref (ad 3)), (1, .int x1_1)]) [0, 1] rfl ?_
    cases q
    exact hx1
  · have h := me_in c1 h
    refine me_aload_n X (i := 0) 0 rfl dX10_partDocuments_19 ?_
    refine me_getr X 7 kF_X10_21 (Nat.le_of_ble_eq_true rfl) me_k3 me_f3_3 dX10_partDocuments_20 ?_
    refine me_iload_n X (i := 2) 2 rfl dX10_partDocuments_23 ?_
    refine me_iload_n X (i := 1) 1 rfl dX10_partDocuments_24 ?_
    obtain ⟨M3, e2, h⟩ := me_bd h
    refine me_iast X (Nat.le_of_ble_eq_true rfl) me_k7 e2 dX10_partDocuments_25 ?_
    refine me_aload_n X (i := 0) 0 rfl dX10_partDocuments_26 ?_
    refine me_getr X 4 kF_X10_9 (Nat.le_of_ble_eq_true rfl) me_k3 me_f3_0 dX10_partDocuments_27 ?_
    refine me_iload_n X (i := 2) 2 rfl dX10_partDocuments_30 ?_
    obtain ⟨v1, e3, h⟩ := me_bd h
    refine me_iald X (Nat.le_of_ble_eq_true rfl) me_k4 e3 dX10_partDocuments_31 ?_
    refine me_iconst X dX10_partDocuments_32 ic_1 ?_
    have hj48_1 : ∀ (x1_2 : Int32) (M5 : me_M), mX10_partDocuments_3_J48 x2_1 x1_2 M5 = some z1 → me_W p l e R s m args below meth c 0 0 (MQ below (me_Qc D cA ad n A none M') args s 0 0 A) D cA ad n 3 A 48 [(0, .ref (ad 3)), (1, .int x1_2), (2, .int x2_1)] [] M5 := by
      intro x1_2 M5 h
      unfold mX10_partDocuments_3_J48 at h
      refine me_iinc X (v := (x2_1 + 1)) 2 rfl (in_1 _) [(2, .int (x2_1 + 1)), (0, .ref (ad 3)), (1, .int x1_2)] (Nat.le_of_ble_eq_true rfl) rfl dX10_partDocuments_48 ?_
      refine me_goto X 11 (by decide) dX10_partDocuments_51 ?_
      obtain rfl := me_so h
      refine me_sub (L' := [(0, .ref (ad 3)), (1, .int x1_2), (2, .int (x2_1 + 1))]) [1, 2, 0] rfl ?_
      exact hb1 (x1_2, (x2_1 + 1), M5) rfl
    refine me_icmp_ne X 48 (by decide) dX10_partDocuments_33 (fun c2 => ?_) (fun c2 => ?_)
    · have h := me_in c2 h
      exact hj48_1 x1_1 M3 h
    · have h := me_ip c2 h
      refine me_iinc X (v := (x1_1 + 1)) 1 rfl (in_1 _) [(1, .int (x1_1 + 1)), (0, .ref (ad 3)), (2, .int x2_1)] (Nat.le_of_ble_eq_true rfl) rfl dX10_partDocuments_36 ?_
      refine me_aload_n X (i := 0) 1 rfl dX10_partDocuments_39 ?_
      refine me_getr X 8 kF_X10_24 (Nat.le_of_ble_eq_true rfl) me_k3 me_f3_4 dX10_partDocuments_40 ?_
      refine me_iload_n X (i := 1) 0 rfl dX10_partDocuments_43 ?_
      refine me_iload_n X (i := 2) 2 rfl dX10_partDocuments_44 ?_
      refine me_iconst X dX10_partDocuments_45 ic_1 ?_
      refine me_iadd X dX10_partDocuments_46 ?_
      obtain ⟨M4, e4, h⟩ := me_bd h
      refine me_iast X (Nat.le_of_ble_eq_true rfl) me_k8 e4 dX10_partDocuments_47 ?_
      refine me_sub (L' := [(0, .ref (ad 3)), (1, .int (x1_1 + 1)), (2, .int x2_1)]) [1, 0, 2] rfl ?_
      exact hj48_1 (x1_1 + 1) M4 h
def mX10_measureLetters_3_J50 (x1_1 : Int32) (M2 : me_M) (s1 : Int32) : Option ((Int32 × me_M) ⊕ (me_M)) :=
  ((me_t M2 6 241 x1_1 s1).bind fun M3 => some (.inl ((x1_1 + (-1)), M3)))
def mX10_measureLetters_3_L17  : (Int32 × me_M) → Option ((Int32 × me_M) ⊕ (me_M))
  | (x1_1, M2) => (if x1_1 < 0 then some (.inr M2) else ((me_r M2 4 241 x1_1).bind fun v1 => (if v1 = 1 then (mX10_measureLetters_3_J50 x1_1 M2 0) else ((me_r M2 6 241 (x1_1 + 1)).bind fun v2 => (mX10_measureLetters_3_J50 x1_1 M2 (v2 + 1))))))
def mX10_measureLetters_3 (M : me_M)  : Option me_M :=
  ((me_t M 6 241 (M.1 3 5) 0).bind fun M1 => ((me_l mX10_measureLetters_3_L17 me_fu (((M1.1 3 5) - 1), M1)).bind fun M4 => some M4))
set_option maxRecDepth 100000 in
set_option maxHeartbeats 4000000 in
theorem ctX10_measureLetters_3 {l : Launch} {n nt : Nat} (hn : 63 ≤ n) (hnt : 1 ≤ nt) {M : me_M} {M' : me_M} (h : mX10_measureLetters_3 M = some M') : me_Ct l yX10_measureLetters cX10_measureLetters 2 none 0 n nt (fun ad => [.ref (ad 3)]) M (fun _ => none) M' := by
  unfold mX10_measureLetters_3 at h
  refine me_enter (N0 := 63) RX10 rfl (plainFor_of_name pl_RX10) hn (Nat.le_trans (by decide) hnt) (fun _ => Nat.le_of_ble_eq_true rfl) ?_
  intro p e R s m args below meth c D cA ad tys A X hr hlk
  refine me_sub (L' := [(0, .ref (ad 3))]) [0] rfl ?_
  refine me_aload_n X (i := 0) 0 rfl dX10_measureLetters_0 ?_
  refine me_getr X 6 kF_X10_18 (Nat.le_of_ble_eq_true rfl) me_k3 me_f3_2 dX10_measureLetters_1 ?_
  refine me_aload_n X (i := 0) 0 rfl dX10_measureLetters_4 ?_
  refine me_geti X kF_X10_27 (Nat.le_of_ble_eq_true rfl) me_k3 me_f3_5 dX10_measureLetters_5 ?_
  refine me_iconst X dX10_measureLetters_8 ic_0 ?_
  obtain ⟨M1, e1, h⟩ := me_bd h
  refine me_iast X (Nat.le_of_ble_eq_true rfl) me_k6 e1 dX10_measureLetters_9 ?_
  refine me_aload_n X (i := 0) 0 rfl dX10_measureLetters_10 ?_
  refine me_geti X kF_X10_27 (Nat.le_of_ble_eq_true rfl) me_k3 me_f3_5 dX10_measureLetters_11 ?_
  refine me_iconst X dX10_measureLetters_14 ic_1 ?_
  refine me_isub X dX10_measureLetters_15 ?_
  refine me_istore_n X (i := 1) [(1, .int ((M1.1 3 5) - 1)), (0, .ref (ad 3))] (Nat.le_of_ble_eq_true rfl) rfl dX10_measureLetters_16 ?_
  obtain ⟨M4, hq1, h⟩ := me_bd h
  have hx1 : me_W p l e R s m args below meth c 0 0 (MQ below (me_Qc D cA ad n A none M') args s 0 0 A) D cA ad n 2 A 57 [] [] M4 := by
    obtain rfl := me_so h
    exact me_vret X hr hlk dX10_measureLetters_57
  refine me_sub (L' := [(0, .ref (ad 3)), (1, .int ((M1.1 3 5) - 1))]) [1, 0] rfl ?_
  refine me_l_W (b := mX10_measureLetters_3_L17) (P := fun w => me_W p l e R s m args below meth c 0 0 (MQ below (me_Qc D cA ad n A none M') args s 0 0 A) D cA ad n 2 A 17 [(0, .ref (ad 3)), (1, .int w.1)] [] w.2) (r := M4) ?_ me_fu (((M1.1 3 5) - 1), M1) hq1
  rintro ⟨x1_1, M2⟩ z1 h hb1 - hr1
  unfold mX10_measureLetters_3_L17 at h
  refine me_iload_n X (i := 1) 1 rfl dX10_measureLetters_17 ?_
  refine me_if_lt X 57 (by decide) dX10_measureLetters_18 (fun c1 => ?_) (fun c1 => ?_)
  · have h := me_ip c1 h
    obtain rfl := me_so h
    have q := hr1 _ rfl
    refine me_sub (L' := []) [] rfl ?_
    cases q
    exact hx1
  · have h := me_in c1 h
    refine me_aload_n X (i := 0) 0 rfl dX10_measureLetters_21 ?_
    refine me_getr X 6 kF_X10_18 (Nat.le_of_ble_eq_true rfl) me_k3 me_f3_2 dX10_measureLetters_22 ?_
    refine me_iload_n X (i := 1) 1 rfl dX10_measureLetters_25 ?_
    refine me_aload_n X (i := 0) 0 rfl dX10_measureLetters_26 ?_
    refine me_getr X 4 kF_X10_9 (Nat.le_of_ble_eq_true rfl) me_k3 me_f3_0 dX10_measureLetters_27 ?_
    refine me_iload_n X (i := 1) 1 rfl dX10_measureLetters_30 ?_
    obtain ⟨v1, e2, h⟩ := me_bd h
    refine me_iald X (Nat.le_of_ble_eq_true rfl) me_k4 e2 dX10_measureLetters_31 ?_
    refine me_iconst X dX10_measureLetters_32 ic_1 ?_
    have hj50_1 : ∀ (s1 : Int32), mX10_measureLetters_3_J50 x1_1 M2 s1 = some z1 → me_W p l e R s m args below meth c 0 0 (MQ below (me_Qc D cA ad n A none M') args s 0 0 A) D cA ad n 2 A 50 [(0, .ref (ad 3)), (1, .int x1_1)] [.int s1, .int x1_1, .ref (ad 6)] M2 := by
      intro s1 h
      unfold mX10_measureLetters_3_J50 at h
      obtain ⟨M3, e4, h⟩ := me_bd h
      refine me_iast X (Nat.le_of_ble_eq_true rfl) me_k6 e4 dX10_measureLetters_50 ?_
      refine me_iinc X (v := (x1_1 + (-1))) 1 rfl (in_m1 _) [(1, .int (x1_1 + (-1))), (0, .ref (ad 3))] (Nat.le_of_ble_eq_true rfl) rfl dX10_measureLetters_51 ?_
      refine me_goto X 17 (by decide) dX10_measureLetters_54 ?_
      obtain rfl := me_so h
      refine me_sub (L' := [(0, .ref (ad 3)), (1, .int (x1_1 + (-1)))]) [1, 0] rfl ?_
      exact hb1 ((x1_1 + (-1)), M3) rfl
    refine me_icmp_ne X 40 (by decide) dX10_measureLetters_33 (fun c2 => ?_) (fun c2 => ?_)
    · have h := me_in c2 h
      refine me_aload_n X (i := 0) 0 rfl dX10_measureLetters_40 ?_
      refine me_getr X 6 kF_X10_18 (Nat.le_of_ble_eq_true rfl) me_k3 me_f3_2 dX10_measureLetters_41 ?_
      refine me_iload_n X (i := 1) 1 rfl dX10_measureLetters_44 ?_
      refine me_iconst X dX10_measureLetters_45 ic_1 ?_
      refine me_iadd X dX10_measureLetters_46 ?_
      obtain ⟨v2, e3, h⟩ := me_bd h
      refine me_iald X (Nat.le_of_ble_eq_true rfl) me_k6 e3 dX10_measureLetters_47 ?_
      refine me_iconst X dX10_measureLetters_48 ic_1 ?_
      refine me_iadd X dX10_measureLetters_49 ?_
      exact hj50_1 (v2 + 1) h
    · have h := me_ip c2 h
      refine me_iconst X dX10_measureLetters_36 ic_0 ?_
      refine me_goto X 50 (by decide) dX10_measureLetters_37 ?_
      exact hj50_1 0 h
def mX10_survey_3 (M : me_M)  : Option me_M :=
  ((mX10_mirror_3 M).bind fun M1 => ((mX10_gatherLetters_3 M1).bind fun M2 => ((mX10_partDocuments_3 M2).bind fun M3 => ((mX10_measureLetters_3 M3).bind fun M4 => some M4))))
set_option maxRecDepth 100000 in
set_option maxHeartbeats 4000000 in
theorem ctX10_survey_3 {l : Launch} {n nt : Nat} (hn : 63 ≤ n) (hnt : 1 ≤ nt) {M : me_M} {M' : me_M} (h : mX10_survey_3 M = some M') : me_Ct l yX10_survey cX10_survey 1 none 1 n nt (fun ad => [.ref (ad 3)]) M (fun _ => none) M' := by
  unfold mX10_survey_3 at h
  refine me_enter (N0 := 63) RX10 rfl (plainFor_of_name pl_RX10) hn (Nat.le_trans (by decide) hnt) (fun _ => Nat.le_of_ble_eq_true rfl) ?_
  intro p e R s m args below meth c D cA ad tys A X hr hlk
  refine me_sub (L' := [(0, .ref (ad 3))]) [0] rfl ?_
  refine me_aload_n X (i := 0) 0 rfl dX10_survey_0 ?_
  obtain ⟨M1, e1, h⟩ := me_bd h
  refine me_callVv X [] (ctX10_mirror_3 hn (Nat.le_trans (by decide) hnt) e1) kV_X10_36 rfl rfl (Nat.le_of_ble_eq_true rfl) me_k3 (Nat.le_of_ble_eq_true rfl) (Nat.le_refl _) (Nat.le_of_ble_eq_true rfl) dX10_survey_1 ?_
  refine me_aload_n X (i := 0) 0 rfl dX10_survey_4 ?_
  obtain ⟨M2, e2, h⟩ := me_bd h
  refine me_callVv X [] (ctX10_gatherLetters_3 hn (Nat.le_trans (by decide) hnt) e2) kV_X10_39 rfl rfl (Nat.le_of_ble_eq_true rfl) me_k3 (Nat.le_of_ble_eq_true rfl) (Nat.le_refl _) (Nat.le_of_ble_eq_true rfl) dX10_survey_5 ?_
  refine me_aload_n X (i := 0) 0 rfl dX10_survey_8 ?_
  obtain ⟨M3, e3, h⟩ := me_bd h
  refine me_callVv X [] (ctX10_partDocuments_3 hn (Nat.le_trans (by decide) hnt) e3) kV_X10_42 rfl rfl (Nat.le_of_ble_eq_true rfl) me_k3 (Nat.le_of_ble_eq_true rfl) (Nat.le_refl _) (Nat.le_of_ble_eq_true rfl) dX10_survey_9 ?_
  refine me_aload_n X (i := 0) 0 rfl dX10_survey_12 ?_
  obtain ⟨M4, e4, h⟩ := me_bd h
  refine me_callVv X [] (ctX10_measureLetters_3 hn (Nat.le_trans (by decide) hnt) e4) kV_X10_45 rfl rfl (Nat.le_of_ble_eq_true rfl) me_k3 (Nat.le_of_ble_eq_true rfl) (Nat.le_refl _) (Nat.le_of_ble_eq_true rfl) dX10_survey_13 ?_
  obtain rfl := me_so h
  exact me_vret X hr hlk dX10_survey_16
def mX10_hasLetter_3 (M : me_M) (p0 : Int32) : Option Int32 :=
  (if ((M.1 3 7) &&& (1 <<< (p0 &&& 31))) = 0 then some 0 else some 1)
set_option maxRecDepth 100000 in
set_option maxHeartbeats 4000000 in
theorem ctX10_hasLetter_3 {l : Launch} {n nt : Nat} (hn : 63 ≤ n) (hnt : 1 ≤ nt) {M : me_M} {p0 : Int32} {r : Int32} (h : mX10_hasLetter_3 M p0 = some r) : me_Ct l yX10_hasLetter cX10_hasLetter 2 (some .boolean) 0 n nt (fun ad => [.ref (ad 3), .int p0]) M (fun _ => some (.int r)) M := by
  unfold mX10_hasLetter_3 at h
  refine me_enter (N0 := 63) RX10 rfl (plainFor_of_name pl_RX10) hn (Nat.le_trans (by decide) hnt) (fun _ => Nat.le_of_ble_eq_true rfl) ?_
  intro p e R s m args below meth c D cA ad tys A X hr hlk
  refine me_sub (L' := [(0, .ref (ad 3)), (1, .int p0)]) [0, 1] rfl ?_
  refine me_aload_n X (i := 0) 0 rfl dX10_hasLetter_0 ?_
  refine me_geti X kF_X10_48 (Nat.le_of_ble_eq_true rfl) me_k3 me_f3_7 dX10_hasLetter_1 ?_
  refine me_iconst X dX10_hasLetter_4 ic_1 ?_
  refine me_iload_n X (i := 1) 1 rfl dX10_hasLetter_5 ?_
  refine me_ishl X dX10_hasLetter_6 ?_
  refine me_iand X dX10_hasLetter_7 ?_
  refine me_if_eq X 15 (by decide) dX10_hasLetter_8 (fun c1 => ?_) (fun c1 => ?_)
  · have h := me_ip c1 h
    refine me_iconst X dX10_hasLetter_15 ic_0 ?_
    obtain rfl := me_so h
    exact me_zret X (by decide) hr hlk dX10_hasLetter_16
  · have h := me_in c1 h
    refine me_iconst X dX10_hasLetter_11 ic_1 ?_
    refine me_goto X 16 (by decide) dX10_hasLetter_12 ?_
    obtain rfl := me_so h
    exact me_zret X (by decide) hr hlk dX10_hasLetter_16
def mX7_start_20 (M : me_M)  : Option me_M :=
  ((me_t M 21 41 0 0).bind fun M1 => ((me_t M1 22 41 0 0).bind fun M2 => ((me_t M2 23 41 0 ((M2.1 9 5) + 1)).bind fun M3 => some M3)))
set_option maxRecDepth 100000 in
set_option maxHeartbeats 4000000 in
theorem ctX7_start_20 {l : Launch} {n nt : Nat} (hn : 63 ≤ n) (hnt : 1 ≤ nt) {M : me_M} {M' : me_M} (h : mX7_start_20 M = some M') : me_Ct l yX7_start cX7_start 1 none 0 n nt (fun ad => [.ref (ad 20)]) M (fun _ => none) M' := by
  unfold mX7_start_20 at h
  refine me_enter (N0 := 63) RX7 rfl (plainFor_of_name pl_RX7) hn (Nat.le_trans (by decide) hnt) (fun _ => Nat.le_of_ble_eq_true rfl) ?_
  intro p e R s m args below meth c D cA ad tys A X hr hlk
  refine me_sub (L' := [(0, .ref (ad 20))]) [0] rfl ?_
  refine me_aload_n X (i := 0) 0 rfl dX7_start_0 ?_
  refine me_getr X 21 kF_X7_9 (Nat.le_of_ble_eq_true rfl) me_k20 me_f20_2 dX7_start_1 ?_
  refine me_iconst X dX7_start_4 ic_0 ?_
  refine me_iconst X dX7_start_5 ic_0 ?_
  obtain ⟨M1, e1, h⟩ := me_bd h
  refine me_iast X (Nat.le_of_ble_eq_true rfl) me_k21 e1 dX7_start_6 ?_
  refine me_aload_n X (i := 0) 0 rfl dX7_start_7 ?_
  refine me_getr X 22 kF_X7_15 (Nat.le_of_ble_eq_true rfl) me_k20 me_f20_3 dX7_start_8 ?_
  refine me_iconst X dX7_start_11 ic_0 ?_
  refine me_iconst X dX7_start_12 ic_0 ?_
  obtain ⟨M2, e2, h⟩ := me_bd h
  refine me_iast X (Nat.le_of_ble_eq_true rfl) me_k22 e2 dX7_start_13 ?_
  refine me_aload_n X (i := 0) 0 rfl dX7_start_14 ?_
  refine me_getr X 23 kF_X7_18 (Nat.le_of_ble_eq_true rfl) me_k20 me_f20_4 dX7_start_15 ?_
  refine me_iconst X dX7_start_18 ic_0 ?_
  refine me_aload_n X (i := 0) 0 rfl dX7_start_19 ?_
  refine me_getr X 9 kF_X7_21 (Nat.le_of_ble_eq_true rfl) me_k20 me_f20_0 dX7_start_20 ?_
  refine me_geti X kF_X7_28 (Nat.le_of_ble_eq_true rfl) me_k9 me_f9_5 dX7_start_23 ?_
  refine me_iconst X dX7_start_26 ic_1 ?_
  refine me_iadd X dX7_start_27 ?_
  obtain ⟨M3, e3, h⟩ := me_bd h
  refine me_iast X (Nat.le_of_ble_eq_true rfl) me_k23 e3 dX7_start_28 ?_
  obtain rfl := me_so h
  exact me_vret X hr hlk dX7_start_29
def mX0_empty_19 (M : me_M)  : Option me_M :=
  ((mX7_start_20 (me_s (me_s M 19 3 40) 19 4 0)).bind fun M1 => some M1)
set_option maxRecDepth 100000 in
set_option maxHeartbeats 4000000 in
theorem ctX0_empty_19 {l : Launch} {n nt : Nat} (hn : 63 ≤ n) (hnt : 1 ≤ nt) {M : me_M} {M' : me_M} (h : mX0_empty_19 M = some M') : me_Ct l yX0_empty cX0_empty 1 none 1 n nt (fun ad => [.ref (ad 19)]) M (fun _ => none) M' := by
  unfold mX0_empty_19 at h
  refine me_enter (N0 := 63) RX0 rfl (plainFor_of_name pl_RX0) hn (Nat.le_trans (by decide) hnt) (fun _ => Nat.le_of_ble_eq_true rfl) ?_
  intro p e R s m args below meth c D cA ad tys A X hr hlk
  refine me_sub (L' := [(0, .ref (ad 19))]) [0] rfl ?_
  refine me_aload_n X (i := 0) 0 rfl dX0_empty_0 ?_
  refine me_bipush X dX0_empty_1 ib_40 ?_
  refine me_puti X kG_X0_27 (Nat.le_of_ble_eq_true rfl) me_k19 me_f19_3 dX0_empty_3 ?_
  refine me_aload_n X (i := 0) 0 rfl dX0_empty_6 ?_
  refine me_iconst X dX0_empty_7 ic_0 ?_
  refine me_puti X kG_X0_31 (Nat.le_of_ble_eq_true rfl) me_k19 me_f19_4 dX0_empty_8 ?_
  refine me_aload_n X (i := 0) 0 rfl dX0_empty_11 ?_
  refine me_getr X 20 kF_X0_23 (Nat.le_of_ble_eq_true rfl) me_k19 me_f19_0 dX0_empty_12 ?_
  obtain ⟨M1, e1, h⟩ := me_bd h
  refine me_callVv X [] (ctX7_start_20 hn (Nat.le_trans (by decide) hnt) e1) kV_X0_34 rfl rfl (Nat.le_of_ble_eq_true rfl) me_k20 (Nat.le_of_ble_eq_true rfl) (Nat.le_refl _) (Nat.le_of_ble_eq_true rfl) dX0_empty_15 ?_
  obtain rfl := me_so h
  exact me_vret X hr hlk dX0_empty_18
