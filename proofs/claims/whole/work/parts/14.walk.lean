def mX6_readSearch_52_58_J77 (s1 : Int32) (M8 : me_M) : Option me_M :=
  (if s1 = 0 then some M8 else some (me_s M8 58 4 ((M8.1 58 4) + 1)))
def mX6_readSearch_52_58_J76 (M7 : me_M) : Option me_M :=
  (mX6_readSearch_52_58_J77 0 M7)
def mX6_readSearch_52_58_J22 (M : me_M) (s2 : Int32) : Option me_M :=
  ((mX6_fail_52 M s2).bind fun (v8, M9) => some M9)
def mX6_readSearch_52_58 (M : me_M)  : Option me_M :=
  (if (M.1 58 4) < 8 then ((mX6_readOrder_52_58 M).bind fun (v1, M1) => (if v1 = 0 then (mX6_readSearch_52_58_J76 M1) else ((mX6_readGap_52 M1).bind fun (v2, M2) => (if v2 = 0 then (mX6_readSearch_52_58_J76 M2) else ((mX6_readLeast_52_58 M2).bind fun (v3, M3) => (if v3 = 0 then (mX6_readSearch_52_58_J76 M3) else ((mX6_readGap_52 M3).bind fun (v4, M4) => (if v4 = 0 then (mX6_readSearch_52_58_J76 M4) else ((mX6_readMost_52_58 M4).bind fun (v5, M5) => (if v5 = 0 then (mX6_readSearch_52_58_J76 M5) else ((mX6_readSemicolon_52 M5).bind fun (v6, M6) => (if v6 = 0 then (mX6_readSearch_52_58_J76 M6) else (mX6_readSearch_52_58_J77 1 M6))))))))))))) else ((mX6_isDigit_52 M).bind fun v7 => (if v7 = 0 then (mX6_readSearch_52_58_J22 M 1) else (mX6_readSearch_52_58_J22 M 3))))
set_option maxRecDepth 100000 in
set_option maxHeartbeats 4000000 in
theorem ctX6_readSearch_52_58 {l : Launch} {n nt : Nat} (hn : 63 ≤ n) (hnt : 1 ≤ nt) {M : me_M} {M' : me_M} (h : mX6_readSearch_52_58 M = some M') : me_Ct l yX6_readSearch cX6_readSearch 3 none 4 n nt (fun ad => [.ref (ad 52), .ref (ad 58)]) M (fun _ => none) M' := by
  unfold mX6_readSearch_52_58 at h
  refine me_enter (N0 := 63) RX6 rfl (plainFor_of_name pl_RX6) hn (Nat.le_trans (by decide) hnt) (fun _ => Nat.le_of_ble_eq_true rfl) ?_
  intro p e R s m args below meth c D cA ad tys A X hr hlk
  refine me_sub (L' := [(0, .ref (ad 52)), (1, .ref (ad 58))]) [0, 1] rfl ?_
  refine me_aload_n X (i := 1) 1 rfl dX6_readSearch_0 ?_
  refine me_geti X kF_X6_28 (Nat.le_of_ble_eq_true rfl) me_k58 me_f58_4 dX6_readSearch_1 ?_
  refine me_bipush X dX6_readSearch_4 ib_8 ?_
  refine me_icmp_lt X 27 (by decide) dX6_readSearch_6 (fun c1 => ?_) (fun c1 => ?_)
  · have h := me_ip c1 h
    refine me_aload_n X (i := 0) 0 rfl dX6_readSearch_27 ?_
    refine me_aload_n X (i := 1) 1 rfl dX6_readSearch_28 ?_
    obtain ⟨⟨v1, M1⟩, e1, h⟩ := me_bd h
    refine me_callVi X [.ref (ad 58)] (ctX6_readOrder_52_58 hn (Nat.le_trans (by decide) hnt) e1) kV_X6_48 rfl rfl (Nat.le_of_ble_eq_true rfl) me_k52 (Nat.le_of_ble_eq_true rfl) (Nat.le_refl _) (Nat.le_of_ble_eq_true rfl) dX6_readSearch_29 ?_
    have hj77_2 : ∀ (s1 : Int32) (M8 : me_M), mX6_readSearch_52_58_J77 s1 M8 = some M' → me_W p l e R s m args below meth c 0 0 (MQ below (me_Qc D cA ad n A none M') args s 0 0 A) D cA ad n 3 A 77 [(1, .ref (ad 58))] [.int s1] M8 := by
      intro s1 M8 h
      unfold mX6_readSearch_52_58_J77 at h
      refine me_istore_n X (i := 2) [(2, .int s1), (1, .ref (ad 58))] (Nat.le_of_ble_eq_true rfl) rfl dX6_readSearch_77 ?_
      refine me_iload_n X (i := 2) 0 rfl dX6_readSearch_78 ?_
      refine me_if_eq X 92 (by decide) dX6_readSearch_79 (fun c8 => ?_) (fun c8 => ?_)
      · have h := me_ip c8 h
        obtain rfl := me_so h
        exact me_vret X hr hlk dX6_readSearch_92
      · have h := me_in c8 h
        refine me_aload_n X (i := 1) 1 rfl dX6_readSearch_82 ?_
        refine me_dup X rfl dX6_readSearch_83 ?_
        refine me_geti X kF_X6_28 (Nat.le_of_ble_eq_true rfl) me_k58 me_f58_4 dX6_readSearch_84 ?_
        refine me_iconst X dX6_readSearch_87 ic_1 ?_
        refine me_iadd X dX6_readSearch_88 ?_
        refine me_puti X kG_X6_28 (Nat.le_of_ble_eq_true rfl) me_k58 me_f58_4 dX6_readSearch_89 ?_
        obtain rfl := me_so h
        exact me_vret X hr hlk dX6_readSearch_92
    have hj76_1 : ∀ (M7 : me_M), mX6_readSearch_52_58_J76 M7 = some M' → me_W p l e R s m args below meth c 0 0 (MQ below (me_Qc D cA ad n A none M') args s 0 0 A) D cA ad n 3 A 76 [(1, .ref (ad 58))] [] M7 := by
      intro M7 h
      unfold mX6_readSearch_52_58_J76 at h
      refine me_iconst X dX6_readSearch_76 ic_0 ?_
      exact hj77_2 0 M7 h
    refine me_if_eq X 76 (by decide) dX6_readSearch_32 (fun c2 => ?_) (fun c2 => ?_)
    · have h := me_ip c2 h
      refine me_sub (L' := [(1, .ref (ad 58))]) [1] rfl ?_
      exact hj76_1 M1 h
    · have h := me_in c2 h
      refine me_aload_n X (i := 0) 0 rfl dX6_readSearch_35 ?_
      obtain ⟨⟨v2, M2⟩, e2, h⟩ := me_bd h
      refine me_callVi X [] (ctX6_readGap_52 hn (Nat.le_trans (by decide) hnt) e2) kV_X6_52 rfl rfl (Nat.le_of_ble_eq_true rfl) me_k52 (Nat.le_of_ble_eq_true rfl) (Nat.le_refl _) (Nat.le_of_ble_eq_true rfl) dX6_readSearch_36 ?_
      refine me_if_eq X 76 (by decide) dX6_readSearch_39 (fun c3 => ?_) (fun c3 => ?_)
      · have h := me_ip c3 h
        refine me_sub (L' := [(1, .ref (ad 58))]) [1] rfl ?_
        exact hj76_1 M2 h
      · have h := me_in c3 h
        refine me_aload_n X (i := 0) 0 rfl dX6_readSearch_42 ?_
        refine me_aload_n X (i := 1) 1 rfl dX6_readSearch_43 ?_
        obtain ⟨⟨v3, M3⟩, e3, h⟩ := me_bd h
        refine me_callVi X [.ref (ad 58)] (ctX6_readLeast_52_58 hn (Nat.le_trans (by decide) hnt) e3) kV_X6_55 rfl rfl (Nat.le_of_ble_eq_true rfl) me_k52 (Nat.le_of_ble_eq_true rfl) (Nat.le_refl _) (Nat.le_of_ble_eq_true rfl) dX6_readSearch_44 ?_
        refine me_if_eq X 76 (by decide) dX6_readSearch_47 (fun c4 => ?_) (fun c4 => ?_)
        · have h := me_ip c4 h
          refine me_sub (L' := [(1, .ref (ad 58))]) [1] rfl ?_
          exact hj76_1 M3 h
        · have h := me_in c4 h
          refine me_aload_n X (i := 0) 0 rfl dX6_readSearch_50 ?_
          obtain ⟨⟨v4, M4⟩, e4, h⟩ := me_bd h
          refine me_callVi X [] (ctX6_readGap_52 hn (Nat.le_trans (by decide) hnt) e4) kV_X6_52 rfl rfl (Nat.le_of_ble_eq_true rfl) me_k52 (Nat.le_of_ble_eq_true rfl) (Nat.le_refl _) (Nat.le_of_ble_eq_true rfl) dX6_readSearch_51 ?_
          refine me_if_eq X 76 (by decide) dX6_readSearch_54 (fun c5 => ?_) (fun c5 => ?_)
          · have h := me_ip c5 h
            refine me_sub (L' := [(1, .ref (ad 58))]) [1] rfl ?_
            exact hj76_1 M4 h
          · have h := me_in c5 h
            refine me_aload_n X (i := 0) 0 rfl dX6_readSearch_57 ?_
            refine me_aload_n X (i := 1) 1 rfl dX6_readSearch_58 ?_
            obtain ⟨⟨v5, M5⟩, e5, h⟩ := me_bd h
            refine me_callVi X [.ref (ad 58)] (ctX6_readMost_52_58 hn (Nat.le_trans (by decide) hnt) e5) kV_X6_58 rfl rfl (Nat.le_of_ble_eq_true rfl) me_k52 (Nat.le_of_ble_eq_true rfl) (Nat.le_refl _) (Nat.le_of_ble_eq_true rfl) dX6_readSearch_59 ?_
            refine me_if_eq X 76 (by decide) dX6_readSearch_62 (fun c6 => ?_) (fun c6 => ?_)
            · have h := me_ip c6 h
              refine me_sub (L' := [(1, .ref (ad 58))]) [1] rfl ?_
              exact hj76_1 M5 h
            · have h := me_in c6 h
              refine me_aload_n X (i := 0) 0 rfl dX6_readSearch_65 ?_
              obtain ⟨⟨v6, M6⟩, e6, h⟩ := me_bd h
              refine me_callVi X [] (ctX6_readSemicolon_52 hn (Nat.le_trans (by decide) hnt) e6) kV_X6_61 rfl rfl (Nat.le_of_ble_eq_true rfl) me_k52 (Nat.le_of_ble_eq_true rfl) (Nat.le_refl _) (Nat.le_of_ble_eq_true rfl) dX6_readSearch_66 ?_
              refine me_if_eq X 76 (by decide) dX6_readSearch_69 (fun c7 => ?_) (fun c7 => ?_)
              · have h := me_ip c7 h
                refine me_sub (L' := [(1, .ref (ad 58))]) [1] rfl ?_
                exact hj76_1 M6 h
              · have h := me_in c7 h
                refine me_iconst X dX6_readSearch_72 ic_1 ?_
                refine me_goto X 77 (by decide) dX6_readSearch_73 ?_
                refine me_sub (L' := [(1, .ref (ad 58))]) [1] rfl ?_
                exact hj77_2 1 M6 h
  · have h := me_in c1 h
    refine me_aload_n X (i := 0) 0 rfl dX6_readSearch_9 ?_
    refine me_aload_n X (i := 0) 0 rfl dX6_readSearch_10 ?_
    obtain ⟨v7, e7, h⟩ := me_bd h
    refine me_callVi X [] (ctX6_isDigit_52 hn (Nat.le_trans (by decide) hnt) e7) kV_X6_44 rfl rfl (Nat.le_of_ble_eq_true rfl) me_k52 (Nat.le_of_ble_eq_true rfl) (Nat.le_refl _) (Nat.le_of_ble_eq_true rfl) dX6_readSearch_11 ?_
    have hj22_3 : ∀ (s2 : Int32), mX6_readSearch_52_58_J22 M s2 = some M' → me_W p l e R s m args below meth c 0 0 (MQ below (me_Qc D cA ad n A none M') args s 0 0 A) D cA ad n 3 A 22 [] [.int s2, .ref (ad 52)] M := by
      intro s2 h
      unfold mX6_readSearch_52_58_J22 at h
      obtain ⟨⟨v8, M9⟩, e8, h⟩ := me_bd h
      refine me_callVi X [.int s2] (ctX6_fail_52 hn (Nat.le_trans (by decide) hnt) e8) kV_X6_40 rfl rfl (Nat.le_of_ble_eq_true rfl) me_k52 (Nat.le_of_ble_eq_true rfl) (Nat.le_refl _) (Nat.le_of_ble_eq_true rfl) dX6_readSearch_22 ?_
      refine me_pop X rfl dX6_readSearch_25 ?_
      obtain rfl := me_so h
      exact me_vret X hr hlk dX6_readSearch_26
    refine me_if_eq X 21 (by decide) dX6_readSearch_14 (fun c9 => ?_) (fun c9 => ?_)
    · have h := me_ip c9 h
      refine me_iconst X dX6_readSearch_21 ic_1 ?_
      refine me_sub (L' := []) [] rfl ?_
      exact hj22_3 1 h
    · have h := me_in c9 h
      refine me_iconst X dX6_readSearch_17 ic_3 ?_
      refine me_goto X 22 (by decide) dX6_readSearch_18 ?_
      refine me_sub (L' := []) [] rfl ?_
      exact hj22_3 3 h
def mX6_read_52_58_L31  : (Int32 × me_M) → Option ((Int32 × me_M) ⊕ (me_M))
  | (x3_1, M2) => (if 8 < x3_1 then some (.inr M2) else (if (M2.1 52 1) ≤ (M2.1 52 2) then some (.inr M2) else (if (M2.1 52 3) = 0 then ((mX6_readSearch_52_58 M2).bind fun M3 => ((mX6_skipBlanks_52 M3).bind fun M4 => some (.inl ((x3_1 + 1), M4)))) else some (.inr M2))))
def mX6_read_52_58 (M : me_M) (p0 : Int32) : Option me_M :=
  ((mX6_skipBlanks_52 (me_s (me_s (me_s (me_s (me_s M 52 1 p0) 52 2 0) 52 3 0) 52 4 (-1)) 58 4 0)).bind fun M1 => ((me_l mX6_read_52_58_L31 me_fu (0, M1)).bind fun M5 => (if (M5.1 52 3) = 0 then (if (M5.1 58 4) = 0 then ((mX6_fail_52 M5 1).bind fun (v4, M6) => some M6) else some M5) else some M5)))
set_option maxRecDepth 100000 in
set_option maxHeartbeats 4000000 in
theorem ctX6_read_52_58 {l : Launch} {n nt : Nat} (hn : 63 ≤ n) (hnt : 1 ≤ nt) {M : me_M} {p0 : Int32} {M' : me_M} (h : mX6_read_52_58 M p0 = some M') : me_Ct l yX6_read cX6_read 4 none 5 n nt (fun ad => [.ref (ad 52), .int p0, .ref (ad 58)]) M (fun _ => none) M' := by
  unfold mX6_read_52_58 at h
  refine me_enter (N0 := 63) RX6 rfl (plainFor_of_name pl_RX6) hn (Nat.le_trans (by decide) hnt) (fun _ => Nat.le_of_ble_eq_true rfl) ?_
  intro p e R s m args below meth c D cA ad tys A X hr hlk
  refine me_sub (L' := [(0, .ref (ad 52)), (1, .int p0), (2, .ref (ad 58))]) [0, 1, 2] rfl ?_
  refine me_aload_n X (i := 0) 0 rfl dX6_read_0 ?_
  refine me_iload_n X (i := 1) 1 rfl dX6_read_1 ?_
  refine me_puti X kG_X6_19 (Nat.le_of_ble_eq_true rfl) me_k52 me_f52_1 dX6_read_2 ?_
  refine me_aload_n X (i := 0) 0 rfl dX6_read_5 ?_
  refine me_iconst X dX6_read_6 ic_0 ?_
  refine me_puti X kG_X6_22 (Nat.le_of_ble_eq_true rfl) me_k52 me_f52_2 dX6_read_7 ?_
  refine me_aload_n X (i := 0) 0 rfl dX6_read_10 ?_
  refine me_iconst X dX6_read_11 ic_0 ?_
  refine me_puti X kG_X6_25 (Nat.le_of_ble_eq_true rfl) me_k52 me_f52_3 dX6_read_12 ?_
  refine me_aload_n X (i := 0) 0 rfl dX6_read_15 ?_
  refine me_iconst X dX6_read_16 ic_m1 ?_
  refine me_puti X kG_X6_15 (Nat.le_of_ble_eq_true rfl) me_k52 me_f52_4 dX6_read_17 ?_
  refine me_aload_n X (i := 2) 2 rfl dX6_read_20 ?_
  refine me_iconst X dX6_read_21 ic_0 ?_
  refine me_puti X kG_X6_28 (Nat.le_of_ble_eq_true rfl) me_k58 me_f58_4 dX6_read_22 ?_
  refine me_aload_n X (i := 0) 0 rfl dX6_read_25 ?_
  obtain ⟨M1, e1, h⟩ := me_bd h
  refine me_callVv X [] (ctX6_skipBlanks_52 hn (Nat.le_trans (by decide) hnt) e1) kV_X6_33 rfl rfl (Nat.le_of_ble_eq_true rfl) me_k52 (Nat.le_of_ble_eq_true rfl) (Nat.le_refl _) (Nat.le_of_ble_eq_true rfl) dX6_read_26 ?_
  refine me_iconst X dX6_read_29 ic_0 ?_
  refine me_istore_n X (i := 3) [(3, .int 0), (0, .ref (ad 52)), (1, .int p0), (2, .ref (ad 58))] (Nat.le_of_ble_eq_true rfl) rfl dX6_read_30 ?_
  obtain ⟨M5, hq1, h⟩ := me_bd h
  have hx1 : me_W p l e R s m args below meth c 0 0 (MQ below (me_Qc D cA ad n A none M') args s 0 0 A) D cA ad n 4 A 70 [(0, .ref (ad 52)), (2, .ref (ad 58))] [] M5 := by
    refine me_aload_n X (i := 0) 0 rfl dX6_read_70 ?_
    refine me_geti X kF_X6_25 (Nat.le_of_ble_eq_true rfl) me_k52 me_f52_3 dX6_read_71 ?_
    refine me_if_ne X 90 (by decide) dX6_read_74 (fun c4 => ?_) (fun c4 => ?_)
    · have h := me_in c4 h
      obtain rfl := me_so h
      exact me_vret X hr hlk dX6_read_90
    · have h := me_ip c4 h
      refine me_aload_n X (i := 2) 1 rfl dX6_read_77 ?_
      refine me_geti X kF_X6_28 (Nat.le_of_ble_eq_true rfl) me_k58 me_f58_4 dX6_read_78 ?_
      refine me_if_ne X 90 (by decide) dX6_read_81 (fun c5 => ?_) (fun c5 => ?_)
      · have h := me_in c5 h
        obtain rfl := me_so h
        exact me_vret X hr hlk dX6_read_90
      · have h := me_ip c5 h
        refine me_aload_n X (i := 0) 0 rfl dX6_read_84 ?_
        refine me_iconst X dX6_read_85 ic_1 ?_
        obtain ⟨⟨v4, M6⟩, e4, h⟩ := me_bd h
        refine me_callVi X [.int 1] (ctX6_fail_52 hn (Nat.le_trans (by decide) hnt) e4) kV_X6_40 rfl rfl (Nat.le_of_ble_eq_true rfl) me_k52 (Nat.le_of_ble_eq_true rfl) (Nat.le_refl _) (Nat.le_of_ble_eq_true rfl) dX6_read_86 ?_
        refine me_pop X rfl dX6_read_89 ?_
        obtain rfl := me_so h
        exact me_vret X hr hlk dX6_read_90
  refine me_sub (L' := [(0, .ref (ad 52)), (2, .ref (ad 58)), (3, .int 0)]) [1, 3, 0] rfl ?_
  refine me_l_W (b := mX6_read_52_58_L31) (P := fun w => me_W p l e R s m args below meth c 0 0 (MQ below (me_Qc D cA ad n A none M') args s 0 0 A) D cA ad n 4 A 31 [(0, .ref (ad 52)), (2, .ref (ad 58)), (3, .int w.1)] [] w.2) (r := M5) ?_ me_fu (0, M1) hq1
  rintro ⟨x3_1, M2⟩ z1 h hb1 - hr1
  unfold mX6_read_52_58_L31 at h
  refine me_iload_n X (i := 3) 2 rfl dX6_read_31 ?_
  refine me_bipush X dX6_read_32 ib_8 ?_
  refine me_icmp_gt X 70 (by decide) dX6_read_34 (fun c1 => ?_) (fun c1 => ?_)
  · have h := me_ip c1 h
    obtain rfl := me_so h
    have q := hr1 _ rfl
    refine me_sub (L' := [(0, .ref (ad 52)), (2, .ref (ad 58))]) [0, 1] rfl ?_
    cases q
    exact hx1
  · have h := me_in c1 h
    refine me_aload_n X (i := 0) 0 rfl dX6_read_37 ?_
    refine me_geti X kF_X6_22 (Nat.le_of_ble_eq_true rfl) me_k52 me_f52_2 dX6_read_38 ?_
    refine me_aload_n X (i := 0) 0 rfl dX6_read_41 ?_
    refine me_geti X kF_X6_19 (Nat.le_of_ble_eq_true rfl) me_k52 me_f52_1 dX6_read_42 ?_
    refine me_icmp_ge X 70 (by decide) dX6_read_45 (fun c2 => ?_) (fun c2 => ?_)
    · have h := me_ip c2 h
      obtain rfl := me_so h
      have q := hr1 _ rfl
      refine me_sub (L' := [(0, .ref (ad 52)), (2, .ref (ad 58))]) [0, 1] rfl ?_
      cases q
      exact hx1
    · have h := me_in c2 h
      refine me_aload_n X (i := 0) 0 rfl dX6_read_48 ?_
      refine me_geti X kF_X6_25 (Nat.le_of_ble_eq_true rfl) me_k52 me_f52_3 dX6_read_49 ?_
      refine me_if_ne X 70 (by decide) dX6_read_52 (fun c3 => ?_) (fun c3 => ?_)
      · have h := me_in c3 h
        obtain rfl := me_so h
        have q := hr1 _ rfl
        refine me_sub (L' := [(0, .ref (ad 52)), (2, .ref (ad 58))]) [0, 1] rfl ?_
        cases q
        exact hx1
      · have h := me_ip c3 h
        refine me_aload_n X (i := 0) 0 rfl dX6_read_55 ?_
        refine me_aload_n X (i := 2) 1 rfl dX6_read_56 ?_
        obtain ⟨M3, e2, h⟩ := me_bd h
        refine me_callVv X [.ref (ad 58)] (ctX6_readSearch_52_58 hn (Nat.le_trans (by decide) hnt) e2) kV_X6_36 rfl rfl (Nat.le_of_ble_eq_true rfl) me_k52 (Nat.le_of_ble_eq_true rfl) (Nat.le_refl _) (Nat.le_of_ble_eq_true rfl) dX6_read_57 ?_
        refine me_aload_n X (i := 0) 0 rfl dX6_read_60 ?_
        obtain ⟨M4, e3, h⟩ := me_bd h
        refine me_callVv X [] (ctX6_skipBlanks_52 hn (Nat.le_trans (by decide) hnt) e3) kV_X6_33 rfl rfl (Nat.le_of_ble_eq_true rfl) me_k52 (Nat.le_of_ble_eq_true rfl) (Nat.le_refl _) (Nat.le_of_ble_eq_true rfl) dX6_read_61 ?_
        refine me_iinc X (v := (x3_1 + 1)) 2 rfl (in_1 _) [(3, .int (x3_1 + 1)), (0, .ref (ad 52)), (2, .ref (ad 58))] (Nat.le_of_ble_eq_true rfl) rfl dX6_read_64 ?_
        refine me_goto X 31 (by decide) dX6_read_67 ?_
        obtain rfl := me_so h
        refine me_sub (L' := [(0, .ref (ad 52)), (2, .ref (ad 58)), (3, .int (x3_1 + 1))]) [1, 2, 0] rfl ?_
        exact hb1 ((x3_1 + 1), M4) rfl
def mX11_index_0 (M : me_M)  : Option me_M :=
  ((mX10_survey_3 M).bind fun M1 => ((mX4_arrange_9 M1 (M1.1 3 5)).bind fun M2 => ((mX4_arrange_14 M2 (M2.1 3 5)).bind fun M3 => ((mX2_listMaximals_26 M3).bind fun M4 => ((mX0_empty_19 M4).bind fun M5 => some M5)))))
set_option maxRecDepth 100000 in
set_option maxHeartbeats 4000000 in
theorem ctX11_index_0 {l : Launch} {n nt : Nat} (hn : 63 ≤ n) (hnt : 1 ≤ nt) {M : me_M} {M' : me_M} (h : mX11_index_0 M = some M') : me_Ct l yX11_index cX11_index 1 none 5 n nt (fun ad => [.ref (ad 0)]) M (fun _ => none) M' := by
  unfold mX11_index_0 at h
  refine me_enter (N0 := 63) RX11 rfl (plainFor_of_name pl_RX11) hn (Nat.le_trans (by decide) hnt) (fun _ => Nat.le_of_ble_eq_true rfl) ?_
  intro p e R s m args below meth c D cA ad tys A X hr hlk
  refine me_sub (L' := [(0, .ref (ad 0))]) [0] rfl ?_
  refine me_aload_n X (i := 0) 0 rfl dX11_index_0 ?_
  refine me_getr X 3 kF_X11_19 (Nat.le_of_ble_eq_true rfl) me_k0 me_f0_1 dX11_index_1 ?_
  obtain ⟨M1, e1, h⟩ := me_bd h
  refine me_callVv X [] (ctX10_survey_3 hn (Nat.le_trans (by decide) hnt) e1) kV_X11_424 rfl rfl (Nat.le_of_ble_eq_true rfl) me_k3 (Nat.le_of_ble_eq_true rfl) (Nat.le_refl _) (Nat.le_of_ble_eq_true rfl) dX11_index_4 ?_
  refine me_aload_n X (i := 0) 0 rfl dX11_index_7 ?_
  refine me_getr X 9 kF_X11_32 (Nat.le_of_ble_eq_true rfl) me_k0 me_f0_2 dX11_index_8 ?_
  refine me_aload_n X (i := 0) 0 rfl dX11_index_11 ?_
  refine me_getr X 3 kF_X11_19 (Nat.le_of_ble_eq_true rfl) me_k0 me_f0_1 dX11_index_12 ?_
  refine me_geti X kF_X11_176 (Nat.le_of_ble_eq_true rfl) me_k3 me_f3_5 dX11_index_15 ?_
  obtain ⟨M2, e2, h⟩ := me_bd h
  refine me_callVv X [.int (M1.1 3 5)] (ctX4_arrange_9 hn (Nat.le_trans (by decide) hnt) e2) kV_X11_427 rfl rfl (Nat.le_of_ble_eq_true rfl) me_k9 (Nat.le_of_ble_eq_true rfl) (Nat.le_refl _) (Nat.le_of_ble_eq_true rfl) dX11_index_18 ?_
  refine me_aload_n X (i := 0) 0 rfl dX11_index_21 ?_
  refine me_getr X 14 kF_X11_39 (Nat.le_of_ble_eq_true rfl) me_k0 me_f0_3 dX11_index_22 ?_
  refine me_aload_n X (i := 0) 0 rfl dX11_index_25 ?_
  refine me_getr X 3 kF_X11_19 (Nat.le_of_ble_eq_true rfl) me_k0 me_f0_1 dX11_index_26 ?_
  refine me_geti X kF_X11_176 (Nat.le_of_ble_eq_true rfl) me_k3 me_f3_5 dX11_index_29 ?_
  obtain ⟨M3, e3, h⟩ := me_bd h
  refine me_callVv X [.int (M2.1 3 5)] (ctX4_arrange_14 hn (Nat.le_trans (by decide) hnt) e3) kV_X11_427 rfl rfl (Nat.le_of_ble_eq_true rfl) me_k14 (Nat.le_of_ble_eq_true rfl) (Nat.le_refl _) (Nat.le_of_ble_eq_true rfl) dX11_index_32 ?_
  refine me_aload_n X (i := 0) 0 rfl dX11_index_35 ?_
  refine me_getr X 26 kF_X11_56 (Nat.le_of_ble_eq_true rfl) me_k0 me_f0_5 dX11_index_36 ?_
  obtain ⟨M4, e4, h⟩ := me_bd h
  refine me_callVv X [] (ctX2_listMaximals_26 hn (Nat.le_trans (by decide) hnt) e4) kV_X11_430 rfl rfl (Nat.le_of_ble_eq_true rfl) me_k26 (Nat.le_of_ble_eq_true rfl) (Nat.le_refl _) (Nat.le_of_ble_eq_true rfl) dX11_index_39 ?_
  refine me_aload_n X (i := 0) 0 rfl dX11_index_42 ?_
  refine me_getr X 19 kF_X11_47 (Nat.le_of_ble_eq_true rfl) me_k0 me_f0_4 dX11_index_43 ?_
  obtain ⟨M5, e5, h⟩ := me_bd h
  refine me_callVv X [] (ctX0_empty_19 hn (Nat.le_trans (by decide) hnt) e5) kV_X11_173 rfl rfl (Nat.le_of_ble_eq_true rfl) me_k19 (Nat.le_of_ble_eq_true rfl) (Nat.le_refl _) (Nat.le_of_ble_eq_true rfl) dX11_index_46 ?_
  obtain rfl := me_so h
  exact me_vret X hr hlk dX11_index_49
def mX11_isPlace_0 (M : me_M) (p0 : Int32) : Option Int32 :=
  (if p0 < 0 then some 0 else (if (M.1 3 5) < p0 then some 0 else some 1))
set_option maxRecDepth 100000 in
set_option maxHeartbeats 4000000 in
theorem ctX11_isPlace_0 {l : Launch} {n nt : Nat} (hn : 63 ≤ n) (hnt : 1 ≤ nt) {M : me_M} {p0 : Int32} {r : Int32} (h : mX11_isPlace_0 M p0 = some r) : me_Ct l yX11_isPlace cX11_isPlace 2 (some .boolean) 0 n nt (fun ad => [.ref (ad 0), .int p0]) M (fun _ => some (.int r)) M := by
  unfold mX11_isPlace_0 at h
  refine me_enter (N0 := 63) RX11 rfl (plainFor_of_name pl_RX11) hn (Nat.le_trans (by decide) hnt) (fun _ => Nat.le_of_ble_eq_true rfl) ?_
  intro p e R s m args below meth c D cA ad tys A X hr hlk
  refine me_sub (L' := [(0, .ref (ad 0)), (1, .int p0)]) [0, 1] rfl ?_
  refine me_iload_n X (i := 1) 1 rfl dX11_isPlace_0 ?_
  refine me_if_lt X 19 (by decide) dX11_isPlace_1 (fun c1 => ?_) (fun c1 => ?_)
  · have h := me_ip c1 h
    refine me_iconst X dX11_isPlace_19 ic_0 ?_
    obtain rfl := me_so h
    exact me_zret X (by decide) hr hlk dX11_isPlace_20
  · have h := me_in c1 h
    refine me_iload_n X (i := 1) 1 rfl dX11_isPlace_4 ?_
    refine me_aload_n X (i := 0) 0 rfl dX11_isPlace_5 ?_
    refine me_getr X 3 kF_X11_19 (Nat.le_of_ble_eq_true rfl) me_k0 me_f0_1 dX11_isPlace_6 ?_
    refine me_geti X kF_X11_176 (Nat.le_of_ble_eq_true rfl) me_k3 me_f3_5 dX11_isPlace_9 ?_
    refine me_icmp_gt X 19 (by decide) dX11_isPlace_12 (fun c2 => ?_) (fun c2 => ?_)
    · have h := me_ip c2 h
      refine me_iconst X dX11_isPlace_19 ic_0 ?_
      obtain rfl := me_so h
      exact me_zret X (by decide) hr hlk dX11_isPlace_20
    · have h := me_in c2 h
      refine me_iconst X dX11_isPlace_15 ic_1 ?_
      refine me_goto X 20 (by decide) dX11_isPlace_16 ?_
      obtain rfl := me_so h
      exact me_zret X (by decide) hr hlk dX11_isPlace_20
def mX11_isSearch_0 (M : me_M) (p0 : Int32) : Option Int32 :=
  (if p0 < 0 then some 0 else (if M.2.1 0 = 53 then (if (M.1 53 4) ≤ p0 then some 0 else some 1) else if M.2.1 0 = 58 then (if (M.1 58 4) ≤ p0 then some 0 else some 1) else none))
set_option maxRecDepth 100000 in
set_option maxHeartbeats 4000000 in
theorem ctX11_isSearch_0 {l : Launch} {n nt : Nat} (hn : 63 ≤ n) (hnt : 1 ≤ nt) {M : me_M} {p0 : Int32} {r : Int32} (h : mX11_isSearch_0 M p0 = some r) : me_Ct l yX11_isSearch cX11_isSearch 2 (some .boolean) 0 n nt (fun ad => [.ref (ad 0), .int p0]) M (fun _ => some (.int r)) M := by
  unfold mX11_isSearch_0 at h
  refine me_enter (N0 := 63) RX11 rfl (plainFor_of_name pl_RX11) hn (Nat.le_trans (by decide) hnt) (fun _ => Nat.le_of_ble_eq_true rfl) ?_
  intro p e R s m args below meth c D cA ad tys A X hr hlk
  refine me_sub (L' := [(0, .ref (ad 0)), (1, .int p0)]) [0, 1] rfl ?_
  refine me_iload_n X (i := 1) 1 rfl dX11_isSearch_0 ?_
  refine me_if_lt X 19 (by decide) dX11_isSearch_1 (fun c1 => ?_) (fun c1 => ?_)
  · have h := me_ip c1 h
    refine me_iconst X dX11_isSearch_19 ic_0 ?_
    obtain rfl := me_so h
    exact me_zret X (by decide) hr hlk dX11_isSearch_20
  · have h := me_in c1 h
    refine me_iload_n X (i := 1) 1 rfl dX11_isSearch_4 ?_
    refine me_aload_n X (i := 0) 0 rfl dX11_isSearch_5 ?_
    by_cases c2 : M.2.1 0 = 53
    · have h := me_ip c2 h
      refine me_getd0 X c2 kF_X11_97 (Nat.le_of_ble_eq_true rfl) me_k0 me_f0_10 dX11_isSearch_6 ?_
      refine me_geti X kF_X11_148 (Nat.le_of_ble_eq_true rfl) me_k53 me_f53_4 dX11_isSearch_9 ?_
      refine me_icmp_ge X 19 (by decide) dX11_isSearch_12 (fun c3 => ?_) (fun c3 => ?_)
      · have h := me_ip c3 h
        refine me_iconst X dX11_isSearch_19 ic_0 ?_
        obtain rfl := me_so h
        exact me_zret X (by decide) hr hlk dX11_isSearch_20
      · have h := me_in c3 h
        refine me_iconst X dX11_isSearch_15 ic_1 ?_
        refine me_goto X 20 (by decide) dX11_isSearch_16 ?_
        obtain rfl := me_so h
        exact me_zret X (by decide) hr hlk dX11_isSearch_20
    · have h := me_in c2 h
      by_cases c2b : M.2.1 0 = 58
      · have h := me_ip c2b h
        refine me_getd0 X c2b kF_X11_97 (Nat.le_of_ble_eq_true rfl) me_k0 me_f0_10 dX11_isSearch_6 ?_
        refine me_geti X kF_X11_148 (Nat.le_of_ble_eq_true rfl) me_k58 me_f58_4 dX11_isSearch_9 ?_
        refine me_icmp_ge X 19 (by decide) dX11_isSearch_12 (fun c4 => ?_) (fun c4 => ?_)
        · have h := me_ip c4 h
          refine me_iconst X dX11_isSearch_19 ic_0 ?_
          obtain rfl := me_so h
          exact me_zret X (by decide) hr hlk dX11_isSearch_20
        · have h := me_in c4 h
          refine me_iconst X dX11_isSearch_15 ic_1 ?_
          refine me_goto X 20 (by decide) dX11_isSearch_16 ?_
          obtain rfl := me_so h
          exact me_zret X (by decide) hr hlk dX11_isSearch_20
      · have h := me_in c2b h
        cases h
def mX11_rowsOf_0 (M : me_M) (p0 : Int32) : Option Nat :=
  (if p0 = 0 then some 9 else some 14)
set_option maxRecDepth 100000 in
set_option maxHeartbeats 4000000 in
theorem ctX11_rowsOf_0 {l : Launch} {n nt : Nat} (hn : 63 ≤ n) (hnt : 1 ≤ nt) {M : me_M} {p0 : Int32} {r : Nat} (h : mX11_rowsOf_0 M p0 = some r) : me_Ct l yX11_rowsOf cX11_rowsOf 2 (some (.object "BothEnds$Rows")) 0 n nt (fun ad => [.ref (ad 0), .int p0]) M (fun ad => some (.ref (ad r))) M := by
  unfold mX11_rowsOf_0 at h
  refine me_enter (N0 := 63) RX11 rfl (plainFor_of_name pl_RX11) hn (Nat.le_trans (by decide) hnt) (fun _ => Nat.le_of_ble_eq_true rfl) ?_
  intro p e R s m args below meth c D cA ad tys A X hr hlk
  refine me_sub (L' := [(0, .ref (ad 0)), (1, .int p0)]) [0, 1] rfl ?_
  refine me_iload_n X (i := 1) 1 rfl dX11_rowsOf_0 ?_
  refine me_if_ne X 11 (by decide) dX11_rowsOf_1 (fun c1 => ?_) (fun c1 => ?_)
  · have h := me_in c1 h
    refine me_aload_n X (i := 0) 0 rfl dX11_rowsOf_11 ?_
    refine me_getr X 14 kF_X11_39 (Nat.le_of_ble_eq_true rfl) me_k0 me_f0_3 dX11_rowsOf_12 ?_
    obtain rfl := me_so h
    exact me_aret X hr hlk dX11_rowsOf_15
  · have h := me_ip c1 h
    refine me_aload_n X (i := 0) 0 rfl dX11_rowsOf_4 ?_
    refine me_getr X 9 kF_X11_32 (Nat.le_of_ble_eq_true rfl) me_k0 me_f0_2 dX11_rowsOf_5 ?_
    refine me_goto X 15 (by decide) dX11_rowsOf_8 ?_
    obtain rfl := me_so h
    exact me_aret X hr hlk dX11_rowsOf_15
def mX11_isHit_0 (M : me_M) (p0 : Int32) : Option Int32 :=
  ((me_r M 11 241 p0).bind fun v1 => ((mX0_lowForth_19 M).bind fun v2 => (if (v1 - v2) < 0 then some 0 else ((mX0_size_19 M).bind fun v3 => (if v3 ≤ (v1 - v2) then some 0 else some 1)))))
set_option maxRecDepth 100000 in
set_option maxHeartbeats 4000000 in
theorem ctX11_isHit_0 {l : Launch} {n nt : Nat} (hn : 63 ≤ n) (hnt : 1 ≤ nt) {M : me_M} {p0 : Int32} {r : Int32} (h : mX11_isHit_0 M p0 = some r) : me_Ct l yX11_isHit cX11_isHit 3 (some .boolean) 1 n nt (fun ad => [.ref (ad 0), .int p0]) M (fun _ => some (.int r)) M := by
  unfold mX11_isHit_0 at h
  refine me_enter (N0 := 63) RX11 rfl (plainFor_of_name pl_RX11) hn (Nat.le_trans (by decide) hnt) (fun _ => Nat.le_of_ble_eq_true rfl) ?_
  intro p e R s m args below meth c D cA ad tys A X hr hlk
  refine me_sub (L' := [(0, .ref (ad 0)), (1, .int p0)]) [0, 1] rfl ?_
  refine me_aload_n X (i := 0) 0 rfl dX11_isHit_0 ?_
  refine me_getr X 9 kF_X11_32 (Nat.le_of_ble_eq_true rfl) me_k0 me_f0_2 dX11_isHit_1 ?_
  refine me_getr X 11 kF_X11_232 (Nat.le_of_ble_eq_true rfl) me_k9 me_f9_2 dX11_isHit_4 ?_
  refine me_iload_n X (i := 1) 1 rfl dX11_isHit_7 ?_
  obtain ⟨v1, e1, h⟩ := me_bd h
  refine me_iald X (Nat.le_of_ble_eq_true rfl) me_k11 e1 dX11_isHit_8 ?_
  refine me_aload_n X (i := 0) 0 rfl dX11_isHit_9 ?_
  refine me_getr X 19 kF_X11_47 (Nat.le_of_ble_eq_true rfl) me_k0 me_f0_4 dX11_isHit_10 ?_
  obtain ⟨v2, e2, h⟩ := me_bd h
  refine me_callVi X [] (ctX0_lowForth_19 hn (Nat.le_trans (by decide) hnt) e2) kV_X11_188 rfl rfl (Nat.le_of_ble_eq_true rfl) me_k19 (Nat.le_of_ble_eq_true rfl) (Nat.le_refl _) (Nat.le_of_ble_eq_true rfl) dX11_isHit_13 ?_
  refine me_isub X dX11_isHit_16 ?_
  refine me_istore_n X (i := 2) [(2, .int (v1 - v2)), (0, .ref (ad 0)), (1, .int p0)] (Nat.le_of_ble_eq_true rfl) rfl dX11_isHit_17 ?_
  refine me_iload_n X (i := 2) 0 rfl dX11_isHit_18 ?_
  refine me_if_lt X 37 (by decide) dX11_isHit_19 (fun c1 => ?_) (fun c1 => ?_)
  · have h := me_ip c1 h
    refine me_iconst X dX11_isHit_37 ic_0 ?_
    obtain rfl := me_so h
    exact me_zret X (by decide) hr hlk dX11_isHit_38
  · have h := me_in c1 h
    refine me_iload_n X (i := 2) 0 rfl dX11_isHit_22 ?_
    refine me_aload_n X (i := 0) 1 rfl dX11_isHit_23 ?_
    refine me_getr X 19 kF_X11_47 (Nat.le_of_ble_eq_true rfl) me_k0 me_f0_4 dX11_isHit_24 ?_
    obtain ⟨v3, e3, h⟩ := me_bd h
    refine me_callVi X [] (ctX0_size_19 hn (Nat.le_trans (by decide) hnt) e3) kV_X11_194 rfl rfl (Nat.le_of_ble_eq_true rfl) me_k19 (Nat.le_of_ble_eq_true rfl) (Nat.le_refl _) (Nat.le_of_ble_eq_true rfl) dX11_isHit_27 ?_
    refine me_icmp_ge X 37 (by decide) dX11_isHit_30 (fun c2 => ?_) (fun c2 => ?_)
    · have h := me_ip c2 h
      refine me_iconst X dX11_isHit_37 ic_0 ?_
      obtain rfl := me_so h
      exact me_zret X (by decide) hr hlk dX11_isHit_38
    · have h := me_in c2 h
      refine me_iconst X dX11_isHit_33 ic_1 ?_
      refine me_goto X 38 (by decide) dX11_isHit_34 ?_
      obtain rfl := me_so h
      exact me_zret X (by decide) hr hlk dX11_isHit_38
def mX11_nextHit_0_L2 (M : me_M) : (Int32) → Option ((Int32) ⊕ ((Unit) ⊕ Int32))
  | x2_1 => (if (M.1 3 5) < x2_1 then some (.inr (.inl ())) else ((mX11_isHit_0 M x2_1).bind fun v1 => (if v1 = 0 then some (.inl (x2_1 + 1)) else some (.inr (.inr x2_1)))))
def mX11_nextHit_0 (M : me_M) (p0 : Int32) : Option Int32 :=
  ((me_l (mX11_nextHit_0_L2 M) me_fu p0).bind fun o => Sum.elim (fun _ => some (-1)) (fun res => some res) o)
set_option maxRecDepth 100000 in
set_option maxHeartbeats 4000000 in
theorem ctX11_nextHit_0 {l : Launch} {n nt : Nat} (hn : 63 ≤ n) (hnt : 1 ≤ nt) {M : me_M} {p0 : Int32} {r : Int32} (h : mX11_nextHit_0 M p0 = some r) : me_Ct l yX11_nextHit cX11_nextHit 3 (some .int) 2 n nt (fun ad => [.ref (ad 0), .int p0]) M (fun _ => some (.int r)) M := by
  unfold mX11_nextHit_0 at h
  refine me_enter (N0 := 63) RX11 rfl (plainFor_of_name pl_RX11) hn (Nat.le_trans (by decide) hnt) (fun _ => Nat.le_of_ble_eq_true rfl) ?_
  intro p e R s m args below meth c D cA ad tys A X hr hlk
  refine me_sub (L' := [(0, .ref (ad 0)), (1, .int p0)]) [0, 1] rfl ?_
  refine me_iload_n X (i := 1) 1 rfl dX11_nextHit_0 ?_
  refine me_istore_n X (i := 2) [(2, .int p0), (0, .ref (ad 0)), (1, .int p0)] (Nat.le_of_ble_eq_true rfl) rfl dX11_nextHit_1 ?_
  obtain ⟨o0, hq1l, hq1⟩ := me_bd h
  have hx1 : o0 = .inl () → me_W p l e R s m args below meth c 0 0 (MQ below (me_Qc D cA ad n A (some (.int r)) M) args s 0 0 A) D cA ad n 3 A 29 [] [] M := by
    intro q
    subst q
    have h := me_el hq1
    refine me_iconst X dX11_nextHit_29 ic_m1 ?_
    obtain rfl := me_so h
    exact me_iret X hr hlk dX11_nextHit_30
  refine me_sub (L' := [(0, .ref (ad 0)), (2, .int p0)]) [1, 0] rfl ?_
  refine me_l_W (b := (mX11_nextHit_0_L2 M)) (P := fun w => me_W p l e R s m args below meth c 0 0 (MQ below (me_Qc D cA ad n A (some (.int r)) M) args s 0 0 A) D cA ad n 3 A 2 [(0, .ref (ad 0)), (2, .int w)] [] M) (r := o0) ?_ me_fu p0 hq1l
  rintro x2_1 z1 h hb1 - hr1
  unfold mX11_nextHit_0_L2 at h
  refine me_iload_n X (i := 2) 1 rfl dX11_nextHit_2 ?_
  refine me_aload_n X (i := 0) 0 rfl dX11_nextHit_3 ?_
  refine me_getr X 3 kF_X11_19 (Nat.le_of_ble_eq_true rfl) me_k0 me_f0_1 dX11_nextHit_4 ?_
  refine me_geti X kF_X11_176 (Nat.le_of_ble_eq_true rfl) me_k3 me_f3_5 dX11_nextHit_7 ?_
  refine me_icmp_gt X 29 (by decide) dX11_nextHit_10 (fun c1 => ?_) (fun c1 => ?_)
  · have h := me_ip c1 h
    obtain rfl := me_so h
    have q := hr1 _ rfl
    refine me_sub (L' := []) [] rfl ?_
    subst q
    exact hx1 rfl
  · have h := me_in c1 h
    refine me_aload_n X (i := 0) 0 rfl dX11_nextHit_13 ?_
    refine me_iload_n X (i := 2) 1 rfl dX11_nextHit_14 ?_
    obtain ⟨v1, e1, h⟩ := me_bd h
    refine me_callVi X [.int x2_1] (ctX11_isHit_0 hn (Nat.le_trans (by decide) hnt) e1) kV_X11_450 rfl rfl (Nat.le_of_ble_eq_true rfl) me_k0 (Nat.le_of_ble_eq_true rfl) (Nat.le_refl _) (Nat.le_of_ble_eq_true rfl) dX11_nextHit_15 ?_
    refine me_if_eq X 23 (by decide) dX11_nextHit_18 (fun c2 => ?_) (fun c2 => ?_)
    · have h := me_ip c2 h
      refine me_iinc X (v := (x2_1 + 1)) 1 rfl (in_1 _) [(2, .int (x2_1 + 1)), (0, .ref (ad 0))] (Nat.le_of_ble_eq_true rfl) rfl dX11_nextHit_23 ?_
      refine me_goto X 2 (by decide) dX11_nextHit_26 ?_
      obtain rfl := me_so h
      refine me_sub (L' := [(0, .ref (ad 0)), (2, .int (x2_1 + 1))]) [1, 0] rfl ?_
      exact hb1 (x2_1 + 1) rfl
    · have h := me_in c2 h
      refine me_iload_n X (i := 2) 1 rfl dX11_nextHit_21 ?_
      obtain rfl := me_so h
      have q := hr1 _ rfl
      subst q
      have h : some x2_1 = some r := hq1
      obtain rfl := me_so h
      exact me_iret X hr hlk dX11_nextHit_22
def mX11_placeOfHit_0_L25 (M : me_M) (p0 : Int32) : (Int32 × Int32) → Option ((Int32 × Int32) ⊕ (Int32))
  | (x2_1, x3_1) => (if p0 ≤ x3_1 then some (.inr x2_1) else (if x2_1 = (-1) then some (.inr x2_1) else ((mX11_nextHit_0 M (x2_1 + 1)).bind fun v3 => some (.inl (v3, (x3_1 + 1))))))
def mX11_placeOfHit_0 (M : me_M) (p0 : Int32) : Option Int32 :=
  (if p0 < 0 then some (-1) else ((mX0_size_19 M).bind fun v1 => (if p0 < v1 then ((mX11_nextHit_0 M 0).bind fun v2 => ((me_l (mX11_placeOfHit_0_L25 M p0) me_fu (v2, 0)).bind fun y2_1 => some y2_1)) else some (-1))))
set_option maxRecDepth 100000 in
set_option maxHeartbeats 4000000 in
theorem ctX11_placeOfHit_0 {l : Launch} {n nt : Nat} (hn : 63 ≤ n) (hnt : 1 ≤ nt) {M : me_M} {p0 : Int32} {r : Int32} (h : mX11_placeOfHit_0 M p0 = some r) : me_Ct l yX11_placeOfHit cX11_placeOfHit 4 (some .int) 3 n nt (fun ad => [.ref (ad 0), .int p0]) M (fun _ => some (.int r)) M := by
  unfold mX11_placeOfHit_0 at h
  refine me_enter (N0 := 63) RX11 rfl (plainFor_of_name pl_RX11) hn (Nat.le_trans (by decide) hnt) (fun _ => Nat.le_of_ble_eq_true rfl) ?_
  intro p e R s m args below meth c D cA ad tys A X hr hlk
  refine me_sub (L' := [(0, .ref (ad 0)), (1, .int p0)]) [0, 1] rfl ?_
  refine me_iload_n X (i := 1) 1 rfl dX11_placeOfHit_0 ?_
  refine me_if_lt X 15 (by decide) dX11_placeOfHit_1 (fun c1 => ?_) (fun c1 => ?_)
  · have h := me_ip c1 h
    refine me_iconst X dX11_placeOfHit_15 ic_m1 ?_
    obtain rfl := me_so h
    exact me_iret X hr hlk dX11_placeOfHit_16
  · have h := me_in c1 h
    refine me_iload_n X (i := 1) 1 rfl dX11_placeOfHit_4 ?_
    refine me_aload_n X (i := 0) 0 rfl dX11_placeOfHit_5 ?_
    refine me_getr X 19 kF_X11_47 (Nat.le_of_ble_eq_true rfl) me_k0 me_f0_4 dX11_placeOfHit_6 ?_
    obtain ⟨v1, e1, h⟩ := me_bd h
    refine me_callVi X [] (ctX0_size_19 hn (Nat.le_trans (by decide) hnt) e1) kV_X11_194 rfl rfl (Nat.le_of_ble_eq_true rfl) me_k19 (Nat.le_of_ble_eq_true rfl) (Nat.le_refl _) (Nat.le_of_ble_eq_true rfl) dX11_placeOfHit_9 ?_
    refine me_icmp_lt X 17 (by decide) dX11_placeOfHit_12 (fun c2 => ?_) (fun c2 => ?_)
    · have h := me_ip c2 h
      refine me_aload_n X (i := 0) 0 rfl dX11_placeOfHit_17 ?_
      refine me_iconst X dX11_placeOfHit_18 ic_0 ?_
      obtain ⟨v2, e2, h⟩ := me_bd h
      refine me_callVi X [.int 0] (ctX11_nextHit_0 hn (Nat.le_trans (by decide) hnt) e2) kV_X11_453 rfl rfl (Nat.le_of_ble_eq_true rfl) me_k0 (Nat.le_of_ble_eq_true rfl) (Nat.le_refl _) (Nat.le_of_ble_eq_true rfl) dX11_placeOfHit_19 ?_
      refine me_istore_n X (i := 2) [(2, .int v2), (0, .ref (ad 0)), (1, .int p0)] (Nat.le_of_ble_eq_true rfl) rfl dX11_placeOfHit_22 ?_
      refine me_iconst X dX11_placeOfHit_23 ic_0 ?_
      refine me_istore_n X (i := 3) [(3, .int 0), (2, .int v2), (0, .ref (ad 0)), (1, .int p0)] (Nat.le_of_ble_eq_true rfl) rfl dX11_placeOfHit_24 ?_
      obtain ⟨y2_1, hq1, h⟩ := me_bd h
      have hx1 : me_W p l e R s m args below meth c 0 0 (MQ below (me_Qc D cA ad n A (some (.int r)) M) args s 0 0 A) D cA ad n 4 A 49 [(2, .int y2_1)] [] M := by
        refine me_iload_n X (i := 2) 0 rfl dX11_placeOfHit_49 ?_
        obtain rfl := me_so h
        exact me_iret X hr hlk dX11_placeOfHit_50
      refine me_sub (L' := [(0, .ref (ad 0)), (1, .int p0), (2, .int v2), (3, .int 0)]) [2, 3, 1, 0] rfl ?_
      refine me_l_W (b := (mX11_placeOfHit_0_L25 M p0)) (P := fun w => me_W p l e R s m args below meth c 0 0 (MQ below (me_Qc D cA ad n A (some (.int r)) M) args s 0 0 A) D cA ad n 4 A 25 [(0, .ref (ad 0)), (1, .int p0), (2, .int w.1), (3, .int w.2)] [] M) (r := y2_1) ?_ me_fu (v2, 0) hq1
      rintro ⟨x2_1, x3_1⟩ z1 h hb1 - hr1
      unfold mX11_placeOfHit_0_L25 at h
      refine me_iload_n X (i := 3) 3 rfl dX11_placeOfHit_25 ?_
      refine me_iload_n X (i := 1) 1 rfl dX11_placeOfHit_26 ?_
      refine me_icmp_ge X 49 (by decide) dX11_placeOfHit_27 (fun c3 => ?_) (fun c3 => ?_)
      · have h := me_ip c3 h
        obtain rfl := me_so h
        have q := hr1 _ rfl
        refine me_sub (L' := [(2, .int x2_1)]) [2] rfl ?_
        cases q
        exact hx1
      · have h := me_in c3 h
        refine me_iload_n X (i := 2) 2 rfl dX11_placeOfHit_30 ?_
        refine me_iconst X dX11_placeOfHit_31 ic_m1 ?_
        refine me_icmp_eq X 49 (by decide) dX11_placeOfHit_32 (fun c4 => ?_) (fun c4 => ?_)
        · have h := me_ip c4 h
          obtain rfl := me_so h
          have q := hr1 _ rfl
          refine me_sub (L' := [(2, .int x2_1)]) [2] rfl ?_
          cases q
          exact hx1
        · have h := me_in c4 h
          refine me_aload_n X (i := 0) 0 rfl dX11_placeOfHit_35 ?_
          refine me_iload_n X (i := 2) 2 rfl dX11_placeOfHit_36 ?_
          refine me_iconst X dX11_placeOfHit_37 ic_1 ?_
          refine me_iadd X dX11_placeOfHit_38 ?_
          obtain ⟨v3, e3, h⟩ := me_bd h
          refine me_callVi X [.int (x2_1 + 1)] (ctX11_nextHit_0 hn (Nat.le_trans (by decide) hnt) e3) kV_X11_453 rfl rfl (Nat.le_of_ble_eq_true rfl) me_k0 (Nat.le_of_ble_eq_true rfl) (Nat.le_refl _) (Nat.le_of_ble_eq_true rfl) dX11_placeOfHit_39 ?_
          refine me_istore_n X (i := 2) [(2, .int v3), (0, .ref (ad 0)), (1, .int p0), (3, .int x3_1)] (Nat.le_of_ble_eq_true rfl) rfl dX11_placeOfHit_42 ?_
          refine me_iinc X (v := (x3_1 + 1)) 3 rfl (in_1 _) [(3, .int (x3_1 + 1)), (2, .int v3), (0, .ref (ad 0)), (1, .int p0)] (Nat.le_of_ble_eq_true rfl) rfl dX11_placeOfHit_43 ?_
          refine me_goto X 25 (by decide) dX11_placeOfHit_46 ?_
          obtain rfl := me_so h
          refine me_sub (L' := [(0, .ref (ad 0)), (1, .int p0), (2, .int v3), (3, .int (x3_1 + 1))]) [2, 3, 1, 0] rfl ?_
          exact hb1 (v3, (x3_1 + 1)) rfl
    · have h := me_in c2 h
      refine me_iconst X dX11_placeOfHit_15 ic_m1 ?_
      obtain rfl := me_so h
      exact me_iret X hr hlk dX11_placeOfHit_16
def mX11_hitsIn_0_J50 (p0 : Int32) (x3_1 : Int32) (M : me_M) (x2_2 : Int32) : Option ((Int32 × Int32) ⊕ (Int32)) :=
  some (.inl (x2_2, (x3_1 + 1)))
def mX11_hitsIn_0_L12 (M : me_M) (p0 : Int32) : (Int32 × Int32) → Option ((Int32 × Int32) ⊕ (Int32))
  | (x2_1, x3_1) => (if (M.1 3 5) < x3_1 then some (.inr x2_1) else ((me_r M 7 241 x3_1).bind fun v2 => (if v2 = p0 then ((mX11_isHit_0 M x3_1).bind fun v3 => (if v3 = 0 then (mX11_hitsIn_0_J50 p0 x3_1 M x2_1) else (mX11_hitsIn_0_J50 p0 x3_1 M (x2_1 + 1)))) else some (.inr x2_1))))
def mX11_hitsIn_0 (M : me_M) (p0 : Int32) : Option Int32 :=
  ((me_r M 8 241 p0).bind fun v1 => ((me_l (mX11_hitsIn_0_L12 M p0) me_fu (0, v1)).bind fun y2_1 => some y2_1))
set_option maxRecDepth 100000 in
set_option maxHeartbeats 4000000 in
theorem ctX11_hitsIn_0 {l : Launch} {n nt : Nat} (hn : 63 ≤ n) (hnt : 1 ≤ nt) {M : me_M} {p0 : Int32} {r : Int32} (h : mX11_hitsIn_0 M p0 = some r) : me_Ct l yX11_hitsIn cX11_hitsIn 4 (some .int) 2 n nt (fun ad => [.ref (ad 0), .int p0]) M (fun _ => some (.int r)) M := by
  unfold mX11_hitsIn_0 at h
  refine me_enter (N0 := 63) RX11 rfl (plainFor_of_name pl_RX11) hn (Nat.le_trans (by decide) hnt) (fun _ => Nat.le_of_ble_eq_true rfl) ?_
  intro p e R s m args below meth c D cA ad tys A X hr hlk
  refine me_sub (L' := [(0, .ref (ad 0)), (1, .int p0)]) [0, 1] rfl ?_
  refine me_iconst X dX11_hitsIn_0 ic_0 ?_
  refine me_istore_n X (i := 2) [(2, .int 0), (0, .ref (ad 0)), (1, .int p0)] (Nat.le_of_ble_eq_true rfl) rfl dX11_hitsIn_1 ?_
  refine me_aload_n X (i := 0) 1 rfl dX11_hitsIn_2 ?_
  refine me_getr X 3 kF_X11_19 (Nat.le_of_ble_eq_true rfl) me_k0 me_f0_1 dX11_hitsIn_3 ?_
  refine me_getr X 8 kF_X11_250 (Nat.le_of_ble_eq_true rfl) me_k3 me_f3_4 dX11_hitsIn_6 ?_
  refine me_iload_n X (i := 1) 2 rfl dX11_hitsIn_9 ?_
  obtain ⟨v1, e1, h⟩ := me_bd h
  refine me_iald X (Nat.le_of_ble_eq_true rfl) me_k8 e1 dX11_hitsIn_10 ?_
  refine me_istore_n X (i := 3) [(3, .int v1), (2, .int 0), (0, .ref (ad 0)), (1, .int p0)] (Nat.le_of_ble_eq_true rfl) rfl dX11_hitsIn_11 ?_
  obtain ⟨y2_1, hq1, h⟩ := me_bd h
  have hx1 : me_W p l e R s m args below meth c 0 0 (MQ below (me_Qc D cA ad n A (some (.int r)) M) args s 0 0 A) D cA ad n 4 A 56 [(2, .int y2_1)] [] M := by
    refine me_iload_n X (i := 2) 0 rfl dX11_hitsIn_56 ?_
    obtain rfl := me_so h
    exact me_iret X hr hlk dX11_hitsIn_57
  refine me_sub (L' := [(0, .ref (ad 0)), (1, .int p0), (2, .int 0), (3, .int v1)]) [2, 3, 1, 0] rfl ?_
  refine me_l_W (b := (mX11_hitsIn_0_L12 M p0)) (P := fun w => me_W p l e R s m args below meth c 0 0 (MQ below (me_Qc D cA ad n A (some (.int r)) M) args s 0 0 A) D cA ad n 4 A 12 [(0, .ref (ad 0)), (1, .int p0), (2, .int w.1), (3, .int w.2)] [] M) (r := y2_1) ?_ me_fu (0, v1) hq1
  rintro ⟨x2_1, x3_1⟩ z1 h hb1 - hr1
  unfold mX11_hitsIn_0_L12 at h
  refine me_iload_n X (i := 3) 3 rfl dX11_hitsIn_12 ?_
  refine me_aload_n X (i := 0) 0 rfl dX11_hitsIn_13 ?_
  refine me_getr X 3 kF_X11_19 (Nat.le_of_ble_eq_true rfl) me_k0 me_f0_1 dX11_hitsIn_14 ?_
  refine me_geti X kF_X11_176 (Nat.le_of_ble_eq_true rfl) me_k3 me_f3_5 dX11_hitsIn_17 ?_
  refine me_icmp_gt X 56 (by decide) dX11_hitsIn_20 (fun c1 => ?_) (fun c1 => ?_)
  · have h := me_ip c1 h
    obtain rfl := me_so h
    have q := hr1 _ rfl
    refine me_sub (L' := [(2, .int x2_1)]) [2] rfl ?_
    cases q
    exact hx1
  · have h := me_in c1 h
    refine me_aload_n X (i := 0) 0 rfl dX11_hitsIn_23 ?_
    refine me_getr X 3 kF_X11_19 (Nat.le_of_ble_eq_true rfl) me_k0 me_f0_1 dX11_hitsIn_24 ?_
    refine me_getr X 7 kF_X11_247 (Nat.le_of_ble_eq_true rfl) me_k3 me_f3_3 dX11_hitsIn_27 ?_
    refine me_iload_n X (i := 3) 3 rfl dX11_hitsIn_30 ?_
    obtain ⟨v2, e2, h⟩ := me_bd h
    refine me_iald X (Nat.le_of_ble_eq_true rfl) me_k7 e2 dX11_hitsIn_31 ?_
    refine me_iload_n X (i := 1) 1 rfl dX11_hitsIn_32 ?_
    refine me_icmp_eq X 39 (by decide) dX11_hitsIn_33 (fun c2 => ?_) (fun c2 => ?_)
    · have h := me_ip c2 h
      refine me_aload_n X (i := 0) 0 rfl dX11_hitsIn_39 ?_
      refine me_iload_n X (i := 3) 3 rfl dX11_hitsIn_40 ?_
      obtain ⟨v3, e3, h⟩ := me_bd h
      refine me_callVi X [.int x3_1] (ctX11_isHit_0 hn (Nat.le_trans (by decide) hnt) e3) kV_X11_450 rfl rfl (Nat.le_of_ble_eq_true rfl) me_k0 (Nat.le_of_ble_eq_true rfl) (Nat.le_refl _) (Nat.le_of_ble_eq_true rfl) dX11_hitsIn_41 ?_
      have hj50_1 : ∀ (x2_2 : Int32), mX11_hitsIn_0_J50 p0 x3_1 M x2_2 = some z1 → me_W p l e R s m args below meth c 0 0 (MQ below (me_Qc D cA ad n A (some (.int r)) M) args s 0 0 A) D cA ad n 4 A 50 [(0, .ref (ad 0)), (1, .int p0), (2, .int x2_2), (3, .int x3_1)] [] M := by
        intro x2_2 h
        unfold mX11_hitsIn_0_J50 at h
        refine me_iinc X (v := (x3_1 + 1)) 3 rfl (in_1 _) [(3, .int (x3_1 + 1)), (0, .ref (ad 0)), (1, .int p0), (2, .int x2_2)] (Nat.le_of_ble_eq_true rfl) rfl dX11_hitsIn_50 ?_
        refine me_goto X 12 (by decide) dX11_hitsIn_53 ?_
        obtain rfl := me_so h
        refine me_sub (L' := [(0, .ref (ad 0)), (1, .int p0), (2, .int x2_2), (3, .int (x3_1 + 1))]) [1, 2, 3, 0] rfl ?_
        exact hb1 (x2_2, (x3_1 + 1)) rfl
      refine me_if_eq X 50 (by decide) dX11_hitsIn_44 (fun c3 => ?_) (fun c3 => ?_)
      · have h := me_ip c3 h
        exact hj50_1 x2_1 h
      · have h := me_in c3 h
        refine me_iinc X (v := (x2_1 + 1)) 2 rfl (in_1 _) [(2, .int (x2_1 + 1)), (0, .ref (ad 0)), (1, .int p0), (3, .int x3_1)] (Nat.le_of_ble_eq_true rfl) rfl dX11_hitsIn_47 ?_
        refine me_sub (L' := [(0, .ref (ad 0)), (1, .int p0), (2, .int (x2_1 + 1)), (3, .int x3_1)]) [1, 2, 0, 3] rfl ?_
        exact hj50_1 (x2_1 + 1) h
    · have h := me_in c2 h
      refine me_goto X 56 (by decide) dX11_hitsIn_36 ?_
      obtain rfl := me_so h
      have q := hr1 _ rfl
      refine me_sub (L' := [(2, .int x2_1)]) [2] rfl ?_
      cases q
      exact hx1
def mX11_documentsHit_0_J26 (x2_1 : Int32) (M : me_M) (x1_2 : Int32) : Option ((Int32 × Int32) ⊕ (Int32)) :=
  some (.inl (x1_2, (x2_1 + 1)))
def mX11_documentsHit_0_L4 (M : me_M) : (Int32 × Int32) → Option ((Int32 × Int32) ⊕ (Int32))
  | (x1_1, x2_1) => (if (M.1 3 6) ≤ x2_1 then some (.inr x1_1) else ((mX11_hitsIn_0 M x2_1).bind fun v1 => (if v1 ≤ 0 then (mX11_documentsHit_0_J26 x2_1 M x1_1) else (mX11_documentsHit_0_J26 x2_1 M (x1_1 + 1)))))
def mX11_documentsHit_0 (M : me_M)  : Option Int32 :=
  ((me_l (mX11_documentsHit_0_L4 M) me_fu (0, 0)).bind fun y1_1 => some y1_1)
set_option maxRecDepth 100000 in
set_option maxHeartbeats 4000000 in
theorem ctX11_documentsHit_0 {l : Launch} {n nt : Nat} (hn : 63 ≤ n) (hnt : 1 ≤ nt) {M : me_M} {r : Int32} (h : mX11_documentsHit_0 M = some r) : me_Ct l yX11_documentsHit cX11_documentsHit 3 (some .int) 3 n nt (fun ad => [.ref (ad 0)]) M (fun _ => some (.int r)) M := by
  unfold mX11_documentsHit_0 at h
  refine me_enter (N0 := 63) RX11 rfl (plainFor_of_name pl_RX11) hn (Nat.le_trans (by decide) hnt) (fun _ => Nat.le_of_ble_eq_true rfl) ?_
  intro p e R s m args below meth c D cA ad tys A X hr hlk
  refine me_sub (L' := [(0, .ref (ad 0))]) [0] rfl ?_
  refine me_iconst X dX11_documentsHit_0 ic_0 ?_
  refine me_istore_n X (i := 1) [(1, .int 0), (0, .ref (ad 0))] (Nat.le_of_ble_eq_true rfl) rfl dX11_documentsHit_1 ?_
  refine me_iconst X dX11_documentsHit_2 ic_0 ?_
  refine me_istore_n X (i := 2) [(2, .int 0), (1, .int 0), (0, .ref (ad 0))] (Nat.le_of_ble_eq_true rfl) rfl dX11_documentsHit_3 ?_
  obtain ⟨y1_1, hq1, h⟩ := me_bd h
  have hx1 : me_W p l e R s m args below meth c 0 0 (MQ below (me_Qc D cA ad n A (some (.int r)) M) args s 0 0 A) D cA ad n 3 A 32 [(1, .int y1_1)] [] M := by
    refine me_iload_n X (i := 1) 0 rfl dX11_documentsHit_32 ?_
    obtain rfl := me_so h
    exact me_iret X hr hlk dX11_documentsHit_33
  refine me_sub (L' := [(0, .ref (ad 0)), (1, .int 0), (2, .int 0)]) [2, 1, 0] rfl ?_
  refine me_l_W (b := (mX11_documentsHit_0_L4 M)) (P := fun w => me_W p l e R s m args below meth c 0 0 (MQ below (me_Qc D cA ad n A (some (.int r)) M) args s 0 0 A) D cA ad n 3 A 4 [(0, .ref (ad 0)), (1, .int w.1), (2, .int w.2)] [] M) (r := y1_1) ?_ me_fu (0, 0) hq1
  rintro ⟨x1_1, x2_1⟩ z1 h hb1 - hr1
  unfold mX11_documentsHit_0_L4 at h
  refine me_iload_n X (i := 2) 2 rfl dX11_documentsHit_4 ?_
  refine me_aload_n X (i := 0) 0 rfl dX11_documentsHit_5 ?_
  refine me_getr X 3 kF_X11_19 (Nat.le_of_ble_eq_true rfl) me_k0 me_f0_1 dX11_documentsHit_6 ?_
  refine me_geti X kF_X11_177 (Nat.le_of_ble_eq_true rfl) me_k3 me_f3_6 dX11_documentsHit_9 ?_
  refine me_icmp_ge X 32 (by decide) dX11_documentsHit_12 (fun c1 => ?_) (fun c1 => ?_)
  · have h := me_ip c1 h
    obtain rfl := me_so h
    have q := hr1 _ rfl
    refine me_sub (L' := [(1, .int x1_1)]) [1] rfl ?_
    cases q
    exact hx1
  · have h := me_in c1 h
    refine me_aload_n X (i := 0) 0 rfl dX11_documentsHit_15 ?_
    refine me_iload_n X (i := 2) 2 rfl dX11_documentsHit_16 ?_
    obtain ⟨v1, e1, h⟩ := me_bd h
    refine me_callVi X [.int x2_1] (ctX11_hitsIn_0 hn (Nat.le_trans (by decide) hnt) e1) kV_X11_410 rfl rfl (Nat.le_of_ble_eq_true rfl) me_k0 (Nat.le_of_ble_eq_true rfl) (Nat.le_refl _) (Nat.le_of_ble_eq_true rfl) dX11_documentsHit_17 ?_
    have hj26_1 : ∀ (x1_2 : Int32), mX11_documentsHit_0_J26 x2_1 M x1_2 = some z1 → me_W p l e R s m args below meth c 0 0 (MQ below (me_Qc D cA ad n A (some (.int r)) M) args s 0 0 A) D cA ad n 3 A 26 [(0, .ref (ad 0)), (1, .int x1_2), (2, .int x2_1)] [] M := by
      intro x1_2 h
      unfold mX11_documentsHit_0_J26 at h
      refine me_iinc X (v := (x2_1 + 1)) 2 rfl (in_1 _) [(2, .int (x2_1 + 1)), (0, .ref (ad 0)), (1, .int x1_2)] (Nat.le_of_ble_eq_true rfl) rfl dX11_documentsHit_26 ?_
      refine me_goto X 4 (by decide) dX11_documentsHit_29 ?_
      obtain rfl := me_so h
      refine me_sub (L' := [(0, .ref (ad 0)), (1, .int x1_2), (2, .int (x2_1 + 1))]) [1, 2, 0] rfl ?_
      exact hb1 (x1_2, (x2_1 + 1)) rfl
    refine me_if_le X 26 (by decide) dX11_documentsHit_20 (fun c2 => ?_) (fun c2 => ?_)
    · have h := me_ip c2 h
      exact hj26_1 x1_1 h
    · have h := me_in c2 h
      refine me_iinc X (v := (x1_1 + 1)) 1 rfl (in_1 _) [(1, .int (x1_1 + 1)), (0, .ref (ad 0)), (2, .int x2_1)] (Nat.le_of_ble_eq_true rfl) rfl dX11_documentsHit_23 ?_
      refine me_sub (L' := [(0, .ref (ad 0)), (1, .int (x1_1 + 1)), (2, .int x2_1)]) [1, 0, 2] rfl ?_
      exact hj26_1 (x1_1 + 1) h
def mX11_gapsBetweenHits_0_J89 (p0 : Int32) (s1 : Int32) (v5 : Int32) (x6_1 : Int32) (v3 : Int32) (x4_1 : Int32) (M : me_M) (s2 : Int32) : Option ((Int32 × Int32 × Int32 × Int32 × Int32) ⊕ (Int32 × Int32 × Int32)) :=
  some (.inl (s1, v5, (x4_1 + s2), v3, (x6_1 + 1)))
def mX11_gapsBetweenHits_0_J62 (p0 : Int32) (x3_1 : Int32) (x4_1 : Int32) (x6_1 : Int32) (v3 : Int32) (M : me_M) (x8_1 : Int32) (s1 : Int32) : Option ((Int32 × Int32 × Int32 × Int32 × Int32) ⊕ (Int32 × Int32 × Int32)) :=
  ((mJ9_max_7cf53 x3_1 x8_1).bind fun v5 => (if (M.1 19 4) ≤ x8_1 then (mX11_gapsBetweenHits_0_J89 p0 s1 v5 x6_1 v3 x4_1 M 0) else (mX11_gapsBetweenHits_0_J89 p0 s1 v5 x6_1 v3 x4_1 M 1)))
def mX11_gapsBetweenHits_0_L17 (M : me_M) (p0 : Int32) : (Int32 × Int32 × Int32 × Int32 × Int32) → Option ((Int32 × Int32 × Int32 × Int32 × Int32) ⊕ (Int32 × Int32 × Int32))
  | (x2_1, x3_1, x4_1, x5_1, x6_1) => ((mX0_size_19 M).bind fun v2 => (if v2 ≤ x6_1 then some (.inr (x2_1, x3_1, x4_1)) else ((mX11_nextHit_0 M (x5_1 + 1)).bind fun v3 => (if x2_1 = (-1) then (mX11_gapsBetweenHits_0_J62 p0 x3_1 x4_1 x6_1 v3 M (v3 - x5_1) (v3 - x5_1)) else ((mJ9_min_7cf53 x2_1 (v3 - x5_1)).bind fun v4 => (mX11_gapsBetweenHits_0_J62 p0 x3_1 x4_1 x6_1 v3 M (v3 - x5_1) v4))))))
def mX11_gapsBetweenHits_0 (M : me_M) (p0 : Int32) : Option Int32 :=
  ((mX11_nextHit_0 M 0).bind fun v1 => ((me_l (mX11_gapsBetweenHits_0_L17 M p0) me_fu ((-1), (-1), 0, v1, 1)).bind fun (y2_1, y3_1, y4_1) => (if p0 = 1 then some y2_1 else (if p0 = 2 then some y3_1 else some y4_1))))
set_option maxRecDepth 100000 in
set_option maxHeartbeats 4000000 in
theorem ctX11_gapsBetweenHits_0 {l : Launch} {n nt : Nat} (hn : 63 ≤ n) (hnt : 1 ≤ nt) {M : me_M} {p0 : Int32} {r : Int32} (h : mX11_gapsBetweenHits_0 M p0 = some r) : me_Ct l yX11_gapsBetweenHits cX11_gapsBetweenHits 9 (some .int) 3 n nt (fun ad => [.ref (ad 0), .int p0]) M (fun _ => some (.int r)) M := by
  unfold mX11_gapsBetweenHits_0 at h
  refine me_enter (N0 := 63) RX11 rfl (plainFor_of_name pl_RX11) hn (Nat.le_trans (by decide) hnt) (fun _ => Nat.le_of_ble_eq_true rfl) ?_
  intro p e R s m args below meth c D cA ad tys A X hr hlk
  refine me_sub (L' := [(0, .ref (ad 0)), (1, .int p0)]) [0, 1] rfl ?_
  refine me_iconst X dX11_gapsBetweenHits_0 ic_m1 ?_
  refine me_istore_n X (i := 2) [(2, .int (-1)), (0, .ref (ad 0)), (1, .int p0)] (Nat.le_of_ble_eq_true rfl) rfl dX11_gapsBetweenHits_1 ?_
  refine me_iconst X dX11_gapsBetweenHits_2 ic_m1 ?_
  refine me_istore_n X (i := 3) [(3, .int (-1)), (2, .int (-1)), (0, .ref (ad 0)), (1, .int p0)] (Nat.le_of_ble_eq_true rfl) rfl dX11_gapsBetweenHits_3 ?_
  refine me_iconst X dX11_gapsBetweenHits_4 ic_0 ?_
  refine me_istore X (i := 4) [(4, .int 0), (3, .int (-1)), (2, .int (-1)), (0, .ref (ad 0)), (1, .int p0)] (Nat.le_of_ble_eq_true rfl) rfl dX11_gapsBetweenHits_5 ?_
  refine me_aload_n X (i := 0) 3 rfl dX11_gapsBetweenHits_7 ?_
  refine me_iconst X dX11_gapsBetweenHits_8 ic_0 ?_
  obtain ⟨v1, e1, h⟩ := me_bd h
  refine me_callVi X [.int 0] (ctX11_nextHit_0 hn (Nat.le_trans (by decide) hnt) e1) kV_X11_453 rfl rfl (Nat.le_of_ble_eq_true rfl) me_k0 (Nat.le_of_ble_eq_true rfl) (Nat.le_refl _) (Nat.le_of_ble_eq_true rfl) dX11_gapsBetweenHits_9 ?_
  refine me_istore X (i := 5) [(5, .int v1), (4, .int 0), (3, .int (-1)), (2, .int (-1)), (0, .ref (ad 0)), (1, .int p0)] (Nat.le_of_ble_eq_true rfl) rfl dX11_gapsBetweenHits_12 ?_
  refine me_iconst X dX11_gapsBetweenHits_14 ic_1 ?_
  refine me_istore X (i := 6) [(6, .int 1), (5, .int v1), (4, .int 0), (3, .int (-1)), (2, .int (-1)), (0, .ref (ad 0)), (1, .int p0)] (Nat.le_of_ble_eq_true rfl) rfl dX11_gapsBetweenHits_15 ?_
  obtain ⟨⟨y2_1, y3_1, y4_1⟩, hq1, h⟩ := me_bd h
  have hx1 : me_W p l e R s m args below meth c 0 0 (MQ below (me_Qc D cA ad n A (some (.int r)) M) args s 0 0 A) D cA ad n 9 A 102 [(1, .int p0), (2, .int y2_1), (3, .int y3_1), (4, .int y4_1)] [] M := by
    refine me_iload_n X (i := 1) 0 rfl dX11_gapsBetweenHits_102 ?_
    by_cases c4 : p0 = 1
    · have h := me_ip c4 h
      refine me_look X (off := 25) 128 (by decide) (by rw [c4] <;> decide) (by decide) dX11_gapsBetweenHits_103 ?_
      refine me_iload_n X (i := 2) 1 rfl dX11_gapsBetweenHits_128 ?_
      obtain rfl := me_so h
      exact me_iret X hr hlk dX11_gapsBetweenHits_129
    · have h := me_in c4 h
      by_cases c5 : p0 = 2
      · have h := me_ip c5 h
        refine me_look X (off := 27) 130 (by decide) (by rw [c5] <;> decide) (by decide) dX11_gapsBetweenHits_103 ?_
        refine me_iload_n X (i := 3) 2 rfl dX11_gapsBetweenHits_130 ?_
        obtain rfl := me_so h
        exact me_iret X hr hlk dX11_gapsBetweenHits_131
      · have h := me_in c5 h
        refine me_look X 132 (off := 29) (by decide) (by show Op.lookupswitch.offset [(1, 25), (2, 27)] 29 _ = _; rw [lv_osw (k := 1) c4 (by decide), lv_osw (k := 2) c5 (by decide)]; rfl) (by decide) dX11_gapsBetweenHits_103 ?_
        refine me_iload X (i := 4) 3 rfl dX11_gapsBetweenHits_132 ?_
        obtain rfl := me_so h
        exact me_iret X hr hlk dX11_gapsBetweenHits_134
  refine me_sub (L' := [(0, .ref (ad 0)), (1, .int p0), (2, .int (-1)), (3, .int (-1)), (4, .int 0), (5, .int v1), (6, .int 1)]) [5, 6, 4, 3, 2, 1, 0] rfl ?_
  refine me_l_W (b := (mX11_gapsBetweenHits_0_L17 M p0)) (P := fun w => me_W p l e R s m args below meth c 0 0 (MQ below (me_Qc D cA ad n A (some (.int r)) M) args s 0 0 A) D cA ad n 9 A 17 [(0, .ref (ad 0)), (1, .int p0), (2, .int w.1), (3, .int w.2.1), (4, .int w.2.2.1), (5, .int w.2.2.2.1), (6, .int w.2.2.2.2)] [] M) (r := (y2_1, y3_1, y4_1)) ?_ me_fu ((-1), (-1), 0, v1, 1) hq1
  rintro ⟨x2_1, x3_1, x4_1, x5_1, x6_1⟩ z1 h hb1 - hr1
  unfold mX11_gapsBetweenHits_0_L17 at h
  refine me_iload X (i := 6) 6 rfl dX11_gapsBetweenHits_17 ?_
  refine me_aload_n X (i := 0) 0 rfl dX11_gapsBetweenHits_19 ?_
  refine me_getr X 19 kF_X11_47 (Nat.le_of_ble_eq_true rfl) me_k0 me_f0_4 dX11_gapsBetweenHits_20 ?_
  obtain ⟨v2, e2, h⟩ := me_bd h
  refine me_callVi X [] (ctX0_size_19 hn (Nat.le_trans (by decide) hnt) e2) kV_X11_194 rfl rfl (Nat.le_of_ble_eq_true rfl) me_k19 (Nat.le_of_ble_eq_true rfl) (Nat.le_refl _) (Nat.le_of_ble_eq_true rfl) dX11_gapsBetweenHits_23 ?_
  refine me_icmp_ge X 102 (by decide) dX11_gapsBetweenHits_26 (fun c1 => ?_) (fun c1 => ?_)
  · have h := me_ip c1 h
    obtain rfl := me_so h
    have q := hr1 _ rfl
    refine me_sub (L' := [(1, .int p0), (2, .int x2_1), (3, .int x3_1), (4, .int x4_1)]) [1, 2, 3, 4] rfl ?_
    cases q
    exact hx1
  · have h := me_in c1 h
    refine me_aload_n X (i := 0) 0 rfl dX11_gapsBetweenHits_29 ?_
    refine me_iload X (i := 5) 5 rfl dX11_gapsBetweenHits_30 ?_
    refine me_iconst X dX11_gapsBetweenHits_32 ic_1 ?_
    refine me_iadd X dX11_gapsBetweenHits_33 ?_
    obtain ⟨v3, e3, h⟩ := me_bd h
    refine me_callVi X [.int (x5_1 + 1)] (ctX11_nextHit_0 hn (Nat.le_trans (by decide) hnt) e3) kV_X11_453 rfl rfl (Nat.le_of_ble_eq_true rfl) me_k0 (Nat.le_of_ble_eq_true rfl) (Nat.le_refl _) (Nat.le_of_ble_eq_true rfl) dX11_gapsBetweenHits_34 ?_
    refine me_istore X (i := 7) [(7, .int v3), (0, .ref (ad 0)), (1, .int p0), (2, .int x2_1), (3, .int x3_1), (4, .int x4_1), (5, .int x5_1), (6, .int x6_1)] (Nat.le_of_ble_eq_true rfl) rfl dX11_gapsBetweenHits_37 ?_
    refine me_iload X (i := 7) 0 rfl dX11_gapsBetweenHits_39 ?_
    refine me_iload X (i := 5) 6 rfl dX11_gapsBetweenHits_41 ?_
    refine me_isub X dX11_gapsBetweenHits_43 ?_
    refine me_istore X (i := 8) [(8, .int (v3 - x5_1)), (7, .int v3), (0, .ref (ad 0)), (1, .int p0), (2, .int x2_1), (3, .int x3_1), (4, .int x4_1), (5, .int x5_1), (6, .int x6_1)] (Nat.le_of_ble_eq_true rfl) rfl dX11_gapsBetweenHits_44 ?_
    refine me_iload_n X (i := 2) 4 rfl dX11_gapsBetweenHits_46 ?_
    refine me_iconst X dX11_gapsBetweenHits_47 ic_m1 ?_
    have hj62_1 : ∀ (x8_1 : Int32) (s1 : Int32), mX11_gapsBetweenHits_0_J62 p0 x3_1 x4_1 x6_1 v3 M x8_1 s1 = some z1 → me_W p l e R s m args below meth c 0 0 (MQ below (me_Qc D cA ad n A (some (.int r)) M) args s 0 0 A) D cA ad n 9 A 62 [(0, .ref (ad 0)), (1, .int p0), (3, .int x3_1), (4, .int x4_1), (6, .int x6_1), (7, .int v3), (8, .int x8_1)] [.int s1] M := by
      intro x8_1 s1 h
      unfold mX11_gapsBetweenHits_0_J62 at h
      refine me_istore_n X (i := 2) [(2, .int s1), (0, .ref (ad 0)), (1, .int p0), (3, .int x3_1), (4, .int x4_1), (6, .int x6_1), (7, .int v3), (8, .int x8_1)] (Nat.le_of_ble_eq_true rfl) rfl dX11_gapsBetweenHits_62 ?_
      refine me_iload_n X (i := 3) 3 rfl dX11_gapsBetweenHits_63 ?_
      refine me_iload X (i := 8) 7 rfl dX11_gapsBetweenHits_64 ?_
      obtain ⟨v5, e5, h⟩ := me_bd h
      refine me_callSi X [.int x3_1, .int x8_1] (ctJ9_max_7cf53 hn (Nat.le_trans (by decide) hnt) e5) kS_X11_461 rfl rfl (Nat.le_of_ble_eq_true rfl) (Nat.le_refl _) (Nat.le_of_ble_eq_true rfl) dX11_gapsBetweenHits_66 ?_
      refine me_istore_n X (i := 3) [(3, .int v5), (2, .int s1), (0, .ref (ad 0)), (1, .int p0), (4, .int x4_1), (6, .int x6_1), (7, .int v3), (8, .int x8_1)] (Nat.le_of_ble_eq_true rfl) rfl dX11_gapsBetweenHits_69 ?_
      refine me_iload X (i := 4) 4 rfl dX11_gapsBetweenHits_70 ?_
      refine me_iload X (i := 8) 7 rfl dX11_gapsBetweenHits_72 ?_
      refine me_aload_n X (i := 0) 2 rfl dX11_gapsBetweenHits_74 ?_
      refine me_getr X 19 kF_X11_47 (Nat.le_of_ble_eq_true rfl) me_k0 me_f0_4 dX11_gapsBetweenHits_75 ?_
      refine me_geti X kF_X11_161 (Nat.le_of_ble_eq_true rfl) me_k19 me_f19_4 dX11_gapsBetweenHits_78 ?_
      have hj89_2 : ∀ (s2 : Int32), mX11_gapsBetweenHits_0_J89 p0 s1 v5 x6_1 v3 x4_1 M s2 = some z1 → me_W p l e R s m args below meth c 0 0 (MQ below (me_Qc D cA ad n A (some (.int r)) M) args s 0 0 A) D cA ad n 9 A 89 [(0, .ref (ad 0)), (1, .int p0), (2, .int s1), (3, .int v5), (6, .int x6_1), (7, .int v3)] [.int s2, .int x4_1] M := by
        intro s2 h
        unfold mX11_gapsBetweenHits_0_J89 at h
        refine me_iadd X dX11_gapsBetweenHits_89 ?_
        refine me_istore X (i := 4) [(4, .int (x4_1 + s2)), (0, .ref (ad 0)), (1, .int p0), (2, .int s1), (3, .int v5), (6, .int x6_1), (7, .int v3)] (Nat.le_of_ble_eq_true rfl) rfl dX11_gapsBetweenHits_90 ?_
        refine me_iload X (i := 7) 6 rfl dX11_gapsBetweenHits_92 ?_
        refine me_istore X (i := 5) [(5, .int v3), (4, .int (x4_1 + s2)), (0, .ref (ad 0)), (1, .int p0), (2, .int s1), (3, .int v5), (6, .int x6_1), (7, .int v3)] (Nat.le_of_ble_eq_true rfl) rfl dX11_gapsBetweenHits_94 ?_
        refine me_iinc X (v := (x6_1 + 1)) 6 rfl (in_1 _) [(6, .int (x6_1 + 1)), (5, .int v3), (4, .int (x4_1 + s2)), (0, .ref (ad 0)), (1, .int p0), (2, .int s1), (3, .int v5), (7, .int v3)] (Nat.le_of_ble_eq_true rfl) rfl dX11_gapsBetweenHits_96 ?_
        refine me_goto X 17 (by decide) dX11_gapsBetweenHits_99 ?_
        obtain rfl := me_so h
        refine me_sub (L' := [(0, .ref (ad 0)), (1, .int p0), (2, .int s1), (3, .int v5), (4, .int (x4_1 + s2)), (5, .int v3), (6, .int (x6_1 + 1))]) [3, 4, 5, 6, 2, 1, 0] rfl ?_
        exact hb1 (s1, v5, (x4_1 + s2), v3, (x6_1 + 1)) rfl
      refine me_icmp_ge X 88 (by decide) dX11_gapsBetweenHits_81 (fun c3 => ?_) (fun c3 => ?_)
      · have h := me_ip c3 h
        refine me_iconst X dX11_gapsBetweenHits_88 ic_0 ?_
        refine me_sub (L' := [(0, .ref (ad 0)), (1, .int p0), (2, .int s1), (3, .int v5), (6, .int x6_1), (7, .int v3)]) [2, 3, 1, 0, 5, 6] rfl ?_
        exact hj89_2 0 h
      · have h := me_in c3 h
        refine me_iconst X dX11_gapsBetweenHits_84 ic_1 ?_
        refine me_goto X 89 (by decide) dX11_gapsBetweenHits_85 ?_
        refine me_sub (L' := [(0, .ref (ad 0)), (1, .int p0), (2, .int s1), (3, .int v5), (6, .int x6_1), (7, .int v3)]) [2, 3, 1, 0, 5, 6] rfl ?_
        exact hj89_2 1 h
    refine me_icmp_ne X 56 (by decide) dX11_gapsBetweenHits_48 (fun c2 => ?_) (fun c2 => ?_)
    · have h := me_in c2 h
      refine me_iload_n X (i := 2) 4 rfl dX11_gapsBetweenHits_56 ?_
      refine me_iload X (i := 8) 0 rfl dX11_gapsBetweenHits_57 ?_
      obtain ⟨v4, e4, h⟩ := me_bd h
      refine me_callSi X [.int x2_1, .int (v3 - x5_1)] (ctJ9_min_7cf53 hn (Nat.le_trans (by decide) hnt) e4) kS_X11_456 rfl rfl (Nat.le_of_ble_eq_true rfl) (Nat.le_refl _) (Nat.le_of_ble_eq_true rfl) dX11_gapsBetweenHits_59 ?_
      refine me_sub (L' := [(0, .ref (ad 0)), (1, .int p0), (3, .int x3_1), (4, .int x4_1), (6, .int x6_1), (7, .int v3), (8, .int (v3 - x5_1))]) [2, 3, 5, 6, 8, 1, 0] rfl ?_
      exact hj62_1 (v3 - x5_1) v4 h
    · have h := me_ip c2 h
      refine me_iload X (i := 8) 0 rfl dX11_gapsBetweenHits_51 ?_
      refine me_goto X 62 (by decide) dX11_gapsBetweenHits_53 ?_
      refine me_sub (L' := [(0, .ref (ad 0)), (1, .int p0), (3, .int x3_1), (4, .int x4_1), (6, .int x6_1), (7, .int v3), (8, .int (v3 - x5_1))]) [2, 3, 5, 6, 8, 1, 0] rfl ?_
      exact hj62_1 (v3 - x5_1) (v3 - x5_1) h
def mX11_feed_0 (M : me_M) (p0 : Int32) (p1 : Int32) (p2 : Int32) (p3 : Int32) (p4 : Int32) : Option (Int32 × me_M) :=
  (if ((M.1 1 1) + 20) ≤ 240 then ((mX9_put_1 M p0).bind fun M1 => ((mX9_put_1 M1 p1).bind fun M2 => ((mX9_put_1 M2 p2).bind fun M3 => ((mX9_put_1 M3 p3).bind fun M4 => ((mX9_put_1 M4 p4).bind fun M5 => some ((M5.1 1 1), M5)))))) else some ((-1), M))
set_option maxRecDepth 100000 in
set_option maxHeartbeats 4000000 in
theorem ctX11_feed_0 {l : Launch} {n nt : Nat} (hn : 63 ≤ n) (hnt : 1 ≤ nt) {M : me_M} {p0 : Int32} {p1 : Int32} {p2 : Int32} {p3 : Int32} {p4 : Int32} {r : Int32} {M' : me_M} (h : mX11_feed_0 M p0 p1 p2 p3 p4 = some (r, M')) : me_Ct l yX11_feed cX11_feed 6 (some .int) 1 n nt (fun ad => [.ref (ad 0), .int p0, .int p1, .int p2, .int p3, .int p4]) M (fun _ => some (.int r)) M' := by
  unfold mX11_feed_0 at h
  refine me_enter (N0 := 63) RX11 rfl (plainFor_of_name pl_RX11) hn (Nat.le_trans (by decide) hnt) (fun _ => Nat.le_of_ble_eq_true rfl) ?_
  intro p e R s m args below meth c D cA ad tys A X hr hlk
  refine me_sub (L' := [(0, .ref (ad 0)), (1, .int p0), (2, .int p1), (3, .int p2), (4, .int p3), (5, .int p4)]) [0, 1, 2, 3, 4, 5] rfl ?_
  refine me_aload_n X (i := 0) 0 rfl dX11_feed_0 ?_
  refine me_getr X 1 kF_X11_10 (Nat.le_of_ble_eq_true rfl) me_k0 me_f0_0 dX11_feed_1 ?_
  refine me_geti X kF_X11_111 (Nat.le_of_ble_eq_true rfl) me_k1 me_f1_1 dX11_feed_4 ?_
  refine me_bipush X dX11_feed_7 ib_20 ?_
  refine me_iadd X dX11_feed_9 ?_
  refine me_sipush X dX11_feed_10 is_240 ?_
  refine me_icmp_le X 18 (by decide) dX11_feed_13 (fun c1 => ?_) (fun c1 => ?_)
  · have h := me_ip c1 h
    refine me_aload_n X (i := 0) 0 rfl dX11_feed_18 ?_
    refine me_getr X 1 kF_X11_10 (Nat.le_of_ble_eq_true rfl) me_k0 me_f0_0 dX11_feed_19 ?_
    refine me_iload_n X (i := 1) 1 rfl dX11_feed_22 ?_
    obtain ⟨M1, e1, h⟩ := me_bd h
    refine me_callVv X [.int p0] (ctX9_put_1 hn (Nat.le_trans (by decide) hnt) e1) kV_X11_114 rfl rfl (Nat.le_of_ble_eq_true rfl) me_k1 (Nat.le_of_ble_eq_true rfl) (Nat.le_refl _) (Nat.le_of_ble_eq_true rfl) dX11_feed_23 ?_
    refine me_aload_n X (i := 0) 0 rfl dX11_feed_26 ?_
    refine me_getr X 1 kF_X11_10 (Nat.le_of_ble_eq_true rfl) me_k0 me_f0_0 dX11_feed_27 ?_
    refine me_iload_n X (i := 2) 2 rfl dX11_feed_30 ?_
    obtain ⟨M2, e2, h⟩ := me_bd h
    refine me_callVv X [.int p1] (ctX9_put_1 hn (Nat.le_trans (by decide) hnt) e2) kV_X11_114 rfl rfl (Nat.le_of_ble_eq_true rfl) me_k1 (Nat.le_of_ble_eq_true rfl) (Nat.le_refl _) (Nat.le_of_ble_eq_true rfl) dX11_feed_31 ?_
    refine me_aload_n X (i := 0) 0 rfl dX11_feed_34 ?_
    refine me_getr X 1 kF_X11_10 (Nat.le_of_ble_eq_true rfl) me_k0 me_f0_0 dX11_feed_35 ?_
    refine me_iload_n X (i := 3) 3 rfl dX11_feed_38 ?_
    obtain ⟨M3, e3, h⟩ := me_bd h
    refine me_callVv X [.int p2] (ctX9_put_1 hn (Nat.le_trans (by decide) hnt) e3) kV_X11_114 rfl rfl (Nat.le_of_ble_eq_true rfl) me_k1 (Nat.le_of_ble_eq_true rfl) (Nat.le_refl _) (Nat.le_of_ble_eq_true rfl) dX11_feed_39 ?_
    refine me_aload_n X (i := 0) 0 rfl dX11_feed_42 ?_
    refine me_getr X 1 kF_X11_10 (Nat.le_of_ble_eq_true rfl) me_k0 me_f0_0 dX11_feed_43 ?_
    refine me_iload X (i := 4) 4 rfl dX11_feed_46 ?_
    obtain ⟨M4, e4, h⟩ := me_bd h
    refine me_callVv X [.int p3] (ctX9_put_1 hn (Nat.le_trans (by decide) hnt) e4) kV_X11_114 rfl rfl (Nat.le_of_ble_eq_true rfl) me_k1 (Nat.le_of_ble_eq_true rfl) (Nat.le_refl _) (Nat.le_of_ble_eq_true rfl) dX11_feed_48 ?_
    refine me_aload_n X (i := 0) 0 rfl dX11_feed_51 ?_
    refine me_getr X 1 kF_X11_10 (Nat.le_of_ble_eq_true rfl) me_k0 me_f0_0 dX11_feed_52 ?_
    refine me_iload X (i := 5) 5 rfl dX11_feed_55 ?_
    obtain ⟨M5, e5, h⟩ := me_bd h
    refine me_callVv X [.int p4] (ctX9_put_1 hn (Nat.le_trans (by decide) hnt) e5) kV_X11_114 rfl rfl (Nat.le_of_ble_eq_true rfl) me_k1 (Nat.le_of_ble_eq_true rfl) (Nat.le_refl _) (Nat.le_of_ble_eq_true rfl) dX11_feed_57 ?_
    refine me_aload_n X (i := 0) 0 rfl dX11_feed_60 ?_
    refine me_getr X 1 kF_X11_10 (Nat.le_of_ble_eq_true rfl) me_k0 me_f0_0 dX11_feed_61 ?_
    refine me_geti X kF_X11_111 (Nat.le_of_ble_eq_true rfl) me_k1 me_f1_1 dX11_feed_64 ?_
    obtain ⟨rfl, rfl⟩ := me_sp h
    exact me_iret X hr hlk dX11_feed_67
  · have h := me_in c1 h
    refine me_iconst X dX11_feed_16 ic_m1 ?_
    obtain ⟨rfl, rfl⟩ := me_sp h
    exact me_iret X hr hlk dX11_feed_17
def mX11_fault_0 (M : me_M)  : Option Int32 :=
  some (M.1 52 4)
set_option maxRecDepth 100000 in
set_option maxHeartbeats 4000000 in
theorem ctX11_fault_0 {l : Launch} {n nt : Nat} (hn : 63 ≤ n) (hnt : 1 ≤ nt) {M : me_M} {r : Int32} (h : mX11_fault_0 M = some r) : me_Ct l yX11_fault cX11_fault 1 (some .int) 0 n nt (fun ad => [.ref (ad 0)]) M (fun _ => some (.int r)) M := by
  unfold mX11_fault_0 at h
  refine me_enter (N0 := 63) RX11 rfl (plainFor_of_name pl_RX11) hn (Nat.le_trans (by decide) hnt) (fun _ => Nat.le_of_ble_eq_true rfl) ?_
  intro p e R s m args below meth c D cA ad tys A X hr hlk
  refine me_sub (L' := [(0, .ref (ad 0))]) [0] rfl ?_
  refine me_aload_n X (i := 0) 0 rfl dX11_fault_0 ?_
  refine me_getr X 52 kF_X11_90 (Nat.le_of_ble_eq_true rfl) me_k0 me_f0_9 dX11_fault_1 ?_
  refine me_geti X kF_X11_151 (Nat.le_of_ble_eq_true rfl) me_k52 me_f52_4 dX11_fault_4 ?_
  obtain rfl := me_so h
  exact me_iret X hr hlk dX11_fault_7
def mX11_shrink_0 (M : me_M)  : Option (Int32 × me_M) :=
  ((mX0_pop_19 M).bind fun (v1, M1) => some (v1, M1))
set_option maxRecDepth 100000 in
set_option maxHeartbeats 4000000 in
theorem ctX11_shrink_0 {l : Launch} {n nt : Nat} (hn : 63 ≤ n) (hnt : 1 ≤ nt) {M : me_M} {r : Int32} {M' : me_M} (h : mX11_shrink_0 M = some (r, M')) : me_Ct l yX11_shrink cX11_shrink 1 (some .int) 2 n nt (fun ad => [.ref (ad 0)]) M (fun _ => some (.int r)) M' := by
  unfold mX11_shrink_0 at h
  refine me_enter (N0 := 63) RX11 rfl (plainFor_of_name pl_RX11) hn (Nat.le_trans (by decide) hnt) (fun _ => Nat.le_of_ble_eq_true rfl) ?_
  intro p e R s m args below meth c D cA ad tys A X hr hlk
  refine me_sub (L' := [(0, .ref (ad 0))]) [0] rfl ?_
  refine me_aload_n X (i := 0) 0 rfl dX11_shrink_0 ?_
  refine me_getr X 19 kF_X11_47 (Nat.le_of_ble_eq_true rfl) me_k0 me_f0_4 dX11_shrink_1 ?_
  obtain ⟨⟨v1, M1⟩, e1, h⟩ := me_bd h
  refine me_callVi X [] (ctX0_pop_19 hn (Nat.le_trans (by decide) hnt) e1) kV_X11_169 rfl rfl (Nat.le_of_ble_eq_true rfl) me_k19 (Nat.le_of_ble_eq_true rfl) (Nat.le_refl _) (Nat.le_of_ble_eq_true rfl) dX11_shrink_4 ?_
  obtain ⟨rfl, rfl⟩ := me_sp h
  exact me_iret X hr hlk dX11_shrink_7
def mX11_clear_0 (M : me_M)  : Option (Int32 × me_M) :=
  ((mX0_empty_19 M).bind fun M1 => some ((M.1 19 4), M1))
set_option maxRecDepth 100000 in
set_option maxHeartbeats 4000000 in
theorem ctX11_clear_0 {l : Launch} {n nt : Nat} (hn : 63 ≤ n) (hnt : 1 ≤ nt) {M : me_M} {r : Int32} {M' : me_M} (h : mX11_clear_0 M = some (r, M')) : me_Ct l yX11_clear cX11_clear 2 (some .int) 2 n nt (fun ad => [.ref (ad 0)]) M (fun _ => some (.int r)) M' := by
  unfold mX11_clear_0 at h
  refine me_enter (N0 := 63) RX11 rfl (plainFor_of_name pl_RX11) hn (Nat.le_trans (by decide) hnt) (fun _ => Nat.le_of_ble_eq_true rfl) ?_
  intro p e R s m args below meth c D cA ad tys A X hr hlk
  refine me_sub (L' := [(0, .ref (ad 0))]) [0] rfl ?_
  refine me_aload_n X (i := 0) 0 rfl dX11_clear_0 ?_
  refine me_getr X 19 kF_X11_47 (Nat.le_of_ble_eq_true rfl) me_k0 me_f0_4 dX11_clear_1 ?_
  refine me_geti X kF_X11_161 (Nat.le_of_ble_eq_true rfl) me_k19 me_f19_4 dX11_clear_4 ?_
  refine me_istore_n X (i := 1) [(1, .int (M.1 19 4)), (0, .ref (ad 0))] (Nat.le_of_ble_eq_true rfl) rfl dX11_clear_7 ?_
  refine me_aload_n X (i := 0) 1 rfl dX11_clear_8 ?_
  refine me_getr X 19 kF_X11_47 (Nat.le_of_ble_eq_true rfl) me_k0 me_f0_4 dX11_clear_9 ?_
  obtain ⟨M1, e1, h⟩ := me_bd h
  refine me_callVv X [] (ctX0_empty_19 hn (Nat.le_trans (by decide) hnt) e1) kV_X11_173 rfl rfl (Nat.le_of_ble_eq_true rfl) me_k19 (Nat.le_of_ble_eq_true rfl) (Nat.le_refl _) (Nat.le_of_ble_eq_true rfl) dX11_clear_12 ?_
  refine me_iload_n X (i := 1) 0 rfl dX11_clear_15 ?_
  obtain ⟨rfl, rfl⟩ := me_sp h
  exact me_iret X hr hlk dX11_clear_16
def mX11_sound_0 (M : me_M)  : Option (Int32 × me_M) :=
  (if M.2.1 0 = 53 then ((mX5_surveyShares_53 M).bind fun M1 => (if M1.2.1 0 = 53 then (if (M1.1 53 8) = 0 then (if M1.2.1 0 = 53 then (if (M1.1 53 9) = 0 then some (1, M1) else some (0, M1)) else if M1.2.1 0 = 58 then (if (M1.1 58 9) = 0 then some (1, M1) else some (0, M1)) else none) else some (0, M1)) else if M1.2.1 0 = 58 then (if (M1.1 58 8) = 0 then (if M1.2.1 0 = 53 then (if (M1.1 53 9) = 0 then some (1, M1) else some (0, M1)) else if M1.2.1 0 = 58 then (if (M1.1 58 9) = 0 then some (1, M1) else some (0, M1)) else none) else some (0, M1)) else none)) else if M.2.1 0 = 58 then ((mX5_surveyShares_58 M).bind fun M2 => (if M2.2.1 0 = 53 then (if (M2.1 53 8) = 0 then (if M2.2.1 0 = 53 then (if (M2.1 53 9) = 0 then some (1, M2) else some (0, M2)) else if M2.2.1 0 = 58 then (if (M2.1 58 9) = 0 then some (1, M2) else some (0, M2)) else none) else some (0, M2)) else if M2.2.1 0 = 58 then (if (M2.1 58 8) = 0 then (if M2.2.1 0 = 53 then (if (M2.1 53 9) = 0 then some (1, M2) else some (0, M2)) else if M2.2.1 0 = 58 then (if (M2.1 58 9) = 0 then some (1, M2) else some (0, M2)) else none) else some (0, M2)) else none)) else none)
set_option maxRecDepth 100000 in
set_option maxHeartbeats 4000000 in
theorem ctX11_sound_0 {l : Launch} {n nt : Nat} (hn : 63 ≤ n) (hnt : 1 ≤ nt) {M : me_M} {r : Int32} {M' : me_M} (h : mX11_sound_0 M = some (r, M')) : me_Ct l yX11_sound cX11_sound 1 (some .boolean) 3 n nt (fun ad => [.ref (ad 0)]) M (fun _ => some (.int r)) M' := by
  unfold mX11_sound_0 at h
  refine me_enter (N0 := 63) RX11 rfl (plainFor_of_name pl_RX11) hn (Nat.le_trans (by decide) hnt) (fun _ => Nat.le_of_ble_eq_true rfl) ?_
  intro p e R s m args below meth c D cA ad tys A X hr hlk
  refine me_sub (L' := [(0, .ref (ad 0))]) [0] rfl ?_
  refine me_aload_n X (i := 0) 0 rfl dX11_sound_0 ?_
  by_cases c1 : M.2.1 0 = 53
  · have h := me_ip c1 h
    refine me_getd0 X c1 kF_X11_97 (Nat.le_of_ble_eq_true rfl) me_k0 me_f0_10 dX11_sound_1 ?_
    obtain ⟨M1, e1, h⟩ := me_bd h
    refine me_callVv X [] (ctX5_surveyShares_53 hn (Nat.le_trans (by decide) hnt) e1) kV_X11_266 rfl rfl (Nat.le_of_ble_eq_true rfl) me_k53 (Nat.le_of_ble_eq_true rfl) (Nat.le_refl _) (Nat.le_of_ble_eq_true rfl) dX11_sound_4 ?_
    refine me_aload_n X (i := 0) 0 rfl dX11_sound_7 ?_
    by_cases c2 : M1.2.1 0 = 53
    · have h := me_ip c2 h
      refine me_getd0 X c2 kF_X11_97 (Nat.le_of_ble_eq_true rfl) me_k0 me_f0_10 dX11_sound_8 ?_
      refine me_geti X kF_X11_272 (Nat.le_of_ble_eq_true rfl) me_k53 me_f53_8 dX11_sound_11 ?_
      refine me_if_ne X 31 (by decide) dX11_sound_14 (fun c3 => ?_) (fun c3 => ?_)
      · have h := me_in c3 h
        refine me_iconst X dX11_sound_31 ic_0 ?_
        obtain ⟨rfl, rfl⟩ := me_sp h
        exact me_zret X (by decide) hr hlk dX11_sound_32
      · have h := me_ip c3 h
        refine me_aload_n X (i := 0) 0 rfl dX11_sound_17 ?_
        by_cases c4 : M1.2.1 0 = 53
        · have h := me_ip c4 h
          refine me_getd0 X c4 kF_X11_97 (Nat.le_of_ble_eq_true rfl) me_k0 me_f0_10 dX11_sound_18 ?_
          refine me_geti X kF_X11_275 (Nat.le_of_ble_eq_true rfl) me_k53 me_f53_9 dX11_sound_21 ?_
          refine me_if_ne X 31 (by decide) dX11_sound_24 (fun c5 => ?_) (fun c5 => ?_)
          · have h := me_in c5 h
            refine me_iconst X dX11_sound_31 ic_0 ?_
            obtain ⟨rfl, rfl⟩ := me_sp h
            exact me_zret X (by decide) hr hlk dX11_sound_32
          · have h := me_ip c5 h
            refine me_iconst X dX11_sound_27 ic_1 ?_
            refine me_goto X 32 (by decide) dX11_sound_28 ?_
            obtain ⟨rfl, rfl⟩ := me_sp h
            exact me_zret X (by decide) hr hlk dX11_sound_32
        · have h := me_in c4 h
          by_cases c4b : M1.2.1 0 = 58
          · have h := me_ip c4b h
            refine me_getd0 X c4b kF_X11_97 (Nat.le_of_ble_eq_true rfl) me_k0 me_f0_10 dX11_sound_18 ?_
            refine me_geti X kF_X11_275 (Nat.le_of_ble_eq_true rfl) me_k58 me_f58_9 dX11_sound_21 ?_
            refine me_if_ne X 31 (by decide) dX11_sound_24 (fun c6 => ?_) (fun c6 => ?_)
            · have h := me_in c6 h
              refine me_iconst X dX11_sound_31 ic_0 ?_
              obtain ⟨rfl, rfl⟩ := me_sp h
              exact me_zret X (by decide) hr hlk dX11_sound_32
            · have h := me_ip c6 h
              refine me_iconst X dX11_sound_27 ic_1 ?_
              refine me_goto X 32 (by decide) dX11_sound_28 ?_
              obtain ⟨rfl, rfl⟩ := me_sp h
              exact me_zret X (by decide) hr hlk dX11_sound_32
          · have h := me_in c4b h
            cases h
    · have h := me_in c2 h
      by_cases c2b : M1.2.1 0 = 58
      · have h := me_ip c2b h
        refine me_getd0 X c2b kF_X11_97 (Nat.le_of_ble_eq_true rfl) me_k0 me_f0_10 dX11_sound_8 ?_
        refine me_geti X kF_X11_272 (Nat.le_of_ble_eq_true rfl) me_k58 me_f58_8 dX11_sound_11 ?_
        refine me_if_ne X 31 (by decide) dX11_sound_14 (fun c7 => ?_) (fun c7 => ?_)
        · have h := me_in c7 h
          refine me_iconst X dX11_sound_31 ic_0 ?_
          obtain ⟨rfl, rfl⟩ := me_sp h
          exact me_zret X (by decide) hr hlk dX11_sound_32
        · have h := me_ip c7 h
          refine me_aload_n X (i := 0) 0 rfl dX11_sound_17 ?_
          by_cases c8 : M1.2.1 0 = 53
          · have h := me_ip c8 h
            refine me_getd0 X c8 kF_X11_97 (Nat.le_of_ble_eq_true rfl) me_k0 me_f0_10 dX11_sound_18 ?_
            refine me_geti X kF_X11_275 (Nat.le_of_ble_eq_true rfl) me_k53 me_f53_9 dX11_sound_21 ?_
            refine me_if_ne X 31 (by decide) dX11_sound_24 (fun c9 => ?_) (fun c9 => ?_)
            · have h := me_in c9 h
              refine me_iconst X dX11_sound_31 ic_0 ?_
              obtain ⟨rfl, rfl⟩ := me_sp h
              exact me_zret X (by decide) hr hlk dX11_sound_32
            · have h := me_ip c9 h
              refine me_iconst X dX11_sound_27 ic_1 ?_
              refine me_goto X 32 (by decide) dX11_sound_28 ?_
              obtain ⟨rfl, rfl⟩ := me_sp h
              exact me_zret X (by decide) hr hlk dX11_sound_32
          · have h := me_in c8 h
            by_cases c8b : M1.2.1 0 = 58
            · have h := me_ip c8b h
              refine me_getd0 X c8b kF_X11_97 (Nat.le_of_ble_eq_true rfl) me_k0 me_f0_10 dX11_sound_18 ?_
              refine me_geti X kF_X11_275 (Nat.le_of_ble_eq_true rfl) me_k58 me_f58_9 dX11_sound_21 ?_
              refine me_if_ne X 31 (by decide) dX11_sound_24 (fun c10 => ?_) (fun c10 => ?_)
              · have h := me_in c10 h
                refine me_iconst X dX11_sound_31 ic_0 ?_
                obtain ⟨rfl, rfl⟩ := me_sp h
                exact me_zret X (by decide) hr hlk dX11_sound_32
              · have h := me_ip c10 h
                refine me_iconst X dX11_sound_27 ic_1 ?_
                refine me_goto X 32 (by decide) dX11_sound_28 ?_
                obtain ⟨rfl, rfl⟩ := me_sp h
                exact me_zret X (by decide) hr hlk dX11_sound_32
            · have h := me_in c8b h
              cases h
      · have h := me_in c2b h
        cases h
  · have h := me_in c1 h
    by_cases c1b : M.2.1 0 = 58
    · have h := me_ip c1b h
      refine me_getd0 X c1b kF_X11_97 (Nat.le_of_ble_eq_true rfl) me_k0 me_f0_10 dX11_sound_1 ?_
      obtain ⟨M2, e2, h⟩ := me_bd h
      refine me_callVv X [] (ctX5_surveyShares_58 hn (Nat.le_trans (by decide) hnt) e2) kV_X11_266 rfl rfl (Nat.le_of_ble_eq_true rfl) me_k58 (Nat.le_of_ble_eq_true rfl) (Nat.le_refl _) (Nat.le_of_ble_eq_true rfl) dX11_sound_4 ?_
      refine me_aload_n X (i := 0) 0 rfl dX11_sound_7 ?_
      by_cases c11 : M2.2.1 0 = 53
      · have h := me_ip c11 h
        refine me_getd0 X c11 kF_X11_97 (Nat.le_of_ble_eq_true rfl) me_k0 me_f0_10 dX11_sound_8 ?_
        refine me_geti X kF_X11_272 (Nat.le_of_ble_eq_true rfl) me_k53 me_f53_8 dX11_sound_11 ?_
        refine me_if_ne X 31 (by decide) dX11_sound_14 (fun c12 => ?_) (fun c12 => ?_)
        · have h := me_in c12 h
          refine me_iconst X dX11_sound_31 ic_0 ?_
          obtain ⟨rfl, rfl⟩ := me_sp h
          exact me_zret X (by decide) hr hlk dX11_sound_32
        · have h := me_ip c12 h
          refine me_aload_n X (i := 0) 0 rfl dX11_sound_17 ?_
          by_cases c13 : M2.2.1 0 = 53
          · have h := me_ip c13 h
            refine me_getd0 X c13 kF_X11_97 (Nat.le_of_ble_eq_true rfl) me_k0 me_f0_10 dX11_sound_18 ?_
            refine me_geti X kF_X11_275 (Nat.le_of_ble_eq_true rfl) me_k53 me_f53_9 dX11_sound_21 ?_
            refine me_if_ne X 31 (by decide) dX11_sound_24 (fun c14 => ?_) (fun c14 => ?_)
            · have h := me_in c14 h
              refine me_iconst X dX11_sound_31 ic_0 ?_
              obtain ⟨rfl, rfl⟩ := me_sp h
              exact me_zret X (by decide) hr hlk dX11_sound_32
            · have h := me_ip c14 h
              refine me_iconst X dX11_sound_27 ic_1 ?_
              refine me_goto X 32 (by decide) dX11_sound_28 ?_
              obtain ⟨rfl, rfl⟩ := me_sp h
              exact me_zret X (by decide) hr hlk dX11_sound_32
          · have h := me_in c13 h
            by_cases c13b : M2.2.1 0 = 58
            · have h := me_ip c13b h
              refine me_getd0 X c13b kF_X11_97 (Nat.le_of_ble_eq_true rfl) me_k0 me_f0_10 dX11_sound_18 ?_
              refine me_geti X kF_X11_275 (Nat.le_of_ble_eq_true rfl) me_k58 me_f58_9 dX11_sound_21 ?_
              refine me_if_ne X 31 (by decide) dX11_sound_24 (fun c15 => ?_) (fun c15 => ?_)
              · have h := me_in c15 h
                refine me_iconst X dX11_sound_31 ic_0 ?_
                obtain ⟨rfl, rfl⟩ := me_sp h
                exact me_zret X (by decide) hr hlk dX11_sound_32
              · have h := me_ip c15 h
                refine me_iconst X dX11_sound_27 ic_1 ?_
                refine me_goto X 32 (by decide) dX11_sound_28 ?_
                obtain ⟨rfl, rfl⟩ := me_sp h
                exact me_zret X (by decide) hr hlk dX11_sound_32
            · have h := me_in c13b h
              cases h
      · have h := me_in c11 h
        by_cases c11b : M2.2.1 0 = 58
        · have h := me_ip c11b h
          refine me_getd0 X c11b kF_X11_97 (Nat.le_of_ble_eq_true rfl) me_k0 me_f0_10 dX11_sound_8 ?_
          refine me_geti X kF_X11_272 (Nat.le_of_ble_eq_true rfl) me_k58 me_f58_8 dX11_sound_11 ?_
          refine me_if_ne X 31 (by decide) dX11_sound_14 (fun c16 => ?_) (fun c16 => ?_)
          · have h := me_in c16 h
            refine me_iconst X dX11_sound_31 ic_0 ?_
            obtain ⟨rfl, rfl⟩ := me_sp h
            exact me_zret X (by decide) hr hlk dX11_sound_32
          · have h := me_ip c16 h
            refine me_aload_n X (i := 0) 0 rfl dX11_sound_17 ?_
            by_cases c17 : M2.2.1 0 = 53
            · have h := me_ip c17 h
              refine me_getd0 X c17 kF_X11_97 (Nat.le_of_ble_eq_true rfl) me_k0 me_f0_10 dX11_sound_18 ?_
              refine me_geti X kF_X11_275 (Nat.le_of_ble_eq_true rfl) me_k53 me_f53_9 dX11_sound_21 ?_
              refine me_if_ne X 31 (by decide) dX11_sound_24 (fun c18 => ?_) (fun c18 => ?_)
              · have h := me_in c18 h
                refine me_iconst X dX11_sound_31 ic_0 ?_
                obtain ⟨rfl, rfl⟩ := me_sp h
                exact me_zret X (by decide) hr hlk dX11_sound_32
              · have h := me_ip c18 h
                refine me_iconst X dX11_sound_27 ic_1 ?_
                refine me_goto X 32 (by decide) dX11_sound_28 ?_
                obtain ⟨rfl, rfl⟩ := me_sp h
                exact me_zret X (by decide) hr hlk dX11_sound_32
            · have h := me_in c17 h
              by_cases c17b : M2.2.1 0 = 58
              · have h := me_ip c17b h
                refine me_getd0 X c17b kF_X11_97 (Nat.le_of_ble_eq_true rfl) me_k0 me_f0_10 dX11_sound_18 ?_
                refine me_geti X kF_X11_275 (Nat.le_of_ble_eq_true rfl) me_k58 me_f58_9 dX11_sound_21 ?_
                refine me_if_ne X 31 (by decide) dX11_sound_24 (fun c19 => ?_) (fun c19 => ?_)
                · have h := me_in c19 h
                  refine me_iconst X dX11_sound_31 ic_0 ?_
                  obtain ⟨rfl, rfl⟩ := me_sp h
                  exact me_zret X (by decide) hr hlk dX11_sound_32
                · have h := me_ip c19 h
                  refine me_iconst X dX11_sound_27 ic_1 ?_
                  refine me_goto X 32 (by decide) dX11_sound_28 ?_
                  obtain ⟨rfl, rfl⟩ := me_sp h
                  exact me_zret X (by decide) hr hlk dX11_sound_32
              · have h := me_in c17b h
                cases h
        · have h := me_in c11b h
          cases h
    · have h := me_in c1b h
      cases h
def mX11_needless_0 (M : me_M)  : Option (Int32 × me_M) :=
  (if M.2.1 0 = 53 then ((mX5_surveyShares_53 M).bind fun M1 => (if M1.2.1 0 = 53 then (if M1.2.1 0 = 53 then some ((((1 <<< ((M1.1 53 4) &&& 31)) - 1) &&& ((M1.1 53 10) ^^^ (-1))), M1) else if M1.2.1 0 = 58 then some ((((1 <<< ((M1.1 53 4) &&& 31)) - 1) &&& ((M1.1 58 10) ^^^ (-1))), M1) else none) else if M1.2.1 0 = 58 then (if M1.2.1 0 = 53 then some ((((1 <<< ((M1.1 58 4) &&& 31)) - 1) &&& ((M1.1 53 10) ^^^ (-1))), M1) else if M1.2.1 0 = 58 then some ((((1 <<< ((M1.1 58 4) &&& 31)) - 1) &&& ((M1.1 58 10) ^^^ (-1))), M1) else none) else none)) else if M.2.1 0 = 58 then ((mX5_surveyShares_58 M).bind fun M2 => (if M2.2.1 0 = 53 then (if M2.2.1 0 = 53 then some ((((1 <<< ((M2.1 53 4) &&& 31)) - 1) &&& ((M2.1 53 10) ^^^ (-1))), M2) else if M2.2.1 0 = 58 then some ((((1 <<< ((M2.1 53 4) &&& 31)) - 1) &&& ((M2.1 58 10) ^^^ (-1))), M2) else none) else if M2.2.1 0 = 58 then (if M2.2.1 0 = 53 then some ((((1 <<< ((M2.1 58 4) &&& 31)) - 1) &&& ((M2.1 53 10) ^^^ (-1))), M2) else if M2.2.1 0 = 58 then some ((((1 <<< ((M2.1 58 4) &&& 31)) - 1) &&& ((M2.1 58 10) ^^^ (-1))), M2) else none) else none)) else none)
set_option maxRecDepth 100000 in
set_option maxHeartbeats 4000000 in
theorem ctX11_needless_0 {l : Launch} {n nt : Nat} (hn : 63 ≤ n) (hnt : 1 ≤ nt) {M : me_M} {r : Int32} {M' : me_M} (h : mX11_needless_0 M = some (r, M')) : me_Ct l yX11_needless cX11_needless 1 (some .int) 3 n nt (fun ad => [.ref (ad 0)]) M (fun _ => some (.int r)) M' := by
  unfold mX11_needless_0 at h
  refine me_enter (N0 := 63) RX11 rfl (plainFor_of_name pl_RX11) hn (Nat.le_trans (by decide) hnt) (fun _ => Nat.le_of_ble_eq_true rfl) ?_
  intro p e R s m args below meth c D cA ad tys A X hr hlk
  refine me_sub (L' := [(0, .ref (ad 0))]) [0] rfl ?_
  refine me_aload_n X (i := 0) 0 rfl dX11_needless_0 ?_
  by_cases c1 : M.2.1 0 = 53
  · have h := me_ip c1 h
    refine me_getd0 X c1 kF_X11_97 (Nat.le_of_ble_eq_true rfl) me_k0 me_f0_10 dX11_needless_1 ?_
    obtain ⟨M1, e1, h⟩ := me_bd h
    refine me_callVv X [] (ctX5_surveyShares_53 hn (Nat.le_trans (by decide) hnt) e1) kV_X11_266 rfl rfl (Nat.le_of_ble_eq_true rfl) me_k53 (Nat.le_of_ble_eq_true rfl) (Nat.le_refl _) (Nat.le_of_ble_eq_true rfl) dX11_needless_4 ?_
    refine me_iconst X dX11_needless_7 ic_1 ?_
    refine me_aload_n X (i := 0) 0 rfl dX11_needless_8 ?_
    by_cases c2 : M1.2.1 0 = 53
    · have h := me_ip c2 h
      refine me_getd0 X c2 kF_X11_97 (Nat.le_of_ble_eq_true rfl) me_k0 me_f0_10 dX11_needless_9 ?_
      refine me_geti X kF_X11_148 (Nat.le_of_ble_eq_true rfl) me_k53 me_f53_4 dX11_needless_12 ?_
      refine me_ishl X dX11_needless_15 ?_
      refine me_iconst X dX11_needless_16 ic_1 ?_
      refine me_isub X dX11_needless_17 ?_
      refine me_aload_n X (i := 0) 0 rfl dX11_needless_18 ?_
      by_cases c3 : M1.2.1 0 = 53
      · have h := me_ip c3 h
        refine me_getd0 X c3 kF_X11_97 (Nat.le_of_ble_eq_true rfl) me_k0 me_f0_10 dX11_needless_19 ?_
        refine me_geti X kF_X11_278 (Nat.le_of_ble_eq_true rfl) me_k53 me_f53_10 dX11_needless_22 ?_
        refine me_iconst X dX11_needless_25 ic_m1 ?_
        refine me_ixor X dX11_needless_26 ?_
        refine me_iand X dX11_needless_27 ?_
        obtain ⟨rfl, rfl⟩ := me_sp h
        exact me_iret X hr hlk dX11_needless_28
      · have h := me_in c3 h
        by_cases c3b : M1.2.1 0 = 58
        · have h := me_ip c3b h
          refine me_getd0 X c3b kF_X11_97 (Nat.le_of_ble_eq_true rfl) me_k0 me_f0_10 dX11_needless_19 ?_
          refine me_geti X kF_X11_278 (Nat.le_of_ble_eq_true rfl) me_k58 me_f58_10 dX11_needless_22 ?_
          refine me_iconst X dX11_needless_25 ic_m1 ?_
          refine me_ixor X dX11_needless_26 ?_
          refine me_iand X dX11_needless_27 ?_
          obtain ⟨rfl, rfl⟩ := me_sp h
          exact me_iret X hr hlk dX11_needless_28
        · have h := me_in c3b h
          cases h
    · have h := me_in c2 h
      by_cases c2b : M1.2.1 0 = 58
      · have h := me_ip c2b h
        refine me_getd0 X c2b kF_X11_97 (Nat.le_of_ble_eq_true rfl) me_k0 me_f0_10 dX11_needless_9 ?_
        refine me_geti X kF_X11_148 (Nat.le_of_ble_eq_true rfl) me_k58 me_f58_4 dX11_needless_12 ?_
        refine me_ishl X dX11_needless_15 ?_
        refine me_iconst X dX11_needless_16 ic_1 ?_
        refine me_isub X dX11_needless_17 ?_
        refine me_aload_n X (i := 0) 0 rfl dX11_needless_18 ?_
        by_cases c4 : M1.2.1 0 = 53
        · have h := me_ip c4 h
          refine me_getd0 X c4 kF_X11_97 (Nat.le_of_ble_eq_true rfl) me_k0 me_f0_10 dX11_needless_19 ?_
          refine me_geti X kF_X11_278 (Nat.le_of_ble_eq_true rfl) me_k53 me_f53_10 dX11_needless_22 ?_
          refine me_iconst X dX11_needless_25 ic_m1 ?_
          refine me_ixor X dX11_needless_26 ?_
          refine me_iand X dX11_needless_27 ?_
          obtain ⟨rfl, rfl⟩ := me_sp h
          exact me_iret X hr hlk dX11_needless_28
        · have h := me_in c4 h
          by_cases c4b : M1.2.1 0 = 58
          · have h := me_ip c4b h
            refine me_getd0 X c4b kF_X11_97 (Nat.le_of_ble_eq_true rfl) me_k0 me_f0_10 dX11_needless_19 ?_
            refine me_geti X kF_X11_278 (Nat.le_of_ble_eq_true rfl) me_k58 me_f58_10 dX11_needless_22 ?_
            refine me_iconst X dX11_needless_25 ic_m1 ?_
            refine me_ixor X dX11_needless_26 ?_
            refine me_iand X dX11_needless_27 ?_
            obtain ⟨rfl, rfl⟩ := me_sp h
            exact me_iret X hr hlk dX11_needless_28
          · have h := me_in c4b h
            cases h
      · have h := me_in c2b h
        cases h
  · have h := me_in c1 h
    by_cases c1b : M.2.1 0 = 58
    · have h := me_ip c1b h
      refine me_getd0 X c1b kF_X11_97 (Nat.le_of_ble_eq_true rfl) me_k0 me_f0_10 dX11_needless_1 ?_
      obtain ⟨M2, e2, h⟩ := me_bd h
      refine me_callVv X [] (ctX5_surveyShares_58 hn (Nat.le_trans (by decide) hnt) e2) kV_X11_266 rfl rfl (Nat.le_of_ble_eq_true rfl) me_k58 (Nat.le_of_ble_eq_true rfl) (Nat.le_refl _) (Nat.le_of_ble_eq_true rfl) dX11_needless_4 ?_
      refine me_iconst X dX11_needless_7 ic_1 ?_
      refine me_aload_n X (i := 0) 0 rfl dX11_needless_8 ?_
      by_cases c5 : M2.2.1 0 = 53
      · have h := me_ip c5 h
        refine me_getd0 X c5 kF_X11_97 (Nat.le_of_ble_eq_true rfl) me_k0 me_f0_10 dX11_needless_9 ?_
        refine me_geti X kF_X11_148 (Nat.le_of_ble_eq_true rfl) me_k53 me_f53_4 dX11_needless_12 ?_
        refine me_ishl X dX11_needless_15 ?_
        refine me_iconst X dX11_needless_16 ic_1 ?_
        refine me_isub X dX11_needless_17 ?_
        refine me_aload_n X (i := 0) 0 rfl dX11_needless_18 ?_
        by_cases c6 : M2.2.1 0 = 53
        · have h := me_ip c6 h
          refine me_getd0 X c6 kF_X11_97 (Nat.le_of_ble_eq_true rfl) me_k0 me_f0_10 dX11_needless_19 ?_
          refine me_geti X kF_X11_278 (Nat.le_of_ble_eq_true rfl) me_k53 me_f53_10 dX11_needless_22 ?_
          refine me_iconst X dX11_needless_25 ic_m1 ?_
          refine me_ixor X dX11_needless_26 ?_
          refine me_iand X dX11_needless_27 ?_
          obtain ⟨rfl, rfl⟩ := me_sp h
          exact me_iret X hr hlk dX11_needless_28
        · have h := me_in c6 h
          by_cases c6b : M2.2.1 0 = 58
          · have h := me_ip c6b h
            refine me_getd0 X c6b kF_X11_97 (Nat.le_of_ble_eq_true rfl) me_k0 me_f0_10 dX11_needless_19 ?_
            refine me_geti X kF_X11_278 (Nat.le_of_ble_eq_true rfl) me_k58 me_f58_10 dX11_needless_22 ?_
            refine me_iconst X dX11_needless_25 ic_m1 ?_
            refine me_ixor X dX11_needless_26 ?_
            refine me_iand X dX11_needless_27 ?_
            obtain ⟨rfl, rfl⟩ := me_sp h
            exact me_iret X hr hlk dX11_needless_28
          · have h := me_in c6b h
            cases h
      · have h := me_in c5 h
        by_cases c5b : M2.2.1 0 = 58
        · have h := me_ip c5b h
          refine me_getd0 X c5b kF_X11_97 (Nat.le_of_ble_eq_true rfl) me_k0 me_f0_10 dX11_needless_9 ?_
          refine me_geti X kF_X11_148 (Nat.le_of_ble_eq_true rfl) me_k58 me_f58_4 dX11_needless_12 ?_
          refine me_ishl X dX11_needless_15 ?_
          refine me_iconst X dX11_needless_16 ic_1 ?_
          refine me_isub X dX11_needless_17 ?_
          refine me_aload_n X (i := 0) 0 rfl dX11_needless_18 ?_
          by_cases c7 : M2.2.1 0 = 53
          · have h := me_ip c7 h
            refine me_getd0 X c7 kF_X11_97 (Nat.le_of_ble_eq_true rfl) me_k0 me_f0_10 dX11_needless_19 ?_
            refine me_geti X kF_X11_278 (Nat.le_of_ble_eq_true rfl) me_k53 me_f53_10 dX11_needless_22 ?_
            refine me_iconst X dX11_needless_25 ic_m1 ?_
            refine me_ixor X dX11_needless_26 ?_
            refine me_iand X dX11_needless_27 ?_
            obtain ⟨rfl, rfl⟩ := me_sp h
            exact me_iret X hr hlk dX11_needless_28
          · have h := me_in c7 h
            by_cases c7b : M2.2.1 0 = 58
            · have h := me_ip c7b h
              refine me_getd0 X c7b kF_X11_97 (Nat.le_of_ble_eq_true rfl) me_k0 me_f0_10 dX11_needless_19 ?_
              refine me_geti X kF_X11_278 (Nat.le_of_ble_eq_true rfl) me_k58 me_f58_10 dX11_needless_22 ?_
              refine me_iconst X dX11_needless_25 ic_m1 ?_
              refine me_ixor X dX11_needless_26 ?_
              refine me_iand X dX11_needless_27 ?_
              obtain ⟨rfl, rfl⟩ := me_sp h
              exact me_iret X hr hlk dX11_needless_28
            · have h := me_in c7b h
              cases h
        · have h := me_in c5b h
          cases h
    · have h := me_in c1b h
      cases h
def mX11_status_0 (M : me_M) (p0 : Int32) : Option Int32 :=
  (if p0 = 0 then some (M.1 0 13) else (if p0 = 1 then some (M.1 0 14) else (if p0 = 2 then some (M.1 0 15) else some (-1))))
set_option maxRecDepth 100000 in
set_option maxHeartbeats 4000000 in
theorem ctX11_status_0 {l : Launch} {n nt : Nat} (hn : 63 ≤ n) (hnt : 1 ≤ nt) {M : me_M} {p0 : Int32} {r : Int32} (h : mX11_status_0 M p0 = some r) : me_Ct l yX11_status cX11_status 2 (some .int) 0 n nt (fun ad => [.ref (ad 0), .int p0]) M (fun _ => some (.int r)) M := by
  unfold mX11_status_0 at h
  refine me_enter (N0 := 63) RX11 rfl (plainFor_of_name pl_RX11) hn (Nat.le_trans (by decide) hnt) (fun _ => Nat.le_of_ble_eq_true rfl) ?_
  intro p e R s m args below meth c D cA ad tys A X hr hlk
  refine me_sub (L' := [(0, .ref (ad 0)), (1, .int p0)]) [0, 1] rfl ?_
  refine me_iload_n X (i := 1) 1 rfl dX11_status_0 ?_
  by_cases c1 : p0 = 0
  · have h := me_ip c1 h
    refine me_tin X (off := 27) 28 (by rw [c1]; decide) (by rw [c1]; decide) (by rw [c1] <;> decide) (by decide) dX11_status_1 ?_
    refine me_aload_n X (i := 0) 0 rfl dX11_status_28 ?_
    refine me_geti X kF_X11_415 (Nat.le_of_ble_eq_true rfl) me_k0 me_f0_13 dX11_status_29 ?_
    obtain rfl := me_so h
    exact me_iret X hr hlk dX11_status_32
  · have h := me_in c1 h
    by_cases c2 : p0 = 1
    · have h := me_ip c2 h
      refine me_tin X (off := 32) 33 (by rw [c2]; decide) (by rw [c2]; decide) (by rw [c2] <;> decide) (by decide) dX11_status_1 ?_
      refine me_aload_n X (i := 0) 0 rfl dX11_status_33 ?_
      refine me_geti X kF_X11_418 (Nat.le_of_ble_eq_true rfl) me_k0 me_f0_14 dX11_status_34 ?_
      obtain rfl := me_so h
      exact me_iret X hr hlk dX11_status_37
    · have h := me_in c2 h
      by_cases c3 : p0 = 2
      · have h := me_ip c3 h
        refine me_tin X (off := 37) 38 (by rw [c3]; decide) (by rw [c3]; decide) (by rw [c3] <;> decide) (by decide) dX11_status_1 ?_
        refine me_aload_n X (i := 0) 0 rfl dX11_status_38 ?_
        refine me_geti X kF_X11_421 (Nat.le_of_ble_eq_true rfl) me_k0 me_f0_15 dX11_status_39 ?_
        obtain rfl := me_so h
        exact me_iret X hr hlk dX11_status_42
      · have h := me_in c3 h
        refine me_tout X 43 (by have q0 := lv_neT (k := 0) (a := 0) c1 (by decide); have q1 := lv_neT (k := 1) (a := 1) c2 (by decide); have q2 := lv_neT (k := 2) (a := 2) c3 (by decide); omega) (by decide) dX11_status_1 ?_
        refine me_iconst X dX11_status_43 ic_m1 ?_
        obtain rfl := me_so h
        exact me_iret X hr hlk dX11_status_44
def mX11_isSide_J9  : Option Int32 :=
  some 1
def mX11_isSide (p0 : Int32) : Option Int32 :=
  (if p0 = 0 then (mX11_isSide_J9 ) else (if p0 = 1 then (mX11_isSide_J9 ) else some 0))
set_option maxRecDepth 100000 in
set_option maxHeartbeats 4000000 in
theorem ctX11_isSide {l : Launch} {n nt : Nat} (hn : 63 ≤ n) (hnt : 1 ≤ nt) {M : me_M} {p0 : Int32} {r : Int32} (h : mX11_isSide p0 = some r) : me_Ct l yX11_isSide cX11_isSide 1 (some .boolean) 0 n nt (fun _ => [.int p0]) M (fun _ => some (.int r)) M := by
  unfold mX11_isSide at h
  refine me_enter (N0 := 63) RX11 rfl (plainFor_of_name pl_RX11) hn (Nat.le_trans (by decide) hnt) (fun _ => Nat.le_of_ble_eq_true rfl) ?_
  intro p e R s m args below meth c D cA ad tys A X hr hlk
  refine me_sub (L' := [(0, .int p0)]) [0] rfl ?_
  refine me_iload_n X (i := 0) 0 rfl dX11_isSide_0 ?_
  have hj9_1 : mX11_isSide_J9  = some r → me_W p l e R s m args below meth c 0 0 (MQ below (me_Qc D cA ad n A (some (.int r)) M) args s 0 0 A) D cA ad n 1 A 9 [] [] M := by
    intro h
    unfold mX11_isSide_J9 at h
    refine me_iconst X dX11_isSide_9 ic_1 ?_
    refine me_goto X 14 (by decide) dX11_isSide_10 ?_
    obtain rfl := me_so h
    exact me_zret X (by decide) hr hlk dX11_isSide_14
  refine me_if_eq X 9 (by decide) dX11_isSide_1 (fun c1 => ?_) (fun c1 => ?_)
  · have h := me_ip c1 h
    refine me_sub (L' := []) [] rfl ?_
    exact hj9_1  h
  · have h := me_in c1 h
    refine me_iload_n X (i := 0) 0 rfl dX11_isSide_4 ?_
    refine me_iconst X dX11_isSide_5 ic_1 ?_
    refine me_icmp_ne X 13 (by decide) dX11_isSide_6 (fun c2 => ?_) (fun c2 => ?_)
    · have h := me_in c2 h
      refine me_iconst X dX11_isSide_13 ic_0 ?_
      obtain rfl := me_so h
      exact me_zret X (by decide) hr hlk dX11_isSide_14
    · have h := me_ip c2 h
      refine me_sub (L' := []) [] rfl ?_
      exact hj9_1  h
def mX11_isWhat (p0 : Int32) (p1 : Int32) : Option Int32 :=
  (if p0 < 0 then some 0 else (if p1 < p0 then some 0 else some 1))
set_option maxRecDepth 100000 in
set_option maxHeartbeats 4000000 in
theorem ctX11_isWhat {l : Launch} {n nt : Nat} (hn : 63 ≤ n) (hnt : 1 ≤ nt) {M : me_M} {p0 : Int32} {p1 : Int32} {r : Int32} (h : mX11_isWhat p0 p1 = some r) : me_Ct l yX11_isWhat cX11_isWhat 2 (some .boolean) 0 n nt (fun _ => [.int p0, .int p1]) M (fun _ => some (.int r)) M := by
  unfold mX11_isWhat at h
  refine me_enter (N0 := 63) RX11 rfl (plainFor_of_name pl_RX11) hn (Nat.le_trans (by decide) hnt) (fun _ => Nat.le_of_ble_eq_true rfl) ?_
  intro p e R s m args below meth c D cA ad tys A X hr hlk
  refine me_sub (L' := [(0, .int p0), (1, .int p1)]) [0, 1] rfl ?_
  refine me_iload_n X (i := 0) 0 rfl dX11_isWhat_0 ?_
  refine me_if_lt X 13 (by decide) dX11_isWhat_1 (fun c1 => ?_) (fun c1 => ?_)
  · have h := me_ip c1 h
    refine me_iconst X dX11_isWhat_13 ic_0 ?_
    obtain rfl := me_so h
    exact me_zret X (by decide) hr hlk dX11_isWhat_14
  · have h := me_in c1 h
    refine me_iload_n X (i := 0) 0 rfl dX11_isWhat_4 ?_
    refine me_iload_n X (i := 1) 1 rfl dX11_isWhat_5 ?_
    refine me_icmp_gt X 13 (by decide) dX11_isWhat_6 (fun c2 => ?_) (fun c2 => ?_)
    · have h := me_ip c2 h
      refine me_iconst X dX11_isWhat_13 ic_0 ?_
      obtain rfl := me_so h
      exact me_zret X (by decide) hr hlk dX11_isWhat_14
    · have h := me_in c2 h
      refine me_iconst X dX11_isWhat_9 ic_1 ?_
      refine me_goto X 14 (by decide) dX11_isWhat_10 ?_
      obtain rfl := me_so h
      exact me_zret X (by decide) hr hlk dX11_isWhat_14
def mX11_isLength (p0 : Int32) : Option Int32 :=
  (if p0 < 1 then some 0 else (if 240 < p0 then some 0 else some 1))
set_option maxRecDepth 100000 in
set_option maxHeartbeats 4000000 in
theorem ctX11_isLength {l : Launch} {n nt : Nat} (hn : 63 ≤ n) (hnt : 1 ≤ nt) {M : me_M} {p0 : Int32} {r : Int32} (h : mX11_isLength p0 = some r) : me_Ct l yX11_isLength cX11_isLength 1 (some .boolean) 0 n nt (fun _ => [.int p0]) M (fun _ => some (.int r)) M := by
  unfold mX11_isLength at h
  refine me_enter (N0 := 63) RX11 rfl (plainFor_of_name pl_RX11) hn (Nat.le_trans (by decide) hnt) (fun _ => Nat.le_of_ble_eq_true rfl) ?_
  intro p e R s m args below meth c D cA ad tys A X hr hlk
  refine me_sub (L' := [(0, .int p0)]) [0] rfl ?_
  refine me_iload_n X (i := 0) 0 rfl dX11_isLength_0 ?_
  refine me_iconst X dX11_isLength_1 ic_1 ?_
  refine me_icmp_lt X 16 (by decide) dX11_isLength_2 (fun c1 => ?_) (fun c1 => ?_)
  · have h := me_ip c1 h
    refine me_iconst X dX11_isLength_16 ic_0 ?_
    obtain rfl := me_so h
    exact me_zret X (by decide) hr hlk dX11_isLength_17
  · have h := me_in c1 h
    refine me_iload_n X (i := 0) 0 rfl dX11_isLength_5 ?_
    refine me_sipush X dX11_isLength_6 is_240 ?_
    refine me_icmp_gt X 16 (by decide) dX11_isLength_9 (fun c2 => ?_) (fun c2 => ?_)
    · have h := me_ip c2 h
      refine me_iconst X dX11_isLength_16 ic_0 ?_
      obtain rfl := me_so h
      exact me_zret X (by decide) hr hlk dX11_isLength_17
    · have h := me_in c2 h
      refine me_iconst X dX11_isLength_12 ic_1 ?_
      refine me_goto X 17 (by decide) dX11_isLength_13 ?_
      obtain rfl := me_so h
      exact me_zret X (by decide) hr hlk dX11_isLength_17
def mX11_isOften (p0 : Int32) : Option Int32 :=
  (if p0 < 2 then some 0 else (if 241 < p0 then some 0 else some 1))
set_option maxRecDepth 100000 in
set_option maxHeartbeats 4000000 in
theorem ctX11_isOften {l : Launch} {n nt : Nat} (hn : 63 ≤ n) (hnt : 1 ≤ nt) {M : me_M} {p0 : Int32} {r : Int32} (h : mX11_isOften p0 = some r) : me_Ct l yX11_isOften cX11_isOften 1 (some .boolean) 0 n nt (fun _ => [.int p0]) M (fun _ => some (.int r)) M := by
  unfold mX11_isOften at h
  refine me_enter (N0 := 63) RX11 rfl (plainFor_of_name pl_RX11) hn (Nat.le_trans (by decide) hnt) (fun _ => Nat.le_of_ble_eq_true rfl) ?_
  intro p e R s m args below meth c D cA ad tys A X hr hlk
  refine me_sub (L' := [(0, .int p0)]) [0] rfl ?_
  refine me_iload_n X (i := 0) 0 rfl dX11_isOften_0 ?_
  refine me_iconst X dX11_isOften_1 ic_2 ?_
  refine me_icmp_lt X 16 (by decide) dX11_isOften_2 (fun c1 => ?_) (fun c1 => ?_)
  · have h := me_ip c1 h
    refine me_iconst X dX11_isOften_16 ic_0 ?_
    obtain rfl := me_so h
    exact me_zret X (by decide) hr hlk dX11_isOften_17
  · have h := me_in c1 h
    refine me_iload_n X (i := 0) 0 rfl dX11_isOften_5 ?_
    refine me_sipush X dX11_isOften_6 is_241 ?_
    refine me_icmp_gt X 16 (by decide) dX11_isOften_9 (fun c2 => ?_) (fun c2 => ?_)
    · have h := me_ip c2 h
      refine me_iconst X dX11_isOften_16 ic_0 ?_
      obtain rfl := me_so h
      exact me_zret X (by decide) hr hlk dX11_isOften_17
    · have h := me_in c2 h
      refine me_iconst X dX11_isOften_12 ic_1 ?_
      refine me_goto X 17 (by decide) dX11_isOften_13 ?_
      obtain rfl := me_so h
      exact me_zret X (by decide) hr hlk dX11_isOften_17
def mX11_byteOf (p0 : Int32) : Option Int32 :=
  (if p0 = 0 then some 0 else (if p0 = 1 then some 124 else some ((p0 - 2) + 97)))
set_option maxRecDepth 100000 in
set_option maxHeartbeats 4000000 in
theorem ctX11_byteOf {l : Launch} {n nt : Nat} (hn : 63 ≤ n) (hnt : 1 ≤ nt) {M : me_M} {p0 : Int32} {r : Int32} (h : mX11_byteOf p0 = some r) : me_Ct l yX11_byteOf cX11_byteOf 1 (some .int) 0 n nt (fun _ => [.int p0]) M (fun _ => some (.int r)) M := by
  unfold mX11_byteOf at h
  refine me_enter (N0 := 63) RX11 rfl (plainFor_of_name pl_RX11) hn (Nat.le_trans (by decide) hnt) (fun _ => Nat.le_of_ble_eq_true rfl) ?_
  intro p e R s m args below meth c D cA ad tys A X hr hlk
  refine me_sub (L' := [(0, .int p0)]) [0] rfl ?_
  refine me_iload_n X (i := 0) 0 rfl dX11_byteOf_0 ?_
  refine me_if_ne X 6 (by decide) dX11_byteOf_1 (fun c1 => ?_) (fun c1 => ?_)
  · have h := me_in c1 h
    refine me_iload_n X (i := 0) 0 rfl dX11_byteOf_6 ?_
    refine me_iconst X dX11_byteOf_7 ic_1 ?_
    refine me_icmp_ne X 16 (by decide) dX11_byteOf_8 (fun c2 => ?_) (fun c2 => ?_)
    · have h := me_in c2 h
      refine me_iload_n X (i := 0) 0 rfl dX11_byteOf_16 ?_
      refine me_iconst X dX11_byteOf_17 ic_2 ?_
      refine me_isub X dX11_byteOf_18 ?_
      refine me_bipush X dX11_byteOf_19 ib_97 ?_
      refine me_iadd X dX11_byteOf_21 ?_
      obtain rfl := me_so h
      exact me_iret X hr hlk dX11_byteOf_22
    · have h := me_ip c2 h
      refine me_bipush X dX11_byteOf_11 ib_124 ?_
      refine me_goto X 22 (by decide) dX11_byteOf_13 ?_
      obtain rfl := me_so h
      exact me_iret X hr hlk dX11_byteOf_22
  · have h := me_ip c1 h
    refine me_iconst X dX11_byteOf_4 ic_0 ?_
    obtain rfl := me_so h
    exact me_iret X hr hlk dX11_byteOf_5
