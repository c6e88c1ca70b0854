def mX8_mostIn_30_L15 (M : me_M) (v1 : Int32) : (Int32 × Int32) → Option ((Int32 × Int32) ⊕ (Int32))
  | (x2_1, x4_1) => ((me_r M 6 241 v1).bind fun v2 => (if (v1 + v2) ≤ x4_1 then some (.inr x2_1) else ((me_r M 31 241 x4_1).bind fun v3 => ((mJ9_max_7cf53 x2_1 v3).bind fun v4 => some (.inl (v4, (x4_1 + 1)))))))
def mX8_mostIn_30 (M : me_M) (p0 : Int32) : Option Int32 :=
  ((me_r M 8 241 p0).bind fun v1 => ((me_l (mX8_mostIn_30_L15 M v1) me_fu (0, v1)).bind fun y2_1 => some y2_1))
set_option maxRecDepth 100000 in
set_option maxHeartbeats 4000000 in
theorem ctX8_mostIn_30 {l : Launch} {n nt : Nat} (hn : 63 ≤ n) (hnt : 1 ≤ nt) {M : me_M} {p0 : Int32} {r : Int32} (h : mX8_mostIn_30 M p0 = some r) : me_Ct l yX8_mostIn cX8_mostIn 5 (some .int) 1 n nt (fun ad => [.ref (ad 30), .int p0]) M (fun _ => some (.int r)) M := by
  unfold mX8_mostIn_30 at h
  refine me_enter (N0 := 63) RX8 rfl (plainFor_of_name pl_RX8) hn (Nat.le_trans (by decide) hnt) (fun _ => Nat.le_of_ble_eq_true rfl) ?_
  intro p e R s m args below meth c D cA ad tys A X hr hlk
  refine me_sub (L' := [(0, .ref (ad 30)), (1, .int p0)]) [0, 1] rfl ?_
  refine me_iconst X dX8_mostIn_0 ic_0 ?_
  refine me_istore_n X (i := 2) [(2, .int 0), (0, .ref (ad 30)), (1, .int p0)] (Nat.le_of_ble_eq_true rfl) rfl dX8_mostIn_1 ?_
  refine me_aload_n X (i := 0) 1 rfl dX8_mostIn_2 ?_
  refine me_getr X 3 kF_X8_27 (Nat.le_of_ble_eq_true rfl) me_k30 me_f30_0 dX8_mostIn_3 ?_
  refine me_getr X 8 kF_X8_83 (Nat.le_of_ble_eq_true rfl) me_k3 me_f3_4 dX8_mostIn_6 ?_
  refine me_iload_n X (i := 1) 2 rfl dX8_mostIn_9 ?_
  obtain ⟨v1, e1, h⟩ := me_bd h
  refine me_iald X (Nat.le_of_ble_eq_true rfl) me_k8 e1 dX8_mostIn_10 ?_
  refine me_istore_n X (i := 3) [(3, .int v1), (2, .int 0), (0, .ref (ad 30)), (1, .int p0)] (Nat.le_of_ble_eq_true rfl) rfl dX8_mostIn_11 ?_
  refine me_iload_n X (i := 3) 0 rfl dX8_mostIn_12 ?_
  refine me_istore X (i := 4) [(4, .int v1), (3, .int v1), (2, .int 0), (0, .ref (ad 30)), (1, .int p0)] (Nat.le_of_ble_eq_true rfl) rfl dX8_mostIn_13 ?_
  obtain ⟨y2_1, hq1, h⟩ := me_bd h
  have hx1 : me_W p l e R s m args below meth c 0 0 (MQ below (me_Qc D cA ad n A (some (.int r)) M) args s 0 0 A) D cA ad n 5 A 49 [(2, .int y2_1)] [] M := by
    refine me_iload_n X (i := 2) 0 rfl dX8_mostIn_49 ?_
    obtain rfl := me_so h
    exact me_iret X hr hlk dX8_mostIn_50
  refine me_sub (L' := [(0, .ref (ad 30)), (2, .int 0), (3, .int v1), (4, .int v1)]) [3, 2, 1, 0] rfl ?_
  refine me_l_W (b := (mX8_mostIn_30_L15 M v1)) (P := fun w => me_W p l e R s m args below meth c 0 0 (MQ below (me_Qc D cA ad n A (some (.int r)) M) args s 0 0 A) D cA ad n 5 A 15 [(0, .ref (ad 30)), (2, .int w.1), (3, .int v1), (4, .int w.2)] [] M) (r := y2_1) ?_ me_fu (0, v1) hq1
  rintro ⟨x2_1, x4_1⟩ z1 h hb1 - hr1
  unfold mX8_mostIn_30_L15 at h
  refine me_iload X (i := 4) 3 rfl dX8_mostIn_15 ?_
  refine me_iload_n X (i := 3) 2 rfl dX8_mostIn_17 ?_
  refine me_aload_n X (i := 0) 0 rfl dX8_mostIn_18 ?_
  refine me_getr X 3 kF_X8_27 (Nat.le_of_ble_eq_true rfl) me_k30 me_f30_0 dX8_mostIn_19 ?_
  refine me_getr X 6 kF_X8_65 (Nat.le_of_ble_eq_true rfl) me_k3 me_f3_2 dX8_mostIn_22 ?_
  refine me_iload_n X (i := 3) 2 rfl dX8_mostIn_25 ?_
  obtain ⟨v2, e2, h⟩ := me_bd h
  refine me_iald X (Nat.le_of_ble_eq_true rfl) me_k6 e2 dX8_mostIn_26 ?_
  refine me_iadd X dX8_mostIn_27 ?_
  refine me_icmp_ge X 49 (by decide) dX8_mostIn_28 (fun c1 => ?_) (fun c1 => ?_)
  · have h := me_ip c1 h
    obtain rfl := me_so h
    have q := hr1 _ rfl
    refine me_sub (L' := [(2, .int x2_1)]) [1] rfl ?_
    cases q
    exact hx1
  · have h := me_in c1 h
    refine me_iload_n X (i := 2) 1 rfl dX8_mostIn_31 ?_
    refine me_aload_n X (i := 0) 0 rfl dX8_mostIn_32 ?_
    refine me_getr X 31 kF_X8_9 (Nat.le_of_ble_eq_true rfl) me_k30 me_f30_1 dX8_mostIn_33 ?_
    refine me_iload X (i := 4) 3 rfl dX8_mostIn_36 ?_
    obtain ⟨v3, e3, h⟩ := me_bd h
    refine me_iald X (Nat.le_of_ble_eq_true rfl) me_k31 e3 dX8_mostIn_38 ?_
    obtain ⟨v4, e4, h⟩ := me_bd h
    refine me_callSi X [.int x2_1, .int v3] (ctJ9_max_7cf53 hn (Nat.le_trans (by decide) hnt) e4) kS_X8_86 rfl rfl (Nat.le_of_ble_eq_true rfl) (Nat.le_refl _) (Nat.le_of_ble_eq_true rfl) dX8_mostIn_39 ?_
    refine me_istore_n X (i := 2) [(2, .int v4), (0, .ref (ad 30)), (3, .int v1), (4, .int x4_1)] (Nat.le_of_ble_eq_true rfl) rfl dX8_mostIn_42 ?_
    refine me_iinc X (v := (x4_1 + 1)) 3 rfl (in_1 _) [(4, .int (x4_1 + 1)), (2, .int v4), (0, .ref (ad 30)), (3, .int v1)] (Nat.le_of_ble_eq_true rfl) rfl dX8_mostIn_43 ?_
    refine me_goto X 15 (by decide) dX8_mostIn_46 ?_
    obtain rfl := me_so h
    refine me_sub (L' := [(0, .ref (ad 30)), (2, .int v4), (3, .int v1), (4, .int (x4_1 + 1))]) [2, 1, 3, 0] rfl ?_
    exact hb1 (v4, (x4_1 + 1)) rfl
def mX8_inAllOthers_30_L4 (M : me_M) : (Int32 × Int32) → Option ((Int32 × Int32) ⊕ (Int32))
  | (x2_1, x3_1) => (if (M.1 3 6) ≤ x3_1 then some (.inr x2_1) else ((mX8_mostIn_30 M x3_1).bind fun v1 => ((mJ9_min_7cf53 x2_1 v1).bind fun v2 => some (.inl (v2, (x3_1 + 1))))))
def mX8_inAllOthers_30 (M : me_M) (p0 : Int32) : Option Int32 :=
  ((me_l (mX8_inAllOthers_30_L4 M) me_fu (p0, 1)).bind fun y2_1 => some y2_1)
set_option maxRecDepth 100000 in
set_option maxHeartbeats 4000000 in
theorem ctX8_inAllOthers_30 {l : Launch} {n nt : Nat} (hn : 63 ≤ n) (hnt : 1 ≤ nt) {M : me_M} {p0 : Int32} {r : Int32} (h : mX8_inAllOthers_30 M p0 = some r) : me_Ct l yX8_inAllOthers cX8_inAllOthers 4 (some .int) 2 n nt (fun ad => [.ref (ad 30), .int p0]) M (fun _ => some (.int r)) M := by
  unfold mX8_inAllOthers_30 at h
  refine me_enter (N0 := 63) RX8 rfl (plainFor_of_name pl_RX8) hn (Nat.le_trans (by decide) hnt) (fun _ => Nat.le_of_ble_eq_true rfl) ?_
  intro p e R s m args below meth c D cA ad tys A X hr hlk
  refine me_sub (L' := [(0, .ref (ad 30)), (1, .int p0)]) [0, 1] rfl ?_
  refine me_iload_n X (i := 1) 1 rfl dX8_inAllOthers_0 ?_
  refine me_istore_n X (i := 2) [(2, .int p0), (0, .ref (ad 30)), (1, .int p0)] (Nat.le_of_ble_eq_true rfl) rfl dX8_inAllOthers_1 ?_
  refine me_iconst X dX8_inAllOthers_2 ic_1 ?_
  refine me_istore_n X (i := 3) [(3, .int 1), (2, .int p0), (0, .ref (ad 30)), (1, .int p0)] (Nat.le_of_ble_eq_true rfl) rfl dX8_inAllOthers_3 ?_
  obtain ⟨y2_1, hq1, h⟩ := me_bd h
  have hx1 : me_W p l e R s m args below meth c 0 0 (MQ below (me_Qc D cA ad n A (some (.int r)) M) args s 0 0 A) D cA ad n 4 A 31 [(2, .int y2_1)] [] M := by
    refine me_iload_n X (i := 2) 0 rfl dX8_inAllOthers_31 ?_
    obtain rfl := me_so h
    exact me_iret X hr hlk dX8_inAllOthers_32
  refine me_sub (L' := [(0, .ref (ad 30)), (2, .int p0), (3, .int 1)]) [2, 1, 0] rfl ?_
  refine me_l_W (b := (mX8_inAllOthers_30_L4 M)) (P := fun w => me_W p l e R s m args below meth c 0 0 (MQ below (me_Qc D cA ad n A (some (.int r)) M) args s 0 0 A) D cA ad n 4 A 4 [(0, .ref (ad 30)), (2, .int w.1), (3, .int w.2)] [] M) (r := y2_1) ?_ me_fu (p0, 1) hq1
  rintro ⟨x2_1, x3_1⟩ z1 h hb1 - hr1
  unfold mX8_inAllOthers_30_L4 at h
  refine me_iload_n X (i := 3) 2 rfl dX8_inAllOthers_4 ?_
  refine me_aload_n X (i := 0) 0 rfl dX8_inAllOthers_5 ?_
  refine me_getr X 3 kF_X8_27 (Nat.le_of_ble_eq_true rfl) me_k30 me_f30_0 dX8_inAllOthers_6 ?_
  refine me_geti X kF_X8_71 (Nat.le_of_ble_eq_true rfl) me_k3 me_f3_6 dX8_inAllOthers_9 ?_
  refine me_icmp_ge X 31 (by decide) dX8_inAllOthers_12 (fun c1 => ?_) (fun c1 => ?_)
  · have h := me_ip c1 h
    obtain rfl := me_so h
    have q := hr1 _ rfl
    refine me_sub (L' := [(2, .int x2_1)]) [1] rfl ?_
    cases q
    exact hx1
  · have h := me_in c1 h
    refine me_iload_n X (i := 2) 1 rfl dX8_inAllOthers_15 ?_
    refine me_aload_n X (i := 0) 0 rfl dX8_inAllOthers_16 ?_
    refine me_iload_n X (i := 3) 2 rfl dX8_inAllOthers_17 ?_
    obtain ⟨v1, e1, h⟩ := me_bd h
    refine me_callVi X [.int x3_1] (ctX8_mostIn_30 hn (Nat.le_trans (by decide) hnt) e1) kV_X8_74 rfl rfl (Nat.le_of_ble_eq_true rfl) me_k30 (Nat.le_of_ble_eq_true rfl) (Nat.le_refl _) (Nat.le_of_ble_eq_true rfl) dX8_inAllOthers_18 ?_
    obtain ⟨v2, e2, h⟩ := me_bd h
    refine me_callSi X [.int x2_1, .int v1] (ctJ9_min_7cf53 hn (Nat.le_trans (by decide) hnt) e2) kS_X8_77 rfl rfl (Nat.le_of_ble_eq_true rfl) (Nat.le_refl _) (Nat.le_of_ble_eq_true rfl) dX8_inAllOthers_21 ?_
    refine me_istore_n X (i := 2) [(2, .int v2), (0, .ref (ad 30)), (3, .int x3_1)] (Nat.le_of_ble_eq_true rfl) rfl dX8_inAllOthers_24 ?_
    refine me_iinc X (v := (x3_1 + 1)) 2 rfl (in_1 _) [(3, .int (x3_1 + 1)), (2, .int v2), (0, .ref (ad 30))] (Nat.le_of_ble_eq_true rfl) rfl dX8_inAllOthers_25 ?_
    refine me_goto X 4 (by decide) dX8_inAllOthers_28 ?_
    obtain rfl := me_so h
    refine me_sub (L' := [(0, .ref (ad 30)), (2, .int v2), (3, .int (x3_1 + 1))]) [2, 1, 0] rfl ?_
    exact hb1 (v2, (x3_1 + 1)) rfl
def mX8_findCommon_30_J79 (x1_1 : Int32) (M4 : me_M) : Option ((Int32 × me_M) ⊕ (me_M)) :=
  some (.inl ((x1_1 + (-1)), M4))
def mX8_findCommon_30_L26  : (Int32 × me_M) → Option ((Int32 × me_M) ⊕ (me_M))
  | (x1_1, M2) => (if x1_1 < 0 then some (.inr M2) else ((me_r M2 4 241 x1_1).bind fun v3 => ((mX8_readAhead_30 M2 v3).bind fun M3 => ((me_r M3 6 241 x1_1).bind fun v5 => ((mX8_inAllOthers_30 M3 v5).bind fun v6 => (if v6 ≤ 0 then (mX8_findCommon_30_J79 x1_1 M3) else (if v6 < (M3.1 30 7) then (mX8_findCommon_30_J79 x1_1 M3) else (mX8_findCommon_30_J79 x1_1 (me_s (me_s M3 30 7 v6) 30 8 x1_1)))))))))
def mX8_findCommon_30 (M : me_M)  : Option me_M :=
  ((mX8_beginReading_30 (me_s (me_s M 30 7 0) 30 8 (-1))).bind fun M1 => ((me_r M1 6 241 0).bind fun v2 => ((me_l mX8_findCommon_30_L26 me_fu ((v2 - 1), M1)).bind fun M5 => some M5)))
set_option maxRecDepth 100000 in
set_option maxHeartbeats 4000000 in
theorem ctX8_findCommon_30 {l : Launch} {n nt : Nat} (hn : 63 ≤ n) (hnt : 1 ≤ nt) {M : me_M} {M' : me_M} (h : mX8_findCommon_30 M = some M') : me_Ct l yX8_findCommon cX8_findCommon 3 none 3 n nt (fun ad => [.ref (ad 30)]) M (fun _ => none) M' := by
  unfold mX8_findCommon_30 at h
  refine me_enter (N0 := 63) RX8 rfl (plainFor_of_name pl_RX8) hn (Nat.le_trans (by decide) hnt) (fun _ => Nat.le_of_ble_eq_true rfl) ?_
  intro p e R s m args below meth c D cA ad tys A X hr hlk
  refine me_sub (L' := [(0, .ref (ad 30))]) [0] rfl ?_
  refine me_aload_n X (i := 0) 0 rfl dX8_findCommon_0 ?_
  refine me_iconst X dX8_findCommon_1 ic_0 ?_
  refine me_puti X kG_X8_59 (Nat.le_of_ble_eq_true rfl) me_k30 me_f30_7 dX8_findCommon_2 ?_
  refine me_aload_n X (i := 0) 0 rfl dX8_findCommon_5 ?_
  refine me_iconst X dX8_findCommon_6 ic_m1 ?_
  refine me_puti X kG_X8_62 (Nat.le_of_ble_eq_true rfl) me_k30 me_f30_8 dX8_findCommon_7 ?_
  refine me_aload_n X (i := 0) 0 rfl dX8_findCommon_10 ?_
  obtain ⟨M1, e1, h⟩ := me_bd h
  refine me_callVv X [] (ctX8_beginReading_30 hn (Nat.le_trans (by decide) hnt) e1) kV_X8_40 rfl rfl (Nat.le_of_ble_eq_true rfl) me_k30 (Nat.le_of_ble_eq_true rfl) (Nat.le_refl _) (Nat.le_of_ble_eq_true rfl) dX8_findCommon_11 ?_
  refine me_aload_n X (i := 0) 0 rfl dX8_findCommon_14 ?_
  refine me_getr X 3 kF_X8_27 (Nat.le_of_ble_eq_true rfl) me_k30 me_f30_0 dX8_findCommon_15 ?_
  refine me_getr X 6 kF_X8_65 (Nat.le_of_ble_eq_true rfl) me_k3 me_f3_2 dX8_findCommon_18 ?_
  refine me_iconst X dX8_findCommon_21 ic_0 ?_
  obtain ⟨v2, e2, h⟩ := me_bd h
  refine me_iald X (Nat.le_of_ble_eq_true rfl) me_k6 e2 dX8_findCommon_22 ?_
  refine me_iconst X dX8_findCommon_23 ic_1 ?_
  refine me_isub X dX8_findCommon_24 ?_
  refine me_istore_n X (i := 1) [(1, .int (v2 - 1)), (0, .ref (ad 30))] (Nat.le_of_ble_eq_true rfl) rfl dX8_findCommon_25 ?_
  obtain ⟨M5, hq1, h⟩ := me_bd h
  have hx1 : me_W p l e R s m args below meth c 0 0 (MQ below (me_Qc D cA ad n A none M') args s 0 0 A) D cA ad n 3 A 85 [] [] M5 := by
    obtain rfl := me_so h
    exact me_vret X hr hlk dX8_findCommon_85
  refine me_sub (L' := [(0, .ref (ad 30)), (1, .int (v2 - 1))]) [1, 0] rfl ?_
  refine me_l_W (b := mX8_findCommon_30_L26) (P := fun w => me_W p l e R s m args below meth c 0 0 (MQ below (me_Qc D cA ad n A none M') args s 0 0 A) D cA ad n 3 A 26 [(0, .ref (ad 30)), (1, .int w.1)] [] w.2) (r := M5) ?_ me_fu ((v2 - 1), M1) hq1
  rintro ⟨x1_1, M2⟩ z1 h hb1 - hr1
  unfold mX8_findCommon_30_L26 at h
  refine me_iload_n X (i := 1) 1 rfl dX8_findCommon_26 ?_
  refine me_if_lt X 85 (by decide) dX8_findCommon_27 (fun c1 => ?_) (fun c1 => ?_)
  · have h := me_ip c1 h
    obtain rfl := me_so h
    have q := hr1 _ rfl
    refine me_sub (L' := []) [] rfl ?_
    cases q
    exact hx1
  · have h := me_in c1 h
    refine me_aload_n X (i := 0) 0 rfl dX8_findCommon_30 ?_
    refine me_aload_n X (i := 0) 0 rfl dX8_findCommon_31 ?_
    refine me_getr X 3 kF_X8_27 (Nat.le_of_ble_eq_true rfl) me_k30 me_f30_0 dX8_findCommon_32 ?_
    refine me_getr X 4 kF_X8_37 (Nat.le_of_ble_eq_true rfl) me_k3 me_f3_0 dX8_findCommon_35 ?_
    refine me_iload_n X (i := 1) 1 rfl dX8_findCommon_38 ?_
    obtain ⟨v3, e3, h⟩ := me_bd h
    refine me_iald X (Nat.le_of_ble_eq_true rfl) me_k4 e3 dX8_findCommon_39 ?_
    obtain ⟨M3, e4, h⟩ := me_bd h
    refine me_callVv X [.int v3] (ctX8_readAhead_30 hn (Nat.le_trans (by decide) hnt) e4) kV_X8_49 rfl rfl (Nat.le_of_ble_eq_true rfl) me_k30 (Nat.le_of_ble_eq_true rfl) (Nat.le_refl _) (Nat.le_of_ble_eq_true rfl) dX8_findCommon_40 ?_
    refine me_aload_n X (i := 0) 0 rfl dX8_findCommon_43 ?_
    refine me_aload_n X (i := 0) 0 rfl dX8_findCommon_44 ?_
    refine me_getr X 3 kF_X8_27 (Nat.le_of_ble_eq_true rfl) me_k30 me_f30_0 dX8_findCommon_45 ?_
    refine me_getr X 6 kF_X8_65 (Nat.le_of_ble_eq_true rfl) me_k3 me_f3_2 dX8_findCommon_48 ?_
    refine me_iload_n X (i := 1) 1 rfl dX8_findCommon_51 ?_
    obtain ⟨v5, e5, h⟩ := me_bd h
    refine me_iald X (Nat.le_of_ble_eq_true rfl) me_k6 e5 dX8_findCommon_52 ?_
    obtain ⟨v6, e6, h⟩ := me_bd h
    refine me_callVi X [.int v5] (ctX8_inAllOthers_30 hn (Nat.le_trans (by decide) hnt) e6) kV_X8_68 rfl rfl (Nat.le_of_ble_eq_true rfl) me_k30 (Nat.le_of_ble_eq_true rfl) (Nat.le_refl _) (Nat.le_of_ble_eq_true rfl) dX8_findCommon_53 ?_
    refine me_istore_n X (i := 2) [(2, .int v6), (0, .ref (ad 30)), (1, .int x1_1)] (Nat.le_of_ble_eq_true rfl) rfl dX8_findCommon_56 ?_
    refine me_iload_n X (i := 2) 0 rfl dX8_findCommon_57 ?_
    have hj79_1 : ∀ (M4 : me_M), mX8_findCommon_30_J79 x1_1 M4 = some z1 → me_W p l e R s m args below meth c 0 0 (MQ below (me_Qc D cA ad n A none M') args s 0 0 A) D cA ad n 3 A 79 [(0, .ref (ad 30)), (1, .int x1_1)] [] M4 := by
      intro M4 h
      unfold mX8_findCommon_30_J79 at h
      refine me_iinc X (v := (x1_1 + (-1))) 1 rfl (in_m1 _) [(1, .int (x1_1 + (-1))), (0, .ref (ad 30))] (Nat.le_of_ble_eq_true rfl) rfl dX8_findCommon_79 ?_
      refine me_goto X 26 (by decide) dX8_findCommon_82 ?_
      obtain rfl := me_so h
      refine me_sub (L' := [(0, .ref (ad 30)), (1, .int (x1_1 + (-1)))]) [1, 0] rfl ?_
      exact hb1 ((x1_1 + (-1)), M4) rfl
    refine me_if_le X 79 (by decide) dX8_findCommon_58 (fun c2 => ?_) (fun c2 => ?_)
    · have h := me_ip c2 h
      refine me_sub (L' := [(0, .ref (ad 30)), (1, .int x1_1)]) [1, 2] rfl ?_
      exact hj79_1 M3 h
    · have h := me_in c2 h
      refine me_iload_n X (i := 2) 0 rfl dX8_findCommon_61 ?_
      refine me_aload_n X (i := 0) 1 rfl dX8_findCommon_62 ?_
      refine me_geti X kF_X8_59 (Nat.le_of_ble_eq_true rfl) me_k30 me_f30_7 dX8_findCommon_63 ?_
      refine me_icmp_lt X 79 (by decide) dX8_findCommon_66 (fun c3 => ?_) (fun c3 => ?_)
      · have h := me_ip c3 h
        refine me_sub (L' := [(0, .ref (ad 30)), (1, .int x1_1)]) [1, 2] rfl ?_
        exact hj79_1 M3 h
      · have h := me_in c3 h
        refine me_aload_n X (i := 0) 1 rfl dX8_findCommon_69 ?_
        refine me_iload_n X (i := 2) 0 rfl dX8_findCommon_70 ?_
        refine me_puti X kG_X8_59 (Nat.le_of_ble_eq_true rfl) me_k30 me_f30_7 dX8_findCommon_71 ?_
        refine me_aload_n X (i := 0) 1 rfl dX8_findCommon_74 ?_
        refine me_iload_n X (i := 1) 2 rfl dX8_findCommon_75 ?_
        refine me_puti X kG_X8_62 (Nat.le_of_ble_eq_true rfl) me_k30 me_f30_8 dX8_findCommon_76 ?_
        refine me_sub (L' := [(0, .ref (ad 30)), (1, .int x1_1)]) [1, 2] rfl ?_
        exact hj79_1 (me_s (me_s M3 30 7 v6) 30 8 x1_1) h
def mX1_forget_36_L12  : (Int32 × me_M) → Option ((Int32 × me_M) ⊕ (me_M))
  | (x1_1, M1) => (if 240 < x1_1 then some (.inr M1) else ((me_t M1 45 241 x1_1 0).bind fun M2 => some (.inl ((x1_1 + 1), M2))))
def mX1_forget_36 (M : me_M)  : Option me_M :=
  ((me_l mX1_forget_36_L12 me_fu (0, (me_s (me_s M 36 10 0) 36 11 0))).bind fun M3 => some M3)
set_option maxRecDepth 100000 in
set_option maxHeartbeats 4000000 in
theorem ctX1_forget_36 {l : Launch} {n nt : Nat} (hn : 63 ≤ n) (hnt : 1 ≤ nt) {M : me_M} {M' : me_M} (h : mX1_forget_36 M = some M') : me_Ct l yX1_forget cX1_forget 2 none 0 n nt (fun ad => [.ref (ad 36)]) M (fun _ => none) M' := by
  unfold mX1_forget_36 at h
  refine me_enter (N0 := 63) RX1 rfl (plainFor_of_name pl_RX1) hn (Nat.le_trans (by decide) hnt) (fun _ => Nat.le_of_ble_eq_true rfl) ?_
  intro p e R s m args below meth c D cA ad tys A X hr hlk
  refine me_sub (L' := [(0, .ref (ad 36))]) [0] rfl ?_
  refine me_aload_n X (i := 0) 0 rfl dX1_forget_0 ?_
  refine me_iconst X dX1_forget_1 ic_0 ?_
  refine me_puti X kG_X1_47 (Nat.le_of_ble_eq_true rfl) me_k36 me_f36_10 dX1_forget_2 ?_
  refine me_aload_n X (i := 0) 0 rfl dX1_forget_5 ?_
  refine me_iconst X dX1_forget_6 ic_0 ?_
  refine me_puti X kG_X1_51 (Nat.le_of_ble_eq_true rfl) me_k36 me_f36_11 dX1_forget_7 ?_
  refine me_iconst X dX1_forget_10 ic_0 ?_
  refine me_istore_n X (i := 1) [(1, .int 0), (0, .ref (ad 36))] (Nat.le_of_ble_eq_true rfl) rfl dX1_forget_11 ?_
  obtain ⟨M3, hq1, h⟩ := me_bd h
  have hx1 : me_W p l e R s m args below meth c 0 0 (MQ below (me_Qc D cA ad n A none M') args s 0 0 A) D cA ad n 2 A 32 [] [] M3 := by
    obtain rfl := me_so h
    exact me_vret X hr hlk dX1_forget_32
  refine me_sub (L' := [(0, .ref (ad 36)), (1, .int 0)]) [1, 0] rfl ?_
  refine me_l_W (b := mX1_forget_36_L12) (P := fun w => me_W p l e R s m args below meth c 0 0 (MQ below (me_Qc D cA ad n A none M') args s 0 0 A) D cA ad n 2 A 12 [(0, .ref (ad 36)), (1, .int w.1)] [] w.2) (r := M3) ?_ me_fu (0, (me_s (me_s M 36 10 0) 36 11 0)) hq1
  rintro ⟨x1_1, M1⟩ z1 h hb1 - hr1
  unfold mX1_forget_36_L12 at h
  refine me_iload_n X (i := 1) 1 rfl dX1_forget_12 ?_
  refine me_sipush X dX1_forget_13 is_240 ?_
  refine me_icmp_gt X 32 (by decide) dX1_forget_16 (fun c1 => ?_) (fun c1 => ?_)
  · have h := me_ip c1 h
    obtain rfl := me_so h
    have q := hr1 _ rfl
    refine me_sub (L' := []) [] rfl ?_
    cases q
    exact hx1
  · have h := me_in c1 h
    refine me_aload_n X (i := 0) 0 rfl dX1_forget_19 ?_
    refine me_getr X 45 kF_X1_24 (Nat.le_of_ble_eq_true rfl) me_k36 me_f36_7 dX1_forget_20 ?_
    refine me_iload_n X (i := 1) 1 rfl dX1_forget_23 ?_
    refine me_iconst X dX1_forget_24 ic_0 ?_
    obtain ⟨M2, e1, h⟩ := me_bd h
    refine me_iast X (Nat.le_of_ble_eq_true rfl) me_k45 e1 dX1_forget_25 ?_
    refine me_iinc X (v := (x1_1 + 1)) 1 rfl (in_1 _) [(1, .int (x1_1 + 1)), (0, .ref (ad 36))] (Nat.le_of_ble_eq_true rfl) rfl dX1_forget_26 ?_
    refine me_goto X 12 (by decide) dX1_forget_29 ?_
    obtain rfl := me_so h
    refine me_sub (L' := [(0, .ref (ad 36)), (1, .int (x1_1 + 1))]) [1, 0] rfl ?_
    exact hb1 ((x1_1 + 1), M2) rfl
def mX1_planLetter_36 (M : me_M) (p0 : Int32) (p1 : Int32) (p2 : Int32) : Option me_M :=
  (if 24 ≤ (M.1 36 9) then some M else ((me_t M 41 24 (M.1 36 9) p0).bind fun M1 => ((me_t M1 42 24 (M1.1 36 9) p1).bind fun M2 => ((me_t M2 43 24 (M2.1 36 9) 0).bind fun M3 => ((me_t M3 44 24 (M3.1 36 9) p2).bind fun M4 => some (me_s M4 36 9 ((M4.1 36 9) + 1)))))))
set_option maxRecDepth 100000 in
set_option maxHeartbeats 4000000 in
theorem ctX1_planLetter_36 {l : Launch} {n nt : Nat} (hn : 63 ≤ n) (hnt : 1 ≤ nt) {M : me_M} {p0 : Int32} {p1 : Int32} {p2 : Int32} {M' : me_M} (h : mX1_planLetter_36 M p0 p1 p2 = some M') : me_Ct l yX1_planLetter cX1_planLetter 4 none 0 n nt (fun ad => [.ref (ad 36), .int p0, .int p1, .int p2]) M (fun _ => none) M' := by
  unfold mX1_planLetter_36 at h
  refine me_enter (N0 := 63) RX1 rfl (plainFor_of_name pl_RX1) hn (Nat.le_trans (by decide) hnt) (fun _ => Nat.le_of_ble_eq_true rfl) ?_
  intro p e R s m args below meth c D cA ad tys A X hr hlk
  refine me_sub (L' := [(0, .ref (ad 36)), (1, .int p0), (2, .int p1), (3, .int p2)]) [0, 1, 2, 3] rfl ?_
  refine me_aload_n X (i := 0) 0 rfl dX1_planLetter_0 ?_
  refine me_geti X kF_X1_54 (Nat.le_of_ble_eq_true rfl) me_k36 me_f36_9 dX1_planLetter_1 ?_
  refine me_bipush X dX1_planLetter_4 ib_24 ?_
  refine me_icmp_ge X 59 (by decide) dX1_planLetter_6 (fun c1 => ?_) (fun c1 => ?_)
  · have h := me_ip c1 h
    obtain rfl := me_so h
    exact me_vret X hr hlk dX1_planLetter_59
  · have h := me_in c1 h
    refine me_aload_n X (i := 0) 0 rfl dX1_planLetter_9 ?_
    refine me_getr X 41 kF_X1_9 (Nat.le_of_ble_eq_true rfl) me_k36 me_f36_3 dX1_planLetter_10 ?_
    refine me_aload_n X (i := 0) 0 rfl dX1_planLetter_13 ?_
    refine me_geti X kF_X1_54 (Nat.le_of_ble_eq_true rfl) me_k36 me_f36_9 dX1_planLetter_14 ?_
    refine me_iload_n X (i := 1) 1 rfl dX1_planLetter_17 ?_
    obtain ⟨M1, e1, h⟩ := me_bd h
    refine me_iast X (Nat.le_of_ble_eq_true rfl) me_k41 e1 dX1_planLetter_18 ?_
    refine me_aload_n X (i := 0) 0 rfl dX1_planLetter_19 ?_
    refine me_getr X 42 kF_X1_15 (Nat.le_of_ble_eq_true rfl) me_k36 me_f36_4 dX1_planLetter_20 ?_
    refine me_aload_n X (i := 0) 0 rfl dX1_planLetter_23 ?_
    refine me_geti X kF_X1_54 (Nat.le_of_ble_eq_true rfl) me_k36 me_f36_9 dX1_planLetter_24 ?_
    refine me_iload_n X (i := 2) 2 rfl dX1_planLetter_27 ?_
    obtain ⟨M2, e2, h⟩ := me_bd h
    refine me_iast X (Nat.le_of_ble_eq_true rfl) me_k42 e2 dX1_planLetter_28 ?_
    refine me_aload_n X (i := 0) 0 rfl dX1_planLetter_29 ?_
    refine me_getr X 43 kF_X1_18 (Nat.le_of_ble_eq_true rfl) me_k36 me_f36_5 dX1_planLetter_30 ?_
    refine me_aload_n X (i := 0) 0 rfl dX1_planLetter_33 ?_
    refine me_geti X kF_X1_54 (Nat.le_of_ble_eq_true rfl) me_k36 me_f36_9 dX1_planLetter_34 ?_
    refine me_iconst X dX1_planLetter_37 ic_0 ?_
    obtain ⟨M3, e3, h⟩ := me_bd h
    refine me_iast X (Nat.le_of_ble_eq_true rfl) me_k43 e3 dX1_planLetter_38 ?_
    refine me_aload_n X (i := 0) 0 rfl dX1_planLetter_39 ?_
    refine me_getr X 44 kF_X1_21 (Nat.le_of_ble_eq_true rfl) me_k36 me_f36_6 dX1_planLetter_40 ?_
    refine me_aload_n X (i := 0) 0 rfl dX1_planLetter_43 ?_
    refine me_geti X kF_X1_54 (Nat.le_of_ble_eq_true rfl) me_k36 me_f36_9 dX1_planLetter_44 ?_
    refine me_iload_n X (i := 3) 3 rfl dX1_planLetter_47 ?_
    obtain ⟨M4, e4, h⟩ := me_bd h
    refine me_iast X (Nat.le_of_ble_eq_true rfl) me_k44 e4 dX1_planLetter_48 ?_
    refine me_aload_n X (i := 0) 0 rfl dX1_planLetter_49 ?_
    refine me_dup X rfl dX1_planLetter_50 ?_
    refine me_geti X kF_X1_54 (Nat.le_of_ble_eq_true rfl) me_k36 me_f36_9 dX1_planLetter_51 ?_
    refine me_iconst X dX1_planLetter_54 ic_1 ?_
    refine me_iadd X dX1_planLetter_55 ?_
    refine me_puti X kG_X1_54 (Nat.le_of_ble_eq_true rfl) me_k36 me_f36_9 dX1_planLetter_56 ?_
    obtain rfl := me_so h
    exact me_vret X hr hlk dX1_planLetter_59
def mX1_planRightwards_36_48_L3 (p1 : Int32) (p2 : Int32) : (Int32 × me_M) → Option ((Int32 × me_M) ⊕ (me_M))
  | (x5_1, M1) => (if p1 ≤ x5_1 then some (.inr M1) else ((me_r M1 48 24 x5_1).bind fun v1 => ((mX1_planLetter_36 M1 v1 1 p2).bind fun M2 => some (.inl ((x5_1 + 1), M2)))))
def mX1_planRightwards_36_48 (M : me_M) (p0 : Int32) (p1 : Int32) (p2 : Int32) : Option me_M :=
  ((me_l (mX1_planRightwards_36_48_L3 p1 p2) me_fu (p0, M)).bind fun M3 => some M3)
set_option maxRecDepth 100000 in
set_option maxHeartbeats 4000000 in
theorem ctX1_planRightwards_36_48 {l : Launch} {n nt : Nat} (hn : 63 ≤ n) (hnt : 1 ≤ nt) {M : me_M} {p0 : Int32} {p1 : Int32} {p2 : Int32} {M' : me_M} (h : mX1_planRightwards_36_48 M p0 p1 p2 = some M') : me_Ct l yX1_planRightwards cX1_planRightwards 6 none 1 n nt (fun ad => [.ref (ad 36), .ref (ad 48), .int p0, .int p1, .int p2]) M (fun _ => none) M' := by
  unfold mX1_planRightwards_36_48 at h
  refine me_enter (N0 := 63) RX1 rfl (plainFor_of_name pl_RX1) hn (Nat.le_trans (by decide) hnt) (fun _ => Nat.le_of_ble_eq_true rfl) ?_
  intro p e R s m args below meth c D cA ad tys A X hr hlk
  refine me_sub (L' := [(0, .ref (ad 36)), (1, .ref (ad 48)), (2, .int p0), (3, .int p1), (4, .int p2)]) [0, 1, 2, 3, 4] rfl ?_
  refine me_iload_n X (i := 2) 2 rfl dX1_planRightwards_0 ?_
  refine me_istore X (i := 5) [(5, .int p0), (0, .ref (ad 36)), (1, .ref (ad 48)), (2, .int p0), (3, .int p1), (4, .int p2)] (Nat.le_of_ble_eq_true rfl) rfl dX1_planRightwards_1 ?_
  obtain ⟨M3, hq1, h⟩ := me_bd h
  have hx1 : me_W p l e R s m args below meth c 0 0 (MQ below (me_Qc D cA ad n A none M') args s 0 0 A) D cA ad n 6 A 26 [] [] M3 := by
    obtain rfl := me_so h
    exact me_vret X hr hlk dX1_planRightwards_26
  refine me_sub (L' := [(0, .ref (ad 36)), (1, .ref (ad 48)), (3, .int p1), (4, .int p2), (5, .int p0)]) [1, 2, 4, 5, 0] rfl ?_
  refine me_l_W (b := (mX1_planRightwards_36_48_L3 p1 p2)) (P := fun w => me_W p l e R s m args below meth c 0 0 (MQ below (me_Qc D cA ad n A none M') args s 0 0 A) D cA ad n 6 A 3 [(0, .ref (ad 36)), (1, .ref (ad 48)), (3, .int p1), (4, .int p2), (5, .int w.1)] [] w.2) (r := M3) ?_ me_fu (p0, M) hq1
  rintro ⟨x5_1, M1⟩ z1 h hb1 - hr1
  unfold mX1_planRightwards_36_48_L3 at h
  refine me_iload X (i := 5) 4 rfl dX1_planRightwards_3 ?_
  refine me_iload_n X (i := 3) 2 rfl dX1_planRightwards_5 ?_
  refine me_icmp_ge X 26 (by decide) dX1_planRightwards_6 (fun c1 => ?_) (fun c1 => ?_)
  · have h := me_ip c1 h
    obtain rfl := me_so h
    have q := hr1 _ rfl
    refine me_sub (L' := []) [] rfl ?_
    cases q
    exact hx1
  · have h := me_in c1 h
    refine me_aload_n X (i := 0) 0 rfl dX1_planRightwards_9 ?_
    refine me_aload_n X (i := 1) 1 rfl dX1_planRightwards_10 ?_
    refine me_iload X (i := 5) 4 rfl dX1_planRightwards_11 ?_
    obtain ⟨v1, e1, h⟩ := me_bd h
    refine me_iald X (Nat.le_of_ble_eq_true rfl) me_k48 e1 dX1_planRightwards_13 ?_
    refine me_iconst X dX1_planRightwards_14 ic_1 ?_
    refine me_iload X (i := 4) 3 rfl dX1_planRightwards_15 ?_
    obtain ⟨M2, e2, h⟩ := me_bd h
    refine me_callVv X [.int v1, .int 1, .int p2] (ctX1_planLetter_36 hn (Nat.le_trans (by decide) hnt) e2) kV_X1_85 rfl rfl (Nat.le_of_ble_eq_true rfl) me_k36 (Nat.le_of_ble_eq_true rfl) (Nat.le_refl _) (Nat.le_of_ble_eq_true rfl) dX1_planRightwards_17 ?_
    refine me_iinc X (v := (x5_1 + 1)) 4 rfl (in_1 _) [(5, .int (x5_1 + 1)), (0, .ref (ad 36)), (1, .ref (ad 48)), (3, .int p1), (4, .int p2)] (Nat.le_of_ble_eq_true rfl) rfl dX1_planRightwards_20 ?_
    refine me_goto X 3 (by decide) dX1_planRightwards_23 ?_
    obtain rfl := me_so h
    refine me_sub (L' := [(0, .ref (ad 36)), (1, .ref (ad 48)), (3, .int p1), (4, .int p2), (5, .int (x5_1 + 1))]) [1, 2, 3, 4, 0] rfl ?_
    exact hb1 ((x5_1 + 1), M2) rfl
def mX1_planLeftwards_36_48_L5 (p0 : Int32) (p2 : Int32) : (Int32 × me_M) → Option ((Int32 × me_M) ⊕ (me_M))
  | (x5_1, M1) => (if x5_1 < p0 then some (.inr M1) else ((me_r M1 48 24 x5_1).bind fun v1 => ((mX1_planLetter_36 M1 v1 0 p2).bind fun M2 => some (.inl ((x5_1 + (-1)), M2)))))
def mX1_planLeftwards_36_48 (M : me_M) (p0 : Int32) (p1 : Int32) (p2 : Int32) : Option me_M :=
  ((me_l (mX1_planLeftwards_36_48_L5 p0 p2) me_fu ((p1 - 1), M)).bind fun M3 => some M3)
set_option maxRecDepth 100000 in
set_option maxHeartbeats 4000000 in
theorem ctX1_planLeftwards_36_48 {l : Launch} {n nt : Nat} (hn : 63 ≤ n) (hnt : 1 ≤ nt) {M : me_M} {p0 : Int32} {p1 : Int32} {p2 : Int32} {M' : me_M} (h : mX1_planLeftwards_36_48 M p0 p1 p2 = some M') : me_Ct l yX1_planLeftwards cX1_planLeftwards 6 none 1 n nt (fun ad => [.ref (ad 36), .ref (ad 48), .int p0, .int p1, .int p2]) M (fun _ => none) M' := by
  unfold mX1_planLeftwards_36_48 at h
  refine me_enter (N0 := 63) RX1 rfl (plainFor_of_name pl_RX1) hn (Nat.le_trans (by decide) hnt) (fun _ => Nat.le_of_ble_eq_true rfl) ?_
  intro p e R s m args below meth c D cA ad tys A X hr hlk
  refine me_sub (L' := [(0, .ref (ad 36)), (1, .ref (ad 48)), (2, .int p0), (3, .int p1), (4, .int p2)]) [0, 1, 2, 3, 4] rfl ?_
  refine me_iload_n X (i := 3) 3 rfl dX1_planLeftwards_0 ?_
  refine me_iconst X dX1_planLeftwards_1 ic_1 ?_
  refine me_isub X dX1_planLeftwards_2 ?_
  refine me_istore X (i := 5) [(5, .int (p1 - 1)), (0, .ref (ad 36)), (1, .ref (ad 48)), (2, .int p0), (3, .int p1), (4, .int p2)] (Nat.le_of_ble_eq_true rfl) rfl dX1_planLeftwards_3 ?_
  obtain ⟨M3, hq1, h⟩ := me_bd h
  have hx1 : me_W p l e R s m args below meth c 0 0 (MQ below (me_Qc D cA ad n A none M') args s 0 0 A) D cA ad n 6 A 28 [] [] M3 := by
    obtain rfl := me_so h
    exact me_vret X hr hlk dX1_planLeftwards_28
  refine me_sub (L' := [(0, .ref (ad 36)), (1, .ref (ad 48)), (2, .int p0), (4, .int p2), (5, .int (p1 - 1))]) [1, 2, 3, 5, 0] rfl ?_
  refine me_l_W (b := (mX1_planLeftwards_36_48_L5 p0 p2)) (P := fun w => me_W p l e R s m args below meth c 0 0 (MQ below (me_Qc D cA ad n A none M') args s 0 0 A) D cA ad n 6 A 5 [(0, .ref (ad 36)), (1, .ref (ad 48)), (2, .int p0), (4, .int p2), (5, .int w.1)] [] w.2) (r := M3) ?_ me_fu ((p1 - 1), M) hq1
  rintro ⟨x5_1, M1⟩ z1 h hb1 - hr1
  unfold mX1_planLeftwards_36_48_L5 at h
  refine me_iload X (i := 5) 4 rfl dX1_planLeftwards_5 ?_
  refine me_iload_n X (i := 2) 2 rfl dX1_planLeftwards_7 ?_
  refine me_icmp_lt X 28 (by decide) dX1_planLeftwards_8 (fun c1 => ?_) (fun c1 => ?_)
  · have h := me_ip c1 h
    obtain rfl := me_so h
    have q := hr1 _ rfl
    refine me_sub (L' := []) [] rfl ?_
    cases q
    exact hx1
  · have h := me_in c1 h
    refine me_aload_n X (i := 0) 0 rfl dX1_planLeftwards_11 ?_
    refine me_aload_n X (i := 1) 1 rfl dX1_planLeftwards_12 ?_
    refine me_iload X (i := 5) 4 rfl dX1_planLeftwards_13 ?_
    obtain ⟨v1, e1, h⟩ := me_bd h
    refine me_iald X (Nat.le_of_ble_eq_true rfl) me_k48 e1 dX1_planLeftwards_15 ?_
    refine me_iconst X dX1_planLeftwards_16 ic_0 ?_
    refine me_iload X (i := 4) 3 rfl dX1_planLeftwards_17 ?_
    obtain ⟨M2, e2, h⟩ := me_bd h
    refine me_callVv X [.int v1, .int 0, .int p2] (ctX1_planLetter_36 hn (Nat.le_trans (by decide) hnt) e2) kV_X1_85 rfl rfl (Nat.le_of_ble_eq_true rfl) me_k36 (Nat.le_of_ble_eq_true rfl) (Nat.le_refl _) (Nat.le_of_ble_eq_true rfl) dX1_planLeftwards_19 ?_
    refine me_iinc X (v := (x5_1 + (-1))) 4 rfl (in_m1 _) [(5, .int (x5_1 + (-1))), (0, .ref (ad 36)), (1, .ref (ad 48)), (2, .int p0), (4, .int p2)] (Nat.le_of_ble_eq_true rfl) rfl dX1_planLeftwards_22 ?_
    refine me_goto X 5 (by decide) dX1_planLeftwards_25 ?_
    obtain rfl := me_so h
    refine me_sub (L' := [(0, .ref (ad 36)), (1, .ref (ad 48)), (2, .int p0), (4, .int p2), (5, .int (x5_1 + (-1)))]) [1, 2, 3, 4, 0] rfl ?_
    exact hb1 ((x5_1 + (-1)), M2) rfl
def mX7_start_37 (M : me_M)  : Option me_M :=
  ((me_t M 38 41 0 0).bind fun M1 => ((me_t M1 39 41 0 0).bind fun M2 => ((me_t M2 40 41 0 ((M2.1 9 5) + 1)).bind fun M3 => some M3)))
set_option maxRecDepth 100000 in
set_option maxHeartbeats 4000000 in
theorem ctX7_start_37 {l : Launch} {n nt : Nat} (hn : 63 ≤ n) (hnt : 1 ≤ nt) {M : me_M} {M' : me_M} (h : mX7_start_37 M = some M') : me_Ct l yX7_start cX7_start 1 none 0 n nt (fun ad => [.ref (ad 37)]) M (fun _ => none) M' := by
  unfold mX7_start_37 at h
  refine me_enter (N0 := 63) RX7 rfl (plainFor_of_name pl_RX7) hn (Nat.le_trans (by decide) hnt) (fun _ => Nat.le_of_ble_eq_true rfl) ?_
  intro p e R s m args below meth c D cA ad tys A X hr hlk
  refine me_sub (L' := [(0, .ref (ad 37))]) [0] rfl ?_
  refine me_aload_n X (i := 0) 0 rfl dX7_start_0 ?_
  refine me_getr X 38 kF_X7_9 (Nat.le_of_ble_eq_true rfl) me_k37 me_f37_2 dX7_start_1 ?_
  refine me_iconst X dX7_start_4 ic_0 ?_
  refine me_iconst X dX7_start_5 ic_0 ?_
  obtain ⟨M1, e1, h⟩ := me_bd h
  refine me_iast X (Nat.le_of_ble_eq_true rfl) me_k38 e1 dX7_start_6 ?_
  refine me_aload_n X (i := 0) 0 rfl dX7_start_7 ?_
  refine me_getr X 39 kF_X7_15 (Nat.le_of_ble_eq_true rfl) me_k37 me_f37_3 dX7_start_8 ?_
  refine me_iconst X dX7_start_11 ic_0 ?_
  refine me_iconst X dX7_start_12 ic_0 ?_
  obtain ⟨M2, e2, h⟩ := me_bd h
  refine me_iast X (Nat.le_of_ble_eq_true rfl) me_k39 e2 dX7_start_13 ?_
  refine me_aload_n X (i := 0) 0 rfl dX7_start_14 ?_
  refine me_getr X 40 kF_X7_18 (Nat.le_of_ble_eq_true rfl) me_k37 me_f37_4 dX7_start_15 ?_
  refine me_iconst X dX7_start_18 ic_0 ?_
  refine me_aload_n X (i := 0) 0 rfl dX7_start_19 ?_
  refine me_getr X 9 kF_X7_21 (Nat.le_of_ble_eq_true rfl) me_k37 me_f37_0 dX7_start_20 ?_
  refine me_geti X kF_X7_28 (Nat.le_of_ble_eq_true rfl) me_k9 me_f9_5 dX7_start_23 ?_
  refine me_iconst X dX7_start_26 ic_1 ?_
  refine me_iadd X dX7_start_27 ?_
  obtain ⟨M3, e3, h⟩ := me_bd h
  refine me_iast X (Nat.le_of_ble_eq_true rfl) me_k40 e3 dX7_start_28 ?_
  obtain rfl := me_so h
  exact me_vret X hr hlk dX7_start_29
def mX7_extend_37 (M : me_M) (p0 : Int32) (p1 : Int32) (p2 : Int32) : Option (Int32 × me_M) :=
  (if p0 < 0 then some (0, M) else (if (p0 + 1) < 41 then (if p2 = 0 then ((me_r M 38 41 p0).bind fun v9 => ((me_r M 40 41 p0).bind fun v10 => ((mX4_rowWith_9 M v9 p1).bind fun v11 => ((me_t M 38 41 (p0 + 1) v11).bind fun M4 => ((me_r M4 39 41 p0).bind fun v12 => ((mX4_smallerAhead_9 M4 (v9 + v10) p1).bind fun v13 => ((mX4_smallerAhead_9 M4 v9 p1).bind fun v14 => ((me_t M4 39 41 (p0 + 1) ((v12 + v13) - v14)).bind fun M5 => ((mX4_rowWith_9 M5 (v9 + v10) p1).bind fun v15 => ((me_t M5 40 41 (p0 + 1) (v15 - v11)).bind fun M6 => ((me_r M6 40 41 (p0 + 1)).bind fun v16 => some (v16, M6)))))))))))) else ((me_r M 39 41 p0).bind fun v1 => ((me_r M 40 41 p0).bind fun v2 => ((mX4_rowWith_14 M v1 p1).bind fun v3 => ((me_t M 39 41 (p0 + 1) v3).bind fun M1 => ((me_r M1 38 41 p0).bind fun v4 => ((mX4_smallerAhead_14 M1 (v1 + v2) p1).bind fun v5 => ((mX4_smallerAhead_14 M1 v1 p1).bind fun v6 => ((me_t M1 38 41 (p0 + 1) ((v4 + v5) - v6)).bind fun M2 => ((mX4_rowWith_14 M2 (v1 + v2) p1).bind fun v7 => ((me_t M2 40 41 (p0 + 1) (v7 - v3)).bind fun M3 => ((me_r M3 40 41 (p0 + 1)).bind fun v8 => some (v8, M3))))))))))))) else some (0, M)))
set_option maxRecDepth 100000 in
set_option maxHeartbeats 4000000 in
theorem ctX7_extend_37 {l : Launch} {n nt : Nat} (hn : 63 ≤ n) (hnt : 1 ≤ nt) {M : me_M} {p0 : Int32} {p1 : Int32} {p2 : Int32} {r : Int32} {M' : me_M} (h : mX7_extend_37 M p0 p1 p2 = some (r, M')) : me_Ct l yX7_extend cX7_extend 10 (some .int) 3 n nt (fun ad => [.ref (ad 37), .int p0, .int p1, .int p2]) M (fun _ => some (.int r)) M' := by
  unfold mX7_extend_37 at h
  refine me_enter (N0 := 63) RX7 rfl (plainFor_of_name pl_RX7) hn (Nat.le_trans (by decide) hnt) (fun _ => Nat.le_of_ble_eq_true rfl) ?_
  intro p e R s m args below meth c D cA ad tys A X hr hlk
  refine me_sub (L' := [(0, .ref (ad 37)), (1, .int p0), (2, .int p1), (3, .int p2)]) [0, 1, 2, 3] rfl ?_
  refine me_iload_n X (i := 1) 1 rfl dX7_extend_0 ?_
  refine me_if_lt X 15 (by decide) dX7_extend_1 (fun c1 => ?_) (fun c1 => ?_)
  · have h := me_ip c1 h
    refine me_iconst X dX7_extend_15 ic_0 ?_
    obtain ⟨rfl, rfl⟩ := me_sp h
    exact me_iret X hr hlk dX7_extend_16
  · have h := me_in c1 h
    refine me_iload_n X (i := 1) 1 rfl dX7_extend_4 ?_
    refine me_iconst X dX7_extend_5 ic_1 ?_
    refine me_iadd X dX7_extend_6 ?_
    refine me_aload_n X (i := 0) 0 rfl dX7_extend_7 ?_
    refine me_getr X 40 kF_X7_18 (Nat.le_of_ble_eq_true rfl) me_k37 me_f37_4 dX7_extend_8 ?_
    refine me_alen (v := 41) X (Nat.le_of_ble_eq_true rfl) me_k40 (by decide) dX7_extend_11 ?_
    refine me_icmp_lt X 17 (by decide) dX7_extend_12 (fun c2 => ?_) (fun c2 => ?_)
    · have h := me_ip c2 h
      refine me_iload_n X (i := 3) 3 rfl dX7_extend_17 ?_
      refine me_if_ne X 28 (by decide) dX7_extend_18 (fun c3 => ?_) (fun c3 => ?_)
      · have h := me_in c3 h
        refine me_aload_n X (i := 0) 0 rfl dX7_extend_28 ?_
        refine me_getr X 14 kF_X7_25 (Nat.le_of_ble_eq_true rfl) me_k37 me_f37_1 dX7_extend_29 ?_
        refine me_astore X (i := 4) [(4, .ref (ad 14)), (0, .ref (ad 37)), (1, .int p0), (2, .int p1), (3, .int p2)] (Nat.le_of_ble_eq_true rfl) rfl dX7_extend_32 ?_
        refine me_iload_n X (i := 3) 4 rfl dX7_extend_34 ?_
        refine me_if_ne X 45 (by decide) dX7_extend_35 (fun c4 => ?_) (fun c4 => ?_)
        · refine me_aload_n X (i := 0) 1 rfl dX7_extend_45 ?_
          refine me_getr X 39 kF_X7_15 (Nat.le_of_ble_eq_true rfl) me_k37 me_f37_3 dX7_extend_46 ?_
          refine me_astore X (i := 5) [(5, .ref (ad 39)), (4, .ref (ad 14)), (0, .ref (ad 37)), (1, .int p0), (2, .int p1), (3, .int p2)] (Nat.le_of_ble_eq_true rfl) rfl dX7_extend_49 ?_
          refine me_iload_n X (i := 3) 5 rfl dX7_extend_51 ?_
          refine me_if_ne X 62 (by decide) dX7_extend_52 (fun c5 => ?_) (fun c5 => ?_)
          · refine me_aload_n X (i := 0) 2 rfl dX7_extend_62 ?_
            refine me_getr X 38 kF_X7_9 (Nat.le_of_ble_eq_true rfl) me_k37 me_f37_2 dX7_extend_63 ?_
            refine me_astore X (i := 6) [(6, .ref (ad 38)), (5, .ref (ad 39)), (4, .ref (ad 14)), (0, .ref (ad 37)), (1, .int p0), (2, .int p1), (3, .int p2)] (Nat.le_of_ble_eq_true rfl) rfl dX7_extend_66 ?_
            refine me_aload X (i := 5) 1 rfl dX7_extend_68 ?_
            refine me_iload_n X (i := 1) 4 rfl dX7_extend_70 ?_
            obtain ⟨v1, e1, h⟩ := me_bd h
            refine me_iald X (Nat.le_of_ble_eq_true rfl) me_k39 e1 dX7_extend_71 ?_
            refine me_istore X (i := 7) [(7, .int v1), (6, .ref (ad 38)), (5, .ref (ad 39)), (4, .ref (ad 14)), (0, .ref (ad 37)), (1, .int p0), (2, .int p1), (3, .int p2)] (Nat.le_of_ble_eq_true rfl) rfl dX7_extend_72 ?_
            refine me_iload X (i := 7) 0 rfl dX7_extend_74 ?_
            refine me_aload_n X (i := 0) 4 rfl dX7_extend_76 ?_
            refine me_getr X 40 kF_X7_18 (Nat.le_of_ble_eq_true rfl) me_k37 me_f37_4 dX7_extend_77 ?_
            refine me_iload_n X (i := 1) 5 rfl dX7_extend_80 ?_
            obtain ⟨v2, e2, h⟩ := me_bd h
            refine me_iald X (Nat.le_of_ble_eq_true rfl) me_k40 e2 dX7_extend_81 ?_
            refine me_iadd X dX7_extend_82 ?_
            refine me_istore X (i := 8) [(8, .int (v1 + v2)), (7, .int v1), (6, .ref (ad 38)), (5, .ref (ad 39)), (4, .ref (ad 14)), (0, .ref (ad 37)), (1, .int p0), (2, .int p1), (3, .int p2)] (Nat.le_of_ble_eq_true rfl) rfl dX7_extend_83 ?_
            refine me_aload X (i := 4) 4 rfl dX7_extend_85 ?_
            refine me_iload X (i := 7) 1 rfl dX7_extend_87 ?_
            refine me_iload_n X (i := 2) 7 rfl dX7_extend_89 ?_
            obtain ⟨v3, e3, h⟩ := me_bd h
            refine me_callVi X [.int v1, .int p1] (ctX4_rowWith_14 hn (Nat.le_trans (by decide) hnt) e3) kV_X7_34 rfl rfl (Nat.le_of_ble_eq_true rfl) me_k14 (Nat.le_of_ble_eq_true rfl) (Nat.le_refl _) (Nat.le_of_ble_eq_true rfl) dX7_extend_90 ?_
            refine me_istore X (i := 9) [(9, .int v3), (8, .int (v1 + v2)), (7, .int v1), (6, .ref (ad 38)), (5, .ref (ad 39)), (4, .ref (ad 14)), (0, .ref (ad 37)), (1, .int p0), (2, .int p1), (3, .int p2)] (Nat.le_of_ble_eq_true rfl) rfl dX7_extend_93 ?_
            refine me_aload X (i := 5) 4 rfl dX7_extend_95 ?_
            refine me_iload_n X (i := 1) 7 rfl dX7_extend_97 ?_
            refine me_iconst X dX7_extend_98 ic_1 ?_
            refine me_iadd X dX7_extend_99 ?_
            refine me_iload X (i := 9) 0 rfl dX7_extend_100 ?_
            obtain ⟨M1, e4, h⟩ := me_bd h
            refine me_iast X (Nat.le_of_ble_eq_true rfl) me_k39 e4 dX7_extend_102 ?_
            refine me_aload X (i := 6) 3 rfl dX7_extend_103 ?_
            refine me_iload_n X (i := 1) 7 rfl dX7_extend_105 ?_
            refine me_iconst X dX7_extend_106 ic_1 ?_
            refine me_iadd X dX7_extend_107 ?_
            refine me_aload X (i := 6) 3 rfl dX7_extend_108 ?_
            refine me_iload_n X (i := 1) 7 rfl dX7_extend_110 ?_
            obtain ⟨v4, e5, h⟩ := me_bd h
            refine me_iald X (Nat.le_of_ble_eq_true rfl) me_k38 e5 dX7_extend_111 ?_
            refine me_aload X (i := 4) 5 rfl dX7_extend_112 ?_
            refine me_iload X (i := 8) 1 rfl dX7_extend_114 ?_
            refine me_iload_n X (i := 2) 8 rfl dX7_extend_116 ?_
            obtain ⟨v5, e6, h⟩ := me_bd h
            refine me_callVi X [.int (v1 + v2), .int p1] (ctX4_smallerAhead_14 hn (Nat.le_trans (by decide) hnt) e6) kV_X7_38 rfl rfl (Nat.le_of_ble_eq_true rfl) me_k14 (Nat.le_of_ble_eq_true rfl) (Nat.le_refl _) (Nat.le_of_ble_eq_true rfl) dX7_extend_117 ?_
            refine me_iadd X dX7_extend_120 ?_
            refine me_aload X (i := 4) 5 rfl dX7_extend_121 ?_
            refine me_iload X (i := 7) 2 rfl dX7_extend_123 ?_
            refine me_iload_n X (i := 2) 8 rfl dX7_extend_125 ?_
            obtain ⟨v6, e7, h⟩ := me_bd h
            refine me_callVi X [.int v1, .int p1] (ctX4_smallerAhead_14 hn (Nat.le_trans (by decide) hnt) e7) kV_X7_38 rfl rfl (Nat.le_of_ble_eq_true rfl) me_k14 (Nat.le_of_ble_eq_true rfl) (Nat.le_refl _) (Nat.le_of_ble_eq_true rfl) dX7_extend_126 ?_
            refine me_isub X dX7_extend_129 ?_
            obtain ⟨M2, e8, h⟩ := me_bd h
            refine me_iast X (Nat.le_of_ble_eq_true rfl) me_k38 e8 dX7_extend_130 ?_
            refine me_aload_n X (i := 0) 6 rfl dX7_extend_131 ?_
            refine me_getr X 40 kF_X7_18 (Nat.le_of_ble_eq_true rfl) me_k37 me_f37_4 dX7_extend_132 ?_
            refine me_iload_n X (i := 1) 7 rfl dX7_extend_135 ?_
            refine me_iconst X dX7_extend_136 ic_1 ?_
            refine me_iadd X dX7_extend_137 ?_
            refine me_aload X (i := 4) 5 rfl dX7_extend_138 ?_
            refine me_iload X (i := 8) 1 rfl dX7_extend_140 ?_
            refine me_iload_n X (i := 2) 8 rfl dX7_extend_142 ?_
            obtain ⟨v7, e9, h⟩ := me_bd h
            refine me_callVi X [.int (v1 + v2), .int p1] (ctX4_rowWith_14 hn (Nat.le_trans (by decide) hnt) e9) kV_X7_34 rfl rfl (Nat.le_of_ble_eq_true rfl) me_k14 (Nat.le_of_ble_eq_true rfl) (Nat.le_refl _) (Nat.le_of_ble_eq_true rfl) dX7_extend_143 ?_
            refine me_iload X (i := 9) 0 rfl dX7_extend_146 ?_
            refine me_isub X dX7_extend_148 ?_
            obtain ⟨M3, e10, h⟩ := me_bd h
            refine me_iast X (Nat.le_of_ble_eq_true rfl) me_k40 e10 dX7_extend_149 ?_
            refine me_aload_n X (i := 0) 6 rfl dX7_extend_150 ?_
            refine me_getr X 40 kF_X7_18 (Nat.le_of_ble_eq_true rfl) me_k37 me_f37_4 dX7_extend_151 ?_
            refine me_iload_n X (i := 1) 7 rfl dX7_extend_154 ?_
            refine me_iconst X dX7_extend_155 ic_1 ?_
            refine me_iadd X dX7_extend_156 ?_
            obtain ⟨v8, e11, h⟩ := me_bd h
            refine me_iald X (Nat.le_of_ble_eq_true rfl) me_k40 e11 dX7_extend_157 ?_
            obtain ⟨rfl, rfl⟩ := me_sp h
            exact me_iret X hr hlk dX7_extend_158
          · exact absurd c5 c3
        · exact absurd c4 c3
      · have h := me_ip c3 h
        refine me_aload_n X (i := 0) 0 rfl dX7_extend_21 ?_
        refine me_getr X 9 kF_X7_21 (Nat.le_of_ble_eq_true rfl) me_k37 me_f37_0 dX7_extend_22 ?_
        refine me_goto X 32 (by decide) dX7_extend_25 ?_
        refine me_astore X (i := 4) [(4, .ref (ad 9)), (0, .ref (ad 37)), (1, .int p0), (2, .int p1), (3, .int p2)] (Nat.le_of_ble_eq_true rfl) rfl dX7_extend_32 ?_
        refine me_iload_n X (i := 3) 4 rfl dX7_extend_34 ?_
        refine me_if_ne X 45 (by decide) dX7_extend_35 (fun c6 => ?_) (fun c6 => ?_)
        · exact absurd c3 c6
        · refine me_aload_n X (i := 0) 1 rfl dX7_extend_38 ?_
          refine me_getr X 38 kF_X7_9 (Nat.le_of_ble_eq_true rfl) me_k37 me_f37_2 dX7_extend_39 ?_
          refine me_goto X 49 (by decide) dX7_extend_42 ?_
          refine me_astore X (i := 5) [(5, .ref (ad 38)), (4, .ref (ad 9)), (0, .ref (ad 37)), (1, .int p0), (2, .int p1), (3, .int p2)] (Nat.le_of_ble_eq_true rfl) rfl dX7_extend_49 ?_
          refine me_iload_n X (i := 3) 5 rfl dX7_extend_51 ?_
          refine me_if_ne X 62 (by decide) dX7_extend_52 (fun c7 => ?_) (fun c7 => ?_)
          · exact absurd c3 c7
          · refine me_aload_n X (i := 0) 2 rfl dX7_extend_55 ?_
            refine me_getr X 39 kF_X7_15 (Nat.le_of_ble_eq_true rfl) me_k37 me_f37_3 dX7_extend_56 ?_
            refine me_goto X 66 (by decide) dX7_extend_59 ?_
            refine me_astore X (i := 6) [(6, .ref (ad 39)), (5, .ref (ad 38)), (4, .ref (ad 9)), (0, .ref (ad 37)), (1, .int p0), (2, .int p1), (3, .int p2)] (Nat.le_of_ble_eq_true rfl) rfl dX7_extend_66 ?_
            refine me_aload X (i := 5) 1 rfl dX7_extend_68 ?_
            refine me_iload_n X (i := 1) 4 rfl dX7_extend_70 ?_
            obtain ⟨v9, e12, h⟩ := me_bd h
            refine me_iald X (Nat.le_of_ble_eq_true rfl) me_k38 e12 dX7_extend_71 ?_
            refine me_istore X (i := 7) [(7, .int v9), (6, .ref (ad 39)), (5, .ref (ad 38)), (4, .ref (ad 9)), (0, .ref (ad 37)), (1, .int p0), (2, .int p1), (3, .int p2)] (Nat.le_of_ble_eq_true rfl) rfl dX7_extend_72 ?_
            refine me_iload X (i := 7) 0 rfl dX7_extend_74 ?_
            refine me_aload_n X (i := 0) 4 rfl dX7_extend_76 ?_
            refine me_getr X 40 kF_X7_18 (Nat.le_of_ble_eq_true rfl) me_k37 me_f37_4 dX7_extend_77 ?_
            refine me_iload_n X (i := 1) 5 rfl dX7_extend_80 ?_
            obtain ⟨v10, e13, h⟩ := me_bd h
            refine me_iald X (Nat.le_of_ble_eq_true rfl) me_k40 e13 dX7_extend_81 ?_
            refine me_iadd X dX7_extend_82 ?_
            refine me_istore X (i := 8) [(8, .int (v9 + v10)), (7, .int v9), (6, .ref (ad 39)), (5, .ref (ad 38)), (4, .ref (ad 9)), (0, .ref (ad 37)), (1, .int p0), (2, .int p1), (3, .int p2)] (Nat.le_of_ble_eq_true rfl) rfl dX7_extend_83 ?_
            refine me_aload X (i := 4) 4 rfl dX7_extend_85 ?_
            refine me_iload X (i := 7) 1 rfl dX7_extend_87 ?_
            refine me_iload_n X (i := 2) 7 rfl dX7_extend_89 ?_
            obtain ⟨v11, e14, h⟩ := me_bd h
            refine me_callVi X [.int v9, .int p1] (ctX4_rowWith_9 hn (Nat.le_trans (by decide) hnt) e14) kV_X7_34 rfl rfl (Nat.le_of_ble_eq_true rfl) me_k9 (Nat.le_of_ble_eq_true rfl) (Nat.le_refl _) (Nat.le_of_ble_eq_true rfl) dX7_extend_90 ?_
            refine me_istore X (i := 9) [(9, .int v11), (8, .int (v9 + v10)), (7, .int v9), (6, .ref (ad 39)), (5, .ref (ad 38)), (4, .ref (ad 9)), (0, .ref (ad 37)), (1, .int p0), (2, .int p1), (3, .int p2)] (Nat.le_of_ble_eq_true rfl) rfl dX7_extend_93 ?_
            refine me_aload X (i := 5) 4 rfl dX7_extend_95 ?_
            refine me_iload_n X (i := 1) 7 rfl dX7_extend_97 ?_
            refine me_iconst X dX7_extend_98 ic_1 ?_
            refine me_iadd X dX7_extend_99 ?_
            refine me_iload X (i := 9) 0 rfl dX7_extend_100 ?_
            obtain ⟨M4, e15, h⟩ := me_bd h
            refine me_iast X (Nat.le_of_ble_eq_true rfl) me_k38 e15 dX7_extend_102 ?_
            refine me_aload X (i := 6) 3 rfl dX7_extend_103 ?_
            refine me_iload_n X (i := 1) 7 rfl dX7_extend_105 ?_
            refine me_iconst X dX7_extend_106 ic_1 ?_
            refine me_iadd X dX7_extend_107 ?_
            refine me_aload X (i := 6) 3 rfl dX7_extend_108 ?_
            refine me_iload_n X (i := 1) 7 rfl dX7_extend_110 ?_
            obtain ⟨v12, e16, h⟩ := me_bd h
            refine me_iald X (Nat.le_of_ble_eq_true rfl) me_k39 e16 dX7_extend_111 ?_
            refine me_aload X (i := 4) 5 rfl dX7_extend_112 ?_
            refine me_iload X (i := 8) 1 rfl dX7_extend_114 ?_
            refine me_iload_n X (i := 2) 8 rfl dX7_extend_116 ?_
            obtain ⟨v13, e17, h⟩ := me_bd h
            refine me_callVi X [.int (v9 + v10), .int p1] (ctX4_smallerAhead_9 hn (Nat.le_trans (by decide) hnt) e17) kV_X7_38 rfl rfl (Nat.le_of_ble_eq_true rfl) me_k9 (Nat.le_of_ble_eq_true rfl) (Nat.le_refl _) (Nat.le_of_ble_eq_true rfl) dX7_extend_117 ?_
            refine me_iadd X dX7_extend_120 ?_
            refine me_aload X (i := 4) 5 rfl dX7_extend_121 ?_
            refine me_iload X (i := 7) 2 rfl dX7_extend_123 ?_
            refine me_iload_n X (i := 2) 8 rfl dX7_extend_125 ?_
            obtain ⟨v14, e18, h⟩ := me_bd h
            refine me_callVi X [.int v9, .int p1] (ctX4_smallerAhead_9 hn (Nat.le_trans (by decide) hnt) e18) kV_X7_38 rfl rfl (Nat.le_of_ble_eq_true rfl) me_k9 (Nat.le_of_ble_eq_true rfl) (Nat.le_refl _) (Nat.le_of_ble_eq_true rfl) dX7_extend_126 ?_
            refine me_isub X dX7_extend_129 ?_
            obtain ⟨M5, e19, h⟩ := me_bd h
            refine me_iast X (Nat.le_of_ble_eq_true rfl) me_k39 e19 dX7_extend_130 ?_
            refine me_aload_n X (i := 0) 6 rfl dX7_extend_131 ?_
            refine me_getr X 40 kF_X7_18 (Nat.le_of_ble_eq_true rfl) me_k37 me_f37_4 dX7_extend_132 ?_
            refine me_iload_n X (i := 1) 7 rfl dX7_extend_135 ?_
            refine me_iconst X dX7_extend_136 ic_1 ?_
            refine me_iadd X dX7_extend_137 ?_
            refine me_aload X (i := 4) 5 rfl dX7_extend_138 ?_
            refine me_iload X (i := 8) 1 rfl dX7_extend_140 ?_
            refine me_iload_n X (i := 2) 8 rfl dX7_extend_142 ?_
            obtain ⟨v15, e20, h⟩ := me_bd h
            refine me_callVi X [.int (v9 + v10), .int p1] (ctX4_rowWith_9 hn (Nat.le_trans (by decide) hnt) e20) kV_X7_34 rfl rfl (Nat.le_of_ble_eq_true rfl) me_k9 (Nat.le_of_ble_eq_true rfl) (Nat.le_refl _) (Nat.le_of_ble_eq_true rfl) dX7_extend_143 ?_
            refine me_iload X (i := 9) 0 rfl dX7_extend_146 ?_
            refine me_isub X dX7_extend_148 ?_
            obtain ⟨M6, e21, h⟩ := me_bd h
            refine me_iast X (Nat.le_of_ble_eq_true rfl) me_k40 e21 dX7_extend_149 ?_
            refine me_aload_n X (i := 0) 6 rfl dX7_extend_150 ?_
            refine me_getr X 40 kF_X7_18 (Nat.le_of_ble_eq_true rfl) me_k37 me_f37_4 dX7_extend_151 ?_
            refine me_iload_n X (i := 1) 7 rfl dX7_extend_154 ?_
            refine me_iconst X dX7_extend_155 ic_1 ?_
            refine me_iadd X dX7_extend_156 ?_
            obtain ⟨v16, e22, h⟩ := me_bd h
            refine me_iald X (Nat.le_of_ble_eq_true rfl) me_k40 e22 dX7_extend_157 ?_
            obtain ⟨rfl, rfl⟩ := me_sp h
            exact me_iret X hr hlk dX7_extend_158
    · have h := me_in c2 h
      refine me_iconst X dX7_extend_15 ic_0 ?_
      obtain ⟨rfl, rfl⟩ := me_sp h
      exact me_iret X hr hlk dX7_extend_16
def mX1_noteFound_36_J74 (p1 : Int32) (v1 : Int32) (v2 : Int32) (x5_1 : Int32) (v3 : Int32) (M3 : me_M) : Option ((Int32 × me_M) ⊕ (me_M)) :=
  ((me_r M3 45 241 v3).bind fun v6 => ((me_t M3 45 241 v3 (v6 + 1)).bind fun M4 => some (.inl ((x5_1 + 1), M4))))
def mX1_noteFound_36_J66 (p1 : Int32) (v1 : Int32) (v2 : Int32) (x5_1 : Int32) (v3 : Int32) (M1 : me_M)  : Option ((Int32 × me_M) ⊕ (me_M)) :=
  ((me_t M1 46 241 v3 p1).bind fun M2 => (mX1_noteFound_36_J74 p1 v1 v2 x5_1 v3 M2))
def mX1_noteFound_36_L24 (p1 : Int32) (v1 : Int32) (v2 : Int32) : (Int32 × me_M) → Option ((Int32 × me_M) ⊕ (me_M))
  | (x5_1, M1) => (if (v1 + v2) ≤ x5_1 then some (.inr M1) else ((me_r M1 10 241 x5_1).bind fun v3 => ((me_r M1 45 241 v3).bind fun v4 => (if v4 = 0 then (mX1_noteFound_36_J66 p1 v1 v2 x5_1 v3 M1 ) else ((me_r M1 46 241 v3).bind fun v5 => (if v5 ≤ p1 then (mX1_noteFound_36_J74 p1 v1 v2 x5_1 v3 M1) else (mX1_noteFound_36_J66 p1 v1 v2 x5_1 v3 M1 )))))))
def mX1_noteFound_36 (M : me_M) (p0 : Int32) (p1 : Int32) : Option me_M :=
  ((me_r M 38 41 p0).bind fun v1 => ((me_r M 40 41 p0).bind fun v2 => ((me_l (mX1_noteFound_36_L24 p1 v1 v2) me_fu (v1, M)).bind fun M5 => some (me_s M5 36 11 ((M5.1 36 11) + v2)))))
set_option maxRecDepth 100000 in
set_option maxHeartbeats 4000000 in
theorem ctX1_noteFound_36 {l : Launch} {n nt : Nat} (hn : 63 ≤ n) (hnt : 1 ≤ nt) {M : me_M} {p0 : Int32} {p1 : Int32} {M' : me_M} (h : mX1_noteFound_36 M p0 p1 = some M') : me_Ct l yX1_noteFound cX1_noteFound 7 none 0 n nt (fun ad => [.ref (ad 36), .int p0, .int p1]) M (fun _ => none) M' := by
  unfold mX1_noteFound_36 at h
  refine me_enter (N0 := 63) RX1 rfl (plainFor_of_name pl_RX1) hn (Nat.le_trans (by decide) hnt) (fun _ => Nat.le_of_ble_eq_true rfl) ?_
  intro p e R s m args below meth c D cA ad tys A X hr hlk
  refine me_sub (L' := [(0, .ref (ad 36)), (1, .int p0), (2, .int p1)]) [0, 1, 2] rfl ?_
  refine me_aload_n X (i := 0) 0 rfl dX1_noteFound_0 ?_
  refine me_getr X 37 kF_X1_43 (Nat.le_of_ble_eq_true rfl) me_k36 me_f36_2 dX1_noteFound_1 ?_
  refine me_getr X 38 kF_X1_102 (Nat.le_of_ble_eq_true rfl) me_k37 me_f37_2 dX1_noteFound_4 ?_
  refine me_iload_n X (i := 1) 1 rfl dX1_noteFound_7 ?_
  obtain ⟨v1, e1, h⟩ := me_bd h
  refine me_iald X (Nat.le_of_ble_eq_true rfl) me_k38 e1 dX1_noteFound_8 ?_
  refine me_istore_n X (i := 3) [(3, .int v1), (0, .ref (ad 36)), (1, .int p0), (2, .int p1)] (Nat.le_of_ble_eq_true rfl) rfl dX1_noteFound_9 ?_
  refine me_aload_n X (i := 0) 1 rfl dX1_noteFound_10 ?_
  refine me_getr X 37 kF_X1_43 (Nat.le_of_ble_eq_true rfl) me_k36 me_f36_2 dX1_noteFound_11 ?_
  refine me_getr X 40 kF_X1_105 (Nat.le_of_ble_eq_true rfl) me_k37 me_f37_4 dX1_noteFound_14 ?_
  refine me_iload_n X (i := 1) 2 rfl dX1_noteFound_17 ?_
  obtain ⟨v2, e2, h⟩ := me_bd h
  refine me_iald X (Nat.le_of_ble_eq_true rfl) me_k40 e2 dX1_noteFound_18 ?_
  refine me_istore X (i := 4) [(4, .int v2), (3, .int v1), (0, .ref (ad 36)), (1, .int p0), (2, .int p1)] (Nat.le_of_ble_eq_true rfl) rfl dX1_noteFound_19 ?_
  refine me_iload_n X (i := 3) 1 rfl dX1_noteFound_21 ?_
  refine me_istore X (i := 5) [(5, .int v1), (4, .int v2), (3, .int v1), (0, .ref (ad 36)), (1, .int p0), (2, .int p1)] (Nat.le_of_ble_eq_true rfl) rfl dX1_noteFound_22 ?_
  obtain ⟨M5, hq1, h⟩ := me_bd h
  have hx1 : me_W p l e R s m args below meth c 0 0 (MQ below (me_Qc D cA ad n A none M') args s 0 0 A) D cA ad n 7 A 91 [(0, .ref (ad 36)), (4, .int v2)] [] M5 := by
    refine me_aload_n X (i := 0) 0 rfl dX1_noteFound_91 ?_
    refine me_dup X rfl dX1_noteFound_92 ?_
    refine me_geti X kF_X1_51 (Nat.le_of_ble_eq_true rfl) me_k36 me_f36_11 dX1_noteFound_93 ?_
    refine me_iload X (i := 4) 1 rfl dX1_noteFound_96 ?_
    refine me_iadd X dX1_noteFound_98 ?_
    refine me_puti X kG_X1_51 (Nat.le_of_ble_eq_true rfl) me_k36 me_f36_11 dX1_noteFound_99 ?_
    obtain rfl := me_so h
    exact me_vret X hr hlk dX1_noteFound_102
  refine me_sub (L' := [(0, .ref (ad 36)), (2, .int p1), (3, .int v1), (4, .int v2), (5, .int v1)]) [3, 5, 2, 1, 0] rfl ?_
  refine me_l_W (b := (mX1_noteFound_36_L24 p1 v1 v2)) (P := fun w => me_W p l e R s m args below meth c 0 0 (MQ below (me_Qc D cA ad n A none M') args s 0 0 A) D cA ad n 7 A 24 [(0, .ref (ad 36)), (2, .int p1), (3, .int v1), (4, .int v2), (5, .int w.1)] [] w.2) (r := M5) ?_ me_fu (v1, M) hq1
  rintro ⟨x5_1, M1⟩ z1 h hb1 - hr1
  unfold mX1_noteFound_36_L24 at h
  refine me_iload X (i := 5) 4 rfl dX1_noteFound_24 ?_
  refine me_iload_n X (i := 3) 2 rfl dX1_noteFound_26 ?_
  refine me_iload X (i := 4) 3 rfl dX1_noteFound_27 ?_
  refine me_iadd X dX1_noteFound_29 ?_
  refine me_icmp_ge X 91 (by decide) dX1_noteFound_30 (fun c1 => ?_) (fun c1 => ?_)
  · have h := me_ip c1 h
    obtain rfl := me_so h
    have q := hr1 _ rfl
    refine me_sub (L' := [(0, .ref (ad 36)), (4, .int v2)]) [0, 3] rfl ?_
    cases q
    exact hx1
  · have h := me_in c1 h
    refine me_aload_n X (i := 0) 0 rfl dX1_noteFound_33 ?_
    refine me_getr X 9 kF_X1_34 (Nat.le_of_ble_eq_true rfl) me_k36 me_f36_1 dX1_noteFound_34 ?_
    refine me_getr X 10 kF_X1_108 (Nat.le_of_ble_eq_true rfl) me_k9 me_f9_1 dX1_noteFound_37 ?_
    refine me_iload X (i := 5) 4 rfl dX1_noteFound_40 ?_
    obtain ⟨v3, e3, h⟩ := me_bd h
    refine me_iald X (Nat.le_of_ble_eq_true rfl) me_k10 e3 dX1_noteFound_42 ?_
    refine me_istore X (i := 6) [(6, .int v3), (0, .ref (ad 36)), (2, .int p1), (3, .int v1), (4, .int v2), (5, .int x5_1)] (Nat.le_of_ble_eq_true rfl) rfl dX1_noteFound_43 ?_
    refine me_aload_n X (i := 0) 1 rfl dX1_noteFound_45 ?_
    refine me_getr X 45 kF_X1_24 (Nat.le_of_ble_eq_true rfl) me_k36 me_f36_7 dX1_noteFound_46 ?_
    refine me_iload X (i := 6) 0 rfl dX1_noteFound_49 ?_
    obtain ⟨v4, e4, h⟩ := me_bd h
    refine me_iald X (Nat.le_of_ble_eq_true rfl) me_k45 e4 dX1_noteFound_51 ?_
    have hj74_2 : ∀ (M3 : me_M), mX1_noteFound_36_J74 p1 v1 v2 x5_1 v3 M3 = some z1 → me_W p l e R s m args below meth c 0 0 (MQ below (me_Qc D cA ad n A none M') args s 0 0 A) D cA ad n 7 A 74 [(0, .ref (ad 36)), (2, .int p1), (3, .int v1), (4, .int v2), (5, .int x5_1), (6, .int v3)] [] M3 := by
      intro M3 h
      unfold mX1_noteFound_36_J74 at h
      refine me_aload_n X (i := 0) 0 rfl dX1_noteFound_74 ?_
      refine me_getr X 45 kF_X1_24 (Nat.le_of_ble_eq_true rfl) me_k36 me_f36_7 dX1_noteFound_75 ?_
      refine me_iload X (i := 6) 5 rfl dX1_noteFound_78 ?_
      refine me_dup2 X rfl rfl dX1_noteFound_80 ?_
      obtain ⟨v6, e7, h⟩ := me_bd h
      refine me_iald X (Nat.le_of_ble_eq_true rfl) me_k45 e7 dX1_noteFound_81 ?_
      refine me_iconst X dX1_noteFound_82 ic_1 ?_
      refine me_iadd X dX1_noteFound_83 ?_
      obtain ⟨M4, e8, h⟩ := me_bd h
      refine me_iast X (Nat.le_of_ble_eq_true rfl) me_k45 e8 dX1_noteFound_84 ?_
      refine me_iinc X (v := (x5_1 + 1)) 4 rfl (in_1 _) [(5, .int (x5_1 + 1)), (0, .ref (ad 36)), (2, .int p1), (3, .int v1), (4, .int v2), (6, .int v3)] (Nat.le_of_ble_eq_true rfl) rfl dX1_noteFound_85 ?_
      refine me_goto X 24 (by decide) dX1_noteFound_88 ?_
      obtain rfl := me_so h
      refine me_sub (L' := [(0, .ref (ad 36)), (2, .int p1), (3, .int v1), (4, .int v2), (5, .int (x5_1 + 1))]) [1, 2, 3, 4, 0] rfl ?_
      exact hb1 ((x5_1 + 1), M4) rfl
    have hj66_1 : mX1_noteFound_36_J66 p1 v1 v2 x5_1 v3 M1  = some z1 → me_W p l e R s m args below meth c 0 0 (MQ below (me_Qc D cA ad n A none M') args s 0 0 A) D cA ad n 7 A 66 [(0, .ref (ad 36)), (2, .int p1), (3, .int v1), (4, .int v2), (5, .int x5_1), (6, .int v3)] [] M1 := by
      intro h
      unfold mX1_noteFound_36_J66 at h
      refine me_aload_n X (i := 0) 0 rfl dX1_noteFound_66 ?_
      refine me_getr X 46 kF_X1_27 (Nat.le_of_ble_eq_true rfl) me_k36 me_f36_8 dX1_noteFound_67 ?_
      refine me_iload X (i := 6) 5 rfl dX1_noteFound_70 ?_
      refine me_iload_n X (i := 2) 1 rfl dX1_noteFound_72 ?_
      obtain ⟨M2, e6, h⟩ := me_bd h
      refine me_iast X (Nat.le_of_ble_eq_true rfl) me_k46 e6 dX1_noteFound_73 ?_
      exact hj74_2 M2 h
    refine me_if_eq X 66 (by decide) dX1_noteFound_52 (fun c2 => ?_) (fun c2 => ?_)
    · have h := me_ip c2 h
      refine me_sub (L' := [(0, .ref (ad 36)), (2, .int p1), (3, .int v1), (4, .int v2), (5, .int x5_1), (6, .int v3)]) [1, 2, 3, 4, 5, 0] rfl ?_
      exact hj66_1  h
    · have h := me_in c2 h
      refine me_iload_n X (i := 2) 2 rfl dX1_noteFound_55 ?_
      refine me_aload_n X (i := 0) 1 rfl dX1_noteFound_56 ?_
      refine me_getr X 46 kF_X1_27 (Nat.le_of_ble_eq_true rfl) me_k36 me_f36_8 dX1_noteFound_57 ?_
      refine me_iload X (i := 6) 0 rfl dX1_noteFound_60 ?_
      obtain ⟨v5, e5, h⟩ := me_bd h
      refine me_iald X (Nat.le_of_ble_eq_true rfl) me_k46 e5 dX1_noteFound_62 ?_
      refine me_icmp_ge X 74 (by decide) dX1_noteFound_63 (fun c3 => ?_) (fun c3 => ?_)
      · have h := me_ip c3 h
        refine me_sub (L' := [(0, .ref (ad 36)), (2, .int p1), (3, .int v1), (4, .int v2), (5, .int x5_1), (6, .int v3)]) [1, 2, 3, 4, 5, 0] rfl ?_
        exact hj74_2 M1 h
      · have h := me_in c3 h
        refine me_sub (L' := [(0, .ref (ad 36)), (2, .int p1), (3, .int v1), (4, .int v2), (5, .int x5_1), (6, .int v3)]) [1, 2, 3, 4, 5, 0] rfl ?_
        exact hj66_1  h
def mX1_goOn_36_J112 (rec : me_M → Int32 → Int32 → Option me_M) (p0 : Int32) (p1 : Int32) (x3_1 : Int32) (M4 : me_M) : Option ((Int32 × me_M) ⊕ (me_M)) :=
  some (.inl ((x3_1 + 1), M4))
def mX1_goOn_36_J40 (rec : me_M → Int32 → Int32 → Option me_M) (p0 : Int32) (p1 : Int32) (x3_1 : Int32) (M1 : me_M) (s1 : Int32) : Option ((Int32 × me_M) ⊕ (me_M)) :=
  ((mX10_hasLetter_3 M1 x3_1).bind fun v2 => (if v2 = 0 then (mX1_goOn_36_J112 rec p0 p1 x3_1 M1) else ((me_r M1 44 24 p0).bind fun v3 => (if v3 < s1 then (mX1_goOn_36_J112 rec p0 p1 x3_1 M1) else ((me_r (me_s M1 36 10 ((M1.1 36 10) + 1)) 42 24 p0).bind fun v4 => ((mX7_extend_37 (me_s M1 36 10 ((M1.1 36 10) + 1)) p0 x3_1 v4).bind fun (v5, M2) => (if v5 ≤ 0 then (mX1_goOn_36_J112 rec p0 p1 x3_1 M2) else ((me_r M2 43 24 p0).bind fun v6 => (if s1 < v6 then (mX1_goOn_36_J112 rec p0 p1 x3_1 M2) else ((rec M2 (p0 + 1) s1).bind fun M3 => (mX1_goOn_36_J112 rec p0 p1 x3_1 M3)))))))))))
def mX1_goOn_36_L17 (rec : me_M → Int32 → Int32 → Option me_M) (p0 : Int32) (p1 : Int32) : (Int32 × me_M) → Option ((Int32 × me_M) ⊕ (me_M))
  | (x3_1, M1) => (if 8 ≤ x3_1 then some (.inr M1) else ((me_r M1 41 24 p0).bind fun v1 => (if x3_1 = v1 then (mX1_goOn_36_J40 rec p0 p1 x3_1 M1 p1) else (mX1_goOn_36_J40 rec p0 p1 x3_1 M1 (p1 + 1)))))
def mX1_goOn_36_b (rec : me_M → Int32 → Int32 → Option me_M) (M : me_M) (p0 : Int32) (p1 : Int32) : Option me_M :=
  (if p0 < (M.1 36 9) then ((me_l (mX1_goOn_36_L17 rec p0 p1) me_fu (0, M)).bind fun M5 => some M5) else ((mX1_noteFound_36 M p0 p1).bind fun M6 => some M6))
def mX1_goOn_36 : Nat → me_M → Int32 → Int32 → Option me_M
  | 0, _, _, _ => none
  | d + 1, M, p0, p1 => mX1_goOn_36_b (mX1_goOn_36 d) M p0 p1
set_option maxRecDepth 100000 in
set_option maxHeartbeats 4000000 in
theorem ctX1_goOn_36 {l : Launch} {n nt : Nat} (hn : 63 ≤ n) (hnt : 1 ≤ nt) : ∀ (d : Nat) (M : me_M) (p0 : Int32) (p1 : Int32) (M' : me_M), mX1_goOn_36 d M p0 p1 = some M' → me_Ct l yX1_goOn cX1_goOn 5 none (4 + d) n nt (fun ad => [.ref (ad 36), .int p0, .int p1]) M (fun _ => none) M' := by
  intro d
  induction d with
  | zero => intro M p0 p1 M' h; have h : (none : Option me_M) = some M' := h; cases h
  | succ d ih =>
    intro M p0 p1 M' h
    have h : mX1_goOn_36_b (mX1_goOn_36 d) M p0 p1 = some M' := h
    unfold mX1_goOn_36_b at h
    refine me_enter (N0 := 63) RX1 rfl (plainFor_of_name pl_RX1) hn (Nat.le_trans (by decide) hnt) (fun _ => Nat.le_of_ble_eq_true rfl) ?_
    intro p e R s m args below meth c D cA ad tys A X hr hlk
    refine me_sub (L' := [(0, .ref (ad 36)), (1, .int p0), (2, .int p1)]) [0, 1, 2] rfl ?_
    refine me_iload_n X (i := 1) 1 rfl dX1_goOn_0 ?_
    refine me_aload_n X (i := 0) 0 rfl dX1_goOn_1 ?_
    refine me_geti X kF_X1_54 (Nat.le_of_ble_eq_true rfl) me_k36 me_f36_9 dX1_goOn_2 ?_
    refine me_icmp_lt X 15 (by decide) dX1_goOn_5 (fun c1 => ?_) (fun c1 => ?_)
    · have h := me_ip c1 h
      refine me_iconst X dX1_goOn_15 ic_0 ?_
      refine me_istore_n X (i := 3) [(3, .int 0), (0, .ref (ad 36)), (1, .int p0), (2, .int p1)] (Nat.le_of_ble_eq_true rfl) rfl dX1_goOn_16 ?_
      obtain ⟨M5, hq1, h⟩ := me_bd h
      have hx1 : me_W p l e R s m args below meth c 0 0 (MQ below (me_Qc D cA ad n A none M') args s 0 0 A) D cA ad n 5 A 118 [] [] M5 := by
        obtain rfl := me_so h
        exact me_vret X hr hlk dX1_goOn_118
      refine me_sub (L' := [(0, .ref (ad 36)), (1, .int p0), (2, .int p1), (3, .int 0)]) [1, 2, 3, 0] rfl ?_
      refine me_l_W (b := (mX1_goOn_36_L17 (mX1_goOn_36 d) p0 p1)) (P := fun w => me_W p l e R s m args below meth c 0 0 (MQ below (me_Qc D cA ad n A none M') args s 0 0 A) D cA ad n 5 A 17 [(0, .ref (ad 36)), (1, .int p0), (2, .int p1), (3, .int w.1)] [] w.2) (r := M5) ?_ me_fu (0, M) hq1
      rintro ⟨x3_1, M1⟩ z1 h hb1 - hr1
      unfold mX1_goOn_36_L17 at h
      refine me_iload_n X (i := 3) 3 rfl dX1_goOn_17 ?_
      refine me_bipush X dX1_goOn_18 ib_8 ?_
      refine me_icmp_ge X 118 (by decide) dX1_goOn_20 (fun c2 => ?_) (fun c2 => ?_)
      · have h := me_ip c2 h
        obtain rfl := me_so h
        have q := hr1 _ rfl
        refine me_sub (L' := []) [] rfl ?_
        cases q
        exact hx1
      · have h := me_in c2 h
        refine me_iload_n X (i := 3) 3 rfl dX1_goOn_23 ?_
        refine me_aload_n X (i := 0) 0 rfl dX1_goOn_24 ?_
        refine me_getr X 41 kF_X1_9 (Nat.le_of_ble_eq_true rfl) me_k36 me_f36_3 dX1_goOn_25 ?_
        refine me_iload_n X (i := 1) 1 rfl dX1_goOn_28 ?_
        obtain ⟨v1, e1, h⟩ := me_bd h
        refine me_iald X (Nat.le_of_ble_eq_true rfl) me_k41 e1 dX1_goOn_29 ?_
        have hj40_1 : ∀ (s1 : Int32), mX1_goOn_36_J40 (mX1_goOn_36 d) p0 p1 x3_1 M1 s1 = some z1 → me_W p l e R s m args below meth c 0 0 (MQ below (me_Qc D cA ad n A none M') args s 0 0 A) D cA ad n 5 A 40 [(0, .ref (ad 36)), (1, .int p0), (2, .int p1), (3, .int x3_1)] [.int s1] M1 := by
          intro s1 h
          unfold mX1_goOn_36_J40 at h
          refine me_istore X (i := 4) [(4, .int s1), (0, .ref (ad 36)), (1, .int p0), (2, .int p1), (3, .int x3_1)] (Nat.le_of_ble_eq_true rfl) rfl dX1_goOn_40 ?_
          refine me_aload_n X (i := 0) 1 rfl dX1_goOn_42 ?_
          refine me_getr X 3 kF_X1_30 (Nat.le_of_ble_eq_true rfl) me_k36 me_f36_0 dX1_goOn_43 ?_
          refine me_iload_n X (i := 3) 4 rfl dX1_goOn_46 ?_
          obtain ⟨v2, e2, h⟩ := me_bd h
          refine me_callVi X [.int x3_1] (ctX10_hasLetter_3 hn (Nat.le_trans (by decide) hnt) e2) kV_X1_92 rfl rfl (Nat.le_of_ble_eq_true rfl) me_k3 (by omega) (Nat.le_refl _) (Nat.le_of_ble_eq_true rfl) dX1_goOn_47 ?_
          have hj112_2 : ∀ (M4 : me_M), mX1_goOn_36_J112 (mX1_goOn_36 d) p0 p1 x3_1 M4 = some z1 → me_W p l e R s m args below meth c 0 0 (MQ below (me_Qc D cA ad n A none M') args s 0 0 A) D cA ad n 5 A 112 [(0, .ref (ad 36)), (1, .int p0), (2, .int p1), (3, .int x3_1)] [] M4 := by
            intro M4 h
            unfold mX1_goOn_36_J112 at h
            refine me_iinc X (v := (x3_1 + 1)) 3 rfl (in_1 _) [(3, .int (x3_1 + 1)), (0, .ref (ad 36)), (1, .int p0), (2, .int p1)] (Nat.le_of_ble_eq_true rfl) rfl dX1_goOn_112 ?_
            refine me_goto X 17 (by decide) dX1_goOn_115 ?_
            obtain rfl := me_so h
            refine me_sub (L' := [(0, .ref (ad 36)), (1, .int p0), (2, .int p1), (3, .int (x3_1 + 1))]) [1, 2, 3, 0] rfl ?_
            exact hb1 ((x3_1 + 1), M4) rfl
          refine me_if_eq X 112 (by decide) dX1_goOn_50 (fun c4 => ?_) (fun c4 => ?_)
          · have h := me_ip c4 h
            refine me_sub (L' := [(0, .ref (ad 36)), (1, .int p0), (2, .int p1), (3, .int x3_1)]) [1, 2, 3, 4] rfl ?_
            exact hj112_2 M1 h
          · have h := me_in c4 h
            refine me_iload X (i := 4) 0 rfl dX1_goOn_53 ?_
            refine me_aload_n X (i := 0) 1 rfl dX1_goOn_55 ?_
            refine me_getr X 44 kF_X1_21 (Nat.le_of_ble_eq_true rfl) me_k36 me_f36_6 dX1_goOn_56 ?_
            refine me_iload_n X (i := 1) 2 rfl dX1_goOn_59 ?_
            obtain ⟨v3, e3, h⟩ := me_bd h
            refine me_iald X (Nat.le_of_ble_eq_true rfl) me_k44 e3 dX1_goOn_60 ?_
            refine me_icmp_gt X 112 (by decide) dX1_goOn_61 (fun c5 => ?_) (fun c5 => ?_)
            · have h := me_ip c5 h
              refine me_sub (L' := [(0, .ref (ad 36)), (1, .int p0), (2, .int p1), (3, .int x3_1)]) [1, 2, 3, 4] rfl ?_
              exact hj112_2 M1 h
            · have h := me_in c5 h
              refine me_aload_n X (i := 0) 1 rfl dX1_goOn_64 ?_
              refine me_dup X rfl dX1_goOn_65 ?_
              refine me_geti X kF_X1_47 (Nat.le_of_ble_eq_true rfl) me_k36 me_f36_10 dX1_goOn_66 ?_
              refine me_iconst X dX1_goOn_69 ic_1 ?_
              refine me_iadd X dX1_goOn_70 ?_
              refine me_puti X kG_X1_47 (Nat.le_of_ble_eq_true rfl) me_k36 me_f36_10 dX1_goOn_71 ?_
              refine me_aload_n X (i := 0) 1 rfl dX1_goOn_74 ?_
              refine me_getr X 37 kF_X1_43 (Nat.le_of_ble_eq_true rfl) me_k36 me_f36_2 dX1_goOn_75 ?_
              refine me_iload_n X (i := 1) 2 rfl dX1_goOn_78 ?_
              refine me_iload_n X (i := 3) 4 rfl dX1_goOn_79 ?_
              refine me_aload_n X (i := 0) 1 rfl dX1_goOn_80 ?_
              refine me_getr X 42 kF_X1_15 (Nat.le_of_ble_eq_true rfl) me_k36 me_f36_4 dX1_goOn_81 ?_
              refine me_iload_n X (i := 1) 2 rfl dX1_goOn_84 ?_
              obtain ⟨v4, e4, h⟩ := me_bd h
              refine me_iald X (Nat.le_of_ble_eq_true rfl) me_k42 e4 dX1_goOn_85 ?_
              obtain ⟨⟨v5, M2⟩, e5, h⟩ := me_bd h
              refine me_callVi X [.int p0, .int x3_1, .int v4] (ctX7_extend_37 hn (Nat.le_trans (by decide) hnt) e5) kV_X1_98 rfl rfl (Nat.le_of_ble_eq_true rfl) me_k37 (by omega) (Nat.le_refl _) (Nat.le_of_ble_eq_true rfl) dX1_goOn_86 ?_
              refine me_if_le X 112 (by decide) dX1_goOn_89 (fun c6 => ?_) (fun c6 => ?_)
              · have h := me_ip c6 h
                refine me_sub (L' := [(0, .ref (ad 36)), (1, .int p0), (2, .int p1), (3, .int x3_1)]) [1, 2, 3, 4] rfl ?_
                exact hj112_2 M2 h
              · have h := me_in c6 h
                refine me_iload X (i := 4) 0 rfl dX1_goOn_92 ?_
                refine me_aload_n X (i := 0) 1 rfl dX1_goOn_94 ?_
                refine me_getr X 43 kF_X1_18 (Nat.le_of_ble_eq_true rfl) me_k36 me_f36_5 dX1_goOn_95 ?_
                refine me_iload_n X (i := 1) 2 rfl dX1_goOn_98 ?_
                obtain ⟨v6, e6, h⟩ := me_bd h
                refine me_iald X (Nat.le_of_ble_eq_true rfl) me_k43 e6 dX1_goOn_99 ?_
                refine me_icmp_lt X 112 (by decide) dX1_goOn_100 (fun c7 => ?_) (fun c7 => ?_)
                · have h := me_ip c7 h
                  refine me_sub (L' := [(0, .ref (ad 36)), (1, .int p0), (2, .int p1), (3, .int x3_1)]) [1, 2, 3, 4] rfl ?_
                  exact hj112_2 M2 h
                · have h := me_in c7 h
                  refine me_aload_n X (i := 0) 1 rfl dX1_goOn_103 ?_
                  refine me_iload_n X (i := 1) 2 rfl dX1_goOn_104 ?_
                  refine me_iconst X dX1_goOn_105 ic_1 ?_
                  refine me_iadd X dX1_goOn_106 ?_
                  refine me_iload X (i := 4) 0 rfl dX1_goOn_107 ?_
                  obtain ⟨M3, e7, h⟩ := me_bd h
                  refine me_callVv X [.int (p0 + 1), .int s1] (ih _ _ _ _ e7) kV_X1_81 rfl rfl (Nat.le_of_ble_eq_true rfl) me_k36 (by omega) (Nat.le_refl _) (Nat.le_of_ble_eq_true rfl) dX1_goOn_109 ?_
                  refine me_sub (L' := [(0, .ref (ad 36)), (1, .int p0), (2, .int p1), (3, .int x3_1)]) [1, 2, 3, 4] rfl ?_
                  exact hj112_2 M3 h
        refine me_icmp_ne X 37 (by decide) dX1_goOn_30 (fun c3 => ?_) (fun c3 => ?_)
        · have h := me_in c3 h
          refine me_iload_n X (i := 2) 2 rfl dX1_goOn_37 ?_
          refine me_iconst X dX1_goOn_38 ic_1 ?_
          refine me_iadd X dX1_goOn_39 ?_
          exact hj40_1 (p1 + 1) h
        · have h := me_ip c3 h
          refine me_iload_n X (i := 2) 2 rfl dX1_goOn_33 ?_
          refine me_goto X 40 (by decide) dX1_goOn_34 ?_
          exact hj40_1 p1 h
    · have h := me_in c1 h
      refine me_aload_n X (i := 0) 0 rfl dX1_goOn_8 ?_
      refine me_iload_n X (i := 1) 1 rfl dX1_goOn_9 ?_
      refine me_iload_n X (i := 2) 2 rfl dX1_goOn_10 ?_
      obtain ⟨M6, e8, h⟩ := me_bd h
      refine me_callVv X [.int p0, .int p1] (ctX1_noteFound_36 hn (Nat.le_trans (by decide) hnt) e8) kV_X1_89 rfl rfl (Nat.le_of_ble_eq_true rfl) me_k36 (by omega) (Nat.le_refl _) (Nat.le_of_ble_eq_true rfl) dX1_goOn_11 ?_
      obtain rfl := me_so h
      exact me_vret X hr hlk dX1_goOn_14
def mX1_run_36_53_48_J150 (p1 : Int32) (x5_1 : Int32) (x6_2 : Int32) (M7 : me_M) : Option ((Int32 × me_M) ⊕ (me_M)) :=
  some (.inl ((x6_2 + 1), M7))
def mX1_run_36_53_48_J122 (p1 : Int32) (x5_1 : Int32) (x6_2 : Int32) (M5 : me_M) : Option ((Int32 × me_M) ⊕ (me_M)) :=
  (if (M5.1 36 9) ≤ 0 then (mX1_run_36_53_48_J150 p1 x5_1 x6_2 M5) else ((me_r M5 55 40 (x5_1 + x6_2)).bind fun v9 => ((me_t M5 43 24 ((M5.1 36 9) - 1) v9).bind fun M6 => (mX1_run_36_53_48_J150 p1 x5_1 x6_2 M6))))
def mX1_run_36_53_48_L22 (p1 : Int32) (x5_1 : Int32) : (Int32 × me_M) → Option ((Int32 × me_M) ⊕ (me_M))
  | (x6_2, M2) => (if (M2.1 53 5) ≤ x6_2 then some (.inr M2) else ((me_r M2 54 40 (x5_1 + x6_2)).bind fun v1 => ((me_dv (v1 * p1) (M2.1 53 5)).bind fun v2 => ((me_dv ((v1 + 1) * p1) (M2.1 53 5)).bind fun v3 => ((me_r M2 54 40 x5_1).bind fun v4 => (if v4 ≤ v1 then ((me_r M2 56 40 (x5_1 + x6_2)).bind fun v5 => ((mX1_planRightwards_36_48 M2 v2 v3 v5).bind fun M3 => (mX1_run_36_53_48_J122 p1 x5_1 x6_2 M3))) else ((me_r M2 56 40 (x5_1 + x6_2)).bind fun v7 => ((mX1_planLeftwards_36_48 M2 v2 v3 v7).bind fun M4 => (mX1_run_36_53_48_J122 p1 x5_1 x6_2 M4)))))))))
def mX1_run_36_53_48_K22 (p1 : Int32) (x5_1 : Int32) (x6_1 : Int32) (M1 : me_M) : Option me_M :=
  ((me_l (mX1_run_36_53_48_L22 p1 x5_1) me_fu (x6_1, M1)).bind fun M8 => ((mX7_start_37 M8).bind fun M9 => ((mX1_goOn_36 26 M9 0 0).bind fun M10 => some M10)))
def mX1_run_36_53_48 (M : me_M) (p0 : Int32) (p1 : Int32) : Option me_M :=
  (if 1 ≤ ((me_s M 36 9 0).1 53 5) then (mX1_run_36_53_48_K22 p1 (p0 * 5) 0 (me_s M 36 9 0)) else some (me_s M 36 9 0))
set_option maxRecDepth 100000 in
set_option maxHeartbeats 4000000 in
theorem ctX1_run_36_53_48 {l : Launch} {n nt : Nat} (hn : 63 ≤ n) (hnt : 1 ≤ nt) {M : me_M} {p0 : Int32} {p1 : Int32} {M' : me_M} (h : mX1_run_36_53_48 M p0 p1 = some M') : me_Ct l yX1_run cX1_run 10 none 31 n nt (fun ad => [.ref (ad 36), .ref (ad 53), .int p0, .ref (ad 48), .int p1]) M (fun _ => none) M' := by
  unfold mX1_run_36_53_48 at h
  refine me_enter (N0 := 63) RX1 rfl (plainFor_of_name pl_RX1) hn (Nat.le_trans (by decide) hnt) (fun _ => Nat.le_of_ble_eq_true rfl) ?_
  intro p e R s m args below meth c D cA ad tys A X hr hlk
  refine me_sub (L' := [(0, .ref (ad 36)), (1, .ref (ad 53)), (2, .int p0), (3, .ref (ad 48)), (4, .int p1)]) [0, 1, 2, 3, 4] rfl ?_
  refine me_aload_n X (i := 0) 0 rfl dX1_run_0 ?_
  refine me_iconst X dX1_run_1 ic_0 ?_
  refine me_puti X kG_X1_54 (Nat.le_of_ble_eq_true rfl) me_k36 me_f36_9 dX1_run_2 ?_
  refine me_aload_n X (i := 1) 1 rfl dX1_run_5 ?_
  refine me_geti X kF_X1_57 (Nat.le_of_ble_eq_true rfl) me_k53 me_f53_5 dX1_run_6 ?_
  refine me_iconst X dX1_run_9 ic_1 ?_
  refine me_icmp_ge X 14 (by decide) dX1_run_10 (fun c1 => ?_) (fun c1 => ?_)
  · have h := me_ip c1 h
    refine me_iload_n X (i := 2) 2 rfl dX1_run_14 ?_
    refine me_iconst X dX1_run_15 ic_5 ?_
    refine me_imul X dX1_run_16 ?_
    refine me_istore X (i := 5) [(5, .int (p0 * 5)), (0, .ref (ad 36)), (1, .ref (ad 53)), (2, .int p0), (3, .ref (ad 48)), (4, .int p1)] (Nat.le_of_ble_eq_true rfl) rfl dX1_run_17 ?_
    refine me_iconst X dX1_run_19 ic_0 ?_
    refine me_istore X (i := 6) [(6, .int 0), (5, .int (p0 * 5)), (0, .ref (ad 36)), (1, .ref (ad 53)), (2, .int p0), (3, .ref (ad 48)), (4, .int p1)] (Nat.le_of_ble_eq_true rfl) rfl dX1_run_20 ?_
    have hk22_0 : ∀ (x5_1 : Int32) (x6_1 : Int32) (M1 : me_M), mX1_run_36_53_48_K22 p1 x5_1 x6_1 M1 = some M' → me_W p l e R s m args below meth c 0 0 (MQ below (me_Qc D cA ad n A none M') args s 0 0 A) D cA ad n 10 A 22 [(0, .ref (ad 36)), (1, .ref (ad 53)), (3, .ref (ad 48)), (4, .int p1), (5, .int x5_1), (6, .int x6_1)] [] M1 := by
      intro x5_1 x6_1 M1 h
      unfold mX1_run_36_53_48_K22 at h
      obtain ⟨M8, hq1, h⟩ := me_bd h
      have hx1 : me_W p l e R s m args below meth c 0 0 (MQ below (me_Qc D cA ad n A none M') args s 0 0 A) D cA ad n 10 A 156 [(0, .ref (ad 36))] [] M8 := by
        refine me_aload_n X (i := 0) 0 rfl dX1_run_156 ?_
        refine me_getr X 37 kF_X1_43 (Nat.le_of_ble_eq_true rfl) me_k36 me_f36_2 dX1_run_157 ?_
        obtain ⟨M9, e11, h⟩ := me_bd h
        refine me_callVv X [] (ctX7_start_37 hn (Nat.le_trans (by decide) hnt) e11) kV_X1_78 rfl rfl (Nat.le_of_ble_eq_true rfl) me_k37 (Nat.le_of_ble_eq_true rfl) (Nat.le_refl _) (Nat.le_of_ble_eq_true rfl) dX1_run_160 ?_
        refine me_aload_n X (i := 0) 0 rfl dX1_run_163 ?_
        refine me_iconst X dX1_run_164 ic_0 ?_
        refine me_iconst X dX1_run_165 ic_0 ?_
        obtain ⟨M10, e12, h⟩ := me_bd h
        refine me_callVv X [.int 0, .int 0] (ctX1_goOn_36 hn (Nat.le_trans (by decide) hnt) 26 _ _ _ _ e12) kV_X1_81 rfl rfl (Nat.le_of_ble_eq_true rfl) me_k36 (by omega) (Nat.le_refl _) (Nat.le_of_ble_eq_true rfl) dX1_run_166 ?_
        obtain rfl := me_so h
        exact me_vret X hr hlk dX1_run_169
      refine me_l_W (b := (mX1_run_36_53_48_L22 p1 x5_1)) (P := fun w => me_W p l e R s m args below meth c 0 0 (MQ below (me_Qc D cA ad n A none M') args s 0 0 A) D cA ad n 10 A 22 [(0, .ref (ad 36)), (1, .ref (ad 53)), (3, .ref (ad 48)), (4, .int p1), (5, .int x5_1), (6, .int w.1)] [] w.2) (r := M8) ?_ me_fu (x6_1, M1) hq1
      rintro ⟨x6_2, M2⟩ z1 h hb1 - hr1
      unfold mX1_run_36_53_48_L22 at h
      refine me_iload X (i := 6) 5 rfl dX1_run_22 ?_
      refine me_aload_n X (i := 1) 1 rfl dX1_run_24 ?_
      refine me_geti X kF_X1_57 (Nat.le_of_ble_eq_true rfl) me_k53 me_f53_5 dX1_run_25 ?_
      refine me_icmp_ge X 156 (by decide) dX1_run_28 (fun c2 => ?_) (fun c2 => ?_)
      · have h := me_ip c2 h
        obtain rfl := me_so h
        have q := hr1 _ rfl
        refine me_sub (L' := [(0, .ref (ad 36))]) [0] rfl ?_
        cases q
        exact hx1
      · have h := me_in c2 h
        refine me_aload_n X (i := 1) 1 rfl dX1_run_31 ?_
        refine me_getr X 54 kF_X1_62 (Nat.le_of_ble_eq_true rfl) me_k53 me_f53_0 dX1_run_32 ?_
        refine me_iload X (i := 5) 4 rfl dX1_run_35 ?_
        refine me_iload X (i := 6) 5 rfl dX1_run_37 ?_
        refine me_iadd X dX1_run_39 ?_
        obtain ⟨v1, e1, h⟩ := me_bd h
        refine me_iald X (Nat.le_of_ble_eq_true rfl) me_k54 e1 dX1_run_40 ?_
        refine me_istore X (i := 7) [(7, .int v1), (0, .ref (ad 36)), (1, .ref (ad 53)), (3, .ref (ad 48)), (4, .int p1), (5, .int x5_1), (6, .int x6_2)] (Nat.le_of_ble_eq_true rfl) rfl dX1_run_41 ?_
        refine me_iload X (i := 7) 0 rfl dX1_run_43 ?_
        refine me_iload X (i := 4) 4 rfl dX1_run_45 ?_
        refine me_imul X dX1_run_47 ?_
        refine me_aload_n X (i := 1) 2 rfl dX1_run_48 ?_
        refine me_geti X kF_X1_57 (Nat.le_of_ble_eq_true rfl) me_k53 me_f53_5 dX1_run_49 ?_
        obtain ⟨v2, e2, h⟩ := me_bd h
        refine me_idiv X e2 dX1_run_52 ?_
        refine me_istore X (i := 8) [(8, .int v2), (7, .int v1), (0, .ref (ad 36)), (1, .ref (ad 53)), (3, .ref (ad 48)), (4, .int p1), (5, .int x5_1), (6, .int x6_2)] (Nat.le_of_ble_eq_true rfl) rfl dX1_run_53 ?_
        refine me_iload X (i := 7) 1 rfl dX1_run_55 ?_
        refine me_iconst X dX1_run_57 ic_1 ?_
        refine me_iadd X dX1_run_58 ?_
        refine me_iload X (i := 4) 5 rfl dX1_run_59 ?_
        refine me_imul X dX1_run_61 ?_
        refine me_aload_n X (i := 1) 3 rfl dX1_run_62 ?_
        refine me_geti X kF_X1_57 (Nat.le_of_ble_eq_true rfl) me_k53 me_f53_5 dX1_run_63 ?_
        obtain ⟨v3, e3, h⟩ := me_bd h
        refine me_idiv X e3 dX1_run_66 ?_
        refine me_istore X (i := 9) [(9, .int v3), (8, .int v2), (7, .int v1), (0, .ref (ad 36)), (1, .ref (ad 53)), (3, .ref (ad 48)), (4, .int p1), (5, .int x5_1), (6, .int x6_2)] (Nat.le_of_ble_eq_true rfl) rfl dX1_run_67 ?_
        refine me_iload X (i := 7) 2 rfl dX1_run_69 ?_
        refine me_aload_n X (i := 1) 4 rfl dX1_run_71 ?_
        refine me_getr X 54 kF_X1_62 (Nat.le_of_ble_eq_true rfl) me_k53 me_f53_0 dX1_run_72 ?_
        refine me_iload X (i := 5) 7 rfl dX1_run_75 ?_
        obtain ⟨v4, e4, h⟩ := me_bd h
        refine me_iald X (Nat.le_of_ble_eq_true rfl) me_k54 e4 dX1_run_77 ?_
        have hj122_1 : ∀ (M5 : me_M), mX1_run_36_53_48_J122 p1 x5_1 x6_2 M5 = some z1 → me_W p l e R s m args below meth c 0 0 (MQ below (me_Qc D cA ad n A none M') args s 0 0 A) D cA ad n 10 A 122 [(0, .ref (ad 36)), (1, .ref (ad 53)), (3, .ref (ad 48)), (4, .int p1), (5, .int x5_1), (6, .int x6_2)] [] M5 := by
          intro M5 h
          unfold mX1_run_36_53_48_J122 at h
          refine me_aload_n X (i := 0) 0 rfl dX1_run_122 ?_
          refine me_geti X kF_X1_54 (Nat.le_of_ble_eq_true rfl) me_k36 me_f36_9 dX1_run_123 ?_
          have hj150_2 : ∀ (M7 : me_M), mX1_run_36_53_48_J150 p1 x5_1 x6_2 M7 = some z1 → me_W p l e R s m args below meth c 0 0 (MQ below (me_Qc D cA ad n A none M') args s 0 0 A) D cA ad n 10 A 150 [(0, .ref (ad 36)), (1, .ref (ad 53)), (3, .ref (ad 48)), (4, .int p1), (5, .int x5_1), (6, .int x6_2)] [] M7 := by
            intro M7 h
            unfold mX1_run_36_53_48_J150 at h
            refine me_iinc X (v := (x6_2 + 1)) 5 rfl (in_1 _) [(6, .int (x6_2 + 1)), (0, .ref (ad 36)), (1, .ref (ad 53)), (3, .ref (ad 48)), (4, .int p1), (5, .int x5_1)] (Nat.le_of_ble_eq_true rfl) rfl dX1_run_150 ?_
            refine me_goto X 22 (by decide) dX1_run_153 ?_
            obtain rfl := me_so h
            refine me_sub (L' := [(0, .ref (ad 36)), (1, .ref (ad 53)), (3, .ref (ad 48)), (4, .int p1), (5, .int x5_1), (6, .int (x6_2 + 1))]) [1, 2, 3, 4, 5, 0] rfl ?_
            exact hb1 ((x6_2 + 1), M7) rfl
          refine me_if_le X 150 (by decide) dX1_run_126 (fun c4 => ?_) (fun c4 => ?_)
          · have h := me_ip c4 h
            exact hj150_2 M5 h
          · have h := me_in c4 h
            refine me_aload_n X (i := 0) 0 rfl dX1_run_129 ?_
            refine me_getr X 43 kF_X1_18 (Nat.le_of_ble_eq_true rfl) me_k36 me_f36_5 dX1_run_130 ?_
            refine me_aload_n X (i := 0) 0 rfl dX1_run_133 ?_
            refine me_geti X kF_X1_54 (Nat.le_of_ble_eq_true rfl) me_k36 me_f36_9 dX1_run_134 ?_
            refine me_iconst X dX1_run_137 ic_1 ?_
            refine me_isub X dX1_run_138 ?_
            refine me_aload_n X (i := 1) 1 rfl dX1_run_139 ?_
            refine me_getr X 55 kF_X1_75 (Nat.le_of_ble_eq_true rfl) me_k53 me_f53_1 dX1_run_140 ?_
            refine me_iload X (i := 5) 4 rfl dX1_run_143 ?_
            refine me_iload X (i := 6) 5 rfl dX1_run_145 ?_
            refine me_iadd X dX1_run_147 ?_
            obtain ⟨v9, e9, h⟩ := me_bd h
            refine me_iald X (Nat.le_of_ble_eq_true rfl) me_k55 e9 dX1_run_148 ?_
            obtain ⟨M6, e10, h⟩ := me_bd h
            refine me_iast X (Nat.le_of_ble_eq_true rfl) me_k43 e10 dX1_run_149 ?_
            exact hj150_2 M6 h
        refine me_icmp_ge X 103 (by decide) dX1_run_78 (fun c3 => ?_) (fun c3 => ?_)
        · have h := me_ip c3 h
          refine me_aload_n X (i := 0) 3 rfl dX1_run_103 ?_
          refine me_aload_n X (i := 3) 5 rfl dX1_run_104 ?_
          refine me_iload X (i := 8) 1 rfl dX1_run_105 ?_
          refine me_iload X (i := 9) 0 rfl dX1_run_107 ?_
          refine me_aload_n X (i := 1) 4 rfl dX1_run_109 ?_
          refine me_getr X 56 kF_X1_65 (Nat.le_of_ble_eq_true rfl) me_k53 me_f53_2 dX1_run_110 ?_
          refine me_iload X (i := 5) 7 rfl dX1_run_113 ?_
          refine me_iload X (i := 6) 8 rfl dX1_run_115 ?_
          refine me_iadd X dX1_run_117 ?_
          obtain ⟨v5, e5, h⟩ := me_bd h
          refine me_iald X (Nat.le_of_ble_eq_true rfl) me_k56 e5 dX1_run_118 ?_
          obtain ⟨M3, e6, h⟩ := me_bd h
          refine me_callVv X [.ref (ad 48), .int v2, .int v3, .int v5] (ctX1_planRightwards_36_48 hn (Nat.le_trans (by decide) hnt) e6) kV_X1_72 rfl rfl (Nat.le_of_ble_eq_true rfl) me_k36 (Nat.le_of_ble_eq_true rfl) (Nat.le_refl _) (Nat.le_of_ble_eq_true rfl) dX1_run_119 ?_
          refine me_sub (L' := [(0, .ref (ad 36)), (1, .ref (ad 53)), (3, .ref (ad 48)), (4, .int p1), (5, .int x5_1), (6, .int x6_2)]) [3, 4, 5, 6, 7, 8] rfl ?_
          exact hj122_1 M3 h
        · have h := me_in c3 h
          refine me_aload_n X (i := 0) 3 rfl dX1_run_81 ?_
          refine me_aload_n X (i := 3) 5 rfl dX1_run_82 ?_
          refine me_iload X (i := 8) 1 rfl dX1_run_83 ?_
          refine me_iload X (i := 9) 0 rfl dX1_run_85 ?_
          refine me_aload_n X (i := 1) 4 rfl dX1_run_87 ?_
          refine me_getr X 56 kF_X1_65 (Nat.le_of_ble_eq_true rfl) me_k53 me_f53_2 dX1_run_88 ?_
          refine me_iload X (i := 5) 7 rfl dX1_run_91 ?_
          refine me_iload X (i := 6) 8 rfl dX1_run_93 ?_
          refine me_iadd X dX1_run_95 ?_
          obtain ⟨v7, e7, h⟩ := me_bd h
          refine me_iald X (Nat.le_of_ble_eq_true rfl) me_k56 e7 dX1_run_96 ?_
          obtain ⟨M4, e8, h⟩ := me_bd h
          refine me_callVv X [.ref (ad 48), .int v2, .int v3, .int v7] (ctX1_planLeftwards_36_48 hn (Nat.le_trans (by decide) hnt) e8) kV_X1_68 rfl rfl (Nat.le_of_ble_eq_true rfl) me_k36 (Nat.le_of_ble_eq_true rfl) (Nat.le_refl _) (Nat.le_of_ble_eq_true rfl) dX1_run_97 ?_
          refine me_goto X 122 (by decide) dX1_run_100 ?_
          refine me_sub (L' := [(0, .ref (ad 36)), (1, .ref (ad 53)), (3, .ref (ad 48)), (4, .int p1), (5, .int x5_1), (6, .int x6_2)]) [3, 4, 5, 6, 7, 8] rfl ?_
          exact hj122_1 M4 h
    refine me_sub (L' := [(0, .ref (ad 36)), (1, .ref (ad 53)), (3, .ref (ad 48)), (4, .int p1), (5, .int (p0 * 5)), (6, .int 0)]) [2, 3, 5, 6, 1, 0] rfl ?_
    exact hk22_0 (p0 * 5) 0 (me_s M 36 9 0) h
  · have h := me_in c1 h
    obtain rfl := me_so h
    exact me_vret X hr hlk dX1_run_13
def mX1_run_36_58_48_J150 (p1 : Int32) (x5_1 : Int32) (x6_2 : Int32) (M7 : me_M) : Option ((Int32 × me_M) ⊕ (me_M)) :=
  some (.inl ((x6_2 + 1), M7))
def mX1_run_36_58_48_J122 (p1 : Int32) (x5_1 : Int32) (x6_2 : Int32) (M5 : me_M) : Option ((Int32 × me_M) ⊕ (me_M)) :=
  (if (M5.1 36 9) ≤ 0 then (mX1_run_36_58_48_J150 p1 x5_1 x6_2 M5) else ((me_r M5 60 40 (x5_1 + x6_2)).bind fun v9 => ((me_t M5 43 24 ((M5.1 36 9) - 1) v9).bind fun M6 => (mX1_run_36_58_48_J150 p1 x5_1 x6_2 M6))))
def mX1_run_36_58_48_L22 (p1 : Int32) (x5_1 : Int32) : (Int32 × me_M) → Option ((Int32 × me_M) ⊕ (me_M))
  | (x6_2, M2) => (if (M2.1 58 5) ≤ x6_2 then some (.inr M2) else ((me_r M2 59 40 (x5_1 + x6_2)).bind fun v1 => ((me_dv (v1 * p1) (M2.1 58 5)).bind fun v2 => ((me_dv ((v1 + 1) * p1) (M2.1 58 5)).bind fun v3 => ((me_r M2 59 40 x5_1).bind fun v4 => (if v4 ≤ v1 then ((me_r M2 61 40 (x5_1 + x6_2)).bind fun v5 => ((mX1_planRightwards_36_48 M2 v2 v3 v5).bind fun M3 => (mX1_run_36_58_48_J122 p1 x5_1 x6_2 M3))) else ((me_r M2 61 40 (x5_1 + x6_2)).bind fun v7 => ((mX1_planLeftwards_36_48 M2 v2 v3 v7).bind fun M4 => (mX1_run_36_58_48_J122 p1 x5_1 x6_2 M4)))))))))
def mX1_run_36_58_48_K22 (p1 : Int32) (x5_1 : Int32) (x6_1 : Int32) (M1 : me_M) : Option me_M :=
  ((me_l (mX1_run_36_58_48_L22 p1 x5_1) me_fu (x6_1, M1)).bind fun M8 => ((mX7_start_37 M8).bind fun M9 => ((mX1_goOn_36 26 M9 0 0).bind fun M10 => some M10)))
def mX1_run_36_58_48 (M : me_M) (p0 : Int32) (p1 : Int32) : Option me_M :=
  (if 1 ≤ ((me_s M 36 9 0).1 58 5) then (mX1_run_36_58_48_K22 p1 (p0 * 5) 0 (me_s M 36 9 0)) else some (me_s M 36 9 0))
set_option maxRecDepth 100000 in
set_option maxHeartbeats 4000000 in
theorem ctX1_run_36_58_48 {l : Launch} {n nt : Nat} (hn : 63 ≤ n) (hnt : 1 ≤ nt) {M : me_M} {p0 : Int32} {p1 : Int32} {M' : me_M} (h : mX1_run_36_58_48 M p0 p1 = some M') : me_Ct l yX1_run cX1_run 10 none 31 n nt (fun ad => [.ref (ad 36), .ref (ad 58), .int p0, .ref (ad 48), .int p1]) M (fun _ => none) M' := by
  unfold mX1_run_36_58_48 at h
  refine me_enter (N0 := 63) RX1 rfl (plainFor_of_name pl_RX1) hn (Nat.le_trans (by decide) hnt) (fun _ => Nat.le_of_ble_eq_true rfl) ?_
  intro p e R s m args below meth c D cA ad tys A X hr hlk
  refine me_sub (L' := [(0, .ref (ad 36)), (1, .ref (ad 58)), (2, .int p0), (3, .ref (ad 48)), (4, .int p1)]) [0, 1, 2, 3, 4] rfl ?_
  refine me_aload_n X (i := 0) 0 rfl dX1_run_0 ?_
  refine me_iconst X dX1_run_1 ic_0 ?_
  refine me_puti X kG_X1_54 (Nat.le_of_ble_eq_true rfl) me_k36 me_f36_9 dX1_run_2 ?_
  refine me_aload_n X (i := 1) 1 rfl dX1_run_5 ?_
  refine me_geti X kF_X1_57 (Nat.le_of_ble_eq_true rfl) me_k58 me_f58_5 dX1_run_6 ?_
  refine me_iconst X dX1_run_9 ic_1 ?_
  refine me_icmp_ge X 14 (by decide) dX1_run_10 (fun c1 => ?_) (fun c1 => ?_)
  · have h := me_ip c1 h
    refine me_iload_n X (i := 2) 2 rfl dX1_run_14 ?_
    refine me_iconst X dX1_run_15 ic_5 ?_
    refine me_imul X dX1_run_16 ?_
    refine me_istore X (i := 5) [(5, .int (p0 * 5)), (0, .ref (ad 36)), (1, .ref (ad 58)), (2, .int p0), (3, .ref (ad 48)), (4, .int p1)] (Nat.le_of_ble_eq_true rfl) rfl dX1_run_17 ?_
    refine me_iconst X dX1_run_19 ic_0 ?_
    refine me_istore X (i := 6) [(6, .int 0), (5, .int (p0 * 5)), (0, .ref (ad 36)), (1, .ref (ad 58)), (2, .int p0), (3, .ref (ad 48)), (4, .int p1)] (Nat.le_of_ble_eq_true rfl) rfl dX1_run_20 ?_
    have hk22_0 : ∀ (x5_1 : Int32) (x6_1 : Int32) (M1 : me_M), mX1_run_36_58_48_K22 p1 x5_1 x6_1 M1 = some M' → me_W p l e R s m args below meth c 0 0 (MQ below (me_Qc D cA ad n A none M') args s 0 0 A) D cA ad n 10 A 22 [(0, .ref (ad 36)), (1, .ref (ad 58)), (3, .ref (ad 48)), (4, .int p1), (5, .int x5_1), (6, .int x6_1)] [] M1 := by
      intro x5_1 x6_1 M1 h
      unfold mX1_run_36_58_48_K22 at h
      obtain ⟨M8, hq1, h⟩ := me_bd h
      have hx1 : me_W p l e R s m args below meth c 0 0 (MQ below (me_Qc D cA ad n A none M') args s 0 0 A) D cA ad n 10 A 156 [(0, .ref (ad 36))] [] M8 := by
        refine me_aload_n X (i := 0) 0 rfl dX1_run_156 ?_
        refine me_getr X 37 kF_X1_43 (Nat.le_of_ble_eq_true rfl) me_k36 me_f36_2 dX1_run_157 ?_
        obtain ⟨M9, e11, h⟩ := me_bd h
        refine me_callVv X [] (ctX7_start_37 hn (Nat.le_trans (by decide) hnt) e11) kV_X1_78 rfl rfl (Nat.le_of_ble_eq_true rfl) me_k37 (Nat.le_of_ble_eq_true rfl) (Nat.le_refl _) (Nat.le_of_ble_eq_true rfl) dX1_run_160 ?_
        refine me_aload_n X (i := 0) 0 rfl dX1_run_163 ?_
        refine me_iconst X dX1_run_164 ic_0 ?_
        refine me_iconst X dX1_run_165 ic_0 ?_
        obtain ⟨M10, e12, h⟩ := me_bd h
        refine me_callVv X [.int 0, .int 0] (ctX1_goOn_36 hn (Nat.le_trans (by decide) hnt) 26 _ _ _ _ e12) kV_X1_81 rfl rfl (Nat.le_of_ble_eq_true rfl) me_k36 (by omega) (Nat.le_refl _) (Nat.le_of_ble_eq_true rfl) dX1_run_166 ?_
        obtain rfl := me_so h
        exact me_vret X hr hlk dX1_run_169
      refine me_l_W (b := (mX1_run_36_58_48_L22 p1 x5_1)) (P := fun w => me_W p l e R s m args below meth c 0 0 (MQ below (me_Qc D cA ad n A none M') args s 0 0 A) D cA ad n 10 A 22 [(0, .ref (ad 36)), (1, .ref (ad 58)), (3, .ref (ad 48)), (4, .int p1), (5, .int x5_1), (6, .int w.1)] [] w.2) (r := M8) ?_ me_fu (x6_1, M1) hq1
      rintro ⟨x6_2, M2⟩ z1 h hb1 - hr1
      unfold mX1_run_36_58_48_L22 at h
      refine me_iload X (i := 6) 5 rfl dX1_run_22 ?_
      refine me_aload_n X (i := 1) 1 rfl dX1_run_24 ?_
      refine me_geti X kF_X1_57 (Nat.le_of_ble_eq_true rfl) me_k58 me_f58_5 dX1_run_25 ?_
      refine me_icmp_ge X 156 (by decide) dX1_run_28 (fun c2 => ?_) (fun c2 => ?_)
      · have h := me_ip c2 h
        obtain rfl := me_so h
        have q := hr1 _ rfl
        refine me_sub (L' := [(0, .ref (ad 36))]) [0] rfl ?_
        cases q
        exact hx1
      · have h := me_in c2 h
        refine me_aload_n X (i := 1) 1 rfl dX1_run_31 ?_
        refine me_getr X 59 kF_X1_62 (Nat.le_of_ble_eq_true rfl) me_k58 me_f58_0 dX1_run_32 ?_
        refine me_iload X (i := 5) 4 rfl dX1_run_35 ?_
        refine me_iload X (i := 6) 5 rfl dX1_run_37 ?_
        refine me_iadd X dX1_run_39 ?_
        obtain ⟨v1, e1, h⟩ := me_bd h
        refine me_iald X (Nat.le_of_ble_eq_true rfl) me_k59 e1 dX1_run_40 ?_
        refine me_istore X (i := 7) [(7, .int v1), (0, .ref (ad 36)), (1, .ref (ad 58)), (3, .ref (ad 48)), (4, .int p1), (5, .int x5_1), (6, .int x6_2)] (Nat.le_of_ble_eq_true rfl) rfl dX1_run_41 ?_
        refine me_iload X (i := 7) 0 rfl dX1_run_43 ?_
        refine me_iload X (i := 4) 4 rfl dX1_run_45 ?_
        refine me_imul X dX1_run_47 ?_
        refine me_aload_n X (i := 1) 2 rfl dX1_run_48 ?_
        refine me_geti X kF_X1_57 (Nat.le_of_ble_eq_true rfl) me_k58 me_f58_5 dX1_run_49 ?_
        obtain ⟨v2, e2, h⟩ := me_bd h
        refine me_idiv X e2 dX1_run_52 ?_
        refine me_istore X (i := 8) [(8, .int v2), (7, .int v1), (0, .ref (ad 36)), (1, .ref (ad 58)), (3, .ref (ad 48)), (4, .int p1), (5, .int x5_1), (6, .int x6_2)] (Nat.le_of_ble_eq_true rfl) rfl dX1_run_53 ?_
        refine me_iload X (i := 7) 1 rfl dX1_run_55 ?_
        refine me_iconst X dX1_run_57 ic_1 ?_
        refine me_iadd X dX1_run_58 ?_
        refine me_iload X (i := 4) 5 rfl dX1_run_59 ?_
        refine me_imul X dX1_run_61 ?_
        refine me_aload_n X (i := 1) 3 rfl dX1_run_62 ?_
        refine me_geti X kF_X1_57 (Nat.le_of_ble_eq_true rfl) me_k58 me_f58_5 dX1_run_63 ?_
        obtain ⟨v3, e3, h⟩ := me_bd h
        refine me_idiv X e3 dX1_run_66 ?_
        refine me_istore X (i := 9) [(9, .int v3), (8, .int v2), (7, .int v1), (0, .ref (ad 36)), (1, .ref (ad 58)), (3, .ref (ad 48)), (4, .int p1), (5, .int x5_1), (6, .int x6_2)] (Nat.le_of_ble_eq_true rfl) rfl dX1_run_67 ?_
        refine me_iload X (i := 7) 2 rfl dX1_run_69 ?_
        refine me_aload_n X (i := 1) 4 rfl dX1_run_71 ?_
        refine me_getr X 59 kF_X1_62 (Nat.le_of_ble_eq_true rfl) me_k58 me_f58_0 dX1_run_72 ?_
        refine me_iload X (i := 5) 7 rfl dX1_run_75 ?_
        obtain ⟨v4, e4, h⟩ := me_bd h
        refine me_iald X (Nat.le_of_ble_eq_true rfl) me_k59 e4 dX1_run_77 ?_
        have hj122_1 : ∀ (M5 : me_M), mX1_run_36_58_48_J122 p1 x5_1 x6_2 M5 = some z1 → me_W p l e R s m args below meth c 0 0 (MQ below (me_Qc D cA ad n A none M') args s 0 0 A) D cA ad n 10 A 122 [(0, .ref (ad 36)), (1, .ref (ad 58)), (3, .ref (ad 48)), (4, .int p1), (5, .int x5_1), (6, .int x6_2)] [] M5 := by
          intro M5 h
          unfold mX1_run_36_58_48_J122 at h
          refine me_aload_n X (i := 0) 0 rfl dX1_run_122 ?_
          refine me_geti X kF_X1_54 (Nat.le_of_ble_eq_true rfl) me_k36 me_f36_9 dX1_run_123 ?_
          have hj150_2 : ∀ (M7 : me_M), mX1_run_36_58_48_J150 p1 x5_1 x6_2 M7 = some z1 → me_W p l e R s m args below meth c 0 0 (MQ below (me_Qc D cA ad n A none M') args s 0 0 A) D cA ad n 10 A 150 [(0, .ref (ad 36)), (1, .ref (ad 58)), (3, .ref (ad 48)), (4, .int p1), (5, .int x5_1), (6, .int x6_2)] [] M7 := by
            intro M7 h
            unfold mX1_run_36_58_48_J150 at h
            refine me_iinc X (v := (x6_2 + 1)) 5 rfl (in_1 _) [(6, .int (x6_2 + 1)), (0, .ref (ad 36)), (1, .ref (ad 58)), (3, .ref (ad 48)), (4, .int p1), (5, .int x5_1)] (Nat.le_of_ble_eq_true rfl) rfl dX1_run_150 ?_
            refine me_goto X 22 (by decide) dX1_run_153 ?_
            obtain rfl := me_so h
            refine me_sub (L' := [(0, .ref (ad 36)), (1, .ref (ad 58)), (3, .ref (ad 48)), (4, .int p1), (5, .int x5_1), (6, .int (x6_2 + 1))]) [1, 2, 3, 4, 5, 0] rfl ?_
            exact hb1 ((x6_2 + 1), M7) rfl
          refine me_if_le X 150 (by decide) dX1_run_126 (fun c4 => ?_) (fun c4 => ?_)
          · have h := me_ip c4 h
            exact hj150_2 M5 h
          · have h := me_in c4 h
            refine me_aload_n X (i := 0) 0 rfl dX1_run_129 ?_
            refine me_getr X 43 kF_X1_18 (Nat.le_of_ble_eq_true rfl) me_k36 me_f36_5 dX1_run_130 ?_
            refine me_aload_n X (i := 0) 0 rfl dX1_run_133 ?_
            refine me_geti X kF_X1_54 (Nat.le_of_ble_eq_true rfl) me_k36 me_f36_9 dX1_run_134 ?_
            refine me_iconst X dX1_run_137 ic_1 ?_
            refine me_isub X dX1_run_138 ?_
            refine me_aload_n X (i := 1) 1 rfl dX1_run_139 ?_
            refine me_getr X 60 kF_X1_75 (Nat.le_of_ble_eq_true rfl) me_k58 me_f58_1 dX1_run_140 ?_
            refine me_iload X (i := 5) 4 rfl dX1_run_143 ?_
            refine me_iload X (i := 6) 5 rfl dX1_run_145 ?_
            refine me_iadd X dX1_run_147 ?_
            obtain ⟨v9, e9, h⟩ := me_bd h
            refine me_iald X (Nat.le_of_ble_eq_true rfl) me_k60 e9 dX1_run_148 ?_
            obtain ⟨M6, e10, h⟩ := me_bd h
            refine me_iast X (Nat.le_of_ble_eq_true rfl) me_k43 e10 dX1_run_149 ?_
            exact hj150_2 M6 h
        refine me_icmp_ge X 103 (by decide) dX1_run_78 (fun c3 => ?_) (fun c3 => ?_)
        · have h := me_ip c3 h
          refine me_aload_n X (i := 0) 3 rfl dX1_run_103 ?_
          refine me_aload_n X (i := 3) 5 rfl dX1_run_104 ?_
          refine me_iload X (i := 8) 1 rfl dX1_run_105 ?_
          refine me_iload X (i := 9) 0 rfl dX1_run_107 ?_
          refine me_aload_n X (i := 1) 4 rfl dX1_run_109 ?_
          refine me_getr X 61 kF_X1_65 (Nat.le_of_ble_eq_true rfl) me_k58 me_f58_2 dX1_run_110 ?_
          refine me_iload X (i := 5) 7 rfl dX1_run_113 ?_
          refine me_iload X (i := 6) 8 rfl dX1_run_115 ?_
          refine me_iadd X dX1_run_117 ?_
          obtain ⟨v5, e5, h⟩ := me_bd h
          refine me_iald X (Nat.le_of_ble_eq_true rfl) me_k61 e5 dX1_run_118 ?_
          obtain ⟨M3, e6, h⟩ := me_bd h
          refine me_callVv X [.ref (ad 48), .int v2, .int v3, .int v5] (ctX1_planRightwards_36_48 hn (Nat.le_trans (by decide) hnt) e6) kV_X1_72 rfl rfl (Nat.le_of_ble_eq_true rfl) me_k36 (Nat.le_of_ble_eq_true rfl) (Nat.le_refl _) (Nat.le_of_ble_eq_true rfl) dX1_run_119 ?_
          refine me_sub (L' := [(0, .ref (ad 36)), (1, .ref (ad 58)), (3, .ref (ad 48)), (4, .int p1), (5, .int x5_1), (6, .int x6_2)]) [3, 4, 5, 6, 7, 8] rfl ?_
          exact hj122_1 M3 h
        · have h := me_in c3 h
          refine me_aload_n X (i := 0) 3 rfl dX1_run_81 ?_
          refine me_aload_n X (i := 3) 5 rfl dX1_run_82 ?_
          refine me_iload X (i := 8) 1 rfl dX1_run_83 ?_
          refine me_iload X (i := 9) 0 rfl dX1_run_85 ?_
          refine me_aload_n X (i := 1) 4 rfl dX1_run_87 ?_
          refine me_getr X 61 kF_X1_65 (Nat.le_of_ble_eq_true rfl) me_k58 me_f58_2 dX1_run_88 ?_
          refine me_iload X (i := 5) 7 rfl dX1_run_91 ?_
          refine me_iload X (i := 6) 8 rfl dX1_run_93 ?_
          refine me_iadd X dX1_run_95 ?_
          obtain ⟨v7, e7, h⟩ := me_bd h
          refine me_iald X (Nat.le_of_ble_eq_true rfl) me_k61 e7 dX1_run_96 ?_
          obtain ⟨M4, e8, h⟩ := me_bd h
          refine me_callVv X [.ref (ad 48), .int v2, .int v3, .int v7] (ctX1_planLeftwards_36_48 hn (Nat.le_trans (by decide) hnt) e8) kV_X1_68 rfl rfl (Nat.le_of_ble_eq_true rfl) me_k36 (Nat.le_of_ble_eq_true rfl) (Nat.le_refl _) (Nat.le_of_ble_eq_true rfl) dX1_run_97 ?_
          refine me_goto X 122 (by decide) dX1_run_100 ?_
          refine me_sub (L' := [(0, .ref (ad 36)), (1, .ref (ad 58)), (3, .ref (ad 48)), (4, .int p1), (5, .int x5_1), (6, .int x6_2)]) [3, 4, 5, 6, 7, 8] rfl ?_
          exact hj122_1 M4 h
    refine me_sub (L' := [(0, .ref (ad 36)), (1, .ref (ad 58)), (3, .ref (ad 48)), (4, .int p1), (5, .int (p0 * 5)), (6, .int 0)]) [2, 3, 5, 6, 1, 0] rfl ?_
    exact hk22_0 (p0 * 5) 0 (me_s M 36 9 0) h
  · have h := me_in c1 h
    obtain rfl := me_so h
    exact me_vret X hr hlk dX1_run_13
def mX3_takePattern_47_1_L12  : (Int32 × me_M) → Option ((Int32 × me_M) ⊕ (me_M))
  | (x3_1, M1) => (if (M1.1 47 5) ≤ x3_1 then some (.inr M1) else ((mX9_letterAt_1 M1 x3_1).bind fun v2 => ((me_t M1 48 24 x3_1 v2).bind fun M2 => some (.inl ((x3_1 + 1), M2)))))
def mX3_takePattern_47_1 (M : me_M) (p0 : Int32) : Option me_M :=
  ((mJ9_min_7cf53 p0 24).bind fun v1 => ((me_l mX3_takePattern_47_1_L12 me_fu (0, (me_s M 47 5 v1))).bind fun M3 => some M3))
set_option maxRecDepth 100000 in
set_option maxHeartbeats 4000000 in
theorem ctX3_takePattern_47_1 {l : Launch} {n nt : Nat} (hn : 63 ≤ n) (hnt : 1 ≤ nt) {M : me_M} {p0 : Int32} {M' : me_M} (h : mX3_takePattern_47_1 M p0 = some M') : me_Ct l yX3_takePattern cX3_takePattern 4 none 1 n nt (fun ad => [.ref (ad 47), .ref (ad 1), .int p0]) M (fun _ => none) M' := by
  unfold mX3_takePattern_47_1 at h
  refine me_enter (N0 := 63) RX3 rfl (plainFor_of_name pl_RX3) hn (Nat.le_trans (by decide) hnt) (fun _ => Nat.le_of_ble_eq_true rfl) ?_
  intro p e R s m args below meth c D cA ad tys A X hr hlk
  refine me_sub (L' := [(0, .ref (ad 47)), (1, .ref (ad 1)), (2, .int p0)]) [0, 1, 2] rfl ?_
  refine me_aload_n X (i := 0) 0 rfl dX3_takePattern_0 ?_
  refine me_iload_n X (i := 2) 2 rfl dX3_takePattern_1 ?_
  refine me_bipush X dX3_takePattern_2 ib_24 ?_
  obtain ⟨v1, e1, h⟩ := me_bd h
  refine me_callSi X [.int p0, .int 24] (ctJ9_min_7cf53 hn (Nat.le_trans (by decide) hnt) e1) kS_X3_24 rfl rfl (Nat.le_of_ble_eq_true rfl) (Nat.le_refl _) (Nat.le_of_ble_eq_true rfl) dX3_takePattern_4 ?_
  refine me_puti X kG_X3_30 (Nat.le_of_ble_eq_true rfl) me_k47 me_f47_5 dX3_takePattern_7 ?_
  refine me_iconst X dX3_takePattern_10 ic_0 ?_
  refine me_istore_n X (i := 3) [(3, .int 0), (0, .ref (ad 47)), (1, .ref (ad 1)), (2, .int p0)] (Nat.le_of_ble_eq_true rfl) rfl dX3_takePattern_11 ?_
  obtain ⟨M3, hq1, h⟩ := me_bd h
  have hx1 : me_W p l e R s m args below meth c 0 0 (MQ below (me_Qc D cA ad n A none M') args s 0 0 A) D cA ad n 4 A 37 [] [] M3 := by
    obtain rfl := me_so h
    exact me_vret X hr hlk dX3_takePattern_37
  refine me_sub (L' := [(0, .ref (ad 47)), (1, .ref (ad 1)), (3, .int 0)]) [1, 2, 0] rfl ?_
  refine me_l_W (b := mX3_takePattern_47_1_L12) (P := fun w => me_W p l e R s m args below meth c 0 0 (MQ below (me_Qc D cA ad n A none M') args s 0 0 A) D cA ad n 4 A 12 [(0, .ref (ad 47)), (1, .ref (ad 1)), (3, .int w.1)] [] w.2) (r := M3) ?_ me_fu (0, (me_s M 47 5 v1)) hq1
  rintro ⟨x3_1, M1⟩ z1 h hb1 - hr1
  unfold mX3_takePattern_47_1_L12 at h
  refine me_iload_n X (i := 3) 2 rfl dX3_takePattern_12 ?_
  refine me_aload_n X (i := 0) 0 rfl dX3_takePattern_13 ?_
  refine me_geti X kF_X3_30 (Nat.le_of_ble_eq_true rfl) me_k47 me_f47_5 dX3_takePattern_14 ?_
  refine me_icmp_ge X 37 (by decide) dX3_takePattern_17 (fun c1 => ?_) (fun c1 => ?_)
  · have h := me_ip c1 h
    obtain rfl := me_so h
    have q := hr1 _ rfl
    refine me_sub (L' := []) [] rfl ?_
    cases q
    exact hx1
  · have h := me_in c1 h
    refine me_aload_n X (i := 0) 0 rfl dX3_takePattern_20 ?_
    refine me_getr X 48 kF_X3_9 (Nat.le_of_ble_eq_true rfl) me_k47 me_f47_0 dX3_takePattern_21 ?_
    refine me_iload_n X (i := 3) 2 rfl dX3_takePattern_24 ?_
    refine me_aload_n X (i := 1) 1 rfl dX3_takePattern_25 ?_
    refine me_iload_n X (i := 3) 2 rfl dX3_takePattern_26 ?_
    obtain ⟨v2, e2, h⟩ := me_bd h
    refine me_callVi X [.int x3_1] (ctX9_letterAt_1 hn (Nat.le_trans (by decide) hnt) e2) kV_X3_34 rfl rfl (Nat.le_of_ble_eq_true rfl) me_k1 (Nat.le_of_ble_eq_true rfl) (Nat.le_refl _) (Nat.le_of_ble_eq_true rfl) dX3_takePattern_27 ?_
    obtain ⟨M2, e3, h⟩ := me_bd h
    refine me_iast X (Nat.le_of_ble_eq_true rfl) me_k48 e3 dX3_takePattern_30 ?_
    refine me_iinc X (v := (x3_1 + 1)) 2 rfl (in_1 _) [(3, .int (x3_1 + 1)), (0, .ref (ad 47)), (1, .ref (ad 1))] (Nat.le_of_ble_eq_true rfl) rfl dX3_takePattern_31 ?_
    refine me_goto X 12 (by decide) dX3_takePattern_34 ?_
    obtain rfl := me_so h
    refine me_sub (L' := [(0, .ref (ad 47)), (1, .ref (ad 1)), (3, .int (x3_1 + 1))]) [1, 2, 0] rfl ?_
    exact hb1 ((x3_1 + 1), M2) rfl
def mX3_gather_47_36_J92 (p0 : Int32) (x3_1 : Int32) (M5 : me_M) : Option ((Int32 × me_M) ⊕ (me_M)) :=
  some (.inl ((x3_1 + 1), M5))
def mX3_gather_47_36_L28 (p0 : Int32) : (Int32 × me_M) → Option ((Int32 × me_M) ⊕ (me_M))
  | (x3_1, M1) => (if p0 < x3_1 then some (.inr M1) else ((me_r M1 45 241 x3_1).bind fun v1 => (if v1 ≤ 0 then (mX3_gather_47_36_J92 p0 x3_1 M1) else ((me_t M1 49 241 (M1.1 47 6) x3_1).bind fun M2 => ((me_r M2 46 241 x3_1).bind fun v2 => ((me_t M2 50 241 (M2.1 47 6) v2).bind fun M3 => ((me_r M3 45 241 x3_1).bind fun v3 => ((me_t M3 51 241 (M3.1 47 6) v3).bind fun M4 => (mX3_gather_47_36_J92 p0 x3_1 (me_s M4 47 6 ((M4.1 47 6) + 1)))))))))))
def mX3_gather_47_36 (M : me_M) (p0 : Int32) : Option me_M :=
  ((me_l (mX3_gather_47_36_L28 p0) me_fu (0, (me_s (me_s (me_s (me_s M 47 4 1) 47 7 ((me_s M 47 4 1).1 36 11)) 47 8 ((me_s (me_s M 47 4 1) 47 7 ((me_s M 47 4 1).1 36 11)).1 36 10)) 47 6 0))).bind fun M6 => some M6)
set_option maxRecDepth 100000 in
set_option maxHeartbeats 4000000 in
theorem ctX3_gather_47_36 {l : Launch} {n nt : Nat} (hn : 63 ≤ n) (hnt : 1 ≤ nt) {M : me_M} {p0 : Int32} {M' : me_M} (h : mX3_gather_47_36 M p0 = some M') : me_Ct l yX3_gather cX3_gather 4 none 0 n nt (fun ad => [.ref (ad 47), .ref (ad 36), .int p0]) M (fun _ => none) M' := by
  unfold mX3_gather_47_36 at h
  refine me_enter (N0 := 63) RX3 rfl (plainFor_of_name pl_RX3) hn (Nat.le_trans (by decide) hnt) (fun _ => Nat.le_of_ble_eq_true rfl) ?_
  intro p e R s m args below meth c D cA ad tys A X hr hlk
  refine me_sub (L' := [(0, .ref (ad 47)), (1, .ref (ad 36)), (2, .int p0)]) [0, 1, 2] rfl ?_
  refine me_aload_n X (i := 0) 0 rfl dX3_gather_0 ?_
  refine me_iconst X dX3_gather_1 ic_1 ?_
  refine me_putz X ⟨by decide, by decide⟩ kG_X3_40 (Nat.le_of_ble_eq_true rfl) me_k47 me_f47_4 dX3_gather_2 ?_
  refine me_aload_n X (i := 0) 0 rfl dX3_gather_5 ?_
  refine me_aload_n X (i := 1) 1 rfl dX3_gather_6 ?_
  refine me_geti X kF_X3_44 (Nat.le_of_ble_eq_true rfl) me_k36 me_f36_11 dX3_gather_7 ?_
  refine me_puti X kG_X3_49 (Nat.le_of_ble_eq_true rfl) me_k47 me_f47_7 dX3_gather_10 ?_
  refine me_aload_n X (i := 0) 0 rfl dX3_gather_13 ?_
  refine me_aload_n X (i := 1) 1 rfl dX3_gather_14 ?_
  refine me_geti X kF_X3_50 (Nat.le_of_ble_eq_true rfl) me_k36 me_f36_10 dX3_gather_15 ?_
  refine me_puti X kG_X3_53 (Nat.le_of_ble_eq_true rfl) me_k47 me_f47_8 dX3_gather_18 ?_
  refine me_aload_n X (i := 0) 0 rfl dX3_gather_21 ?_
  refine me_iconst X dX3_gather_22 ic_0 ?_
  refine me_puti X kG_X3_54 (Nat.le_of_ble_eq_true rfl) me_k47 me_f47_6 dX3_gather_23 ?_
  refine me_iconst X dX3_gather_26 ic_0 ?_
  refine me_istore_n X (i := 3) [(3, .int 0), (0, .ref (ad 47)), (1, .ref (ad 36)), (2, .int p0)] (Nat.le_of_ble_eq_true rfl) rfl dX3_gather_27 ?_
  obtain ⟨M6, hq1, h⟩ := me_bd h
  have hx1 : me_W p l e R s m args below meth c 0 0 (MQ below (me_Qc D cA ad n A none M') args s 0 0 A) D cA ad n 4 A 98 [] [] M6 := by
    obtain rfl := me_so h
    exact me_vret X hr hlk dX3_gather_98
  refine me_sub (L' := [(0, .ref (ad 47)), (1, .ref (ad 36)), (2, .int p0), (3, .int 0)]) [1, 2, 3, 0] rfl ?_
  refine me_l_W (b := (mX3_gather_47_36_L28 p0)) (P := fun w => me_W p l e R s m args below meth c 0 0 (MQ below (me_Qc D cA ad n A none M') args s 0 0 A) D cA ad n 4 A 28 [(0, .ref (ad 47)), (1, .ref (ad 36)), (2, .int p0), (3, .int w.1)] [] w.2) (r := M6) ?_ me_fu (0, (me_s (me_s (me_s (me_s M 47 4 1) 47 7 ((me_s M 47 4 1).1 36 11)) 47 8 ((me_s (me_s M 47 4 1) 47 7 ((me_s M 47 4 1).1 36 11)).1 36 10)) 47 6 0)) hq1
  rintro ⟨x3_1, M1⟩ z1 h hb1 - hr1
  unfold mX3_gather_47_36_L28 at h
  refine me_iload_n X (i := 3) 3 rfl dX3_gather_28 ?_
  refine me_iload_n X (i := 2) 2 rfl dX3_gather_29 ?_
  refine me_icmp_gt X 98 (by decide) dX3_gather_30 (fun c1 => ?_) (fun c1 => ?_)
  · have h := me_ip c1 h
    obtain rfl := me_so h
    have q := hr1 _ rfl
    refine me_sub (L' := []) [] rfl ?_
    cases q
    exact hx1
  · have h := me_in c1 h
    refine me_aload_n X (i := 1) 1 rfl dX3_gather_33 ?_
    refine me_getr X 45 kF_X3_57 (Nat.le_of_ble_eq_true rfl) me_k36 me_f36_7 dX3_gather_34 ?_
    refine me_iload_n X (i := 3) 3 rfl dX3_gather_37 ?_
    obtain ⟨v1, e1, h⟩ := me_bd h
    refine me_iald X (Nat.le_of_ble_eq_true rfl) me_k45 e1 dX3_gather_38 ?_
    have hj92_1 : ∀ (M5 : me_M), mX3_gather_47_36_J92 p0 x3_1 M5 = some z1 → me_W p l e R s m args below meth c 0 0 (MQ below (me_Qc D cA ad n A none M') args s 0 0 A) D cA ad n 4 A 92 [(0, .ref (ad 47)), (1, .ref (ad 36)), (2, .int p0), (3, .int x3_1)] [] M5 := by
      intro M5 h
      unfold mX3_gather_47_36_J92 at h
      refine me_iinc X (v := (x3_1 + 1)) 3 rfl (in_1 _) [(3, .int (x3_1 + 1)), (0, .ref (ad 47)), (1, .ref (ad 36)), (2, .int p0)] (Nat.le_of_ble_eq_true rfl) rfl dX3_gather_92 ?_
      refine me_goto X 28 (by decide) dX3_gather_95 ?_
      obtain rfl := me_so h
      refine me_sub (L' := [(0, .ref (ad 47)), (1, .ref (ad 36)), (2, .int p0), (3, .int (x3_1 + 1))]) [1, 2, 3, 0] rfl ?_
      exact hb1 ((x3_1 + 1), M5) rfl
    refine me_if_le X 92 (by decide) dX3_gather_39 (fun c2 => ?_) (fun c2 => ?_)
    · have h := me_ip c2 h
      exact hj92_1 M1 h
    · have h := me_in c2 h
      refine me_aload_n X (i := 0) 0 rfl dX3_gather_42 ?_
      refine me_getr X 49 kF_X3_15 (Nat.le_of_ble_eq_true rfl) me_k47 me_f47_1 dX3_gather_43 ?_
      refine me_aload_n X (i := 0) 0 rfl dX3_gather_46 ?_
      refine me_geti X kF_X3_54 (Nat.le_of_ble_eq_true rfl) me_k47 me_f47_6 dX3_gather_47 ?_
      refine me_iload_n X (i := 3) 3 rfl dX3_gather_50 ?_
      obtain ⟨M2, e2, h⟩ := me_bd h
      refine me_iast X (Nat.le_of_ble_eq_true rfl) me_k49 e2 dX3_gather_51 ?_
      refine me_aload_n X (i := 0) 0 rfl dX3_gather_52 ?_
      refine me_getr X 50 kF_X3_18 (Nat.le_of_ble_eq_true rfl) me_k47 me_f47_2 dX3_gather_53 ?_
      refine me_aload_n X (i := 0) 0 rfl dX3_gather_56 ?_
      refine me_geti X kF_X3_54 (Nat.le_of_ble_eq_true rfl) me_k47 me_f47_6 dX3_gather_57 ?_
      refine me_aload_n X (i := 1) 1 rfl dX3_gather_60 ?_
      refine me_getr X 46 kF_X3_58 (Nat.le_of_ble_eq_true rfl) me_k36 me_f36_8 dX3_gather_61 ?_
      refine me_iload_n X (i := 3) 3 rfl dX3_gather_64 ?_
      obtain ⟨v2, e3, h⟩ := me_bd h
      refine me_iald X (Nat.le_of_ble_eq_true rfl) me_k46 e3 dX3_gather_65 ?_
      obtain ⟨M3, e4, h⟩ := me_bd h
      refine me_iast X (Nat.le_of_ble_eq_true rfl) me_k50 e4 dX3_gather_66 ?_
      refine me_aload_n X (i := 0) 0 rfl dX3_gather_67 ?_
      refine me_getr X 51 kF_X3_21 (Nat.le_of_ble_eq_true rfl) me_k47 me_f47_3 dX3_gather_68 ?_
      refine me_aload_n X (i := 0) 0 rfl dX3_gather_71 ?_
      refine me_geti X kF_X3_54 (Nat.le_of_ble_eq_true rfl) me_k47 me_f47_6 dX3_gather_72 ?_
      refine me_aload_n X (i := 1) 1 rfl dX3_gather_75 ?_
      refine me_getr X 45 kF_X3_57 (Nat.le_of_ble_eq_true rfl) me_k36 me_f36_7 dX3_gather_76 ?_
      refine me_iload_n X (i := 3) 3 rfl dX3_gather_79 ?_
      obtain ⟨v3, e5, h⟩ := me_bd h
      refine me_iald X (Nat.le_of_ble_eq_true rfl) me_k45 e5 dX3_gather_80 ?_
      obtain ⟨M4, e6, h⟩ := me_bd h
      refine me_iast X (Nat.le_of_ble_eq_true rfl) me_k51 e6 dX3_gather_81 ?_
      refine me_aload_n X (i := 0) 0 rfl dX3_gather_82 ?_
      refine me_dup X rfl dX3_gather_83 ?_
      refine me_geti X kF_X3_54 (Nat.le_of_ble_eq_true rfl) me_k47 me_f47_6 dX3_gather_84 ?_
      refine me_iconst X dX3_gather_87 ic_1 ?_
      refine me_iadd X dX3_gather_88 ?_
      refine me_puti X kG_X3_54 (Nat.le_of_ble_eq_true rfl) me_k47 me_f47_6 dX3_gather_89 ?_
      exact hj92_1 (me_s M4 47 6 ((M4.1 47 6) + 1)) h
def mX3_unlikeBits_47_3_J53 (p0 : Int32) (x4_1 : Int32) (M : me_M) (x3_2 : Int32) : Option ((Int32 × Int32) ⊕ (Int32)) :=
  some (.inl (x3_2, (x4_1 + 1)))
def mX3_unlikeBits_47_3_L5 (M : me_M) (p0 : Int32) : (Int32 × Int32) → Option ((Int32 × Int32) ⊕ (Int32))
  | (x3_1, x4_1) => (if (M.1 47 5) ≤ x4_1 then some (.inr x3_1) else (if (M.1 3 5) ≤ (p0 + x4_1) then some (.inr x3_1) else ((me_r M 4 241 (p0 + x4_1)).bind fun v1 => ((me_r M 48 24 x4_1).bind fun v2 => (if v1 = (v2 + 2) then (mX3_unlikeBits_47_3_J53 p0 x4_1 M x3_1) else (mX3_unlikeBits_47_3_J53 p0 x4_1 M (x3_1 ||| (1 <<< (x4_1 &&& 31)))))))))
def mX3_unlikeBits_47_3 (M : me_M) (p0 : Int32) : Option Int32 :=
  ((me_l (mX3_unlikeBits_47_3_L5 M p0) me_fu (0, 0)).bind fun y3_1 => some y3_1)
set_option maxRecDepth 100000 in
set_option maxHeartbeats 4000000 in
theorem ctX3_unlikeBits_47_3 {l : Launch} {n nt : Nat} (hn : 63 ≤ n) (hnt : 1 ≤ nt) {M : me_M} {p0 : Int32} {r : Int32} (h : mX3_unlikeBits_47_3 M p0 = some r) : me_Ct l yX3_unlikeBits cX3_unlikeBits 5 (some .int) 0 n nt (fun ad => [.ref (ad 47), .ref (ad 3), .int p0]) M (fun _ => some (.int r)) M := by
  unfold mX3_unlikeBits_47_3 at h
  refine me_enter (N0 := 63) RX3 rfl (plainFor_of_name pl_RX3) hn (Nat.le_trans (by decide) hnt) (fun _ => Nat.le_of_ble_eq_true rfl) ?_
  intro p e R s m args below meth c D cA ad tys A X hr hlk
  refine me_sub (L' := [(0, .ref (ad 47)), (1, .ref (ad 3)), (2, .int p0)]) [0, 1, 2] rfl ?_
  refine me_iconst X dX3_unlikeBits_0 ic_0 ?_
  refine me_istore_n X (i := 3) [(3, .int 0), (0, .ref (ad 47)), (1, .ref (ad 3)), (2, .int p0)] (Nat.le_of_ble_eq_true rfl) rfl dX3_unlikeBits_1 ?_
  refine me_iconst X dX3_unlikeBits_2 ic_0 ?_
  refine me_istore X (i := 4) [(4, .int 0), (3, .int 0), (0, .ref (ad 47)), (1, .ref (ad 3)), (2, .int p0)] (Nat.le_of_ble_eq_true rfl) rfl dX3_unlikeBits_3 ?_
  obtain ⟨y3_1, hq1, h⟩ := me_bd h
  have hx1 : me_W p l e R s m args below meth c 0 0 (MQ below (me_Qc D cA ad n A (some (.int r)) M) args s 0 0 A) D cA ad n 5 A 59 [(3, .int y3_1)] [] M := by
    refine me_iload_n X (i := 3) 0 rfl dX3_unlikeBits_59 ?_
    obtain rfl := me_so h
    exact me_iret X hr hlk dX3_unlikeBits_60
  refine me_sub (L' := [(0, .ref (ad 47)), (1, .ref (ad 3)), (2, .int p0), (3, .int 0), (4, .int 0)]) [2, 3, 4, 1, 0] rfl ?_
  refine me_l_W (b := (mX3_unlikeBits_47_3_L5 M p0)) (P := fun w => me_W p l e R s m args below meth c 0 0 (MQ below (me_Qc D cA ad n A (some (.int r)) M) args s 0 0 A) D cA ad n 5 A 5 [(0, .ref (ad 47)), (1, .ref (ad 3)), (2, .int p0), (3, .int w.1), (4, .int w.2)] [] M) (r := y3_1) ?_ me_fu (0, 0) hq1
  rintro ⟨x3_1, x4_1⟩ z1 h hb1 - hr1
  unfold mX3_unlikeBits_47_3_L5 at h
  refine me_iload X (i := 4) 4 rfl dX3_unlikeBits_5 ?_
  refine me_aload_n X (i := 0) 0 rfl dX3_unlikeBits_7 ?_
  refine me_geti X kF_X3_30 (Nat.le_of_ble_eq_true rfl) me_k47 me_f47_5 dX3_unlikeBits_8 ?_
  refine me_icmp_ge X 59 (by decide) dX3_unlikeBits_11 (fun c1 => ?_) (fun c1 => ?_)
  · have h := me_ip c1 h
    obtain rfl := me_so h
    have q := hr1 _ rfl
    refine me_sub (L' := [(3, .int x3_1)]) [3] rfl ?_
    cases q
    exact hx1
  · have h := me_in c1 h
    refine me_iload_n X (i := 2) 2 rfl dX3_unlikeBits_14 ?_
    refine me_iload X (i := 4) 4 rfl dX3_unlikeBits_15 ?_
    refine me_iadd X dX3_unlikeBits_17 ?_
    refine me_aload_n X (i := 1) 1 rfl dX3_unlikeBits_18 ?_
    refine me_geti X kF_X3_59 (Nat.le_of_ble_eq_true rfl) me_k3 me_f3_5 dX3_unlikeBits_19 ?_
    refine me_icmp_ge X 59 (by decide) dX3_unlikeBits_22 (fun c2 => ?_) (fun c2 => ?_)
    · have h := me_ip c2 h
      obtain rfl := me_so h
      have q := hr1 _ rfl
      refine me_sub (L' := [(3, .int x3_1)]) [3] rfl ?_
      cases q
      exact hx1
    · have h := me_in c2 h
      refine me_aload_n X (i := 1) 1 rfl dX3_unlikeBits_25 ?_
      refine me_getr X 4 kF_X3_64 (Nat.le_of_ble_eq_true rfl) me_k3 me_f3_0 dX3_unlikeBits_26 ?_
      refine me_iload_n X (i := 2) 2 rfl dX3_unlikeBits_29 ?_
      refine me_iload X (i := 4) 4 rfl dX3_unlikeBits_30 ?_
      refine me_iadd X dX3_unlikeBits_32 ?_
      obtain ⟨v1, e1, h⟩ := me_bd h
      refine me_iald X (Nat.le_of_ble_eq_true rfl) me_k4 e1 dX3_unlikeBits_33 ?_
      refine me_aload_n X (i := 0) 0 rfl dX3_unlikeBits_34 ?_
      refine me_getr X 48 kF_X3_9 (Nat.le_of_ble_eq_true rfl) me_k47 me_f47_0 dX3_unlikeBits_35 ?_
      refine me_iload X (i := 4) 4 rfl dX3_unlikeBits_38 ?_
      obtain ⟨v2, e2, h⟩ := me_bd h
      refine me_iald X (Nat.le_of_ble_eq_true rfl) me_k48 e2 dX3_unlikeBits_40 ?_
      refine me_iconst X dX3_unlikeBits_41 ic_2 ?_
      refine me_iadd X dX3_unlikeBits_42 ?_
      have hj53_1 : ∀ (x3_2 : Int32), mX3_unlikeBits_47_3_J53 p0 x4_1 M x3_2 = some z1 → me_W p l e R s m args below meth c 0 0 (MQ below (me_Qc D cA ad n A (some (.int r)) M) args s 0 0 A) D cA ad n 5 A 53 [(0, .ref (ad 47)), (1, .ref (ad 3)), (2, .int p0), (3, .int x3_2), (4, .int x4_1)] [] M := by
        intro x3_2 h
        unfold mX3_unlikeBits_47_3_J53 at h
        refine me_iinc X (v := (x4_1 + 1)) 4 rfl (in_1 _) [(4, .int (x4_1 + 1)), (0, .ref (ad 47)), (1, .ref (ad 3)), (2, .int p0), (3, .int x3_2)] (Nat.le_of_ble_eq_true rfl) rfl dX3_unlikeBits_53 ?_
        refine me_goto X 5 (by decide) dX3_unlikeBits_56 ?_
        obtain rfl := me_so h
        refine me_sub (L' := [(0, .ref (ad 47)), (1, .ref (ad 3)), (2, .int p0), (3, .int x3_2), (4, .int (x4_1 + 1))]) [1, 2, 3, 4, 0] rfl ?_
        exact hb1 (x3_2, (x4_1 + 1)) rfl
      refine me_icmp_eq X 53 (by decide) dX3_unlikeBits_43 (fun c3 => ?_) (fun c3 => ?_)
      · have h := me_ip c3 h
        exact hj53_1 x3_1 h
      · have h := me_in c3 h
        refine me_iload_n X (i := 3) 3 rfl dX3_unlikeBits_46 ?_
        refine me_iconst X dX3_unlikeBits_47 ic_1 ?_
        refine me_iload X (i := 4) 4 rfl dX3_unlikeBits_48 ?_
        refine me_ishl X dX3_unlikeBits_50 ?_
        refine me_ior X dX3_unlikeBits_51 ?_
        refine me_istore_n X (i := 3) [(3, .int (x3_1 ||| (1 <<< (x4_1 &&& 31)))), (0, .ref (ad 47)), (1, .ref (ad 3)), (2, .int p0), (4, .int x4_1)] (Nat.le_of_ble_eq_true rfl) rfl dX3_unlikeBits_52 ?_
        refine me_sub (L' := [(0, .ref (ad 47)), (1, .ref (ad 3)), (2, .int p0), (3, .int (x3_1 ||| (1 <<< (x4_1 &&& 31)))), (4, .int x4_1)]) [1, 2, 3, 0, 4] rfl ?_
        exact hj53_1 (x3_1 ||| (1 <<< (x4_1 &&& 31))) h
def mX3_faultless_47_J24 (x2_1 : Int32) (M : me_M) (x1_2 : Int32) : Option ((Int32 × Int32) ⊕ (Int32)) :=
  some (.inl (x1_2, (x2_1 + 1)))
def mX3_faultless_47_L4 (M : me_M) : (Int32 × Int32) → Option ((Int32 × Int32) ⊕ (Int32))
  | (x1_1, x2_1) => (if (M.1 47 6) ≤ x2_1 then some (.inr x1_1) else ((me_r M 50 241 x2_1).bind fun v1 => (if v1 = 0 then (mX3_faultless_47_J24 x2_1 M (x1_1 + 1)) else (mX3_faultless_47_J24 x2_1 M x1_1))))
def mX3_faultless_47 (M : me_M)  : Option Int32 :=
  ((me_l (mX3_faultless_47_L4 M) me_fu (0, 0)).bind fun y1_1 => some y1_1)
set_option maxRecDepth 100000 in
set_option maxHeartbeats 4000000 in
theorem ctX3_faultless_47 {l : Launch} {n nt : Nat} (hn : 63 ≤ n) (hnt : 1 ≤ nt) {M : me_M} {r : Int32} (h : mX3_faultless_47 M = some r) : me_Ct l yX3_faultless cX3_faultless 3 (some .int) 0 n nt (fun ad => [.ref (ad 47)]) M (fun _ => some (.int r)) M := by
  unfold mX3_faultless_47 at h
  refine me_enter (N0 := 63) RX3 rfl (plainFor_of_name pl_RX3) hn (Nat.le_trans (by decide) hnt) (fun _ => Nat.le_of_ble_eq_true rfl) ?_
  intro p e R s m args below meth c D cA ad tys A X hr hlk
  refine me_sub (L' := [(0, .ref (ad 47))]) [0] rfl ?_
  refine me_iconst X dX3_faultless_0 ic_0 ?_
  refine me_istore_n X (i := 1) [(1, .int 0), (0, .ref (ad 47))] (Nat.le_of_ble_eq_true rfl) rfl dX3_faultless_1 ?_
  refine me_iconst X dX3_faultless_2 ic_0 ?_
  refine me_istore_n X (i := 2) [(2, .int 0), (1, .int 0), (0, .ref (ad 47))] (Nat.le_of_ble_eq_true rfl) rfl dX3_faultless_3 ?_
  obtain ⟨y1_1, hq1, h⟩ := me_bd h
  have hx1 : me_W p l e R s m args below meth c 0 0 (MQ below (me_Qc D cA ad n A (some (.int r)) M) args s 0 0 A) D cA ad n 3 A 30 [(1, .int y1_1)] [] M := by
    refine me_iload_n X (i := 1) 0 rfl dX3_faultless_30 ?_
    obtain rfl := me_so h
    exact me_iret X hr hlk dX3_faultless_31
  refine me_sub (L' := [(0, .ref (ad 47)), (1, .int 0), (2, .int 0)]) [2, 1, 0] rfl ?_
  refine me_l_W (b := (mX3_faultless_47_L4 M)) (P := fun w => me_W p l e R s m args below meth c 0 0 (MQ below (me_Qc D cA ad n A (some (.int r)) M) args s 0 0 A) D cA ad n 3 A 4 [(0, .ref (ad 47)), (1, .int w.1), (2, .int w.2)] [] M) (r := y1_1) ?_ me_fu (0, 0) hq1
  rintro ⟨x1_1, x2_1⟩ z1 h hb1 - hr1
  unfold mX3_faultless_47_L4 at h
  refine me_iload_n X (i := 2) 2 rfl dX3_faultless_4 ?_
  refine me_aload_n X (i := 0) 0 rfl dX3_faultless_5 ?_
  refine me_geti X kF_X3_54 (Nat.le_of_ble_eq_true rfl) me_k47 me_f47_6 dX3_faultless_6 ?_
  refine me_icmp_ge X 30 (by decide) dX3_faultless_9 (fun c1 => ?_) (fun c1 => ?_)
  · have h := me_ip c1 h
    obtain rfl := me_so h
    have q := hr1 _ rfl
    refine me_sub (L' := [(1, .int x1_1)]) [1] rfl ?_
    cases q
    exact hx1
  · have h := me_in c1 h
    refine me_aload_n X (i := 0) 0 rfl dX3_faultless_12 ?_
    refine me_getr X 50 kF_X3_18 (Nat.le_of_ble_eq_true rfl) me_k47 me_f47_2 dX3_faultless_13 ?_
    refine me_iload_n X (i := 2) 2 rfl dX3_faultless_16 ?_
    obtain ⟨v1, e1, h⟩ := me_bd h
    refine me_iald X (Nat.le_of_ble_eq_true rfl) me_k50 e1 dX3_faultless_17 ?_
    have hj24_1 : ∀ (x1_2 : Int32), mX3_faultless_47_J24 x2_1 M x1_2 = some z1 → me_W p l e R s m args below meth c 0 0 (MQ below (me_Qc D cA ad n A (some (.int r)) M) args s 0 0 A) D cA ad n 3 A 24 [(0, .ref (ad 47)), (1, .int x1_2), (2, .int x2_1)] [] M := by
      intro x1_2 h
      unfold mX3_faultless_47_J24 at h
      refine me_iinc X (v := (x2_1 + 1)) 2 rfl (in_1 _) [(2, .int (x2_1 + 1)), (0, .ref (ad 47)), (1, .int x1_2)] (Nat.le_of_ble_eq_true rfl) rfl dX3_faultless_24 ?_
      refine me_goto X 4 (by decide) dX3_faultless_27 ?_
      obtain rfl := me_so h
      refine me_sub (L' := [(0, .ref (ad 47)), (1, .int x1_2), (2, .int (x2_1 + 1))]) [1, 2, 0] rfl ?_
      exact hb1 (x1_2, (x2_1 + 1)) rfl
    refine me_if_ne X 24 (by decide) dX3_faultless_18 (fun c2 => ?_) (fun c2 => ?_)
    · have h := me_in c2 h
      exact hj24_1 x1_1 h
    · have h := me_ip c2 h
      refine me_iinc X (v := (x1_1 + 1)) 1 rfl (in_1 _) [(1, .int (x1_1 + 1)), (0, .ref (ad 47)), (2, .int x2_1)] (Nat.le_of_ble_eq_true rfl) rfl dX3_faultless_21 ?_
      refine me_sub (L' := [(0, .ref (ad 47)), (1, .int (x1_1 + 1)), (2, .int x2_1)]) [1, 0, 2] rfl ?_
      exact hj24_1 (x1_1 + 1) h
def mX3_mostMismatches_47_L4 (M : me_M) : (Int32 × Int32) → Option ((Int32 × Int32) ⊕ (Int32))
  | (x1_1, x2_1) => (if (M.1 47 6) ≤ x2_1 then some (.inr x1_1) else ((me_r M 50 241 x2_1).bind fun v1 => ((mJ9_max_7cf53 x1_1 v1).bind fun v2 => some (.inl (v2, (x2_1 + 1))))))
def mX3_mostMismatches_47 (M : me_M)  : Option Int32 :=
  ((me_l (mX3_mostMismatches_47_L4 M) me_fu ((-1), 0)).bind fun y1_1 => some y1_1)
set_option maxRecDepth 100000 in
set_option maxHeartbeats 4000000 in
theorem ctX3_mostMismatches_47 {l : Launch} {n nt : Nat} (hn : 63 ≤ n) (hnt : 1 ≤ nt) {M : me_M} {r : Int32} (h : mX3_mostMismatches_47 M = some r) : me_Ct l yX3_mostMismatches cX3_mostMismatches 3 (some .int) 1 n nt (fun ad => [.ref (ad 47)]) M (fun _ => some (.int r)) M := by
  unfold mX3_mostMismatches_47 at h
  refine me_enter (N0 := 63) RX3 rfl (plainFor_of_name pl_RX3) hn (Nat.le_trans (by decide) hnt) (fun _ => Nat.le_of_ble_eq_true rfl) ?_
  intro p e R s m args below meth c D cA ad tys A X hr hlk
  refine me_sub (L' := [(0, .ref (ad 47))]) [0] rfl ?_
  refine me_iconst X dX3_mostMismatches_0 ic_m1 ?_
  refine me_istore_n X (i := 1) [(1, .int (-1)), (0, .ref (ad 47))] (Nat.le_of_ble_eq_true rfl) rfl dX3_mostMismatches_1 ?_
  refine me_iconst X dX3_mostMismatches_2 ic_0 ?_
  refine me_istore_n X (i := 2) [(2, .int 0), (1, .int (-1)), (0, .ref (ad 47))] (Nat.le_of_ble_eq_true rfl) rfl dX3_mostMismatches_3 ?_
  obtain ⟨y1_1, hq1, h⟩ := me_bd h
  have hx1 : me_W p l e R s m args below meth c 0 0 (MQ below (me_Qc D cA ad n A (some (.int r)) M) args s 0 0 A) D cA ad n 3 A 29 [(1, .int y1_1)] [] M := by
    refine me_iload_n X (i := 1) 0 rfl dX3_mostMismatches_29 ?_
    obtain rfl := me_so h
    exact me_iret X hr hlk dX3_mostMismatches_30
  refine me_sub (L' := [(0, .ref (ad 47)), (1, .int (-1)), (2, .int 0)]) [2, 1, 0] rfl ?_
  refine me_l_W (b := (mX3_mostMismatches_47_L4 M)) (P := fun w => me_W p l e R s m args below meth c 0 0 (MQ below (me_Qc D cA ad n A (some (.int r)) M) args s 0 0 A) D cA ad n 3 A 4 [(0, .ref (ad 47)), (1, .int w.1), (2, .int w.2)] [] M) (r := y1_1) ?_ me_fu ((-1), 0) hq1
  rintro ⟨x1_1, x2_1⟩ z1 h hb1 - hr1
  unfold mX3_mostMismatches_47_L4 at h
  refine me_iload_n X (i := 2) 2 rfl dX3_mostMismatches_4 ?_
  refine me_aload_n X (i := 0) 0 rfl dX3_mostMismatches_5 ?_
  refine me_geti X kF_X3_54 (Nat.le_of_ble_eq_true rfl) me_k47 me_f47_6 dX3_mostMismatches_6 ?_
  refine me_icmp_ge X 29 (by decide) dX3_mostMismatches_9 (fun c1 => ?_) (fun c1 => ?_)
  · have h := me_ip c1 h
    obtain rfl := me_so h
    have q := hr1 _ rfl
    refine me_sub (L' := [(1, .int x1_1)]) [1] rfl ?_
    cases q
    exact hx1
  · have h := me_in c1 h
    refine me_iload_n X (i := 1) 1 rfl dX3_mostMismatches_12 ?_
    refine me_aload_n X (i := 0) 0 rfl dX3_mostMismatches_13 ?_
    refine me_getr X 50 kF_X3_18 (Nat.le_of_ble_eq_true rfl) me_k47 me_f47_2 dX3_mostMismatches_14 ?_
    refine me_iload_n X (i := 2) 2 rfl dX3_mostMismatches_17 ?_
    obtain ⟨v1, e1, h⟩ := me_bd h
    refine me_iald X (Nat.le_of_ble_eq_true rfl) me_k50 e1 dX3_mostMismatches_18 ?_
    obtain ⟨v2, e2, h⟩ := me_bd h
    refine me_callSi X [.int x1_1, .int v1] (ctJ9_max_7cf53 hn (Nat.le_trans (by decide) hnt) e2) kS_X3_67 rfl rfl (Nat.le_of_ble_eq_true rfl) (Nat.le_refl _) (Nat.le_of_ble_eq_true rfl) dX3_mostMismatches_19 ?_
    refine me_istore_n X (i := 1) [(1, .int v2), (0, .ref (ad 47)), (2, .int x2_1)] (Nat.le_of_ble_eq_true rfl) rfl dX3_mostMismatches_22 ?_
    refine me_iinc X (v := (x2_1 + 1)) 2 rfl (in_1 _) [(2, .int (x2_1 + 1)), (1, .int v2), (0, .ref (ad 47))] (Nat.le_of_ble_eq_true rfl) rfl dX3_mostMismatches_23 ?_
    refine me_goto X 4 (by decide) dX3_mostMismatches_26 ?_
    obtain rfl := me_so h
    refine me_sub (L' := [(0, .ref (ad 47)), (1, .int v2), (2, .int (x2_1 + 1))]) [2, 1, 0] rfl ?_
    exact hb1 (v2, (x2_1 + 1)) rfl
def mX5_budget_53_L4 (M : me_M) : (Int32 × Int32) → Option ((Int32 × Int32) ⊕ (Int32))
  | (x1_1, x2_1) => (if (M.1 53 4) ≤ x2_1 then some (.inr x1_1) else ((me_r M 56 40 (((x2_1 * 5) + (M.1 53 5)) - 1)).bind fun v1 => ((mJ9_max_7cf53 x1_1 v1).bind fun v2 => some (.inl (v2, (x2_1 + 1))))))
def mX5_budget_53 (M : me_M)  : Option Int32 :=
  ((me_l (mX5_budget_53_L4 M) me_fu (0, 0)).bind fun y1_1 => some y1_1)
set_option maxRecDepth 100000 in
set_option maxHeartbeats 4000000 in
theorem ctX5_budget_53 {l : Launch} {n nt : Nat} (hn : 63 ≤ n) (hnt : 1 ≤ nt) {M : me_M} {r : Int32} (h : mX5_budget_53 M = some r) : me_Ct l yX5_budget cX5_budget 3 (some .int) 1 n nt (fun ad => [.ref (ad 53)]) M (fun _ => some (.int r)) M := by
  unfold mX5_budget_53 at h
  refine me_enter (N0 := 63) RX5 rfl (plainFor_of_name pl_RX5) hn (Nat.le_trans (by decide) hnt) (fun _ => Nat.le_of_ble_eq_true rfl) ?_
  intro p e R s m args below meth c D cA ad tys A X hr hlk
  refine me_sub (L' := [(0, .ref (ad 53))]) [0] rfl ?_
  refine me_iconst X dX5_budget_0 ic_0 ?_
  refine me_istore_n X (i := 1) [(1, .int 0), (0, .ref (ad 53))] (Nat.le_of_ble_eq_true rfl) rfl dX5_budget_1 ?_
  refine me_iconst X dX5_budget_2 ic_0 ?_
  refine me_istore_n X (i := 2) [(2, .int 0), (1, .int 0), (0, .ref (ad 53))] (Nat.le_of_ble_eq_true rfl) rfl dX5_budget_3 ?_
  obtain ⟨y1_1, hq1, h⟩ := me_bd h
  have hx1 : me_W p l e R s m args below meth c 0 0 (MQ below (me_Qc D cA ad n A (some (.int r)) M) args s 0 0 A) D cA ad n 3 A 38 [(1, .int y1_1)] [] M := by
    refine me_iload_n X (i := 1) 0 rfl dX5_budget_38 ?_
    obtain rfl := me_so h
    exact me_iret X hr hlk dX5_budget_39
  refine me_sub (L' := [(0, .ref (ad 53)), (1, .int 0), (2, .int 0)]) [2, 1, 0] rfl ?_
  refine me_l_W (b := (mX5_budget_53_L4 M)) (P := fun w => me_W p l e R s m args below meth c 0 0 (MQ below (me_Qc D cA ad n A (some (.int r)) M) args s 0 0 A) D cA ad n 3 A 4 [(0, .ref (ad 53)), (1, .int w.1), (2, .int w.2)] [] M) (r := y1_1) ?_ me_fu (0, 0) hq1
  rintro ⟨x1_1, x2_1⟩ z1 h hb1 - hr1
  unfold mX5_budget_53_L4 at h
  refine me_iload_n X (i := 2) 2 rfl dX5_budget_4 ?_
  refine me_aload_n X (i := 0) 0 rfl dX5_budget_5 ?_
  refine me_geti X kF_X5_24 (Nat.le_of_ble_eq_true rfl) me_k53 me_f53_4 dX5_budget_6 ?_
  refine me_icmp_ge X 38 (by decide) dX5_budget_9 (fun c1 => ?_) (fun c1 => ?_)
  · have h := me_ip c1 h
    obtain rfl := me_so h
    have q := hr1 _ rfl
    refine me_sub (L' := [(1, .int x1_1)]) [1] rfl ?_
    cases q
    exact hx1
  · have h := me_in c1 h
    refine me_iload_n X (i := 1) 1 rfl dX5_budget_12 ?_
    refine me_aload_n X (i := 0) 0 rfl dX5_budget_13 ?_
    refine me_getr X 56 kF_X5_18 (Nat.le_of_ble_eq_true rfl) me_k53 me_f53_2 dX5_budget_14 ?_
    refine me_iload_n X (i := 2) 2 rfl dX5_budget_17 ?_
    refine me_iconst X dX5_budget_18 ic_5 ?_
    refine me_imul X dX5_budget_19 ?_
    refine me_aload_n X (i := 0) 0 rfl dX5_budget_20 ?_
    refine me_geti X kF_X5_28 (Nat.le_of_ble_eq_true rfl) me_k53 me_f53_5 dX5_budget_21 ?_
    refine me_iadd X dX5_budget_24 ?_
    refine me_iconst X dX5_budget_25 ic_1 ?_
    refine me_isub X dX5_budget_26 ?_
    obtain ⟨v1, e1, h⟩ := me_bd h
    refine me_iald X (Nat.le_of_ble_eq_true rfl) me_k56 e1 dX5_budget_27 ?_
    obtain ⟨v2, e2, h⟩ := me_bd h
    refine me_callSi X [.int x1_1, .int v1] (ctJ9_max_7cf53 hn (Nat.le_trans (by decide) hnt) e2) kS_X5_31 rfl rfl (Nat.le_of_ble_eq_true rfl) (Nat.le_refl _) (Nat.le_of_ble_eq_true rfl) dX5_budget_28 ?_
    refine me_istore_n X (i := 1) [(1, .int v2), (0, .ref (ad 53)), (2, .int x2_1)] (Nat.le_of_ble_eq_true rfl) rfl dX5_budget_31 ?_
    refine me_iinc X (v := (x2_1 + 1)) 2 rfl (in_1 _) [(2, .int (x2_1 + 1)), (1, .int v2), (0, .ref (ad 53))] (Nat.le_of_ble_eq_true rfl) rfl dX5_budget_32 ?_
    refine me_goto X 4 (by decide) dX5_budget_35 ?_
    obtain rfl := me_so h
    refine me_sub (L' := [(0, .ref (ad 53)), (1, .int v2), (2, .int (x2_1 + 1))]) [2, 1, 0] rfl ?_
    exact hb1 (v2, (x2_1 + 1)) rfl
def mX5_firstShare_53_L7  : (Int32 × me_M) → Option ((Int32 × me_M) ⊕ (me_M))
  | (x1_1, M1) => (if 5 ≤ x1_1 then some (.inr M1) else ((me_t M1 57 5 x1_1 0).bind fun M2 => some (.inl ((x1_1 + 1), M2))))
def mX5_firstShare_53 (M : me_M)  : Option me_M :=
  ((me_l mX5_firstShare_53_L7 me_fu (0, (me_s M 53 6 0))).bind fun M3 => some M3)
set_option maxRecDepth 100000 in
set_option maxHeartbeats 4000000 in
theorem ctX5_firstShare_53 {l : Launch} {n nt : Nat} (hn : 63 ≤ n) (hnt : 1 ≤ nt) {M : me_M} {M' : me_M} (h : mX5_firstShare_53 M = some M') : me_Ct l yX5_firstShare cX5_firstShare 2 none 0 n nt (fun ad => [.ref (ad 53)]) M (fun _ => none) M' := by
  unfold mX5_firstShare_53 at h
  refine me_enter (N0 := 63) RX5 rfl (plainFor_of_name pl_RX5) hn (Nat.le_trans (by decide) hnt) (fun _ => Nat.le_of_ble_eq_true rfl) ?_
  intro p e R s m args below meth c D cA ad tys A X hr hlk
  refine me_sub (L' := [(0, .ref (ad 53))]) [0] rfl ?_
  refine me_aload_n X (i := 0) 0 rfl dX5_firstShare_0 ?_
  refine me_iconst X dX5_firstShare_1 ic_0 ?_
  refine me_puti X kG_X5_73 (Nat.le_of_ble_eq_true rfl) me_k53 me_f53_6 dX5_firstShare_2 ?_
  refine me_iconst X dX5_firstShare_5 ic_0 ?_
  refine me_istore_n X (i := 1) [(1, .int 0), (0, .ref (ad 53))] (Nat.le_of_ble_eq_true rfl) rfl dX5_firstShare_6 ?_
  obtain ⟨M3, hq1, h⟩ := me_bd h
  have hx1 : me_W p l e R s m args below meth c 0 0 (MQ below (me_Qc D cA ad n A none M') args s 0 0 A) D cA ad n 2 A 25 [] [] M3 := by
    obtain rfl := me_so h
    exact me_vret X hr hlk dX5_firstShare_25
  refine me_sub (L' := [(0, .ref (ad 53)), (1, .int 0)]) [1, 0] rfl ?_
  refine me_l_W (b := mX5_firstShare_53_L7) (P := fun w => me_W p l e R s m args below meth c 0 0 (MQ below (me_Qc D cA ad n A none M') args s 0 0 A) D cA ad n 2 A 7 [(0, .ref (ad 53)), (1, .int w.1)] [] w.2) (r := M3) ?_ me_fu (0, (me_s M 53 6 0)) hq1
  rintro ⟨x1_1, M1⟩ z1 h hb1 - hr1
  unfold mX5_firstShare_53_L7 at h
  refine me_iload_n X (i := 1) 1 rfl dX5_firstShare_7 ?_
  refine me_iconst X dX5_firstShare_8 ic_5 ?_
  refine me_icmp_ge X 25 (by decide) dX5_firstShare_9 (fun c1 => ?_) (fun c1 => ?_)
  · have h := me_ip c1 h
    obtain rfl := me_so h
    have q := hr1 _ rfl
    refine me_sub (L' := []) [] rfl ?_
    cases q
    exact hx1
  · have h := me_in c1 h
    refine me_aload_n X (i := 0) 0 rfl dX5_firstShare_12 ?_
    refine me_getr X 57 kF_X5_21 (Nat.le_of_ble_eq_true rfl) me_k53 me_f53_3 dX5_firstShare_13 ?_
    refine me_iload_n X (i := 1) 1 rfl dX5_firstShare_16 ?_
    refine me_iconst X dX5_firstShare_17 ic_0 ?_
    obtain ⟨M2, e1, h⟩ := me_bd h
    refine me_iast X (Nat.le_of_ble_eq_true rfl) me_k57 e1 dX5_firstShare_18 ?_
    refine me_iinc X (v := (x1_1 + 1)) 1 rfl (in_1 _) [(1, .int (x1_1 + 1)), (0, .ref (ad 53))] (Nat.le_of_ble_eq_true rfl) rfl dX5_firstShare_19 ?_
    refine me_goto X 7 (by decide) dX5_firstShare_22 ?_
    obtain rfl := me_so h
    refine me_sub (L' := [(0, .ref (ad 53)), (1, .int (x1_1 + 1))]) [1, 0] rfl ?_
    exact hb1 ((x1_1 + 1), M2) rfl
def mX5_covers_53_L4 (M : me_M) (p0 : Int32) : (Int32 × Int32) → Option ((Int32 × Int32) ⊕ ((Unit) ⊕ Int32))
  | (x2_1, x3_1) => (if (M.1 53 5) ≤ x3_1 then some (.inr (.inl ())) else ((me_r M 54 40 ((p0 * 5) + x3_1)).bind fun v1 => ((me_r M 57 5 v1).bind fun v2 => ((me_r M 55 40 ((p0 * 5) + x3_1)).bind fun v3 => (if (x2_1 + v2) < v3 then some (.inr (.inr 0)) else ((me_r M 56 40 ((p0 * 5) + x3_1)).bind fun v4 => (if (x2_1 + v2) ≤ v4 then some (.inl ((x2_1 + v2), (x3_1 + 1))) else some (.inr (.inr 0)))))))))
def mX5_covers_53 (M : me_M) (p0 : Int32) : Option Int32 :=
  ((me_l (mX5_covers_53_L4 M p0) me_fu (0, 0)).bind fun o => Sum.elim (fun _ => some 1) (fun res => some res) o)
set_option maxRecDepth 100000 in
set_option maxHeartbeats 4000000 in
theorem ctX5_covers_53 {l : Launch} {n nt : Nat} (hn : 63 ≤ n) (hnt : 1 ≤ nt) {M : me_M} {p0 : Int32} {r : Int32} (h : mX5_covers_53 M p0 = some r) : me_Ct l yX5_covers cX5_covers 5 (some .boolean) 0 n nt (fun ad => [.ref (ad 53), .int p0]) M (fun _ => some (.int r)) M := by
  unfold mX5_covers_53 at h
  refine me_enter (N0 := 63) RX5 rfl (plainFor_of_name pl_RX5) hn (Nat.le_trans (by decide) hnt) (fun _ => Nat.le_of_ble_eq_true rfl) ?_
  intro p e R s m args below meth c D cA ad tys A X hr hlk
  refine me_sub (L' := [(0, .ref (ad 53)), (1, .int p0)]) [0, 1] rfl ?_
  refine me_iconst X dX5_covers_0 ic_0 ?_
  refine me_istore_n X (i := 2) [(2, .int 0), (0, .ref (ad 53)), (1, .int p0)] (Nat.le_of_ble_eq_true rfl) rfl dX5_covers_1 ?_
  refine me_iconst X dX5_covers_2 ic_0 ?_
  refine me_istore_n X (i := 3) [(3, .int 0), (2, .int 0), (0, .ref (ad 53)), (1, .int p0)] (Nat.le_of_ble_eq_true rfl) rfl dX5_covers_3 ?_
  obtain ⟨o0, hq1l, hq1⟩ := me_bd h
  have hx1 : o0 = .inl () → me_W p l e R s m args below meth c 0 0 (MQ below (me_Qc D cA ad n A (some (.int r)) M) args s 0 0 A) D cA ad n 5 A 64 [] [] M := by
    intro q
    subst q
    have h := me_el hq1
    refine me_iconst X dX5_covers_64 ic_1 ?_
    obtain rfl := me_so h
    exact me_zret X (by decide) hr hlk dX5_covers_65
  refine me_sub (L' := [(0, .ref (ad 53)), (1, .int p0), (2, .int 0), (3, .int 0)]) [2, 3, 1, 0] rfl ?_
  refine me_l_W (b := (mX5_covers_53_L4 M p0)) (P := fun w => me_W p l e R s m args below meth c 0 0 (MQ below (me_Qc D cA ad n A (some (.int r)) M) args s 0 0 A) D cA ad n 5 A 4 [(0, .ref (ad 53)), (1, .int p0), (2, .int w.1), (3, .int w.2)] [] M) (r := o0) ?_ me_fu (0, 0) hq1l
  rintro ⟨x2_1, x3_1⟩ z1 h hb1 - hr1
  unfold mX5_covers_53_L4 at h
  refine me_iload_n X (i := 3) 3 rfl dX5_covers_4 ?_
  refine me_aload_n X (i := 0) 0 rfl dX5_covers_5 ?_
  refine me_geti X kF_X5_28 (Nat.le_of_ble_eq_true rfl) me_k53 me_f53_5 dX5_covers_6 ?_
  refine me_icmp_ge X 64 (by decide) dX5_covers_9 (fun c1 => ?_) (fun c1 => ?_)
  · have h := me_ip c1 h
    obtain rfl := me_so h
    have q := hr1 _ rfl
    refine me_sub (L' := []) [] rfl ?_
    subst q
    exact hx1 rfl
  · have h := me_in c1 h
    refine me_iload_n X (i := 1) 1 rfl dX5_covers_12 ?_
    refine me_iconst X dX5_covers_13 ic_5 ?_
    refine me_imul X dX5_covers_14 ?_
    refine me_iload_n X (i := 3) 3 rfl dX5_covers_15 ?_
    refine me_iadd X dX5_covers_16 ?_
    refine me_istore X (i := 4) [(4, .int ((p0 * 5) + x3_1)), (0, .ref (ad 53)), (1, .int p0), (2, .int x2_1), (3, .int x3_1)] (Nat.le_of_ble_eq_true rfl) rfl dX5_covers_17 ?_
    refine me_iload_n X (i := 2) 3 rfl dX5_covers_19 ?_
    refine me_aload_n X (i := 0) 1 rfl dX5_covers_20 ?_
    refine me_getr X 57 kF_X5_21 (Nat.le_of_ble_eq_true rfl) me_k53 me_f53_3 dX5_covers_21 ?_
    refine me_aload_n X (i := 0) 1 rfl dX5_covers_24 ?_
    refine me_getr X 54 kF_X5_9 (Nat.le_of_ble_eq_true rfl) me_k53 me_f53_0 dX5_covers_25 ?_
    refine me_iload X (i := 4) 0 rfl dX5_covers_28 ?_
    obtain ⟨v1, e1, h⟩ := me_bd h
    refine me_iald X (Nat.le_of_ble_eq_true rfl) me_k54 e1 dX5_covers_30 ?_
    obtain ⟨v2, e2, h⟩ := me_bd h
    refine me_iald X (Nat.le_of_ble_eq_true rfl) me_k57 e2 dX5_covers_31 ?_
    refine me_iadd X dX5_covers_32 ?_
    refine me_istore_n X (i := 2) [(2, .int (x2_1 + v2)), (4, .int ((p0 * 5) + x3_1)), (0, .ref (ad 53)), (1, .int p0), (3, .int x3_1)] (Nat.le_of_ble_eq_true rfl) rfl dX5_covers_33 ?_
    refine me_iload_n X (i := 2) 0 rfl dX5_covers_34 ?_
    refine me_aload_n X (i := 0) 2 rfl dX5_covers_35 ?_
    refine me_getr X 55 kF_X5_15 (Nat.le_of_ble_eq_true rfl) me_k53 me_f53_1 dX5_covers_36 ?_
    refine me_iload X (i := 4) 1 rfl dX5_covers_39 ?_
    obtain ⟨v3, e3, h⟩ := me_bd h
    refine me_iald X (Nat.le_of_ble_eq_true rfl) me_k55 e3 dX5_covers_41 ?_
    refine me_icmp_lt X 56 (by decide) dX5_covers_42 (fun c2 => ?_) (fun c2 => ?_)
    · have h := me_ip c2 h
      refine me_iconst X dX5_covers_56 ic_0 ?_
      obtain rfl := me_so h
      have q := hr1 _ rfl
      subst q
      have h : some 0 = some r := hq1
      obtain rfl := me_so h
      exact me_zret X (by decide) hr hlk dX5_covers_57
    · have h := me_in c2 h
      refine me_iload_n X (i := 2) 0 rfl dX5_covers_45 ?_
      refine me_aload_n X (i := 0) 2 rfl dX5_covers_46 ?_
      refine me_getr X 56 kF_X5_18 (Nat.le_of_ble_eq_true rfl) me_k53 me_f53_2 dX5_covers_47 ?_
      refine me_iload X (i := 4) 1 rfl dX5_covers_50 ?_
      obtain ⟨v4, e4, h⟩ := me_bd h
      refine me_iald X (Nat.le_of_ble_eq_true rfl) me_k56 e4 dX5_covers_52 ?_
      refine me_icmp_le X 58 (by decide) dX5_covers_53 (fun c3 => ?_) (fun c3 => ?_)
      · have h := me_ip c3 h
        refine me_iinc X (v := (x3_1 + 1)) 4 rfl (in_1 _) [(3, .int (x3_1 + 1)), (2, .int (x2_1 + v2)), (4, .int ((p0 * 5) + x3_1)), (0, .ref (ad 53)), (1, .int p0)] (Nat.le_of_ble_eq_true rfl) rfl dX5_covers_58 ?_
        refine me_goto X 4 (by decide) dX5_covers_61 ?_
        obtain rfl := me_so h
        refine me_sub (L' := [(0, .ref (ad 53)), (1, .int p0), (2, .int (x2_1 + v2)), (3, .int (x3_1 + 1))]) [3, 4, 1, 0] rfl ?_
        exact hb1 ((x2_1 + v2), (x3_1 + 1)) rfl
      · have h := me_in c3 h
        refine me_iconst X dX5_covers_56 ic_0 ?_
        obtain rfl := me_so h
        have q := hr1 _ rfl
        subst q
        have h : some 0 = some r := hq1
        obtain rfl := me_so h
        exact me_zret X (by decide) hr hlk dX5_covers_57
def mX5_coveringBits_53_J26 (x2_1 : Int32) (M : me_M) (x1_2 : Int32) : Option ((Int32 × Int32) ⊕ (Int32)) :=
  some (.inl (x1_2, (x2_1 + 1)))
def mX5_coveringBits_53_L4 (M : me_M) : (Int32 × Int32) → Option ((Int32 × Int32) ⊕ (Int32))
  | (x1_1, x2_1) => (if (M.1 53 4) ≤ x2_1 then some (.inr x1_1) else ((mX5_covers_53 M x2_1).bind fun v1 => (if v1 = 0 then (mX5_coveringBits_53_J26 x2_1 M x1_1) else (mX5_coveringBits_53_J26 x2_1 M (x1_1 ||| (1 <<< (x2_1 &&& 31)))))))
def mX5_coveringBits_53 (M : me_M)  : Option Int32 :=
  ((me_l (mX5_coveringBits_53_L4 M) me_fu (0, 0)).bind fun y1_1 => some y1_1)
set_option maxRecDepth 100000 in
set_option maxHeartbeats 4000000 in
theorem ctX5_coveringBits_53 {l : Launch} {n nt : Nat} (hn : 63 ≤ n) (hnt : 1 ≤ nt) {M : me_M} {r : Int32} (h : mX5_coveringBits_53 M = some r) : me_Ct l yX5_coveringBits cX5_coveringBits 3 (some .int) 1 n nt (fun ad => [.ref (ad 53)]) M (fun _ => some (.int r)) M := by
  unfold mX5_coveringBits_53 at h
  refine me_enter (N0 := 63) RX5 rfl (plainFor_of_name pl_RX5) hn (Nat.le_trans (by decide) hnt) (fun _ => Nat.le_of_ble_eq_true rfl) ?_
  intro p e R s m args below meth c D cA ad tys A X hr hlk
  refine me_sub (L' := [(0, .ref (ad 53))]) [0] rfl ?_
  refine me_iconst X dX5_coveringBits_0 ic_0 ?_
  refine me_istore_n X (i := 1) [(1, .int 0), (0, .ref (ad 53))] (Nat.le_of_ble_eq_true rfl) rfl dX5_coveringBits_1 ?_
  refine me_iconst X dX5_coveringBits_2 ic_0 ?_
  refine me_istore_n X (i := 2) [(2, .int 0), (1, .int 0), (0, .ref (ad 53))] (Nat.le_of_ble_eq_true rfl) rfl dX5_coveringBits_3 ?_
  obtain ⟨y1_1, hq1, h⟩ := me_bd h
  have hx1 : me_W p l e R s m args below meth c 0 0 (MQ below (me_Qc D cA ad n A (some (.int r)) M) args s 0 0 A) D cA ad n 3 A 32 [(1, .int y1_1)] [] M := by
    refine me_iload_n X (i := 1) 0 rfl dX5_coveringBits_32 ?_
    obtain rfl := me_so h
    exact me_iret X hr hlk dX5_coveringBits_33
  refine me_sub (L' := [(0, .ref (ad 53)), (1, .int 0), (2, .int 0)]) [2, 1, 0] rfl ?_
  refine me_l_W (b := (mX5_coveringBits_53_L4 M)) (P := fun w => me_W p l e R s m args below meth c 0 0 (MQ below (me_Qc D cA ad n A (some (.int r)) M) args s 0 0 A) D cA ad n 3 A 4 [(0, .ref (ad 53)), (1, .int w.1), (2, .int w.2)] [] M) (r := y1_1) ?_ me_fu (0, 0) hq1
  rintro ⟨x1_1, x2_1⟩ z1 h hb1 - hr1
  unfold mX5_coveringBits_53_L4 at h
  refine me_iload_n X (i := 2) 2 rfl dX5_coveringBits_4 ?_
  refine me_aload_n X (i := 0) 0 rfl dX5_coveringBits_5 ?_
  refine me_geti X kF_X5_24 (Nat.le_of_ble_eq_true rfl) me_k53 me_f53_4 dX5_coveringBits_6 ?_
  refine me_icmp_ge X 32 (by decide) dX5_coveringBits_9 (fun c1 => ?_) (fun c1 => ?_)
  · have h := me_ip c1 h
    obtain rfl := me_so h
    have q := hr1 _ rfl
    refine me_sub (L' := [(1, .int x1_1)]) [1] rfl ?_
    cases q
    exact hx1
  · have h := me_in c1 h
    refine me_aload_n X (i := 0) 0 rfl dX5_coveringBits_12 ?_
    refine me_iload_n X (i := 2) 2 rfl dX5_coveringBits_13 ?_
    obtain ⟨v1, e1, h⟩ := me_bd h
    refine me_callVi X [.int x2_1] (ctX5_covers_53 hn (Nat.le_trans (by decide) hnt) e1) kV_X5_76 rfl rfl (Nat.le_of_ble_eq_true rfl) me_k53 (Nat.le_of_ble_eq_true rfl) (Nat.le_refl _) (Nat.le_of_ble_eq_true rfl) dX5_coveringBits_14 ?_
    have hj26_1 : ∀ (x1_2 : Int32), mX5_coveringBits_53_J26 x2_1 M x1_2 = some z1 → me_W p l e R s m args below meth c 0 0 (MQ below (me_Qc D cA ad n A (some (.int r)) M) args s 0 0 A) D cA ad n 3 A 26 [(0, .ref (ad 53)), (1, .int x1_2), (2, .int x2_1)] [] M := by
      intro x1_2 h
      unfold mX5_coveringBits_53_J26 at h
      refine me_iinc X (v := (x2_1 + 1)) 2 rfl (in_1 _) [(2, .int (x2_1 + 1)), (0, .ref (ad 53)), (1, .int x1_2)] (Nat.le_of_ble_eq_true rfl) rfl dX5_coveringBits_26 ?_
      refine me_goto X 4 (by decide) dX5_coveringBits_29 ?_
      obtain rfl := me_so h
      refine me_sub (L' := [(0, .ref (ad 53)), (1, .int x1_2), (2, .int (x2_1 + 1))]) [1, 2, 0] rfl ?_
      exact hb1 (x1_2, (x2_1 + 1)) rfl
    refine me_if_eq X 26 (by decide) dX5_coveringBits_17 (fun c2 => ?_) (fun c2 => ?_)
    · have h := me_ip c2 h
      exact hj26_1 x1_1 h
    · have h := me_in c2 h
      refine me_iload_n X (i := 1) 1 rfl dX5_coveringBits_20 ?_
      refine me_iconst X dX5_coveringBits_21 ic_1 ?_
      refine me_iload_n X (i := 2) 2 rfl dX5_coveringBits_22 ?_
      refine me_ishl X dX5_coveringBits_23 ?_
      refine me_ior X dX5_coveringBits_24 ?_
      refine me_istore_n X (i := 1) [(1, .int (x1_1 ||| (1 <<< (x2_1 &&& 31)))), (0, .ref (ad 53)), (2, .int x2_1)] (Nat.le_of_ble_eq_true rfl) rfl dX5_coveringBits_25 ?_
      refine me_sub (L' := [(0, .ref (ad 53)), (1, .int (x1_1 ||| (1 <<< (x2_1 &&& 31)))), (2, .int x2_1)]) [1, 0, 2] rfl ?_
      exact hj26_1 (x1_1 ||| (1 <<< (x2_1 &&& 31))) h
def mJ6_bitCount_0f7a4 (p0 : Int32) : Option Int32 :=
  some ((((((((p0 - (((p0.toUInt32 >>> ((1 : Int32).toUInt32 &&& Int32.toUInt32 31)).toInt32) &&& 1431655765)) &&& 858993459) + ((((p0 - (((p0.toUInt32 >>> ((1 : Int32).toUInt32 &&& Int32.toUInt32 31)).toInt32) &&& 1431655765)).toUInt32 >>> ((2 : Int32).toUInt32 &&& Int32.toUInt32 31)).toInt32) &&& 858993459)) + (((((p0 - (((p0.toUInt32 >>> ((1 : Int32).toUInt32 &&& Int32.toUInt32 31)).toInt32) &&& 1431655765)) &&& 858993459) + ((((p0 - (((p0.toUInt32 >>> ((1 : Int32).toUInt32 &&& Int32.toUInt32 31)).toInt32) &&& 1431655765)).toUInt32 >>> ((2 : Int32).toUInt32 &&& Int32.toUInt32 31)).toInt32) &&& 858993459)).toUInt32 >>> ((4 : Int32).toUInt32 &&& Int32.toUInt32 31)).toInt32)) &&& 252645135) + (((((((p0 - (((p0.toUInt32 >>> ((1 : Int32).toUInt32 &&& Int32.toUInt32 31)).toInt32) &&& 1431655765)) &&& 858993459) + ((((p0 - (((p0.toUInt32 >>> ((1 : Int32).toUInt32 &&& Int32.toUInt32 31)).toInt32) &&& 1431655765)).toUInt32 >>> ((2 : Int32).toUInt32 &&& Int32.toUInt32 31)).toInt32) &&& 858993459)) + (((((p0 - (((p0.toUInt32 >>> ((1 : Int32).toUInt32 &&& Int32.toUInt32 31)).toInt32) &&& 1431655765)) &&& 858993459) + ((((p0 - (((p0.toUInt32 >>> ((1 : Int32).toUInt32 &&& Int32.toUInt32 31)).toInt32) &&& 1431655765)).toUInt32 >>> ((2 : Int32).toUInt32 &&& Int32.toUInt32 31)).toInt32) &&& 858993459)).toUInt32 >>> ((4 : Int32).toUInt32 &&& Int32.toUInt32 31)).toInt32)) &&& 252645135).toUInt32 >>> ((8 : Int32).toUInt32 &&& Int32.toUInt32 31)).toInt32)) + ((((((((p0 - (((p0.toUInt32 >>> ((1 : Int32).toUInt32 &&& Int32.toUInt32 31)).toInt32) &&& 1431655765)) &&& 858993459) + ((((p0 - (((p0.toUInt32 >>> ((1 : Int32).toUInt32 &&& Int32.toUInt32 31)).toInt32) &&& 1431655765)).toUInt32 >>> ((2 : Int32).toUInt32 &&& Int32.toUInt32 31)).toInt32) &&& 858993459)) + (((((p0 - (((p0.toUInt32 >>> ((1 : Int32).toUInt32 &&& Int32.toUInt32 31)).toInt32) &&& 1431655765)) &&& 858993459) + ((((p0 - (((p0.toUInt32 >>> ((1 : Int32).toUInt32 &&& Int32.toUInt32 31)).toInt32) &&& 1431655765)).toUInt32 >>> ((2 : Int32).toUInt32 &&& Int32.toUInt32 31)).toInt32) &&& 858993459)).toUInt32 >>> ((4 : Int32).toUInt32 &&& Int32.toUInt32 31)).toInt32)) &&& 252645135) + (((((((p0 - (((p0.toUInt32 >>> ((1 : Int32).toUInt32 &&& Int32.toUInt32 31)).toInt32) &&& 1431655765)) &&& 858993459) + ((((p0 - (((p0.toUInt32 >>> ((1 : Int32).toUInt32 &&& Int32.toUInt32 31)).toInt32) &&& 1431655765)).toUInt32 >>> ((2 : Int32).toUInt32 &&& Int32.toUInt32 31)).toInt32) &&& 858993459)) + (((((p0 - (((p0.toUInt32 >>> ((1 : Int32).toUInt32 &&& Int32.toUInt32 31)).toInt32) &&& 1431655765)) &&& 858993459) + ((((p0 - (((p0.toUInt32 >>> ((1 : Int32).toUInt32 &&& Int32.toUInt32 31)).toInt32) &&& 1431655765)).toUInt32 >>> ((2 : Int32).toUInt32 &&& Int32.toUInt32 31)).toInt32) &&& 858993459)).toUInt32 >>> ((4 : Int32).toUInt32 &&& Int32.toUInt32 31)).toInt32)) &&& 252645135).toUInt32 >>> ((8 : Int32).toUInt32 &&& Int32.toUInt32 31)).toInt32)).toUInt32 >>> ((16 : Int32).toUInt32 &&& Int32.toUInt32 31)).toInt32)) &&& 63)
set_option maxRecDepth 100000 in
set_option maxHeartbeats 4000000 in
theorem ctJ6_bitCount_0f7a4 {l : Launch} {n nt : Nat} (hn : 63 ≤ n) (hnt : 1 ≤ nt) {M : me_M} {p0 : Int32} {r : Int32} (h : mJ6_bitCount_0f7a4 p0 = some r) : me_Ct l yJ6_bitCount_0f7a4 cJ6_bitCount_0f7a4 1 (some .int) 0 n nt (fun _ => [.int p0]) M (fun _ => some (.int r)) M := by
  unfold mJ6_bitCount_0f7a4 at h
  refine me_enter (N0 := 63) RJ6 rfl plf_yJ6_bitCount_0f7a4 hn (Nat.le_trans (by decide) hnt) (fun _ => Nat.le_of_ble_eq_true rfl) ?_
  intro p e R s m args below meth c D cA ad tys A X hr hlk
  refine me_sub (L' := [(0, .int p0)]) [0] rfl ?_
  refine me_iload_n X (i := 0) 0 rfl dJ6_bitCount_0f7a4_0 ?_
  refine me_iload_n X (i := 0) 0 rfl dJ6_bitCount_0f7a4_1 ?_
  refine me_iconst X dJ6_bitCount_0f7a4_2 ic_1 ?_
  refine me_iushr X dJ6_bitCount_0f7a4_3 ?_
  refine me_ldcw X tw_627 dJ6_bitCount_0f7a4_4 ?_
  refine me_iand X dJ6_bitCount_0f7a4_7 ?_
  refine me_isub X dJ6_bitCount_0f7a4_8 ?_
  refine me_istore_n X (i := 0) [(0, .int (p0 - (((p0.toUInt32 >>> ((1 : Int32).toUInt32 &&& Int32.toUInt32 31)).toInt32) &&& 1431655765)))] (Nat.le_of_ble_eq_true rfl) rfl dJ6_bitCount_0f7a4_9 ?_
  refine me_iload_n X (i := 0) 0 rfl dJ6_bitCount_0f7a4_10 ?_
  refine me_ldcw X tw_628 dJ6_bitCount_0f7a4_11 ?_
  refine me_iand X dJ6_bitCount_0f7a4_14 ?_
  refine me_iload_n X (i := 0) 0 rfl dJ6_bitCount_0f7a4_15 ?_
  refine me_iconst X dJ6_bitCount_0f7a4_16 ic_2 ?_
  refine me_iushr X dJ6_bitCount_0f7a4_17 ?_
  refine me_ldcw X tw_628 dJ6_bitCount_0f7a4_18 ?_
  refine me_iand X dJ6_bitCount_0f7a4_21 ?_
  refine me_iadd X dJ6_bitCount_0f7a4_22 ?_
  refine me_istore_n X (i := 0) [(0, .int (((p0 - (((p0.toUInt32 >>> ((1 : Int32).toUInt32 &&& Int32.toUInt32 31)).toInt32) &&& 1431655765)) &&& 858993459) + ((((p0 - (((p0.toUInt32 >>> ((1 : Int32).toUInt32 &&& Int32.toUInt32 31)).toInt32) &&& 1431655765)).toUInt32 >>> ((2 : Int32).toUInt32 &&& Int32.toUInt32 31)).toInt32) &&& 858993459)))] (Nat.le_of_ble_eq_true rfl) rfl dJ6_bitCount_0f7a4_23 ?_
  refine me_iload_n X (i := 0) 0 rfl dJ6_bitCount_0f7a4_24 ?_
  refine me_iload_n X (i := 0) 0 rfl dJ6_bitCount_0f7a4_25 ?_
  refine me_iconst X dJ6_bitCount_0f7a4_26 ic_4 ?_
  refine me_iushr X dJ6_bitCount_0f7a4_27 ?_
  refine me_iadd X dJ6_bitCount_0f7a4_28 ?_
  refine me_ldcw X tw_629 dJ6_bitCount_0f7a4_29 ?_
  refine me_iand X dJ6_bitCount_0f7a4_32 ?_
  refine me_istore_n X (i := 0) [(0, .int (((((p0 - (((p0.toUInt32 >>> ((1 : Int32).toUInt32 &&& Int32.toUInt32 31)).toInt32) &&& 1431655765)) &&& 858993459) + ((((p0 - (((p0.toUInt32 >>> ((1 : Int32).toUInt32 &&& Int32.toUInt32 31)).toInt32) &&& 1431655765)).toUInt32 >>> ((2 : Int32).toUInt32 &&& Int32.toUInt32 31)).toInt32) &&& 858993459)) + (((((p0 - (((p0.toUInt32 >>> ((1 : Int32).toUInt32 &&& Int32.toUInt32 31)).toInt32) &&& 1431655765)) &&& 858993459) + ((((p0 - (((p0.toUInt32 >>> ((1 : Int32).toUInt32 &&& Int32.toUInt32 31)).toInt32) &&& 1431655765)).toUInt32 >>> ((2 : Int32).toUInt32 &&& Int32.toUInt32 31)).toInt32) &&& 858993459)).toUInt32 >>> ((4 : Int32).toUInt32 &&& Int32.toUInt32 31)).toInt32)) &&& 252645135))] (Nat.le_of_ble_eq_true rfl) rfl dJ6_bitCount_0f7a4_33 ?_
  refine me_iload_n X (i := 0) 0 rfl dJ6_bitCount_0f7a4_34 ?_
  refine me_iload_n X (i := 0) 0 rfl dJ6_bitCount_0f7a4_35 ?_
  refine me_bipush X dJ6_bitCount_0f7a4_36 ib_8 ?_
  refine me_iushr X dJ6_bitCount_0f7a4_38 ?_
  refine me_iadd X dJ6_bitCount_0f7a4_39 ?_
  refine me_istore_n X (i := 0) [(0, .int ((((((p0 - (((p0.toUInt32 >>> ((1 : Int32).toUInt32 &&& Int32.toUInt32 31)).toInt32) &&& 1431655765)) &&& 858993459) + ((((p0 - (((p0.toUInt32 >>> ((1 : Int32).toUInt32 &&& Int32.toUInt32 31)).toInt32) &&& 1431655765)).toUInt32 >>> ((2 : Int32).toUInt32 &&& Int32.toUInt32 31)).toInt32) &&& 858993459)) + (((((p0 - (((p0.toUInt32 >>> ((1 : Int32).toUInt32 &&& Int32.toUInt32 31)).toInt32) &&& 1431655765)) &&& 858993459) + ((((p0 - (((p0.toUInt32 >>> ((1 : Int32).toUInt32 &&& Int32.toUInt32 31)).toInt32) &&& 1431655765)).toUInt32 >>> ((2 : Int32).toUInt32 &&& Int32.toUInt32 31)).toInt32) &&& 858993459)).toUInt32 >>> ((4 : Int32).toUInt32 &&& Int32.toUInt32 31)).toInt32)) &&& 252645135) + (((((((p0 - (((p0.toUInt32 >>> ((1 : Int32).toUInt32 &&& Int32.toUInt32 31)).toInt32) &&& 1431655765)) &&& 858993459) + ((((p0 - (((p0.toUInt32 >>> ((1 : Int32).toUInt32 &&& Int32.toUInt32 31)).toInt32) &&& 1431655765)).toUInt32 >>> ((2 : Int32).toUInt32 &&& Int32.toUInt32 31)).toInt32) &&& 858993459)) + (((((p0 - (((p0.toUInt32 >>> ((1 : Int32).toUInt32 &&& Int32.toUInt32 31)).toInt32) &&& 1431655765)) &&& 858993459) + ((((p0 - (((p0.toUInt32 >>> ((1 : Int32).toUInt32 &&& Int32.toUInt32 31)).toInt32) &&& 1431655765)).toUInt32 >>> ((2 : Int32).toUInt32 &&& Int32.toUInt32 31)).toInt32) &&& 858993459)).toUInt32 >>> ((4 : Int32).toUInt32 &&& Int32.toUInt32 31)).toInt32)) &&& 252645135).toUInt32 >>> ((8 : Int32).toUInt32 &&& Int32.toUInt32 31)).toInt32)))] (Nat.le_of_ble_eq_true rfl) rfl dJ6_bitCount_0f7a4_40 ?_
  refine me_iload_n X (i := 0) 0 rfl dJ6_bitCount_0f7a4_41 ?_
  refine me_iload_n X (i := 0) 0 rfl dJ6_bitCount_0f7a4_42 ?_
  refine me_bipush X dJ6_bitCount_0f7a4_43 ib_16 ?_
  refine me_iushr X dJ6_bitCount_0f7a4_45 ?_
  refine me_iadd X dJ6_bitCount_0f7a4_46 ?_
  refine me_istore_n X (i := 0) [(0, .int (((((((p0 - (((p0.toUInt32 >>> ((1 : Int32).toUInt32 &&& Int32.toUInt32 31)).toInt32) &&& 1431655765)) &&& 858993459) + ((((p0 - (((p0.toUInt32 >>> ((1 : Int32).toUInt32 &&& Int32.toUInt32 31)).toInt32) &&& 1431655765)).toUInt32 >>> ((2 : Int32).toUInt32 &&& Int32.toUInt32 31)).toInt32) &&& 858993459)) + (((((p0 - (((p0.toUInt32 >>> ((1 : Int32).toUInt32 &&& Int32.toUInt32 31)).toInt32) &&& 1431655765)) &&& 858993459) + ((((p0 - (((p0.toUInt32 >>> ((1 : Int32).toUInt32 &&& Int32.toUInt32 31)).toInt32) &&& 1431655765)).toUInt32 >>> ((2 : Int32).toUInt32 &&& Int32.toUInt32 31)).toInt32) &&& 858993459)).toUInt32 >>> ((4 : Int32).toUInt32 &&& Int32.toUInt32 31)).toInt32)) &&& 252645135) + (((((((p0 - (((p0.toUInt32 >>> ((1 : Int32).toUInt32 &&& Int32.toUInt32 31)).toInt32) &&& 1431655765)) &&& 858993459) + ((((p0 - (((p0.toUInt32 >>> ((1 : Int32).toUInt32 &&& Int32.toUInt32 31)).toInt32) &&& 1431655765)).toUInt32 >>> ((2 : Int32).toUInt32 &&& Int32.toUInt32 31)).toInt32) &&& 858993459)) + (((((p0 - (((p0.toUInt32 >>> ((1 : Int32).toUInt32 &&& Int32.toUInt32 31)).toInt32) &&& 1431655765)) &&& 858993459) + ((((p0 - (((p0.toUInt32 >>> ((1 : Int32).toUInt32 &&& Int32.toUInt32 31)).toInt32) &&& 1431655765)).toUInt32 >>> ((2 : Int32).toUInt32 &&& Int32.toUInt32 31)).toInt32) &&& 858993459)).toUInt32 >>> ((4 : Int32).toUInt32 &&& Int32.toUInt32 31)).toInt32)) &&& 252645135).toUInt32 >>> ((8 : Int32).toUInt32 &&& Int32.toUInt32 31)).toInt32)) + ((((((((p0 - (((p0.toUInt32 >>> ((1 : Int32).toUInt32 &&& Int32.toUInt32 31)).toInt32) &&& 1431655765)) &&& 858993459) + ((((p0 - (((p0.toUInt32 >>> ((1 : Int32).toUInt32 &&& Int32.toUInt32 31)).toInt32) &&& 1431655765)).toUInt32 >>> ((2 : Int32).toUInt32 &&& Int32.toUInt32 31)).toInt32) &&& 858993459)) + (((((p0 - (((p0.toUInt32 >>> ((1 : Int32).toUInt32 &&& Int32.toUInt32 31)).toInt32) &&& 1431655765)) &&& 858993459) + ((((p0 - (((p0.toUInt32 >>> ((1 : Int32).toUInt32 &&& Int32.toUInt32 31)).toInt32) &&& 1431655765)).toUInt32 >>> ((2 : Int32).toUInt32 &&& Int32.toUInt32 31)).toInt32) &&& 858993459)).toUInt32 >>> ((4 : Int32).toUInt32 &&& Int32.toUInt32 31)).toInt32)) &&& 252645135) + (((((((p0 - (((p0.toUInt32 >>> ((1 : Int32).toUInt32 &&& Int32.toUInt32 31)).toInt32) &&& 1431655765)) &&& 858993459) + ((((p0 - (((p0.toUInt32 >>> ((1 : Int32).toUInt32 &&& Int32.toUInt32 31)).toInt32) &&& 1431655765)).toUInt32 >>> ((2 : Int32).toUInt32 &&& Int32.toUInt32 31)).toInt32) &&& 858993459)) + (((((p0 - (((p0.toUInt32 >>> ((1 : Int32).toUInt32 &&& Int32.toUInt32 31)).toInt32) &&& 1431655765)) &&& 858993459) + ((((p0 - (((p0.toUInt32 >>> ((1 : Int32).toUInt32 &&& Int32.toUInt32 31)).toInt32) &&& 1431655765)).toUInt32 >>> ((2 : Int32).toUInt32 &&& Int32.toUInt32 31)).toInt32) &&& 858993459)).toUInt32 >>> ((4 : Int32).toUInt32 &&& Int32.toUInt32 31)).toInt32)) &&& 252645135).toUInt32 >>> ((8 : Int32).toUInt32 &&& Int32.toUInt32 31)).toInt32)).toUInt32 >>> ((16 : Int32).toUInt32 &&& Int32.toUInt32 31)).toInt32)))] (Nat.le_of_ble_eq_true rfl) rfl dJ6_bitCount_0f7a4_47 ?_
  refine me_iload_n X (i := 0) 0 rfl dJ6_bitCount_0f7a4_48 ?_
  refine me_bipush X dJ6_bitCount_0f7a4_49 ib_63 ?_
  refine me_iand X dJ6_bitCount_0f7a4_51 ?_
  obtain rfl := me_so h
  exact me_iret X hr hlk dJ6_bitCount_0f7a4_52
