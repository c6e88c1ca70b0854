def mX12_documentOf_63_J35 (p0 : Int32) (x3_1 : Int32) (x2_1 : Int32) (M : me_M) (s1 : Int32) : Option ((Int32 × Int32) ⊕ (Int32)) :=
  some (.inl ((x2_1 + s1), (x3_1 + 1)))
def mX12_documentOf_63_L4 (M : me_M) (p0 : Int32) : (Int32 × Int32) → Option ((Int32 × Int32) ⊕ (Int32))
  | (x2_1, x3_1) => (if p0 ≤ x3_1 then some (.inr x2_1) else (if (M.1 63 5) ≤ x3_1 then some (.inr x2_1) else ((me_r M 67 241 x3_1).bind fun v1 => (if v1 = 1 then (mX12_documentOf_63_J35 p0 x3_1 x2_1 M 1) else (mX12_documentOf_63_J35 p0 x3_1 x2_1 M 0)))))
def mX12_documentOf_63 (M : me_M) (p0 : Int32) : Option Int32 :=
  ((me_l (mX12_documentOf_63_L4 M p0) me_fu (0, 0)).bind fun y2_1 => some y2_1)
set_option maxRecDepth 100000 in
set_option maxHeartbeats 4000000 in
theorem ctX12_documentOf_63 {l : Launch} {n nt : Nat} (hn : 424 ≤ n) (hnt : 4 ≤ nt) {M : me_M} {p0 : Int32} {r : Int32} (h : mX12_documentOf_63 M p0 = some r) : me_Ct l yX12_documentOf cX12_documentOf 4 (some .int) 0 n nt (fun ad => [.ref (ad 63), .int p0]) M (fun _ => some (.int r)) M := by
  unfold mX12_documentOf_63 at h
  refine me_enter (N0 := 424) RX12 rfl (plainFor_of_name pl_RX12) hn (Nat.le_trans (by decide) hnt) (fun _ => Nat.le_of_ble_eq_true rfl) ?_
  intro p e R s m args below meth c D cA ad tys A X hr hlk
  refine me_sub (L' := [(0, .ref (ad 63)), (1, .int p0)]) [0, 1] rfl ?_
  refine me_iconst X dX12_documentOf_0 ic_0 ?_
  refine me_istore_n X (i := 2) [(2, .int 0), (0, .ref (ad 63)), (1, .int p0)] (Nat.le_of_ble_eq_true rfl) rfl dX12_documentOf_1 ?_
  refine me_iconst X dX12_documentOf_2 ic_0 ?_
  refine me_istore_n X (i := 3) [(3, .int 0), (2, .int 0), (0, .ref (ad 63)), (1, .int p0)] (Nat.le_of_ble_eq_true rfl) rfl dX12_documentOf_3 ?_
  obtain ⟨y2_1, hq1, h⟩ := me_bd h
  have hx1 : me_W p l e R s m args below meth c 0 0 (MQ below (me_Qc D cA ad n A (some (.int r)) M) args s 0 0 A) D cA ad n 4 A 43 [(2, .int y2_1)] [] M := by
    refine me_iload_n X (i := 2) 0 rfl dX12_documentOf_43 ?_
    obtain rfl := me_so h
    exact me_iret X hr hlk dX12_documentOf_44
  refine me_sub (L' := [(0, .ref (ad 63)), (1, .int p0), (2, .int 0), (3, .int 0)]) [2, 3, 1, 0] rfl ?_
  refine me_l_W (b := (mX12_documentOf_63_L4 M p0)) (P := fun w => me_W p l e R s m args below meth c 0 0 (MQ below (me_Qc D cA ad n A (some (.int r)) M) args s 0 0 A) D cA ad n 4 A 4 [(0, .ref (ad 63)), (1, .int p0), (2, .int w.1), (3, .int w.2)] [] M) (r := y2_1) ?_ me_fu (0, 0) hq1
  rintro ⟨x2_1, x3_1⟩ z1 h hb1 - hr1
  unfold mX12_documentOf_63_L4 at h
  refine me_iload_n X (i := 3) 3 rfl dX12_documentOf_4 ?_
  refine me_iload_n X (i := 1) 1 rfl dX12_documentOf_5 ?_
  refine me_icmp_ge X 43 (by decide) dX12_documentOf_6 (fun c1 => ?_) (fun c1 => ?_)
  · have h := me_ip c1 h
    obtain rfl := me_so h
    have q := hr1 _ rfl
    refine me_sub (L' := [(2, .int x2_1)]) [2] rfl ?_
    cases q
    exact hx1
  · have h := me_in c1 h
    refine me_iload_n X (i := 3) 3 rfl dX12_documentOf_9 ?_
    refine me_aload_n X (i := 0) 0 rfl dX12_documentOf_10 ?_
    refine me_geti X kF_X12_20 (Nat.le_of_ble_eq_true rfl) me_k63 me_f63_5 dX12_documentOf_11 ?_
    refine me_icmp_ge X 43 (by decide) dX12_documentOf_14 (fun c2 => ?_) (fun c2 => ?_)
    · have h := me_ip c2 h
      obtain rfl := me_so h
      have q := hr1 _ rfl
      refine me_sub (L' := [(2, .int x2_1)]) [2] rfl ?_
      cases q
      exact hx1
    · have h := me_in c2 h
      refine me_iload_n X (i := 2) 2 rfl dX12_documentOf_17 ?_
      refine me_aload_n X (i := 0) 0 rfl dX12_documentOf_18 ?_
      refine me_getr X 66 kF_X12_28 (Nat.le_of_ble_eq_true rfl) me_k63 me_f63_7 dX12_documentOf_19 ?_
      refine me_iconst X dX12_documentOf_22 ic_0 ?_
      refine me_aald X (j := 67) (Nat.le_of_ble_eq_true rfl) ⟨by decide, by decide, Nat.lt_of_lt_of_le (by decide) hnt⟩ me_k66 (by decide) dX12_documentOf_23 ?_
      refine me_iload_n X (i := 3) 3 rfl dX12_documentOf_24 ?_
      obtain ⟨v1, e1, h⟩ := me_bd h
      refine me_iald X (Nat.le_of_ble_eq_true rfl) me_k67 e1 dX12_documentOf_25 ?_
      refine me_iconst X dX12_documentOf_26 ic_1 ?_
      have hj35_1 : ∀ (s1 : Int32), mX12_documentOf_63_J35 p0 x3_1 x2_1 M s1 = some z1 → me_W p l e R s m args below meth c 0 0 (MQ below (me_Qc D cA ad n A (some (.int r)) M) args s 0 0 A) D cA ad n 4 A 35 [(0, .ref (ad 63)), (1, .int p0), (3, .int x3_1)] [.int s1, .int x2_1] M := by
        intro s1 h
        unfold mX12_documentOf_63_J35 at h
        refine me_iadd X dX12_documentOf_35 ?_
        refine me_istore_n X (i := 2) [(2, .int (x2_1 + s1)), (0, .ref (ad 63)), (1, .int p0), (3, .int x3_1)] (Nat.le_of_ble_eq_true rfl) rfl dX12_documentOf_36 ?_
        refine me_iinc X (v := (x3_1 + 1)) 3 rfl (in_1 _) [(3, .int (x3_1 + 1)), (2, .int (x2_1 + s1)), (0, .ref (ad 63)), (1, .int p0)] (Nat.le_of_ble_eq_true rfl) rfl dX12_documentOf_37 ?_
        refine me_goto X 4 (by decide) dX12_documentOf_40 ?_
        obtain rfl := me_so h
        refine me_sub (L' := [(0, .ref (ad 63)), (1, .int p0), (2, .int (x2_1 + s1)), (3, .int (x3_1 + 1))]) [2, 3, 1, 0] rfl ?_
        exact hb1 ((x2_1 + s1), (x3_1 + 1)) rfl
      refine me_icmp_ne X 34 (by decide) dX12_documentOf_27 (fun c3 => ?_) (fun c3 => ?_)
      · have h := me_in c3 h
        refine me_iconst X dX12_documentOf_34 ic_0 ?_
        refine me_sub (L' := [(0, .ref (ad 63)), (1, .int p0), (3, .int x3_1)]) [0, 1, 3] rfl ?_
        exact hj35_1 0 h
      · have h := me_ip c3 h
        refine me_iconst X dX12_documentOf_30 ic_1 ?_
        refine me_goto X 35 (by decide) dX12_documentOf_31 ?_
        refine me_sub (L' := [(0, .ref (ad 63)), (1, .int p0), (3, .int x3_1)]) [0, 1, 3] rfl ?_
        exact hj35_1 1 h
def mX12_beginOf_63_J26 (x3_1 : Int32) (x2_1 : Int32) (M : me_M) (s1 : Int32) : Option ((Int32 × Int32) ⊕ (Int32)) :=
  some (.inl ((x2_1 - s1), (x3_1 + 1)))
def mX12_beginOf_63_L4 (M : me_M) : (Int32 × Int32) → Option ((Int32 × Int32) ⊕ (Int32))
  | (x2_1, x3_1) => (if x2_1 ≤ 0 then some (.inr x3_1) else ((me_r M 67 241 x3_1).bind fun v1 => (if v1 = 1 then (mX12_beginOf_63_J26 x3_1 x2_1 M 1) else (mX12_beginOf_63_J26 x3_1 x2_1 M 0))))
def mX12_beginOf_63 (M : me_M) (p0 : Int32) : Option Int32 :=
  ((me_l (mX12_beginOf_63_L4 M) me_fu (p0, 0)).bind fun y3_1 => some y3_1)
set_option maxRecDepth 100000 in
set_option maxHeartbeats 4000000 in
theorem ctX12_beginOf_63 {l : Launch} {n nt : Nat} (hn : 424 ≤ n) (hnt : 4 ≤ nt) {M : me_M} {p0 : Int32} {r : Int32} (h : mX12_beginOf_63 M p0 = some r) : me_Ct l yX12_beginOf cX12_beginOf 4 (some .int) 0 n nt (fun ad => [.ref (ad 63), .int p0]) M (fun _ => some (.int r)) M := by
  unfold mX12_beginOf_63 at h
  refine me_enter (N0 := 424) RX12 rfl (plainFor_of_name pl_RX12) hn (Nat.le_trans (by decide) hnt) (fun _ => Nat.le_of_ble_eq_true rfl) ?_
  intro p e R s m args below meth c D cA ad tys A X hr hlk
  refine me_sub (L' := [(0, .ref (ad 63)), (1, .int p0)]) [0, 1] rfl ?_
  refine me_iload_n X (i := 1) 1 rfl dX12_beginOf_0 ?_
  refine me_istore_n X (i := 2) [(2, .int p0), (0, .ref (ad 63)), (1, .int p0)] (Nat.le_of_ble_eq_true rfl) rfl dX12_beginOf_1 ?_
  refine me_iconst X dX12_beginOf_2 ic_0 ?_
  refine me_istore_n X (i := 3) [(3, .int 0), (2, .int p0), (0, .ref (ad 63)), (1, .int p0)] (Nat.le_of_ble_eq_true rfl) rfl dX12_beginOf_3 ?_
  obtain ⟨y3_1, hq1, h⟩ := me_bd h
  have hx1 : me_W p l e R s m args below meth c 0 0 (MQ below (me_Qc D cA ad n A (some (.int r)) M) args s 0 0 A) D cA ad n 4 A 34 [(3, .int y3_1)] [] M := by
    refine me_iload_n X (i := 3) 0 rfl dX12_beginOf_34 ?_
    obtain rfl := me_so h
    exact me_iret X hr hlk dX12_beginOf_35
  refine me_sub (L' := [(0, .ref (ad 63)), (2, .int p0), (3, .int 0)]) [2, 1, 0] rfl ?_
  refine me_l_W (b := (mX12_beginOf_63_L4 M)) (P := fun w => me_W p l e R s m args below meth c 0 0 (MQ below (me_Qc D cA ad n A (some (.int r)) M) args s 0 0 A) D cA ad n 4 A 4 [(0, .ref (ad 63)), (2, .int w.1), (3, .int w.2)] [] M) (r := y3_1) ?_ me_fu (p0, 0) hq1
  rintro ⟨x2_1, x3_1⟩ z1 h hb1 - hr1
  unfold mX12_beginOf_63_L4 at h
  refine me_iload_n X (i := 2) 1 rfl dX12_beginOf_4 ?_
  refine me_if_le X 34 (by decide) dX12_beginOf_5 (fun c1 => ?_) (fun c1 => ?_)
  · have h := me_ip c1 h
    obtain rfl := me_so h
    have q := hr1 _ rfl
    refine me_sub (L' := [(3, .int x3_1)]) [2] rfl ?_
    cases q
    exact hx1
  · have h := me_in c1 h
    refine me_iload_n X (i := 2) 1 rfl dX12_beginOf_8 ?_
    refine me_aload_n X (i := 0) 0 rfl dX12_beginOf_9 ?_
    refine me_getr X 66 kF_X12_28 (Nat.le_of_ble_eq_true rfl) me_k63 me_f63_7 dX12_beginOf_10 ?_
    refine me_iconst X dX12_beginOf_13 ic_0 ?_
    refine me_aald X (j := 67) (Nat.le_of_ble_eq_true rfl) ⟨by decide, by decide, Nat.lt_of_lt_of_le (by decide) hnt⟩ me_k66 (by decide) dX12_beginOf_14 ?_
    refine me_iload_n X (i := 3) 2 rfl dX12_beginOf_15 ?_
    obtain ⟨v1, e1, h⟩ := me_bd h
    refine me_iald X (Nat.le_of_ble_eq_true rfl) me_k67 e1 dX12_beginOf_16 ?_
    refine me_iconst X dX12_beginOf_17 ic_1 ?_
    have hj26_1 : ∀ (s1 : Int32), mX12_beginOf_63_J26 x3_1 x2_1 M s1 = some z1 → me_W p l e R s m args below meth c 0 0 (MQ below (me_Qc D cA ad n A (some (.int r)) M) args s 0 0 A) D cA ad n 4 A 26 [(0, .ref (ad 63)), (3, .int x3_1)] [.int s1, .int x2_1] M := by
      intro s1 h
      unfold mX12_beginOf_63_J26 at h
      refine me_isub X dX12_beginOf_26 ?_
      refine me_istore_n X (i := 2) [(2, .int (x2_1 - s1)), (0, .ref (ad 63)), (3, .int x3_1)] (Nat.le_of_ble_eq_true rfl) rfl dX12_beginOf_27 ?_
      refine me_iinc X (v := (x3_1 + 1)) 2 rfl (in_1 _) [(3, .int (x3_1 + 1)), (2, .int (x2_1 - s1)), (0, .ref (ad 63))] (Nat.le_of_ble_eq_true rfl) rfl dX12_beginOf_28 ?_
      refine me_goto X 4 (by decide) dX12_beginOf_31 ?_
      obtain rfl := me_so h
      refine me_sub (L' := [(0, .ref (ad 63)), (2, .int (x2_1 - s1)), (3, .int (x3_1 + 1))]) [2, 1, 0] rfl ?_
      exact hb1 ((x2_1 - s1), (x3_1 + 1)) rfl
    refine me_icmp_ne X 25 (by decide) dX12_beginOf_18 (fun c2 => ?_) (fun c2 => ?_)
    · have h := me_in c2 h
      refine me_iconst X dX12_beginOf_25 ic_0 ?_
      refine me_sub (L' := [(0, .ref (ad 63)), (3, .int x3_1)]) [0, 2] rfl ?_
      exact hj26_1 0 h
    · have h := me_ip c2 h
      refine me_iconst X dX12_beginOf_21 ic_1 ?_
      refine me_goto X 26 (by decide) dX12_beginOf_22 ?_
      refine me_sub (L' := [(0, .ref (ad 63)), (3, .int x3_1)]) [0, 2] rfl ?_
      exact hj26_1 1 h
def mX12_hitAt_63_J26 (p0 : Int32) (x3_1 : Int32) (x2_1 : Int32) (M : me_M) (s1 : Int32) : Option ((Int32 × Int32) ⊕ ((Unit) ⊕ Int32)) :=
  (if (x2_1 + s1) = p0 then some (.inr (.inr x3_1)) else some (.inl ((x2_1 + s1), (x3_1 + 1))))
def mX12_hitAt_63_L4 (M : me_M) (p0 : Int32) : (Int32 × Int32) → Option ((Int32 × Int32) ⊕ ((Unit) ⊕ Int32))
  | (x2_1, x3_1) => (if (M.1 63 5) < x3_1 then some (.inr (.inl ())) else ((mX12_isHit_63 M x3_1).bind fun v1 => (if v1 = 0 then (mX12_hitAt_63_J26 p0 x3_1 x2_1 M 0) else (mX12_hitAt_63_J26 p0 x3_1 x2_1 M 1))))
def mX12_hitAt_63 (M : me_M) (p0 : Int32) : Option Int32 :=
  ((me_l (mX12_hitAt_63_L4 M p0) me_fu ((-1), 0)).bind fun o => Sum.elim (fun _ => some (-1)) (fun res => some res) o)
set_option maxRecDepth 100000 in
set_option maxHeartbeats 4000000 in
theorem ctX12_hitAt_63 {l : Launch} {n nt : Nat} (hn : 424 ≤ n) (hnt : 4 ≤ nt) {M : me_M} {p0 : Int32} {r : Int32} (h : mX12_hitAt_63 M p0 = some r) : me_Ct l yX12_hitAt cX12_hitAt 4 (some .int) 2 n nt (fun ad => [.ref (ad 63), .int p0]) M (fun _ => some (.int r)) M := by
  unfold mX12_hitAt_63 at h
  refine me_enter (N0 := 424) RX12 rfl (plainFor_of_name pl_RX12) hn (Nat.le_trans (by decide) hnt) (fun _ => Nat.le_of_ble_eq_true rfl) ?_
  intro p e R s m args below meth c D cA ad tys A X hr hlk
  refine me_sub (L' := [(0, .ref (ad 63)), (1, .int p0)]) [0, 1] rfl ?_
  refine me_iconst X dX12_hitAt_0 ic_m1 ?_
  refine me_istore_n X (i := 2) [(2, .int (-1)), (0, .ref (ad 63)), (1, .int p0)] (Nat.le_of_ble_eq_true rfl) rfl dX12_hitAt_1 ?_
  refine me_iconst X dX12_hitAt_2 ic_0 ?_
  refine me_istore_n X (i := 3) [(3, .int 0), (2, .int (-1)), (0, .ref (ad 63)), (1, .int p0)] (Nat.le_of_ble_eq_true rfl) rfl dX12_hitAt_3 ?_
  obtain ⟨o0, hq1l, hq1⟩ := me_bd h
  have hx1 : o0 = .inl () → me_W p l e R s m args below meth c 0 0 (MQ below (me_Qc D cA ad n A (some (.int r)) M) args s 0 0 A) D cA ad n 4 A 41 [] [] M := by
    intro q
    subst q
    have h := me_el hq1
    refine me_iconst X dX12_hitAt_41 ic_m1 ?_
    obtain rfl := me_so h
    exact me_iret X hr hlk dX12_hitAt_42
  refine me_sub (L' := [(0, .ref (ad 63)), (1, .int p0), (2, .int (-1)), (3, .int 0)]) [2, 3, 1, 0] rfl ?_
  refine me_l_W (b := (mX12_hitAt_63_L4 M p0)) (P := fun w => me_W p l e R s m args below meth c 0 0 (MQ below (me_Qc D cA ad n A (some (.int r)) M) args s 0 0 A) D cA ad n 4 A 4 [(0, .ref (ad 63)), (1, .int p0), (2, .int w.1), (3, .int w.2)] [] M) (r := o0) ?_ me_fu ((-1), 0) hq1l
  rintro ⟨x2_1, x3_1⟩ z1 h hb1 - hr1
  unfold mX12_hitAt_63_L4 at h
  refine me_iload_n X (i := 3) 3 rfl dX12_hitAt_4 ?_
  refine me_aload_n X (i := 0) 0 rfl dX12_hitAt_5 ?_
  refine me_geti X kF_X12_20 (Nat.le_of_ble_eq_true rfl) me_k63 me_f63_5 dX12_hitAt_6 ?_
  refine me_icmp_gt X 41 (by decide) dX12_hitAt_9 (fun c1 => ?_) (fun c1 => ?_)
  · have h := me_ip c1 h
    obtain rfl := me_so h
    have q := hr1 _ rfl
    refine me_sub (L' := []) [] rfl ?_
    subst q
    exact hx1 rfl
  · have h := me_in c1 h
    refine me_iload_n X (i := 2) 2 rfl dX12_hitAt_12 ?_
    refine me_aload_n X (i := 0) 0 rfl dX12_hitAt_13 ?_
    refine me_iload_n X (i := 3) 3 rfl dX12_hitAt_14 ?_
    obtain ⟨v1, e1, h⟩ := me_bd h
    refine me_callVi X [.int x3_1] (ctX12_isHit_63 hn (Nat.le_trans (by decide) hnt) e1) kV_X12_236 rfl rfl (Nat.le_of_ble_eq_true rfl) me_k63 (Nat.le_of_ble_eq_true rfl) (Nat.le_refl _) (Nat.le_of_ble_eq_true rfl) dX12_hitAt_15 ?_
    have hj26_1 : ∀ (s1 : Int32), mX12_hitAt_63_J26 p0 x3_1 x2_1 M s1 = some z1 → me_W p l e R s m args below meth c 0 0 (MQ below (me_Qc D cA ad n A (some (.int r)) M) args s 0 0 A) D cA ad n 4 A 26 [(0, .ref (ad 63)), (1, .int p0), (3, .int x3_1)] [.int s1, .int x2_1] M := by
      intro s1 h
      unfold mX12_hitAt_63_J26 at h
      refine me_iadd X dX12_hitAt_26 ?_
      refine me_istore_n X (i := 2) [(2, .int (x2_1 + s1)), (0, .ref (ad 63)), (1, .int p0), (3, .int x3_1)] (Nat.le_of_ble_eq_true rfl) rfl dX12_hitAt_27 ?_
      refine me_iload_n X (i := 2) 0 rfl dX12_hitAt_28 ?_
      refine me_iload_n X (i := 1) 2 rfl dX12_hitAt_29 ?_
      refine me_icmp_ne X 35 (by decide) dX12_hitAt_30 (fun c3 => ?_) (fun c3 => ?_)
      · have h := me_in c3 h
        refine me_iinc X (v := (x3_1 + 1)) 3 rfl (in_1 _) [(3, .int (x3_1 + 1)), (2, .int (x2_1 + s1)), (0, .ref (ad 63)), (1, .int p0)] (Nat.le_of_ble_eq_true rfl) rfl dX12_hitAt_35 ?_
        refine me_goto X 4 (by decide) dX12_hitAt_38 ?_
        obtain rfl := me_so h
        refine me_sub (L' := [(0, .ref (ad 63)), (1, .int p0), (2, .int (x2_1 + s1)), (3, .int (x3_1 + 1))]) [2, 3, 1, 0] rfl ?_
        exact hb1 ((x2_1 + s1), (x3_1 + 1)) rfl
      · have h := me_ip c3 h
        refine me_iload_n X (i := 3) 3 rfl dX12_hitAt_33 ?_
        obtain rfl := me_so h
        have q := hr1 _ rfl
        subst q
        have h : some x3_1 = some r := hq1
        obtain rfl := me_so h
        exact me_iret X hr hlk dX12_hitAt_34
    refine me_if_eq X 25 (by decide) dX12_hitAt_18 (fun c2 => ?_) (fun c2 => ?_)
    · have h := me_ip c2 h
      refine me_iconst X dX12_hitAt_25 ic_0 ?_
      refine me_sub (L' := [(0, .ref (ad 63)), (1, .int p0), (3, .int x3_1)]) [0, 1, 3] rfl ?_
      exact hj26_1 0 h
    · have h := me_in c2 h
      refine me_iconst X dX12_hitAt_21 ic_1 ?_
      refine me_goto X 26 (by decide) dX12_hitAt_22 ?_
      refine me_sub (L' := [(0, .ref (ad 63)), (1, .int p0), (3, .int x3_1)]) [0, 1, 3] rfl ?_
      exact hj26_1 1 h
def mX12_hit_63_J48 (p0 : Int32) (p1 : Int32) (M2 : me_M) (s2 : Int32) : Option (Int32 × me_M) :=
  ((mX12_bad_63 M2 s2 2 1).bind fun (v5, M3) => (if v5 = 0 then ((mX12_hitAt_63 M3 p0).bind fun v6 => ((mX12_documentOf_63 M3 v6).bind fun v7 => (if p1 = 0 then some (v6, M3) else (if p1 = 1 then some (v7, M3) else ((mX12_beginOf_63 M3 v7).bind fun v8 => some ((v6 - v8), M3)))))) else some (0, M3)))
def mX12_hit_63_J25 (p0 : Int32) (p1 : Int32) (s1 : Int32) (M1 : me_M) : Option (Int32 × me_M) :=
  ((mX12_bad_63 M1 s1 1 0).bind fun (v3, M2) => (if v3 = 0 then ((mX12_in p1 0 2).bind fun v4 => (if v4 = 0 then (mX12_hit_63_J48 p0 p1 M2 1) else (mX12_hit_63_J48 p0 p1 M2 0))) else some (0, M2)))
def mX12_hit_63 (M : me_M) (p0 : Int32) (p1 : Int32) : Option (Int32 × me_M) :=
  ((mX12_sizeOf_63 (me_s M 63 0 0)).bind fun v1 => ((mX12_in p0 0 (v1 - 1)).bind fun v2 => (if v2 = 0 then (mX12_hit_63_J25 p0 p1 1 (me_s M 63 0 0)) else (mX12_hit_63_J25 p0 p1 0 (me_s M 63 0 0)))))
set_option maxRecDepth 100000 in
set_option maxHeartbeats 4000000 in
theorem ctX12_hit_63 {l : Launch} {n nt : Nat} (hn : 424 ≤ n) (hnt : 4 ≤ nt) {M : me_M} {p0 : Int32} {p1 : Int32} {r : Int32} {M' : me_M} (h : mX12_hit_63 M p0 p1 = some (r, M')) : me_Ct l yX12_hit cX12_hit 5 (some .int) 3 n nt (fun ad => [.ref (ad 63), .int p0, .int p1]) M (fun _ => some (.int r)) M' := by
  unfold mX12_hit_63 at h
  refine me_enter (N0 := 424) RX12 rfl (plainFor_of_name pl_RX12) hn (Nat.le_trans (by decide) hnt) (fun _ => Nat.le_of_ble_eq_true rfl) ?_
  intro p e R s m args below meth c D cA ad tys A X hr hlk
  refine me_sub (L' := [(0, .ref (ad 63)), (1, .int p0), (2, .int p1)]) [0, 1, 2] rfl ?_
  refine me_aload_n X (i := 0) 0 rfl dX12_hit_0 ?_
  refine me_iconst X dX12_hit_1 ic_0 ?_
  refine me_puti X kG_X12_105 (Nat.le_of_ble_eq_true rfl) me_k63 me_f63_0 dX12_hit_2 ?_
  refine me_aload_n X (i := 0) 0 rfl dX12_hit_5 ?_
  refine me_iload_n X (i := 1) 1 rfl dX12_hit_6 ?_
  refine me_iconst X dX12_hit_7 ic_0 ?_
  refine me_aload_n X (i := 0) 0 rfl dX12_hit_8 ?_
  obtain ⟨v1, e1, h⟩ := me_bd h
  refine me_callVi X [] (ctX12_sizeOf_63 hn (Nat.le_trans (by decide) hnt) e1) kV_X12_190 rfl rfl (Nat.le_of_ble_eq_true rfl) me_k63 (Nat.le_of_ble_eq_true rfl) (Nat.le_refl _) (Nat.le_of_ble_eq_true rfl) dX12_hit_9 ?_
  refine me_iconst X dX12_hit_12 ic_1 ?_
  refine me_isub X dX12_hit_13 ?_
  obtain ⟨v2, e2, h⟩ := me_bd h
  refine me_callSi X [.int p0, .int 0, .int (v1 - 1)] (ctX12_in hn (Nat.le_trans (by decide) hnt) e2) kS_X12_108 rfl rfl (Nat.le_of_ble_eq_true rfl) (Nat.le_refl _) (Nat.le_of_ble_eq_true rfl) dX12_hit_14 ?_
  have hj25_1 : ∀ (s1 : Int32) (M1 : me_M), mX12_hit_63_J25 p0 p1 s1 M1 = some (r, M') → me_W p l e R s m args below meth c 0 0 (MQ below (me_Qc D cA ad n A (some (.int r)) M') args s 0 0 A) D cA ad n 5 A 25 [(0, .ref (ad 63)), (1, .int p0), (2, .int p1)] [.int s1, .ref (ad 63)] M1 := by
    intro s1 M1 h
    unfold mX12_hit_63_J25 at h
    refine me_iconst X dX12_hit_25 ic_1 ?_
    refine me_iconst X dX12_hit_26 ic_0 ?_
    obtain ⟨⟨v3, M2⟩, e3, h⟩ := me_bd h
    refine me_callVi X [.int s1, .int 1, .int 0] (ctX12_bad_63 hn (Nat.le_trans (by decide) hnt) e3) kV_X12_122 rfl rfl (Nat.le_of_ble_eq_true rfl) me_k63 (Nat.le_of_ble_eq_true rfl) (Nat.le_refl _) (Nat.le_of_ble_eq_true rfl) dX12_hit_27 ?_
    refine me_if_ne X 56 (by decide) dX12_hit_30 (fun c2 => ?_) (fun c2 => ?_)
    · have h := me_in c2 h
      refine me_iconst X dX12_hit_56 ic_0 ?_
      obtain ⟨rfl, rfl⟩ := me_sp h
      exact me_iret X hr hlk dX12_hit_57
    · have h := me_ip c2 h
      refine me_aload_n X (i := 0) 0 rfl dX12_hit_33 ?_
      refine me_iload_n X (i := 2) 2 rfl dX12_hit_34 ?_
      refine me_iconst X dX12_hit_35 ic_0 ?_
      refine me_iconst X dX12_hit_36 ic_2 ?_
      obtain ⟨v4, e4, h⟩ := me_bd h
      refine me_callSi X [.int p1, .int 0, .int 2] (ctX12_in hn (Nat.le_trans (by decide) hnt) e4) kS_X12_108 rfl rfl (Nat.le_of_ble_eq_true rfl) (Nat.le_refl _) (Nat.le_of_ble_eq_true rfl) dX12_hit_37 ?_
      have hj48_2 : ∀ (s2 : Int32), mX12_hit_63_J48 p0 p1 M2 s2 = some (r, M') → me_W p l e R s m args below meth c 0 0 (MQ below (me_Qc D cA ad n A (some (.int r)) M') args s 0 0 A) D cA ad n 5 A 48 [(0, .ref (ad 63)), (1, .int p0), (2, .int p1)] [.int s2, .ref (ad 63)] M2 := by
        intro s2 h
        unfold mX12_hit_63_J48 at h
        refine me_iconst X dX12_hit_48 ic_2 ?_
        refine me_iconst X dX12_hit_49 ic_1 ?_
        obtain ⟨⟨v5, M3⟩, e5, h⟩ := me_bd h
        refine me_callVi X [.int s2, .int 2, .int 1] (ctX12_bad_63 hn (Nat.le_trans (by decide) hnt) e5) kV_X12_122 rfl rfl (Nat.le_of_ble_eq_true rfl) me_k63 (Nat.le_of_ble_eq_true rfl) (Nat.le_refl _) (Nat.le_of_ble_eq_true rfl) dX12_hit_50 ?_
        refine me_if_eq X 58 (by decide) dX12_hit_53 (fun c4 => ?_) (fun c4 => ?_)
        · have h := me_ip c4 h
          refine me_aload_n X (i := 0) 0 rfl dX12_hit_58 ?_
          refine me_iload_n X (i := 1) 1 rfl dX12_hit_59 ?_
          obtain ⟨v6, e6, h⟩ := me_bd h
          refine me_callVi X [.int p0] (ctX12_hitAt_63 hn (Nat.le_trans (by decide) hnt) e6) kV_X12_239 rfl rfl (Nat.le_of_ble_eq_true rfl) me_k63 (Nat.le_of_ble_eq_true rfl) (Nat.le_refl _) (Nat.le_of_ble_eq_true rfl) dX12_hit_60 ?_
          refine me_istore_n X (i := 3) [(3, .int v6), (0, .ref (ad 63)), (1, .int p0), (2, .int p1)] (Nat.le_of_ble_eq_true rfl) rfl dX12_hit_63 ?_
          refine me_aload_n X (i := 0) 1 rfl dX12_hit_64 ?_
          refine me_iload_n X (i := 3) 0 rfl dX12_hit_65 ?_
          obtain ⟨v7, e7, h⟩ := me_bd h
          refine me_callVi X [.int v6] (ctX12_documentOf_63 hn (Nat.le_trans (by decide) hnt) e7) kV_X12_242 rfl rfl (Nat.le_of_ble_eq_true rfl) me_k63 (Nat.le_of_ble_eq_true rfl) (Nat.le_refl _) (Nat.le_of_ble_eq_true rfl) dX12_hit_66 ?_
          refine me_istore X (i := 4) [(4, .int v7), (3, .int v6), (0, .ref (ad 63)), (1, .int p0), (2, .int p1)] (Nat.le_of_ble_eq_true rfl) rfl dX12_hit_69 ?_
          refine me_iload_n X (i := 2) 4 rfl dX12_hit_71 ?_
          refine me_if_ne X 79 (by decide) dX12_hit_72 (fun c5 => ?_) (fun c5 => ?_)
          · have h := me_in c5 h
            refine me_iload_n X (i := 2) 4 rfl dX12_hit_79 ?_
            refine me_iconst X dX12_hit_80 ic_1 ?_
            refine me_icmp_ne X 89 (by decide) dX12_hit_81 (fun c6 => ?_) (fun c6 => ?_)
            · have h := me_in c6 h
              refine me_iload_n X (i := 3) 1 rfl dX12_hit_89 ?_
              refine me_aload_n X (i := 0) 2 rfl dX12_hit_90 ?_
              refine me_iload X (i := 4) 0 rfl dX12_hit_91 ?_
              obtain ⟨v8, e8, h⟩ := me_bd h
              refine me_callVi X [.int v7] (ctX12_beginOf_63 hn (Nat.le_trans (by decide) hnt) e8) kV_X12_245 rfl rfl (Nat.le_of_ble_eq_true rfl) me_k63 (Nat.le_of_ble_eq_true rfl) (Nat.le_refl _) (Nat.le_of_ble_eq_true rfl) dX12_hit_93 ?_
              refine me_isub X dX12_hit_96 ?_
              obtain ⟨rfl, rfl⟩ := me_sp h
              exact me_iret X hr hlk dX12_hit_97
            · have h := me_ip c6 h
              refine me_iload X (i := 4) 0 rfl dX12_hit_84 ?_
              refine me_goto X 97 (by decide) dX12_hit_86 ?_
              obtain ⟨rfl, rfl⟩ := me_sp h
              exact me_iret X hr hlk dX12_hit_97
          · have h := me_ip c5 h
            refine me_iload_n X (i := 3) 1 rfl dX12_hit_75 ?_
            refine me_goto X 97 (by decide) dX12_hit_76 ?_
            obtain ⟨rfl, rfl⟩ := me_sp h
            exact me_iret X hr hlk dX12_hit_97
        · have h := me_in c4 h
          refine me_iconst X dX12_hit_56 ic_0 ?_
          obtain ⟨rfl, rfl⟩ := me_sp h
          exact me_iret X hr hlk dX12_hit_57
      refine me_if_ne X 47 (by decide) dX12_hit_40 (fun c3 => ?_) (fun c3 => ?_)
      · have h := me_in c3 h
        refine me_iconst X dX12_hit_47 ic_0 ?_
        exact hj48_2 0 h
      · have h := me_ip c3 h
        refine me_iconst X dX12_hit_43 ic_1 ?_
        refine me_goto X 48 (by decide) dX12_hit_44 ?_
        exact hj48_2 1 h
  refine me_if_ne X 24 (by decide) dX12_hit_17 (fun c1 => ?_) (fun c1 => ?_)
  · have h := me_in c1 h
    refine me_iconst X dX12_hit_24 ic_0 ?_
    exact hj25_1 0 (me_s M 63 0 0) h
  · have h := me_ip c1 h
    refine me_iconst X dX12_hit_20 ic_1 ?_
    refine me_goto X 25 (by decide) dX12_hit_21 ?_
    exact hj25_1 1 (me_s M 63 0 0) h
def mX12_hitsIn_63_J35 (p0 : Int32) (x3_1 : Int32) (x2_1 : Int32) (M : me_M) (s1 : Int32) : Option ((Int32 × Int32) ⊕ (Int32)) :=
  some (.inl ((x2_1 + s1), (x3_1 + 1)))
def mX12_hitsIn_63_J34 (p0 : Int32) (x3_1 : Int32) (x2_1 : Int32) (M : me_M)  : Option ((Int32 × Int32) ⊕ (Int32)) :=
  (mX12_hitsIn_63_J35 p0 x3_1 x2_1 M 0)
def mX12_hitsIn_63_L4 (M : me_M) (p0 : Int32) : (Int32 × Int32) → Option ((Int32 × Int32) ⊕ (Int32))
  | (x2_1, x3_1) => (if (M.1 63 5) < x3_1 then some (.inr x2_1) else ((mX12_isHit_63 M x3_1).bind fun v1 => (if v1 = 0 then (mX12_hitsIn_63_J34 p0 x3_1 x2_1 M ) else ((mX12_documentOf_63 M x3_1).bind fun v2 => (if v2 = p0 then (mX12_hitsIn_63_J35 p0 x3_1 x2_1 M 1) else (mX12_hitsIn_63_J34 p0 x3_1 x2_1 M ))))))
def mX12_hitsIn_63 (M : me_M) (p0 : Int32) : Option Int32 :=
  ((me_l (mX12_hitsIn_63_L4 M p0) me_fu (0, 0)).bind fun y2_1 => some y2_1)
set_option maxRecDepth 100000 in
set_option maxHeartbeats 4000000 in
theorem ctX12_hitsIn_63 {l : Launch} {n nt : Nat} (hn : 424 ≤ n) (hnt : 4 ≤ nt) {M : me_M} {p0 : Int32} {r : Int32} (h : mX12_hitsIn_63 M p0 = some r) : me_Ct l yX12_hitsIn cX12_hitsIn 4 (some .int) 2 n nt (fun ad => [.ref (ad 63), .int p0]) M (fun _ => some (.int r)) M := by
  unfold mX12_hitsIn_63 at h
  refine me_enter (N0 := 424) RX12 rfl (plainFor_of_name pl_RX12) hn (Nat.le_trans (by decide) hnt) (fun _ => Nat.le_of_ble_eq_true rfl) ?_
  intro p e R s m args below meth c D cA ad tys A X hr hlk
  refine me_sub (L' := [(0, .ref (ad 63)), (1, .int p0)]) [0, 1] rfl ?_
  refine me_iconst X dX12_hitsIn_0 ic_0 ?_
  refine me_istore_n X (i := 2) [(2, .int 0), (0, .ref (ad 63)), (1, .int p0)] (Nat.le_of_ble_eq_true rfl) rfl dX12_hitsIn_1 ?_
  refine me_iconst X dX12_hitsIn_2 ic_0 ?_
  refine me_istore_n X (i := 3) [(3, .int 0), (2, .int 0), (0, .ref (ad 63)), (1, .int p0)] (Nat.le_of_ble_eq_true rfl) rfl dX12_hitsIn_3 ?_
  obtain ⟨y2_1, hq1, h⟩ := me_bd h
  have hx1 : me_W p l e R s m args below meth c 0 0 (MQ below (me_Qc D cA ad n A (some (.int r)) M) args s 0 0 A) D cA ad n 4 A 43 [(2, .int y2_1)] [] M := by
    refine me_iload_n X (i := 2) 0 rfl dX12_hitsIn_43 ?_
    obtain rfl := me_so h
    exact me_iret X hr hlk dX12_hitsIn_44
  refine me_sub (L' := [(0, .ref (ad 63)), (1, .int p0), (2, .int 0), (3, .int 0)]) [2, 3, 1, 0] rfl ?_
  refine me_l_W (b := (mX12_hitsIn_63_L4 M p0)) (P := fun w => me_W p l e R s m args below meth c 0 0 (MQ below (me_Qc D cA ad n A (some (.int r)) M) args s 0 0 A) D cA ad n 4 A 4 [(0, .ref (ad 63)), (1, .int p0), (2, .int w.1), (3, .int w.2)] [] M) (r := y2_1) ?_ me_fu (0, 0) hq1
  rintro ⟨x2_1, x3_1⟩ z1 h hb1 - hr1
  unfold mX12_hitsIn_63_L4 at h
  refine me_iload_n X (i := 3) 3 rfl dX12_hitsIn_4 ?_
  refine me_aload_n X (i := 0) 0 rfl dX12_hitsIn_5 ?_
  refine me_geti X kF_X12_20 (Nat.le_of_ble_eq_true rfl) me_k63 me_f63_5 dX12_hitsIn_6 ?_
  refine me_icmp_gt X 43 (by decide) dX12_hitsIn_9 (fun c1 => ?_) (fun c1 => ?_)
  · have h := me_ip c1 h
    obtain rfl := me_so h
    have q := hr1 _ rfl
    refine me_sub (L' := [(2, .int x2_1)]) [2] rfl ?_
    cases q
    exact hx1
  · have h := me_in c1 h
    refine me_iload_n X (i := 2) 2 rfl dX12_hitsIn_12 ?_
    refine me_aload_n X (i := 0) 0 rfl dX12_hitsIn_13 ?_
    refine me_iload_n X (i := 3) 3 rfl dX12_hitsIn_14 ?_
    obtain ⟨v1, e1, h⟩ := me_bd h
    refine me_callVi X [.int x3_1] (ctX12_isHit_63 hn (Nat.le_trans (by decide) hnt) e1) kV_X12_236 rfl rfl (Nat.le_of_ble_eq_true rfl) me_k63 (Nat.le_of_ble_eq_true rfl) (Nat.le_refl _) (Nat.le_of_ble_eq_true rfl) dX12_hitsIn_15 ?_
    have hj35_2 : ∀ (s1 : Int32), mX12_hitsIn_63_J35 p0 x3_1 x2_1 M s1 = some z1 → me_W p l e R s m args below meth c 0 0 (MQ below (me_Qc D cA ad n A (some (.int r)) M) args s 0 0 A) D cA ad n 4 A 35 [(0, .ref (ad 63)), (1, .int p0), (3, .int x3_1)] [.int s1, .int x2_1] M := by
      intro s1 h
      unfold mX12_hitsIn_63_J35 at h
      refine me_iadd X dX12_hitsIn_35 ?_
      refine me_istore_n X (i := 2) [(2, .int (x2_1 + s1)), (0, .ref (ad 63)), (1, .int p0), (3, .int x3_1)] (Nat.le_of_ble_eq_true rfl) rfl dX12_hitsIn_36 ?_
      refine me_iinc X (v := (x3_1 + 1)) 3 rfl (in_1 _) [(3, .int (x3_1 + 1)), (2, .int (x2_1 + s1)), (0, .ref (ad 63)), (1, .int p0)] (Nat.le_of_ble_eq_true rfl) rfl dX12_hitsIn_37 ?_
      refine me_goto X 4 (by decide) dX12_hitsIn_40 ?_
      obtain rfl := me_so h
      refine me_sub (L' := [(0, .ref (ad 63)), (1, .int p0), (2, .int (x2_1 + s1)), (3, .int (x3_1 + 1))]) [2, 3, 1, 0] rfl ?_
      exact hb1 ((x2_1 + s1), (x3_1 + 1)) rfl
    have hj34_1 : mX12_hitsIn_63_J34 p0 x3_1 x2_1 M  = some z1 → me_W p l e R s m args below meth c 0 0 (MQ below (me_Qc D cA ad n A (some (.int r)) M) args s 0 0 A) D cA ad n 4 A 34 [(0, .ref (ad 63)), (1, .int p0), (3, .int x3_1)] [.int x2_1] M := by
      intro h
      unfold mX12_hitsIn_63_J34 at h
      refine me_iconst X dX12_hitsIn_34 ic_0 ?_
      exact hj35_2 0 h
    refine me_if_eq X 34 (by decide) dX12_hitsIn_18 (fun c2 => ?_) (fun c2 => ?_)
    · have h := me_ip c2 h
      refine me_sub (L' := [(0, .ref (ad 63)), (1, .int p0), (3, .int x3_1)]) [0, 1, 3] rfl ?_
      exact hj34_1  h
    · have h := me_in c2 h
      refine me_aload_n X (i := 0) 0 rfl dX12_hitsIn_21 ?_
      refine me_iload_n X (i := 3) 3 rfl dX12_hitsIn_22 ?_
      obtain ⟨v2, e2, h⟩ := me_bd h
      refine me_callVi X [.int x3_1] (ctX12_documentOf_63 hn (Nat.le_trans (by decide) hnt) e2) kV_X12_242 rfl rfl (Nat.le_of_ble_eq_true rfl) me_k63 (Nat.le_of_ble_eq_true rfl) (Nat.le_refl _) (Nat.le_of_ble_eq_true rfl) dX12_hitsIn_23 ?_
      refine me_iload_n X (i := 1) 1 rfl dX12_hitsIn_26 ?_
      refine me_icmp_ne X 34 (by decide) dX12_hitsIn_27 (fun c3 => ?_) (fun c3 => ?_)
      · have h := me_in c3 h
        refine me_sub (L' := [(0, .ref (ad 63)), (1, .int p0), (3, .int x3_1)]) [0, 1, 3] rfl ?_
        exact hj34_1  h
      · have h := me_ip c3 h
        refine me_iconst X dX12_hitsIn_30 ic_1 ?_
        refine me_goto X 35 (by decide) dX12_hitsIn_31 ?_
        refine me_sub (L' := [(0, .ref (ad 63)), (1, .int p0), (3, .int x3_1)]) [0, 1, 3] rfl ?_
        exact hj35_2 1 h
def mX12_hits_63_J74 (p0 : Int32) (x3_1 : Int32) (x4_1 : Int32) (x5_1 : Int32) (x6_1 : Int32) (x7_2 : Int32) (x2_2 : Int32) (M2 : me_M) (s2 : Int32) : Option ((Int32 × Int32) ⊕ (Int32)) :=
  some (.inl ((x2_2 + s2), (x7_2 + 1)))
def mX12_hits_63_L46 (M2 : me_M) (p0 : Int32) (x3_1 : Int32) (x4_1 : Int32) (x5_1 : Int32) (x6_1 : Int32) : (Int32 × Int32) → Option ((Int32 × Int32) ⊕ (Int32))
  | (x2_2, x7_2) => ((mX12_documents_63 M2).bind fun v3 => (if v3 ≤ x7_2 then some (.inr x2_2) else (if p0 = 0 then ((mX12_hitsIn_63 M2 x7_2).bind fun v4 => (if v4 ≤ 0 then (mX12_hits_63_J74 p0 x3_1 x4_1 x5_1 x6_1 x7_2 x2_2 M2 0) else (mX12_hits_63_J74 p0 x3_1 x4_1 x5_1 x6_1 x7_2 x2_2 M2 1))) else some (.inr x2_2))))
def mX12_hits_63_J173 (p0 : Int32) (y2_1 : Int32) (x7_3 : Int32) (M2 : me_M) (x3_4 : Int32) (x4_4 : Int32) (x5_4 : Int32) (x6_3 : Int32) : Option ((Int32 × Int32 × Int32 × Int32 × Int32) ⊕ (Int32 × Int32 × Int32)) :=
  some (.inl (x3_4, x4_4, x5_4, x6_3, (x7_3 + 1)))
def mX12_hits_63_J169 (p0 : Int32) (y2_1 : Int32) (x7_3 : Int32) (M2 : me_M) (x3_3 : Int32) (x4_3 : Int32) (x5_3 : Int32) : Option ((Int32 × Int32 × Int32 × Int32 × Int32) ⊕ (Int32 × Int32 × Int32)) :=
  (mX12_hits_63_J173 p0 y2_1 x7_3 M2 x3_3 x4_3 x5_3 x7_3)
def mX12_hits_63_J166 (p0 : Int32) (y2_1 : Int32) (s3 : Int32) (v7 : Int32) (x7_3 : Int32) (x5_2 : Int32) (M2 : me_M) (s4 : Int32) : Option ((Int32 × Int32 × Int32 × Int32 × Int32) ⊕ (Int32 × Int32 × Int32)) :=
  (mX12_hits_63_J169 p0 y2_1 x7_3 M2 s3 v7 (x5_2 + s4))
def mX12_hits_63_J134 (p0 : Int32) (y2_1 : Int32) (x4_2 : Int32) (x5_2 : Int32) (x6_2 : Int32) (x7_3 : Int32) (M2 : me_M) (s3 : Int32) : Option ((Int32 × Int32 × Int32 × Int32 × Int32) ⊕ (Int32 × Int32 × Int32)) :=
  ((mX12_more x4_2 (x7_3 - x6_2)).bind fun v7 => ((mX12_letters_63 M2).bind fun v8 => (if (x6_2 + v8) ≤ x7_3 then (mX12_hits_63_J166 p0 y2_1 s3 v7 x7_3 x5_2 M2 0) else (mX12_hits_63_J166 p0 y2_1 s3 v7 x7_3 x5_2 M2 1))))
def mX12_hits_63_L85 (M2 : me_M) (p0 : Int32) (y2_1 : Int32) : (Int32 × Int32 × Int32 × Int32 × Int32) → Option ((Int32 × Int32 × Int32 × Int32 × Int32) ⊕ (Int32 × Int32 × Int32))
  | (x3_2, x4_2, x5_2, x6_2, x7_3) => (if (M2.1 63 5) < x7_3 then some (.inr (x3_2, x4_2, x5_2)) else ((mX12_isHit_63 M2 x7_3).bind fun v5 => (if v5 = 0 then (mX12_hits_63_J173 p0 y2_1 x7_3 M2 x3_2 x4_2 x5_2 x6_2) else (if x6_2 = (-1) then (mX12_hits_63_J169 p0 y2_1 x7_3 M2 x3_2 x4_2 x5_2) else (if x3_2 = (-1) then (mX12_hits_63_J134 p0 y2_1 x4_2 x5_2 x6_2 x7_3 M2 (x7_3 - x6_2)) else ((mX12_less x3_2 (x7_3 - x6_2)).bind fun v6 => (mX12_hits_63_J134 p0 y2_1 x4_2 x5_2 x6_2 x7_3 M2 v6)))))))
def mX12_hits_63_K46 (p0 : Int32) (M2 : me_M) (x2_1 : Int32) (x3_1 : Int32) (x4_1 : Int32) (x5_1 : Int32) (x6_1 : Int32) (x7_1 : Int32) : Option (Int32 × me_M) :=
  ((me_l (mX12_hits_63_L46 M2 p0 x3_1 x4_1 x5_1 x6_1) me_fu (x2_1, x7_1)).bind fun y2_1 => ((me_l (mX12_hits_63_L85 M2 p0 y2_1) me_fu (x3_1, x4_1, x5_1, x6_1, 0)).bind fun (y3_1, y4_1, y5_1) => (if p0 = 0 then some (y2_1, M2) else (if p0 = 1 then some (y3_1, M2) else (if p0 = 2 then some (y4_1, M2) else some (y5_1, M2))))))
def mX12_hits_63_J20 (p0 : Int32) (s1 : Int32) (M1 : me_M) : Option (Int32 × me_M) :=
  ((mX12_bad_63 M1 s1 1 1).bind fun (v2, M2) => (if v2 = 0 then (mX12_hits_63_K46 p0 M2 0 (-1) (-1) 0 (-1) 0) else some (0, M2)))
def mX12_hits_63 (M : me_M) (p0 : Int32) : Option (Int32 × me_M) :=
  ((mX12_in p0 0 3).bind fun v1 => (if v1 = 0 then (mX12_hits_63_J20 p0 1 (me_s M 63 0 0)) else (mX12_hits_63_J20 p0 0 (me_s M 63 0 0))))
set_option maxRecDepth 100000 in
set_option maxHeartbeats 4000000 in
theorem ctX12_hits_63 {l : Launch} {n nt : Nat} (hn : 424 ≤ n) (hnt : 4 ≤ nt) {M : me_M} {p0 : Int32} {r : Int32} {M' : me_M} (h : mX12_hits_63 M p0 = some (r, M')) : me_Ct l yX12_hits cX12_hits 8 (some .int) 3 n nt (fun ad => [.ref (ad 63), .int p0]) M (fun _ => some (.int r)) M' := by
  unfold mX12_hits_63 at h
  refine me_enter (N0 := 424) RX12 rfl (plainFor_of_name pl_RX12) hn (Nat.le_trans (by decide) hnt) (fun _ => Nat.le_of_ble_eq_true rfl) ?_
  intro p e R s m args below meth c D cA ad tys A X hr hlk
  refine me_sub (L' := [(0, .ref (ad 63)), (1, .int p0)]) [0, 1] rfl ?_
  refine me_aload_n X (i := 0) 0 rfl dX12_hits_0 ?_
  refine me_iconst X dX12_hits_1 ic_0 ?_
  refine me_puti X kG_X12_105 (Nat.le_of_ble_eq_true rfl) me_k63 me_f63_0 dX12_hits_2 ?_
  refine me_aload_n X (i := 0) 0 rfl dX12_hits_5 ?_
  refine me_iload_n X (i := 1) 1 rfl dX12_hits_6 ?_
  refine me_iconst X dX12_hits_7 ic_0 ?_
  refine me_iconst X dX12_hits_8 ic_3 ?_
  obtain ⟨v1, e1, h⟩ := me_bd h
  refine me_callSi X [.int p0, .int 0, .int 3] (ctX12_in hn (Nat.le_trans (by decide) hnt) e1) kS_X12_108 rfl rfl (Nat.le_of_ble_eq_true rfl) (Nat.le_refl _) (Nat.le_of_ble_eq_true rfl) dX12_hits_9 ?_
  have hj20_1 : ∀ (s1 : Int32) (M1 : me_M), mX12_hits_63_J20 p0 s1 M1 = some (r, M') → me_W p l e R s m args below meth c 0 0 (MQ below (me_Qc D cA ad n A (some (.int r)) M') args s 0 0 A) D cA ad n 8 A 20 [(0, .ref (ad 63)), (1, .int p0)] [.int s1, .ref (ad 63)] M1 := by
    intro s1 M1 h
    unfold mX12_hits_63_J20 at h
    refine me_iconst X dX12_hits_20 ic_1 ?_
    refine me_iconst X dX12_hits_21 ic_1 ?_
    obtain ⟨⟨v2, M2⟩, e2, h⟩ := me_bd h
    refine me_callVi X [.int s1, .int 1, .int 1] (ctX12_bad_63 hn (Nat.le_trans (by decide) hnt) e2) kV_X12_122 rfl rfl (Nat.le_of_ble_eq_true rfl) me_k63 (Nat.le_of_ble_eq_true rfl) (Nat.le_refl _) (Nat.le_of_ble_eq_true rfl) dX12_hits_22 ?_
    refine me_if_eq X 30 (by decide) dX12_hits_25 (fun c2 => ?_) (fun c2 => ?_)
    · have h := me_ip c2 h
      refine me_iconst X dX12_hits_30 ic_0 ?_
      refine me_istore_n X (i := 2) [(2, .int 0), (0, .ref (ad 63)), (1, .int p0)] (Nat.le_of_ble_eq_true rfl) rfl dX12_hits_31 ?_
      refine me_iconst X dX12_hits_32 ic_m1 ?_
      refine me_istore_n X (i := 3) [(3, .int (-1)), (2, .int 0), (0, .ref (ad 63)), (1, .int p0)] (Nat.le_of_ble_eq_true rfl) rfl dX12_hits_33 ?_
      refine me_iconst X dX12_hits_34 ic_m1 ?_
      refine me_istore X (i := 4) [(4, .int (-1)), (3, .int (-1)), (2, .int 0), (0, .ref (ad 63)), (1, .int p0)] (Nat.le_of_ble_eq_true rfl) rfl dX12_hits_35 ?_
      refine me_iconst X dX12_hits_37 ic_0 ?_
      refine me_istore X (i := 5) [(5, .int 0), (4, .int (-1)), (3, .int (-1)), (2, .int 0), (0, .ref (ad 63)), (1, .int p0)] (Nat.le_of_ble_eq_true rfl) rfl dX12_hits_38 ?_
      refine me_iconst X dX12_hits_40 ic_m1 ?_
      refine me_istore X (i := 6) [(6, .int (-1)), (5, .int 0), (4, .int (-1)), (3, .int (-1)), (2, .int 0), (0, .ref (ad 63)), (1, .int p0)] (Nat.le_of_ble_eq_true rfl) rfl dX12_hits_41 ?_
      refine me_iconst X dX12_hits_43 ic_0 ?_
      refine me_istore X (i := 7) [(7, .int 0), (6, .int (-1)), (5, .int 0), (4, .int (-1)), (3, .int (-1)), (2, .int 0), (0, .ref (ad 63)), (1, .int p0)] (Nat.le_of_ble_eq_true rfl) rfl dX12_hits_44 ?_
      have hk46_0 : ∀ (x2_1 : Int32) (x3_1 : Int32) (x4_1 : Int32) (x5_1 : Int32) (x6_1 : Int32) (x7_1 : Int32), mX12_hits_63_K46 p0 M2 x2_1 x3_1 x4_1 x5_1 x6_1 x7_1 = some (r, M') → me_W p l e R s m args below meth c 0 0 (MQ below (me_Qc D cA ad n A (some (.int r)) M') args s 0 0 A) D cA ad n 8 A 46 [(0, .ref (ad 63)), (1, .int p0), (2, .int x2_1), (3, .int x3_1), (4, .int x4_1), (5, .int x5_1), (6, .int x6_1), (7, .int x7_1)] [] M2 := by
        intro x2_1 x3_1 x4_1 x5_1 x6_1 x7_1 h
        unfold mX12_hits_63_K46 at h
        obtain ⟨y2_1, hq1, h⟩ := me_bd h
        have hx1 : me_W p l e R s m args below meth c 0 0 (MQ below (me_Qc D cA ad n A (some (.int r)) M') args s 0 0 A) D cA ad n 8 A 82 [(0, .ref (ad 63)), (1, .int p0), (2, .int y2_1), (3, .int x3_1), (4, .int x4_1), (5, .int x5_1), (6, .int x6_1)] [] M2 := by
          refine me_iconst X dX12_hits_82 ic_0 ?_
          refine me_istore X (i := 7) [(7, .int 0), (0, .ref (ad 63)), (1, .int p0), (2, .int y2_1), (3, .int x3_1), (4, .int x4_1), (5, .int x5_1), (6, .int x6_1)] (Nat.le_of_ble_eq_true rfl) rfl dX12_hits_83 ?_
          obtain ⟨⟨y3_1, y4_1, y5_1⟩, hq2, h⟩ := me_bd h
          have hx2 : me_W p l e R s m args below meth c 0 0 (MQ below (me_Qc D cA ad n A (some (.int r)) M') args s 0 0 A) D cA ad n 8 A 179 [(1, .int p0), (2, .int y2_1), (3, .int y3_1), (4, .int y4_1), (5, .int y5_1)] [] M2 := by
            refine me_iload_n X (i := 1) 0 rfl dX12_hits_179 ?_
            refine me_if_ne X 187 (by decide) dX12_hits_180 (fun c11 => ?_) (fun c11 => ?_)
            · have h := me_in c11 h
              refine me_iload_n X (i := 1) 0 rfl dX12_hits_187 ?_
              refine me_iconst X dX12_hits_188 ic_1 ?_
              refine me_icmp_ne X 196 (by decide) dX12_hits_189 (fun c12 => ?_) (fun c12 => ?_)
              · have h := me_in c12 h
                refine me_iload_n X (i := 1) 0 rfl dX12_hits_196 ?_
                refine me_iconst X dX12_hits_197 ic_2 ?_
                refine me_icmp_ne X 206 (by decide) dX12_hits_198 (fun c13 => ?_) (fun c13 => ?_)
                · have h := me_in c13 h
                  refine me_iload X (i := 5) 4 rfl dX12_hits_206 ?_
                  obtain ⟨rfl, rfl⟩ := me_sp h
                  exact me_iret X hr hlk dX12_hits_208
                · have h := me_ip c13 h
                  refine me_iload X (i := 4) 3 rfl dX12_hits_201 ?_
                  refine me_goto X 208 (by decide) dX12_hits_203 ?_
                  obtain ⟨rfl, rfl⟩ := me_sp h
                  exact me_iret X hr hlk dX12_hits_208
              · have h := me_ip c12 h
                refine me_iload_n X (i := 3) 2 rfl dX12_hits_192 ?_
                refine me_goto X 208 (by decide) dX12_hits_193 ?_
                obtain ⟨rfl, rfl⟩ := me_sp h
                exact me_iret X hr hlk dX12_hits_208
            · have h := me_ip c11 h
              refine me_iload_n X (i := 2) 1 rfl dX12_hits_183 ?_
              refine me_goto X 208 (by decide) dX12_hits_184 ?_
              obtain ⟨rfl, rfl⟩ := me_sp h
              exact me_iret X hr hlk dX12_hits_208
          refine me_sub (L' := [(0, .ref (ad 63)), (1, .int p0), (2, .int y2_1), (3, .int x3_1), (4, .int x4_1), (5, .int x5_1), (6, .int x6_1), (7, .int 0)]) [1, 2, 3, 4, 5, 6, 7, 0] rfl ?_
          refine me_l_W (b := (mX12_hits_63_L85 M2 p0 y2_1)) (P := fun w => me_W p l e R s m args below meth c 0 0 (MQ below (me_Qc D cA ad n A (some (.int r)) M') args s 0 0 A) D cA ad n 8 A 85 [(0, .ref (ad 63)), (1, .int p0), (2, .int y2_1), (3, .int w.1), (4, .int w.2.1), (5, .int w.2.2.1), (6, .int w.2.2.2.1), (7, .int w.2.2.2.2)] [] M2) (r := (y3_1, y4_1, y5_1)) ?_ me_fu (x3_1, x4_1, x5_1, x6_1, 0) hq2
          rintro ⟨x3_2, x4_2, x5_2, x6_2, x7_3⟩ z2 h hb2 - hr2
          unfold mX12_hits_63_L85 at h
          refine me_iload X (i := 7) 7 rfl dX12_hits_85 ?_
          refine me_aload_n X (i := 0) 0 rfl dX12_hits_87 ?_
          refine me_geti X kF_X12_20 (Nat.le_of_ble_eq_true rfl) me_k63 me_f63_5 dX12_hits_88 ?_
          refine me_icmp_gt X 179 (by decide) dX12_hits_91 (fun c6 => ?_) (fun c6 => ?_)
          · have h := me_ip c6 h
            obtain rfl := me_so h
            have q := hr2 _ rfl
            refine me_sub (L' := [(1, .int p0), (2, .int y2_1), (3, .int x3_2), (4, .int x4_2), (5, .int x5_2)]) [1, 2, 3, 4, 5] rfl ?_
            cases q
            exact hx2
          · have h := me_in c6 h
            refine me_aload_n X (i := 0) 0 rfl dX12_hits_94 ?_
            refine me_iload X (i := 7) 7 rfl dX12_hits_95 ?_
            obtain ⟨v5, e5, h⟩ := me_bd h
            refine me_callVi X [.int x7_3] (ctX12_isHit_63 hn (Nat.le_trans (by decide) hnt) e5) kV_X12_236 rfl rfl (Nat.le_of_ble_eq_true rfl) me_k63 (Nat.le_of_ble_eq_true rfl) (Nat.le_refl _) (Nat.le_of_ble_eq_true rfl) dX12_hits_97 ?_
            have hj173_4 : ∀ (x3_4 : Int32) (x4_4 : Int32) (x5_4 : Int32) (x6_3 : Int32), mX12_hits_63_J173 p0 y2_1 x7_3 M2 x3_4 x4_4 x5_4 x6_3 = some z2 → me_W p l e R s m args below meth c 0 0 (MQ below (me_Qc D cA ad n A (some (.int r)) M') args s 0 0 A) D cA ad n 8 A 173 [(0, .ref (ad 63)), (1, .int p0), (2, .int y2_1), (3, .int x3_4), (4, .int x4_4), (5, .int x5_4), (6, .int x6_3), (7, .int x7_3)] [] M2 := by
              intro x3_4 x4_4 x5_4 x6_3 h
              unfold mX12_hits_63_J173 at h
              refine me_iinc X (v := (x7_3 + 1)) 7 rfl (in_1 _) [(7, .int (x7_3 + 1)), (0, .ref (ad 63)), (1, .int p0), (2, .int y2_1), (3, .int x3_4), (4, .int x4_4), (5, .int x5_4), (6, .int x6_3)] (Nat.le_of_ble_eq_true rfl) rfl dX12_hits_173 ?_
              refine me_goto X 85 (by decide) dX12_hits_176 ?_
              obtain rfl := me_so h
              refine me_sub (L' := [(0, .ref (ad 63)), (1, .int p0), (2, .int y2_1), (3, .int x3_4), (4, .int x4_4), (5, .int x5_4), (6, .int x6_3), (7, .int (x7_3 + 1))]) [1, 2, 3, 4, 5, 6, 7, 0] rfl ?_
              exact hb2 (x3_4, x4_4, x5_4, x6_3, (x7_3 + 1)) rfl
            refine me_if_ne X 106 (by decide) dX12_hits_100 (fun c7 => ?_) (fun c7 => ?_)
            · have h := me_in c7 h
              refine me_iload X (i := 6) 6 rfl dX12_hits_106 ?_
              refine me_iconst X dX12_hits_108 ic_m1 ?_
              have hj169_5 : ∀ (x3_3 : Int32) (x4_3 : Int32) (x5_3 : Int32), mX12_hits_63_J169 p0 y2_1 x7_3 M2 x3_3 x4_3 x5_3 = some z2 → me_W p l e R s m args below meth c 0 0 (MQ below (me_Qc D cA ad n A (some (.int r)) M') args s 0 0 A) D cA ad n 8 A 169 [(0, .ref (ad 63)), (1, .int p0), (2, .int y2_1), (3, .int x3_3), (4, .int x4_3), (5, .int x5_3), (7, .int x7_3)] [] M2 := by
                intro x3_3 x4_3 x5_3 h
                unfold mX12_hits_63_J169 at h
                refine me_iload X (i := 7) 6 rfl dX12_hits_169 ?_
                refine me_istore X (i := 6) [(6, .int x7_3), (0, .ref (ad 63)), (1, .int p0), (2, .int y2_1), (3, .int x3_3), (4, .int x4_3), (5, .int x5_3), (7, .int x7_3)] (Nat.le_of_ble_eq_true rfl) rfl dX12_hits_171 ?_
                refine me_sub (L' := [(0, .ref (ad 63)), (1, .int p0), (2, .int y2_1), (3, .int x3_3), (4, .int x4_3), (5, .int x5_3), (6, .int x7_3), (7, .int x7_3)]) [1, 2, 3, 4, 5, 6, 0, 7] rfl ?_
                exact hj173_4 x3_3 x4_3 x5_3 x7_3 h
              refine me_icmp_eq X 169 (by decide) dX12_hits_109 (fun c8 => ?_) (fun c8 => ?_)
              · have h := me_ip c8 h
                refine me_sub (L' := [(0, .ref (ad 63)), (1, .int p0), (2, .int y2_1), (3, .int x3_2), (4, .int x4_2), (5, .int x5_2), (7, .int x7_3)]) [0, 1, 2, 3, 4, 5, 7] rfl ?_
                exact hj169_5 x3_2 x4_2 x5_2 h
              · have h := me_in c8 h
                refine me_iload_n X (i := 3) 3 rfl dX12_hits_112 ?_
                refine me_iconst X dX12_hits_113 ic_m1 ?_
                have hj134_6 : ∀ (s3 : Int32), mX12_hits_63_J134 p0 y2_1 x4_2 x5_2 x6_2 x7_3 M2 s3 = some z2 → me_W p l e R s m args below meth c 0 0 (MQ below (me_Qc D cA ad n A (some (.int r)) M') args s 0 0 A) D cA ad n 8 A 134 [(0, .ref (ad 63)), (1, .int p0), (2, .int y2_1), (4, .int x4_2), (5, .int x5_2), (6, .int x6_2), (7, .int x7_3)] [.int s3] M2 := by
                  intro s3 h
                  unfold mX12_hits_63_J134 at h
                  refine me_istore_n X (i := 3) [(3, .int s3), (0, .ref (ad 63)), (1, .int p0), (2, .int y2_1), (4, .int x4_2), (5, .int x5_2), (6, .int x6_2), (7, .int x7_3)] (Nat.le_of_ble_eq_true rfl) rfl dX12_hits_134 ?_
                  refine me_iload X (i := 4) 4 rfl dX12_hits_135 ?_
                  refine me_iload X (i := 7) 7 rfl dX12_hits_137 ?_
                  refine me_iload X (i := 6) 6 rfl dX12_hits_139 ?_
                  refine me_isub X dX12_hits_141 ?_
                  obtain ⟨v7, e7, h⟩ := me_bd h
                  refine me_callSi X [.int x4_2, .int (x7_3 - x6_2)] (ctX12_more hn (Nat.le_trans (by decide) hnt) e7) kS_X12_202 rfl rfl (Nat.le_of_ble_eq_true rfl) (Nat.le_refl _) (Nat.le_of_ble_eq_true rfl) dX12_hits_142 ?_
                  refine me_istore X (i := 4) [(4, .int v7), (3, .int s3), (0, .ref (ad 63)), (1, .int p0), (2, .int y2_1), (5, .int x5_2), (6, .int x6_2), (7, .int x7_3)] (Nat.le_of_ble_eq_true rfl) rfl dX12_hits_145 ?_
                  refine me_iload X (i := 5) 5 rfl dX12_hits_147 ?_
                  refine me_iload X (i := 7) 7 rfl dX12_hits_149 ?_
                  refine me_iload X (i := 6) 6 rfl dX12_hits_151 ?_
                  refine me_aload_n X (i := 0) 2 rfl dX12_hits_153 ?_
                  obtain ⟨v8, e8, h⟩ := me_bd h
                  refine me_callVi X [] (ctX12_letters_63 hn (Nat.le_trans (by decide) hnt) e8) kV_X12_183 rfl rfl (Nat.le_of_ble_eq_true rfl) me_k63 (Nat.le_of_ble_eq_true rfl) (Nat.le_refl _) (Nat.le_of_ble_eq_true rfl) dX12_hits_154 ?_
                  refine me_iadd X dX12_hits_157 ?_
                  have hj166_7 : ∀ (s4 : Int32), mX12_hits_63_J166 p0 y2_1 s3 v7 x7_3 x5_2 M2 s4 = some z2 → me_W p l e R s m args below meth c 0 0 (MQ below (me_Qc D cA ad n A (some (.int r)) M') args s 0 0 A) D cA ad n 8 A 166 [(0, .ref (ad 63)), (1, .int p0), (2, .int y2_1), (3, .int s3), (4, .int v7), (7, .int x7_3)] [.int s4, .int x5_2] M2 := by
                    intro s4 h
                    unfold mX12_hits_63_J166 at h
                    refine me_iadd X dX12_hits_166 ?_
                    refine me_istore X (i := 5) [(5, .int (x5_2 + s4)), (0, .ref (ad 63)), (1, .int p0), (2, .int y2_1), (3, .int s3), (4, .int v7), (7, .int x7_3)] (Nat.le_of_ble_eq_true rfl) rfl dX12_hits_167 ?_
                    refine me_sub (L' := [(0, .ref (ad 63)), (1, .int p0), (2, .int y2_1), (3, .int s3), (4, .int v7), (5, .int (x5_2 + s4)), (7, .int x7_3)]) [1, 2, 3, 4, 5, 0, 6] rfl ?_
                    exact hj169_5 s3 v7 (x5_2 + s4) h
                  refine me_icmp_ge X 165 (by decide) dX12_hits_158 (fun c10 => ?_) (fun c10 => ?_)
                  · have h := me_ip c10 h
                    refine me_iconst X dX12_hits_165 ic_0 ?_
                    refine me_sub (L' := [(0, .ref (ad 63)), (1, .int p0), (2, .int y2_1), (3, .int s3), (4, .int v7), (7, .int x7_3)]) [2, 3, 4, 1, 0, 7] rfl ?_
                    exact hj166_7 0 h
                  · have h := me_in c10 h
                    refine me_iconst X dX12_hits_161 ic_1 ?_
                    refine me_goto X 166 (by decide) dX12_hits_162 ?_
                    refine me_sub (L' := [(0, .ref (ad 63)), (1, .int p0), (2, .int y2_1), (3, .int s3), (4, .int v7), (7, .int x7_3)]) [2, 3, 4, 1, 0, 7] rfl ?_
                    exact hj166_7 1 h
                refine me_icmp_ne X 125 (by decide) dX12_hits_114 (fun c9 => ?_) (fun c9 => ?_)
                · have h := me_in c9 h
                  refine me_iload_n X (i := 3) 3 rfl dX12_hits_125 ?_
                  refine me_iload X (i := 7) 7 rfl dX12_hits_126 ?_
                  refine me_iload X (i := 6) 6 rfl dX12_hits_128 ?_
                  refine me_isub X dX12_hits_130 ?_
                  obtain ⟨v6, e6, h⟩ := me_bd h
                  refine me_callSi X [.int x3_2, .int (x7_3 - x6_2)] (ctX12_less hn (Nat.le_trans (by decide) hnt) e6) kS_X12_251 rfl rfl (Nat.le_of_ble_eq_true rfl) (Nat.le_refl _) (Nat.le_of_ble_eq_true rfl) dX12_hits_131 ?_
                  refine me_sub (L' := [(0, .ref (ad 63)), (1, .int p0), (2, .int y2_1), (4, .int x4_2), (5, .int x5_2), (6, .int x6_2), (7, .int x7_3)]) [0, 1, 2, 4, 5, 6, 7] rfl ?_
                  exact hj134_6 v6 h
                · have h := me_ip c9 h
                  refine me_iload X (i := 7) 7 rfl dX12_hits_117 ?_
                  refine me_iload X (i := 6) 6 rfl dX12_hits_119 ?_
                  refine me_isub X dX12_hits_121 ?_
                  refine me_goto X 134 (by decide) dX12_hits_122 ?_
                  refine me_sub (L' := [(0, .ref (ad 63)), (1, .int p0), (2, .int y2_1), (4, .int x4_2), (5, .int x5_2), (6, .int x6_2), (7, .int x7_3)]) [0, 1, 2, 4, 5, 6, 7] rfl ?_
                  exact hj134_6 (x7_3 - x6_2) h
            · have h := me_ip c7 h
              refine me_goto X 173 (by decide) dX12_hits_103 ?_
              exact hj173_4 x3_2 x4_2 x5_2 x6_2 h
        refine me_l_W (b := (mX12_hits_63_L46 M2 p0 x3_1 x4_1 x5_1 x6_1)) (P := fun w => me_W p l e R s m args below meth c 0 0 (MQ below (me_Qc D cA ad n A (some (.int r)) M') args s 0 0 A) D cA ad n 8 A 46 [(0, .ref (ad 63)), (1, .int p0), (2, .int w.1), (3, .int x3_1), (4, .int x4_1), (5, .int x5_1), (6, .int x6_1), (7, .int w.2)] [] M2) (r := y2_1) ?_ me_fu (x2_1, x7_1) hq1
        rintro ⟨x2_2, x7_2⟩ z1 h hb1 - hr1
        unfold mX12_hits_63_L46 at h
        refine me_iload X (i := 7) 7 rfl dX12_hits_46 ?_
        refine me_aload_n X (i := 0) 0 rfl dX12_hits_48 ?_
        obtain ⟨v3, e3, h⟩ := me_bd h
        refine me_callVi X [] (ctX12_documents_63 hn (Nat.le_trans (by decide) hnt) e3) kV_X12_205 rfl rfl (Nat.le_of_ble_eq_true rfl) me_k63 (Nat.le_of_ble_eq_true rfl) (Nat.le_refl _) (Nat.le_of_ble_eq_true rfl) dX12_hits_49 ?_
        refine me_icmp_ge X 82 (by decide) dX12_hits_52 (fun c3 => ?_) (fun c3 => ?_)
        · have h := me_ip c3 h
          obtain rfl := me_so h
          have q := hr1 _ rfl
          refine me_sub (L' := [(0, .ref (ad 63)), (1, .int p0), (2, .int x2_2), (3, .int x3_1), (4, .int x4_1), (5, .int x5_1), (6, .int x6_1)]) [0, 1, 2, 3, 4, 5, 6] rfl ?_
          cases q
          exact hx1
        · have h := me_in c3 h
          refine me_iload_n X (i := 1) 1 rfl dX12_hits_55 ?_
          refine me_if_ne X 82 (by decide) dX12_hits_56 (fun c4 => ?_) (fun c4 => ?_)
          · have h := me_in c4 h
            obtain rfl := me_so h
            have q := hr1 _ rfl
            refine me_sub (L' := [(0, .ref (ad 63)), (1, .int p0), (2, .int x2_2), (3, .int x3_1), (4, .int x4_1), (5, .int x5_1), (6, .int x6_1)]) [0, 1, 2, 3, 4, 5, 6] rfl ?_
            cases q
            exact hx1
          · have h := me_ip c4 h
            refine me_iload_n X (i := 2) 2 rfl dX12_hits_59 ?_
            refine me_aload_n X (i := 0) 0 rfl dX12_hits_60 ?_
            refine me_iload X (i := 7) 7 rfl dX12_hits_61 ?_
            obtain ⟨v4, e4, h⟩ := me_bd h
            refine me_callVi X [.int x7_2] (ctX12_hitsIn_63 hn (Nat.le_trans (by decide) hnt) e4) kV_X12_248 rfl rfl (Nat.le_of_ble_eq_true rfl) me_k63 (Nat.le_of_ble_eq_true rfl) (Nat.le_refl _) (Nat.le_of_ble_eq_true rfl) dX12_hits_63 ?_
            have hj74_3 : ∀ (s2 : Int32), mX12_hits_63_J74 p0 x3_1 x4_1 x5_1 x6_1 x7_2 x2_2 M2 s2 = some z1 → me_W p l e R s m args below meth c 0 0 (MQ below (me_Qc D cA ad n A (some (.int r)) M') args s 0 0 A) D cA ad n 8 A 74 [(0, .ref (ad 63)), (1, .int p0), (3, .int x3_1), (4, .int x4_1), (5, .int x5_1), (6, .int x6_1), (7, .int x7_2)] [.int s2, .int x2_2] M2 := by
              intro s2 h
              unfold mX12_hits_63_J74 at h
              refine me_iadd X dX12_hits_74 ?_
              refine me_istore_n X (i := 2) [(2, .int (x2_2 + s2)), (0, .ref (ad 63)), (1, .int p0), (3, .int x3_1), (4, .int x4_1), (5, .int x5_1), (6, .int x6_1), (7, .int x7_2)] (Nat.le_of_ble_eq_true rfl) rfl dX12_hits_75 ?_
              refine me_iinc X (v := (x7_2 + 1)) 7 rfl (in_1 _) [(7, .int (x7_2 + 1)), (2, .int (x2_2 + s2)), (0, .ref (ad 63)), (1, .int p0), (3, .int x3_1), (4, .int x4_1), (5, .int x5_1), (6, .int x6_1)] (Nat.le_of_ble_eq_true rfl) rfl dX12_hits_76 ?_
              refine me_goto X 46 (by decide) dX12_hits_79 ?_
              obtain rfl := me_so h
              refine me_sub (L' := [(0, .ref (ad 63)), (1, .int p0), (2, .int (x2_2 + s2)), (3, .int x3_1), (4, .int x4_1), (5, .int x5_1), (6, .int x6_1), (7, .int (x7_2 + 1))]) [2, 3, 1, 4, 5, 6, 7, 0] rfl ?_
              exact hb1 ((x2_2 + s2), (x7_2 + 1)) rfl
            refine me_if_le X 73 (by decide) dX12_hits_66 (fun c5 => ?_) (fun c5 => ?_)
            · have h := me_ip c5 h
              refine me_iconst X dX12_hits_73 ic_0 ?_
              refine me_sub (L' := [(0, .ref (ad 63)), (1, .int p0), (3, .int x3_1), (4, .int x4_1), (5, .int x5_1), (6, .int x6_1), (7, .int x7_2)]) [0, 1, 3, 4, 5, 6, 7] rfl ?_
              exact hj74_3 0 h
            · have h := me_in c5 h
              refine me_iconst X dX12_hits_69 ic_1 ?_
              refine me_goto X 74 (by decide) dX12_hits_70 ?_
              refine me_sub (L' := [(0, .ref (ad 63)), (1, .int p0), (3, .int x3_1), (4, .int x4_1), (5, .int x5_1), (6, .int x6_1), (7, .int x7_2)]) [0, 1, 3, 4, 5, 6, 7] rfl ?_
              exact hj74_3 1 h
      refine me_sub (L' := [(0, .ref (ad 63)), (1, .int p0), (2, .int 0), (3, .int (-1)), (4, .int (-1)), (5, .int 0), (6, .int (-1)), (7, .int 0)]) [6, 7, 5, 4, 3, 2, 1, 0] rfl ?_
      exact hk46_0 0 (-1) (-1) 0 (-1) 0 h
    · have h := me_in c2 h
      refine me_iconst X dX12_hits_28 ic_0 ?_
      obtain ⟨rfl, rfl⟩ := me_sp h
      exact me_iret X hr hlk dX12_hits_29
  refine me_if_ne X 19 (by decide) dX12_hits_12 (fun c1 => ?_) (fun c1 => ?_)
  · have h := me_in c1 h
    refine me_iconst X dX12_hits_19 ic_0 ?_
    exact hj20_1 0 (me_s M 63 0 0) h
  · have h := me_ip c1 h
    refine me_iconst X dX12_hits_15 ic_1 ?_
    refine me_goto X 20 (by decide) dX12_hits_16 ?_
    exact hj20_1 1 (me_s M 63 0 0) h
def mX12_areLetters_63_L2 (M : me_M) (p0 : Int32) : (Int32) → Option ((Int32) ⊕ ((Unit) ⊕ Int32))
  | x2_1 => (if p0 ≤ x2_1 then some (.inr (.inl ())) else ((me_r M 65 240 x2_1).bind fun v1 => ((mX12_isLetter v1).bind fun v2 => (if v2 = 0 then some (.inr (.inr 0)) else some (.inl (x2_1 + 1))))))
def mX12_areLetters_63 (M : me_M) (p0 : Int32) : Option Int32 :=
  ((me_l (mX12_areLetters_63_L2 M p0) me_fu 0).bind fun o => Sum.elim (fun _ => some 1) (fun res => some res) o)
set_option maxRecDepth 100000 in
set_option maxHeartbeats 4000000 in
theorem ctX12_areLetters_63 {l : Launch} {n nt : Nat} (hn : 424 ≤ n) (hnt : 4 ≤ nt) {M : me_M} {p0 : Int32} {r : Int32} (h : mX12_areLetters_63 M p0 = some r) : me_Ct l yX12_areLetters cX12_areLetters 3 (some .boolean) 2 n nt (fun ad => [.ref (ad 63), .int p0]) M (fun _ => some (.int r)) M := by
  unfold mX12_areLetters_63 at h
  refine me_enter (N0 := 424) RX12 rfl (plainFor_of_name pl_RX12) hn (Nat.le_trans (by decide) hnt) (fun _ => Nat.le_of_ble_eq_true rfl) ?_
  intro p e R s m args below meth c D cA ad tys A X hr hlk
  refine me_sub (L' := [(0, .ref (ad 63)), (1, .int p0)]) [0, 1] rfl ?_
  refine me_iconst X dX12_areLetters_0 ic_0 ?_
  refine me_istore_n X (i := 2) [(2, .int 0), (0, .ref (ad 63)), (1, .int p0)] (Nat.le_of_ble_eq_true rfl) rfl dX12_areLetters_1 ?_
  obtain ⟨o0, hq1l, hq1⟩ := me_bd h
  have hx1 : o0 = .inl () → me_W p l e R s m args below meth c 0 0 (MQ below (me_Qc D cA ad n A (some (.int r)) M) args s 0 0 A) D cA ad n 3 A 27 [] [] M := by
    intro q
    subst q
    have h := me_el hq1
    refine me_iconst X dX12_areLetters_27 ic_1 ?_
    obtain rfl := me_so h
    exact me_zret X (by decide) hr hlk dX12_areLetters_28
  refine me_sub (L' := [(0, .ref (ad 63)), (1, .int p0), (2, .int 0)]) [1, 2, 0] rfl ?_
  refine me_l_W (b := (mX12_areLetters_63_L2 M p0)) (P := fun w => me_W p l e R s m args below meth c 0 0 (MQ below (me_Qc D cA ad n A (some (.int r)) M) args s 0 0 A) D cA ad n 3 A 2 [(0, .ref (ad 63)), (1, .int p0), (2, .int w)] [] M) (r := o0) ?_ me_fu 0 hq1l
  rintro x2_1 z1 h hb1 - hr1
  unfold mX12_areLetters_63_L2 at h
  refine me_iload_n X (i := 2) 2 rfl dX12_areLetters_2 ?_
  refine me_iload_n X (i := 1) 1 rfl dX12_areLetters_3 ?_
  refine me_icmp_ge X 27 (by decide) dX12_areLetters_4 (fun c1 => ?_) (fun c1 => ?_)
  · have h := me_ip c1 h
    obtain rfl := me_so h
    have q := hr1 _ rfl
    refine me_sub (L' := []) [] rfl ?_
    subst q
    exact hx1 rfl
  · have h := me_in c1 h
    refine me_aload_n X (i := 0) 0 rfl dX12_areLetters_7 ?_
    refine me_getr X 65 kF_X12_17 (Nat.le_of_ble_eq_true rfl) me_k63 me_f63_4 dX12_areLetters_8 ?_
    refine me_iload_n X (i := 2) 2 rfl dX12_areLetters_11 ?_
    obtain ⟨v1, e1, h⟩ := me_bd h
    refine me_iald X (Nat.le_of_ble_eq_true rfl) me_k65 e1 dX12_areLetters_12 ?_
    obtain ⟨v2, e2, h⟩ := me_bd h
    refine me_callSi X [.int v1] (ctX12_isLetter hn (Nat.le_trans (by decide) hnt) e2) kS_X12_118 rfl rfl (Nat.le_of_ble_eq_true rfl) (Nat.le_refl _) (Nat.le_of_ble_eq_true rfl) dX12_areLetters_13 ?_
    refine me_if_ne X 21 (by decide) dX12_areLetters_16 (fun c2 => ?_) (fun c2 => ?_)
    · have h := me_in c2 h
      refine me_iinc X (v := (x2_1 + 1)) 2 rfl (in_1 _) [(2, .int (x2_1 + 1)), (0, .ref (ad 63)), (1, .int p0)] (Nat.le_of_ble_eq_true rfl) rfl dX12_areLetters_21 ?_
      refine me_goto X 2 (by decide) dX12_areLetters_24 ?_
      obtain rfl := me_so h
      refine me_sub (L' := [(0, .ref (ad 63)), (1, .int p0), (2, .int (x2_1 + 1))]) [1, 2, 0] rfl ?_
      exact hb1 (x2_1 + 1) rfl
    · have h := me_ip c2 h
      refine me_iconst X dX12_areLetters_19 ic_0 ?_
      obtain rfl := me_so h
      have q := hr1 _ rfl
      subst q
      have h : some 0 = some r := hq1
      obtain rfl := me_so h
      exact me_zret X (by decide) hr hlk dX12_areLetters_20
def mX12_often_63_L58 (M3 : me_M) (p0 : Int32) (x2_1 : Int32) (x3_1 : Int32) : (Int32) → Option ((Int32) ⊕ (Int32))
  | x4_1 => (if p0 ≤ x4_1 then some (.inr x4_1) else ((me_r M3 67 241 (x3_1 + x4_1)).bind fun v4 => ((mX12_byteOf v4).bind fun v5 => ((me_r M3 65 240 x4_1).bind fun v6 => (if v5 = v6 then some (.inl (x4_1 + 1)) else some (.inr x4_1))))))
def mX12_often_63_J106 (p0 : Int32) (x3_1 : Int32) (x2_1 : Int32) (M3 : me_M) (s2 : Int32) : Option ((Int32 × Int32) ⊕ (Int32)) :=
  some (.inl ((x2_1 + s2), (x3_1 + 1)))
def mX12_often_63_L45 (M3 : me_M) (p0 : Int32) : (Int32 × Int32) → Option ((Int32 × Int32) ⊕ (Int32))
  | (x2_1, x3_1) => (if (M3.1 63 5) < (x3_1 + p0) then some (.inr x2_1) else ((me_l (mX12_often_63_L58 M3 p0 x2_1 x3_1) me_fu 0).bind fun y4_1 => (if y4_1 = p0 then (mX12_often_63_J106 p0 x3_1 x2_1 M3 1) else (mX12_often_63_J106 p0 x3_1 x2_1 M3 0))))
def mX12_often_63_J31 (p0 : Int32) (s1 : Int32) (M2 : me_M) : Option (Int32 × me_M) :=
  ((mX12_bad_63 M2 s1 1 1).bind fun (v3, M3) => (if v3 = 0 then ((me_l (mX12_often_63_L45 M3 p0) me_fu (0, 0)).bind fun y2_1 => some (y2_1, M3)) else some (0, M3)))
def mX12_often_63_J26 (p0 : Int32) (M1 : me_M) : Option (Int32 × me_M) :=
  (mX12_often_63_J31 p0 1 M1)
def mX12_often_63 (M : me_M) (p0 : Int32) : Option (Int32 × me_M) :=
  ((mX12_in p0 1 ((me_s M 63 0 0).1 63 2)).bind fun v1 => (if v1 = 0 then (mX12_often_63_J26 p0 (me_s M 63 0 0)) else ((mX12_areLetters_63 (me_s M 63 0 0) p0).bind fun v2 => (if v2 = 0 then (mX12_often_63_J26 p0 (me_s M 63 0 0)) else (mX12_often_63_J31 p0 0 (me_s M 63 0 0))))))
set_option maxRecDepth 100000 in
set_option maxHeartbeats 4000000 in
theorem ctX12_often_63 {l : Launch} {n nt : Nat} (hn : 424 ≤ n) (hnt : 4 ≤ nt) {M : me_M} {p0 : Int32} {r : Int32} {M' : me_M} (h : mX12_often_63 M p0 = some (r, M')) : me_Ct l yX12_often cX12_often 5 (some .int) 3 n nt (fun ad => [.ref (ad 63), .int p0]) M (fun _ => some (.int r)) M' := by
  unfold mX12_often_63 at h
  refine me_enter (N0 := 424) RX12 rfl (plainFor_of_name pl_RX12) hn (Nat.le_trans (by decide) hnt) (fun _ => Nat.le_of_ble_eq_true rfl) ?_
  intro p e R s m args below meth c D cA ad tys A X hr hlk
  refine me_sub (L' := [(0, .ref (ad 63)), (1, .int p0)]) [0, 1] rfl ?_
  refine me_aload_n X (i := 0) 0 rfl dX12_often_0 ?_
  refine me_iconst X dX12_often_1 ic_0 ?_
  refine me_puti X kG_X12_105 (Nat.le_of_ble_eq_true rfl) me_k63 me_f63_0 dX12_often_2 ?_
  refine me_aload_n X (i := 0) 0 rfl dX12_often_5 ?_
  refine me_iload_n X (i := 1) 1 rfl dX12_often_6 ?_
  refine me_iconst X dX12_often_7 ic_1 ?_
  refine me_aload_n X (i := 0) 0 rfl dX12_often_8 ?_
  refine me_geti X kF_X12_115 (Nat.le_of_ble_eq_true rfl) me_k63 me_f63_2 dX12_often_9 ?_
  obtain ⟨v1, e1, h⟩ := me_bd h
  refine me_callSi X [.int p0, .int 1, .int ((me_s M 63 0 0).1 63 2)] (ctX12_in hn (Nat.le_trans (by decide) hnt) e1) kS_X12_108 rfl rfl (Nat.le_of_ble_eq_true rfl) (Nat.le_refl _) (Nat.le_of_ble_eq_true rfl) dX12_often_12 ?_
  have hj31_2 : ∀ (s1 : Int32) (M2 : me_M), mX12_often_63_J31 p0 s1 M2 = some (r, M') → me_W p l e R s m args below meth c 0 0 (MQ below (me_Qc D cA ad n A (some (.int r)) M') args s 0 0 A) D cA ad n 5 A 31 [(0, .ref (ad 63)), (1, .int p0)] [.int s1, .ref (ad 63)] M2 := by
    intro s1 M2 h
    unfold mX12_often_63_J31 at h
    refine me_iconst X dX12_often_31 ic_1 ?_
    refine me_iconst X dX12_often_32 ic_1 ?_
    obtain ⟨⟨v3, M3⟩, e3, h⟩ := me_bd h
    refine me_callVi X [.int s1, .int 1, .int 1] (ctX12_bad_63 hn (Nat.le_trans (by decide) hnt) e3) kV_X12_122 rfl rfl (Nat.le_of_ble_eq_true rfl) me_k63 (Nat.le_of_ble_eq_true rfl) (Nat.le_refl _) (Nat.le_of_ble_eq_true rfl) dX12_often_33 ?_
    refine me_if_eq X 41 (by decide) dX12_often_36 (fun c3 => ?_) (fun c3 => ?_)
    · have h := me_ip c3 h
      refine me_iconst X dX12_often_41 ic_0 ?_
      refine me_istore_n X (i := 2) [(2, .int 0), (0, .ref (ad 63)), (1, .int p0)] (Nat.le_of_ble_eq_true rfl) rfl dX12_often_42 ?_
      refine me_iconst X dX12_often_43 ic_0 ?_
      refine me_istore_n X (i := 3) [(3, .int 0), (2, .int 0), (0, .ref (ad 63)), (1, .int p0)] (Nat.le_of_ble_eq_true rfl) rfl dX12_often_44 ?_
      obtain ⟨y2_1, hq1, h⟩ := me_bd h
      have hx2 : me_W p l e R s m args below meth c 0 0 (MQ below (me_Qc D cA ad n A (some (.int r)) M') args s 0 0 A) D cA ad n 5 A 114 [(2, .int y2_1)] [] M3 := by
        refine me_iload_n X (i := 2) 0 rfl dX12_often_114 ?_
        obtain ⟨rfl, rfl⟩ := me_sp h
        exact me_iret X hr hlk dX12_often_115
      refine me_sub (L' := [(0, .ref (ad 63)), (1, .int p0), (2, .int 0), (3, .int 0)]) [2, 3, 1, 0] rfl ?_
      refine me_l_W (b := (mX12_often_63_L45 M3 p0)) (P := fun w => me_W p l e R s m args below meth c 0 0 (MQ below (me_Qc D cA ad n A (some (.int r)) M') args s 0 0 A) D cA ad n 5 A 45 [(0, .ref (ad 63)), (1, .int p0), (2, .int w.1), (3, .int w.2)] [] M3) (r := y2_1) ?_ me_fu (0, 0) hq1
      rintro ⟨x2_1, x3_1⟩ z1 h hb1 - hr1
      unfold mX12_often_63_L45 at h
      refine me_iload_n X (i := 3) 3 rfl dX12_often_45 ?_
      refine me_iload_n X (i := 1) 1 rfl dX12_often_46 ?_
      refine me_iadd X dX12_often_47 ?_
      refine me_aload_n X (i := 0) 0 rfl dX12_often_48 ?_
      refine me_geti X kF_X12_20 (Nat.le_of_ble_eq_true rfl) me_k63 me_f63_5 dX12_often_49 ?_
      refine me_icmp_gt X 114 (by decide) dX12_often_52 (fun c4 => ?_) (fun c4 => ?_)
      · have h := me_ip c4 h
        obtain rfl := me_so h
        have q := hr1 _ rfl
        refine me_sub (L' := [(2, .int x2_1)]) [2] rfl ?_
        cases q
        exact hx2
      · have h := me_in c4 h
        refine me_iconst X dX12_often_55 ic_0 ?_
        refine me_istore X (i := 4) [(4, .int 0), (0, .ref (ad 63)), (1, .int p0), (2, .int x2_1), (3, .int x3_1)] (Nat.le_of_ble_eq_true rfl) rfl dX12_often_56 ?_
        obtain ⟨y4_1, hq2, h⟩ := me_bd h
        have hx1 : me_W p l e R s m args below meth c 0 0 (MQ below (me_Qc D cA ad n A (some (.int r)) M') args s 0 0 A) D cA ad n 5 A 94 [(0, .ref (ad 63)), (1, .int p0), (2, .int x2_1), (3, .int x3_1), (4, .int y4_1)] [] M3 := by
          refine me_iload_n X (i := 2) 2 rfl dX12_often_94 ?_
          refine me_iload X (i := 4) 4 rfl dX12_often_95 ?_
          refine me_iload_n X (i := 1) 1 rfl dX12_often_97 ?_
          have hj106_4 : ∀ (s2 : Int32), mX12_often_63_J106 p0 x3_1 x2_1 M3 s2 = some z1 → me_W p l e R s m args below meth c 0 0 (MQ below (me_Qc D cA ad n A (some (.int r)) M') args s 0 0 A) D cA ad n 5 A 106 [(0, .ref (ad 63)), (1, .int p0), (3, .int x3_1)] [.int s2, .int x2_1] M3 := by
            intro s2 h
            unfold mX12_often_63_J106 at h
            refine me_iadd X dX12_often_106 ?_
            refine me_istore_n X (i := 2) [(2, .int (x2_1 + s2)), (0, .ref (ad 63)), (1, .int p0), (3, .int x3_1)] (Nat.le_of_ble_eq_true rfl) rfl dX12_often_107 ?_
            refine me_iinc X (v := (x3_1 + 1)) 3 rfl (in_1 _) [(3, .int (x3_1 + 1)), (2, .int (x2_1 + s2)), (0, .ref (ad 63)), (1, .int p0)] (Nat.le_of_ble_eq_true rfl) rfl dX12_often_108 ?_
            refine me_goto X 45 (by decide) dX12_often_111 ?_
            obtain rfl := me_so h
            refine me_sub (L' := [(0, .ref (ad 63)), (1, .int p0), (2, .int (x2_1 + s2)), (3, .int (x3_1 + 1))]) [2, 3, 1, 0] rfl ?_
            exact hb1 ((x2_1 + s2), (x3_1 + 1)) rfl
          refine me_icmp_ne X 105 (by decide) dX12_often_98 (fun c7 => ?_) (fun c7 => ?_)
          · have h := me_in c7 h
            refine me_iconst X dX12_often_105 ic_0 ?_
            refine me_sub (L' := [(0, .ref (ad 63)), (1, .int p0), (3, .int x3_1)]) [0, 1, 3] rfl ?_
            exact hj106_4 0 h
          · have h := me_ip c7 h
            refine me_iconst X dX12_often_101 ic_1 ?_
            refine me_goto X 106 (by decide) dX12_often_102 ?_
            refine me_sub (L' := [(0, .ref (ad 63)), (1, .int p0), (3, .int x3_1)]) [0, 1, 3] rfl ?_
            exact hj106_4 1 h
        refine me_sub (L' := [(0, .ref (ad 63)), (1, .int p0), (2, .int x2_1), (3, .int x3_1), (4, .int 0)]) [1, 2, 3, 4, 0] rfl ?_
        refine me_l_W (b := (mX12_often_63_L58 M3 p0 x2_1 x3_1)) (P := fun w => me_W p l e R s m args below meth c 0 0 (MQ below (me_Qc D cA ad n A (some (.int r)) M') args s 0 0 A) D cA ad n 5 A 58 [(0, .ref (ad 63)), (1, .int p0), (2, .int x2_1), (3, .int x3_1), (4, .int w)] [] M3) (r := y4_1) ?_ me_fu 0 hq2
        rintro x4_1 z2 h hb2 - hr2
        unfold mX12_often_63_L58 at h
        refine me_iload X (i := 4) 4 rfl dX12_often_58 ?_
        refine me_iload_n X (i := 1) 1 rfl dX12_often_60 ?_
        refine me_icmp_ge X 94 (by decide) dX12_often_61 (fun c5 => ?_) (fun c5 => ?_)
        · have h := me_ip c5 h
          obtain rfl := me_so h
          have q := hr2 _ rfl
          cases q
          exact hx1
        · have h := me_in c5 h
          refine me_aload_n X (i := 0) 0 rfl dX12_often_64 ?_
          refine me_getr X 66 kF_X12_28 (Nat.le_of_ble_eq_true rfl) me_k63 me_f63_7 dX12_often_65 ?_
          refine me_iconst X dX12_often_68 ic_0 ?_
          refine me_aald X (j := 67) (Nat.le_of_ble_eq_true rfl) ⟨by decide, by decide, Nat.lt_of_lt_of_le (by decide) hnt⟩ me_k66 (by decide) dX12_often_69 ?_
          refine me_iload_n X (i := 3) 3 rfl dX12_often_70 ?_
          refine me_iload X (i := 4) 4 rfl dX12_often_71 ?_
          refine me_iadd X dX12_often_73 ?_
          obtain ⟨v4, e4, h⟩ := me_bd h
          refine me_iald X (Nat.le_of_ble_eq_true rfl) me_k67 e4 dX12_often_74 ?_
          obtain ⟨v5, e5, h⟩ := me_bd h
          refine me_callSi X [.int v4] (ctX12_byteOf hn (Nat.le_trans (by decide) hnt) e5) kS_X12_223 rfl rfl (Nat.le_of_ble_eq_true rfl) (Nat.le_refl _) (Nat.le_of_ble_eq_true rfl) dX12_often_75 ?_
          refine me_aload_n X (i := 0) 0 rfl dX12_often_78 ?_
          refine me_getr X 65 kF_X12_17 (Nat.le_of_ble_eq_true rfl) me_k63 me_f63_4 dX12_often_79 ?_
          refine me_iload X (i := 4) 4 rfl dX12_often_82 ?_
          obtain ⟨v6, e6, h⟩ := me_bd h
          refine me_iald X (Nat.le_of_ble_eq_true rfl) me_k65 e6 dX12_often_84 ?_
          refine me_icmp_ne X 94 (by decide) dX12_often_85 (fun c6 => ?_) (fun c6 => ?_)
          · have h := me_in c6 h
            obtain rfl := me_so h
            have q := hr2 _ rfl
            cases q
            exact hx1
          · have h := me_ip c6 h
            refine me_iinc X (v := (x4_1 + 1)) 4 rfl (in_1 _) [(4, .int (x4_1 + 1)), (0, .ref (ad 63)), (1, .int p0), (2, .int x2_1), (3, .int x3_1)] (Nat.le_of_ble_eq_true rfl) rfl dX12_often_88 ?_
            refine me_goto X 58 (by decide) dX12_often_91 ?_
            obtain rfl := me_so h
            refine me_sub (L' := [(0, .ref (ad 63)), (1, .int p0), (2, .int x2_1), (3, .int x3_1), (4, .int (x4_1 + 1))]) [1, 2, 3, 4, 0] rfl ?_
            exact hb2 (x4_1 + 1) rfl
    · have h := me_in c3 h
      refine me_iconst X dX12_often_39 ic_0 ?_
      obtain ⟨rfl, rfl⟩ := me_sp h
      exact me_iret X hr hlk dX12_often_40
  have hj26_1 : ∀ (M1 : me_M), mX12_often_63_J26 p0 M1 = some (r, M') → me_W p l e R s m args below meth c 0 0 (MQ below (me_Qc D cA ad n A (some (.int r)) M') args s 0 0 A) D cA ad n 5 A 26 [(0, .ref (ad 63)), (1, .int p0)] [.ref (ad 63)] M1 := by
    intro M1 h
    unfold mX12_often_63_J26 at h
    refine me_iconst X dX12_often_26 ic_1 ?_
    refine me_goto X 31 (by decide) dX12_often_27 ?_
    exact hj31_2 1 M1 h
  refine me_if_eq X 26 (by decide) dX12_often_15 (fun c1 => ?_) (fun c1 => ?_)
  · have h := me_ip c1 h
    exact hj26_1 (me_s M 63 0 0) h
  · have h := me_in c1 h
    refine me_aload_n X (i := 0) 0 rfl dX12_often_18 ?_
    refine me_iload_n X (i := 1) 1 rfl dX12_often_19 ?_
    obtain ⟨v2, e2, h⟩ := me_bd h
    refine me_callVi X [.int p0] (ctX12_areLetters_63 hn (Nat.le_trans (by decide) hnt) e2) kV_X12_254 rfl rfl (Nat.le_of_ble_eq_true rfl) me_k63 (Nat.le_of_ble_eq_true rfl) (Nat.le_refl _) (Nat.le_of_ble_eq_true rfl) dX12_often_20 ?_
    refine me_if_ne X 30 (by decide) dX12_often_23 (fun c2 => ?_) (fun c2 => ?_)
    · have h := me_in c2 h
      refine me_iconst X dX12_often_30 ic_0 ?_
      exact hj31_2 0 (me_s M 63 0 0) h
    · have h := me_ip c2 h
      exact hj26_1 (me_s M 63 0 0) h
def mX12_covers_63_L4 (M : me_M) (p0 : Int32) : (Int32 × Int32) → Option ((Int32 × Int32) ⊕ ((Unit) ⊕ Int32))
  | (x2_1, x3_1) => ((me_r M 78 2 0).bind fun v1 => (if v1 ≤ x3_1 then some (.inr (.inl ())) else ((me_a 8 93 p0).bind fun a1 => ((me_a 3 (109 + 3 * (a1 - 93)) 0).bind fun a2 => ((me_r M a2 5 x3_1).bind fun v2 => ((me_r M 82 5 v2).bind fun v3 => ((me_a 8 93 p0).bind fun a3 => ((me_a 3 (109 + 3 * (a3 - 93)) 1).bind fun a4 => ((me_r M a4 5 x3_1).bind fun v4 => ((me_a 8 93 p0).bind fun a5 => ((me_a 3 (109 + 3 * (a5 - 93)) 2).bind fun a6 => ((me_r M a6 5 x3_1).bind fun v5 => ((mX12_in (x2_1 + v3) v4 v5).bind fun v6 => (if v6 = 0 then some (.inr (.inr 0)) else some (.inl ((x2_1 + v3), (x3_1 + 1)))))))))))))))))
def mX12_covers_63 (M : me_M) (p0 : Int32) : Option Int32 :=
  ((me_l (mX12_covers_63_L4 M p0) me_fu (0, 0)).bind fun o => Sum.elim (fun _ => some 1) (fun res => some res) o)
set_option maxRecDepth 100000 in
set_option maxHeartbeats 4000000 in
theorem ctX12_covers_63 {l : Launch} {n nt : Nat} (hn : 424 ≤ n) (hnt : 4 ≤ nt) {M : me_M} {p0 : Int32} {r : Int32} (h : mX12_covers_63 M p0 = some r) : me_Ct l yX12_covers cX12_covers 4 (some .boolean) 1 n nt (fun ad => [.ref (ad 63), .int p0]) M (fun _ => some (.int r)) M := by
  unfold mX12_covers_63 at h
  refine me_enter (N0 := 424) RX12 rfl (plainFor_of_name pl_RX12) hn (Nat.le_trans (by decide) hnt) (fun _ => Nat.le_of_ble_eq_true rfl) ?_
  intro p e R s m args below meth c D cA ad tys A X hr hlk
  refine me_sub (L' := [(0, .ref (ad 63)), (1, .int p0)]) [0, 1] rfl ?_
  refine me_iconst X dX12_covers_0 ic_0 ?_
  refine me_istore_n X (i := 2) [(2, .int 0), (0, .ref (ad 63)), (1, .int p0)] (Nat.le_of_ble_eq_true rfl) rfl dX12_covers_1 ?_
  refine me_iconst X dX12_covers_2 ic_0 ?_
  refine me_istore_n X (i := 3) [(3, .int 0), (2, .int 0), (0, .ref (ad 63)), (1, .int p0)] (Nat.le_of_ble_eq_true rfl) rfl dX12_covers_3 ?_
  obtain ⟨o0, hq1l, hq1⟩ := me_bd h
  have hx1 : o0 = .inl () → me_W p l e R s m args below meth c 0 0 (MQ below (me_Qc D cA ad n A (some (.int r)) M) args s 0 0 A) D cA ad n 4 A 73 [] [] M := by
    intro q
    subst q
    have h := me_el hq1
    refine me_iconst X dX12_covers_73 ic_1 ?_
    obtain rfl := me_so h
    exact me_zret X (by decide) hr hlk dX12_covers_74
  refine me_sub (L' := [(0, .ref (ad 63)), (1, .int p0), (2, .int 0), (3, .int 0)]) [2, 3, 1, 0] rfl ?_
  refine me_l_W (b := (mX12_covers_63_L4 M p0)) (P := fun w => me_W p l e R s m args below meth c 0 0 (MQ below (me_Qc D cA ad n A (some (.int r)) M) args s 0 0 A) D cA ad n 4 A 4 [(0, .ref (ad 63)), (1, .int p0), (2, .int w.1), (3, .int w.2)] [] M) (r := o0) ?_ me_fu (0, 0) hq1l
  rintro ⟨x2_1, x3_1⟩ z1 h hb1 - hr1
  unfold mX12_covers_63_L4 at h
  refine me_iload_n X (i := 3) 3 rfl dX12_covers_4 ?_
  refine me_aload_n X (i := 0) 0 rfl dX12_covers_5 ?_
  refine me_getr X 78 kF_X12_52 (Nat.le_of_ble_eq_true rfl) me_k63 me_f63_15 dX12_covers_6 ?_
  refine me_iconst X dX12_covers_9 ic_0 ?_
  obtain ⟨v1, e1, h⟩ := me_bd h
  refine me_iald X (Nat.le_of_ble_eq_true rfl) me_k78 e1 dX12_covers_10 ?_
  refine me_icmp_ge X 73 (by decide) dX12_covers_11 (fun c1 => ?_) (fun c1 => ?_)
  · have h := me_ip c1 h
    obtain rfl := me_so h
    have q := hr1 _ rfl
    refine me_sub (L' := []) [] rfl ?_
    subst q
    exact hx1 rfl
  · have h := me_in c1 h
    refine me_iload_n X (i := 2) 2 rfl dX12_covers_14 ?_
    refine me_aload_n X (i := 0) 0 rfl dX12_covers_15 ?_
    refine me_getr X 82 kF_X12_69 (Nat.le_of_ble_eq_true rfl) me_k63 me_f63_28 dX12_covers_16 ?_
    refine me_aload_n X (i := 0) 0 rfl dX12_covers_19 ?_
    refine me_getr X 90 kF_X12_57 (Nat.le_of_ble_eq_true rfl) me_k63 me_f63_16 dX12_covers_20 ?_
    refine me_iconst X dX12_covers_23 ic_0 ?_
    refine me_aald X (j := 91) (Nat.le_of_ble_eq_true rfl) ⟨by decide, by decide, Nat.lt_of_lt_of_le (by decide) hnt⟩ me_k90 (by decide) dX12_covers_24 ?_
    refine me_iload_n X (i := 1) 1 rfl dX12_covers_25 ?_
    obtain ⟨a1, e2, h⟩ := me_bd h
    have f_a1 := me_f93 e2
    refine me_aald X (Nat.le_of_ble_eq_true rfl) ⟨by decide, by decide, Nat.lt_of_lt_of_le (by decide) hnt⟩ me_k91 e2 dX12_covers_26 ?_
    refine me_iconst X dX12_covers_27 ic_0 ?_
    obtain ⟨a2, e3, h⟩ := me_bd h
    have f_a2 := me_fdig f_a1 e3
    refine me_aald X f_a1.2.1 ⟨by decide, by decide, Nat.lt_of_lt_of_le (by decide) hnt⟩ f_a1.1 e3 dX12_covers_28 ?_
    refine me_iload_n X (i := 3) 3 rfl dX12_covers_29 ?_
    obtain ⟨v2, e4, h⟩ := me_bd h
    refine me_iald X f_a2.2 f_a2.1 e4 dX12_covers_30 ?_
    obtain ⟨v3, e5, h⟩ := me_bd h
    refine me_iald X (Nat.le_of_ble_eq_true rfl) me_k82 e5 dX12_covers_31 ?_
    refine me_iadd X dX12_covers_32 ?_
    refine me_istore_n X (i := 2) [(2, .int (x2_1 + v3)), (0, .ref (ad 63)), (1, .int p0), (3, .int x3_1)] (Nat.le_of_ble_eq_true rfl) rfl dX12_covers_33 ?_
    refine me_iload_n X (i := 2) 0 rfl dX12_covers_34 ?_
    refine me_aload_n X (i := 0) 1 rfl dX12_covers_35 ?_
    refine me_getr X 90 kF_X12_57 (Nat.le_of_ble_eq_true rfl) me_k63 me_f63_16 dX12_covers_36 ?_
    refine me_iconst X dX12_covers_39 ic_0 ?_
    refine me_aald X (j := 91) (Nat.le_of_ble_eq_true rfl) ⟨by decide, by decide, Nat.lt_of_lt_of_le (by decide) hnt⟩ me_k90 (by decide) dX12_covers_40 ?_
    refine me_iload_n X (i := 1) 2 rfl dX12_covers_41 ?_
    obtain ⟨a3, e6, h⟩ := me_bd h
    have f_a3 := me_f93 e6
    refine me_aald X (Nat.le_of_ble_eq_true rfl) ⟨by decide, by decide, Nat.lt_of_lt_of_le (by decide) hnt⟩ me_k91 e6 dX12_covers_42 ?_
    refine me_iconst X dX12_covers_43 ic_1 ?_
    obtain ⟨a4, e7, h⟩ := me_bd h
    have f_a4 := me_fdig f_a3 e7
    refine me_aald X f_a3.2.1 ⟨by decide, by decide, Nat.lt_of_lt_of_le (by decide) hnt⟩ f_a3.1 e7 dX12_covers_44 ?_
    refine me_iload_n X (i := 3) 3 rfl dX12_covers_45 ?_
    obtain ⟨v4, e8, h⟩ := me_bd h
    refine me_iald X f_a4.2 f_a4.1 e8 dX12_covers_46 ?_
    refine me_aload_n X (i := 0) 1 rfl dX12_covers_47 ?_
    refine me_getr X 90 kF_X12_57 (Nat.le_of_ble_eq_true rfl) me_k63 me_f63_16 dX12_covers_48 ?_
    refine me_iconst X dX12_covers_51 ic_0 ?_
    refine me_aald X (j := 91) (Nat.le_of_ble_eq_true rfl) ⟨by decide, by decide, Nat.lt_of_lt_of_le (by decide) hnt⟩ me_k90 (by decide) dX12_covers_52 ?_
    refine me_iload_n X (i := 1) 2 rfl dX12_covers_53 ?_
    obtain ⟨a5, e9, h⟩ := me_bd h
    have f_a5 := me_f93 e9
    refine me_aald X (Nat.le_of_ble_eq_true rfl) ⟨by decide, by decide, Nat.lt_of_lt_of_le (by decide) hnt⟩ me_k91 e9 dX12_covers_54 ?_
    refine me_iconst X dX12_covers_55 ic_2 ?_
    obtain ⟨a6, e10, h⟩ := me_bd h
    have f_a6 := me_fdig f_a5 e10
    refine me_aald X f_a5.2.1 ⟨by decide, by decide, Nat.lt_of_lt_of_le (by decide) hnt⟩ f_a5.1 e10 dX12_covers_56 ?_
    refine me_iload_n X (i := 3) 3 rfl dX12_covers_57 ?_
    obtain ⟨v5, e11, h⟩ := me_bd h
    refine me_iald X f_a6.2 f_a6.1 e11 dX12_covers_58 ?_
    obtain ⟨v6, e12, h⟩ := me_bd h
    refine me_callSi X [.int (x2_1 + v3), .int v4, .int v5] (ctX12_in hn (Nat.le_trans (by decide) hnt) e12) kS_X12_108 rfl rfl (Nat.le_of_ble_eq_true rfl) (Nat.le_refl _) (Nat.le_of_ble_eq_true rfl) dX12_covers_59 ?_
    refine me_if_ne X 67 (by decide) dX12_covers_62 (fun c2 => ?_) (fun c2 => ?_)
    · have h := me_in c2 h
      refine me_iinc X (v := (x3_1 + 1)) 3 rfl (in_1 _) [(3, .int (x3_1 + 1)), (2, .int (x2_1 + v3)), (0, .ref (ad 63)), (1, .int p0)] (Nat.le_of_ble_eq_true rfl) rfl dX12_covers_67 ?_
      refine me_goto X 4 (by decide) dX12_covers_70 ?_
      obtain rfl := me_so h
      refine me_sub (L' := [(0, .ref (ad 63)), (1, .int p0), (2, .int (x2_1 + v3)), (3, .int (x3_1 + 1))]) [2, 3, 1, 0] rfl ?_
      exact hb1 ((x2_1 + v3), (x3_1 + 1)) rfl
    · have h := me_ip c2 h
      refine me_iconst X dX12_covers_65 ic_0 ?_
      obtain rfl := me_so h
      have q := hr1 _ rfl
      subst q
      have h : some 0 = some r := hq1
      obtain rfl := me_so h
      exact me_zret X (by decide) hr hlk dX12_covers_66
def mX12_sharesBy_63_L13 (M : me_M) (p0 : Int32) (v1 : Int32) (x4_1 : Int32) : (Int32 × Int32) → Option ((Int32 × Int32) ⊕ (Int32))
  | (x3_2, x5_2) => ((me_r M 78 2 0).bind fun v2 => (if v2 ≤ x5_2 then some (.inr x3_2) else some (.inl ((x3_2 * (v1 + 1)), (x5_2 + 1)))))
def mX12_sharesBy_63_L58 (p0 : Int32) (v1 : Int32) (y3_1 : Int32) (x4_2 : Int32) (x5_3 : Int32) (x8_1 : Int32) : (Int32 × Int32 × Int32 × me_M) → Option ((Int32 × Int32 × Int32 × me_M) ⊕ (Int32 × me_M))
  | (x6_2, x7_1, x9_2, M2) => ((me_r M2 78 2 0).bind fun v3 => (if v3 ≤ x9_2 then some (.inr (x6_2, M2)) else ((me_md x7_1 (v1 + 1)).bind fun v4 => ((me_t M2 82 5 x9_2 v4).bind fun M3 => ((me_r M3 82 5 x9_2).bind fun v5 => ((me_dv x7_1 (v1 + 1)).bind fun v6 => some (.inl ((x6_2 + v5), v6, (x9_2 + 1), M3))))))))
def mX12_sharesBy_63_J200 (p0 : Int32) (v1 : Int32) (y3_1 : Int32) (x5_3 : Int32) (M4 : me_M) (x4_3 : Int32) : Option ((Int32 × Int32 × me_M) ⊕ (Int32 × me_M)) :=
  some (.inl (x4_3, (x5_3 + 1), M4))
def mX12_sharesBy_63_J156 (p0 : Int32) (v1 : Int32) (y3_1 : Int32) (x4_2 : Int32) (x5_3 : Int32) (x9_3 : Int32) (x8_2 : Int32) (M4 : me_M) (s1 : Int32) : Option ((Int32 × Int32) ⊕ (Int32)) :=
  some (.inl ((x8_2 + s1), (x9_3 + 1)))
def mX12_sharesBy_63_J155 (p0 : Int32) (v1 : Int32) (y3_1 : Int32) (x4_2 : Int32) (x5_3 : Int32) (x9_3 : Int32) (x8_2 : Int32) (M4 : me_M)  : Option ((Int32 × Int32) ⊕ (Int32)) :=
  (mX12_sharesBy_63_J156 p0 v1 y3_1 x4_2 x5_3 x9_3 x8_2 M4 0)
def mX12_sharesBy_63_L120 (M4 : me_M) (p0 : Int32) (v1 : Int32) (y3_1 : Int32) (x4_2 : Int32) (x5_3 : Int32) : (Int32 × Int32) → Option ((Int32 × Int32) ⊕ (Int32))
  | (x8_2, x9_3) => ((me_r M4 77 2 0).bind fun v7 => (if v7 ≤ x9_3 then some (.inr x8_2) else (if x9_3 = (M4.1 63 29) then (mX12_sharesBy_63_J155 p0 v1 y3_1 x4_2 x5_3 x9_3 x8_2 M4 ) else ((mX12_covers_63 M4 x9_3).bind fun v8 => (if v8 = 0 then (mX12_sharesBy_63_J155 p0 v1 y3_1 x4_2 x5_3 x9_3 x8_2 M4 ) else (mX12_sharesBy_63_J156 p0 v1 y3_1 x4_2 x5_3 x9_3 x8_2 M4 1))))))
def mX12_sharesBy_63_J197 (p0 : Int32) (v1 : Int32) (y3_1 : Int32) (x5_3 : Int32) (x4_2 : Int32) (M4 : me_M) (s2 : Int32) : Option ((Int32 × Int32 × me_M) ⊕ (Int32 × me_M)) :=
  (mX12_sharesBy_63_J200 p0 v1 y3_1 x5_3 M4 (x4_2 + s2))
def mX12_sharesBy_63_J192 (p0 : Int32) (v1 : Int32) (y3_1 : Int32) (x5_3 : Int32) (x4_2 : Int32) (M4 : me_M)  : Option ((Int32 × Int32 × me_M) ⊕ (Int32 × me_M)) :=
  (mX12_sharesBy_63_J197 p0 v1 y3_1 x5_3 x4_2 M4 1)
def mX12_sharesBy_63_J196 (p0 : Int32) (v1 : Int32) (y3_1 : Int32) (x5_3 : Int32) (x4_2 : Int32) (M4 : me_M)  : Option ((Int32 × Int32 × me_M) ⊕ (Int32 × me_M)) :=
  (mX12_sharesBy_63_J197 p0 v1 y3_1 x5_3 x4_2 M4 0)
def mX12_sharesBy_63_J181 (p0 : Int32) (v1 : Int32) (y3_1 : Int32) (x5_3 : Int32) (y8_1 : Int32) (x4_2 : Int32) (M4 : me_M)  : Option ((Int32 × Int32 × me_M) ⊕ (Int32 × me_M)) :=
  (if p0 = 2 then (if y8_1 ≤ 1 then (mX12_sharesBy_63_J196 p0 v1 y3_1 x5_3 x4_2 M4 ) else (mX12_sharesBy_63_J192 p0 v1 y3_1 x5_3 x4_2 M4 )) else (mX12_sharesBy_63_J196 p0 v1 y3_1 x5_3 x4_2 M4 ))
def mX12_sharesBy_63_K58 (p0 : Int32) (v1 : Int32) (y3_1 : Int32) (x4_2 : Int32) (x5_3 : Int32) (M1 : me_M) (x6_1 : Int32) (x8_1 : Int32) (x9_1 : Int32) : Option ((Int32 × Int32 × me_M) ⊕ (Int32 × me_M)) :=
  ((me_l (mX12_sharesBy_63_L58 p0 v1 y3_1 x4_2 x5_3 x8_1) me_fu (x6_1, x5_3, x9_1, M1)).bind fun (y6_1, M4) => (if y6_1 ≤ v1 then ((me_l (mX12_sharesBy_63_L120 M4 p0 v1 y3_1 x4_2 x5_3) me_fu (x8_1, 0)).bind fun y8_1 => (if p0 = 0 then (mX12_sharesBy_63_J192 p0 v1 y3_1 x5_3 x4_2 M4 ) else (if p0 = 1 then (if y8_1 = 0 then (mX12_sharesBy_63_J192 p0 v1 y3_1 x5_3 x4_2 M4 ) else (mX12_sharesBy_63_J181 p0 v1 y3_1 x5_3 y8_1 x4_2 M4 )) else (mX12_sharesBy_63_J181 p0 v1 y3_1 x5_3 y8_1 x4_2 M4 )))) else (mX12_sharesBy_63_J200 p0 v1 y3_1 x5_3 M4 x4_2)))
def mX12_sharesBy_63_L39 (p0 : Int32) (v1 : Int32) (y3_1 : Int32) : (Int32 × Int32 × me_M) → Option ((Int32 × Int32 × me_M) ⊕ (Int32 × me_M))
  | (x4_2, x5_3, M1) => (if y3_1 ≤ x5_3 then some (.inr (x4_2, M1)) else (mX12_sharesBy_63_K58 p0 v1 y3_1 x4_2 x5_3 M1 0 0 0))
def mX12_sharesBy_63_K13 (p0 : Int32) (v1 : Int32) (M : me_M) (x3_1 : Int32) (x4_1 : Int32) (x5_1 : Int32) : Option (Int32 × me_M) :=
  ((me_l (mX12_sharesBy_63_L13 M p0 v1 x4_1) me_fu (x3_1, x5_1)).bind fun y3_1 => ((me_l (mX12_sharesBy_63_L39 p0 v1 y3_1) me_fu (x4_1, 0, M)).bind fun (y4_1, M5) => some (y4_1, M5)))
def mX12_sharesBy_63 (M : me_M) (p0 : Int32) : Option (Int32 × me_M) :=
  ((mX12_budget_63 M).bind fun v1 => (mX12_sharesBy_63_K13 p0 v1 M 1 0 0))
set_option maxRecDepth 100000 in
set_option maxHeartbeats 4000000 in
theorem ctX12_sharesBy_63 {l : Launch} {n nt : Nat} (hn : 424 ≤ n) (hnt : 4 ≤ nt) {M : me_M} {p0 : Int32} {r : Int32} {M' : me_M} (h : mX12_sharesBy_63 M p0 = some (r, M')) : me_Ct l yX12_sharesBy cX12_sharesBy 10 (some .int) 2 n nt (fun ad => [.ref (ad 63), .int p0]) M (fun _ => some (.int r)) M' := by
  unfold mX12_sharesBy_63 at h
  refine me_enter (N0 := 424) RX12 rfl (plainFor_of_name pl_RX12) hn (Nat.le_trans (by decide) hnt) (fun _ => Nat.le_of_ble_eq_true rfl) ?_
  intro p e R s m args below meth c D cA ad tys A X hr hlk
  refine me_sub (L' := [(0, .ref (ad 63)), (1, .int p0)]) [0, 1] rfl ?_
  refine me_aload_n X (i := 0) 0 rfl dX12_sharesBy_0 ?_
  obtain ⟨v1, e1, h⟩ := me_bd h
  refine me_callVi X [] (ctX12_budget_63 hn (Nat.le_trans (by decide) hnt) e1) kV_X12_214 rfl rfl (Nat.le_of_ble_eq_true rfl) me_k63 (Nat.le_of_ble_eq_true rfl) (Nat.le_refl _) (Nat.le_of_ble_eq_true rfl) dX12_sharesBy_1 ?_
  refine me_istore_n X (i := 2) [(2, .int v1), (0, .ref (ad 63)), (1, .int p0)] (Nat.le_of_ble_eq_true rfl) rfl dX12_sharesBy_4 ?_
  refine me_iconst X dX12_sharesBy_5 ic_1 ?_
  refine me_istore_n X (i := 3) [(3, .int 1), (2, .int v1), (0, .ref (ad 63)), (1, .int p0)] (Nat.le_of_ble_eq_true rfl) rfl dX12_sharesBy_6 ?_
  refine me_iconst X dX12_sharesBy_7 ic_0 ?_
  refine me_istore X (i := 4) [(4, .int 0), (3, .int 1), (2, .int v1), (0, .ref (ad 63)), (1, .int p0)] (Nat.le_of_ble_eq_true rfl) rfl dX12_sharesBy_8 ?_
  refine me_iconst X dX12_sharesBy_10 ic_0 ?_
  refine me_istore X (i := 5) [(5, .int 0), (4, .int 0), (3, .int 1), (2, .int v1), (0, .ref (ad 63)), (1, .int p0)] (Nat.le_of_ble_eq_true rfl) rfl dX12_sharesBy_11 ?_
  have hk13_0 : ∀ (x3_1 : Int32) (x4_1 : Int32) (x5_1 : Int32), mX12_sharesBy_63_K13 p0 v1 M x3_1 x4_1 x5_1 = some (r, M') → me_W p l e R s m args below meth c 0 0 (MQ below (me_Qc D cA ad n A (some (.int r)) M') args s 0 0 A) D cA ad n 10 A 13 [(0, .ref (ad 63)), (1, .int p0), (2, .int v1), (3, .int x3_1), (4, .int x4_1), (5, .int x5_1)] [] M := by
    intro x3_1 x4_1 x5_1 h
    unfold mX12_sharesBy_63_K13 at h
    obtain ⟨y3_1, hq1, h⟩ := me_bd h
    have hx1 : me_W p l e R s m args below meth c 0 0 (MQ below (me_Qc D cA ad n A (some (.int r)) M') args s 0 0 A) D cA ad n 10 A 36 [(0, .ref (ad 63)), (1, .int p0), (2, .int v1), (3, .int y3_1), (4, .int x4_1)] [] M := by
      refine me_iconst X dX12_sharesBy_36 ic_0 ?_
      refine me_istore X (i := 5) [(5, .int 0), (0, .ref (ad 63)), (1, .int p0), (2, .int v1), (3, .int y3_1), (4, .int x4_1)] (Nat.le_of_ble_eq_true rfl) rfl dX12_sharesBy_37 ?_
      obtain ⟨⟨y4_1, M5⟩, hq2, h⟩ := me_bd h
      have hx4 : me_W p l e R s m args below meth c 0 0 (MQ below (me_Qc D cA ad n A (some (.int r)) M') args s 0 0 A) D cA ad n 10 A 206 [(4, .int y4_1)] [] M5 := by
        refine me_iload X (i := 4) 0 rfl dX12_sharesBy_206 ?_
        obtain ⟨rfl, rfl⟩ := me_sp h
        exact me_iret X hr hlk dX12_sharesBy_208
      refine me_sub (L' := [(0, .ref (ad 63)), (1, .int p0), (2, .int v1), (3, .int y3_1), (4, .int x4_1), (5, .int 0)]) [1, 2, 3, 4, 5, 0] rfl ?_
      refine me_l_W (b := (mX12_sharesBy_63_L39 p0 v1 y3_1)) (P := fun w => me_W p l e R s m args below meth c 0 0 (MQ below (me_Qc D cA ad n A (some (.int r)) M') args s 0 0 A) D cA ad n 10 A 39 [(0, .ref (ad 63)), (1, .int p0), (2, .int v1), (3, .int y3_1), (4, .int w.1), (5, .int w.2.1)] [] w.2.2) (r := (y4_1, M5)) ?_ me_fu (x4_1, 0, M) hq2
      rintro ⟨x4_2, x5_3, M1⟩ z2 h hb2 - hr2
      unfold mX12_sharesBy_63_L39 at h
      refine me_iload X (i := 5) 5 rfl dX12_sharesBy_39 ?_
      refine me_iload_n X (i := 3) 3 rfl dX12_sharesBy_41 ?_
      refine me_icmp_ge X 206 (by decide) dX12_sharesBy_42 (fun c2 => ?_) (fun c2 => ?_)
      · have h := me_ip c2 h
        obtain rfl := me_so h
        have q := hr2 _ rfl
        refine me_sub (L' := [(4, .int x4_2)]) [4] rfl ?_
        cases q
        exact hx4
      · have h := me_in c2 h
        refine me_iconst X dX12_sharesBy_45 ic_0 ?_
        refine me_istore X (i := 6) [(6, .int 0), (0, .ref (ad 63)), (1, .int p0), (2, .int v1), (3, .int y3_1), (4, .int x4_2), (5, .int x5_3)] (Nat.le_of_ble_eq_true rfl) rfl dX12_sharesBy_46 ?_
        refine me_iload X (i := 5) 6 rfl dX12_sharesBy_48 ?_
        refine me_istore X (i := 7) [(7, .int x5_3), (6, .int 0), (0, .ref (ad 63)), (1, .int p0), (2, .int v1), (3, .int y3_1), (4, .int x4_2), (5, .int x5_3)] (Nat.le_of_ble_eq_true rfl) rfl dX12_sharesBy_50 ?_
        refine me_iconst X dX12_sharesBy_52 ic_0 ?_
        refine me_istore X (i := 8) [(8, .int 0), (7, .int x5_3), (6, .int 0), (0, .ref (ad 63)), (1, .int p0), (2, .int v1), (3, .int y3_1), (4, .int x4_2), (5, .int x5_3)] (Nat.le_of_ble_eq_true rfl) rfl dX12_sharesBy_53 ?_
        refine me_iconst X dX12_sharesBy_55 ic_0 ?_
        refine me_istore X (i := 9) [(9, .int 0), (8, .int 0), (7, .int x5_3), (6, .int 0), (0, .ref (ad 63)), (1, .int p0), (2, .int v1), (3, .int y3_1), (4, .int x4_2), (5, .int x5_3)] (Nat.le_of_ble_eq_true rfl) rfl dX12_sharesBy_56 ?_
        have hk58_3 : ∀ (x6_1 : Int32) (x8_1 : Int32) (x9_1 : Int32), mX12_sharesBy_63_K58 p0 v1 y3_1 x4_2 x5_3 M1 x6_1 x8_1 x9_1 = some z2 → me_W p l e R s m args below meth c 0 0 (MQ below (me_Qc D cA ad n A (some (.int r)) M') args s 0 0 A) D cA ad n 10 A 58 [(0, .ref (ad 63)), (1, .int p0), (2, .int v1), (3, .int y3_1), (4, .int x4_2), (5, .int x5_3), (6, .int x6_1), (7, .int x5_3), (8, .int x8_1), (9, .int x9_1)] [] M1 := by
          intro x6_1 x8_1 x9_1 h
          unfold mX12_sharesBy_63_K58 at h
          obtain ⟨⟨y6_1, M4⟩, hq3, h⟩ := me_bd h
          have hx2 : me_W p l e R s m args below meth c 0 0 (MQ below (me_Qc D cA ad n A (some (.int r)) M') args s 0 0 A) D cA ad n 10 A 108 [(0, .ref (ad 63)), (1, .int p0), (2, .int v1), (3, .int y3_1), (4, .int x4_2), (5, .int x5_3), (6, .int y6_1), (8, .int x8_1)] [] M4 := by
            refine me_iload X (i := 6) 6 rfl dX12_sharesBy_108 ?_
            refine me_iload_n X (i := 2) 2 rfl dX12_sharesBy_110 ?_
            have hj200_1 : ∀ (x4_3 : Int32), mX12_sharesBy_63_J200 p0 v1 y3_1 x5_3 M4 x4_3 = some z2 → me_W p l e R s m args below meth c 0 0 (MQ below (me_Qc D cA ad n A (some (.int r)) M') args s 0 0 A) D cA ad n 10 A 200 [(0, .ref (ad 63)), (1, .int p0), (2, .int v1), (3, .int y3_1), (4, .int x4_3), (5, .int x5_3)] [] M4 := by
              intro x4_3 h
              unfold mX12_sharesBy_63_J200 at h
              refine me_iinc X (v := (x5_3 + 1)) 5 rfl (in_1 _) [(5, .int (x5_3 + 1)), (0, .ref (ad 63)), (1, .int p0), (2, .int v1), (3, .int y3_1), (4, .int x4_3)] (Nat.le_of_ble_eq_true rfl) rfl dX12_sharesBy_200 ?_
              refine me_goto X 39 (by decide) dX12_sharesBy_203 ?_
              obtain rfl := me_so h
              refine me_sub (L' := [(0, .ref (ad 63)), (1, .int p0), (2, .int v1), (3, .int y3_1), (4, .int x4_3), (5, .int (x5_3 + 1))]) [1, 2, 3, 4, 5, 0] rfl ?_
              exact hb2 (x4_3, (x5_3 + 1), M4) rfl
            refine me_icmp_le X 117 (by decide) dX12_sharesBy_111 (fun c4 => ?_) (fun c4 => ?_)
            · have h := me_ip c4 h
              refine me_iconst X dX12_sharesBy_117 ic_0 ?_
              refine me_istore X (i := 9) [(9, .int 0), (0, .ref (ad 63)), (1, .int p0), (2, .int v1), (3, .int y3_1), (4, .int x4_2), (5, .int x5_3), (6, .int y6_1), (8, .int x8_1)] (Nat.le_of_ble_eq_true rfl) rfl dX12_sharesBy_118 ?_
              obtain ⟨y8_1, hq4, h⟩ := me_bd h
              have hx3 : me_W p l e R s m args below meth c 0 0 (MQ below (me_Qc D cA ad n A (some (.int r)) M') args s 0 0 A) D cA ad n 10 A 165 [(0, .ref (ad 63)), (1, .int p0), (2, .int v1), (3, .int y3_1), (4, .int x4_2), (5, .int x5_3), (8, .int y8_1)] [] M4 := by
                refine me_iload X (i := 4) 4 rfl dX12_sharesBy_165 ?_
                refine me_iload_n X (i := 1) 1 rfl dX12_sharesBy_167 ?_
                have hj197_5 : ∀ (s2 : Int32), mX12_sharesBy_63_J197 p0 v1 y3_1 x5_3 x4_2 M4 s2 = some z2 → me_W p l e R s m args below meth c 0 0 (MQ below (me_Qc D cA ad n A (some (.int r)) M') args s 0 0 A) D cA ad n 10 A 197 [(0, .ref (ad 63)), (1, .int p0), (2, .int v1), (3, .int y3_1), (5, .int x5_3)] [.int s2, .int x4_2] M4 := by
                  intro s2 h
                  unfold mX12_sharesBy_63_J197 at h
                  refine me_iadd X dX12_sharesBy_197 ?_
                  refine me_istore X (i := 4) [(4, .int (x4_2 + s2)), (0, .ref (ad 63)), (1, .int p0), (2, .int v1), (3, .int y3_1), (5, .int x5_3)] (Nat.le_of_ble_eq_true rfl) rfl dX12_sharesBy_198 ?_
                  refine me_sub (L' := [(0, .ref (ad 63)), (1, .int p0), (2, .int v1), (3, .int y3_1), (4, .int (x4_2 + s2)), (5, .int x5_3)]) [1, 2, 3, 4, 0, 5] rfl ?_
                  exact hj200_1 (x4_2 + s2) h
                have hj192_4 : mX12_sharesBy_63_J192 p0 v1 y3_1 x5_3 x4_2 M4  = some z2 → me_W p l e R s m args below meth c 0 0 (MQ below (me_Qc D cA ad n A (some (.int r)) M') args s 0 0 A) D cA ad n 10 A 192 [(0, .ref (ad 63)), (1, .int p0), (2, .int v1), (3, .int y3_1), (5, .int x5_3)] [.int x4_2] M4 := by
                  intro h
                  unfold mX12_sharesBy_63_J192 at h
                  refine me_iconst X dX12_sharesBy_192 ic_1 ?_
                  refine me_goto X 197 (by decide) dX12_sharesBy_193 ?_
                  exact hj197_5 1 h
                refine me_if_eq X 192 (by decide) dX12_sharesBy_168 (fun c8 => ?_) (fun c8 => ?_)
                · have h := me_ip c8 h
                  refine me_sub (L' := [(0, .ref (ad 63)), (1, .int p0), (2, .int v1), (3, .int y3_1), (5, .int x5_3)]) [0, 1, 2, 3, 5] rfl ?_
                  exact hj192_4  h
                · have h := me_in c8 h
                  refine me_iload_n X (i := 1) 1 rfl dX12_sharesBy_171 ?_
                  refine me_iconst X dX12_sharesBy_172 ic_1 ?_
                  have hj181_6 : mX12_sharesBy_63_J181 p0 v1 y3_1 x5_3 y8_1 x4_2 M4  = some z2 → me_W p l e R s m args below meth c 0 0 (MQ below (me_Qc D cA ad n A (some (.int r)) M') args s 0 0 A) D cA ad n 10 A 181 [(0, .ref (ad 63)), (1, .int p0), (2, .int v1), (3, .int y3_1), (5, .int x5_3), (8, .int y8_1)] [.int x4_2] M4 := by
                    intro h
                    unfold mX12_sharesBy_63_J181 at h
                    refine me_iload_n X (i := 1) 1 rfl dX12_sharesBy_181 ?_
                    refine me_iconst X dX12_sharesBy_182 ic_2 ?_
                    have hj196_7 : mX12_sharesBy_63_J196 p0 v1 y3_1 x5_3 x4_2 M4  = some z2 → me_W p l e R s m args below meth c 0 0 (MQ below (me_Qc D cA ad n A (some (.int r)) M') args s 0 0 A) D cA ad n 10 A 196 [(0, .ref (ad 63)), (1, .int p0), (2, .int v1), (3, .int y3_1), (5, .int x5_3)] [.int x4_2] M4 := by
                      intro h
                      unfold mX12_sharesBy_63_J196 at h
                      refine me_iconst X dX12_sharesBy_196 ic_0 ?_
                      exact hj197_5 0 h
                    refine me_icmp_ne X 196 (by decide) dX12_sharesBy_183 (fun c11 => ?_) (fun c11 => ?_)
                    · have h := me_in c11 h
                      refine me_sub (L' := [(0, .ref (ad 63)), (1, .int p0), (2, .int v1), (3, .int y3_1), (5, .int x5_3)]) [0, 1, 2, 3, 4] rfl ?_
                      exact hj196_7  h
                    · have h := me_ip c11 h
                      refine me_iload X (i := 8) 5 rfl dX12_sharesBy_186 ?_
                      refine me_iconst X dX12_sharesBy_188 ic_1 ?_
                      refine me_icmp_le X 196 (by decide) dX12_sharesBy_189 (fun c12 => ?_) (fun c12 => ?_)
                      · have h := me_ip c12 h
                        refine me_sub (L' := [(0, .ref (ad 63)), (1, .int p0), (2, .int v1), (3, .int y3_1), (5, .int x5_3)]) [0, 1, 2, 3, 4] rfl ?_
                        exact hj196_7  h
                      · have h := me_in c12 h
                        refine me_sub (L' := [(0, .ref (ad 63)), (1, .int p0), (2, .int v1), (3, .int y3_1), (5, .int x5_3)]) [0, 1, 2, 3, 4] rfl ?_
                        exact hj192_4  h
                  refine me_icmp_ne X 181 (by decide) dX12_sharesBy_173 (fun c9 => ?_) (fun c9 => ?_)
                  · have h := me_in c9 h
                    refine me_sub (L' := [(0, .ref (ad 63)), (1, .int p0), (2, .int v1), (3, .int y3_1), (5, .int x5_3), (8, .int y8_1)]) [0, 1, 2, 3, 5, 6] rfl ?_
                    exact hj181_6  h
                  · have h := me_ip c9 h
                    refine me_iload X (i := 8) 6 rfl dX12_sharesBy_176 ?_
                    refine me_if_eq X 192 (by decide) dX12_sharesBy_178 (fun c10 => ?_) (fun c10 => ?_)
                    · have h := me_ip c10 h
                      refine me_sub (L' := [(0, .ref (ad 63)), (1, .int p0), (2, .int v1), (3, .int y3_1), (5, .int x5_3)]) [0, 1, 2, 3, 5] rfl ?_
                      exact hj192_4  h
                    · have h := me_in c10 h
                      refine me_sub (L' := [(0, .ref (ad 63)), (1, .int p0), (2, .int v1), (3, .int y3_1), (5, .int x5_3), (8, .int y8_1)]) [0, 1, 2, 3, 5, 6] rfl ?_
                      exact hj181_6  h
              refine me_sub (L' := [(0, .ref (ad 63)), (1, .int p0), (2, .int v1), (3, .int y3_1), (4, .int x4_2), (5, .int x5_3), (8, .int x8_1), (9, .int 0)]) [1, 2, 3, 4, 5, 6, 8, 0] rfl ?_
              refine me_l_W (b := (mX12_sharesBy_63_L120 M4 p0 v1 y3_1 x4_2 x5_3)) (P := fun w => me_W p l e R s m args below meth c 0 0 (MQ below (me_Qc D cA ad n A (some (.int r)) M') args s 0 0 A) D cA ad n 10 A 120 [(0, .ref (ad 63)), (1, .int p0), (2, .int v1), (3, .int y3_1), (4, .int x4_2), (5, .int x5_3), (8, .int w.1), (9, .int w.2)] [] M4) (r := y8_1) ?_ me_fu (x8_1, 0) hq4
              rintro ⟨x8_2, x9_3⟩ z4 h hb4 - hr4
              unfold mX12_sharesBy_63_L120 at h
              refine me_iload X (i := 9) 7 rfl dX12_sharesBy_120 ?_
              refine me_aload_n X (i := 0) 0 rfl dX12_sharesBy_122 ?_
              refine me_getr X 77 kF_X12_49 (Nat.le_of_ble_eq_true rfl) me_k63 me_f63_14 dX12_sharesBy_123 ?_
              refine me_iconst X dX12_sharesBy_126 ic_0 ?_
              obtain ⟨v7, e8, h⟩ := me_bd h
              refine me_iald X (Nat.le_of_ble_eq_true rfl) me_k77 e8 dX12_sharesBy_127 ?_
              refine me_icmp_ge X 165 (by decide) dX12_sharesBy_128 (fun c5 => ?_) (fun c5 => ?_)
              · have h := me_ip c5 h
                obtain rfl := me_so h
                have q := hr4 _ rfl
                refine me_sub (L' := [(0, .ref (ad 63)), (1, .int p0), (2, .int v1), (3, .int y3_1), (4, .int x4_2), (5, .int x5_3), (8, .int x8_2)]) [0, 1, 2, 3, 4, 5, 6] rfl ?_
                cases q
                exact hx3
              · have h := me_in c5 h
                refine me_iload X (i := 8) 6 rfl dX12_sharesBy_131 ?_
                refine me_iload X (i := 9) 7 rfl dX12_sharesBy_133 ?_
                refine me_aload_n X (i := 0) 0 rfl dX12_sharesBy_135 ?_
                refine me_geti X kF_X12_72 (Nat.le_of_ble_eq_true rfl) me_k63 me_f63_29 dX12_sharesBy_136 ?_
                have hj156_3 : ∀ (s1 : Int32), mX12_sharesBy_63_J156 p0 v1 y3_1 x4_2 x5_3 x9_3 x8_2 M4 s1 = some z4 → me_W p l e R s m args below meth c 0 0 (MQ below (me_Qc D cA ad n A (some (.int r)) M') args s 0 0 A) D cA ad n 10 A 156 [(0, .ref (ad 63)), (1, .int p0), (2, .int v1), (3, .int y3_1), (4, .int x4_2), (5, .int x5_3), (9, .int x9_3)] [.int s1, .int x8_2] M4 := by
                  intro s1 h
                  unfold mX12_sharesBy_63_J156 at h
                  refine me_iadd X dX12_sharesBy_156 ?_
                  refine me_istore X (i := 8) [(8, .int (x8_2 + s1)), (0, .ref (ad 63)), (1, .int p0), (2, .int v1), (3, .int y3_1), (4, .int x4_2), (5, .int x5_3), (9, .int x9_3)] (Nat.le_of_ble_eq_true rfl) rfl dX12_sharesBy_157 ?_
                  refine me_iinc X (v := (x9_3 + 1)) 7 rfl (in_1 _) [(9, .int (x9_3 + 1)), (8, .int (x8_2 + s1)), (0, .ref (ad 63)), (1, .int p0), (2, .int v1), (3, .int y3_1), (4, .int x4_2), (5, .int x5_3)] (Nat.le_of_ble_eq_true rfl) rfl dX12_sharesBy_159 ?_
                  refine me_goto X 120 (by decide) dX12_sharesBy_162 ?_
                  obtain rfl := me_so h
                  refine me_sub (L' := [(0, .ref (ad 63)), (1, .int p0), (2, .int v1), (3, .int y3_1), (4, .int x4_2), (5, .int x5_3), (8, .int (x8_2 + s1)), (9, .int (x9_3 + 1))]) [2, 3, 4, 5, 6, 7, 1, 0] rfl ?_
                  exact hb4 ((x8_2 + s1), (x9_3 + 1)) rfl
                have hj155_2 : mX12_sharesBy_63_J155 p0 v1 y3_1 x4_2 x5_3 x9_3 x8_2 M4  = some z4 → me_W p l e R s m args below meth c 0 0 (MQ below (me_Qc D cA ad n A (some (.int r)) M') args s 0 0 A) D cA ad n 10 A 155 [(0, .ref (ad 63)), (1, .int p0), (2, .int v1), (3, .int y3_1), (4, .int x4_2), (5, .int x5_3), (9, .int x9_3)] [.int x8_2] M4 := by
                  intro h
                  unfold mX12_sharesBy_63_J155 at h
                  refine me_iconst X dX12_sharesBy_155 ic_0 ?_
                  exact hj156_3 0 h
                refine me_icmp_eq X 155 (by decide) dX12_sharesBy_139 (fun c6 => ?_) (fun c6 => ?_)
                · have h := me_ip c6 h
                  refine me_sub (L' := [(0, .ref (ad 63)), (1, .int p0), (2, .int v1), (3, .int y3_1), (4, .int x4_2), (5, .int x5_3), (9, .int x9_3)]) [0, 1, 2, 3, 4, 5, 7] rfl ?_
                  exact hj155_2  h
                · have h := me_in c6 h
                  refine me_aload_n X (i := 0) 0 rfl dX12_sharesBy_142 ?_
                  refine me_iload X (i := 9) 7 rfl dX12_sharesBy_143 ?_
                  obtain ⟨v8, e9, h⟩ := me_bd h
                  refine me_callVi X [.int x9_3] (ctX12_covers_63 hn (Nat.le_trans (by decide) hnt) e9) kV_X12_257 rfl rfl (Nat.le_of_ble_eq_true rfl) me_k63 (Nat.le_of_ble_eq_true rfl) (Nat.le_refl _) (Nat.le_of_ble_eq_true rfl) dX12_sharesBy_145 ?_
                  refine me_if_eq X 155 (by decide) dX12_sharesBy_148 (fun c7 => ?_) (fun c7 => ?_)
                  · have h := me_ip c7 h
                    refine me_sub (L' := [(0, .ref (ad 63)), (1, .int p0), (2, .int v1), (3, .int y3_1), (4, .int x4_2), (5, .int x5_3), (9, .int x9_3)]) [0, 1, 2, 3, 4, 5, 7] rfl ?_
                    exact hj155_2  h
                  · have h := me_in c7 h
                    refine me_iconst X dX12_sharesBy_151 ic_1 ?_
                    refine me_goto X 156 (by decide) dX12_sharesBy_152 ?_
                    refine me_sub (L' := [(0, .ref (ad 63)), (1, .int p0), (2, .int v1), (3, .int y3_1), (4, .int x4_2), (5, .int x5_3), (9, .int x9_3)]) [0, 1, 2, 3, 4, 5, 7] rfl ?_
                    exact hj156_3 1 h
            · have h := me_in c4 h
              refine me_goto X 200 (by decide) dX12_sharesBy_114 ?_
              refine me_sub (L' := [(0, .ref (ad 63)), (1, .int p0), (2, .int v1), (3, .int y3_1), (4, .int x4_2), (5, .int x5_3)]) [0, 1, 2, 3, 4, 5] rfl ?_
              exact hj200_1 x4_2 h
          refine me_l_W (b := (mX12_sharesBy_63_L58 p0 v1 y3_1 x4_2 x5_3 x8_1)) (P := fun w => me_W p l e R s m args below meth c 0 0 (MQ below (me_Qc D cA ad n A (some (.int r)) M') args s 0 0 A) D cA ad n 10 A 58 [(0, .ref (ad 63)), (1, .int p0), (2, .int v1), (3, .int y3_1), (4, .int x4_2), (5, .int x5_3), (6, .int w.1), (7, .int w.2.1), (8, .int x8_1), (9, .int w.2.2.1)] [] w.2.2.2) (r := (y6_1, M4)) ?_ me_fu (x6_1, x5_3, x9_1, M1) hq3
          rintro ⟨x6_2, x7_1, x9_2, M2⟩ z3 h hb3 - hr3
          unfold mX12_sharesBy_63_L58 at h
          refine me_iload X (i := 9) 9 rfl dX12_sharesBy_58 ?_
          refine me_aload_n X (i := 0) 0 rfl dX12_sharesBy_60 ?_
          refine me_getr X 78 kF_X12_52 (Nat.le_of_ble_eq_true rfl) me_k63 me_f63_15 dX12_sharesBy_61 ?_
          refine me_iconst X dX12_sharesBy_64 ic_0 ?_
          obtain ⟨v3, e3, h⟩ := me_bd h
          refine me_iald X (Nat.le_of_ble_eq_true rfl) me_k78 e3 dX12_sharesBy_65 ?_
          refine me_icmp_ge X 108 (by decide) dX12_sharesBy_66 (fun c3 => ?_) (fun c3 => ?_)
          · have h := me_ip c3 h
            obtain rfl := me_so h
            have q := hr3 _ rfl
            refine me_sub (L' := [(0, .ref (ad 63)), (1, .int p0), (2, .int v1), (3, .int y3_1), (4, .int x4_2), (5, .int x5_3), (6, .int x6_2), (8, .int x8_1)]) [0, 1, 2, 3, 4, 5, 6, 8] rfl ?_
            cases q
            exact hx2
          · have h := me_in c3 h
            refine me_aload_n X (i := 0) 0 rfl dX12_sharesBy_69 ?_
            refine me_getr X 82 kF_X12_69 (Nat.le_of_ble_eq_true rfl) me_k63 me_f63_28 dX12_sharesBy_70 ?_
            refine me_iload X (i := 9) 9 rfl dX12_sharesBy_73 ?_
            refine me_iload X (i := 7) 7 rfl dX12_sharesBy_75 ?_
            refine me_iload_n X (i := 2) 2 rfl dX12_sharesBy_77 ?_
            refine me_iconst X dX12_sharesBy_78 ic_1 ?_
            refine me_iadd X dX12_sharesBy_79 ?_
            obtain ⟨v4, e4, h⟩ := me_bd h
            refine me_irem X e4 dX12_sharesBy_80 ?_
            obtain ⟨M3, e5, h⟩ := me_bd h
            refine me_iast X (Nat.le_of_ble_eq_true rfl) me_k82 e5 dX12_sharesBy_81 ?_
            refine me_iload X (i := 6) 6 rfl dX12_sharesBy_82 ?_
            refine me_aload_n X (i := 0) 0 rfl dX12_sharesBy_84 ?_
            refine me_getr X 82 kF_X12_69 (Nat.le_of_ble_eq_true rfl) me_k63 me_f63_28 dX12_sharesBy_85 ?_
            refine me_iload X (i := 9) 9 rfl dX12_sharesBy_88 ?_
            obtain ⟨v5, e6, h⟩ := me_bd h
            refine me_iald X (Nat.le_of_ble_eq_true rfl) me_k82 e6 dX12_sharesBy_90 ?_
            refine me_iadd X dX12_sharesBy_91 ?_
            refine me_istore X (i := 6) [(6, .int (x6_2 + v5)), (0, .ref (ad 63)), (1, .int p0), (2, .int v1), (3, .int y3_1), (4, .int x4_2), (5, .int x5_3), (7, .int x7_1), (8, .int x8_1), (9, .int x9_2)] (Nat.le_of_ble_eq_true rfl) rfl dX12_sharesBy_92 ?_
            refine me_iload X (i := 7) 7 rfl dX12_sharesBy_94 ?_
            refine me_iload_n X (i := 2) 3 rfl dX12_sharesBy_96 ?_
            refine me_iconst X dX12_sharesBy_97 ic_1 ?_
            refine me_iadd X dX12_sharesBy_98 ?_
            obtain ⟨v6, e7, h⟩ := me_bd h
            refine me_idiv X e7 dX12_sharesBy_99 ?_
            refine me_istore X (i := 7) [(7, .int v6), (6, .int (x6_2 + v5)), (0, .ref (ad 63)), (1, .int p0), (2, .int v1), (3, .int y3_1), (4, .int x4_2), (5, .int x5_3), (8, .int x8_1), (9, .int x9_2)] (Nat.le_of_ble_eq_true rfl) rfl dX12_sharesBy_100 ?_
            refine me_iinc X (v := (x9_2 + 1)) 9 rfl (in_1 _) [(9, .int (x9_2 + 1)), (7, .int v6), (6, .int (x6_2 + v5)), (0, .ref (ad 63)), (1, .int p0), (2, .int v1), (3, .int y3_1), (4, .int x4_2), (5, .int x5_3), (8, .int x8_1)] (Nat.le_of_ble_eq_true rfl) rfl dX12_sharesBy_102 ?_
            refine me_goto X 58 (by decide) dX12_sharesBy_105 ?_
            obtain rfl := me_so h
            refine me_sub (L' := [(0, .ref (ad 63)), (1, .int p0), (2, .int v1), (3, .int y3_1), (4, .int x4_2), (5, .int x5_3), (6, .int (x6_2 + v5)), (7, .int v6), (8, .int x8_1), (9, .int (x9_2 + 1))]) [3, 4, 5, 6, 7, 8, 2, 1, 9, 0] rfl ?_
            exact hb3 ((x6_2 + v5), v6, (x9_2 + 1), M3) rfl
        refine me_sub (L' := [(0, .ref (ad 63)), (1, .int p0), (2, .int v1), (3, .int y3_1), (4, .int x4_2), (5, .int x5_3), (6, .int 0), (7, .int x5_3), (8, .int 0), (9, .int 0)]) [4, 5, 6, 7, 8, 9, 3, 2, 1, 0] rfl ?_
        exact hk58_3 0 0 0 h
    refine me_l_W (b := (mX12_sharesBy_63_L13 M p0 v1 x4_1)) (P := fun w => me_W p l e R s m args below meth c 0 0 (MQ below (me_Qc D cA ad n A (some (.int r)) M') args s 0 0 A) D cA ad n 10 A 13 [(0, .ref (ad 63)), (1, .int p0), (2, .int v1), (3, .int w.1), (4, .int x4_1), (5, .int w.2)] [] M) (r := y3_1) ?_ me_fu (x3_1, x5_1) hq1
    rintro ⟨x3_2, x5_2⟩ z1 h hb1 - hr1
    unfold mX12_sharesBy_63_L13 at h
    refine me_iload X (i := 5) 5 rfl dX12_sharesBy_13 ?_
    refine me_aload_n X (i := 0) 0 rfl dX12_sharesBy_15 ?_
    refine me_getr X 78 kF_X12_52 (Nat.le_of_ble_eq_true rfl) me_k63 me_f63_15 dX12_sharesBy_16 ?_
    refine me_iconst X dX12_sharesBy_19 ic_0 ?_
    obtain ⟨v2, e2, h⟩ := me_bd h
    refine me_iald X (Nat.le_of_ble_eq_true rfl) me_k78 e2 dX12_sharesBy_20 ?_
    refine me_icmp_ge X 36 (by decide) dX12_sharesBy_21 (fun c1 => ?_) (fun c1 => ?_)
    · have h := me_ip c1 h
      obtain rfl := me_so h
      have q := hr1 _ rfl
      refine me_sub (L' := [(0, .ref (ad 63)), (1, .int p0), (2, .int v1), (3, .int x3_2), (4, .int x4_1)]) [0, 1, 2, 3, 4] rfl ?_
      cases q
      exact hx1
    · have h := me_in c1 h
      refine me_iload_n X (i := 3) 3 rfl dX12_sharesBy_24 ?_
      refine me_iload_n X (i := 2) 2 rfl dX12_sharesBy_25 ?_
      refine me_iconst X dX12_sharesBy_26 ic_1 ?_
      refine me_iadd X dX12_sharesBy_27 ?_
      refine me_imul X dX12_sharesBy_28 ?_
      refine me_istore_n X (i := 3) [(3, .int (x3_2 * (v1 + 1))), (0, .ref (ad 63)), (1, .int p0), (2, .int v1), (4, .int x4_1), (5, .int x5_2)] (Nat.le_of_ble_eq_true rfl) rfl dX12_sharesBy_29 ?_
      refine me_iinc X (v := (x5_2 + 1)) 5 rfl (in_1 _) [(5, .int (x5_2 + 1)), (3, .int (x3_2 * (v1 + 1))), (0, .ref (ad 63)), (1, .int p0), (2, .int v1), (4, .int x4_1)] (Nat.le_of_ble_eq_true rfl) rfl dX12_sharesBy_30 ?_
      refine me_goto X 13 (by decide) dX12_sharesBy_33 ?_
      obtain rfl := me_so h
      refine me_sub (L' := [(0, .ref (ad 63)), (1, .int p0), (2, .int v1), (3, .int (x3_2 * (v1 + 1))), (4, .int x4_1), (5, .int (x5_2 + 1))]) [2, 3, 4, 1, 5, 0] rfl ?_
      exact hb1 ((x3_2 * (v1 + 1)), (x5_2 + 1)) rfl
  refine me_sub (L' := [(0, .ref (ad 63)), (1, .int p0), (2, .int v1), (3, .int 1), (4, .int 0), (5, .int 0)]) [4, 5, 3, 2, 1, 0] rfl ?_
  exact hk13_0 1 0 0 h
def mX12_shares_63_J20 (p0 : Int32) (s1 : Int32) (M1 : me_M) : Option (Int32 × me_M) :=
  ((mX12_bad_63 M1 s1 1 1).bind fun (v2, M2) => (if v2 = 0 then ((mX12_sharesBy_63 M2 p0).bind fun (v3, M3) => some (v3, M3)) else some (0, M2)))
def mX12_shares_63 (M : me_M) (p0 : Int32) : Option (Int32 × me_M) :=
  ((mX12_in p0 0 2).bind fun v1 => (if v1 = 0 then (mX12_shares_63_J20 p0 1 (me_s M 63 0 0)) else (mX12_shares_63_J20 p0 0 (me_s M 63 0 0))))
set_option maxRecDepth 100000 in
set_option maxHeartbeats 4000000 in
theorem ctX12_shares_63 {l : Launch} {n nt : Nat} (hn : 424 ≤ n) (hnt : 4 ≤ nt) {M : me_M} {p0 : Int32} {r : Int32} {M' : me_M} (h : mX12_shares_63 M p0 = some (r, M')) : me_Ct l yX12_shares cX12_shares 2 (some .int) 3 n nt (fun ad => [.ref (ad 63), .int p0]) M (fun _ => some (.int r)) M' := by
  unfold mX12_shares_63 at h
  refine me_enter (N0 := 424) RX12 rfl (plainFor_of_name pl_RX12) hn (Nat.le_trans (by decide) hnt) (fun _ => Nat.le_of_ble_eq_true rfl) ?_
  intro p e R s m args below meth c D cA ad tys A X hr hlk
  refine me_sub (L' := [(0, .ref (ad 63)), (1, .int p0)]) [0, 1] rfl ?_
  refine me_aload_n X (i := 0) 0 rfl dX12_shares_0 ?_
  refine me_iconst X dX12_shares_1 ic_0 ?_
  refine me_puti X kG_X12_105 (Nat.le_of_ble_eq_true rfl) me_k63 me_f63_0 dX12_shares_2 ?_
  refine me_aload_n X (i := 0) 0 rfl dX12_shares_5 ?_
  refine me_iload_n X (i := 1) 1 rfl dX12_shares_6 ?_
  refine me_iconst X dX12_shares_7 ic_0 ?_
  refine me_iconst X dX12_shares_8 ic_2 ?_
  obtain ⟨v1, e1, h⟩ := me_bd h
  refine me_callSi X [.int p0, .int 0, .int 2] (ctX12_in hn (Nat.le_trans (by decide) hnt) e1) kS_X12_108 rfl rfl (Nat.le_of_ble_eq_true rfl) (Nat.le_refl _) (Nat.le_of_ble_eq_true rfl) dX12_shares_9 ?_
  have hj20_1 : ∀ (s1 : Int32) (M1 : me_M), mX12_shares_63_J20 p0 s1 M1 = some (r, M') → me_W p l e R s m args below meth c 0 0 (MQ below (me_Qc D cA ad n A (some (.int r)) M') args s 0 0 A) D cA ad n 2 A 20 [(0, .ref (ad 63)), (1, .int p0)] [.int s1, .ref (ad 63)] M1 := by
    intro s1 M1 h
    unfold mX12_shares_63_J20 at h
    refine me_iconst X dX12_shares_20 ic_1 ?_
    refine me_iconst X dX12_shares_21 ic_1 ?_
    obtain ⟨⟨v2, M2⟩, e2, h⟩ := me_bd h
    refine me_callVi X [.int s1, .int 1, .int 1] (ctX12_bad_63 hn (Nat.le_trans (by decide) hnt) e2) kV_X12_122 rfl rfl (Nat.le_of_ble_eq_true rfl) me_k63 (Nat.le_of_ble_eq_true rfl) (Nat.le_refl _) (Nat.le_of_ble_eq_true rfl) dX12_shares_22 ?_
    refine me_if_eq X 30 (by decide) dX12_shares_25 (fun c2 => ?_) (fun c2 => ?_)
    · have h := me_ip c2 h
      refine me_aload_n X (i := 0) 0 rfl dX12_shares_30 ?_
      refine me_iload_n X (i := 1) 1 rfl dX12_shares_31 ?_
      obtain ⟨⟨v3, M3⟩, e3, h⟩ := me_bd h
      refine me_callVi X [.int p0] (ctX12_sharesBy_63 hn (Nat.le_trans (by decide) hnt) e3) kV_X12_260 rfl rfl (Nat.le_of_ble_eq_true rfl) me_k63 (Nat.le_of_ble_eq_true rfl) (Nat.le_refl _) (Nat.le_of_ble_eq_true rfl) dX12_shares_32 ?_
      obtain ⟨rfl, rfl⟩ := me_sp h
      exact me_iret X hr hlk dX12_shares_35
    · have h := me_in c2 h
      refine me_iconst X dX12_shares_28 ic_0 ?_
      obtain ⟨rfl, rfl⟩ := me_sp h
      exact me_iret X hr hlk dX12_shares_29
  refine me_if_ne X 19 (by decide) dX12_shares_12 (fun c1 => ?_) (fun c1 => ?_)
  · have h := me_in c1 h
    refine me_iconst X dX12_shares_19 ic_0 ?_
    exact hj20_1 0 (me_s M 63 0 0) h
  · have h := me_ip c1 h
    refine me_iconst X dX12_shares_15 ic_1 ?_
    refine me_goto X 20 (by decide) dX12_shares_16 ?_
    exact hj20_1 1 (me_s M 63 0 0) h
def mX12_sound_63 (M : me_M)  : Option (Int32 × me_M) :=
  ((mX12_sharesBy_63 (me_s M 63 0 0) 1).bind fun (v1, M1) => (if v1 = 0 then ((mX12_sharesBy_63 M1 2).bind fun (v2, M2) => (if v2 = 0 then some (1, M2) else some (0, M2))) else some (0, M1)))
set_option maxRecDepth 100000 in
set_option maxHeartbeats 4000000 in
theorem ctX12_sound_63 {l : Launch} {n nt : Nat} (hn : 424 ≤ n) (hnt : 4 ≤ nt) {M : me_M} {r : Int32} {M' : me_M} (h : mX12_sound_63 M = some (r, M')) : me_Ct l yX12_sound cX12_sound 1 (some .boolean) 3 n nt (fun ad => [.ref (ad 63)]) M (fun _ => some (.int r)) M' := by
  unfold mX12_sound_63 at h
  refine me_enter (N0 := 424) RX12 rfl (plainFor_of_name pl_RX12) hn (Nat.le_trans (by decide) hnt) (fun _ => Nat.le_of_ble_eq_true rfl) ?_
  intro p e R s m args below meth c D cA ad tys A X hr hlk
  refine me_sub (L' := [(0, .ref (ad 63))]) [0] rfl ?_
  refine me_aload_n X (i := 0) 0 rfl dX12_sound_0 ?_
  refine me_iconst X dX12_sound_1 ic_0 ?_
  refine me_puti X kG_X12_105 (Nat.le_of_ble_eq_true rfl) me_k63 me_f63_0 dX12_sound_2 ?_
  refine me_aload_n X (i := 0) 0 rfl dX12_sound_5 ?_
  refine me_iconst X dX12_sound_6 ic_1 ?_
  obtain ⟨⟨v1, M1⟩, e1, h⟩ := me_bd h
  refine me_callVi X [.int 1] (ctX12_sharesBy_63 hn (Nat.le_trans (by decide) hnt) e1) kV_X12_260 rfl rfl (Nat.le_of_ble_eq_true rfl) me_k63 (Nat.le_of_ble_eq_true rfl) (Nat.le_refl _) (Nat.le_of_ble_eq_true rfl) dX12_sound_7 ?_
  refine me_if_ne X 25 (by decide) dX12_sound_10 (fun c1 => ?_) (fun c1 => ?_)
  · have h := me_in c1 h
    refine me_iconst X dX12_sound_25 ic_0 ?_
    obtain ⟨rfl, rfl⟩ := me_sp h
    exact me_zret X (by decide) hr hlk dX12_sound_26
  · have h := me_ip c1 h
    refine me_aload_n X (i := 0) 0 rfl dX12_sound_13 ?_
    refine me_iconst X dX12_sound_14 ic_2 ?_
    obtain ⟨⟨v2, M2⟩, e2, h⟩ := me_bd h
    refine me_callVi X [.int 2] (ctX12_sharesBy_63 hn (Nat.le_trans (by decide) hnt) e2) kV_X12_260 rfl rfl (Nat.le_of_ble_eq_true rfl) me_k63 (Nat.le_of_ble_eq_true rfl) (Nat.le_refl _) (Nat.le_of_ble_eq_true rfl) dX12_sound_15 ?_
    refine me_if_ne X 25 (by decide) dX12_sound_18 (fun c2 => ?_) (fun c2 => ?_)
    · have h := me_in c2 h
      refine me_iconst X dX12_sound_25 ic_0 ?_
      obtain ⟨rfl, rfl⟩ := me_sp h
      exact me_zret X (by decide) hr hlk dX12_sound_26
    · have h := me_ip c2 h
      refine me_iconst X dX12_sound_21 ic_1 ?_
      refine me_goto X 26 (by decide) dX12_sound_22 ?_
      obtain ⟨rfl, rfl⟩ := me_sp h
      exact me_zret X (by decide) hr hlk dX12_sound_26
def mX12_needless_63_J47 (v1 : Int32) (x3_1 : Int32) (x1_1 : Int32) (M3 : me_M) (s1 : Int32) : Option ((Int32 × Int32 × me_M) ⊕ (Int32 × me_M)) :=
  some (.inl ((x1_1 ||| s1), (x3_1 + 1), M3))
def mX12_needless_63_L15 (v1 : Int32) : (Int32 × Int32 × me_M) → Option ((Int32 × Int32 × me_M) ⊕ (Int32 × me_M))
  | (x1_1, x3_1, M2) => ((me_r M2 77 2 0).bind fun v2 => (if v2 ≤ x3_1 then some (.inr (x1_1, M2)) else ((mX12_sharesBy_63 (me_s M2 63 29 x3_1) 1).bind fun (v3, M3) => (if v3 = v1 then (mX12_needless_63_J47 v1 x3_1 x1_1 M3 (1 <<< (x3_1 &&& 31))) else (mX12_needless_63_J47 v1 x3_1 x1_1 M3 0)))))
def mX12_needless_63 (M : me_M)  : Option (Int32 × me_M) :=
  ((mX12_sharesBy_63 (me_s M 63 0 0) 1).bind fun (v1, M1) => ((me_l (mX12_needless_63_L15 v1) me_fu (0, 0, M1)).bind fun (y1_1, M4) => some (y1_1, (me_s M4 63 29 (-1)))))
set_option maxRecDepth 100000 in
set_option maxHeartbeats 4000000 in
theorem ctX12_needless_63 {l : Launch} {n nt : Nat} (hn : 424 ≤ n) (hnt : 4 ≤ nt) {M : me_M} {r : Int32} {M' : me_M} (h : mX12_needless_63 M = some (r, M')) : me_Ct l yX12_needless cX12_needless 4 (some .int) 3 n nt (fun ad => [.ref (ad 63)]) M (fun _ => some (.int r)) M' := by
  unfold mX12_needless_63 at h
  refine me_enter (N0 := 424) RX12 rfl (plainFor_of_name pl_RX12) hn (Nat.le_trans (by decide) hnt) (fun _ => Nat.le_of_ble_eq_true rfl) ?_
  intro p e R s m args below meth c D cA ad tys A X hr hlk
  refine me_sub (L' := [(0, .ref (ad 63))]) [0] rfl ?_
  refine me_aload_n X (i := 0) 0 rfl dX12_needless_0 ?_
  refine me_iconst X dX12_needless_1 ic_0 ?_
  refine me_puti X kG_X12_105 (Nat.le_of_ble_eq_true rfl) me_k63 me_f63_0 dX12_needless_2 ?_
  refine me_iconst X dX12_needless_5 ic_0 ?_
  refine me_istore_n X (i := 1) [(1, .int 0), (0, .ref (ad 63))] (Nat.le_of_ble_eq_true rfl) rfl dX12_needless_6 ?_
  refine me_aload_n X (i := 0) 1 rfl dX12_needless_7 ?_
  refine me_iconst X dX12_needless_8 ic_1 ?_
  obtain ⟨⟨v1, M1⟩, e1, h⟩ := me_bd h
  refine me_callVi X [.int 1] (ctX12_sharesBy_63 hn (Nat.le_trans (by decide) hnt) e1) kV_X12_260 rfl rfl (Nat.le_of_ble_eq_true rfl) me_k63 (Nat.le_of_ble_eq_true rfl) (Nat.le_refl _) (Nat.le_of_ble_eq_true rfl) dX12_needless_9 ?_
  refine me_istore_n X (i := 2) [(2, .int v1), (1, .int 0), (0, .ref (ad 63))] (Nat.le_of_ble_eq_true rfl) rfl dX12_needless_12 ?_
  refine me_iconst X dX12_needless_13 ic_0 ?_
  refine me_istore_n X (i := 3) [(3, .int 0), (2, .int v1), (1, .int 0), (0, .ref (ad 63))] (Nat.le_of_ble_eq_true rfl) rfl dX12_needless_14 ?_
  obtain ⟨⟨y1_1, M4⟩, hq1, h⟩ := me_bd h
  have hx1 : me_W p l e R s m args below meth c 0 0 (MQ below (me_Qc D cA ad n A (some (.int r)) M') args s 0 0 A) D cA ad n 4 A 55 [(0, .ref (ad 63)), (1, .int y1_1)] [] M4 := by
    refine me_aload_n X (i := 0) 0 rfl dX12_needless_55 ?_
    refine me_iconst X dX12_needless_56 ic_m1 ?_
    refine me_puti X kG_X12_72 (Nat.le_of_ble_eq_true rfl) me_k63 me_f63_29 dX12_needless_57 ?_
    refine me_iload_n X (i := 1) 1 rfl dX12_needless_60 ?_
    obtain ⟨rfl, rfl⟩ := me_sp h
    exact me_iret X hr hlk dX12_needless_61
  refine me_sub (L' := [(0, .ref (ad 63)), (1, .int 0), (2, .int v1), (3, .int 0)]) [3, 2, 1, 0] rfl ?_
  refine me_l_W (b := (mX12_needless_63_L15 v1)) (P := fun w => me_W p l e R s m args below meth c 0 0 (MQ below (me_Qc D cA ad n A (some (.int r)) M') args s 0 0 A) D cA ad n 4 A 15 [(0, .ref (ad 63)), (1, .int w.1), (2, .int v1), (3, .int w.2.1)] [] w.2.2) (r := (y1_1, M4)) ?_ me_fu (0, 0, M1) hq1
  rintro ⟨x1_1, x3_1, M2⟩ z1 h hb1 - hr1
  unfold mX12_needless_63_L15 at h
  refine me_iload_n X (i := 3) 3 rfl dX12_needless_15 ?_
  refine me_aload_n X (i := 0) 0 rfl dX12_needless_16 ?_
  refine me_getr X 77 kF_X12_49 (Nat.le_of_ble_eq_true rfl) me_k63 me_f63_14 dX12_needless_17 ?_
  refine me_iconst X dX12_needless_20 ic_0 ?_
  obtain ⟨v2, e2, h⟩ := me_bd h
  refine me_iald X (Nat.le_of_ble_eq_true rfl) me_k77 e2 dX12_needless_21 ?_
  refine me_icmp_ge X 55 (by decide) dX12_needless_22 (fun c1 => ?_) (fun c1 => ?_)
  · have h := me_ip c1 h
    obtain rfl := me_so h
    have q := hr1 _ rfl
    refine me_sub (L' := [(0, .ref (ad 63)), (1, .int x1_1)]) [0, 1] rfl ?_
    cases q
    exact hx1
  · have h := me_in c1 h
    refine me_aload_n X (i := 0) 0 rfl dX12_needless_25 ?_
    refine me_iload_n X (i := 3) 3 rfl dX12_needless_26 ?_
    refine me_puti X kG_X12_72 (Nat.le_of_ble_eq_true rfl) me_k63 me_f63_29 dX12_needless_27 ?_
    refine me_iload_n X (i := 1) 1 rfl dX12_needless_30 ?_
    refine me_aload_n X (i := 0) 0 rfl dX12_needless_31 ?_
    refine me_iconst X dX12_needless_32 ic_1 ?_
    obtain ⟨⟨v3, M3⟩, e3, h⟩ := me_bd h
    refine me_callVi X [.int 1] (ctX12_sharesBy_63 hn (Nat.le_trans (by decide) hnt) e3) kV_X12_260 rfl rfl (Nat.le_of_ble_eq_true rfl) me_k63 (Nat.le_of_ble_eq_true rfl) (Nat.le_refl _) (Nat.le_of_ble_eq_true rfl) dX12_needless_33 ?_
    refine me_iload_n X (i := 2) 2 rfl dX12_needless_36 ?_
    have hj47_1 : ∀ (s1 : Int32), mX12_needless_63_J47 v1 x3_1 x1_1 M3 s1 = some z1 → me_W p l e R s m args below meth c 0 0 (MQ below (me_Qc D cA ad n A (some (.int r)) M') args s 0 0 A) D cA ad n 4 A 47 [(0, .ref (ad 63)), (2, .int v1), (3, .int x3_1)] [.int s1, .int x1_1] M3 := by
      intro s1 h
      unfold mX12_needless_63_J47 at h
      refine me_ior X dX12_needless_47 ?_
      refine me_istore_n X (i := 1) [(1, .int (x1_1 ||| s1)), (0, .ref (ad 63)), (2, .int v1), (3, .int x3_1)] (Nat.le_of_ble_eq_true rfl) rfl dX12_needless_48 ?_
      refine me_iinc X (v := (x3_1 + 1)) 3 rfl (in_1 _) [(3, .int (x3_1 + 1)), (1, .int (x1_1 ||| s1)), (0, .ref (ad 63)), (2, .int v1)] (Nat.le_of_ble_eq_true rfl) rfl dX12_needless_49 ?_
      refine me_goto X 15 (by decide) dX12_needless_52 ?_
      obtain rfl := me_so h
      refine me_sub (L' := [(0, .ref (ad 63)), (1, .int (x1_1 ||| s1)), (2, .int v1), (3, .int (x3_1 + 1))]) [2, 1, 3, 0] rfl ?_
      exact hb1 ((x1_1 ||| s1), (x3_1 + 1), M3) rfl
    refine me_icmp_ne X 46 (by decide) dX12_needless_37 (fun c2 => ?_) (fun c2 => ?_)
    · have h := me_in c2 h
      refine me_iconst X dX12_needless_46 ic_0 ?_
      refine me_sub (L' := [(0, .ref (ad 63)), (2, .int v1), (3, .int x3_1)]) [0, 2, 3] rfl ?_
      exact hj47_1 0 h
    · have h := me_ip c2 h
      refine me_iconst X dX12_needless_40 ic_1 ?_
      refine me_iload_n X (i := 3) 3 rfl dX12_needless_41 ?_
      refine me_ishl X dX12_needless_42 ?_
      refine me_goto X 47 (by decide) dX12_needless_43 ?_
      refine me_sub (L' := [(0, .ref (ad 63)), (2, .int v1), (3, .int x3_1)]) [0, 2, 3] rfl ?_
      exact hj47_1 (1 <<< (x3_1 &&& 31)) h
def mX12_digit_63_J66 (p0 : Int32) (p1 : Int32) (p2 : Int32) (M3 : me_M) (s2 : Int32) : Option (Int32 × me_M) :=
  ((mX12_bad_63 M3 s2 2 1).bind fun (v7, M4) => (if v7 = 0 then ((me_a 8 93 p0).bind fun a1 => ((me_a 3 (109 + 3 * (a1 - 93)) p2).bind fun a2 => ((me_r M4 a2 5 p1).bind fun v8 => some (v8, M4)))) else some (0, M4)))
def mX12_digit_63_J43 (p0 : Int32) (p1 : Int32) (p2 : Int32) (s1 : Int32) (M2 : me_M) : Option (Int32 × me_M) :=
  ((mX12_bad_63 M2 s1 1 0).bind fun (v5, M3) => (if v5 = 0 then ((mX12_in p2 0 2).bind fun v6 => (if v6 = 0 then (mX12_digit_63_J66 p0 p1 p2 M3 1) else (mX12_digit_63_J66 p0 p1 p2 M3 0))) else some (0, M3)))
def mX12_digit_63_J38 (p0 : Int32) (p1 : Int32) (p2 : Int32) (M1 : me_M) : Option (Int32 × me_M) :=
  (mX12_digit_63_J43 p0 p1 p2 1 M1)
def mX12_digit_63 (M : me_M) (p0 : Int32) (p1 : Int32) (p2 : Int32) : Option (Int32 × me_M) :=
  ((me_r (me_s M 63 0 0) 77 2 0).bind fun v1 => ((mX12_in p0 0 (v1 - 1)).bind fun v2 => (if v2 = 0 then (mX12_digit_63_J38 p0 p1 p2 (me_s M 63 0 0)) else ((me_r (me_s M 63 0 0) 78 2 0).bind fun v3 => ((mX12_in p1 0 (v3 - 1)).bind fun v4 => (if v4 = 0 then (mX12_digit_63_J38 p0 p1 p2 (me_s M 63 0 0)) else (mX12_digit_63_J43 p0 p1 p2 0 (me_s M 63 0 0))))))))
set_option maxRecDepth 100000 in
set_option maxHeartbeats 4000000 in
theorem ctX12_digit_63 {l : Launch} {n nt : Nat} (hn : 424 ≤ n) (hnt : 4 ≤ nt) {M : me_M} {p0 : Int32} {p1 : Int32} {p2 : Int32} {r : Int32} {M' : me_M} (h : mX12_digit_63 M p0 p1 p2 = some (r, M')) : me_Ct l yX12_digit cX12_digit 4 (some .int) 1 n nt (fun ad => [.ref (ad 63), .int p0, .int p1, .int p2]) M (fun _ => some (.int r)) M' := by
  unfold mX12_digit_63 at h
  refine me_enter (N0 := 424) RX12 rfl (plainFor_of_name pl_RX12) hn (Nat.le_trans (by decide) hnt) (fun _ => Nat.le_of_ble_eq_true rfl) ?_
  intro p e R s m args below meth c D cA ad tys A X hr hlk
  refine me_sub (L' := [(0, .ref (ad 63)), (1, .int p0), (2, .int p1), (3, .int p2)]) [0, 1, 2, 3] rfl ?_
  refine me_aload_n X (i := 0) 0 rfl dX12_digit_0 ?_
  refine me_iconst X dX12_digit_1 ic_0 ?_
  refine me_puti X kG_X12_105 (Nat.le_of_ble_eq_true rfl) me_k63 me_f63_0 dX12_digit_2 ?_
  refine me_aload_n X (i := 0) 0 rfl dX12_digit_5 ?_
  refine me_iload_n X (i := 1) 1 rfl dX12_digit_6 ?_
  refine me_iconst X dX12_digit_7 ic_0 ?_
  refine me_aload_n X (i := 0) 0 rfl dX12_digit_8 ?_
  refine me_getr X 77 kF_X12_49 (Nat.le_of_ble_eq_true rfl) me_k63 me_f63_14 dX12_digit_9 ?_
  refine me_iconst X dX12_digit_12 ic_0 ?_
  obtain ⟨v1, e1, h⟩ := me_bd h
  refine me_iald X (Nat.le_of_ble_eq_true rfl) me_k77 e1 dX12_digit_13 ?_
  refine me_iconst X dX12_digit_14 ic_1 ?_
  refine me_isub X dX12_digit_15 ?_
  obtain ⟨v2, e2, h⟩ := me_bd h
  refine me_callSi X [.int p0, .int 0, .int (v1 - 1)] (ctX12_in hn (Nat.le_trans (by decide) hnt) e2) kS_X12_108 rfl rfl (Nat.le_of_ble_eq_true rfl) (Nat.le_refl _) (Nat.le_of_ble_eq_true rfl) dX12_digit_16 ?_
  have hj43_2 : ∀ (s1 : Int32) (M2 : me_M), mX12_digit_63_J43 p0 p1 p2 s1 M2 = some (r, M') → me_W p l e R s m args below meth c 0 0 (MQ below (me_Qc D cA ad n A (some (.int r)) M') args s 0 0 A) D cA ad n 4 A 43 [(0, .ref (ad 63)), (1, .int p0), (2, .int p1), (3, .int p2)] [.int s1, .ref (ad 63)] M2 := by
    intro s1 M2 h
    unfold mX12_digit_63_J43 at h
    refine me_iconst X dX12_digit_43 ic_1 ?_
    refine me_iconst X dX12_digit_44 ic_0 ?_
    obtain ⟨⟨v5, M3⟩, e5, h⟩ := me_bd h
    refine me_callVi X [.int s1, .int 1, .int 0] (ctX12_bad_63 hn (Nat.le_trans (by decide) hnt) e5) kV_X12_122 rfl rfl (Nat.le_of_ble_eq_true rfl) me_k63 (Nat.le_of_ble_eq_true rfl) (Nat.le_refl _) (Nat.le_of_ble_eq_true rfl) dX12_digit_45 ?_
    refine me_if_ne X 74 (by decide) dX12_digit_48 (fun c3 => ?_) (fun c3 => ?_)
    · have h := me_in c3 h
      refine me_iconst X dX12_digit_74 ic_0 ?_
      obtain ⟨rfl, rfl⟩ := me_sp h
      exact me_iret X hr hlk dX12_digit_75
    · have h := me_ip c3 h
      refine me_aload_n X (i := 0) 0 rfl dX12_digit_51 ?_
      refine me_iload_n X (i := 3) 3 rfl dX12_digit_52 ?_
      refine me_iconst X dX12_digit_53 ic_0 ?_
      refine me_iconst X dX12_digit_54 ic_2 ?_
      obtain ⟨v6, e6, h⟩ := me_bd h
      refine me_callSi X [.int p2, .int 0, .int 2] (ctX12_in hn (Nat.le_trans (by decide) hnt) e6) kS_X12_108 rfl rfl (Nat.le_of_ble_eq_true rfl) (Nat.le_refl _) (Nat.le_of_ble_eq_true rfl) dX12_digit_55 ?_
      have hj66_3 : ∀ (s2 : Int32), mX12_digit_63_J66 p0 p1 p2 M3 s2 = some (r, M') → me_W p l e R s m args below meth c 0 0 (MQ below (me_Qc D cA ad n A (some (.int r)) M') args s 0 0 A) D cA ad n 4 A 66 [(0, .ref (ad 63)), (1, .int p0), (2, .int p1), (3, .int p2)] [.int s2, .ref (ad 63)] M3 := by
        intro s2 h
        unfold mX12_digit_63_J66 at h
        refine me_iconst X dX12_digit_66 ic_2 ?_
        refine me_iconst X dX12_digit_67 ic_1 ?_
        obtain ⟨⟨v7, M4⟩, e7, h⟩ := me_bd h
        refine me_callVi X [.int s2, .int 2, .int 1] (ctX12_bad_63 hn (Nat.le_trans (by decide) hnt) e7) kV_X12_122 rfl rfl (Nat.le_of_ble_eq_true rfl) me_k63 (Nat.le_of_ble_eq_true rfl) (Nat.le_refl _) (Nat.le_of_ble_eq_true rfl) dX12_digit_68 ?_
        refine me_if_eq X 76 (by decide) dX12_digit_71 (fun c5 => ?_) (fun c5 => ?_)
        · have h := me_ip c5 h
          refine me_aload_n X (i := 0) 0 rfl dX12_digit_76 ?_
          refine me_getr X 90 kF_X12_57 (Nat.le_of_ble_eq_true rfl) me_k63 me_f63_16 dX12_digit_77 ?_
          refine me_iconst X dX12_digit_80 ic_0 ?_
          refine me_aald X (j := 91) (Nat.le_of_ble_eq_true rfl) ⟨by decide, by decide, Nat.lt_of_lt_of_le (by decide) hnt⟩ me_k90 (by decide) dX12_digit_81 ?_
          refine me_iload_n X (i := 1) 1 rfl dX12_digit_82 ?_
          obtain ⟨a1, e8, h⟩ := me_bd h
          have f_a1 := me_f93 e8
          refine me_aald X (Nat.le_of_ble_eq_true rfl) ⟨by decide, by decide, Nat.lt_of_lt_of_le (by decide) hnt⟩ me_k91 e8 dX12_digit_83 ?_
          refine me_iload_n X (i := 3) 3 rfl dX12_digit_84 ?_
          obtain ⟨a2, e9, h⟩ := me_bd h
          have f_a2 := me_fdig f_a1 e9
          refine me_aald X f_a1.2.1 ⟨by decide, by decide, Nat.lt_of_lt_of_le (by decide) hnt⟩ f_a1.1 e9 dX12_digit_85 ?_
          refine me_iload_n X (i := 2) 2 rfl dX12_digit_86 ?_
          obtain ⟨v8, e10, h⟩ := me_bd h
          refine me_iald X f_a2.2 f_a2.1 e10 dX12_digit_87 ?_
          obtain ⟨rfl, rfl⟩ := me_sp h
          exact me_iret X hr hlk dX12_digit_88
        · have h := me_in c5 h
          refine me_iconst X dX12_digit_74 ic_0 ?_
          obtain ⟨rfl, rfl⟩ := me_sp h
          exact me_iret X hr hlk dX12_digit_75
      refine me_if_ne X 65 (by decide) dX12_digit_58 (fun c4 => ?_) (fun c4 => ?_)
      · have h := me_in c4 h
        refine me_iconst X dX12_digit_65 ic_0 ?_
        exact hj66_3 0 h
      · have h := me_ip c4 h
        refine me_iconst X dX12_digit_61 ic_1 ?_
        refine me_goto X 66 (by decide) dX12_digit_62 ?_
        exact hj66_3 1 h
  have hj38_1 : ∀ (M1 : me_M), mX12_digit_63_J38 p0 p1 p2 M1 = some (r, M') → me_W p l e R s m args below meth c 0 0 (MQ below (me_Qc D cA ad n A (some (.int r)) M') args s 0 0 A) D cA ad n 4 A 38 [(0, .ref (ad 63)), (1, .int p0), (2, .int p1), (3, .int p2)] [.ref (ad 63)] M1 := by
    intro M1 h
    unfold mX12_digit_63_J38 at h
    refine me_iconst X dX12_digit_38 ic_1 ?_
    refine me_goto X 43 (by decide) dX12_digit_39 ?_
    exact hj43_2 1 M1 h
  refine me_if_eq X 38 (by decide) dX12_digit_19 (fun c1 => ?_) (fun c1 => ?_)
  · have h := me_ip c1 h
    exact hj38_1 (me_s M 63 0 0) h
  · have h := me_in c1 h
    refine me_iload_n X (i := 2) 2 rfl dX12_digit_22 ?_
    refine me_iconst X dX12_digit_23 ic_0 ?_
    refine me_aload_n X (i := 0) 0 rfl dX12_digit_24 ?_
    refine me_getr X 78 kF_X12_52 (Nat.le_of_ble_eq_true rfl) me_k63 me_f63_15 dX12_digit_25 ?_
    refine me_iconst X dX12_digit_28 ic_0 ?_
    obtain ⟨v3, e3, h⟩ := me_bd h
    refine me_iald X (Nat.le_of_ble_eq_true rfl) me_k78 e3 dX12_digit_29 ?_
    refine me_iconst X dX12_digit_30 ic_1 ?_
    refine me_isub X dX12_digit_31 ?_
    obtain ⟨v4, e4, h⟩ := me_bd h
    refine me_callSi X [.int p1, .int 0, .int (v3 - 1)] (ctX12_in hn (Nat.le_trans (by decide) hnt) e4) kS_X12_108 rfl rfl (Nat.le_of_ble_eq_true rfl) (Nat.le_refl _) (Nat.le_of_ble_eq_true rfl) dX12_digit_32 ?_
    refine me_if_ne X 42 (by decide) dX12_digit_35 (fun c2 => ?_) (fun c2 => ?_)
    · have h := me_in c2 h
      refine me_iconst X dX12_digit_42 ic_0 ?_
      exact hj43_2 0 (me_s M 63 0 0) h
    · have h := me_ip c2 h
      exact hj38_1 (me_s M 63 0 0) h
def mX12_laysTurns_63_J167 (p0 : Int32) (x2_3 : Int32) (x3_1 : Int32) (v1 : Int32) (x5_2 : Int32) (x6_2 : Int32) (v2 : Int32) (v3 : Int32) (v4 : Int32) (s1 : Int32) (x11_1 : Int32) (M5 : me_M) (s4 : Int32) : Option ((Int32 × Int32 × me_M) ⊕ (Int32 × me_M)) :=
  ((me_t M5 86 24 x2_3 s4).bind fun M6 => some (.inl ((x2_3 + 1), (x11_1 + 1), M6)))
def mX12_laysTurns_63_J136 (p0 : Int32) (x2_3 : Int32) (x3_1 : Int32) (v1 : Int32) (x5_2 : Int32) (x6_2 : Int32) (v2 : Int32) (v3 : Int32) (v4 : Int32) (s1 : Int32) (x11_1 : Int32) (M3 : me_M) (s3 : Int32) : Option ((Int32 × Int32 × me_M) ⊕ (Int32 × me_M)) :=
  ((me_t M3 84 24 x2_3 s3).bind fun M4 => ((me_t M4 85 24 x2_3 x6_2).bind fun M5 => (if x11_1 = ((v4 - v3) - 1) then (mX12_laysTurns_63_J167 p0 x2_3 x3_1 v1 x5_2 x6_2 v2 v3 v4 s1 x11_1 M5 1) else (mX12_laysTurns_63_J167 p0 x2_3 x3_1 v1 x5_2 x6_2 v2 v3 v4 s1 x11_1 M5 0))))
def mX12_laysTurns_63_J120 (p0 : Int32) (x2_3 : Int32) (x3_1 : Int32) (v1 : Int32) (x5_2 : Int32) (x6_2 : Int32) (v2 : Int32) (v3 : Int32) (v4 : Int32) (s1 : Int32) (x11_1 : Int32) (M2 : me_M) (s2 : Int32) : Option ((Int32 × Int32 × me_M) ⊕ (Int32 × me_M)) :=
  ((me_t M2 83 24 x2_3 s2).bind fun M3 => (if s1 = 0 then (mX12_laysTurns_63_J136 p0 x2_3 x3_1 v1 x5_2 x6_2 v2 v3 v4 s1 x11_1 M3 1) else (mX12_laysTurns_63_J136 p0 x2_3 x3_1 v1 x5_2 x6_2 v2 v3 v4 s1 x11_1 M3 0)))
def mX12_laysTurns_63_L85 (p0 : Int32) (x3_1 : Int32) (v1 : Int32) (x5_2 : Int32) (x6_2 : Int32) (v2 : Int32) (v3 : Int32) (v4 : Int32) (s1 : Int32) : (Int32 × Int32 × me_M) → Option ((Int32 × Int32 × me_M) ⊕ (Int32 × me_M))
  | (x2_3, x11_1, M2) => (if (v4 - v3) ≤ x11_1 then some (.inr (x2_3, M2)) else (if s1 = 0 then (mX12_laysTurns_63_J120 p0 x2_3 x3_1 v1 x5_2 x6_2 v2 v3 v4 s1 x11_1 M2 (v3 + x11_1)) else (mX12_laysTurns_63_J120 p0 x2_3 x3_1 v1 x5_2 x6_2 v2 v3 v4 s1 x11_1 M2 ((v4 - 1) - x11_1))))
def mX12_laysTurns_63_J194 (p0 : Int32) (y2_1 : Int32) (x3_1 : Int32) (v1 : Int32) (x6_2 : Int32) (M7 : me_M) (s5 : Int32) : Option ((Int32 × Int32 × Int32 × me_M) ⊕ (me_M)) :=
  some (.inl (y2_1, s5, (x6_2 + 1), M7))
def mX12_laysTurns_63_J187 (p0 : Int32) (y2_1 : Int32) (x3_1 : Int32) (v1 : Int32) (x6_2 : Int32) (v2 : Int32) (M7 : me_M)  : Option ((Int32 × Int32 × Int32 × me_M) ⊕ (me_M)) :=
  (mX12_laysTurns_63_J194 p0 y2_1 x3_1 v1 x6_2 M7 v2)
def mX12_laysTurns_63_J80 (p0 : Int32) (x2_2 : Int32) (x3_1 : Int32) (v1 : Int32) (x5_2 : Int32) (x6_2 : Int32) (v2 : Int32) (v3 : Int32) (v4 : Int32) (M1 : me_M) (s1 : Int32) : Option ((Int32 × Int32 × Int32 × me_M) ⊕ (me_M)) :=
  ((me_l (mX12_laysTurns_63_L85 p0 x3_1 v1 x5_2 x6_2 v2 v3 v4 s1) me_fu (x2_2, 0, M1)).bind fun (y2_1, M7) => (if x6_2 = 0 then (mX12_laysTurns_63_J187 p0 y2_1 x3_1 v1 x6_2 v2 M7 ) else (if s1 = 0 then (mX12_laysTurns_63_J194 p0 y2_1 x3_1 v1 x6_2 M7 x5_2) else (mX12_laysTurns_63_J187 p0 y2_1 x3_1 v1 x6_2 v2 M7 ))))
def mX12_laysTurns_63_J79 (p0 : Int32) (x2_2 : Int32) (x3_1 : Int32) (v1 : Int32) (x5_2 : Int32) (x6_2 : Int32) (v2 : Int32) (v3 : Int32) (v4 : Int32) (M1 : me_M)  : Option ((Int32 × Int32 × Int32 × me_M) ⊕ (me_M)) :=
  (mX12_laysTurns_63_J80 p0 x2_2 x3_1 v1 x5_2 x6_2 v2 v3 v4 M1 0)
def mX12_laysTurns_63_L21 (p0 : Int32) (x3_1 : Int32) (v1 : Int32) : (Int32 × Int32 × Int32 × me_M) → Option ((Int32 × Int32 × Int32 × me_M) ⊕ (me_M))
  | (x2_2, x5_2, x6_2, M1) => (if v1 ≤ x6_2 then some (.inr M1) else ((me_a 8 93 p0).bind fun a1 => ((me_a 3 (109 + 3 * (a1 - 93)) 0).bind fun a2 => ((me_r M1 a2 5 x6_2).bind fun v2 => ((me_dv (v2 * x3_1) v1).bind fun v3 => ((me_dv ((v2 + 1) * x3_1) v1).bind fun v4 => (if x6_2 ≤ 0 then (mX12_laysTurns_63_J79 p0 x2_2 x3_1 v1 x5_2 x6_2 v2 v3 v4 M1 ) else (if x5_2 ≤ v2 then (mX12_laysTurns_63_J79 p0 x2_2 x3_1 v1 x5_2 x6_2 v2 v3 v4 M1 ) else (mX12_laysTurns_63_J80 p0 x2_2 x3_1 v1 x5_2 x6_2 v2 v3 v4 M1 1)))))))))
def mX12_laysTurns_63_K21 (p0 : Int32) (v1 : Int32) (M : me_M) (x2_1 : Int32) (x3_1 : Int32) (x5_1 : Int32) (x6_1 : Int32) : Option me_M :=
  ((me_l (mX12_laysTurns_63_L21 p0 x3_1 v1) me_fu (x2_1, x5_1, x6_1, M)).bind fun M8 => some M8)
def mX12_laysTurns_63 (M : me_M) (p0 : Int32) : Option me_M :=
  ((me_r M 78 2 0).bind fun v1 => (mX12_laysTurns_63_K21 p0 v1 M 0 (M.1 63 20) (-1) 0))
set_option maxRecDepth 100000 in
set_option maxHeartbeats 4000000 in
theorem ctX12_laysTurns_63 {l : Launch} {n nt : Nat} (hn : 424 ≤ n) (hnt : 4 ≤ nt) {M : me_M} {p0 : Int32} {M' : me_M} (h : mX12_laysTurns_63 M p0 = some M') : me_Ct l yX12_laysTurns cX12_laysTurns 12 none 0 n nt (fun ad => [.ref (ad 63), .int p0]) M (fun _ => none) M' := by
  unfold mX12_laysTurns_63 at h
  refine me_enter (N0 := 424) RX12 rfl (plainFor_of_name pl_RX12) hn (Nat.le_trans (by decide) hnt) (fun _ => Nat.le_of_ble_eq_true rfl) ?_
  intro p e R s m args below meth c D cA ad tys A X hr hlk
  refine me_sub (L' := [(0, .ref (ad 63)), (1, .int p0)]) [0, 1] rfl ?_
  refine me_iconst X dX12_laysTurns_0 ic_0 ?_
  refine me_istore_n X (i := 2) [(2, .int 0), (0, .ref (ad 63)), (1, .int p0)] (Nat.le_of_ble_eq_true rfl) rfl dX12_laysTurns_1 ?_
  refine me_aload_n X (i := 0) 1 rfl dX12_laysTurns_2 ?_
  refine me_geti X kF_X12_263 (Nat.le_of_ble_eq_true rfl) me_k63 me_f63_20 dX12_laysTurns_3 ?_
  refine me_istore_n X (i := 3) [(3, .int (M.1 63 20)), (2, .int 0), (0, .ref (ad 63)), (1, .int p0)] (Nat.le_of_ble_eq_true rfl) rfl dX12_laysTurns_6 ?_
  refine me_aload_n X (i := 0) 2 rfl dX12_laysTurns_7 ?_
  refine me_getr X 78 kF_X12_52 (Nat.le_of_ble_eq_true rfl) me_k63 me_f63_15 dX12_laysTurns_8 ?_
  refine me_iconst X dX12_laysTurns_11 ic_0 ?_
  obtain ⟨v1, e1, h⟩ := me_bd h
  refine me_iald X (Nat.le_of_ble_eq_true rfl) me_k78 e1 dX12_laysTurns_12 ?_
  refine me_istore X (i := 4) [(4, .int v1), (3, .int (M.1 63 20)), (2, .int 0), (0, .ref (ad 63)), (1, .int p0)] (Nat.le_of_ble_eq_true rfl) rfl dX12_laysTurns_13 ?_
  refine me_iconst X dX12_laysTurns_15 ic_m1 ?_
  refine me_istore X (i := 5) [(5, .int (-1)), (4, .int v1), (3, .int (M.1 63 20)), (2, .int 0), (0, .ref (ad 63)), (1, .int p0)] (Nat.le_of_ble_eq_true rfl) rfl dX12_laysTurns_16 ?_
  refine me_iconst X dX12_laysTurns_18 ic_0 ?_
  refine me_istore X (i := 6) [(6, .int 0), (5, .int (-1)), (4, .int v1), (3, .int (M.1 63 20)), (2, .int 0), (0, .ref (ad 63)), (1, .int p0)] (Nat.le_of_ble_eq_true rfl) rfl dX12_laysTurns_19 ?_
  have hk21_0 : ∀ (x2_1 : Int32) (x3_1 : Int32) (x5_1 : Int32) (x6_1 : Int32), mX12_laysTurns_63_K21 p0 v1 M x2_1 x3_1 x5_1 x6_1 = some M' → me_W p l e R s m args below meth c 0 0 (MQ below (me_Qc D cA ad n A none M') args s 0 0 A) D cA ad n 12 A 21 [(0, .ref (ad 63)), (1, .int p0), (2, .int x2_1), (3, .int x3_1), (4, .int v1), (5, .int x5_1), (6, .int x6_1)] [] M := by
    intro x2_1 x3_1 x5_1 x6_1 h
    unfold mX12_laysTurns_63_K21 at h
    obtain ⟨M8, hq1, h⟩ := me_bd h
    have hx2 : me_W p l e R s m args below meth c 0 0 (MQ below (me_Qc D cA ad n A none M') args s 0 0 A) D cA ad n 12 A 202 [] [] M8 := by
      obtain rfl := me_so h
      exact me_vret X hr hlk dX12_laysTurns_202
    refine me_l_W (b := (mX12_laysTurns_63_L21 p0 x3_1 v1)) (P := fun w => me_W p l e R s m args below meth c 0 0 (MQ below (me_Qc D cA ad n A none M') args s 0 0 A) D cA ad n 12 A 21 [(0, .ref (ad 63)), (1, .int p0), (2, .int w.1), (3, .int x3_1), (4, .int v1), (5, .int w.2.1), (6, .int w.2.2.1)] [] w.2.2.2) (r := M8) ?_ me_fu (x2_1, x5_1, x6_1, M) hq1
    rintro ⟨x2_2, x5_2, x6_2, M1⟩ z1 h hb1 - hr1
    unfold mX12_laysTurns_63_L21 at h
    refine me_iload X (i := 6) 6 rfl dX12_laysTurns_21 ?_
    refine me_iload X (i := 4) 4 rfl dX12_laysTurns_23 ?_
    refine me_icmp_ge X 202 (by decide) dX12_laysTurns_25 (fun c1 => ?_) (fun c1 => ?_)
    · have h := me_ip c1 h
      obtain rfl := me_so h
      have q := hr1 _ rfl
      refine me_sub (L' := []) [] rfl ?_
      cases q
      exact hx2
    · have h := me_in c1 h
      refine me_aload_n X (i := 0) 0 rfl dX12_laysTurns_28 ?_
      refine me_getr X 90 kF_X12_57 (Nat.le_of_ble_eq_true rfl) me_k63 me_f63_16 dX12_laysTurns_29 ?_
      refine me_iconst X dX12_laysTurns_32 ic_0 ?_
      refine me_aald X (j := 91) (Nat.le_of_ble_eq_true rfl) ⟨by decide, by decide, Nat.lt_of_lt_of_le (by decide) hnt⟩ me_k90 (by decide) dX12_laysTurns_33 ?_
      refine me_iload_n X (i := 1) 1 rfl dX12_laysTurns_34 ?_
      obtain ⟨a1, e2, h⟩ := me_bd h
      have f_a1 := me_f93 e2
      refine me_aald X (Nat.le_of_ble_eq_true rfl) ⟨by decide, by decide, Nat.lt_of_lt_of_le (by decide) hnt⟩ me_k91 e2 dX12_laysTurns_35 ?_
      refine me_iconst X dX12_laysTurns_36 ic_0 ?_
      obtain ⟨a2, e3, h⟩ := me_bd h
      have f_a2 := me_fdig f_a1 e3
      refine me_aald X f_a1.2.1 ⟨by decide, by decide, Nat.lt_of_lt_of_le (by decide) hnt⟩ f_a1.1 e3 dX12_laysTurns_37 ?_
      refine me_iload X (i := 6) 6 rfl dX12_laysTurns_38 ?_
      obtain ⟨v2, e4, h⟩ := me_bd h
      refine me_iald X f_a2.2 f_a2.1 e4 dX12_laysTurns_40 ?_
      refine me_istore X (i := 7) [(7, .int v2), (0, .ref (ad 63)), (1, .int p0), (2, .int x2_2), (3, .int x3_1), (4, .int v1), (5, .int x5_2), (6, .int x6_2)] (Nat.le_of_ble_eq_true rfl) rfl dX12_laysTurns_41 ?_
      refine me_iload X (i := 7) 0 rfl dX12_laysTurns_43 ?_
      refine me_iload_n X (i := 3) 4 rfl dX12_laysTurns_45 ?_
      refine me_imul X dX12_laysTurns_46 ?_
      refine me_iload X (i := 4) 5 rfl dX12_laysTurns_47 ?_
      obtain ⟨v3, e5, h⟩ := me_bd h
      refine me_idiv X e5 dX12_laysTurns_49 ?_
      refine me_istore X (i := 8) [(8, .int v3), (7, .int v2), (0, .ref (ad 63)), (1, .int p0), (2, .int x2_2), (3, .int x3_1), (4, .int v1), (5, .int x5_2), (6, .int x6_2)] (Nat.le_of_ble_eq_true rfl) rfl dX12_laysTurns_50 ?_
      refine me_iload X (i := 7) 1 rfl dX12_laysTurns_52 ?_
      refine me_iconst X dX12_laysTurns_54 ic_1 ?_
      refine me_iadd X dX12_laysTurns_55 ?_
      refine me_iload_n X (i := 3) 5 rfl dX12_laysTurns_56 ?_
      refine me_imul X dX12_laysTurns_57 ?_
      refine me_iload X (i := 4) 6 rfl dX12_laysTurns_58 ?_
      obtain ⟨v4, e6, h⟩ := me_bd h
      refine me_idiv X e6 dX12_laysTurns_60 ?_
      refine me_istore X (i := 9) [(9, .int v4), (8, .int v3), (7, .int v2), (0, .ref (ad 63)), (1, .int p0), (2, .int x2_2), (3, .int x3_1), (4, .int v1), (5, .int x5_2), (6, .int x6_2)] (Nat.le_of_ble_eq_true rfl) rfl dX12_laysTurns_61 ?_
      refine me_iload X (i := 6) 9 rfl dX12_laysTurns_63 ?_
      have hj80_2 : ∀ (s1 : Int32), mX12_laysTurns_63_J80 p0 x2_2 x3_1 v1 x5_2 x6_2 v2 v3 v4 M1 s1 = some z1 → me_W p l e R s m args below meth c 0 0 (MQ below (me_Qc D cA ad n A none M') args s 0 0 A) D cA ad n 12 A 80 [(0, .ref (ad 63)), (1, .int p0), (2, .int x2_2), (3, .int x3_1), (4, .int v1), (5, .int x5_2), (6, .int x6_2), (7, .int v2), (8, .int v3), (9, .int v4)] [.int s1] M1 := by
        intro s1 h
        unfold mX12_laysTurns_63_J80 at h
        refine me_istore X (i := 10) [(10, .int s1), (0, .ref (ad 63)), (1, .int p0), (2, .int x2_2), (3, .int x3_1), (4, .int v1), (5, .int x5_2), (6, .int x6_2), (7, .int v2), (8, .int v3), (9, .int v4)] (Nat.le_of_ble_eq_true rfl) rfl dX12_laysTurns_80 ?_
        refine me_iconst X dX12_laysTurns_82 ic_0 ?_
        refine me_istore X (i := 11) [(11, .int 0), (10, .int s1), (0, .ref (ad 63)), (1, .int p0), (2, .int x2_2), (3, .int x3_1), (4, .int v1), (5, .int x5_2), (6, .int x6_2), (7, .int v2), (8, .int v3), (9, .int v4)] (Nat.le_of_ble_eq_true rfl) rfl dX12_laysTurns_83 ?_
        obtain ⟨⟨y2_1, M7⟩, hq2, h⟩ := me_bd h
        have hx1 : me_W p l e R s m args below meth c 0 0 (MQ below (me_Qc D cA ad n A none M') args s 0 0 A) D cA ad n 12 A 177 [(0, .ref (ad 63)), (1, .int p0), (2, .int y2_1), (3, .int x3_1), (4, .int v1), (5, .int x5_2), (6, .int x6_2), (7, .int v2), (10, .int s1)] [] M7 := by
          refine me_iload X (i := 6) 6 rfl dX12_laysTurns_177 ?_
          have hj194_7 : ∀ (s5 : Int32), mX12_laysTurns_63_J194 p0 y2_1 x3_1 v1 x6_2 M7 s5 = some z1 → me_W p l e R s m args below meth c 0 0 (MQ below (me_Qc D cA ad n A none M') args s 0 0 A) D cA ad n 12 A 194 [(0, .ref (ad 63)), (1, .int p0), (2, .int y2_1), (3, .int x3_1), (4, .int v1), (6, .int x6_2)] [.int s5] M7 := by
            intro s5 h
            unfold mX12_laysTurns_63_J194 at h
            refine me_istore X (i := 5) [(5, .int s5), (0, .ref (ad 63)), (1, .int p0), (2, .int y2_1), (3, .int x3_1), (4, .int v1), (6, .int x6_2)] (Nat.le_of_ble_eq_true rfl) rfl dX12_laysTurns_194 ?_
            refine me_iinc X (v := (x6_2 + 1)) 6 rfl (in_1 _) [(6, .int (x6_2 + 1)), (5, .int s5), (0, .ref (ad 63)), (1, .int p0), (2, .int y2_1), (3, .int x3_1), (4, .int v1)] (Nat.le_of_ble_eq_true rfl) rfl dX12_laysTurns_196 ?_
            refine me_goto X 21 (by decide) dX12_laysTurns_199 ?_
            obtain rfl := me_so h
            refine me_sub (L' := [(0, .ref (ad 63)), (1, .int p0), (2, .int y2_1), (3, .int x3_1), (4, .int v1), (5, .int s5), (6, .int (x6_2 + 1))]) [2, 3, 4, 5, 6, 1, 0] rfl ?_
            exact hb1 (y2_1, s5, (x6_2 + 1), M7) rfl
          have hj187_6 : mX12_laysTurns_63_J187 p0 y2_1 x3_1 v1 x6_2 v2 M7  = some z1 → me_W p l e R s m args below meth c 0 0 (MQ below (me_Qc D cA ad n A none M') args s 0 0 A) D cA ad n 12 A 187 [(0, .ref (ad 63)), (1, .int p0), (2, .int y2_1), (3, .int x3_1), (4, .int v1), (6, .int x6_2), (7, .int v2)] [] M7 := by
            intro h
            unfold mX12_laysTurns_63_J187 at h
            refine me_iload X (i := 7) 6 rfl dX12_laysTurns_187 ?_
            refine me_goto X 194 (by decide) dX12_laysTurns_189 ?_
            refine me_sub (L' := [(0, .ref (ad 63)), (1, .int p0), (2, .int y2_1), (3, .int x3_1), (4, .int v1), (6, .int x6_2)]) [0, 1, 2, 3, 4, 5] rfl ?_
            exact hj194_7 v2 h
          refine me_if_eq X 187 (by decide) dX12_laysTurns_179 (fun c8 => ?_) (fun c8 => ?_)
          · have h := me_ip c8 h
            refine me_sub (L' := [(0, .ref (ad 63)), (1, .int p0), (2, .int y2_1), (3, .int x3_1), (4, .int v1), (6, .int x6_2), (7, .int v2)]) [0, 1, 2, 3, 4, 6, 7] rfl ?_
            exact hj187_6  h
          · have h := me_in c8 h
            refine me_iload X (i := 10) 8 rfl dX12_laysTurns_182 ?_
            refine me_if_eq X 192 (by decide) dX12_laysTurns_184 (fun c9 => ?_) (fun c9 => ?_)
            · have h := me_ip c9 h
              refine me_iload X (i := 5) 5 rfl dX12_laysTurns_192 ?_
              refine me_sub (L' := [(0, .ref (ad 63)), (1, .int p0), (2, .int y2_1), (3, .int x3_1), (4, .int v1), (6, .int x6_2)]) [0, 1, 2, 3, 4, 6] rfl ?_
              exact hj194_7 x5_2 h
            · have h := me_in c9 h
              refine me_sub (L' := [(0, .ref (ad 63)), (1, .int p0), (2, .int y2_1), (3, .int x3_1), (4, .int v1), (6, .int x6_2), (7, .int v2)]) [0, 1, 2, 3, 4, 6, 7] rfl ?_
              exact hj187_6  h
        refine me_sub (L' := [(0, .ref (ad 63)), (1, .int p0), (2, .int x2_2), (3, .int x3_1), (4, .int v1), (5, .int x5_2), (6, .int x6_2), (7, .int v2), (8, .int v3), (9, .int v4), (10, .int s1), (11, .int 0)]) [2, 3, 4, 5, 6, 7, 8, 9, 10, 11, 1, 0] rfl ?_
        refine me_l_W (b := (mX12_laysTurns_63_L85 p0 x3_1 v1 x5_2 x6_2 v2 v3 v4 s1)) (P := fun w => me_W p l e R s m args below meth c 0 0 (MQ below (me_Qc D cA ad n A none M') args s 0 0 A) D cA ad n 12 A 85 [(0, .ref (ad 63)), (1, .int p0), (2, .int w.1), (3, .int x3_1), (4, .int v1), (5, .int x5_2), (6, .int x6_2), (7, .int v2), (8, .int v3), (9, .int v4), (10, .int s1), (11, .int w.2.1)] [] w.2.2) (r := (y2_1, M7)) ?_ me_fu (x2_2, 0, M1) hq2
        rintro ⟨x2_3, x11_1, M2⟩ z2 h hb2 - hr2
        unfold mX12_laysTurns_63_L85 at h
        refine me_iload X (i := 11) 11 rfl dX12_laysTurns_85 ?_
        refine me_iload X (i := 9) 9 rfl dX12_laysTurns_87 ?_
        refine me_iload X (i := 8) 8 rfl dX12_laysTurns_89 ?_
        refine me_isub X dX12_laysTurns_91 ?_
        refine me_icmp_ge X 177 (by decide) dX12_laysTurns_92 (fun c4 => ?_) (fun c4 => ?_)
        · have h := me_ip c4 h
          obtain rfl := me_so h
          have q := hr2 _ rfl
          refine me_sub (L' := [(0, .ref (ad 63)), (1, .int p0), (2, .int x2_3), (3, .int x3_1), (4, .int v1), (5, .int x5_2), (6, .int x6_2), (7, .int v2), (10, .int s1)]) [0, 1, 2, 3, 4, 5, 6, 7, 10] rfl ?_
          cases q
          exact hx1
        · have h := me_in c4 h
          refine me_aload_n X (i := 0) 0 rfl dX12_laysTurns_95 ?_
          refine me_getr X 83 kF_X12_75 (Nat.le_of_ble_eq_true rfl) me_k63 me_f63_30 dX12_laysTurns_96 ?_
          refine me_iload_n X (i := 2) 2 rfl dX12_laysTurns_99 ?_
          refine me_iload X (i := 10) 10 rfl dX12_laysTurns_100 ?_
          have hj120_3 : ∀ (s2 : Int32), mX12_laysTurns_63_J120 p0 x2_3 x3_1 v1 x5_2 x6_2 v2 v3 v4 s1 x11_1 M2 s2 = some z2 → me_W p l e R s m args below meth c 0 0 (MQ below (me_Qc D cA ad n A none M') args s 0 0 A) D cA ad n 12 A 120 [(0, .ref (ad 63)), (1, .int p0), (2, .int x2_3), (3, .int x3_1), (4, .int v1), (5, .int x5_2), (6, .int x6_2), (7, .int v2), (8, .int v3), (9, .int v4), (10, .int s1), (11, .int x11_1)] [.int s2, .int x2_3, .ref (ad 83)] M2 := by
            intro s2 h
            unfold mX12_laysTurns_63_J120 at h
            obtain ⟨M3, e7, h⟩ := me_bd h
            refine me_iast X (Nat.le_of_ble_eq_true rfl) me_k83 e7 dX12_laysTurns_120 ?_
            refine me_aload_n X (i := 0) 0 rfl dX12_laysTurns_121 ?_
            refine me_getr X 84 kF_X12_78 (Nat.le_of_ble_eq_true rfl) me_k63 me_f63_31 dX12_laysTurns_122 ?_
            refine me_iload_n X (i := 2) 2 rfl dX12_laysTurns_125 ?_
            refine me_iload X (i := 10) 10 rfl dX12_laysTurns_126 ?_
            have hj136_4 : ∀ (s3 : Int32), mX12_laysTurns_63_J136 p0 x2_3 x3_1 v1 x5_2 x6_2 v2 v3 v4 s1 x11_1 M3 s3 = some z2 → me_W p l e R s m args below meth c 0 0 (MQ below (me_Qc D cA ad n A none M') args s 0 0 A) D cA ad n 12 A 136 [(0, .ref (ad 63)), (1, .int p0), (2, .int x2_3), (3, .int x3_1), (4, .int v1), (5, .int x5_2), (6, .int x6_2), (7, .int v2), (8, .int v3), (9, .int v4), (10, .int s1), (11, .int x11_1)] [.int s3, .int x2_3, .ref (ad 84)] M3 := by
              intro s3 h
              unfold mX12_laysTurns_63_J136 at h
              obtain ⟨M4, e8, h⟩ := me_bd h
              refine me_iast X (Nat.le_of_ble_eq_true rfl) me_k84 e8 dX12_laysTurns_136 ?_
              refine me_aload_n X (i := 0) 0 rfl dX12_laysTurns_137 ?_
              refine me_getr X 85 kF_X12_81 (Nat.le_of_ble_eq_true rfl) me_k63 me_f63_32 dX12_laysTurns_138 ?_
              refine me_iload_n X (i := 2) 2 rfl dX12_laysTurns_141 ?_
              refine me_iload X (i := 6) 6 rfl dX12_laysTurns_142 ?_
              obtain ⟨M5, e9, h⟩ := me_bd h
              refine me_iast X (Nat.le_of_ble_eq_true rfl) me_k85 e9 dX12_laysTurns_144 ?_
              refine me_aload_n X (i := 0) 0 rfl dX12_laysTurns_145 ?_
              refine me_getr X 86 kF_X12_84 (Nat.le_of_ble_eq_true rfl) me_k63 me_f63_33 dX12_laysTurns_146 ?_
              refine me_iload_n X (i := 2) 2 rfl dX12_laysTurns_149 ?_
              refine me_iload X (i := 11) 11 rfl dX12_laysTurns_150 ?_
              refine me_iload X (i := 9) 9 rfl dX12_laysTurns_152 ?_
              refine me_iload X (i := 8) 8 rfl dX12_laysTurns_154 ?_
              refine me_isub X dX12_laysTurns_156 ?_
              refine me_iconst X dX12_laysTurns_157 ic_1 ?_
              refine me_isub X dX12_laysTurns_158 ?_
              have hj167_5 : ∀ (s4 : Int32), mX12_laysTurns_63_J167 p0 x2_3 x3_1 v1 x5_2 x6_2 v2 v3 v4 s1 x11_1 M5 s4 = some z2 → me_W p l e R s m args below meth c 0 0 (MQ below (me_Qc D cA ad n A none M') args s 0 0 A) D cA ad n 12 A 167 [(0, .ref (ad 63)), (1, .int p0), (2, .int x2_3), (3, .int x3_1), (4, .int v1), (5, .int x5_2), (6, .int x6_2), (7, .int v2), (8, .int v3), (9, .int v4), (10, .int s1), (11, .int x11_1)] [.int s4, .int x2_3, .ref (ad 86)] M5 := by
                intro s4 h
                unfold mX12_laysTurns_63_J167 at h
                obtain ⟨M6, e10, h⟩ := me_bd h
                refine me_iast X (Nat.le_of_ble_eq_true rfl) me_k86 e10 dX12_laysTurns_167 ?_
                refine me_iinc X (v := (x2_3 + 1)) 2 rfl (in_1 _) [(2, .int (x2_3 + 1)), (0, .ref (ad 63)), (1, .int p0), (3, .int x3_1), (4, .int v1), (5, .int x5_2), (6, .int x6_2), (7, .int v2), (8, .int v3), (9, .int v4), (10, .int s1), (11, .int x11_1)] (Nat.le_of_ble_eq_true rfl) rfl dX12_laysTurns_168 ?_
                refine me_iinc X (v := (x11_1 + 1)) 11 rfl (in_1 _) [(11, .int (x11_1 + 1)), (2, .int (x2_3 + 1)), (0, .ref (ad 63)), (1, .int p0), (3, .int x3_1), (4, .int v1), (5, .int x5_2), (6, .int x6_2), (7, .int v2), (8, .int v3), (9, .int v4), (10, .int s1)] (Nat.le_of_ble_eq_true rfl) rfl dX12_laysTurns_171 ?_
                refine me_goto X 85 (by decide) dX12_laysTurns_174 ?_
                obtain rfl := me_so h
                refine me_sub (L' := [(0, .ref (ad 63)), (1, .int p0), (2, .int (x2_3 + 1)), (3, .int x3_1), (4, .int v1), (5, .int x5_2), (6, .int x6_2), (7, .int v2), (8, .int v3), (9, .int v4), (10, .int s1), (11, .int (x11_1 + 1))]) [2, 3, 1, 4, 5, 6, 7, 8, 9, 10, 11, 0] rfl ?_
                exact hb2 ((x2_3 + 1), (x11_1 + 1), M6) rfl
              refine me_icmp_ne X 166 (by decide) dX12_laysTurns_159 (fun c7 => ?_) (fun c7 => ?_)
              · have h := me_in c7 h
                refine me_iconst X dX12_laysTurns_166 ic_0 ?_
                exact hj167_5 0 h
              · have h := me_ip c7 h
                refine me_iconst X dX12_laysTurns_162 ic_1 ?_
                refine me_goto X 167 (by decide) dX12_laysTurns_163 ?_
                exact hj167_5 1 h
            refine me_if_eq X 135 (by decide) dX12_laysTurns_128 (fun c6 => ?_) (fun c6 => ?_)
            · have h := me_ip c6 h
              refine me_iconst X dX12_laysTurns_135 ic_1 ?_
              exact hj136_4 1 h
            · have h := me_in c6 h
              refine me_iconst X dX12_laysTurns_131 ic_0 ?_
              refine me_goto X 136 (by decide) dX12_laysTurns_132 ?_
              exact hj136_4 0 h
          refine me_if_eq X 115 (by decide) dX12_laysTurns_102 (fun c5 => ?_) (fun c5 => ?_)
          · have h := me_ip c5 h
            refine me_iload X (i := 8) 8 rfl dX12_laysTurns_115 ?_
            refine me_iload X (i := 11) 11 rfl dX12_laysTurns_117 ?_
            refine me_iadd X dX12_laysTurns_119 ?_
            exact hj120_3 (v3 + x11_1) h
          · have h := me_in c5 h
            refine me_iload X (i := 9) 9 rfl dX12_laysTurns_105 ?_
            refine me_iconst X dX12_laysTurns_107 ic_1 ?_
            refine me_isub X dX12_laysTurns_108 ?_
            refine me_iload X (i := 11) 11 rfl dX12_laysTurns_109 ?_
            refine me_isub X dX12_laysTurns_111 ?_
            refine me_goto X 120 (by decide) dX12_laysTurns_112 ?_
            exact hj120_3 ((v4 - 1) - x11_1) h
      have hj79_1 : mX12_laysTurns_63_J79 p0 x2_2 x3_1 v1 x5_2 x6_2 v2 v3 v4 M1  = some z1 → me_W p l e R s m args below meth c 0 0 (MQ below (me_Qc D cA ad n A none M') args s 0 0 A) D cA ad n 12 A 79 [(0, .ref (ad 63)), (1, .int p0), (2, .int x2_2), (3, .int x3_1), (4, .int v1), (5, .int x5_2), (6, .int x6_2), (7, .int v2), (8, .int v3), (9, .int v4)] [] M1 := by
        intro h
        unfold mX12_laysTurns_63_J79 at h
        refine me_iconst X dX12_laysTurns_79 ic_0 ?_
        exact hj80_2 0 h
      refine me_if_le X 79 (by decide) dX12_laysTurns_65 (fun c2 => ?_) (fun c2 => ?_)
      · have h := me_ip c2 h
        refine me_sub (L' := [(0, .ref (ad 63)), (1, .int p0), (2, .int x2_2), (3, .int x3_1), (4, .int v1), (5, .int x5_2), (6, .int x6_2), (7, .int v2), (8, .int v3), (9, .int v4)]) [3, 4, 5, 6, 7, 8, 9, 2, 1, 0] rfl ?_
        exact hj79_1  h
      · have h := me_in c2 h
        refine me_iload X (i := 7) 2 rfl dX12_laysTurns_68 ?_
        refine me_iload X (i := 5) 8 rfl dX12_laysTurns_70 ?_
        refine me_icmp_ge X 79 (by decide) dX12_laysTurns_72 (fun c3 => ?_) (fun c3 => ?_)
        · have h := me_ip c3 h
          refine me_sub (L' := [(0, .ref (ad 63)), (1, .int p0), (2, .int x2_2), (3, .int x3_1), (4, .int v1), (5, .int x5_2), (6, .int x6_2), (7, .int v2), (8, .int v3), (9, .int v4)]) [3, 4, 5, 6, 7, 8, 9, 2, 1, 0] rfl ?_
          exact hj79_1  h
        · have h := me_in c3 h
          refine me_iconst X dX12_laysTurns_75 ic_1 ?_
          refine me_goto X 80 (by decide) dX12_laysTurns_76 ?_
          refine me_sub (L' := [(0, .ref (ad 63)), (1, .int p0), (2, .int x2_2), (3, .int x3_1), (4, .int v1), (5, .int x5_2), (6, .int x6_2), (7, .int v2), (8, .int v3), (9, .int v4)]) [3, 4, 5, 6, 7, 8, 9, 2, 1, 0] rfl ?_
          exact hj80_2 1 h
  refine me_sub (L' := [(0, .ref (ad 63)), (1, .int p0), (2, .int 0), (3, .int (M.1 63 20)), (4, .int v1), (5, .int (-1)), (6, .int 0)]) [5, 6, 4, 3, 2, 1, 0] rfl ?_
  exact hk21_0 0 (M.1 63 20) (-1) 0 h
