def mX12_thrown_63 (M : me_M)  : Option Int32 :=
  some (M.1 63 0)
set_option maxRecDepth 100000 in
set_option maxHeartbeats 4000000 in
theorem ctX12_thrown_63 {l : Launch} {n nt : Nat} (hn : 424 ≤ n) (hnt : 4 ≤ nt) {M : me_M} {r : Int32} (h : mX12_thrown_63 M = some r) : me_Ct l yX12_thrown cX12_thrown 1 (some .int) 0 n nt (fun ad => [.ref (ad 63)]) M (fun _ => some (.int r)) M := by
  unfold mX12_thrown_63 at h
  refine me_enter (N0 := 424) RX12 rfl (plainFor_of_name pl_RX12) hn (Nat.le_trans (by decide) hnt) (fun _ => Nat.le_of_ble_eq_true rfl) ?_
  intro p e R s m args below meth c D cA ad tys A X hr hlk
  refine me_sub (L' := [(0, .ref (ad 63))]) [0] rfl ?_
  refine me_aload_n X (i := 0) 0 rfl dX12_thrown_0 ?_
  refine me_geti X kF_X12_105 (Nat.le_of_ble_eq_true rfl) me_k63 me_f63_0 dX12_thrown_1 ?_
  obtain rfl := me_so h
  exact me_iret X hr hlk dX12_thrown_4
def mX12_bad_63_J26 (M2 : me_M) : Option (Int32 × me_M) :=
  (if (M2.1 63 0) = 0 then some (0, M2) else some (1, M2))
def mX12_bad_63 (M : me_M) (p0 : Int32) (p1 : Int32) (p2 : Int32) : Option (Int32 × me_M) :=
  (if p0 = 0 then (mX12_bad_63_J26 M) else (if (M.1 63 0) = 0 then ((me_r (me_s M 63 0 p1) 64 3 p2).bind fun v1 => ((me_t (me_s M 63 0 p1) 64 3 p2 (v1 + 1)).bind fun M1 => (mX12_bad_63_J26 M1))) else (mX12_bad_63_J26 M)))
set_option maxRecDepth 100000 in
set_option maxHeartbeats 4000000 in
theorem ctX12_bad_63 {l : Launch} {n nt : Nat} (hn : 424 ≤ n) (hnt : 4 ≤ nt) {M : me_M} {p0 : Int32} {p1 : Int32} {p2 : Int32} {r : Int32} {M' : me_M} (h : mX12_bad_63 M p0 p1 p2 = some (r, M')) : me_Ct l yX12_bad cX12_bad 4 (some .boolean) 0 n nt (fun ad => [.ref (ad 63), .int p0, .int p1, .int p2]) M (fun _ => some (.int r)) M' := by
  unfold mX12_bad_63 at h
  refine me_enter (N0 := 424) RX12 rfl (plainFor_of_name pl_RX12) hn (Nat.le_trans (by decide) hnt) (fun _ => Nat.le_of_ble_eq_true rfl) ?_
  intro p e R s m args below meth c D cA ad tys A X hr hlk
  refine me_sub (L' := [(0, .ref (ad 63)), (1, .int p0), (2, .int p1), (3, .int p2)]) [0, 1, 2, 3] rfl ?_
  refine me_iload_n X (i := 1) 1 rfl dX12_bad_0 ?_
  have hj26_1 : ∀ (M2 : me_M), mX12_bad_63_J26 M2 = some (r, M') → me_W p l e R s m args below meth c 0 0 (MQ below (me_Qc D cA ad n A (some (.int r)) M') args s 0 0 A) D cA ad n 4 A 26 [(0, .ref (ad 63))] [] M2 := by
    intro M2 h
    unfold mX12_bad_63_J26 at h
    refine me_aload_n X (i := 0) 0 rfl dX12_bad_26 ?_
    refine me_geti X kF_X12_105 (Nat.le_of_ble_eq_true rfl) me_k63 me_f63_0 dX12_bad_27 ?_
    refine me_if_eq X 37 (by decide) dX12_bad_30 (fun c3 => ?_) (fun c3 => ?_)
    · have h := me_ip c3 h
      refine me_iconst X dX12_bad_37 ic_0 ?_
      obtain ⟨rfl, rfl⟩ := me_sp h
      exact me_zret X (by decide) hr hlk dX12_bad_38
    · have h := me_in c3 h
      refine me_iconst X dX12_bad_33 ic_1 ?_
      refine me_goto X 38 (by decide) dX12_bad_34 ?_
      obtain ⟨rfl, rfl⟩ := me_sp h
      exact me_zret X (by decide) hr hlk dX12_bad_38
  refine me_if_eq X 26 (by decide) dX12_bad_1 (fun c1 => ?_) (fun c1 => ?_)
  · have h := me_ip c1 h
    refine me_sub (L' := [(0, .ref (ad 63))]) [0] rfl ?_
    exact hj26_1 M h
  · have h := me_in c1 h
    refine me_aload_n X (i := 0) 0 rfl dX12_bad_4 ?_
    refine me_geti X kF_X12_105 (Nat.le_of_ble_eq_true rfl) me_k63 me_f63_0 dX12_bad_5 ?_
    refine me_if_ne X 26 (by decide) dX12_bad_8 (fun c2 => ?_) (fun c2 => ?_)
    · have h := me_in c2 h
      refine me_sub (L' := [(0, .ref (ad 63))]) [0] rfl ?_
      exact hj26_1 M h
    · have h := me_ip c2 h
      refine me_aload_n X (i := 0) 0 rfl dX12_bad_11 ?_
      refine me_iload_n X (i := 2) 2 rfl dX12_bad_12 ?_
      refine me_puti X kG_X12_105 (Nat.le_of_ble_eq_true rfl) me_k63 me_f63_0 dX12_bad_13 ?_
      refine me_aload_n X (i := 0) 0 rfl dX12_bad_16 ?_
      refine me_getr X 64 kF_X12_7 (Nat.le_of_ble_eq_true rfl) me_k63 me_f63_1 dX12_bad_17 ?_
      refine me_iload_n X (i := 3) 3 rfl dX12_bad_20 ?_
      refine me_dup2 X rfl rfl dX12_bad_21 ?_
      obtain ⟨v1, e1, h⟩ := me_bd h
      refine me_iald X (Nat.le_of_ble_eq_true rfl) me_k64 e1 dX12_bad_22 ?_
      refine me_iconst X dX12_bad_23 ic_1 ?_
      refine me_iadd X dX12_bad_24 ?_
      obtain ⟨M1, e2, h⟩ := me_bd h
      refine me_iast X (Nat.le_of_ble_eq_true rfl) me_k64 e2 dX12_bad_25 ?_
      refine me_sub (L' := [(0, .ref (ad 63))]) [0] rfl ?_
      exact hj26_1 M1 h
def mX12_in (p0 : Int32) (p1 : Int32) (p2 : Int32) : Option Int32 :=
  (if p0 < p1 then some 0 else (if p2 < p0 then some 0 else some 1))
set_option maxRecDepth 100000 in
set_option maxHeartbeats 4000000 in
theorem ctX12_in {l : Launch} {n nt : Nat} (hn : 424 ≤ n) (hnt : 4 ≤ nt) {M : me_M} {p0 : Int32} {p1 : Int32} {p2 : Int32} {r : Int32} (h : mX12_in p0 p1 p2 = some r) : me_Ct l yX12_in cX12_in 3 (some .boolean) 0 n nt (fun _ => [.int p0, .int p1, .int p2]) M (fun _ => some (.int r)) M := by
  unfold mX12_in at h
  refine me_enter (N0 := 424) RX12 rfl (plainFor_of_name pl_RX12) hn (Nat.le_trans (by decide) hnt) (fun _ => Nat.le_of_ble_eq_true rfl) ?_
  intro p e R s m args below meth c D cA ad tys A X hr hlk
  refine me_sub (L' := [(0, .int p0), (1, .int p1), (2, .int p2)]) [0, 1, 2] rfl ?_
  refine me_iload_n X (i := 0) 0 rfl dX12_in_0 ?_
  refine me_iload_n X (i := 1) 1 rfl dX12_in_1 ?_
  refine me_icmp_lt X 14 (by decide) dX12_in_2 (fun c1 => ?_) (fun c1 => ?_)
  · have h := me_ip c1 h
    refine me_iconst X dX12_in_14 ic_0 ?_
    obtain rfl := me_so h
    exact me_zret X (by decide) hr hlk dX12_in_15
  · have h := me_in c1 h
    refine me_iload_n X (i := 0) 0 rfl dX12_in_5 ?_
    refine me_iload_n X (i := 2) 2 rfl dX12_in_6 ?_
    refine me_icmp_gt X 14 (by decide) dX12_in_7 (fun c2 => ?_) (fun c2 => ?_)
    · have h := me_ip c2 h
      refine me_iconst X dX12_in_14 ic_0 ?_
      obtain rfl := me_so h
      exact me_zret X (by decide) hr hlk dX12_in_15
    · have h := me_in c2 h
      refine me_iconst X dX12_in_10 ic_1 ?_
      refine me_goto X 15 (by decide) dX12_in_11 ?_
      obtain rfl := me_so h
      exact me_zret X (by decide) hr hlk dX12_in_15
def mX12_less (p0 : Int32) (p1 : Int32) : Option Int32 :=
  (if p1 ≤ p0 then some p1 else some p0)
set_option maxRecDepth 100000 in
set_option maxHeartbeats 4000000 in
theorem ctX12_less {l : Launch} {n nt : Nat} (hn : 424 ≤ n) (hnt : 4 ≤ nt) {M : me_M} {p0 : Int32} {p1 : Int32} {r : Int32} (h : mX12_less p0 p1 = some r) : me_Ct l yX12_less cX12_less 2 (some .int) 0 n nt (fun _ => [.int p0, .int p1]) M (fun _ => some (.int r)) M := by
  unfold mX12_less at h
  refine me_enter (N0 := 424) RX12 rfl (plainFor_of_name pl_RX12) hn (Nat.le_trans (by decide) hnt) (fun _ => Nat.le_of_ble_eq_true rfl) ?_
  intro p e R s m args below meth c D cA ad tys A X hr hlk
  refine me_sub (L' := [(0, .int p0), (1, .int p1)]) [0, 1] rfl ?_
  refine me_iload_n X (i := 0) 0 rfl dX12_less_0 ?_
  refine me_iload_n X (i := 1) 1 rfl dX12_less_1 ?_
  refine me_icmp_ge X 9 (by decide) dX12_less_2 (fun c1 => ?_) (fun c1 => ?_)
  · have h := me_ip c1 h
    refine me_iload_n X (i := 1) 1 rfl dX12_less_9 ?_
    obtain rfl := me_so h
    exact me_iret X hr hlk dX12_less_10
  · have h := me_in c1 h
    refine me_iload_n X (i := 0) 0 rfl dX12_less_5 ?_
    refine me_goto X 10 (by decide) dX12_less_6 ?_
    obtain rfl := me_so h
    exact me_iret X hr hlk dX12_less_10
def mX12_more (p0 : Int32) (p1 : Int32) : Option Int32 :=
  (if p0 ≤ p1 then some p1 else some p0)
set_option maxRecDepth 100000 in
set_option maxHeartbeats 4000000 in
theorem ctX12_more {l : Launch} {n nt : Nat} (hn : 424 ≤ n) (hnt : 4 ≤ nt) {M : me_M} {p0 : Int32} {p1 : Int32} {r : Int32} (h : mX12_more p0 p1 = some r) : me_Ct l yX12_more cX12_more 2 (some .int) 0 n nt (fun _ => [.int p0, .int p1]) M (fun _ => some (.int r)) M := by
  unfold mX12_more at h
  refine me_enter (N0 := 424) RX12 rfl (plainFor_of_name pl_RX12) hn (Nat.le_trans (by decide) hnt) (fun _ => Nat.le_of_ble_eq_true rfl) ?_
  intro p e R s m args below meth c D cA ad tys A X hr hlk
  refine me_sub (L' := [(0, .int p0), (1, .int p1)]) [0, 1] rfl ?_
  refine me_iload_n X (i := 0) 0 rfl dX12_more_0 ?_
  refine me_iload_n X (i := 1) 1 rfl dX12_more_1 ?_
  refine me_icmp_le X 9 (by decide) dX12_more_2 (fun c1 => ?_) (fun c1 => ?_)
  · have h := me_ip c1 h
    refine me_iload_n X (i := 1) 1 rfl dX12_more_9 ?_
    obtain rfl := me_so h
    exact me_iret X hr hlk dX12_more_10
  · have h := me_in c1 h
    refine me_iload_n X (i := 0) 0 rfl dX12_more_5 ?_
    refine me_goto X 10 (by decide) dX12_more_6 ?_
    obtain rfl := me_so h
    exact me_iret X hr hlk dX12_more_10
def mX12_isLetter (p0 : Int32) : Option Int32 :=
  ((mX12_in p0 97 104).bind fun v1 => (if v1 = 0 ∨ v1 = 1 then some v1 else none))
set_option maxRecDepth 100000 in
set_option maxHeartbeats 4000000 in
theorem ctX12_isLetter {l : Launch} {n nt : Nat} (hn : 424 ≤ n) (hnt : 4 ≤ nt) {M : me_M} {p0 : Int32} {r : Int32} (h : mX12_isLetter p0 = some r) : me_Ct l yX12_isLetter cX12_isLetter 1 (some .boolean) 1 n nt (fun _ => [.int p0]) M (fun _ => some (.int r)) M := by
  unfold mX12_isLetter at h
  refine me_enter (N0 := 424) RX12 rfl (plainFor_of_name pl_RX12) hn (Nat.le_trans (by decide) hnt) (fun _ => Nat.le_of_ble_eq_true rfl) ?_
  intro p e R s m args below meth c D cA ad tys A X hr hlk
  refine me_sub (L' := [(0, .int p0)]) [0] rfl ?_
  refine me_iload_n X (i := 0) 0 rfl dX12_isLetter_0 ?_
  refine me_bipush X dX12_isLetter_1 ib_97 ?_
  refine me_bipush X dX12_isLetter_3 ib_104 ?_
  obtain ⟨v1, e1, h⟩ := me_bd h
  refine me_callSi X [.int p0, .int 97, .int 104] (ctX12_in hn (Nat.le_trans (by decide) hnt) e1) kS_X12_108 rfl rfl (Nat.le_of_ble_eq_true rfl) (Nat.le_refl _) (Nat.le_of_ble_eq_true rfl) dX12_isLetter_5 ?_
  by_cases c1 : v1 = 0 ∨ v1 = 1
  · have h := me_ip c1 h
    obtain rfl := me_so h
    exact me_zret X (me_z c1) hr hlk dX12_isLetter_8
  · have h := me_in c1 h
    cases h
def mX12_byteOf (p0 : Int32) : Option Int32 :=
  (if p0 = 0 then some 0 else (if p0 = 1 then some 124 else some ((97 + p0) - 2)))
set_option maxRecDepth 100000 in
set_option maxHeartbeats 4000000 in
theorem ctX12_byteOf {l : Launch} {n nt : Nat} (hn : 424 ≤ n) (hnt : 4 ≤ nt) {M : me_M} {p0 : Int32} {r : Int32} (h : mX12_byteOf p0 = some r) : me_Ct l yX12_byteOf cX12_byteOf 1 (some .int) 0 n nt (fun _ => [.int p0]) M (fun _ => some (.int r)) M := by
  unfold mX12_byteOf at h
  refine me_enter (N0 := 424) RX12 rfl (plainFor_of_name pl_RX12) hn (Nat.le_trans (by decide) hnt) (fun _ => Nat.le_of_ble_eq_true rfl) ?_
  intro p e R s m args below meth c D cA ad tys A X hr hlk
  refine me_sub (L' := [(0, .int p0)]) [0] rfl ?_
  refine me_iload_n X (i := 0) 0 rfl dX12_byteOf_0 ?_
  refine me_if_ne X 8 (by decide) dX12_byteOf_1 (fun c1 => ?_) (fun c1 => ?_)
  · have h := me_in c1 h
    refine me_iload_n X (i := 0) 0 rfl dX12_byteOf_8 ?_
    refine me_iconst X dX12_byteOf_9 ic_1 ?_
    refine me_icmp_ne X 18 (by decide) dX12_byteOf_10 (fun c2 => ?_) (fun c2 => ?_)
    · have h := me_in c2 h
      refine me_bipush X dX12_byteOf_18 ib_97 ?_
      refine me_iload_n X (i := 0) 0 rfl dX12_byteOf_20 ?_
      refine me_iadd X dX12_byteOf_21 ?_
      refine me_iconst X dX12_byteOf_22 ic_2 ?_
      refine me_isub X dX12_byteOf_23 ?_
      obtain rfl := me_so h
      exact me_iret X hr hlk dX12_byteOf_24
    · have h := me_ip c2 h
      refine me_bipush X dX12_byteOf_13 ib_124 ?_
      refine me_goto X 24 (by decide) dX12_byteOf_15 ?_
      obtain rfl := me_so h
      exact me_iret X hr hlk dX12_byteOf_24
  · have h := me_ip c1 h
    refine me_iconst X dX12_byteOf_4 ic_0 ?_
    refine me_goto X 24 (by decide) dX12_byteOf_5 ?_
    obtain rfl := me_so h
    exact me_iret X hr hlk dX12_byteOf_24
def mX12_isAhead_63_L3 (M : me_M) (p0 : Int32) (p1 : Int32) (p2 : Int32) : (Int32) → Option ((Int32) ⊕ (Int32))
  | x4_1 => (if (M.1 63 5) ≤ (p1 + x4_1) then some (.inr x4_1) else (if (M.1 63 5) ≤ (p2 + x4_1) then some (.inr x4_1) else ((me_a 2 67 p0).bind fun a1 => ((me_r M a1 241 (p1 + x4_1)).bind fun v1 => ((me_a 2 67 p0).bind fun a2 => ((me_r M a2 241 (p2 + x4_1)).bind fun v2 => (if v1 = v2 then some (.inl (x4_1 + 1)) else some (.inr x4_1))))))))
def mX12_isAhead_63_J110 (s1 : Int32) (M : me_M) (s2 : Int32) : Option Int32 :=
  (if s2 ≤ s1 then some 0 else some 1)
def mX12_isAhead_63_J82 (p0 : Int32) (p2 : Int32) (y4_1 : Int32) (M : me_M) (s1 : Int32) : Option Int32 :=
  (if (M.1 63 5) ≤ (p2 + y4_1) then (mX12_isAhead_63_J110 s1 M 0) else ((me_a 2 67 p0).bind fun a4 => ((me_r M a4 241 (p2 + y4_1)).bind fun v4 => (mX12_isAhead_63_J110 s1 M v4))))
def mX12_isAhead_63 (M : me_M) (p0 : Int32) (p1 : Int32) (p2 : Int32) : Option Int32 :=
  ((me_l (mX12_isAhead_63_L3 M p0 p1 p2) me_fu 0).bind fun y4_1 => (if (M.1 63 5) ≤ (p1 + y4_1) then (mX12_isAhead_63_J82 p0 p2 y4_1 M 0) else ((me_a 2 67 p0).bind fun a3 => ((me_r M a3 241 (p1 + y4_1)).bind fun v3 => (mX12_isAhead_63_J82 p0 p2 y4_1 M v3)))))
set_option maxRecDepth 100000 in
set_option maxHeartbeats 4000000 in
theorem ctX12_isAhead_63 {l : Launch} {n nt : Nat} (hn : 424 ≤ n) (hnt : 4 ≤ nt) {M : me_M} {p0 : Int32} {p1 : Int32} {p2 : Int32} {r : Int32} (h : mX12_isAhead_63 M p0 p1 p2 = some r) : me_Ct l yX12_isAhead cX12_isAhead 7 (some .boolean) 0 n nt (fun ad => [.ref (ad 63), .int p0, .int p1, .int p2]) M (fun _ => some (.int r)) M := by
  unfold mX12_isAhead_63 at h
  refine me_enter (N0 := 424) RX12 rfl (plainFor_of_name pl_RX12) hn (Nat.le_trans (by decide) hnt) (fun _ => Nat.le_of_ble_eq_true rfl) ?_
  intro p e R s m args below meth c D cA ad tys A X hr hlk
  refine me_sub (L' := [(0, .ref (ad 63)), (1, .int p0), (2, .int p1), (3, .int p2)]) [0, 1, 2, 3] rfl ?_
  refine me_iconst X dX12_isAhead_0 ic_0 ?_
  refine me_istore X (i := 4) [(4, .int 0), (0, .ref (ad 63)), (1, .int p0), (2, .int p1), (3, .int p2)] (Nat.le_of_ble_eq_true rfl) rfl dX12_isAhead_1 ?_
  obtain ⟨y4_1, hq1, h⟩ := me_bd h
  have hx1 : me_W p l e R s m args below meth c 0 0 (MQ below (me_Qc D cA ad n A (some (.int r)) M) args s 0 0 A) D cA ad n 7 A 56 [(0, .ref (ad 63)), (1, .int p0), (2, .int p1), (3, .int p2), (4, .int y4_1)] [] M := by
    refine me_iload_n X (i := 2) 2 rfl dX12_isAhead_56 ?_
    refine me_iload X (i := 4) 4 rfl dX12_isAhead_57 ?_
    refine me_iadd X dX12_isAhead_59 ?_
    refine me_aload_n X (i := 0) 0 rfl dX12_isAhead_60 ?_
    refine me_geti X kF_X12_20 (Nat.le_of_ble_eq_true rfl) me_k63 me_f63_5 dX12_isAhead_61 ?_
    have hj82_2 : ∀ (s1 : Int32), mX12_isAhead_63_J82 p0 p2 y4_1 M s1 = some r → me_W p l e R s m args below meth c 0 0 (MQ below (me_Qc D cA ad n A (some (.int r)) M) args s 0 0 A) D cA ad n 7 A 82 [(0, .ref (ad 63)), (1, .int p0), (3, .int p2), (4, .int y4_1)] [.int s1] M := by
      intro s1 h
      unfold mX12_isAhead_63_J82 at h
      refine me_istore X (i := 5) [(5, .int s1), (0, .ref (ad 63)), (1, .int p0), (3, .int p2), (4, .int y4_1)] (Nat.le_of_ble_eq_true rfl) rfl dX12_isAhead_82 ?_
      refine me_iload_n X (i := 3) 3 rfl dX12_isAhead_84 ?_
      refine me_iload X (i := 4) 4 rfl dX12_isAhead_85 ?_
      refine me_iadd X dX12_isAhead_87 ?_
      refine me_aload_n X (i := 0) 1 rfl dX12_isAhead_88 ?_
      refine me_geti X kF_X12_20 (Nat.le_of_ble_eq_true rfl) me_k63 me_f63_5 dX12_isAhead_89 ?_
      have hj110_3 : ∀ (s2 : Int32), mX12_isAhead_63_J110 s1 M s2 = some r → me_W p l e R s m args below meth c 0 0 (MQ below (me_Qc D cA ad n A (some (.int r)) M) args s 0 0 A) D cA ad n 7 A 110 [(5, .int s1)] [.int s2] M := by
        intro s2 h
        unfold mX12_isAhead_63_J110 at h
        refine me_istore X (i := 6) [(6, .int s2), (5, .int s1)] (Nat.le_of_ble_eq_true rfl) rfl dX12_isAhead_110 ?_
        refine me_iload X (i := 5) 1 rfl dX12_isAhead_112 ?_
        refine me_iload X (i := 6) 0 rfl dX12_isAhead_114 ?_
        refine me_icmp_ge X 123 (by decide) dX12_isAhead_116 (fun c6 => ?_) (fun c6 => ?_)
        · have h := me_ip c6 h
          refine me_iconst X dX12_isAhead_123 ic_0 ?_
          obtain rfl := me_so h
          exact me_zret X (by decide) hr hlk dX12_isAhead_124
        · have h := me_in c6 h
          refine me_iconst X dX12_isAhead_119 ic_1 ?_
          refine me_goto X 124 (by decide) dX12_isAhead_120 ?_
          obtain rfl := me_so h
          exact me_zret X (by decide) hr hlk dX12_isAhead_124
      refine me_icmp_ge X 109 (by decide) dX12_isAhead_92 (fun c5 => ?_) (fun c5 => ?_)
      · have h := me_ip c5 h
        refine me_iconst X dX12_isAhead_109 ic_0 ?_
        refine me_sub (L' := [(5, .int s1)]) [0] rfl ?_
        exact hj110_3 0 h
      · have h := me_in c5 h
        refine me_aload_n X (i := 0) 1 rfl dX12_isAhead_95 ?_
        refine me_getr X 66 kF_X12_28 (Nat.le_of_ble_eq_true rfl) me_k63 me_f63_7 dX12_isAhead_96 ?_
        refine me_iload_n X (i := 1) 2 rfl dX12_isAhead_99 ?_
        obtain ⟨a4, e7, h⟩ := me_bd h
        have f_a4 := me_f67 e7
        refine me_aald X (Nat.le_of_ble_eq_true rfl) ⟨by decide, by decide, Nat.lt_of_lt_of_le (by decide) hnt⟩ me_k66 e7 dX12_isAhead_100 ?_
        refine me_iload_n X (i := 3) 3 rfl dX12_isAhead_101 ?_
        refine me_iload X (i := 4) 4 rfl dX12_isAhead_102 ?_
        refine me_iadd X dX12_isAhead_104 ?_
        obtain ⟨v4, e8, h⟩ := me_bd h
        refine me_iald X f_a4.2 f_a4.1 e8 dX12_isAhead_105 ?_
        refine me_goto X 110 (by decide) dX12_isAhead_106 ?_
        refine me_sub (L' := [(5, .int s1)]) [0] rfl ?_
        exact hj110_3 v4 h
    refine me_icmp_ge X 81 (by decide) dX12_isAhead_64 (fun c4 => ?_) (fun c4 => ?_)
    · have h := me_ip c4 h
      refine me_iconst X dX12_isAhead_81 ic_0 ?_
      refine me_sub (L' := [(0, .ref (ad 63)), (1, .int p0), (3, .int p2), (4, .int y4_1)]) [0, 1, 3, 4] rfl ?_
      exact hj82_2 0 h
    · have h := me_in c4 h
      refine me_aload_n X (i := 0) 0 rfl dX12_isAhead_67 ?_
      refine me_getr X 66 kF_X12_28 (Nat.le_of_ble_eq_true rfl) me_k63 me_f63_7 dX12_isAhead_68 ?_
      refine me_iload_n X (i := 1) 1 rfl dX12_isAhead_71 ?_
      obtain ⟨a3, e5, h⟩ := me_bd h
      have f_a3 := me_f67 e5
      refine me_aald X (Nat.le_of_ble_eq_true rfl) ⟨by decide, by decide, Nat.lt_of_lt_of_le (by decide) hnt⟩ me_k66 e5 dX12_isAhead_72 ?_
      refine me_iload_n X (i := 2) 2 rfl dX12_isAhead_73 ?_
      refine me_iload X (i := 4) 4 rfl dX12_isAhead_74 ?_
      refine me_iadd X dX12_isAhead_76 ?_
      obtain ⟨v3, e6, h⟩ := me_bd h
      refine me_iald X f_a3.2 f_a3.1 e6 dX12_isAhead_77 ?_
      refine me_goto X 82 (by decide) dX12_isAhead_78 ?_
      refine me_sub (L' := [(0, .ref (ad 63)), (1, .int p0), (3, .int p2), (4, .int y4_1)]) [0, 1, 3, 4] rfl ?_
      exact hj82_2 v3 h
  refine me_sub (L' := [(0, .ref (ad 63)), (1, .int p0), (2, .int p1), (3, .int p2), (4, .int 0)]) [1, 2, 3, 4, 0] rfl ?_
  refine me_l_W (b := (mX12_isAhead_63_L3 M p0 p1 p2)) (P := fun w => me_W p l e R s m args below meth c 0 0 (MQ below (me_Qc D cA ad n A (some (.int r)) M) args s 0 0 A) D cA ad n 7 A 3 [(0, .ref (ad 63)), (1, .int p0), (2, .int p1), (3, .int p2), (4, .int w)] [] M) (r := y4_1) ?_ me_fu 0 hq1
  rintro x4_1 z1 h hb1 - hr1
  unfold mX12_isAhead_63_L3 at h
  refine me_iload_n X (i := 2) 2 rfl dX12_isAhead_3 ?_
  refine me_iload X (i := 4) 4 rfl dX12_isAhead_4 ?_
  refine me_iadd X dX12_isAhead_6 ?_
  refine me_aload_n X (i := 0) 0 rfl dX12_isAhead_7 ?_
  refine me_geti X kF_X12_20 (Nat.le_of_ble_eq_true rfl) me_k63 me_f63_5 dX12_isAhead_8 ?_
  refine me_icmp_ge X 56 (by decide) dX12_isAhead_11 (fun c1 => ?_) (fun c1 => ?_)
  · have h := me_ip c1 h
    obtain rfl := me_so h
    have q := hr1 _ rfl
    cases q
    exact hx1
  · have h := me_in c1 h
    refine me_iload_n X (i := 3) 3 rfl dX12_isAhead_14 ?_
    refine me_iload X (i := 4) 4 rfl dX12_isAhead_15 ?_
    refine me_iadd X dX12_isAhead_17 ?_
    refine me_aload_n X (i := 0) 0 rfl dX12_isAhead_18 ?_
    refine me_geti X kF_X12_20 (Nat.le_of_ble_eq_true rfl) me_k63 me_f63_5 dX12_isAhead_19 ?_
    refine me_icmp_ge X 56 (by decide) dX12_isAhead_22 (fun c2 => ?_) (fun c2 => ?_)
    · have h := me_ip c2 h
      obtain rfl := me_so h
      have q := hr1 _ rfl
      cases q
      exact hx1
    · have h := me_in c2 h
      refine me_aload_n X (i := 0) 0 rfl dX12_isAhead_25 ?_
      refine me_getr X 66 kF_X12_28 (Nat.le_of_ble_eq_true rfl) me_k63 me_f63_7 dX12_isAhead_26 ?_
      refine me_iload_n X (i := 1) 1 rfl dX12_isAhead_29 ?_
      obtain ⟨a1, e1, h⟩ := me_bd h
      have f_a1 := me_f67 e1
      refine me_aald X (Nat.le_of_ble_eq_true rfl) ⟨by decide, by decide, Nat.lt_of_lt_of_le (by decide) hnt⟩ me_k66 e1 dX12_isAhead_30 ?_
      refine me_iload_n X (i := 2) 2 rfl dX12_isAhead_31 ?_
      refine me_iload X (i := 4) 4 rfl dX12_isAhead_32 ?_
      refine me_iadd X dX12_isAhead_34 ?_
      obtain ⟨v1, e2, h⟩ := me_bd h
      refine me_iald X f_a1.2 f_a1.1 e2 dX12_isAhead_35 ?_
      refine me_aload_n X (i := 0) 0 rfl dX12_isAhead_36 ?_
      refine me_getr X 66 kF_X12_28 (Nat.le_of_ble_eq_true rfl) me_k63 me_f63_7 dX12_isAhead_37 ?_
      refine me_iload_n X (i := 1) 1 rfl dX12_isAhead_40 ?_
      obtain ⟨a2, e3, h⟩ := me_bd h
      have f_a2 := me_f67 e3
      refine me_aald X (Nat.le_of_ble_eq_true rfl) ⟨by decide, by decide, Nat.lt_of_lt_of_le (by decide) hnt⟩ me_k66 e3 dX12_isAhead_41 ?_
      refine me_iload_n X (i := 3) 3 rfl dX12_isAhead_42 ?_
      refine me_iload X (i := 4) 4 rfl dX12_isAhead_43 ?_
      refine me_iadd X dX12_isAhead_45 ?_
      obtain ⟨v2, e4, h⟩ := me_bd h
      refine me_iald X f_a2.2 f_a2.1 e4 dX12_isAhead_46 ?_
      refine me_icmp_ne X 56 (by decide) dX12_isAhead_47 (fun c3 => ?_) (fun c3 => ?_)
      · have h := me_in c3 h
        obtain rfl := me_so h
        have q := hr1 _ rfl
        cases q
        exact hx1
      · have h := me_ip c3 h
        refine me_iinc X (v := (x4_1 + 1)) 4 rfl (in_1 _) [(4, .int (x4_1 + 1)), (0, .ref (ad 63)), (1, .int p0), (2, .int p1), (3, .int p2)] (Nat.le_of_ble_eq_true rfl) rfl dX12_isAhead_50 ?_
        refine me_goto X 3 (by decide) dX12_isAhead_53 ?_
        obtain rfl := me_so h
        refine me_sub (L' := [(0, .ref (ad 63)), (1, .int p0), (2, .int p1), (3, .int p2), (4, .int (x4_1 + 1))]) [1, 2, 3, 4, 0] rfl ?_
        exact hb1 (x4_1 + 1) rfl
def mX12_laysRows_63_L14  : (Int32 × me_M) → Option ((Int32 × me_M) ⊕ (me_M))
  | (x1_1, M2) => (if (M2.1 63 5) ≤ x1_1 then some (.inr M2) else ((me_r M2 67 241 (((M2.1 63 5) - 1) - x1_1)).bind fun v1 => ((me_t M2 68 241 x1_1 v1).bind fun M3 => some (.inl ((x1_1 + 1), M3)))))
def mX12_laysRows_63_L82 (x1_2 : Int32) (x2_1 : Int32) : (Int32 × me_M) → Option ((Int32 × me_M) ⊕ (Int32 × me_M))
  | (x3_1, M8) => (if x3_1 ≤ 0 then some (.inr (x3_1, M8)) else ((me_a 2 70 x1_2).bind fun a1 => ((me_r M8 a1 241 (x3_1 - 1)).bind fun v2 => ((mX12_isAhead_63 M8 x1_2 x2_1 v2).bind fun v3 => (if v3 = 0 then some (.inr (x3_1, M8)) else ((me_a 2 70 x1_2).bind fun a2 => ((me_a 2 70 x1_2).bind fun a3 => ((me_r M8 a3 241 (x3_1 - 1)).bind fun v4 => ((me_t M8 a2 241 x3_1 v4).bind fun M9 => some (.inl ((x3_1 + (-1)), M9)))))))))))
def mX12_laysRows_63_L72 (x1_2 : Int32) : (Int32 × me_M) → Option ((Int32 × me_M) ⊕ (me_M))
  | (x2_1, M7) => (if (M7.1 63 5) < x2_1 then some (.inr M7) else ((me_l (mX12_laysRows_63_L82 x1_2 x2_1) me_fu (x2_1, M7)).bind fun (y3_1, M10) => ((me_a 2 70 x1_2).bind fun a4 => ((me_t M10 a4 241 y3_1 x2_1).bind fun M11 => some (.inl ((x2_1 + 1), M11))))))
def mX12_laysRows_63_L146 (x1_2 : Int32) : (Int32 × me_M) → Option ((Int32 × me_M) ⊕ (me_M))
  | (x2_2, M13) => (if (M13.1 63 5) < x2_2 then some (.inr M13) else ((me_a 2 73 x1_2).bind fun a5 => ((me_a 2 70 x1_2).bind fun a6 => ((me_r M13 a6 241 x2_2).bind fun v5 => ((me_t M13 a5 241 v5 x2_2).bind fun M14 => some (.inl ((x2_2 + 1), M14)))))))
def mX12_laysRows_63_L65  : (Int32 × me_M) → Option ((Int32 × me_M) ⊕ (me_M))
  | (x1_2, M6) => (if 2 ≤ x1_2 then some (.inr M6) else ((me_l (mX12_laysRows_63_L72 x1_2) me_fu (0, M6)).bind fun M12 => ((me_l (mX12_laysRows_63_L146 x1_2) me_fu (0, M12)).bind fun M15 => some (.inl ((x1_2 + 1), M15)))))
def mX12_laysRows_63 (M : me_M)  : Option me_M :=
  ((me_t M 67 241 (M.1 63 5) 0).bind fun M1 => ((me_l mX12_laysRows_63_L14 me_fu (0, M1)).bind fun M4 => ((me_t M4 68 241 (M4.1 63 5) 0).bind fun M5 => ((me_l mX12_laysRows_63_L65 me_fu (0, M5)).bind fun M16 => some M16))))
set_option maxRecDepth 100000 in
set_option maxHeartbeats 4000000 in
theorem ctX12_laysRows_63 {l : Launch} {n nt : Nat} (hn : 424 ≤ n) (hnt : 4 ≤ nt) {M : me_M} {M' : me_M} (h : mX12_laysRows_63 M = some M') : me_Ct l yX12_laysRows cX12_laysRows 4 none 1 n nt (fun ad => [.ref (ad 63)]) M (fun _ => none) M' := by
  unfold mX12_laysRows_63 at h
  refine me_enter (N0 := 424) RX12 rfl (plainFor_of_name pl_RX12) hn (Nat.le_trans (by decide) hnt) (fun _ => Nat.le_of_ble_eq_true rfl) ?_
  intro p e R s m args below meth c D cA ad tys A X hr hlk
  refine me_sub (L' := [(0, .ref (ad 63))]) [0] rfl ?_
  refine me_aload_n X (i := 0) 0 rfl dX12_laysRows_0 ?_
  refine me_getr X 66 kF_X12_28 (Nat.le_of_ble_eq_true rfl) me_k63 me_f63_7 dX12_laysRows_1 ?_
  refine me_iconst X dX12_laysRows_4 ic_0 ?_
  refine me_aald X (j := 67) (Nat.le_of_ble_eq_true rfl) ⟨by decide, by decide, Nat.lt_of_lt_of_le (by decide) hnt⟩ me_k66 (by decide) dX12_laysRows_5 ?_
  refine me_aload_n X (i := 0) 0 rfl dX12_laysRows_6 ?_
  refine me_geti X kF_X12_20 (Nat.le_of_ble_eq_true rfl) me_k63 me_f63_5 dX12_laysRows_7 ?_
  refine me_iconst X dX12_laysRows_10 ic_0 ?_
  obtain ⟨M1, e1, h⟩ := me_bd h
  refine me_iast X (Nat.le_of_ble_eq_true rfl) me_k67 e1 dX12_laysRows_11 ?_
  refine me_iconst X dX12_laysRows_12 ic_0 ?_
  refine me_istore_n X (i := 1) [(1, .int 0), (0, .ref (ad 63))] (Nat.le_of_ble_eq_true rfl) rfl dX12_laysRows_13 ?_
  obtain ⟨M4, hq1, h⟩ := me_bd h
  have hx1 : me_W p l e R s m args below meth c 0 0 (MQ below (me_Qc D cA ad n A none M') args s 0 0 A) D cA ad n 4 A 51 [(0, .ref (ad 63))] [] M4 := by
    refine me_aload_n X (i := 0) 0 rfl dX12_laysRows_51 ?_
    refine me_getr X 66 kF_X12_28 (Nat.le_of_ble_eq_true rfl) me_k63 me_f63_7 dX12_laysRows_52 ?_
    refine me_iconst X dX12_laysRows_55 ic_1 ?_
    refine me_aald X (j := 68) (Nat.le_of_ble_eq_true rfl) ⟨by decide, by decide, Nat.lt_of_lt_of_le (by decide) hnt⟩ me_k66 (by decide) dX12_laysRows_56 ?_
    refine me_aload_n X (i := 0) 0 rfl dX12_laysRows_57 ?_
    refine me_geti X kF_X12_20 (Nat.le_of_ble_eq_true rfl) me_k63 me_f63_5 dX12_laysRows_58 ?_
    refine me_iconst X dX12_laysRows_61 ic_0 ?_
    obtain ⟨M5, e4, h⟩ := me_bd h
    refine me_iast X (Nat.le_of_ble_eq_true rfl) me_k68 e4 dX12_laysRows_62 ?_
    refine me_iconst X dX12_laysRows_63 ic_0 ?_
    refine me_istore_n X (i := 1) [(1, .int 0), (0, .ref (ad 63))] (Nat.le_of_ble_eq_true rfl) rfl dX12_laysRows_64 ?_
    obtain ⟨M16, hq2, h⟩ := me_bd h
    have hx5 : me_W p l e R s m args below meth c 0 0 (MQ below (me_Qc D cA ad n A none M') args s 0 0 A) D cA ad n 4 A 182 [] [] M16 := by
      obtain rfl := me_so h
      exact me_vret X hr hlk dX12_laysRows_182
    refine me_sub (L' := [(0, .ref (ad 63)), (1, .int 0)]) [1, 0] rfl ?_
    refine me_l_W (b := mX12_laysRows_63_L65) (P := fun w => me_W p l e R s m args below meth c 0 0 (MQ below (me_Qc D cA ad n A none M') args s 0 0 A) D cA ad n 4 A 65 [(0, .ref (ad 63)), (1, .int w.1)] [] w.2) (r := M16) ?_ me_fu (0, M5) hq2
    rintro ⟨x1_2, M6⟩ z2 h hb2 - hr2
    unfold mX12_laysRows_63_L65 at h
    refine me_iload_n X (i := 1) 1 rfl dX12_laysRows_65 ?_
    refine me_iconst X dX12_laysRows_66 ic_2 ?_
    refine me_icmp_ge X 182 (by decide) dX12_laysRows_67 (fun c2 => ?_) (fun c2 => ?_)
    · have h := me_ip c2 h
      obtain rfl := me_so h
      have q := hr2 _ rfl
      refine me_sub (L' := []) [] rfl ?_
      cases q
      exact hx5
    · have h := me_in c2 h
      refine me_iconst X dX12_laysRows_70 ic_0 ?_
      refine me_istore_n X (i := 2) [(2, .int 0), (0, .ref (ad 63)), (1, .int x1_2)] (Nat.le_of_ble_eq_true rfl) rfl dX12_laysRows_71 ?_
      obtain ⟨M12, hq3, h⟩ := me_bd h
      have hx3 : me_W p l e R s m args below meth c 0 0 (MQ below (me_Qc D cA ad n A none M') args s 0 0 A) D cA ad n 4 A 144 [(0, .ref (ad 63)), (1, .int x1_2)] [] M12 := by
        refine me_iconst X dX12_laysRows_144 ic_0 ?_
        refine me_istore_n X (i := 2) [(2, .int 0), (0, .ref (ad 63)), (1, .int x1_2)] (Nat.le_of_ble_eq_true rfl) rfl dX12_laysRows_145 ?_
        obtain ⟨M15, hq5, h⟩ := me_bd h
        have hx4 : me_W p l e R s m args below meth c 0 0 (MQ below (me_Qc D cA ad n A none M') args s 0 0 A) D cA ad n 4 A 176 [(0, .ref (ad 63)), (1, .int x1_2)] [] M15 := by
          refine me_iinc X (v := (x1_2 + 1)) 1 rfl (in_1 _) [(1, .int (x1_2 + 1)), (0, .ref (ad 63))] (Nat.le_of_ble_eq_true rfl) rfl dX12_laysRows_176 ?_
          refine me_goto X 65 (by decide) dX12_laysRows_179 ?_
          obtain rfl := me_so h
          refine me_sub (L' := [(0, .ref (ad 63)), (1, .int (x1_2 + 1))]) [1, 0] rfl ?_
          exact hb2 ((x1_2 + 1), M15) rfl
        refine me_sub (L' := [(0, .ref (ad 63)), (1, .int x1_2), (2, .int 0)]) [1, 2, 0] rfl ?_
        refine me_l_W (b := (mX12_laysRows_63_L146 x1_2)) (P := fun w => me_W p l e R s m args below meth c 0 0 (MQ below (me_Qc D cA ad n A none M') args s 0 0 A) D cA ad n 4 A 146 [(0, .ref (ad 63)), (1, .int x1_2), (2, .int w.1)] [] w.2) (r := M15) ?_ me_fu (0, M12) hq5
        rintro ⟨x2_2, M13⟩ z5 h hb5 - hr5
        unfold mX12_laysRows_63_L146 at h
        refine me_iload_n X (i := 2) 2 rfl dX12_laysRows_146 ?_
        refine me_aload_n X (i := 0) 0 rfl dX12_laysRows_147 ?_
        refine me_geti X kF_X12_20 (Nat.le_of_ble_eq_true rfl) me_k63 me_f63_5 dX12_laysRows_148 ?_
        refine me_icmp_gt X 176 (by decide) dX12_laysRows_151 (fun c6 => ?_) (fun c6 => ?_)
        · have h := me_ip c6 h
          obtain rfl := me_so h
          have q := hr5 _ rfl
          refine me_sub (L' := [(0, .ref (ad 63)), (1, .int x1_2)]) [0, 1] rfl ?_
          cases q
          exact hx4
        · have h := me_in c6 h
          refine me_aload_n X (i := 0) 0 rfl dX12_laysRows_154 ?_
          refine me_getr X 72 kF_X12_34 (Nat.le_of_ble_eq_true rfl) me_k63 me_f63_9 dX12_laysRows_155 ?_
          refine me_iload_n X (i := 1) 1 rfl dX12_laysRows_158 ?_
          obtain ⟨a5, e14, h⟩ := me_bd h
          have f_a5 := me_f73 e14
          refine me_aald X (Nat.le_of_ble_eq_true rfl) ⟨by decide, by decide, Nat.lt_of_lt_of_le (by decide) hnt⟩ me_k72 e14 dX12_laysRows_159 ?_
          refine me_aload_n X (i := 0) 0 rfl dX12_laysRows_160 ?_
          refine me_getr X 69 kF_X12_31 (Nat.le_of_ble_eq_true rfl) me_k63 me_f63_8 dX12_laysRows_161 ?_
          refine me_iload_n X (i := 1) 1 rfl dX12_laysRows_164 ?_
          obtain ⟨a6, e15, h⟩ := me_bd h
          have f_a6 := me_f70 e15
          refine me_aald X (Nat.le_of_ble_eq_true rfl) ⟨by decide, by decide, Nat.lt_of_lt_of_le (by decide) hnt⟩ me_k69 e15 dX12_laysRows_165 ?_
          refine me_iload_n X (i := 2) 2 rfl dX12_laysRows_166 ?_
          obtain ⟨v5, e16, h⟩ := me_bd h
          refine me_iald X f_a6.2 f_a6.1 e16 dX12_laysRows_167 ?_
          refine me_iload_n X (i := 2) 2 rfl dX12_laysRows_168 ?_
          obtain ⟨M14, e17, h⟩ := me_bd h
          refine me_iast X f_a5.2 f_a5.1 e17 dX12_laysRows_169 ?_
          refine me_iinc X (v := (x2_2 + 1)) 2 rfl (in_1 _) [(2, .int (x2_2 + 1)), (0, .ref (ad 63)), (1, .int x1_2)] (Nat.le_of_ble_eq_true rfl) rfl dX12_laysRows_170 ?_
          refine me_goto X 146 (by decide) dX12_laysRows_173 ?_
          obtain rfl := me_so h
          refine me_sub (L' := [(0, .ref (ad 63)), (1, .int x1_2), (2, .int (x2_2 + 1))]) [1, 2, 0] rfl ?_
          exact hb5 ((x2_2 + 1), M14) rfl
      refine me_sub (L' := [(0, .ref (ad 63)), (1, .int x1_2), (2, .int 0)]) [1, 2, 0] rfl ?_
      refine me_l_W (b := (mX12_laysRows_63_L72 x1_2)) (P := fun w => me_W p l e R s m args below meth c 0 0 (MQ below (me_Qc D cA ad n A none M') args s 0 0 A) D cA ad n 4 A 72 [(0, .ref (ad 63)), (1, .int x1_2), (2, .int w.1)] [] w.2) (r := M12) ?_ me_fu (0, M6) hq3
      rintro ⟨x2_1, M7⟩ z3 h hb3 - hr3
      unfold mX12_laysRows_63_L72 at h
      refine me_iload_n X (i := 2) 2 rfl dX12_laysRows_72 ?_
      refine me_aload_n X (i := 0) 0 rfl dX12_laysRows_73 ?_
      refine me_geti X kF_X12_20 (Nat.le_of_ble_eq_true rfl) me_k63 me_f63_5 dX12_laysRows_74 ?_
      refine me_icmp_gt X 144 (by decide) dX12_laysRows_77 (fun c3 => ?_) (fun c3 => ?_)
      · have h := me_ip c3 h
        obtain rfl := me_so h
        have q := hr3 _ rfl
        refine me_sub (L' := [(0, .ref (ad 63)), (1, .int x1_2)]) [0, 1] rfl ?_
        cases q
        exact hx3
      · have h := me_in c3 h
        refine me_iload_n X (i := 2) 2 rfl dX12_laysRows_80 ?_
        refine me_istore_n X (i := 3) [(3, .int x2_1), (0, .ref (ad 63)), (1, .int x1_2), (2, .int x2_1)] (Nat.le_of_ble_eq_true rfl) rfl dX12_laysRows_81 ?_
        obtain ⟨⟨y3_1, M10⟩, hq4, h⟩ := me_bd h
        have hx2 : me_W p l e R s m args below meth c 0 0 (MQ below (me_Qc D cA ad n A none M') args s 0 0 A) D cA ad n 4 A 129 [(0, .ref (ad 63)), (1, .int x1_2), (2, .int x2_1), (3, .int y3_1)] [] M10 := by
          refine me_aload_n X (i := 0) 0 rfl dX12_laysRows_129 ?_
          refine me_getr X 69 kF_X12_31 (Nat.le_of_ble_eq_true rfl) me_k63 me_f63_8 dX12_laysRows_130 ?_
          refine me_iload_n X (i := 1) 1 rfl dX12_laysRows_133 ?_
          obtain ⟨a4, e12, h⟩ := me_bd h
          have f_a4 := me_f70 e12
          refine me_aald X (Nat.le_of_ble_eq_true rfl) ⟨by decide, by decide, Nat.lt_of_lt_of_le (by decide) hnt⟩ me_k69 e12 dX12_laysRows_134 ?_
          refine me_iload_n X (i := 3) 3 rfl dX12_laysRows_135 ?_
          refine me_iload_n X (i := 2) 2 rfl dX12_laysRows_136 ?_
          obtain ⟨M11, e13, h⟩ := me_bd h
          refine me_iast X f_a4.2 f_a4.1 e13 dX12_laysRows_137 ?_
          refine me_iinc X (v := (x2_1 + 1)) 2 rfl (in_1 _) [(2, .int (x2_1 + 1)), (0, .ref (ad 63)), (1, .int x1_2), (3, .int y3_1)] (Nat.le_of_ble_eq_true rfl) rfl dX12_laysRows_138 ?_
          refine me_goto X 72 (by decide) dX12_laysRows_141 ?_
          obtain rfl := me_so h
          refine me_sub (L' := [(0, .ref (ad 63)), (1, .int x1_2), (2, .int (x2_1 + 1))]) [1, 2, 0] rfl ?_
          exact hb3 ((x2_1 + 1), M11) rfl
        refine me_sub (L' := [(0, .ref (ad 63)), (1, .int x1_2), (2, .int x2_1), (3, .int x2_1)]) [1, 2, 3, 0] rfl ?_
        refine me_l_W (b := (mX12_laysRows_63_L82 x1_2 x2_1)) (P := fun w => me_W p l e R s m args below meth c 0 0 (MQ below (me_Qc D cA ad n A none M') args s 0 0 A) D cA ad n 4 A 82 [(0, .ref (ad 63)), (1, .int x1_2), (2, .int x2_1), (3, .int w.1)] [] w.2) (r := (y3_1, M10)) ?_ me_fu (x2_1, M7) hq4
        rintro ⟨x3_1, M8⟩ z4 h hb4 - hr4
        unfold mX12_laysRows_63_L82 at h
        refine me_iload_n X (i := 3) 3 rfl dX12_laysRows_82 ?_
        refine me_if_le X 129 (by decide) dX12_laysRows_83 (fun c4 => ?_) (fun c4 => ?_)
        · have h := me_ip c4 h
          obtain rfl := me_so h
          have q := hr4 _ rfl
          cases q
          exact hx2
        · have h := me_in c4 h
          refine me_aload_n X (i := 0) 0 rfl dX12_laysRows_86 ?_
          refine me_iload_n X (i := 1) 1 rfl dX12_laysRows_87 ?_
          refine me_iload_n X (i := 2) 2 rfl dX12_laysRows_88 ?_
          refine me_aload_n X (i := 0) 0 rfl dX12_laysRows_89 ?_
          refine me_getr X 69 kF_X12_31 (Nat.le_of_ble_eq_true rfl) me_k63 me_f63_8 dX12_laysRows_90 ?_
          refine me_iload_n X (i := 1) 1 rfl dX12_laysRows_93 ?_
          obtain ⟨a1, e5, h⟩ := me_bd h
          have f_a1 := me_f70 e5
          refine me_aald X (Nat.le_of_ble_eq_true rfl) ⟨by decide, by decide, Nat.lt_of_lt_of_le (by decide) hnt⟩ me_k69 e5 dX12_laysRows_94 ?_
          refine me_iload_n X (i := 3) 3 rfl dX12_laysRows_95 ?_
          refine me_iconst X dX12_laysRows_96 ic_1 ?_
          refine me_isub X dX12_laysRows_97 ?_
          obtain ⟨v2, e6, h⟩ := me_bd h
          refine me_iald X f_a1.2 f_a1.1 e6 dX12_laysRows_98 ?_
          obtain ⟨v3, e7, h⟩ := me_bd h
          refine me_callVi X [.int x1_2, .int x2_1, .int v2] (ctX12_isAhead_63 hn (Nat.le_trans (by decide) hnt) e7) kV_X12_112 rfl rfl (Nat.le_of_ble_eq_true rfl) me_k63 (Nat.le_of_ble_eq_true rfl) (Nat.le_refl _) (Nat.le_of_ble_eq_true rfl) dX12_laysRows_99 ?_
          refine me_if_eq X 129 (by decide) dX12_laysRows_102 (fun c5 => ?_) (fun c5 => ?_)
          · have h := me_ip c5 h
            obtain rfl := me_so h
            have q := hr4 _ rfl
            cases q
            exact hx2
          · have h := me_in c5 h
            refine me_aload_n X (i := 0) 0 rfl dX12_laysRows_105 ?_
            refine me_getr X 69 kF_X12_31 (Nat.le_of_ble_eq_true rfl) me_k63 me_f63_8 dX12_laysRows_106 ?_
            refine me_iload_n X (i := 1) 1 rfl dX12_laysRows_109 ?_
            obtain ⟨a2, e8, h⟩ := me_bd h
            have f_a2 := me_f70 e8
            refine me_aald X (Nat.le_of_ble_eq_true rfl) ⟨by decide, by decide, Nat.lt_of_lt_of_le (by decide) hnt⟩ me_k69 e8 dX12_laysRows_110 ?_
            refine me_iload_n X (i := 3) 3 rfl dX12_laysRows_111 ?_
            refine me_aload_n X (i := 0) 0 rfl dX12_laysRows_112 ?_
            refine me_getr X 69 kF_X12_31 (Nat.le_of_ble_eq_true rfl) me_k63 me_f63_8 dX12_laysRows_113 ?_
            refine me_iload_n X (i := 1) 1 rfl dX12_laysRows_116 ?_
            obtain ⟨a3, e9, h⟩ := me_bd h
            have f_a3 := me_f70 e9
            refine me_aald X (Nat.le_of_ble_eq_true rfl) ⟨by decide, by decide, Nat.lt_of_lt_of_le (by decide) hnt⟩ me_k69 e9 dX12_laysRows_117 ?_
            refine me_iload_n X (i := 3) 3 rfl dX12_laysRows_118 ?_
            refine me_iconst X dX12_laysRows_119 ic_1 ?_
            refine me_isub X dX12_laysRows_120 ?_
            obtain ⟨v4, e10, h⟩ := me_bd h
            refine me_iald X f_a3.2 f_a3.1 e10 dX12_laysRows_121 ?_
            obtain ⟨M9, e11, h⟩ := me_bd h
            refine me_iast X f_a2.2 f_a2.1 e11 dX12_laysRows_122 ?_
            refine me_iinc X (v := (x3_1 + (-1))) 3 rfl (in_m1 _) [(3, .int (x3_1 + (-1))), (0, .ref (ad 63)), (1, .int x1_2), (2, .int x2_1)] (Nat.le_of_ble_eq_true rfl) rfl dX12_laysRows_123 ?_
            refine me_goto X 82 (by decide) dX12_laysRows_126 ?_
            obtain rfl := me_so h
            refine me_sub (L' := [(0, .ref (ad 63)), (1, .int x1_2), (2, .int x2_1), (3, .int (x3_1 + (-1)))]) [1, 2, 3, 0] rfl ?_
            exact hb4 ((x3_1 + (-1)), M9) rfl
  refine me_sub (L' := [(0, .ref (ad 63)), (1, .int 0)]) [1, 0] rfl ?_
  refine me_l_W (b := mX12_laysRows_63_L14) (P := fun w => me_W p l e R s m args below meth c 0 0 (MQ below (me_Qc D cA ad n A none M') args s 0 0 A) D cA ad n 4 A 14 [(0, .ref (ad 63)), (1, .int w.1)] [] w.2) (r := M4) ?_ me_fu (0, M1) hq1
  rintro ⟨x1_1, M2⟩ z1 h hb1 - hr1
  unfold mX12_laysRows_63_L14 at h
  refine me_iload_n X (i := 1) 1 rfl dX12_laysRows_14 ?_
  refine me_aload_n X (i := 0) 0 rfl dX12_laysRows_15 ?_
  refine me_geti X kF_X12_20 (Nat.le_of_ble_eq_true rfl) me_k63 me_f63_5 dX12_laysRows_16 ?_
  refine me_icmp_ge X 51 (by decide) dX12_laysRows_19 (fun c1 => ?_) (fun c1 => ?_)
  · have h := me_ip c1 h
    obtain rfl := me_so h
    have q := hr1 _ rfl
    refine me_sub (L' := [(0, .ref (ad 63))]) [0] rfl ?_
    cases q
    exact hx1
  · have h := me_in c1 h
    refine me_aload_n X (i := 0) 0 rfl dX12_laysRows_22 ?_
    refine me_getr X 66 kF_X12_28 (Nat.le_of_ble_eq_true rfl) me_k63 me_f63_7 dX12_laysRows_23 ?_
    refine me_iconst X dX12_laysRows_26 ic_1 ?_
    refine me_aald X (j := 68) (Nat.le_of_ble_eq_true rfl) ⟨by decide, by decide, Nat.lt_of_lt_of_le (by decide) hnt⟩ me_k66 (by decide) dX12_laysRows_27 ?_
    refine me_iload_n X (i := 1) 1 rfl dX12_laysRows_28 ?_
    refine me_aload_n X (i := 0) 0 rfl dX12_laysRows_29 ?_
    refine me_getr X 66 kF_X12_28 (Nat.le_of_ble_eq_true rfl) me_k63 me_f63_7 dX12_laysRows_30 ?_
    refine me_iconst X dX12_laysRows_33 ic_0 ?_
    refine me_aald X (j := 67) (Nat.le_of_ble_eq_true rfl) ⟨by decide, by decide, Nat.lt_of_lt_of_le (by decide) hnt⟩ me_k66 (by decide) dX12_laysRows_34 ?_
    refine me_aload_n X (i := 0) 0 rfl dX12_laysRows_35 ?_
    refine me_geti X kF_X12_20 (Nat.le_of_ble_eq_true rfl) me_k63 me_f63_5 dX12_laysRows_36 ?_
    refine me_iconst X dX12_laysRows_39 ic_1 ?_
    refine me_isub X dX12_laysRows_40 ?_
    refine me_iload_n X (i := 1) 1 rfl dX12_laysRows_41 ?_
    refine me_isub X dX12_laysRows_42 ?_
    obtain ⟨v1, e2, h⟩ := me_bd h
    refine me_iald X (Nat.le_of_ble_eq_true rfl) me_k67 e2 dX12_laysRows_43 ?_
    obtain ⟨M3, e3, h⟩ := me_bd h
    refine me_iast X (Nat.le_of_ble_eq_true rfl) me_k68 e3 dX12_laysRows_44 ?_
    refine me_iinc X (v := (x1_1 + 1)) 1 rfl (in_1 _) [(1, .int (x1_1 + 1)), (0, .ref (ad 63))] (Nat.le_of_ble_eq_true rfl) rfl dX12_laysRows_45 ?_
    refine me_goto X 14 (by decide) dX12_laysRows_48 ?_
    obtain rfl := me_so h
    refine me_sub (L' := [(0, .ref (ad 63)), (1, .int (x1_1 + 1))]) [1, 0] rfl ?_
    exact hb1 ((x1_1 + 1), M3) rfl
def mX12_feed_63_J76 (p0 : Int32) (p1 : Int32) (p2 : Int32) (p3 : Int32) (p4 : Int32) (x6_1 : Int32) (M1 : me_M) (s1 : Int32) : Option ((Int32 × me_M) ⊕ (me_M)) :=
  ((me_md x6_1 4).bind fun v1 => ((me_t M1 65 240 (M1.1 63 2) ((s1 >>> ((24 - (8 * v1)) &&& 31)) &&& 255)).bind fun M2 => some (.inl ((x6_1 + 1), (me_s M2 63 2 ((M2.1 63 2) + 1))))))
def mX12_feed_63_L23 (p0 : Int32) (p1 : Int32) (p2 : Int32) (p3 : Int32) (p4 : Int32) : (Int32 × me_M) → Option ((Int32 × me_M) ⊕ (me_M))
  | (x6_1, M1) => (if 20 ≤ x6_1 then some (.inr M1) else (if 4 ≤ x6_1 then (if 8 ≤ x6_1 then (if 12 ≤ x6_1 then (if 16 ≤ x6_1 then (mX12_feed_63_J76 p0 p1 p2 p3 p4 x6_1 M1 p4) else (mX12_feed_63_J76 p0 p1 p2 p3 p4 x6_1 M1 p3)) else (mX12_feed_63_J76 p0 p1 p2 p3 p4 x6_1 M1 p2)) else (mX12_feed_63_J76 p0 p1 p2 p3 p4 x6_1 M1 p1)) else (mX12_feed_63_J76 p0 p1 p2 p3 p4 x6_1 M1 p0)))
def mX12_feed_63 (M : me_M) (p0 : Int32) (p1 : Int32) (p2 : Int32) (p3 : Int32) (p4 : Int32) : Option (Int32 × me_M) :=
  (if (((me_s M 63 0 0).1 63 2) + 20) ≤ 240 then ((me_l (mX12_feed_63_L23 p0 p1 p2 p3 p4) me_fu (0, (me_s M 63 0 0))).bind fun M3 => some ((M3.1 63 2), M3)) else some ((-1), (me_s M 63 0 0)))
set_option maxRecDepth 100000 in
set_option maxHeartbeats 4000000 in
theorem ctX12_feed_63 {l : Launch} {n nt : Nat} (hn : 424 ≤ n) (hnt : 4 ≤ nt) {M : me_M} {p0 : Int32} {p1 : Int32} {p2 : Int32} {p3 : Int32} {p4 : Int32} {r : Int32} {M' : me_M} (h : mX12_feed_63 M p0 p1 p2 p3 p4 = some (r, M')) : me_Ct l yX12_feed cX12_feed 8 (some .int) 0 n nt (fun ad => [.ref (ad 63), .int p0, .int p1, .int p2, .int p3, .int p4]) M (fun _ => some (.int r)) M' := by
  unfold mX12_feed_63 at h
  refine me_enter (N0 := 424) RX12 rfl (plainFor_of_name pl_RX12) hn (Nat.le_trans (by decide) hnt) (fun _ => Nat.le_of_ble_eq_true rfl) ?_
  intro p e R s m args below meth c D cA ad tys A X hr hlk
  refine me_sub (L' := [(0, .ref (ad 63)), (1, .int p0), (2, .int p1), (3, .int p2), (4, .int p3), (5, .int p4)]) [0, 1, 2, 3, 4, 5] rfl ?_
  refine me_aload_n X (i := 0) 0 rfl dX12_feed_0 ?_
  refine me_iconst X dX12_feed_1 ic_0 ?_
  refine me_puti X kG_X12_105 (Nat.le_of_ble_eq_true rfl) me_k63 me_f63_0 dX12_feed_2 ?_
  refine me_aload_n X (i := 0) 0 rfl dX12_feed_5 ?_
  refine me_geti X kF_X12_115 (Nat.le_of_ble_eq_true rfl) me_k63 me_f63_2 dX12_feed_6 ?_
  refine me_bipush X dX12_feed_9 ib_20 ?_
  refine me_iadd X dX12_feed_11 ?_
  refine me_sipush X dX12_feed_12 is_240 ?_
  refine me_icmp_le X 20 (by decide) dX12_feed_15 (fun c1 => ?_) (fun c1 => ?_)
  · have h := me_ip c1 h
    refine me_iconst X dX12_feed_20 ic_0 ?_
    refine me_istore X (i := 6) [(6, .int 0), (0, .ref (ad 63)), (1, .int p0), (2, .int p1), (3, .int p2), (4, .int p3), (5, .int p4)] (Nat.le_of_ble_eq_true rfl) rfl dX12_feed_21 ?_
    obtain ⟨M3, hq1, h⟩ := me_bd h
    have hx1 : me_W p l e R s m args below meth c 0 0 (MQ below (me_Qc D cA ad n A (some (.int r)) M') args s 0 0 A) D cA ad n 8 A 120 [(0, .ref (ad 63))] [] M3 := by
      refine me_aload_n X (i := 0) 0 rfl dX12_feed_120 ?_
      refine me_geti X kF_X12_115 (Nat.le_of_ble_eq_true rfl) me_k63 me_f63_2 dX12_feed_121 ?_
      obtain ⟨rfl, rfl⟩ := me_sp h
      exact me_iret X hr hlk dX12_feed_124
    refine me_sub (L' := [(0, .ref (ad 63)), (1, .int p0), (2, .int p1), (3, .int p2), (4, .int p3), (5, .int p4), (6, .int 0)]) [1, 2, 3, 4, 5, 6, 0] rfl ?_
    refine me_l_W (b := (mX12_feed_63_L23 p0 p1 p2 p3 p4)) (P := fun w => me_W p l e R s m args below meth c 0 0 (MQ below (me_Qc D cA ad n A (some (.int r)) M') args s 0 0 A) D cA ad n 8 A 23 [(0, .ref (ad 63)), (1, .int p0), (2, .int p1), (3, .int p2), (4, .int p3), (5, .int p4), (6, .int w.1)] [] w.2) (r := M3) ?_ me_fu (0, (me_s M 63 0 0)) hq1
    rintro ⟨x6_1, M1⟩ z1 h hb1 - hr1
    unfold mX12_feed_63_L23 at h
    refine me_iload X (i := 6) 6 rfl dX12_feed_23 ?_
    refine me_bipush X dX12_feed_25 ib_20 ?_
    refine me_icmp_ge X 120 (by decide) dX12_feed_27 (fun c2 => ?_) (fun c2 => ?_)
    · have h := me_ip c2 h
      obtain rfl := me_so h
      have q := hr1 _ rfl
      refine me_sub (L' := [(0, .ref (ad 63))]) [0] rfl ?_
      cases q
      exact hx1
    · have h := me_in c2 h
      refine me_iload X (i := 6) 6 rfl dX12_feed_30 ?_
      refine me_iconst X dX12_feed_32 ic_4 ?_
      have hj76_1 : ∀ (s1 : Int32), mX12_feed_63_J76 p0 p1 p2 p3 p4 x6_1 M1 s1 = some z1 → me_W p l e R s m args below meth c 0 0 (MQ below (me_Qc D cA ad n A (some (.int r)) M') args s 0 0 A) D cA ad n 8 A 76 [(0, .ref (ad 63)), (1, .int p0), (2, .int p1), (3, .int p2), (4, .int p3), (5, .int p4), (6, .int x6_1)] [.int s1] M1 := by
        intro s1 h
        unfold mX12_feed_63_J76 at h
        refine me_istore X (i := 7) [(7, .int s1), (0, .ref (ad 63)), (1, .int p0), (2, .int p1), (3, .int p2), (4, .int p3), (5, .int p4), (6, .int x6_1)] (Nat.le_of_ble_eq_true rfl) rfl dX12_feed_76 ?_
        refine me_aload_n X (i := 0) 1 rfl dX12_feed_78 ?_
        refine me_getr X 65 kF_X12_17 (Nat.le_of_ble_eq_true rfl) me_k63 me_f63_4 dX12_feed_79 ?_
        refine me_aload_n X (i := 0) 1 rfl dX12_feed_82 ?_
        refine me_geti X kF_X12_115 (Nat.le_of_ble_eq_true rfl) me_k63 me_f63_2 dX12_feed_83 ?_
        refine me_iload X (i := 7) 0 rfl dX12_feed_86 ?_
        refine me_bipush X dX12_feed_88 ib_24 ?_
        refine me_bipush X dX12_feed_90 ib_8 ?_
        refine me_iload X (i := 6) 7 rfl dX12_feed_92 ?_
        refine me_iconst X dX12_feed_94 ic_4 ?_
        obtain ⟨v1, e1, h⟩ := me_bd h
        refine me_irem X e1 dX12_feed_95 ?_
        refine me_imul X dX12_feed_96 ?_
        refine me_isub X dX12_feed_97 ?_
        refine me_ishr X dX12_feed_98 ?_
        refine me_sipush X dX12_feed_99 is_255 ?_
        refine me_iand X dX12_feed_102 ?_
        obtain ⟨M2, e2, h⟩ := me_bd h
        refine me_iast X (Nat.le_of_ble_eq_true rfl) me_k65 e2 dX12_feed_103 ?_
        refine me_aload_n X (i := 0) 1 rfl dX12_feed_104 ?_
        refine me_dup X rfl dX12_feed_105 ?_
        refine me_geti X kF_X12_115 (Nat.le_of_ble_eq_true rfl) me_k63 me_f63_2 dX12_feed_106 ?_
        refine me_iconst X dX12_feed_109 ic_1 ?_
        refine me_iadd X dX12_feed_110 ?_
        refine me_puti X kG_X12_115 (Nat.le_of_ble_eq_true rfl) me_k63 me_f63_2 dX12_feed_111 ?_
        refine me_iinc X (v := (x6_1 + 1)) 7 rfl (in_1 _) [(6, .int (x6_1 + 1)), (7, .int s1), (0, .ref (ad 63)), (1, .int p0), (2, .int p1), (3, .int p2), (4, .int p3), (5, .int p4)] (Nat.le_of_ble_eq_true rfl) rfl dX12_feed_114 ?_
        refine me_goto X 23 (by decide) dX12_feed_117 ?_
        obtain rfl := me_so h
        refine me_sub (L' := [(0, .ref (ad 63)), (1, .int p0), (2, .int p1), (3, .int p2), (4, .int p3), (5, .int p4), (6, .int (x6_1 + 1))]) [2, 3, 4, 5, 6, 7, 0] rfl ?_
        exact hb1 ((x6_1 + 1), (me_s M2 63 2 ((M2.1 63 2) + 1))) rfl
      refine me_icmp_ge X 40 (by decide) dX12_feed_33 (fun c3 => ?_) (fun c3 => ?_)
      · have h := me_ip c3 h
        refine me_iload X (i := 6) 6 rfl dX12_feed_40 ?_
        refine me_bipush X dX12_feed_42 ib_8 ?_
        refine me_icmp_ge X 51 (by decide) dX12_feed_44 (fun c4 => ?_) (fun c4 => ?_)
        · have h := me_ip c4 h
          refine me_iload X (i := 6) 6 rfl dX12_feed_51 ?_
          refine me_bipush X dX12_feed_53 ib_12 ?_
          refine me_icmp_ge X 62 (by decide) dX12_feed_55 (fun c5 => ?_) (fun c5 => ?_)
          · have h := me_ip c5 h
            refine me_iload X (i := 6) 6 rfl dX12_feed_62 ?_
            refine me_bipush X dX12_feed_64 ib_16 ?_
            refine me_icmp_ge X 74 (by decide) dX12_feed_66 (fun c6 => ?_) (fun c6 => ?_)
            · have h := me_ip c6 h
              refine me_iload X (i := 5) 5 rfl dX12_feed_74 ?_
              exact hj76_1 p4 h
            · have h := me_in c6 h
              refine me_iload X (i := 4) 4 rfl dX12_feed_69 ?_
              refine me_goto X 76 (by decide) dX12_feed_71 ?_
              exact hj76_1 p3 h
          · have h := me_in c5 h
            refine me_iload_n X (i := 3) 3 rfl dX12_feed_58 ?_
            refine me_goto X 76 (by decide) dX12_feed_59 ?_
            exact hj76_1 p2 h
        · have h := me_in c4 h
          refine me_iload_n X (i := 2) 2 rfl dX12_feed_47 ?_
          refine me_goto X 76 (by decide) dX12_feed_48 ?_
          exact hj76_1 p1 h
      · have h := me_in c3 h
        refine me_iload_n X (i := 1) 1 rfl dX12_feed_36 ?_
        refine me_goto X 76 (by decide) dX12_feed_37 ?_
        exact hj76_1 p0 h
  · have h := me_in c1 h
    refine me_iconst X dX12_feed_18 ic_m1 ?_
    obtain ⟨rfl, rfl⟩ := me_sp h
    exact me_iret X hr hlk dX12_feed_19
def mX12_wrongAt_63_J59 (p0 : Int32) (x2_1 : Int32) (M : me_M)  : Option ((Int32) ⊕ ((Unit) ⊕ Int32)) :=
  some (.inl (x2_1 + 1))
def mX12_wrongAt_63_L2 (M : me_M) (p0 : Int32) : (Int32) → Option ((Int32) ⊕ ((Unit) ⊕ Int32))
  | x2_1 => (if p0 ≤ x2_1 then some (.inr (.inl ())) else ((me_r M 65 240 x2_1).bind fun v1 => ((mX12_isLetter v1).bind fun v2 => (if v2 = 0 then ((me_r M 65 240 x2_1).bind fun v3 => (if v3 = 124 then (if x2_1 = 0 then some (.inr (.inr x2_1)) else (if x2_1 = (p0 - 1) then some (.inr (.inr x2_1)) else ((me_r M 65 240 (x2_1 - 1)).bind fun v4 => (if v4 = 124 then some (.inr (.inr x2_1)) else (mX12_wrongAt_63_J59 p0 x2_1 M ))))) else some (.inr (.inr x2_1)))) else (mX12_wrongAt_63_J59 p0 x2_1 M )))))
def mX12_wrongAt_63 (M : me_M) (p0 : Int32) : Option Int32 :=
  ((me_l (mX12_wrongAt_63_L2 M p0) me_fu 0).bind fun o => Sum.elim (fun _ => some (-1)) (fun res => some res) o)
set_option maxRecDepth 100000 in
set_option maxHeartbeats 4000000 in
theorem ctX12_wrongAt_63 {l : Launch} {n nt : Nat} (hn : 424 ≤ n) (hnt : 4 ≤ nt) {M : me_M} {p0 : Int32} {r : Int32} (h : mX12_wrongAt_63 M p0 = some r) : me_Ct l yX12_wrongAt cX12_wrongAt 3 (some .int) 2 n nt (fun ad => [.ref (ad 63), .int p0]) M (fun _ => some (.int r)) M := by
  unfold mX12_wrongAt_63 at h
  refine me_enter (N0 := 424) RX12 rfl (plainFor_of_name pl_RX12) hn (Nat.le_trans (by decide) hnt) (fun _ => Nat.le_of_ble_eq_true rfl) ?_
  intro p e R s m args below meth c D cA ad tys A X hr hlk
  refine me_sub (L' := [(0, .ref (ad 63)), (1, .int p0)]) [0, 1] rfl ?_
  refine me_iconst X dX12_wrongAt_0 ic_0 ?_
  refine me_istore_n X (i := 2) [(2, .int 0), (0, .ref (ad 63)), (1, .int p0)] (Nat.le_of_ble_eq_true rfl) rfl dX12_wrongAt_1 ?_
  obtain ⟨o0, hq1l, hq1⟩ := me_bd h
  have hx1 : o0 = .inl () → me_W p l e R s m args below meth c 0 0 (MQ below (me_Qc D cA ad n A (some (.int r)) M) args s 0 0 A) D cA ad n 3 A 65 [] [] M := by
    intro q
    subst q
    have h := me_el hq1
    refine me_iconst X dX12_wrongAt_65 ic_m1 ?_
    obtain rfl := me_so h
    exact me_iret X hr hlk dX12_wrongAt_66
  refine me_sub (L' := [(0, .ref (ad 63)), (1, .int p0), (2, .int 0)]) [1, 2, 0] rfl ?_
  refine me_l_W (b := (mX12_wrongAt_63_L2 M p0)) (P := fun w => me_W p l e R s m args below meth c 0 0 (MQ below (me_Qc D cA ad n A (some (.int r)) M) args s 0 0 A) D cA ad n 3 A 2 [(0, .ref (ad 63)), (1, .int p0), (2, .int w)] [] M) (r := o0) ?_ me_fu 0 hq1l
  rintro x2_1 z1 h hb1 - hr1
  unfold mX12_wrongAt_63_L2 at h
  refine me_iload_n X (i := 2) 2 rfl dX12_wrongAt_2 ?_
  refine me_iload_n X (i := 1) 1 rfl dX12_wrongAt_3 ?_
  refine me_icmp_ge X 65 (by decide) dX12_wrongAt_4 (fun c1 => ?_) (fun c1 => ?_)
  · have h := me_ip c1 h
    obtain rfl := me_so h
    have q := hr1 _ rfl
    refine me_sub (L' := []) [] rfl ?_
    subst q
    exact hx1 rfl
  · have h := me_in c1 h
    refine me_aload_n X (i := 0) 0 rfl dX12_wrongAt_7 ?_
    refine me_getr X 65 kF_X12_17 (Nat.le_of_ble_eq_true rfl) me_k63 me_f63_4 dX12_wrongAt_8 ?_
    refine me_iload_n X (i := 2) 2 rfl dX12_wrongAt_11 ?_
    obtain ⟨v1, e1, h⟩ := me_bd h
    refine me_iald X (Nat.le_of_ble_eq_true rfl) me_k65 e1 dX12_wrongAt_12 ?_
    obtain ⟨v2, e2, h⟩ := me_bd h
    refine me_callSi X [.int v1] (ctX12_isLetter hn (Nat.le_trans (by decide) hnt) e2) kS_X12_118 rfl rfl (Nat.le_of_ble_eq_true rfl) (Nat.le_refl _) (Nat.le_of_ble_eq_true rfl) dX12_wrongAt_13 ?_
    have hj59_1 : mX12_wrongAt_63_J59 p0 x2_1 M  = some z1 → me_W p l e R s m args below meth c 0 0 (MQ below (me_Qc D cA ad n A (some (.int r)) M) args s 0 0 A) D cA ad n 3 A 59 [(0, .ref (ad 63)), (1, .int p0), (2, .int x2_1)] [] M := by
      intro h
      unfold mX12_wrongAt_63_J59 at h
      refine me_iinc X (v := (x2_1 + 1)) 2 rfl (in_1 _) [(2, .int (x2_1 + 1)), (0, .ref (ad 63)), (1, .int p0)] (Nat.le_of_ble_eq_true rfl) rfl dX12_wrongAt_59 ?_
      refine me_goto X 2 (by decide) dX12_wrongAt_62 ?_
      obtain rfl := me_so h
      refine me_sub (L' := [(0, .ref (ad 63)), (1, .int p0), (2, .int (x2_1 + 1))]) [1, 2, 0] rfl ?_
      exact hb1 (x2_1 + 1) rfl
    refine me_if_eq X 22 (by decide) dX12_wrongAt_16 (fun c2 => ?_) (fun c2 => ?_)
    · have h := me_ip c2 h
      refine me_aload_n X (i := 0) 0 rfl dX12_wrongAt_22 ?_
      refine me_getr X 65 kF_X12_17 (Nat.le_of_ble_eq_true rfl) me_k63 me_f63_4 dX12_wrongAt_23 ?_
      refine me_iload_n X (i := 2) 2 rfl dX12_wrongAt_26 ?_
      obtain ⟨v3, e3, h⟩ := me_bd h
      refine me_iald X (Nat.le_of_ble_eq_true rfl) me_k65 e3 dX12_wrongAt_27 ?_
      refine me_bipush X dX12_wrongAt_28 ib_124 ?_
      refine me_icmp_ne X 57 (by decide) dX12_wrongAt_30 (fun c3 => ?_) (fun c3 => ?_)
      · have h := me_in c3 h
        refine me_iload_n X (i := 2) 2 rfl dX12_wrongAt_57 ?_
        obtain rfl := me_so h
        have q := hr1 _ rfl
        subst q
        have h : some x2_1 = some r := hq1
        obtain rfl := me_so h
        exact me_iret X hr hlk dX12_wrongAt_58
      · have h := me_ip c3 h
        refine me_iload_n X (i := 2) 2 rfl dX12_wrongAt_33 ?_
        refine me_if_eq X 57 (by decide) dX12_wrongAt_34 (fun c4 => ?_) (fun c4 => ?_)
        · have h := me_ip c4 h
          refine me_iload_n X (i := 2) 2 rfl dX12_wrongAt_57 ?_
          obtain rfl := me_so h
          have q := hr1 _ rfl
          subst q
          have h : some x2_1 = some r := hq1
          obtain rfl := me_so h
          exact me_iret X hr hlk dX12_wrongAt_58
        · have h := me_in c4 h
          refine me_iload_n X (i := 2) 2 rfl dX12_wrongAt_37 ?_
          refine me_iload_n X (i := 1) 1 rfl dX12_wrongAt_38 ?_
          refine me_iconst X dX12_wrongAt_39 ic_1 ?_
          refine me_isub X dX12_wrongAt_40 ?_
          refine me_icmp_eq X 57 (by decide) dX12_wrongAt_41 (fun c5 => ?_) (fun c5 => ?_)
          · have h := me_ip c5 h
            refine me_iload_n X (i := 2) 2 rfl dX12_wrongAt_57 ?_
            obtain rfl := me_so h
            have q := hr1 _ rfl
            subst q
            have h : some x2_1 = some r := hq1
            obtain rfl := me_so h
            exact me_iret X hr hlk dX12_wrongAt_58
          · have h := me_in c5 h
            refine me_aload_n X (i := 0) 0 rfl dX12_wrongAt_44 ?_
            refine me_getr X 65 kF_X12_17 (Nat.le_of_ble_eq_true rfl) me_k63 me_f63_4 dX12_wrongAt_45 ?_
            refine me_iload_n X (i := 2) 2 rfl dX12_wrongAt_48 ?_
            refine me_iconst X dX12_wrongAt_49 ic_1 ?_
            refine me_isub X dX12_wrongAt_50 ?_
            obtain ⟨v4, e4, h⟩ := me_bd h
            refine me_iald X (Nat.le_of_ble_eq_true rfl) me_k65 e4 dX12_wrongAt_51 ?_
            refine me_bipush X dX12_wrongAt_52 ib_124 ?_
            refine me_icmp_ne X 59 (by decide) dX12_wrongAt_54 (fun c6 => ?_) (fun c6 => ?_)
            · have h := me_in c6 h
              exact hj59_1  h
            · have h := me_ip c6 h
              refine me_iload_n X (i := 2) 2 rfl dX12_wrongAt_57 ?_
              obtain rfl := me_so h
              have q := hr1 _ rfl
              subst q
              have h : some x2_1 = some r := hq1
              obtain rfl := me_so h
              exact me_iret X hr hlk dX12_wrongAt_58
    · have h := me_in c2 h
      refine me_goto X 59 (by decide) dX12_wrongAt_19 ?_
      exact hj59_1  h
def mX12_text_63_J101 (x3_1 : Int32) (M3 : me_M) (s2 : Int32) : Option ((Int32 × me_M) ⊕ (me_M)) :=
  ((me_t M3 67 241 x3_1 s2).bind fun M4 => some (.inl ((x3_1 + 1), M4)))
def mX12_text_63_L60  : (Int32 × me_M) → Option ((Int32 × me_M) ⊕ (me_M))
  | (x3_1, M3) => (if (M3.1 63 5) ≤ x3_1 then some (.inr M3) else ((me_r M3 65 240 x3_1).bind fun v4 => (if v4 = 124 then (mX12_text_63_J101 x3_1 M3 1) else ((me_r M3 65 240 x3_1).bind fun v5 => (mX12_text_63_J101 x3_1 M3 ((v5 - 97) + 2))))))
def mX12_text_63_J23 (p0 : Int32) (s1 : Int32) (M1 : me_M) : Option (Int32 × me_M) :=
  ((mX12_bad_63 M1 s1 1 1).bind fun (v2, M2) => (if v2 = 0 then ((mX12_wrongAt_63 (me_s M2 63 2 0) p0).bind fun v3 => (if v3 = (-1) then ((me_l mX12_text_63_L60 me_fu (0, (me_s (me_s M2 63 2 0) 63 5 p0))).bind fun M5 => ((mX12_laysRows_63 M5).bind fun M6 => some (0, (me_s (me_s (me_s (me_s M6 63 10 42) 63 11 42) 63 17 0) 63 38 0)))) else some (((-1) - v3), (me_s M2 63 2 0)))) else some (0, M2)))
def mX12_text_63 (M : me_M) (p0 : Int32) : Option (Int32 × me_M) :=
  ((mX12_in p0 1 ((me_s M 63 0 0).1 63 2)).bind fun v1 => (if v1 = 0 then (mX12_text_63_J23 p0 1 (me_s M 63 0 0)) else (mX12_text_63_J23 p0 0 (me_s M 63 0 0))))
set_option maxRecDepth 100000 in
set_option maxHeartbeats 4000000 in
theorem ctX12_text_63 {l : Launch} {n nt : Nat} (hn : 424 ≤ n) (hnt : 4 ≤ nt) {M : me_M} {p0 : Int32} {r : Int32} {M' : me_M} (h : mX12_text_63 M p0 = some (r, M')) : me_Ct l yX12_text cX12_text 4 (some .int) 3 n nt (fun ad => [.ref (ad 63), .int p0]) M (fun _ => some (.int r)) M' := by
  unfold mX12_text_63 at h
  refine me_enter (N0 := 424) RX12 rfl (plainFor_of_name pl_RX12) hn (Nat.le_trans (by decide) hnt) (fun _ => Nat.le_of_ble_eq_true rfl) ?_
  intro p e R s m args below meth c D cA ad tys A X hr hlk
  refine me_sub (L' := [(0, .ref (ad 63)), (1, .int p0)]) [0, 1] rfl ?_
  refine me_aload_n X (i := 0) 0 rfl dX12_text_0 ?_
  refine me_iconst X dX12_text_1 ic_0 ?_
  refine me_puti X kG_X12_105 (Nat.le_of_ble_eq_true rfl) me_k63 me_f63_0 dX12_text_2 ?_
  refine me_aload_n X (i := 0) 0 rfl dX12_text_5 ?_
  refine me_iload_n X (i := 1) 1 rfl dX12_text_6 ?_
  refine me_iconst X dX12_text_7 ic_1 ?_
  refine me_aload_n X (i := 0) 0 rfl dX12_text_8 ?_
  refine me_geti X kF_X12_115 (Nat.le_of_ble_eq_true rfl) me_k63 me_f63_2 dX12_text_9 ?_
  obtain ⟨v1, e1, h⟩ := me_bd h
  refine me_callSi X [.int p0, .int 1, .int ((me_s M 63 0 0).1 63 2)] (ctX12_in hn (Nat.le_trans (by decide) hnt) e1) kS_X12_108 rfl rfl (Nat.le_of_ble_eq_true rfl) (Nat.le_refl _) (Nat.le_of_ble_eq_true rfl) dX12_text_12 ?_
  have hj23_1 : ∀ (s1 : Int32) (M1 : me_M), mX12_text_63_J23 p0 s1 M1 = some (r, M') → me_W p l e R s m args below meth c 0 0 (MQ below (me_Qc D cA ad n A (some (.int r)) M') args s 0 0 A) D cA ad n 4 A 23 [(0, .ref (ad 63)), (1, .int p0)] [.int s1, .ref (ad 63)] M1 := by
    intro s1 M1 h
    unfold mX12_text_63_J23 at h
    refine me_iconst X dX12_text_23 ic_1 ?_
    refine me_iconst X dX12_text_24 ic_1 ?_
    obtain ⟨⟨v2, M2⟩, e2, h⟩ := me_bd h
    refine me_callVi X [.int s1, .int 1, .int 1] (ctX12_bad_63 hn (Nat.le_trans (by decide) hnt) e2) kV_X12_122 rfl rfl (Nat.le_of_ble_eq_true rfl) me_k63 (Nat.le_of_ble_eq_true rfl) (Nat.le_refl _) (Nat.le_of_ble_eq_true rfl) dX12_text_25 ?_
    refine me_if_eq X 33 (by decide) dX12_text_28 (fun c2 => ?_) (fun c2 => ?_)
    · have h := me_ip c2 h
      refine me_aload_n X (i := 0) 0 rfl dX12_text_33 ?_
      refine me_iconst X dX12_text_34 ic_0 ?_
      refine me_puti X kG_X12_115 (Nat.le_of_ble_eq_true rfl) me_k63 me_f63_2 dX12_text_35 ?_
      refine me_aload_n X (i := 0) 0 rfl dX12_text_38 ?_
      refine me_iload_n X (i := 1) 1 rfl dX12_text_39 ?_
      obtain ⟨v3, e3, h⟩ := me_bd h
      refine me_callVi X [.int p0] (ctX12_wrongAt_63 hn (Nat.le_trans (by decide) hnt) e3) kV_X12_126 rfl rfl (Nat.le_of_ble_eq_true rfl) me_k63 (Nat.le_of_ble_eq_true rfl) (Nat.le_refl _) (Nat.le_of_ble_eq_true rfl) dX12_text_40 ?_
      refine me_istore_n X (i := 2) [(2, .int v3), (0, .ref (ad 63)), (1, .int p0)] (Nat.le_of_ble_eq_true rfl) rfl dX12_text_43 ?_
      refine me_iload_n X (i := 2) 0 rfl dX12_text_44 ?_
      refine me_iconst X dX12_text_45 ic_m1 ?_
      refine me_icmp_eq X 53 (by decide) dX12_text_46 (fun c3 => ?_) (fun c3 => ?_)
      · have h := me_ip c3 h
        refine me_aload_n X (i := 0) 1 rfl dX12_text_53 ?_
        refine me_iload_n X (i := 1) 2 rfl dX12_text_54 ?_
        refine me_puti X kG_X12_20 (Nat.le_of_ble_eq_true rfl) me_k63 me_f63_5 dX12_text_55 ?_
        refine me_iconst X dX12_text_58 ic_0 ?_
        refine me_istore_n X (i := 3) [(3, .int 0), (2, .int v3), (0, .ref (ad 63)), (1, .int p0)] (Nat.le_of_ble_eq_true rfl) rfl dX12_text_59 ?_
        obtain ⟨M5, hq1, h⟩ := me_bd h
        have hx1 : me_W p l e R s m args below meth c 0 0 (MQ below (me_Qc D cA ad n A (some (.int r)) M') args s 0 0 A) D cA ad n 4 A 108 [(0, .ref (ad 63))] [] M5 := by
          refine me_aload_n X (i := 0) 0 rfl dX12_text_108 ?_
          obtain ⟨M6, e7, h⟩ := me_bd h
          refine me_callVv X [] (ctX12_laysRows_63 hn (Nat.le_trans (by decide) hnt) e7) kV_X12_102 rfl rfl (Nat.le_of_ble_eq_true rfl) me_k63 (Nat.le_of_ble_eq_true rfl) (Nat.le_refl _) (Nat.le_of_ble_eq_true rfl) dX12_text_109 ?_
          refine me_aload_n X (i := 0) 0 rfl dX12_text_112 ?_
          refine me_bipush X dX12_text_113 ib_42 ?_
          refine me_puti X kG_X12_37 (Nat.le_of_ble_eq_true rfl) me_k63 me_f63_10 dX12_text_115 ?_
          refine me_aload_n X (i := 0) 0 rfl dX12_text_118 ?_
          refine me_bipush X dX12_text_119 ib_42 ?_
          refine me_puti X kG_X12_40 (Nat.le_of_ble_eq_true rfl) me_k63 me_f63_11 dX12_text_121 ?_
          refine me_aload_n X (i := 0) 0 rfl dX12_text_124 ?_
          refine me_iconst X dX12_text_125 ic_0 ?_
          refine me_putz X ⟨by decide, by decide⟩ kG_X12_130 (Nat.le_of_ble_eq_true rfl) me_k63 me_f63_17 dX12_text_126 ?_
          refine me_aload_n X (i := 0) 0 rfl dX12_text_129 ?_
          refine me_iconst X dX12_text_130 ic_0 ?_
          refine me_puti X kG_X12_134 (Nat.le_of_ble_eq_true rfl) me_k63 me_f63_38 dX12_text_131 ?_
          refine me_iconst X dX12_text_134 ic_0 ?_
          obtain ⟨rfl, rfl⟩ := me_sp h
          exact me_iret X hr hlk dX12_text_135
        refine me_sub (L' := [(0, .ref (ad 63)), (3, .int 0)]) [2, 0] rfl ?_
        refine me_l_W (b := mX12_text_63_L60) (P := fun w => me_W p l e R s m args below meth c 0 0 (MQ below (me_Qc D cA ad n A (some (.int r)) M') args s 0 0 A) D cA ad n 4 A 60 [(0, .ref (ad 63)), (3, .int w.1)] [] w.2) (r := M5) ?_ me_fu (0, (me_s (me_s M2 63 2 0) 63 5 p0)) hq1
        rintro ⟨x3_1, M3⟩ z1 h hb1 - hr1
        unfold mX12_text_63_L60 at h
        refine me_iload_n X (i := 3) 1 rfl dX12_text_60 ?_
        refine me_aload_n X (i := 0) 0 rfl dX12_text_61 ?_
        refine me_geti X kF_X12_20 (Nat.le_of_ble_eq_true rfl) me_k63 me_f63_5 dX12_text_62 ?_
        refine me_icmp_ge X 108 (by decide) dX12_text_65 (fun c4 => ?_) (fun c4 => ?_)
        · have h := me_ip c4 h
          obtain rfl := me_so h
          have q := hr1 _ rfl
          refine me_sub (L' := [(0, .ref (ad 63))]) [0] rfl ?_
          cases q
          exact hx1
        · have h := me_in c4 h
          refine me_aload_n X (i := 0) 0 rfl dX12_text_68 ?_
          refine me_getr X 66 kF_X12_28 (Nat.le_of_ble_eq_true rfl) me_k63 me_f63_7 dX12_text_69 ?_
          refine me_iconst X dX12_text_72 ic_0 ?_
          refine me_aald X (j := 67) (Nat.le_of_ble_eq_true rfl) ⟨by decide, by decide, Nat.lt_of_lt_of_le (by decide) hnt⟩ me_k66 (by decide) dX12_text_73 ?_
          refine me_iload_n X (i := 3) 1 rfl dX12_text_74 ?_
          refine me_aload_n X (i := 0) 0 rfl dX12_text_75 ?_
          refine me_getr X 65 kF_X12_17 (Nat.le_of_ble_eq_true rfl) me_k63 me_f63_4 dX12_text_76 ?_
          refine me_iload_n X (i := 3) 1 rfl dX12_text_79 ?_
          obtain ⟨v4, e4, h⟩ := me_bd h
          refine me_iald X (Nat.le_of_ble_eq_true rfl) me_k65 e4 dX12_text_80 ?_
          refine me_bipush X dX12_text_81 ib_124 ?_
          have hj101_2 : ∀ (s2 : Int32), mX12_text_63_J101 x3_1 M3 s2 = some z1 → me_W p l e R s m args below meth c 0 0 (MQ below (me_Qc D cA ad n A (some (.int r)) M') args s 0 0 A) D cA ad n 4 A 101 [(0, .ref (ad 63)), (3, .int x3_1)] [.int s2, .int x3_1, .ref (ad 67)] M3 := by
            intro s2 h
            unfold mX12_text_63_J101 at h
            obtain ⟨M4, e6, h⟩ := me_bd h
            refine me_iast X (Nat.le_of_ble_eq_true rfl) me_k67 e6 dX12_text_101 ?_
            refine me_iinc X (v := (x3_1 + 1)) 1 rfl (in_1 _) [(3, .int (x3_1 + 1)), (0, .ref (ad 63))] (Nat.le_of_ble_eq_true rfl) rfl dX12_text_102 ?_
            refine me_goto X 60 (by decide) dX12_text_105 ?_
            obtain rfl := me_so h
            refine me_sub (L' := [(0, .ref (ad 63)), (3, .int (x3_1 + 1))]) [1, 0] rfl ?_
            exact hb1 ((x3_1 + 1), M4) rfl
          refine me_icmp_ne X 90 (by decide) dX12_text_83 (fun c5 => ?_) (fun c5 => ?_)
          · have h := me_in c5 h
            refine me_aload_n X (i := 0) 0 rfl dX12_text_90 ?_
            refine me_getr X 65 kF_X12_17 (Nat.le_of_ble_eq_true rfl) me_k63 me_f63_4 dX12_text_91 ?_
            refine me_iload_n X (i := 3) 1 rfl dX12_text_94 ?_
            obtain ⟨v5, e5, h⟩ := me_bd h
            refine me_iald X (Nat.le_of_ble_eq_true rfl) me_k65 e5 dX12_text_95 ?_
            refine me_bipush X dX12_text_96 ib_97 ?_
            refine me_isub X dX12_text_98 ?_
            refine me_iconst X dX12_text_99 ic_2 ?_
            refine me_iadd X dX12_text_100 ?_
            exact hj101_2 ((v5 - 97) + 2) h
          · have h := me_ip c5 h
            refine me_iconst X dX12_text_86 ic_1 ?_
            refine me_goto X 101 (by decide) dX12_text_87 ?_
            exact hj101_2 1 h
      · have h := me_in c3 h
        refine me_iconst X dX12_text_49 ic_m1 ?_
        refine me_iload_n X (i := 2) 0 rfl dX12_text_50 ?_
        refine me_isub X dX12_text_51 ?_
        obtain ⟨rfl, rfl⟩ := me_sp h
        exact me_iret X hr hlk dX12_text_52
    · have h := me_in c2 h
      refine me_iconst X dX12_text_31 ic_0 ?_
      obtain ⟨rfl, rfl⟩ := me_sp h
      exact me_iret X hr hlk dX12_text_32
  refine me_if_ne X 22 (by decide) dX12_text_15 (fun c1 => ?_) (fun c1 => ?_)
  · have h := me_in c1 h
    refine me_iconst X dX12_text_22 ic_0 ?_
    exact hj23_1 0 (me_s M 63 0 0) h
  · have h := me_ip c1 h
    refine me_iconst X dX12_text_18 ic_1 ?_
    refine me_goto X 23 (by decide) dX12_text_19 ?_
    exact hj23_1 1 (me_s M 63 0 0) h
def mX12_here_63 (M : me_M)  : Option Int32 :=
  (if (M.1 63 25) < (M.1 63 24) then ((me_r M 65 240 (M.1 63 25)).bind fun v1 => some v1) else some (-1))
set_option maxRecDepth 100000 in
set_option maxHeartbeats 4000000 in
theorem ctX12_here_63 {l : Launch} {n nt : Nat} (hn : 424 ≤ n) (hnt : 4 ≤ nt) {M : me_M} {r : Int32} (h : mX12_here_63 M = some r) : me_Ct l yX12_here cX12_here 1 (some .int) 0 n nt (fun ad => [.ref (ad 63)]) M (fun _ => some (.int r)) M := by
  unfold mX12_here_63 at h
  refine me_enter (N0 := 424) RX12 rfl (plainFor_of_name pl_RX12) hn (Nat.le_trans (by decide) hnt) (fun _ => Nat.le_of_ble_eq_true rfl) ?_
  intro p e R s m args below meth c D cA ad tys A X hr hlk
  refine me_sub (L' := [(0, .ref (ad 63))]) [0] rfl ?_
  refine me_aload_n X (i := 0) 0 rfl dX12_here_0 ?_
  refine me_geti X kF_X12_137 (Nat.le_of_ble_eq_true rfl) me_k63 me_f63_25 dX12_here_1 ?_
  refine me_aload_n X (i := 0) 0 rfl dX12_here_4 ?_
  refine me_geti X kF_X12_140 (Nat.le_of_ble_eq_true rfl) me_k63 me_f63_24 dX12_here_5 ?_
  refine me_icmp_lt X 15 (by decide) dX12_here_8 (fun c1 => ?_) (fun c1 => ?_)
  · have h := me_ip c1 h
    refine me_aload_n X (i := 0) 0 rfl dX12_here_15 ?_
    refine me_getr X 65 kF_X12_17 (Nat.le_of_ble_eq_true rfl) me_k63 me_f63_4 dX12_here_16 ?_
    refine me_aload_n X (i := 0) 0 rfl dX12_here_19 ?_
    refine me_geti X kF_X12_137 (Nat.le_of_ble_eq_true rfl) me_k63 me_f63_25 dX12_here_20 ?_
    obtain ⟨v1, e1, h⟩ := me_bd h
    refine me_iald X (Nat.le_of_ble_eq_true rfl) me_k65 e1 dX12_here_23 ?_
    obtain rfl := me_so h
    exact me_iret X hr hlk dX12_here_24
  · have h := me_in c1 h
    refine me_iconst X dX12_here_11 ic_m1 ?_
    refine me_goto X 24 (by decide) dX12_here_12 ?_
    obtain rfl := me_so h
    exact me_iret X hr hlk dX12_here_24
def mX12_fine_63 (M : me_M)  : Option Int32 :=
  (if (M.1 63 26) = 0 then some 1 else some 0)
set_option maxRecDepth 100000 in
set_option maxHeartbeats 4000000 in
theorem ctX12_fine_63 {l : Launch} {n nt : Nat} (hn : 424 ≤ n) (hnt : 4 ≤ nt) {M : me_M} {r : Int32} (h : mX12_fine_63 M = some r) : me_Ct l yX12_fine cX12_fine 1 (some .boolean) 0 n nt (fun ad => [.ref (ad 63)]) M (fun _ => some (.int r)) M := by
  unfold mX12_fine_63 at h
  refine me_enter (N0 := 424) RX12 rfl (plainFor_of_name pl_RX12) hn (Nat.le_trans (by decide) hnt) (fun _ => Nat.le_of_ble_eq_true rfl) ?_
  intro p e R s m args below meth c D cA ad tys A X hr hlk
  refine me_sub (L' := [(0, .ref (ad 63))]) [0] rfl ?_
  refine me_aload_n X (i := 0) 0 rfl dX12_fine_0 ?_
  refine me_geti X kF_X12_143 (Nat.le_of_ble_eq_true rfl) me_k63 me_f63_26 dX12_fine_1 ?_
  refine me_if_ne X 11 (by decide) dX12_fine_4 (fun c1 => ?_) (fun c1 => ?_)
  · have h := me_in c1 h
    refine me_iconst X dX12_fine_11 ic_0 ?_
    obtain rfl := me_so h
    exact me_zret X (by decide) hr hlk dX12_fine_12
  · have h := me_ip c1 h
    refine me_iconst X dX12_fine_7 ic_1 ?_
    refine me_goto X 12 (by decide) dX12_fine_8 ?_
    obtain rfl := me_so h
    exact me_zret X (by decide) hr hlk dX12_fine_12
def mX12_wrong_63 (M : me_M) (p0 : Int32) (p1 : Int32) : Option me_M :=
  (if (M.1 63 26) = 0 then some (me_s (me_s M 63 26 p0) 63 27 p1) else some M)
set_option maxRecDepth 100000 in
set_option maxHeartbeats 4000000 in
theorem ctX12_wrong_63 {l : Launch} {n nt : Nat} (hn : 424 ≤ n) (hnt : 4 ≤ nt) {M : me_M} {p0 : Int32} {p1 : Int32} {M' : me_M} (h : mX12_wrong_63 M p0 p1 = some M') : me_Ct l yX12_wrong cX12_wrong 3 none 0 n nt (fun ad => [.ref (ad 63), .int p0, .int p1]) M (fun _ => none) M' := by
  unfold mX12_wrong_63 at h
  refine me_enter (N0 := 424) RX12 rfl (plainFor_of_name pl_RX12) hn (Nat.le_trans (by decide) hnt) (fun _ => Nat.le_of_ble_eq_true rfl) ?_
  intro p e R s m args below meth c D cA ad tys A X hr hlk
  refine me_sub (L' := [(0, .ref (ad 63)), (1, .int p0), (2, .int p1)]) [0, 1, 2] rfl ?_
  refine me_aload_n X (i := 0) 0 rfl dX12_wrong_0 ?_
  refine me_geti X kF_X12_143 (Nat.le_of_ble_eq_true rfl) me_k63 me_f63_26 dX12_wrong_1 ?_
  refine me_if_ne X 17 (by decide) dX12_wrong_4 (fun c1 => ?_) (fun c1 => ?_)
  · have h := me_in c1 h
    obtain rfl := me_so h
    exact me_vret X hr hlk dX12_wrong_17
  · have h := me_ip c1 h
    refine me_aload_n X (i := 0) 0 rfl dX12_wrong_7 ?_
    refine me_iload_n X (i := 1) 1 rfl dX12_wrong_8 ?_
    refine me_puti X kG_X12_143 (Nat.le_of_ble_eq_true rfl) me_k63 me_f63_26 dX12_wrong_9 ?_
    refine me_aload_n X (i := 0) 0 rfl dX12_wrong_12 ?_
    refine me_iload_n X (i := 2) 2 rfl dX12_wrong_13 ?_
    refine me_puti X kG_X12_146 (Nat.le_of_ble_eq_true rfl) me_k63 me_f63_27 dX12_wrong_14 ?_
    obtain rfl := me_so h
    exact me_vret X hr hlk dX12_wrong_17
def mX12_isDigit (p0 : Int32) : Option Int32 :=
  (if p0 < 48 then some 0 else (if 57 < p0 then some 0 else some 1))
set_option maxRecDepth 100000 in
set_option maxHeartbeats 4000000 in
theorem ctX12_isDigit {l : Launch} {n nt : Nat} (hn : 424 ≤ n) (hnt : 4 ≤ nt) {M : me_M} {p0 : Int32} {r : Int32} (h : mX12_isDigit p0 = some r) : me_Ct l yX12_isDigit cX12_isDigit 1 (some .boolean) 0 n nt (fun _ => [.int p0]) M (fun _ => some (.int r)) M := by
  unfold mX12_isDigit at h
  refine me_enter (N0 := 424) RX12 rfl (plainFor_of_name pl_RX12) hn (Nat.le_trans (by decide) hnt) (fun _ => Nat.le_of_ble_eq_true rfl) ?_
  intro p e R s m args below meth c D cA ad tys A X hr hlk
  refine me_sub (L' := [(0, .int p0)]) [0] rfl ?_
  refine me_iload_n X (i := 0) 0 rfl dX12_isDigit_0 ?_
  refine me_bipush X dX12_isDigit_1 ib_48 ?_
  refine me_icmp_lt X 16 (by decide) dX12_isDigit_3 (fun c1 => ?_) (fun c1 => ?_)
  · have h := me_ip c1 h
    refine me_iconst X dX12_isDigit_16 ic_0 ?_
    obtain rfl := me_so h
    exact me_zret X (by decide) hr hlk dX12_isDigit_17
  · have h := me_in c1 h
    refine me_iload_n X (i := 0) 0 rfl dX12_isDigit_6 ?_
    refine me_bipush X dX12_isDigit_7 ib_57 ?_
    refine me_icmp_gt X 16 (by decide) dX12_isDigit_9 (fun c2 => ?_) (fun c2 => ?_)
    · have h := me_ip c2 h
      refine me_iconst X dX12_isDigit_16 ic_0 ?_
      obtain rfl := me_so h
      exact me_zret X (by decide) hr hlk dX12_isDigit_17
    · have h := me_in c2 h
      refine me_iconst X dX12_isDigit_12 ic_1 ?_
      refine me_goto X 17 (by decide) dX12_isDigit_13 ?_
      obtain rfl := me_so h
      exact me_zret X (by decide) hr hlk dX12_isDigit_17
def mX12_blanks_63_L0  : (me_M) → Option ((me_M) ⊕ (me_M))
  | M1 => ((mX12_here_63 M1).bind fun v1 => (if v1 = 32 then some (.inl (me_s M1 63 25 ((M1.1 63 25) + 1))) else some (.inr M1)))
def mX12_blanks_63 (M : me_M)  : Option me_M :=
  ((me_l mX12_blanks_63_L0 me_fu M).bind fun M2 => some M2)
set_option maxRecDepth 100000 in
set_option maxHeartbeats 4000000 in
theorem ctX12_blanks_63 {l : Launch} {n nt : Nat} (hn : 424 ≤ n) (hnt : 4 ≤ nt) {M : me_M} {M' : me_M} (h : mX12_blanks_63 M = some M') : me_Ct l yX12_blanks cX12_blanks 1 none 1 n nt (fun ad => [.ref (ad 63)]) M (fun _ => none) M' := by
  unfold mX12_blanks_63 at h
  refine me_enter (N0 := 424) RX12 rfl (plainFor_of_name pl_RX12) hn (Nat.le_trans (by decide) hnt) (fun _ => Nat.le_of_ble_eq_true rfl) ?_
  intro p e R s m args below meth c D cA ad tys A X hr hlk
  refine me_sub (L' := [(0, .ref (ad 63))]) [0] rfl ?_
  obtain ⟨M2, hq1, h⟩ := me_bd h
  have hx1 : me_W p l e R s m args below meth c 0 0 (MQ below (me_Qc D cA ad n A none M') args s 0 0 A) D cA ad n 1 A 22 [] [] M2 := by
    obtain rfl := me_so h
    exact me_vret X hr hlk dX12_blanks_22
  refine me_l_W (b := mX12_blanks_63_L0) (P := fun w => me_W p l e R s m args below meth c 0 0 (MQ below (me_Qc D cA ad n A none M') args s 0 0 A) D cA ad n 1 A 0 [(0, .ref (ad 63))] [] w) (r := M2) ?_ me_fu M hq1
  rintro M1 z1 h hb1 - hr1
  unfold mX12_blanks_63_L0 at h
  refine me_aload_n X (i := 0) 0 rfl dX12_blanks_0 ?_
  obtain ⟨v1, e1, h⟩ := me_bd h
  refine me_callVi X [] (ctX12_here_63 hn (Nat.le_trans (by decide) hnt) e1) kV_X12_149 rfl rfl (Nat.le_of_ble_eq_true rfl) me_k63 (Nat.le_of_ble_eq_true rfl) (Nat.le_refl _) (Nat.le_of_ble_eq_true rfl) dX12_blanks_1 ?_
  refine me_bipush X dX12_blanks_4 ib_32 ?_
  refine me_icmp_ne X 22 (by decide) dX12_blanks_6 (fun c1 => ?_) (fun c1 => ?_)
  · have h := me_in c1 h
    obtain rfl := me_so h
    have q := hr1 _ rfl
    refine me_sub (L' := []) [] rfl ?_
    cases q
    exact hx1
  · have h := me_ip c1 h
    refine me_aload_n X (i := 0) 0 rfl dX12_blanks_9 ?_
    refine me_dup X rfl dX12_blanks_10 ?_
    refine me_geti X kF_X12_137 (Nat.le_of_ble_eq_true rfl) me_k63 me_f63_25 dX12_blanks_11 ?_
    refine me_iconst X dX12_blanks_14 ic_1 ?_
    refine me_iadd X dX12_blanks_15 ?_
    refine me_puti X kG_X12_137 (Nat.le_of_ble_eq_true rfl) me_k63 me_f63_25 dX12_blanks_16 ?_
    refine me_goto X 0 (by decide) dX12_blanks_19 ?_
    obtain rfl := me_so h
    exact hb1 (me_s M1 63 25 ((M1.1 63 25) + 1)) rfl
def mX12_isNext_dig_J68 (j0 : Nat) (p0 : Int32) (v1 : Int32) (x5_1 : Int32) (x4_1 : Int32) (M : me_M) (s2 : Int32) : Option ((Int32 × Int32) ⊕ ((Int32) ⊕ Int32)) :=
  some (.inl ((x4_1 ||| s2), (x5_1 + 1)))
def mX12_isNext_dig_J63 (j0 : Nat) (p0 : Int32) (v1 : Int32) (x5_1 : Int32) (x4_1 : Int32) (M : me_M)  : Option ((Int32 × Int32) ⊕ ((Int32) ⊕ Int32)) :=
  (mX12_isNext_dig_J68 j0 p0 v1 x5_1 x4_1 M 1)
def mX12_isNext_dig_L25 (M : me_M) (j0 : Nat) (p0 : Int32) (v1 : Int32) : (Int32 × Int32) → Option ((Int32 × Int32) ⊕ ((Int32) ⊕ Int32))
  | (x4_1, x5_1) => (if p0 ≤ x5_1 then some (.inr (.inl x4_1)) else ((me_r M j0 5 x5_1).bind fun v2 => (if v2 = v1 then some (.inr (.inr 0)) else ((me_r M j0 5 x5_1).bind fun v3 => (if v3 = (v1 - 1) then (mX12_isNext_dig_J63 j0 p0 v1 x5_1 x4_1 M ) else ((me_r M j0 5 x5_1).bind fun v4 => (if v4 = (v1 + 1) then (mX12_isNext_dig_J63 j0 p0 v1 x5_1 x4_1 M ) else (mX12_isNext_dig_J68 j0 p0 v1 x5_1 x4_1 M 0))))))))
def mX12_isNext_dig_J20 (j0 : Nat) (p0 : Int32) (v1 : Int32) (M : me_M) (s1 : Int32) : Option Int32 :=
  ((me_l (mX12_isNext_dig_L25 M j0 p0 v1) me_fu (s1, 0)).bind fun o => Sum.elim (fun y4_1 => (if y4_1 = 0 ∨ y4_1 = 1 then some y4_1 else none)) (fun res => some res) o)
def mX12_isNext_dig (M : me_M) (j0 : Nat) (p0 : Int32) (p1 : Int32) : Option Int32 :=
  ((me_r M j0 5 p0).bind fun v1 => (if v1 < p1 then (if p0 = 0 then (mX12_isNext_dig_J20 j0 p0 v1 M 1) else (mX12_isNext_dig_J20 j0 p0 v1 M 0)) else some 0))
set_option maxRecDepth 100000 in
set_option maxHeartbeats 4000000 in
theorem ctX12_isNext_dig {l : Launch} {n nt : Nat} (hn : 424 ≤ n) (hnt : 4 ≤ nt) {M : me_M} {j0 : Nat} {p0 : Int32} {p1 : Int32} {r : Int32} (f_j0 : me_fI 5 j0) (h : mX12_isNext_dig M j0 p0 p1 = some r) : me_Ct l yX12_isNext cX12_isNext 6 (some .boolean) 0 n nt (fun ad => [.ref (ad j0), .int p0, .int p1]) M (fun _ => some (.int r)) M := by
  unfold mX12_isNext_dig at h
  refine me_enter (N0 := 424) RX12 rfl (plainFor_of_name pl_RX12) hn (Nat.le_trans (by decide) hnt) (fun _ => Nat.le_of_ble_eq_true rfl) ?_
  intro p e R s m args below meth c D cA ad tys A X hr hlk
  refine me_sub (L' := [(0, .ref (ad j0)), (1, .int p0), (2, .int p1)]) [0, 1, 2] rfl ?_
  refine me_aload_n X (i := 0) 0 rfl dX12_isNext_0 ?_
  refine me_iload_n X (i := 1) 1 rfl dX12_isNext_1 ?_
  obtain ⟨v1, e1, h⟩ := me_bd h
  refine me_iald X f_j0.2 f_j0.1 e1 dX12_isNext_2 ?_
  refine me_istore_n X (i := 3) [(3, .int v1), (0, .ref (ad j0)), (1, .int p0), (2, .int p1)] (Nat.le_of_ble_eq_true rfl) rfl dX12_isNext_3 ?_
  refine me_iload_n X (i := 3) 0 rfl dX12_isNext_4 ?_
  refine me_iload_n X (i := 2) 3 rfl dX12_isNext_5 ?_
  refine me_icmp_lt X 11 (by decide) dX12_isNext_6 (fun c1 => ?_) (fun c1 => ?_)
  · have h := me_ip c1 h
    refine me_iload_n X (i := 1) 2 rfl dX12_isNext_11 ?_
    have hj20_1 : ∀ (s1 : Int32), mX12_isNext_dig_J20 j0 p0 v1 M s1 = some r → me_W p l e R s m args below meth c 0 0 (MQ below (me_Qc D cA ad n A (some (.int r)) M) args s 0 0 A) D cA ad n 6 A 20 [(0, .ref (ad j0)), (1, .int p0), (3, .int v1)] [.int s1] M := by
      intro s1 h
      unfold mX12_isNext_dig_J20 at h
      refine me_istore X (i := 4) [(4, .int s1), (0, .ref (ad j0)), (1, .int p0), (3, .int v1)] (Nat.le_of_ble_eq_true rfl) rfl dX12_isNext_20 ?_
      refine me_iconst X dX12_isNext_22 ic_0 ?_
      refine me_istore X (i := 5) [(5, .int 0), (4, .int s1), (0, .ref (ad j0)), (1, .int p0), (3, .int v1)] (Nat.le_of_ble_eq_true rfl) rfl dX12_isNext_23 ?_
      obtain ⟨o0, hq1l, hq1⟩ := me_bd h
      have hx1 : ∀ (y4_1 : Int32), o0 = .inl y4_1 → me_W p l e R s m args below meth c 0 0 (MQ below (me_Qc D cA ad n A (some (.int r)) M) args s 0 0 A) D cA ad n 6 A 77 [(4, .int y4_1)] [] M := by
        intro y4_1 q
        subst q
        have h := me_el hq1
        refine me_iload X (i := 4) 0 rfl dX12_isNext_77 ?_
        by_cases c7 : y4_1 = 0 ∨ y4_1 = 1
        · have h := me_ip c7 h
          obtain rfl := me_so h
          exact me_zret X (me_z c7) hr hlk dX12_isNext_79
        · have h := me_in c7 h
          cases h
      refine me_sub (L' := [(0, .ref (ad j0)), (1, .int p0), (3, .int v1), (4, .int s1), (5, .int 0)]) [2, 3, 4, 1, 0] rfl ?_
      refine me_l_W (b := (mX12_isNext_dig_L25 M j0 p0 v1)) (P := fun w => me_W p l e R s m args below meth c 0 0 (MQ below (me_Qc D cA ad n A (some (.int r)) M) args s 0 0 A) D cA ad n 6 A 25 [(0, .ref (ad j0)), (1, .int p0), (3, .int v1), (4, .int w.1), (5, .int w.2)] [] M) (r := o0) ?_ me_fu (s1, 0) hq1l
      rintro ⟨x4_1, x5_1⟩ z1 h hb1 - hr1
      unfold mX12_isNext_dig_L25 at h
      refine me_iload X (i := 5) 4 rfl dX12_isNext_25 ?_
      refine me_iload_n X (i := 1) 1 rfl dX12_isNext_27 ?_
      refine me_icmp_ge X 77 (by decide) dX12_isNext_28 (fun c3 => ?_) (fun c3 => ?_)
      · have h := me_ip c3 h
        obtain rfl := me_so h
        have q := hr1 _ rfl
        refine me_sub (L' := [(4, .int x4_1)]) [3] rfl ?_
        subst q
        exact hx1 _ rfl
      · have h := me_in c3 h
        refine me_aload_n X (i := 0) 0 rfl dX12_isNext_31 ?_
        refine me_iload X (i := 5) 4 rfl dX12_isNext_32 ?_
        obtain ⟨v2, e2, h⟩ := me_bd h
        refine me_iald X f_j0.2 f_j0.1 e2 dX12_isNext_34 ?_
        refine me_iload_n X (i := 3) 2 rfl dX12_isNext_35 ?_
        refine me_icmp_ne X 41 (by decide) dX12_isNext_36 (fun c4 => ?_) (fun c4 => ?_)
        · have h := me_in c4 h
          refine me_iload X (i := 4) 3 rfl dX12_isNext_41 ?_
          refine me_aload_n X (i := 0) 0 rfl dX12_isNext_43 ?_
          refine me_iload X (i := 5) 4 rfl dX12_isNext_44 ?_
          obtain ⟨v3, e3, h⟩ := me_bd h
          refine me_iald X f_j0.2 f_j0.1 e3 dX12_isNext_46 ?_
          refine me_iload_n X (i := 3) 2 rfl dX12_isNext_47 ?_
          refine me_iconst X dX12_isNext_48 ic_1 ?_
          refine me_isub X dX12_isNext_49 ?_
          have hj68_3 : ∀ (s2 : Int32), mX12_isNext_dig_J68 j0 p0 v1 x5_1 x4_1 M s2 = some z1 → me_W p l e R s m args below meth c 0 0 (MQ below (me_Qc D cA ad n A (some (.int r)) M) args s 0 0 A) D cA ad n 6 A 68 [(0, .ref (ad j0)), (1, .int p0), (3, .int v1), (5, .int x5_1)] [.int s2, .int x4_1] M := by
            intro s2 h
            unfold mX12_isNext_dig_J68 at h
            refine me_ior X dX12_isNext_68 ?_
            refine me_istore X (i := 4) [(4, .int (x4_1 ||| s2)), (0, .ref (ad j0)), (1, .int p0), (3, .int v1), (5, .int x5_1)] (Nat.le_of_ble_eq_true rfl) rfl dX12_isNext_69 ?_
            refine me_iinc X (v := (x5_1 + 1)) 4 rfl (in_1 _) [(5, .int (x5_1 + 1)), (4, .int (x4_1 ||| s2)), (0, .ref (ad j0)), (1, .int p0), (3, .int v1)] (Nat.le_of_ble_eq_true rfl) rfl dX12_isNext_71 ?_
            refine me_goto X 25 (by decide) dX12_isNext_74 ?_
            obtain rfl := me_so h
            refine me_sub (L' := [(0, .ref (ad j0)), (1, .int p0), (3, .int v1), (4, .int (x4_1 ||| s2)), (5, .int (x5_1 + 1))]) [2, 3, 4, 1, 0] rfl ?_
            exact hb1 ((x4_1 ||| s2), (x5_1 + 1)) rfl
          have hj63_2 : mX12_isNext_dig_J63 j0 p0 v1 x5_1 x4_1 M  = some z1 → me_W p l e R s m args below meth c 0 0 (MQ below (me_Qc D cA ad n A (some (.int r)) M) args s 0 0 A) D cA ad n 6 A 63 [(0, .ref (ad j0)), (1, .int p0), (3, .int v1), (5, .int x5_1)] [.int x4_1] M := by
            intro h
            unfold mX12_isNext_dig_J63 at h
            refine me_iconst X dX12_isNext_63 ic_1 ?_
            refine me_goto X 68 (by decide) dX12_isNext_64 ?_
            exact hj68_3 1 h
          refine me_icmp_eq X 63 (by decide) dX12_isNext_50 (fun c5 => ?_) (fun c5 => ?_)
          · have h := me_ip c5 h
            refine me_sub (L' := [(0, .ref (ad j0)), (1, .int p0), (3, .int v1), (5, .int x5_1)]) [0, 1, 2, 4] rfl ?_
            exact hj63_2  h
          · have h := me_in c5 h
            refine me_aload_n X (i := 0) 0 rfl dX12_isNext_53 ?_
            refine me_iload X (i := 5) 4 rfl dX12_isNext_54 ?_
            obtain ⟨v4, e4, h⟩ := me_bd h
            refine me_iald X f_j0.2 f_j0.1 e4 dX12_isNext_56 ?_
            refine me_iload_n X (i := 3) 2 rfl dX12_isNext_57 ?_
            refine me_iconst X dX12_isNext_58 ic_1 ?_
            refine me_iadd X dX12_isNext_59 ?_
            refine me_icmp_ne X 67 (by decide) dX12_isNext_60 (fun c6 => ?_) (fun c6 => ?_)
            · have h := me_in c6 h
              refine me_iconst X dX12_isNext_67 ic_0 ?_
              refine me_sub (L' := [(0, .ref (ad j0)), (1, .int p0), (3, .int v1), (5, .int x5_1)]) [0, 1, 2, 4] rfl ?_
              exact hj68_3 0 h
            · have h := me_ip c6 h
              refine me_sub (L' := [(0, .ref (ad j0)), (1, .int p0), (3, .int v1), (5, .int x5_1)]) [0, 1, 2, 4] rfl ?_
              exact hj63_2  h
        · have h := me_ip c4 h
          refine me_iconst X dX12_isNext_39 ic_0 ?_
          obtain rfl := me_so h
          have q := hr1 _ rfl
          subst q
          have h : some 0 = some r := hq1
          obtain rfl := me_so h
          exact me_zret X (by decide) hr hlk dX12_isNext_40
    refine me_if_ne X 19 (by decide) dX12_isNext_12 (fun c2 => ?_) (fun c2 => ?_)
    · have h := me_in c2 h
      refine me_iconst X dX12_isNext_19 ic_0 ?_
      refine me_sub (L' := [(0, .ref (ad j0)), (1, .int p0), (3, .int v1)]) [1, 2, 0] rfl ?_
      exact hj20_1 0 h
    · have h := me_ip c2 h
      refine me_iconst X dX12_isNext_15 ic_1 ?_
      refine me_goto X 20 (by decide) dX12_isNext_16 ?_
      refine me_sub (L' := [(0, .ref (ad j0)), (1, .int p0), (3, .int v1)]) [1, 2, 0] rfl ?_
      exact hj20_1 1 h
  · have h := me_in c1 h
    refine me_iconst X dX12_isNext_9 ic_0 ?_
    obtain rfl := me_so h
    exact me_zret X (by decide) hr hlk dX12_isNext_10
def mX12_readsRow_63_101_J140 (j0 : Nat) (p0 : Int32) (x3_1 : Int32) (M6 : me_M) : Option ((Int32 × me_M) ⊕ ((me_M) ⊕ me_M)) :=
  some (.inl ((x3_1 + 1), (me_s M6 63 25 ((M6.1 63 25) + 1))))
def mX12_readsRow_63_101_J124 (j0 : Nat) (p0 : Int32) (x3_1 : Int32) (M4 : me_M) (s1 : Int32) : Option ((Int32 × me_M) ⊕ ((me_M) ⊕ me_M)) :=
  (if s1 = 0 then ((mX12_wrong_63 M4 2 (M4.1 63 25)).bind fun M5 => (mX12_readsRow_63_101_J140 j0 p0 x3_1 M5)) else (mX12_readsRow_63_101_J140 j0 p0 x3_1 M4))
def mX12_readsRow_63_101_J123 (j0 : Nat) (p0 : Int32) (x3_1 : Int32) (M4 : me_M)  : Option ((Int32 × me_M) ⊕ ((me_M) ⊕ me_M)) :=
  (mX12_readsRow_63_101_J124 j0 p0 x3_1 M4 0)
def mX12_readsRow_63_101_J119 (j0 : Nat) (p0 : Int32) (x3_1 : Int32) (M4 : me_M)  : Option ((Int32 × me_M) ⊕ ((me_M) ⊕ me_M)) :=
  (mX12_readsRow_63_101_J124 j0 p0 x3_1 M4 1)
def mX12_readsRow_63_101_J104 (j0 : Nat) (p0 : Int32) (x3_1 : Int32) (M4 : me_M) (x4_1 : Int32) : Option ((Int32 × me_M) ⊕ ((me_M) ⊕ me_M)) :=
  (if p0 = 1 then (mX12_readsRow_63_101_J119 j0 p0 x3_1 M4 ) else ((me_a 3 (109 + 3 * (j0 - 93)) 1).bind fun a3 => ((me_r M4 a3 5 x3_1).bind fun v9 => (if x4_1 < v9 then (mX12_readsRow_63_101_J123 j0 p0 x3_1 M4 ) else (mX12_readsRow_63_101_J119 j0 p0 x3_1 M4 )))))
def mX12_readsRow_63_101_J38 (j0 : Nat) (p0 : Int32) (x3_1 : Int32) (M3 : me_M) : Option ((Int32 × me_M) ⊕ ((me_M) ⊕ me_M)) :=
  ((mX12_fine_63 M3).bind fun v6 => (if v6 = 0 then some (.inr (.inr M3)) else ((mX12_here_63 M3).bind fun v7 => ((me_a 3 (109 + 3 * (j0 - 93)) p0).bind fun a1 => ((me_t M3 a1 5 x3_1 (v7 - 48)).bind fun M4 => (if p0 = 0 then ((me_a 3 (109 + 3 * (j0 - 93)) 0).bind fun a4 => ((me_r M4 78 2 1).bind fun v10 => ((mX12_isNext_dig M4 a4 x3_1 v10).bind fun v11 => (mX12_readsRow_63_101_J124 j0 p0 x3_1 M4 v11)))) else (if 4 < (v7 - 48) then (mX12_readsRow_63_101_J123 j0 p0 x3_1 M4 ) else (if x3_1 = 0 then (mX12_readsRow_63_101_J104 j0 p0 x3_1 M4 (v7 - 48)) else ((me_a 3 (109 + 3 * (j0 - 93)) p0).bind fun a2 => ((me_r M4 a2 5 (x3_1 - 1)).bind fun v8 => (if (v7 - 48) < v8 then (mX12_readsRow_63_101_J123 j0 p0 x3_1 M4 ) else (mX12_readsRow_63_101_J104 j0 p0 x3_1 M4 (v7 - 48)))))))))))))
def mX12_readsRow_63_101_L2 (j0 : Nat) (p0 : Int32) : (Int32 × me_M) → Option ((Int32 × me_M) ⊕ ((me_M) ⊕ me_M))
  | (x3_1, M1) => ((me_r M1 78 2 1).bind fun v1 => (if v1 ≤ x3_1 then some (.inr (.inl M1)) else ((mX12_fine_63 M1).bind fun v2 => (if v2 = 0 then some (.inr (.inl M1)) else ((mX12_here_63 M1).bind fun v3 => ((mX12_isDigit v3).bind fun v4 => (if v4 = 0 then ((mX12_wrong_63 M1 1 (M1.1 63 25)).bind fun M2 => (mX12_readsRow_63_101_J38 j0 p0 x3_1 M2)) else (mX12_readsRow_63_101_J38 j0 p0 x3_1 M1))))))))
def mX12_readsRow_63_101 (M : me_M) (j0 : Nat) (p0 : Int32) : Option me_M :=
  ((me_l (mX12_readsRow_63_101_L2 j0 p0) me_fu (0, M)).bind fun o => Sum.elim (fun M7 => ((mX12_here_63 M7).bind fun v13 => ((mX12_isDigit v13).bind fun v14 => (if v14 = 0 then some M7 else ((mX12_wrong_63 M7 1 (M7.1 63 25)).bind fun M8 => some M8))))) (fun res => some res) o)
set_option maxRecDepth 100000 in
set_option maxHeartbeats 4000000 in
theorem ctX12_readsRow_63_101 {l : Launch} {n nt : Nat} (hn : 424 ≤ n) (hnt : 4 ≤ nt) {M : me_M} {j0 : Nat} {p0 : Int32} {M' : me_M} (f_j0 : me_fR j0) (h : mX12_readsRow_63_101 M j0 p0 = some M') : me_Ct l yX12_readsRow cX12_readsRow 6 none 1 n nt (fun ad => [.ref (ad 63), .ref (ad j0), .int p0]) M (fun _ => none) M' := by
  unfold mX12_readsRow_63_101 at h
  refine me_enter (N0 := 424) RX12 rfl (plainFor_of_name pl_RX12) hn (Nat.le_trans (by decide) hnt) (fun _ => Nat.le_of_ble_eq_true rfl) ?_
  intro p e R s m args below meth c D cA ad tys A X hr hlk
  refine me_sub (L' := [(0, .ref (ad 63)), (1, .ref (ad j0)), (2, .int p0)]) [0, 1, 2] rfl ?_
  refine me_iconst X dX12_readsRow_0 ic_0 ?_
  refine me_istore_n X (i := 3) [(3, .int 0), (0, .ref (ad 63)), (1, .ref (ad j0)), (2, .int p0)] (Nat.le_of_ble_eq_true rfl) rfl dX12_readsRow_1 ?_
  obtain ⟨o0, hq1l, hq1⟩ := me_bd h
  have hx1 : ∀ (M7 : me_M), o0 = .inl M7 → me_W p l e R s m args below meth c 0 0 (MQ below (me_Qc D cA ad n A none M') args s 0 0 A) D cA ad n 6 A 156 [(0, .ref (ad 63))] [] M7 := by
    intro M7 q
    subst q
    have h := me_el hq1
    refine me_aload_n X (i := 0) 0 rfl dX12_readsRow_156 ?_
    obtain ⟨v13, e18, h⟩ := me_bd h
    refine me_callVi X [] (ctX12_here_63 hn (Nat.le_trans (by decide) hnt) e18) kV_X12_149 rfl rfl (Nat.le_of_ble_eq_true rfl) me_k63 (Nat.le_of_ble_eq_true rfl) (Nat.le_refl _) (Nat.le_of_ble_eq_true rfl) dX12_readsRow_157 ?_
    obtain ⟨v14, e19, h⟩ := me_bd h
    refine me_callSi X [.int v13] (ctX12_isDigit hn (Nat.le_trans (by decide) hnt) e19) kS_X12_153 rfl rfl (Nat.le_of_ble_eq_true rfl) (Nat.le_refl _) (Nat.le_of_ble_eq_true rfl) dX12_readsRow_160 ?_
    refine me_if_eq X 175 (by decide) dX12_readsRow_163 (fun c12 => ?_) (fun c12 => ?_)
    · have h := me_ip c12 h
      obtain rfl := me_so h
      exact me_vret X hr hlk dX12_readsRow_175
    · have h := me_in c12 h
      refine me_aload_n X (i := 0) 0 rfl dX12_readsRow_166 ?_
      refine me_iconst X dX12_readsRow_167 ic_1 ?_
      refine me_aload_n X (i := 0) 0 rfl dX12_readsRow_168 ?_
      refine me_geti X kF_X12_137 (Nat.le_of_ble_eq_true rfl) me_k63 me_f63_25 dX12_readsRow_169 ?_
      obtain ⟨M8, e20, h⟩ := me_bd h
      refine me_callVv X [.int 1, .int (M7.1 63 25)] (ctX12_wrong_63 hn (Nat.le_trans (by decide) hnt) e20) kV_X12_160 rfl rfl (Nat.le_of_ble_eq_true rfl) me_k63 (Nat.le_of_ble_eq_true rfl) (Nat.le_refl _) (Nat.le_of_ble_eq_true rfl) dX12_readsRow_172 ?_
      obtain rfl := me_so h
      exact me_vret X hr hlk dX12_readsRow_175
  refine me_sub (L' := [(0, .ref (ad 63)), (1, .ref (ad j0)), (2, .int p0), (3, .int 0)]) [1, 2, 3, 0] rfl ?_
  refine me_l_W (b := (mX12_readsRow_63_101_L2 j0 p0)) (P := fun w => me_W p l e R s m args below meth c 0 0 (MQ below (me_Qc D cA ad n A none M') args s 0 0 A) D cA ad n 6 A 2 [(0, .ref (ad 63)), (1, .ref (ad j0)), (2, .int p0), (3, .int w.1)] [] w.2) (r := o0) ?_ me_fu (0, M) hq1l
  rintro ⟨x3_1, M1⟩ z1 h hb1 - hr1
  unfold mX12_readsRow_63_101_L2 at h
  refine me_iload_n X (i := 3) 3 rfl dX12_readsRow_2 ?_
  refine me_aload_n X (i := 0) 0 rfl dX12_readsRow_3 ?_
  refine me_getr X 78 kF_X12_52 (Nat.le_of_ble_eq_true rfl) me_k63 me_f63_15 dX12_readsRow_4 ?_
  refine me_iconst X dX12_readsRow_7 ic_1 ?_
  obtain ⟨v1, e1, h⟩ := me_bd h
  refine me_iald X (Nat.le_of_ble_eq_true rfl) me_k78 e1 dX12_readsRow_8 ?_
  refine me_icmp_ge X 156 (by decide) dX12_readsRow_9 (fun c1 => ?_) (fun c1 => ?_)
  · have h := me_ip c1 h
    obtain rfl := me_so h
    have q := hr1 _ rfl
    refine me_sub (L' := [(0, .ref (ad 63))]) [0] rfl ?_
    subst q
    exact hx1 _ rfl
  · have h := me_in c1 h
    refine me_aload_n X (i := 0) 0 rfl dX12_readsRow_12 ?_
    obtain ⟨v2, e2, h⟩ := me_bd h
    refine me_callVi X [] (ctX12_fine_63 hn (Nat.le_trans (by decide) hnt) e2) kV_X12_164 rfl rfl (Nat.le_of_ble_eq_true rfl) me_k63 (Nat.le_of_ble_eq_true rfl) (Nat.le_refl _) (Nat.le_of_ble_eq_true rfl) dX12_readsRow_13 ?_
    refine me_if_eq X 156 (by decide) dX12_readsRow_16 (fun c2 => ?_) (fun c2 => ?_)
    · have h := me_ip c2 h
      obtain rfl := me_so h
      have q := hr1 _ rfl
      refine me_sub (L' := [(0, .ref (ad 63))]) [0] rfl ?_
      subst q
      exact hx1 _ rfl
    · have h := me_in c2 h
      refine me_aload_n X (i := 0) 0 rfl dX12_readsRow_19 ?_
      obtain ⟨v3, e3, h⟩ := me_bd h
      refine me_callVi X [] (ctX12_here_63 hn (Nat.le_trans (by decide) hnt) e3) kV_X12_149 rfl rfl (Nat.le_of_ble_eq_true rfl) me_k63 (Nat.le_of_ble_eq_true rfl) (Nat.le_refl _) (Nat.le_of_ble_eq_true rfl) dX12_readsRow_20 ?_
      obtain ⟨v4, e4, h⟩ := me_bd h
      refine me_callSi X [.int v3] (ctX12_isDigit hn (Nat.le_trans (by decide) hnt) e4) kS_X12_153 rfl rfl (Nat.le_of_ble_eq_true rfl) (Nat.le_refl _) (Nat.le_of_ble_eq_true rfl) dX12_readsRow_23 ?_
      have hj38_2 : ∀ (M3 : me_M), mX12_readsRow_63_101_J38 j0 p0 x3_1 M3 = some z1 → me_W p l e R s m args below meth c 0 0 (MQ below (me_Qc D cA ad n A none M') args s 0 0 A) D cA ad n 6 A 38 [(0, .ref (ad 63)), (1, .ref (ad j0)), (2, .int p0), (3, .int x3_1)] [] M3 := by
        intro M3 h
        unfold mX12_readsRow_63_101_J38 at h
        refine me_aload_n X (i := 0) 0 rfl dX12_readsRow_38 ?_
        obtain ⟨v6, e6, h⟩ := me_bd h
        refine me_callVi X [] (ctX12_fine_63 hn (Nat.le_trans (by decide) hnt) e6) kV_X12_164 rfl rfl (Nat.le_of_ble_eq_true rfl) me_k63 (Nat.le_of_ble_eq_true rfl) (Nat.le_refl _) (Nat.le_of_ble_eq_true rfl) dX12_readsRow_39 ?_
        refine me_if_ne X 46 (by decide) dX12_readsRow_42 (fun c4 => ?_) (fun c4 => ?_)
        · have h := me_in c4 h
          refine me_aload_n X (i := 0) 0 rfl dX12_readsRow_46 ?_
          obtain ⟨v7, e7, h⟩ := me_bd h
          refine me_callVi X [] (ctX12_here_63 hn (Nat.le_trans (by decide) hnt) e7) kV_X12_149 rfl rfl (Nat.le_of_ble_eq_true rfl) me_k63 (Nat.le_of_ble_eq_true rfl) (Nat.le_refl _) (Nat.le_of_ble_eq_true rfl) dX12_readsRow_47 ?_
          refine me_bipush X dX12_readsRow_50 ib_48 ?_
          refine me_isub X dX12_readsRow_52 ?_
          refine me_istore X (i := 4) [(4, .int (v7 - 48)), (0, .ref (ad 63)), (1, .ref (ad j0)), (2, .int p0), (3, .int x3_1)] (Nat.le_of_ble_eq_true rfl) rfl dX12_readsRow_53 ?_
          refine me_aload_n X (i := 1) 2 rfl dX12_readsRow_55 ?_
          refine me_iload_n X (i := 2) 3 rfl dX12_readsRow_56 ?_
          obtain ⟨a1, e8, h⟩ := me_bd h
          have f_a1 := me_fdig f_j0 e8
          refine me_aald X f_j0.2.1 ⟨by decide, by decide, Nat.lt_of_lt_of_le (by decide) hnt⟩ f_j0.1 e8 dX12_readsRow_57 ?_
          refine me_iload_n X (i := 3) 4 rfl dX12_readsRow_58 ?_
          refine me_iload X (i := 4) 0 rfl dX12_readsRow_59 ?_
          obtain ⟨M4, e9, h⟩ := me_bd h
          refine me_iast X f_a1.2 f_a1.1 e9 dX12_readsRow_61 ?_
          refine me_iload_n X (i := 2) 3 rfl dX12_readsRow_62 ?_
          have hj124_3 : ∀ (s1 : Int32), mX12_readsRow_63_101_J124 j0 p0 x3_1 M4 s1 = some z1 → me_W p l e R s m args below meth c 0 0 (MQ below (me_Qc D cA ad n A none M') args s 0 0 A) D cA ad n 6 A 124 [(0, .ref (ad 63)), (1, .ref (ad j0)), (2, .int p0), (3, .int x3_1)] [.int s1] M4 := by
            intro s1 h
            unfold mX12_readsRow_63_101_J124 at h
            refine me_istore X (i := 5) [(5, .int s1), (0, .ref (ad 63)), (1, .ref (ad j0)), (2, .int p0), (3, .int x3_1)] (Nat.le_of_ble_eq_true rfl) rfl dX12_readsRow_124 ?_
            refine me_iload X (i := 5) 0 rfl dX12_readsRow_126 ?_
            have hj140_7 : ∀ (M6 : me_M), mX12_readsRow_63_101_J140 j0 p0 x3_1 M6 = some z1 → me_W p l e R s m args below meth c 0 0 (MQ below (me_Qc D cA ad n A none M') args s 0 0 A) D cA ad n 6 A 140 [(0, .ref (ad 63)), (1, .ref (ad j0)), (2, .int p0), (3, .int x3_1)] [] M6 := by
              intro M6 h
              unfold mX12_readsRow_63_101_J140 at h
              refine me_aload_n X (i := 0) 0 rfl dX12_readsRow_140 ?_
              refine me_dup X rfl dX12_readsRow_141 ?_
              refine me_geti X kF_X12_137 (Nat.le_of_ble_eq_true rfl) me_k63 me_f63_25 dX12_readsRow_142 ?_
              refine me_iconst X dX12_readsRow_145 ic_1 ?_
              refine me_iadd X dX12_readsRow_146 ?_
              refine me_puti X kG_X12_137 (Nat.le_of_ble_eq_true rfl) me_k63 me_f63_25 dX12_readsRow_147 ?_
              refine me_iinc X (v := (x3_1 + 1)) 3 rfl (in_1 _) [(3, .int (x3_1 + 1)), (0, .ref (ad 63)), (1, .ref (ad j0)), (2, .int p0)] (Nat.le_of_ble_eq_true rfl) rfl dX12_readsRow_150 ?_
              refine me_goto X 2 (by decide) dX12_readsRow_153 ?_
              obtain rfl := me_so h
              refine me_sub (L' := [(0, .ref (ad 63)), (1, .ref (ad j0)), (2, .int p0), (3, .int (x3_1 + 1))]) [1, 2, 3, 0] rfl ?_
              exact hb1 ((x3_1 + 1), (me_s M6 63 25 ((M6.1 63 25) + 1))) rfl
            refine me_if_ne X 140 (by decide) dX12_readsRow_128 (fun c11 => ?_) (fun c11 => ?_)
            · have h := me_in c11 h
              refine me_sub (L' := [(0, .ref (ad 63)), (1, .ref (ad j0)), (2, .int p0), (3, .int x3_1)]) [1, 2, 3, 4] rfl ?_
              exact hj140_7 M4 h
            · have h := me_ip c11 h
              refine me_aload_n X (i := 0) 1 rfl dX12_readsRow_131 ?_
              refine me_iconst X dX12_readsRow_132 ic_2 ?_
              refine me_aload_n X (i := 0) 1 rfl dX12_readsRow_133 ?_
              refine me_geti X kF_X12_137 (Nat.le_of_ble_eq_true rfl) me_k63 me_f63_25 dX12_readsRow_134 ?_
              obtain ⟨M5, e17, h⟩ := me_bd h
              refine me_callVv X [.int 2, .int (M4.1 63 25)] (ctX12_wrong_63 hn (Nat.le_trans (by decide) hnt) e17) kV_X12_160 rfl rfl (Nat.le_of_ble_eq_true rfl) me_k63 (Nat.le_of_ble_eq_true rfl) (Nat.le_refl _) (Nat.le_of_ble_eq_true rfl) dX12_readsRow_137 ?_
              refine me_sub (L' := [(0, .ref (ad 63)), (1, .ref (ad j0)), (2, .int p0), (3, .int x3_1)]) [1, 2, 3, 4] rfl ?_
              exact hj140_7 M5 h
          refine me_if_ne X 82 (by decide) dX12_readsRow_63 (fun c5 => ?_) (fun c5 => ?_)
          · have h := me_in c5 h
            refine me_iload X (i := 4) 0 rfl dX12_readsRow_82 ?_
            refine me_iconst X dX12_readsRow_84 ic_4 ?_
            have hj123_4 : mX12_readsRow_63_101_J123 j0 p0 x3_1 M4  = some z1 → me_W p l e R s m args below meth c 0 0 (MQ below (me_Qc D cA ad n A none M') args s 0 0 A) D cA ad n 6 A 123 [(0, .ref (ad 63)), (1, .ref (ad j0)), (2, .int p0), (3, .int x3_1)] [] M4 := by
              intro h
              unfold mX12_readsRow_63_101_J123 at h
              refine me_iconst X dX12_readsRow_123 ic_0 ?_
              exact hj124_3 0 h
            refine me_icmp_gt X 123 (by decide) dX12_readsRow_85 (fun c6 => ?_) (fun c6 => ?_)
            · have h := me_ip c6 h
              refine me_sub (L' := [(0, .ref (ad 63)), (1, .ref (ad j0)), (2, .int p0), (3, .int x3_1)]) [1, 2, 3, 4] rfl ?_
              exact hj123_4  h
            · have h := me_in c6 h
              refine me_iload_n X (i := 3) 4 rfl dX12_readsRow_88 ?_
              have hj104_5 : ∀ (x4_1 : Int32), mX12_readsRow_63_101_J104 j0 p0 x3_1 M4 x4_1 = some z1 → me_W p l e R s m args below meth c 0 0 (MQ below (me_Qc D cA ad n A none M') args s 0 0 A) D cA ad n 6 A 104 [(0, .ref (ad 63)), (1, .ref (ad j0)), (2, .int p0), (3, .int x3_1), (4, .int x4_1)] [] M4 := by
                intro x4_1 h
                unfold mX12_readsRow_63_101_J104 at h
                refine me_iload_n X (i := 2) 2 rfl dX12_readsRow_104 ?_
                refine me_iconst X dX12_readsRow_105 ic_1 ?_
                have hj119_6 : mX12_readsRow_63_101_J119 j0 p0 x3_1 M4  = some z1 → me_W p l e R s m args below meth c 0 0 (MQ below (me_Qc D cA ad n A none M') args s 0 0 A) D cA ad n 6 A 119 [(0, .ref (ad 63)), (1, .ref (ad j0)), (2, .int p0), (3, .int x3_1)] [] M4 := by
                  intro h
                  unfold mX12_readsRow_63_101_J119 at h
                  refine me_iconst X dX12_readsRow_119 ic_1 ?_
                  refine me_goto X 124 (by decide) dX12_readsRow_120 ?_
                  exact hj124_3 1 h
                refine me_icmp_eq X 119 (by decide) dX12_readsRow_106 (fun c9 => ?_) (fun c9 => ?_)
                · have h := me_ip c9 h
                  refine me_sub (L' := [(0, .ref (ad 63)), (1, .ref (ad j0)), (2, .int p0), (3, .int x3_1)]) [0, 1, 2, 3] rfl ?_
                  exact hj119_6  h
                · have h := me_in c9 h
                  refine me_iload X (i := 4) 4 rfl dX12_readsRow_109 ?_
                  refine me_aload_n X (i := 1) 1 rfl dX12_readsRow_111 ?_
                  refine me_iconst X dX12_readsRow_112 ic_1 ?_
                  obtain ⟨a3, e12, h⟩ := me_bd h
                  have f_a3 := me_fdig f_j0 e12
                  refine me_aald X f_j0.2.1 ⟨by decide, by decide, Nat.lt_of_lt_of_le (by decide) hnt⟩ f_j0.1 e12 dX12_readsRow_113 ?_
                  refine me_iload_n X (i := 3) 3 rfl dX12_readsRow_114 ?_
                  obtain ⟨v9, e13, h⟩ := me_bd h
                  refine me_iald X f_a3.2 f_a3.1 e13 dX12_readsRow_115 ?_
                  refine me_icmp_lt X 123 (by decide) dX12_readsRow_116 (fun c10 => ?_) (fun c10 => ?_)
                  · have h := me_ip c10 h
                    refine me_sub (L' := [(0, .ref (ad 63)), (1, .ref (ad j0)), (2, .int p0), (3, .int x3_1)]) [0, 1, 2, 3] rfl ?_
                    exact hj123_4  h
                  · have h := me_in c10 h
                    refine me_sub (L' := [(0, .ref (ad 63)), (1, .ref (ad j0)), (2, .int p0), (3, .int x3_1)]) [0, 1, 2, 3] rfl ?_
                    exact hj119_6  h
              refine me_if_eq X 104 (by decide) dX12_readsRow_89 (fun c7 => ?_) (fun c7 => ?_)
              · have h := me_ip c7 h
                refine me_sub (L' := [(0, .ref (ad 63)), (1, .ref (ad j0)), (2, .int p0), (3, .int x3_1), (4, .int (v7 - 48))]) [1, 2, 3, 4, 0] rfl ?_
                exact hj104_5 (v7 - 48) h
              · have h := me_in c7 h
                refine me_iload X (i := 4) 0 rfl dX12_readsRow_92 ?_
                refine me_aload_n X (i := 1) 2 rfl dX12_readsRow_94 ?_
                refine me_iload_n X (i := 2) 3 rfl dX12_readsRow_95 ?_
                obtain ⟨a2, e10, h⟩ := me_bd h
                have f_a2 := me_fdig f_j0 e10
                refine me_aald X f_j0.2.1 ⟨by decide, by decide, Nat.lt_of_lt_of_le (by decide) hnt⟩ f_j0.1 e10 dX12_readsRow_96 ?_
                refine me_iload_n X (i := 3) 4 rfl dX12_readsRow_97 ?_
                refine me_iconst X dX12_readsRow_98 ic_1 ?_
                refine me_isub X dX12_readsRow_99 ?_
                obtain ⟨v8, e11, h⟩ := me_bd h
                refine me_iald X f_a2.2 f_a2.1 e11 dX12_readsRow_100 ?_
                refine me_icmp_lt X 123 (by decide) dX12_readsRow_101 (fun c8 => ?_) (fun c8 => ?_)
                · have h := me_ip c8 h
                  refine me_sub (L' := [(0, .ref (ad 63)), (1, .ref (ad j0)), (2, .int p0), (3, .int x3_1)]) [1, 2, 3, 4] rfl ?_
                  exact hj123_4  h
                · have h := me_in c8 h
                  refine me_sub (L' := [(0, .ref (ad 63)), (1, .ref (ad j0)), (2, .int p0), (3, .int x3_1), (4, .int (v7 - 48))]) [1, 2, 3, 4, 0] rfl ?_
                  exact hj104_5 (v7 - 48) h
          · have h := me_ip c5 h
            refine me_aload_n X (i := 1) 2 rfl dX12_readsRow_66 ?_
            refine me_iconst X dX12_readsRow_67 ic_0 ?_
            obtain ⟨a4, e14, h⟩ := me_bd h
            have f_a4 := me_fdig f_j0 e14
            refine me_aald X f_j0.2.1 ⟨by decide, by decide, Nat.lt_of_lt_of_le (by decide) hnt⟩ f_j0.1 e14 dX12_readsRow_68 ?_
            refine me_iload_n X (i := 3) 4 rfl dX12_readsRow_69 ?_
            refine me_aload_n X (i := 0) 1 rfl dX12_readsRow_70 ?_
            refine me_getr X 78 kF_X12_52 (Nat.le_of_ble_eq_true rfl) me_k63 me_f63_15 dX12_readsRow_71 ?_
            refine me_iconst X dX12_readsRow_74 ic_1 ?_
            obtain ⟨v10, e15, h⟩ := me_bd h
            refine me_iald X (Nat.le_of_ble_eq_true rfl) me_k78 e15 dX12_readsRow_75 ?_
            obtain ⟨v11, e16, h⟩ := me_bd h
            refine me_callSi X [.ref (ad a4), .int x3_1, .int v10] (ctX12_isNext_dig hn (Nat.le_trans (by decide) hnt) f_a4 e16) kS_X12_156 rfl rfl (Nat.le_of_ble_eq_true rfl) (Nat.le_refl _) (Nat.le_of_ble_eq_true rfl) dX12_readsRow_76 ?_
            refine me_goto X 124 (by decide) dX12_readsRow_79 ?_
            refine me_sub (L' := [(0, .ref (ad 63)), (1, .ref (ad j0)), (2, .int p0), (3, .int x3_1)]) [1, 2, 3, 4] rfl ?_
            exact hj124_3 v11 h
        · have h := me_ip c4 h
          obtain rfl := me_so h
          have q := hr1 _ rfl
          subst q
          have h : some M3 = some M' := hq1
          obtain rfl := me_so h
          exact me_vret X hr hlk dX12_readsRow_45
      refine me_if_ne X 38 (by decide) dX12_readsRow_26 (fun c3 => ?_) (fun c3 => ?_)
      · have h := me_in c3 h
        exact hj38_2 M1 h
      · have h := me_ip c3 h
        refine me_aload_n X (i := 0) 0 rfl dX12_readsRow_29 ?_
        refine me_iconst X dX12_readsRow_30 ic_1 ?_
        refine me_aload_n X (i := 0) 0 rfl dX12_readsRow_31 ?_
        refine me_geti X kF_X12_137 (Nat.le_of_ble_eq_true rfl) me_k63 me_f63_25 dX12_readsRow_32 ?_
        obtain ⟨M2, e5, h⟩ := me_bd h
        refine me_callVv X [.int 1, .int (M1.1 63 25)] (ctX12_wrong_63 hn (Nat.le_trans (by decide) hnt) e5) kV_X12_160 rfl rfl (Nat.le_of_ble_eq_true rfl) me_k63 (Nat.le_of_ble_eq_true rfl) (Nat.le_refl _) (Nat.le_of_ble_eq_true rfl) dX12_readsRow_35 ?_
        exact hj38_2 M2 h
def mX12_readsFirstOrder_63_dig_L7 (j0 : Nat) (x2_1 : Int32) : (Int32 × me_M) → Option ((Int32 × me_M) ⊕ (Int32 × me_M))
  | (x3_2, M1) => ((mX12_here_63 M1).bind fun v1 => ((mX12_isDigit v1).bind fun v2 => (if v2 = 0 then some (.inr (x3_2, M1)) else (if 5 ≤ x3_2 then some (.inr (x3_2, M1)) else ((mX12_here_63 M1).bind fun v3 => ((me_t M1 j0 5 x3_2 (v3 - 48)).bind fun M2 => some (.inl ((x3_2 + 1), (me_s M2 63 25 ((M2.1 63 25) + 1))))))))))
def mX12_readsFirstOrder_63_dig_J83 (j0 : Nat) (x2_1 : Int32) (y3_1 : Int32) (x4_1 : Int32) (M7 : me_M) : Option ((Int32 × me_M) ⊕ (me_M)) :=
  some (.inl ((x4_1 + 1), M7))
def mX12_readsFirstOrder_63_dig_L58 (j0 : Nat) (x2_1 : Int32) (y3_1 : Int32) : (Int32 × me_M) → Option ((Int32 × me_M) ⊕ (me_M))
  | (x4_1, M5) => (if y3_1 ≤ x4_1 then some (.inr M5) else ((mX12_isNext_dig M5 j0 x4_1 y3_1).bind fun v4 => (if v4 = 0 then ((mX12_wrong_63 M5 2 (x2_1 + x4_1)).bind fun M6 => (mX12_readsFirstOrder_63_dig_J83 j0 x2_1 y3_1 x4_1 M6)) else (mX12_readsFirstOrder_63_dig_J83 j0 x2_1 y3_1 x4_1 M5))))
def mX12_readsFirstOrder_63_dig_K7 (j0 : Nat) (M : me_M) (x2_1 : Int32) (x3_1 : Int32) : Option me_M :=
  ((me_l (mX12_readsFirstOrder_63_dig_L7 j0 x2_1) me_fu (x3_1, M)).bind fun (y3_1, M3) => ((me_t M3 78 2 1 y3_1).bind fun M4 => ((me_l (mX12_readsFirstOrder_63_dig_L58 j0 x2_1 y3_1) me_fu (0, M4)).bind fun M8 => ((mX12_here_63 M8).bind fun v6 => ((mX12_isDigit v6).bind fun v7 => (if v7 = 0 then some M8 else ((mX12_wrong_63 M8 3 (M8.1 63 25)).bind fun M9 => some M9)))))))
def mX12_readsFirstOrder_63_dig (M : me_M) (j0 : Nat) : Option me_M :=
  (mX12_readsFirstOrder_63_dig_K7 j0 M (M.1 63 25) 0)
set_option maxRecDepth 100000 in
set_option maxHeartbeats 4000000 in
theorem ctX12_readsFirstOrder_63_dig {l : Launch} {n nt : Nat} (hn : 424 ≤ n) (hnt : 4 ≤ nt) {M : me_M} {j0 : Nat} {M' : me_M} (f_j0 : me_fI 5 j0) (h : mX12_readsFirstOrder_63_dig M j0 = some M') : me_Ct l yX12_readsFirstOrder cX12_readsFirstOrder 5 none 1 n nt (fun ad => [.ref (ad 63), .ref (ad j0)]) M (fun _ => none) M' := by
  unfold mX12_readsFirstOrder_63_dig at h
  refine me_enter (N0 := 424) RX12 rfl (plainFor_of_name pl_RX12) hn (Nat.le_trans (by decide) hnt) (fun _ => Nat.le_of_ble_eq_true rfl) ?_
  intro p e R s m args below meth c D cA ad tys A X hr hlk
  refine me_sub (L' := [(0, .ref (ad 63)), (1, .ref (ad j0))]) [0, 1] rfl ?_
  refine me_aload_n X (i := 0) 0 rfl dX12_readsFirstOrder_0 ?_
  refine me_geti X kF_X12_137 (Nat.le_of_ble_eq_true rfl) me_k63 me_f63_25 dX12_readsFirstOrder_1 ?_
  refine me_istore_n X (i := 2) [(2, .int (M.1 63 25)), (0, .ref (ad 63)), (1, .ref (ad j0))] (Nat.le_of_ble_eq_true rfl) rfl dX12_readsFirstOrder_4 ?_
  refine me_iconst X dX12_readsFirstOrder_5 ic_0 ?_
  refine me_istore_n X (i := 3) [(3, .int 0), (2, .int (M.1 63 25)), (0, .ref (ad 63)), (1, .ref (ad j0))] (Nat.le_of_ble_eq_true rfl) rfl dX12_readsFirstOrder_6 ?_
  have hk7_0 : ∀ (x2_1 : Int32) (x3_1 : Int32), mX12_readsFirstOrder_63_dig_K7 j0 M x2_1 x3_1 = some M' → me_W p l e R s m args below meth c 0 0 (MQ below (me_Qc D cA ad n A none M') args s 0 0 A) D cA ad n 5 A 7 [(0, .ref (ad 63)), (1, .ref (ad j0)), (2, .int x2_1), (3, .int x3_1)] [] M := by
    intro x2_1 x3_1 h
    unfold mX12_readsFirstOrder_63_dig_K7 at h
    obtain ⟨⟨y3_1, M3⟩, hq1, h⟩ := me_bd h
    have hx1 : me_W p l e R s m args below meth c 0 0 (MQ below (me_Qc D cA ad n A none M') args s 0 0 A) D cA ad n 5 A 48 [(0, .ref (ad 63)), (1, .ref (ad j0)), (2, .int x2_1), (3, .int y3_1)] [] M3 := by
      refine me_aload_n X (i := 0) 0 rfl dX12_readsFirstOrder_48 ?_
      refine me_getr X 78 kF_X12_52 (Nat.le_of_ble_eq_true rfl) me_k63 me_f63_15 dX12_readsFirstOrder_49 ?_
      refine me_iconst X dX12_readsFirstOrder_52 ic_1 ?_
      refine me_iload_n X (i := 3) 3 rfl dX12_readsFirstOrder_53 ?_
      obtain ⟨M4, e5, h⟩ := me_bd h
      refine me_iast X (Nat.le_of_ble_eq_true rfl) me_k78 e5 dX12_readsFirstOrder_54 ?_
      refine me_iconst X dX12_readsFirstOrder_55 ic_0 ?_
      refine me_istore X (i := 4) [(4, .int 0), (0, .ref (ad 63)), (1, .ref (ad j0)), (2, .int x2_1), (3, .int y3_1)] (Nat.le_of_ble_eq_true rfl) rfl dX12_readsFirstOrder_56 ?_
      obtain ⟨M8, hq2, h⟩ := me_bd h
      have hx2 : me_W p l e R s m args below meth c 0 0 (MQ below (me_Qc D cA ad n A none M') args s 0 0 A) D cA ad n 5 A 89 [(0, .ref (ad 63))] [] M8 := by
        refine me_aload_n X (i := 0) 0 rfl dX12_readsFirstOrder_89 ?_
        obtain ⟨v6, e8, h⟩ := me_bd h
        refine me_callVi X [] (ctX12_here_63 hn (Nat.le_trans (by decide) hnt) e8) kV_X12_149 rfl rfl (Nat.le_of_ble_eq_true rfl) me_k63 (Nat.le_of_ble_eq_true rfl) (Nat.le_refl _) (Nat.le_of_ble_eq_true rfl) dX12_readsFirstOrder_90 ?_
        obtain ⟨v7, e9, h⟩ := me_bd h
        refine me_callSi X [.int v6] (ctX12_isDigit hn (Nat.le_trans (by decide) hnt) e9) kS_X12_153 rfl rfl (Nat.le_of_ble_eq_true rfl) (Nat.le_refl _) (Nat.le_of_ble_eq_true rfl) dX12_readsFirstOrder_93 ?_
        refine me_if_eq X 108 (by decide) dX12_readsFirstOrder_96 (fun c5 => ?_) (fun c5 => ?_)
        · have h := me_ip c5 h
          obtain rfl := me_so h
          exact me_vret X hr hlk dX12_readsFirstOrder_108
        · have h := me_in c5 h
          refine me_aload_n X (i := 0) 0 rfl dX12_readsFirstOrder_99 ?_
          refine me_iconst X dX12_readsFirstOrder_100 ic_3 ?_
          refine me_aload_n X (i := 0) 0 rfl dX12_readsFirstOrder_101 ?_
          refine me_geti X kF_X12_137 (Nat.le_of_ble_eq_true rfl) me_k63 me_f63_25 dX12_readsFirstOrder_102 ?_
          obtain ⟨M9, e10, h⟩ := me_bd h
          refine me_callVv X [.int 3, .int (M8.1 63 25)] (ctX12_wrong_63 hn (Nat.le_trans (by decide) hnt) e10) kV_X12_160 rfl rfl (Nat.le_of_ble_eq_true rfl) me_k63 (Nat.le_of_ble_eq_true rfl) (Nat.le_refl _) (Nat.le_of_ble_eq_true rfl) dX12_readsFirstOrder_105 ?_
          obtain rfl := me_so h
          exact me_vret X hr hlk dX12_readsFirstOrder_108
      refine me_sub (L' := [(0, .ref (ad 63)), (1, .ref (ad j0)), (2, .int x2_1), (3, .int y3_1), (4, .int 0)]) [1, 2, 3, 4, 0] rfl ?_
      refine me_l_W (b := (mX12_readsFirstOrder_63_dig_L58 j0 x2_1 y3_1)) (P := fun w => me_W p l e R s m args below meth c 0 0 (MQ below (me_Qc D cA ad n A none M') args s 0 0 A) D cA ad n 5 A 58 [(0, .ref (ad 63)), (1, .ref (ad j0)), (2, .int x2_1), (3, .int y3_1), (4, .int w.1)] [] w.2) (r := M8) ?_ me_fu (0, M4) hq2
      rintro ⟨x4_1, M5⟩ z2 h hb2 - hr2
      unfold mX12_readsFirstOrder_63_dig_L58 at h
      refine me_iload X (i := 4) 4 rfl dX12_readsFirstOrder_58 ?_
      refine me_iload_n X (i := 3) 3 rfl dX12_readsFirstOrder_60 ?_
      refine me_icmp_ge X 89 (by decide) dX12_readsFirstOrder_61 (fun c3 => ?_) (fun c3 => ?_)
      · have h := me_ip c3 h
        obtain rfl := me_so h
        have q := hr2 _ rfl
        refine me_sub (L' := [(0, .ref (ad 63))]) [0] rfl ?_
        cases q
        exact hx2
      · have h := me_in c3 h
        refine me_aload_n X (i := 1) 1 rfl dX12_readsFirstOrder_64 ?_
        refine me_iload X (i := 4) 4 rfl dX12_readsFirstOrder_65 ?_
        refine me_iload_n X (i := 3) 3 rfl dX12_readsFirstOrder_67 ?_
        obtain ⟨v4, e6, h⟩ := me_bd h
        refine me_callSi X [.ref (ad j0), .int x4_1, .int y3_1] (ctX12_isNext_dig hn (Nat.le_trans (by decide) hnt) f_j0 e6) kS_X12_156 rfl rfl (Nat.le_of_ble_eq_true rfl) (Nat.le_refl _) (Nat.le_of_ble_eq_true rfl) dX12_readsFirstOrder_68 ?_
        have hj83_2 : ∀ (M7 : me_M), mX12_readsFirstOrder_63_dig_J83 j0 x2_1 y3_1 x4_1 M7 = some z2 → me_W p l e R s m args below meth c 0 0 (MQ below (me_Qc D cA ad n A none M') args s 0 0 A) D cA ad n 5 A 83 [(0, .ref (ad 63)), (1, .ref (ad j0)), (2, .int x2_1), (3, .int y3_1), (4, .int x4_1)] [] M7 := by
          intro M7 h
          unfold mX12_readsFirstOrder_63_dig_J83 at h
          refine me_iinc X (v := (x4_1 + 1)) 4 rfl (in_1 _) [(4, .int (x4_1 + 1)), (0, .ref (ad 63)), (1, .ref (ad j0)), (2, .int x2_1), (3, .int y3_1)] (Nat.le_of_ble_eq_true rfl) rfl dX12_readsFirstOrder_83 ?_
          refine me_goto X 58 (by decide) dX12_readsFirstOrder_86 ?_
          obtain rfl := me_so h
          refine me_sub (L' := [(0, .ref (ad 63)), (1, .ref (ad j0)), (2, .int x2_1), (3, .int y3_1), (4, .int (x4_1 + 1))]) [1, 2, 3, 4, 0] rfl ?_
          exact hb2 ((x4_1 + 1), M7) rfl
        refine me_if_ne X 83 (by decide) dX12_readsFirstOrder_71 (fun c4 => ?_) (fun c4 => ?_)
        · have h := me_in c4 h
          exact hj83_2 M5 h
        · have h := me_ip c4 h
          refine me_aload_n X (i := 0) 0 rfl dX12_readsFirstOrder_74 ?_
          refine me_iconst X dX12_readsFirstOrder_75 ic_2 ?_
          refine me_iload_n X (i := 2) 2 rfl dX12_readsFirstOrder_76 ?_
          refine me_iload X (i := 4) 4 rfl dX12_readsFirstOrder_77 ?_
          refine me_iadd X dX12_readsFirstOrder_79 ?_
          obtain ⟨M6, e7, h⟩ := me_bd h
          refine me_callVv X [.int 2, .int (x2_1 + x4_1)] (ctX12_wrong_63 hn (Nat.le_trans (by decide) hnt) e7) kV_X12_160 rfl rfl (Nat.le_of_ble_eq_true rfl) me_k63 (Nat.le_of_ble_eq_true rfl) (Nat.le_refl _) (Nat.le_of_ble_eq_true rfl) dX12_readsFirstOrder_80 ?_
          exact hj83_2 M6 h
    refine me_l_W (b := (mX12_readsFirstOrder_63_dig_L7 j0 x2_1)) (P := fun w => me_W p l e R s m args below meth c 0 0 (MQ below (me_Qc D cA ad n A none M') args s 0 0 A) D cA ad n 5 A 7 [(0, .ref (ad 63)), (1, .ref (ad j0)), (2, .int x2_1), (3, .int w.1)] [] w.2) (r := (y3_1, M3)) ?_ me_fu (x3_1, M) hq1
    rintro ⟨x3_2, M1⟩ z1 h hb1 - hr1
    unfold mX12_readsFirstOrder_63_dig_L7 at h
    refine me_aload_n X (i := 0) 0 rfl dX12_readsFirstOrder_7 ?_
    obtain ⟨v1, e1, h⟩ := me_bd h
    refine me_callVi X [] (ctX12_here_63 hn (Nat.le_trans (by decide) hnt) e1) kV_X12_149 rfl rfl (Nat.le_of_ble_eq_true rfl) me_k63 (Nat.le_of_ble_eq_true rfl) (Nat.le_refl _) (Nat.le_of_ble_eq_true rfl) dX12_readsFirstOrder_8 ?_
    obtain ⟨v2, e2, h⟩ := me_bd h
    refine me_callSi X [.int v1] (ctX12_isDigit hn (Nat.le_trans (by decide) hnt) e2) kS_X12_153 rfl rfl (Nat.le_of_ble_eq_true rfl) (Nat.le_refl _) (Nat.le_of_ble_eq_true rfl) dX12_readsFirstOrder_11 ?_
    refine me_if_eq X 48 (by decide) dX12_readsFirstOrder_14 (fun c1 => ?_) (fun c1 => ?_)
    · have h := me_ip c1 h
      obtain rfl := me_so h
      have q := hr1 _ rfl
      cases q
      exact hx1
    · have h := me_in c1 h
      refine me_iload_n X (i := 3) 3 rfl dX12_readsFirstOrder_17 ?_
      refine me_iconst X dX12_readsFirstOrder_18 ic_5 ?_
      refine me_icmp_ge X 48 (by decide) dX12_readsFirstOrder_19 (fun c2 => ?_) (fun c2 => ?_)
      · have h := me_ip c2 h
        obtain rfl := me_so h
        have q := hr1 _ rfl
        cases q
        exact hx1
      · have h := me_in c2 h
        refine me_aload_n X (i := 1) 1 rfl dX12_readsFirstOrder_22 ?_
        refine me_iload_n X (i := 3) 3 rfl dX12_readsFirstOrder_23 ?_
        refine me_aload_n X (i := 0) 0 rfl dX12_readsFirstOrder_24 ?_
        obtain ⟨v3, e3, h⟩ := me_bd h
        refine me_callVi X [] (ctX12_here_63 hn (Nat.le_trans (by decide) hnt) e3) kV_X12_149 rfl rfl (Nat.le_of_ble_eq_true rfl) me_k63 (Nat.le_of_ble_eq_true rfl) (Nat.le_refl _) (Nat.le_of_ble_eq_true rfl) dX12_readsFirstOrder_25 ?_
        refine me_bipush X dX12_readsFirstOrder_28 ib_48 ?_
        refine me_isub X dX12_readsFirstOrder_30 ?_
        obtain ⟨M2, e4, h⟩ := me_bd h
        refine me_iast X f_j0.2 f_j0.1 e4 dX12_readsFirstOrder_31 ?_
        refine me_iinc X (v := (x3_2 + 1)) 3 rfl (in_1 _) [(3, .int (x3_2 + 1)), (0, .ref (ad 63)), (1, .ref (ad j0)), (2, .int x2_1)] (Nat.le_of_ble_eq_true rfl) rfl dX12_readsFirstOrder_32 ?_
        refine me_aload_n X (i := 0) 1 rfl dX12_readsFirstOrder_35 ?_
        refine me_dup X rfl dX12_readsFirstOrder_36 ?_
        refine me_geti X kF_X12_137 (Nat.le_of_ble_eq_true rfl) me_k63 me_f63_25 dX12_readsFirstOrder_37 ?_
        refine me_iconst X dX12_readsFirstOrder_40 ic_1 ?_
        refine me_iadd X dX12_readsFirstOrder_41 ?_
        refine me_puti X kG_X12_137 (Nat.le_of_ble_eq_true rfl) me_k63 me_f63_25 dX12_readsFirstOrder_42 ?_
        refine me_goto X 7 (by decide) dX12_readsFirstOrder_45 ?_
        obtain rfl := me_so h
        refine me_sub (L' := [(0, .ref (ad 63)), (1, .ref (ad j0)), (2, .int x2_1), (3, .int (x3_2 + 1))]) [1, 2, 3, 0] rfl ?_
        exact hb1 ((x3_2 + 1), (me_s M2 63 25 ((M2.1 63 25) + 1))) rfl
  refine me_sub (L' := [(0, .ref (ad 63)), (1, .ref (ad j0)), (2, .int (M.1 63 25)), (3, .int 0)]) [2, 3, 1, 0] rfl ?_
  exact hk7_0 (M.1 63 25) 0 h
def mX12_readsSearch_63_J71 (a1 : Nat) (x3_1 : Int32) (M9 : me_M) : Option ((Int32 × me_M) ⊕ (me_M)) :=
  some (.inl ((x3_1 + 1), M9))
def mX12_readsSearch_63_J54 (a1 : Nat) (x3_1 : Int32) (M6 : me_M) : Option ((Int32 × me_M) ⊕ (me_M)) :=
  ((mX12_blanks_63 M6).bind fun M7 => ((mX12_fine_63 M7).bind fun v6 => (if v6 = 0 then (mX12_readsSearch_63_J71 a1 x3_1 M7) else ((mX12_readsRow_63_101 M7 a1 x3_1).bind fun M8 => (mX12_readsSearch_63_J71 a1 x3_1 M8)))))
def mX12_readsSearch_63_L31 (a1 : Nat) : (Int32 × me_M) → Option ((Int32 × me_M) ⊕ (me_M))
  | (x3_1, M4) => (if 3 ≤ x3_1 then some (.inr M4) else ((mX12_here_63 M4).bind fun v3 => (if v3 = 32 then (mX12_readsSearch_63_J54 a1 x3_1 M4) else ((mX12_wrong_63 M4 1 (M4.1 63 25)).bind fun M5 => (mX12_readsSearch_63_J54 a1 x3_1 M5)))))
def mX12_readsSearch_63_J99 (M13 : me_M) : Option me_M :=
  some (me_s M13 63 25 ((M13.1 63 25) + 1))
def mX12_readsSearch_63_J29 (a1 : Nat) (M3 : me_M) : Option me_M :=
  ((me_l (mX12_readsSearch_63_L31 a1) me_fu (1, M3)).bind fun M10 => ((mX12_blanks_63 M10).bind fun M11 => ((mX12_here_63 M11).bind fun v9 => (if v9 = 59 then (mX12_readsSearch_63_J99 M11) else ((mX12_wrong_63 M11 1 (M11.1 63 25)).bind fun M12 => (mX12_readsSearch_63_J99 M12))))))
def mX12_readsSearch_63 (M : me_M) (p0 : Int32) : Option me_M :=
  ((me_a 8 101 p0).bind fun a1 => (if p0 = 0 then ((me_a 3 (109 + 3 * (a1 - 93)) 0).bind fun a2 => ((mX12_readsFirstOrder_63_dig M a2).bind fun M2 => (mX12_readsSearch_63_J29 a1 M2))) else ((mX12_readsRow_63_101 M a1 0).bind fun M1 => (mX12_readsSearch_63_J29 a1 M1))))
set_option maxRecDepth 100000 in
set_option maxHeartbeats 4000000 in
theorem ctX12_readsSearch_63 {l : Launch} {n nt : Nat} (hn : 424 ≤ n) (hnt : 4 ≤ nt) {M : me_M} {p0 : Int32} {M' : me_M} (h : mX12_readsSearch_63 M p0 = some M') : me_Ct l yX12_readsSearch cX12_readsSearch 4 none 2 n nt (fun ad => [.ref (ad 63), .int p0]) M (fun _ => none) M' := by
  unfold mX12_readsSearch_63 at h
  refine me_enter (N0 := 424) RX12 rfl (plainFor_of_name pl_RX12) hn (Nat.le_trans (by decide) hnt) (fun _ => Nat.le_of_ble_eq_true rfl) ?_
  intro p e R s m args below meth c D cA ad tys A X hr hlk
  refine me_sub (L' := [(0, .ref (ad 63)), (1, .int p0)]) [0, 1] rfl ?_
  refine me_aload_n X (i := 0) 0 rfl dX12_readsSearch_0 ?_
  refine me_getr X 90 kF_X12_57 (Nat.le_of_ble_eq_true rfl) me_k63 me_f63_16 dX12_readsSearch_1 ?_
  refine me_iconst X dX12_readsSearch_4 ic_1 ?_
  refine me_aald X (j := 92) (Nat.le_of_ble_eq_true rfl) ⟨by decide, by decide, Nat.lt_of_lt_of_le (by decide) hnt⟩ me_k90 (by decide) dX12_readsSearch_5 ?_
  refine me_iload_n X (i := 1) 1 rfl dX12_readsSearch_6 ?_
  obtain ⟨a1, e1, h⟩ := me_bd h
  have f_a1 := me_f101 e1
  refine me_aald X (Nat.le_of_ble_eq_true rfl) ⟨by decide, by decide, Nat.lt_of_lt_of_le (by decide) hnt⟩ me_k92 e1 dX12_readsSearch_7 ?_
  refine me_astore_n X (i := 2) [(2, .ref (ad a1)), (0, .ref (ad 63)), (1, .int p0)] (Nat.le_of_ble_eq_true rfl) rfl dX12_readsSearch_8 ?_
  refine me_iload_n X (i := 1) 2 rfl dX12_readsSearch_9 ?_
  have hj29_1 : ∀ (M3 : me_M), mX12_readsSearch_63_J29 a1 M3 = some M' → me_W p l e R s m args below meth c 0 0 (MQ below (me_Qc D cA ad n A none M') args s 0 0 A) D cA ad n 4 A 29 [(0, .ref (ad 63)), (2, .ref (ad a1))] [] M3 := by
    intro M3 h
    unfold mX12_readsSearch_63_J29 at h
    refine me_iconst X dX12_readsSearch_29 ic_1 ?_
    refine me_istore_n X (i := 3) [(3, .int 1), (0, .ref (ad 63)), (2, .ref (ad a1))] (Nat.le_of_ble_eq_true rfl) rfl dX12_readsSearch_30 ?_
    obtain ⟨M10, hq1, h⟩ := me_bd h
    have hx1 : me_W p l e R s m args below meth c 0 0 (MQ below (me_Qc D cA ad n A none M') args s 0 0 A) D cA ad n 4 A 77 [(0, .ref (ad 63))] [] M10 := by
      refine me_aload_n X (i := 0) 0 rfl dX12_readsSearch_77 ?_
      obtain ⟨M11, e10, h⟩ := me_bd h
      refine me_callVv X [] (ctX12_blanks_63 hn (Nat.le_trans (by decide) hnt) e10) kV_X12_176 rfl rfl (Nat.le_of_ble_eq_true rfl) me_k63 (Nat.le_of_ble_eq_true rfl) (Nat.le_refl _) (Nat.le_of_ble_eq_true rfl) dX12_readsSearch_78 ?_
      refine me_aload_n X (i := 0) 0 rfl dX12_readsSearch_81 ?_
      obtain ⟨v9, e11, h⟩ := me_bd h
      refine me_callVi X [] (ctX12_here_63 hn (Nat.le_trans (by decide) hnt) e11) kV_X12_149 rfl rfl (Nat.le_of_ble_eq_true rfl) me_k63 (Nat.le_of_ble_eq_true rfl) (Nat.le_refl _) (Nat.le_of_ble_eq_true rfl) dX12_readsSearch_82 ?_
      refine me_bipush X dX12_readsSearch_85 ib_59 ?_
      have hj99_4 : ∀ (M13 : me_M), mX12_readsSearch_63_J99 M13 = some M' → me_W p l e R s m args below meth c 0 0 (MQ below (me_Qc D cA ad n A none M') args s 0 0 A) D cA ad n 4 A 99 [(0, .ref (ad 63))] [] M13 := by
        intro M13 h
        unfold mX12_readsSearch_63_J99 at h
        refine me_aload_n X (i := 0) 0 rfl dX12_readsSearch_99 ?_
        refine me_dup X rfl dX12_readsSearch_100 ?_
        refine me_geti X kF_X12_137 (Nat.le_of_ble_eq_true rfl) me_k63 me_f63_25 dX12_readsSearch_101 ?_
        refine me_iconst X dX12_readsSearch_104 ic_1 ?_
        refine me_iadd X dX12_readsSearch_105 ?_
        refine me_puti X kG_X12_137 (Nat.le_of_ble_eq_true rfl) me_k63 me_f63_25 dX12_readsSearch_106 ?_
        obtain rfl := me_so h
        exact me_vret X hr hlk dX12_readsSearch_109
      refine me_icmp_eq X 99 (by decide) dX12_readsSearch_87 (fun c5 => ?_) (fun c5 => ?_)
      · have h := me_ip c5 h
        exact hj99_4 M11 h
      · have h := me_in c5 h
        refine me_aload_n X (i := 0) 0 rfl dX12_readsSearch_90 ?_
        refine me_iconst X dX12_readsSearch_91 ic_1 ?_
        refine me_aload_n X (i := 0) 0 rfl dX12_readsSearch_92 ?_
        refine me_geti X kF_X12_137 (Nat.le_of_ble_eq_true rfl) me_k63 me_f63_25 dX12_readsSearch_93 ?_
        obtain ⟨M12, e12, h⟩ := me_bd h
        refine me_callVv X [.int 1, .int (M11.1 63 25)] (ctX12_wrong_63 hn (Nat.le_trans (by decide) hnt) e12) kV_X12_160 rfl rfl (Nat.le_of_ble_eq_true rfl) me_k63 (Nat.le_of_ble_eq_true rfl) (Nat.le_refl _) (Nat.le_of_ble_eq_true rfl) dX12_readsSearch_96 ?_
        exact hj99_4 M12 h
    refine me_sub (L' := [(0, .ref (ad 63)), (2, .ref (ad a1)), (3, .int 1)]) [1, 2, 0] rfl ?_
    refine me_l_W (b := (mX12_readsSearch_63_L31 a1)) (P := fun w => me_W p l e R s m args below meth c 0 0 (MQ below (me_Qc D cA ad n A none M') args s 0 0 A) D cA ad n 4 A 31 [(0, .ref (ad 63)), (2, .ref (ad a1)), (3, .int w.1)] [] w.2) (r := M10) ?_ me_fu (1, M3) hq1
    rintro ⟨x3_1, M4⟩ z1 h hb1 - hr1
    unfold mX12_readsSearch_63_L31 at h
    refine me_iload_n X (i := 3) 2 rfl dX12_readsSearch_31 ?_
    refine me_iconst X dX12_readsSearch_32 ic_3 ?_
    refine me_icmp_ge X 77 (by decide) dX12_readsSearch_33 (fun c2 => ?_) (fun c2 => ?_)
    · have h := me_ip c2 h
      obtain rfl := me_so h
      have q := hr1 _ rfl
      refine me_sub (L' := [(0, .ref (ad 63))]) [0] rfl ?_
      cases q
      exact hx1
    · have h := me_in c2 h
      refine me_aload_n X (i := 0) 0 rfl dX12_readsSearch_36 ?_
      obtain ⟨v3, e5, h⟩ := me_bd h
      refine me_callVi X [] (ctX12_here_63 hn (Nat.le_trans (by decide) hnt) e5) kV_X12_149 rfl rfl (Nat.le_of_ble_eq_true rfl) me_k63 (Nat.le_of_ble_eq_true rfl) (Nat.le_refl _) (Nat.le_of_ble_eq_true rfl) dX12_readsSearch_37 ?_
      refine me_bipush X dX12_readsSearch_40 ib_32 ?_
      have hj54_2 : ∀ (M6 : me_M), mX12_readsSearch_63_J54 a1 x3_1 M6 = some z1 → me_W p l e R s m args below meth c 0 0 (MQ below (me_Qc D cA ad n A none M') args s 0 0 A) D cA ad n 4 A 54 [(0, .ref (ad 63)), (2, .ref (ad a1)), (3, .int x3_1)] [] M6 := by
        intro M6 h
        unfold mX12_readsSearch_63_J54 at h
        refine me_aload_n X (i := 0) 0 rfl dX12_readsSearch_54 ?_
        obtain ⟨M7, e7, h⟩ := me_bd h
        refine me_callVv X [] (ctX12_blanks_63 hn (Nat.le_trans (by decide) hnt) e7) kV_X12_176 rfl rfl (Nat.le_of_ble_eq_true rfl) me_k63 (Nat.le_of_ble_eq_true rfl) (Nat.le_refl _) (Nat.le_of_ble_eq_true rfl) dX12_readsSearch_55 ?_
        refine me_aload_n X (i := 0) 0 rfl dX12_readsSearch_58 ?_
        obtain ⟨v6, e8, h⟩ := me_bd h
        refine me_callVi X [] (ctX12_fine_63 hn (Nat.le_trans (by decide) hnt) e8) kV_X12_164 rfl rfl (Nat.le_of_ble_eq_true rfl) me_k63 (Nat.le_of_ble_eq_true rfl) (Nat.le_refl _) (Nat.le_of_ble_eq_true rfl) dX12_readsSearch_59 ?_
        have hj71_3 : ∀ (M9 : me_M), mX12_readsSearch_63_J71 a1 x3_1 M9 = some z1 → me_W p l e R s m args below meth c 0 0 (MQ below (me_Qc D cA ad n A none M') args s 0 0 A) D cA ad n 4 A 71 [(0, .ref (ad 63)), (2, .ref (ad a1)), (3, .int x3_1)] [] M9 := by
          intro M9 h
          unfold mX12_readsSearch_63_J71 at h
          refine me_iinc X (v := (x3_1 + 1)) 2 rfl (in_1 _) [(3, .int (x3_1 + 1)), (0, .ref (ad 63)), (2, .ref (ad a1))] (Nat.le_of_ble_eq_true rfl) rfl dX12_readsSearch_71 ?_
          refine me_goto X 31 (by decide) dX12_readsSearch_74 ?_
          obtain rfl := me_so h
          refine me_sub (L' := [(0, .ref (ad 63)), (2, .ref (ad a1)), (3, .int (x3_1 + 1))]) [1, 2, 0] rfl ?_
          exact hb1 ((x3_1 + 1), M9) rfl
        refine me_if_eq X 71 (by decide) dX12_readsSearch_62 (fun c4 => ?_) (fun c4 => ?_)
        · have h := me_ip c4 h
          exact hj71_3 M7 h
        · have h := me_in c4 h
          refine me_aload_n X (i := 0) 0 rfl dX12_readsSearch_65 ?_
          refine me_aload_n X (i := 2) 1 rfl dX12_readsSearch_66 ?_
          refine me_iload_n X (i := 3) 2 rfl dX12_readsSearch_67 ?_
          obtain ⟨M8, e9, h⟩ := me_bd h
          refine me_callVv X [.ref (ad a1), .int x3_1] (ctX12_readsRow_63_101 hn (Nat.le_trans (by decide) hnt) f_a1 e9) kV_X12_172 rfl rfl (Nat.le_of_ble_eq_true rfl) me_k63 (Nat.le_of_ble_eq_true rfl) (Nat.le_refl _) (Nat.le_of_ble_eq_true rfl) dX12_readsSearch_68 ?_
          exact hj71_3 M8 h
      refine me_icmp_eq X 54 (by decide) dX12_readsSearch_42 (fun c3 => ?_) (fun c3 => ?_)
      · have h := me_ip c3 h
        exact hj54_2 M4 h
      · have h := me_in c3 h
        refine me_aload_n X (i := 0) 0 rfl dX12_readsSearch_45 ?_
        refine me_iconst X dX12_readsSearch_46 ic_1 ?_
        refine me_aload_n X (i := 0) 0 rfl dX12_readsSearch_47 ?_
        refine me_geti X kF_X12_137 (Nat.le_of_ble_eq_true rfl) me_k63 me_f63_25 dX12_readsSearch_48 ?_
        obtain ⟨M5, e6, h⟩ := me_bd h
        refine me_callVv X [.int 1, .int (M4.1 63 25)] (ctX12_wrong_63 hn (Nat.le_trans (by decide) hnt) e6) kV_X12_160 rfl rfl (Nat.le_of_ble_eq_true rfl) me_k63 (Nat.le_of_ble_eq_true rfl) (Nat.le_refl _) (Nat.le_of_ble_eq_true rfl) dX12_readsSearch_51 ?_
        exact hj54_2 M5 h
  refine me_if_ne X 23 (by decide) dX12_readsSearch_10 (fun c1 => ?_) (fun c1 => ?_)
  · have h := me_in c1 h
    refine me_aload_n X (i := 0) 1 rfl dX12_readsSearch_23 ?_
    refine me_aload_n X (i := 2) 0 rfl dX12_readsSearch_24 ?_
    refine me_iconst X dX12_readsSearch_25 ic_0 ?_
    obtain ⟨M1, e2, h⟩ := me_bd h
    refine me_callVv X [.ref (ad a1), .int 0] (ctX12_readsRow_63_101 hn (Nat.le_trans (by decide) hnt) f_a1 e2) kV_X12_172 rfl rfl (Nat.le_of_ble_eq_true rfl) me_k63 (Nat.le_of_ble_eq_true rfl) (Nat.le_refl _) (Nat.le_of_ble_eq_true rfl) dX12_readsSearch_26 ?_
    refine me_sub (L' := [(0, .ref (ad 63)), (2, .ref (ad a1))]) [1, 0] rfl ?_
    exact hj29_1 M1 h
  · have h := me_ip c1 h
    refine me_aload_n X (i := 0) 1 rfl dX12_readsSearch_13 ?_
    refine me_aload_n X (i := 2) 0 rfl dX12_readsSearch_14 ?_
    refine me_iconst X dX12_readsSearch_15 ic_0 ?_
    obtain ⟨a2, e3, h⟩ := me_bd h
    have f_a2 := me_fdig f_a1 e3
    refine me_aald X f_a1.2.1 ⟨by decide, by decide, Nat.lt_of_lt_of_le (by decide) hnt⟩ f_a1.1 e3 dX12_readsSearch_16 ?_
    obtain ⟨M2, e4, h⟩ := me_bd h
    refine me_callVv X [.ref (ad a2)] (ctX12_readsFirstOrder_63_dig hn (Nat.le_trans (by decide) hnt) f_a2 e4) kV_X12_168 rfl rfl (Nat.le_of_ble_eq_true rfl) me_k63 (Nat.le_of_ble_eq_true rfl) (Nat.le_refl _) (Nat.le_of_ble_eq_true rfl) dX12_readsSearch_17 ?_
    refine me_goto X 29 (by decide) dX12_readsSearch_20 ?_
    refine me_sub (L' := [(0, .ref (ad 63)), (2, .ref (ad a1))]) [1, 0] rfl ?_
    exact hj29_1 M2 h
def mX12_scheme_63_J143 (M10 : me_M) : Option ((me_M) ⊕ (me_M)) :=
  ((mX12_fine_63 M10).bind fun v13 => (if v13 = 0 then some (.inr M10) else ((me_r M10 77 2 1).bind fun v14 => ((mX12_readsSearch_63 M10 v14).bind fun M11 => ((me_r M11 77 2 1).bind fun v16 => ((me_t M11 77 2 1 (v16 + 1)).bind fun M12 => ((mX12_blanks_63 M12).bind fun M13 => some (.inl M13))))))))
def mX12_scheme_63_L86  : (me_M) → Option ((me_M) ⊕ (me_M))
  | M7 => ((mX12_fine_63 M7).bind fun v6 => (if v6 = 0 then some (.inr M7) else ((mX12_here_63 M7).bind fun v7 => (if v7 = (-1) then some (.inr M7) else ((mX12_here_63 M7).bind fun v8 => ((mX12_isDigit v8).bind fun v9 => (if v9 = 0 then ((mX12_wrong_63 M7 1 (M7.1 63 25)).bind fun M9 => (mX12_scheme_63_J143 M9)) else ((me_r M7 77 2 1).bind fun v10 => (if v10 = 8 then ((mX12_wrong_63 M7 3 (M7.1 63 25)).bind fun M8 => (mX12_scheme_63_J143 M8)) else (mX12_scheme_63_J143 M7))))))))))
def mX12_scheme_63_L249 (x2_1 : Int32) (x3_1 : Int32) : (Int32 × me_M) → Option ((Int32 × me_M) ⊕ (me_M))
  | (x4_1, M19) => ((me_r M19 78 2 0).bind fun v22 => (if v22 ≤ x4_1 then some (.inr M19) else ((me_a 8 93 x2_1).bind fun a1 => ((me_a 3 (109 + 3 * (a1 - 93)) x3_1).bind fun a2 => ((me_a 8 101 x2_1).bind fun a3 => ((me_a 3 (109 + 3 * (a3 - 93)) x3_1).bind fun a4 => ((me_r M19 a4 5 x4_1).bind fun v23 => ((me_t M19 a2 5 x4_1 v23).bind fun M20 => some (.inl ((x4_1 + 1), M20))))))))))
def mX12_scheme_63_L241 (x2_1 : Int32) : (Int32 × me_M) → Option ((Int32 × me_M) ⊕ (me_M))
  | (x3_1, M18) => (if 3 ≤ x3_1 then some (.inr M18) else ((me_l (mX12_scheme_63_L249 x2_1 x3_1) me_fu (0, M18)).bind fun M21 => some (.inl ((x3_1 + 1), M21))))
def mX12_scheme_63_L229  : (Int32 × me_M) → Option ((Int32 × me_M) ⊕ (me_M))
  | (x2_1, M17) => ((me_r M17 77 2 0).bind fun v21 => (if v21 ≤ x2_1 then some (.inr M17) else ((me_l (mX12_scheme_63_L241 x2_1) me_fu (0, M17)).bind fun M22 => some (.inl ((x2_1 + 1), M22)))))
def mX12_scheme_63_J86 (M6 : me_M) : Option (Int32 × me_M) :=
  ((me_l mX12_scheme_63_L86 me_fu M6).bind fun M14 => ((mX12_fine_63 (me_s M14 63 3 (M14.1 63 27))).bind fun v18 => (if v18 = 0 then some ((((me_s M14 63 3 (M14.1 63 27)).1 63 26) - 10), (me_s M14 63 3 (M14.1 63 27))) else ((me_r (me_s M14 63 3 (M14.1 63 27)) 77 2 1).bind fun v19 => ((me_t (me_s M14 63 3 (M14.1 63 27)) 77 2 0 v19).bind fun M15 => ((me_r M15 78 2 1).bind fun v20 => ((me_t M15 78 2 0 v20).bind fun M16 => ((me_l mX12_scheme_63_L229 me_fu (0, M16)).bind fun M23 => ((me_r M23 77 2 0).bind fun v24 => some (v24, M23))))))))))
def mX12_scheme_63_J23 (p0 : Int32) (s1 : Int32) (M1 : me_M) : Option (Int32 × me_M) :=
  ((mX12_bad_63 M1 s1 1 1).bind fun (v2, M2) => (if v2 = 0 then ((me_t (me_s (me_s (me_s (me_s (me_s M2 63 24 p0) 63 2 0) 63 25 0) 63 26 0) 63 27 (-1)) 77 2 1 0).bind fun M3 => ((mX12_blanks_63 M3).bind fun M4 => ((mX12_here_63 M4).bind fun v4 => (if v4 = (-1) then ((mX12_wrong_63 M4 1 (M4.1 63 25)).bind fun M5 => (mX12_scheme_63_J86 M5)) else (mX12_scheme_63_J86 M4))))) else some (0, M2)))
def mX12_scheme_63 (M : me_M) (p0 : Int32) : Option (Int32 × me_M) :=
  ((mX12_in p0 1 ((me_s M 63 0 0).1 63 2)).bind fun v1 => (if v1 = 0 then (mX12_scheme_63_J23 p0 1 (me_s M 63 0 0)) else (mX12_scheme_63_J23 p0 0 (me_s M 63 0 0))))
set_option maxRecDepth 100000 in
set_option maxHeartbeats 4000000 in
theorem ctX12_scheme_63 {l : Launch} {n nt : Nat} (hn : 424 ≤ n) (hnt : 4 ≤ nt) {M : me_M} {p0 : Int32} {r : Int32} {M' : me_M} (h : mX12_scheme_63 M p0 = some (r, M')) : me_Ct l yX12_scheme cX12_scheme 5 (some .int) 3 n nt (fun ad => [.ref (ad 63), .int p0]) M (fun _ => some (.int r)) M' := by
  unfold mX12_scheme_63 at h
  refine me_enter (N0 := 424) RX12 rfl (plainFor_of_name pl_RX12) hn (Nat.le_trans (by decide) hnt) (fun _ => Nat.le_of_ble_eq_true rfl) ?_
  intro p e R s m args below meth c D cA ad tys A X hr hlk
  refine me_sub (L' := [(0, .ref (ad 63)), (1, .int p0)]) [0, 1] rfl ?_
  refine me_aload_n X (i := 0) 0 rfl dX12_scheme_0 ?_
  refine me_iconst X dX12_scheme_1 ic_0 ?_
  refine me_puti X kG_X12_105 (Nat.le_of_ble_eq_true rfl) me_k63 me_f63_0 dX12_scheme_2 ?_
  refine me_aload_n X (i := 0) 0 rfl dX12_scheme_5 ?_
  refine me_iload_n X (i := 1) 1 rfl dX12_scheme_6 ?_
  refine me_iconst X dX12_scheme_7 ic_1 ?_
  refine me_aload_n X (i := 0) 0 rfl dX12_scheme_8 ?_
  refine me_geti X kF_X12_115 (Nat.le_of_ble_eq_true rfl) me_k63 me_f63_2 dX12_scheme_9 ?_
  obtain ⟨v1, e1, h⟩ := me_bd h
  refine me_callSi X [.int p0, .int 1, .int ((me_s M 63 0 0).1 63 2)] (ctX12_in hn (Nat.le_trans (by decide) hnt) e1) kS_X12_108 rfl rfl (Nat.le_of_ble_eq_true rfl) (Nat.le_refl _) (Nat.le_of_ble_eq_true rfl) dX12_scheme_12 ?_
  have hj23_1 : ∀ (s1 : Int32) (M1 : me_M), mX12_scheme_63_J23 p0 s1 M1 = some (r, M') → me_W p l e R s m args below meth c 0 0 (MQ below (me_Qc D cA ad n A (some (.int r)) M') args s 0 0 A) D cA ad n 5 A 23 [(0, .ref (ad 63)), (1, .int p0)] [.int s1, .ref (ad 63)] M1 := by
    intro s1 M1 h
    unfold mX12_scheme_63_J23 at h
    refine me_iconst X dX12_scheme_23 ic_1 ?_
    refine me_iconst X dX12_scheme_24 ic_1 ?_
    obtain ⟨⟨v2, M2⟩, e2, h⟩ := me_bd h
    refine me_callVi X [.int s1, .int 1, .int 1] (ctX12_bad_63 hn (Nat.le_trans (by decide) hnt) e2) kV_X12_122 rfl rfl (Nat.le_of_ble_eq_true rfl) me_k63 (Nat.le_of_ble_eq_true rfl) (Nat.le_refl _) (Nat.le_of_ble_eq_true rfl) dX12_scheme_25 ?_
    refine me_if_eq X 33 (by decide) dX12_scheme_28 (fun c2 => ?_) (fun c2 => ?_)
    · have h := me_ip c2 h
      refine me_aload_n X (i := 0) 0 rfl dX12_scheme_33 ?_
      refine me_iload_n X (i := 1) 1 rfl dX12_scheme_34 ?_
      refine me_puti X kG_X12_140 (Nat.le_of_ble_eq_true rfl) me_k63 me_f63_24 dX12_scheme_35 ?_
      refine me_aload_n X (i := 0) 0 rfl dX12_scheme_38 ?_
      refine me_iconst X dX12_scheme_39 ic_0 ?_
      refine me_puti X kG_X12_115 (Nat.le_of_ble_eq_true rfl) me_k63 me_f63_2 dX12_scheme_40 ?_
      refine me_aload_n X (i := 0) 0 rfl dX12_scheme_43 ?_
      refine me_iconst X dX12_scheme_44 ic_0 ?_
      refine me_puti X kG_X12_137 (Nat.le_of_ble_eq_true rfl) me_k63 me_f63_25 dX12_scheme_45 ?_
      refine me_aload_n X (i := 0) 0 rfl dX12_scheme_48 ?_
      refine me_iconst X dX12_scheme_49 ic_0 ?_
      refine me_puti X kG_X12_143 (Nat.le_of_ble_eq_true rfl) me_k63 me_f63_26 dX12_scheme_50 ?_
      refine me_aload_n X (i := 0) 0 rfl dX12_scheme_53 ?_
      refine me_iconst X dX12_scheme_54 ic_m1 ?_
      refine me_puti X kG_X12_146 (Nat.le_of_ble_eq_true rfl) me_k63 me_f63_27 dX12_scheme_55 ?_
      refine me_aload_n X (i := 0) 0 rfl dX12_scheme_58 ?_
      refine me_getr X 77 kF_X12_49 (Nat.le_of_ble_eq_true rfl) me_k63 me_f63_14 dX12_scheme_59 ?_
      refine me_iconst X dX12_scheme_62 ic_1 ?_
      refine me_iconst X dX12_scheme_63 ic_0 ?_
      obtain ⟨M3, e3, h⟩ := me_bd h
      refine me_iast X (Nat.le_of_ble_eq_true rfl) me_k77 e3 dX12_scheme_64 ?_
      refine me_aload_n X (i := 0) 0 rfl dX12_scheme_65 ?_
      obtain ⟨M4, e4, h⟩ := me_bd h
      refine me_callVv X [] (ctX12_blanks_63 hn (Nat.le_trans (by decide) hnt) e4) kV_X12_176 rfl rfl (Nat.le_of_ble_eq_true rfl) me_k63 (Nat.le_of_ble_eq_true rfl) (Nat.le_refl _) (Nat.le_of_ble_eq_true rfl) dX12_scheme_66 ?_
      refine me_aload_n X (i := 0) 0 rfl dX12_scheme_69 ?_
      obtain ⟨v4, e5, h⟩ := me_bd h
      refine me_callVi X [] (ctX12_here_63 hn (Nat.le_trans (by decide) hnt) e5) kV_X12_149 rfl rfl (Nat.le_of_ble_eq_true rfl) me_k63 (Nat.le_of_ble_eq_true rfl) (Nat.le_refl _) (Nat.le_of_ble_eq_true rfl) dX12_scheme_70 ?_
      refine me_iconst X dX12_scheme_73 ic_m1 ?_
      have hj86_2 : ∀ (M6 : me_M), mX12_scheme_63_J86 M6 = some (r, M') → me_W p l e R s m args below meth c 0 0 (MQ below (me_Qc D cA ad n A (some (.int r)) M') args s 0 0 A) D cA ad n 5 A 86 [(0, .ref (ad 63))] [] M6 := by
        intro M6 h
        unfold mX12_scheme_63_J86 at h
        obtain ⟨M14, hq1, h⟩ := me_bd h
        have hx1 : me_W p l e R s m args below meth c 0 0 (MQ below (me_Qc D cA ad n A (some (.int r)) M') args s 0 0 A) D cA ad n 5 A 180 [(0, .ref (ad 63))] [] M14 := by
          refine me_aload_n X (i := 0) 0 rfl dX12_scheme_180 ?_
          refine me_aload_n X (i := 0) 0 rfl dX12_scheme_181 ?_
          refine me_geti X kF_X12_146 (Nat.le_of_ble_eq_true rfl) me_k63 me_f63_27 dX12_scheme_182 ?_
          refine me_puti X kG_X12_13 (Nat.le_of_ble_eq_true rfl) me_k63 me_f63_3 dX12_scheme_185 ?_
          refine me_aload_n X (i := 0) 0 rfl dX12_scheme_188 ?_
          obtain ⟨v18, e20, h⟩ := me_bd h
          refine me_callVi X [] (ctX12_fine_63 hn (Nat.le_trans (by decide) hnt) e20) kV_X12_164 rfl rfl (Nat.le_of_ble_eq_true rfl) me_k63 (Nat.le_of_ble_eq_true rfl) (Nat.le_refl _) (Nat.le_of_ble_eq_true rfl) dX12_scheme_189 ?_
          refine me_if_ne X 203 (by decide) dX12_scheme_192 (fun c9 => ?_) (fun c9 => ?_)
          · have h := me_in c9 h
            refine me_aload_n X (i := 0) 0 rfl dX12_scheme_203 ?_
            refine me_getr X 77 kF_X12_49 (Nat.le_of_ble_eq_true rfl) me_k63 me_f63_14 dX12_scheme_204 ?_
            refine me_iconst X dX12_scheme_207 ic_0 ?_
            refine me_aload_n X (i := 0) 0 rfl dX12_scheme_208 ?_
            refine me_getr X 77 kF_X12_49 (Nat.le_of_ble_eq_true rfl) me_k63 me_f63_14 dX12_scheme_209 ?_
            refine me_iconst X dX12_scheme_212 ic_1 ?_
            obtain ⟨v19, e21, h⟩ := me_bd h
            refine me_iald X (Nat.le_of_ble_eq_true rfl) me_k77 e21 dX12_scheme_213 ?_
            obtain ⟨M15, e22, h⟩ := me_bd h
            refine me_iast X (Nat.le_of_ble_eq_true rfl) me_k77 e22 dX12_scheme_214 ?_
            refine me_aload_n X (i := 0) 0 rfl dX12_scheme_215 ?_
            refine me_getr X 78 kF_X12_52 (Nat.le_of_ble_eq_true rfl) me_k63 me_f63_15 dX12_scheme_216 ?_
            refine me_iconst X dX12_scheme_219 ic_0 ?_
            refine me_aload_n X (i := 0) 0 rfl dX12_scheme_220 ?_
            refine me_getr X 78 kF_X12_52 (Nat.le_of_ble_eq_true rfl) me_k63 me_f63_15 dX12_scheme_221 ?_
            refine me_iconst X dX12_scheme_224 ic_1 ?_
            obtain ⟨v20, e23, h⟩ := me_bd h
            refine me_iald X (Nat.le_of_ble_eq_true rfl) me_k78 e23 dX12_scheme_225 ?_
            obtain ⟨M16, e24, h⟩ := me_bd h
            refine me_iast X (Nat.le_of_ble_eq_true rfl) me_k78 e24 dX12_scheme_226 ?_
            refine me_iconst X dX12_scheme_227 ic_0 ?_
            refine me_istore_n X (i := 2) [(2, .int 0), (0, .ref (ad 63))] (Nat.le_of_ble_eq_true rfl) rfl dX12_scheme_228 ?_
            obtain ⟨M23, hq2, h⟩ := me_bd h
            have hx4 : me_W p l e R s m args below meth c 0 0 (MQ below (me_Qc D cA ad n A (some (.int r)) M') args s 0 0 A) D cA ad n 5 A 304 [(0, .ref (ad 63))] [] M23 := by
              refine me_aload_n X (i := 0) 0 rfl dX12_scheme_304 ?_
              refine me_getr X 77 kF_X12_49 (Nat.le_of_ble_eq_true rfl) me_k63 me_f63_14 dX12_scheme_305 ?_
              refine me_iconst X dX12_scheme_308 ic_0 ?_
              obtain ⟨v24, e33, h⟩ := me_bd h
              refine me_iald X (Nat.le_of_ble_eq_true rfl) me_k77 e33 dX12_scheme_309 ?_
              obtain ⟨rfl, rfl⟩ := me_sp h
              exact me_iret X hr hlk dX12_scheme_310
            refine me_sub (L' := [(0, .ref (ad 63)), (2, .int 0)]) [1, 0] rfl ?_
            refine me_l_W (b := mX12_scheme_63_L229) (P := fun w => me_W p l e R s m args below meth c 0 0 (MQ below (me_Qc D cA ad n A (some (.int r)) M') args s 0 0 A) D cA ad n 5 A 229 [(0, .ref (ad 63)), (2, .int w.1)] [] w.2) (r := M23) ?_ me_fu (0, M16) hq2
            rintro ⟨x2_1, M17⟩ z2 h hb2 - hr2
            unfold mX12_scheme_63_L229 at h
            refine me_iload_n X (i := 2) 1 rfl dX12_scheme_229 ?_
            refine me_aload_n X (i := 0) 0 rfl dX12_scheme_230 ?_
            refine me_getr X 77 kF_X12_49 (Nat.le_of_ble_eq_true rfl) me_k63 me_f63_14 dX12_scheme_231 ?_
            refine me_iconst X dX12_scheme_234 ic_0 ?_
            obtain ⟨v21, e25, h⟩ := me_bd h
            refine me_iald X (Nat.le_of_ble_eq_true rfl) me_k77 e25 dX12_scheme_235 ?_
            refine me_icmp_ge X 304 (by decide) dX12_scheme_236 (fun c10 => ?_) (fun c10 => ?_)
            · have h := me_ip c10 h
              obtain rfl := me_so h
              have q := hr2 _ rfl
              refine me_sub (L' := [(0, .ref (ad 63))]) [0] rfl ?_
              cases q
              exact hx4
            · have h := me_in c10 h
              refine me_iconst X dX12_scheme_239 ic_0 ?_
              refine me_istore_n X (i := 3) [(3, .int 0), (0, .ref (ad 63)), (2, .int x2_1)] (Nat.le_of_ble_eq_true rfl) rfl dX12_scheme_240 ?_
              obtain ⟨M22, hq3, h⟩ := me_bd h
              have hx3 : me_W p l e R s m args below meth c 0 0 (MQ below (me_Qc D cA ad n A (some (.int r)) M') args s 0 0 A) D cA ad n 5 A 298 [(0, .ref (ad 63)), (2, .int x2_1)] [] M22 := by
                refine me_iinc X (v := (x2_1 + 1)) 1 rfl (in_1 _) [(2, .int (x2_1 + 1)), (0, .ref (ad 63))] (Nat.le_of_ble_eq_true rfl) rfl dX12_scheme_298 ?_
                refine me_goto X 229 (by decide) dX12_scheme_301 ?_
                obtain rfl := me_so h
                refine me_sub (L' := [(0, .ref (ad 63)), (2, .int (x2_1 + 1))]) [1, 0] rfl ?_
                exact hb2 ((x2_1 + 1), M22) rfl
              refine me_sub (L' := [(0, .ref (ad 63)), (2, .int x2_1), (3, .int 0)]) [1, 2, 0] rfl ?_
              refine me_l_W (b := (mX12_scheme_63_L241 x2_1)) (P := fun w => me_W p l e R s m args below meth c 0 0 (MQ below (me_Qc D cA ad n A (some (.int r)) M') args s 0 0 A) D cA ad n 5 A 241 [(0, .ref (ad 63)), (2, .int x2_1), (3, .int w.1)] [] w.2) (r := M22) ?_ me_fu (0, M17) hq3
              rintro ⟨x3_1, M18⟩ z3 h hb3 - hr3
              unfold mX12_scheme_63_L241 at h
              refine me_iload_n X (i := 3) 2 rfl dX12_scheme_241 ?_
              refine me_iconst X dX12_scheme_242 ic_3 ?_
              refine me_icmp_ge X 298 (by decide) dX12_scheme_243 (fun c11 => ?_) (fun c11 => ?_)
              · have h := me_ip c11 h
                obtain rfl := me_so h
                have q := hr3 _ rfl
                refine me_sub (L' := [(0, .ref (ad 63)), (2, .int x2_1)]) [0, 1] rfl ?_
                cases q
                exact hx3
              · have h := me_in c11 h
                refine me_iconst X dX12_scheme_246 ic_0 ?_
                refine me_istore X (i := 4) [(4, .int 0), (0, .ref (ad 63)), (2, .int x2_1), (3, .int x3_1)] (Nat.le_of_ble_eq_true rfl) rfl dX12_scheme_247 ?_
                obtain ⟨M21, hq4, h⟩ := me_bd h
                have hx2 : me_W p l e R s m args below meth c 0 0 (MQ below (me_Qc D cA ad n A (some (.int r)) M') args s 0 0 A) D cA ad n 5 A 292 [(0, .ref (ad 63)), (2, .int x2_1), (3, .int x3_1)] [] M21 := by
                  refine me_iinc X (v := (x3_1 + 1)) 2 rfl (in_1 _) [(3, .int (x3_1 + 1)), (0, .ref (ad 63)), (2, .int x2_1)] (Nat.le_of_ble_eq_true rfl) rfl dX12_scheme_292 ?_
                  refine me_goto X 241 (by decide) dX12_scheme_295 ?_
                  obtain rfl := me_so h
                  refine me_sub (L' := [(0, .ref (ad 63)), (2, .int x2_1), (3, .int (x3_1 + 1))]) [1, 2, 0] rfl ?_
                  exact hb3 ((x3_1 + 1), M21) rfl
                refine me_sub (L' := [(0, .ref (ad 63)), (2, .int x2_1), (3, .int x3_1), (4, .int 0)]) [1, 2, 3, 0] rfl ?_
                refine me_l_W (b := (mX12_scheme_63_L249 x2_1 x3_1)) (P := fun w => me_W p l e R s m args below meth c 0 0 (MQ below (me_Qc D cA ad n A (some (.int r)) M') args s 0 0 A) D cA ad n 5 A 249 [(0, .ref (ad 63)), (2, .int x2_1), (3, .int x3_1), (4, .int w.1)] [] w.2) (r := M21) ?_ me_fu (0, M18) hq4
                rintro ⟨x4_1, M19⟩ z4 h hb4 - hr4
                unfold mX12_scheme_63_L249 at h
                refine me_iload X (i := 4) 3 rfl dX12_scheme_249 ?_
                refine me_aload_n X (i := 0) 0 rfl dX12_scheme_251 ?_
                refine me_getr X 78 kF_X12_52 (Nat.le_of_ble_eq_true rfl) me_k63 me_f63_15 dX12_scheme_252 ?_
                refine me_iconst X dX12_scheme_255 ic_0 ?_
                obtain ⟨v22, e26, h⟩ := me_bd h
                refine me_iald X (Nat.le_of_ble_eq_true rfl) me_k78 e26 dX12_scheme_256 ?_
                refine me_icmp_ge X 292 (by decide) dX12_scheme_257 (fun c12 => ?_) (fun c12 => ?_)
                · have h := me_ip c12 h
                  obtain rfl := me_so h
                  have q := hr4 _ rfl
                  refine me_sub (L' := [(0, .ref (ad 63)), (2, .int x2_1), (3, .int x3_1)]) [0, 1, 2] rfl ?_
                  cases q
                  exact hx2
                · have h := me_in c12 h
                  refine me_aload_n X (i := 0) 0 rfl dX12_scheme_260 ?_
                  refine me_getr X 90 kF_X12_57 (Nat.le_of_ble_eq_true rfl) me_k63 me_f63_16 dX12_scheme_261 ?_
                  refine me_iconst X dX12_scheme_264 ic_0 ?_
                  refine me_aald X (j := 91) (Nat.le_of_ble_eq_true rfl) ⟨by decide, by decide, Nat.lt_of_lt_of_le (by decide) hnt⟩ me_k90 (by decide) dX12_scheme_265 ?_
                  refine me_iload_n X (i := 2) 1 rfl dX12_scheme_266 ?_
                  obtain ⟨a1, e27, h⟩ := me_bd h
                  have f_a1 := me_f93 e27
                  refine me_aald X (Nat.le_of_ble_eq_true rfl) ⟨by decide, by decide, Nat.lt_of_lt_of_le (by decide) hnt⟩ me_k91 e27 dX12_scheme_267 ?_
                  refine me_iload_n X (i := 3) 2 rfl dX12_scheme_268 ?_
                  obtain ⟨a2, e28, h⟩ := me_bd h
                  have f_a2 := me_fdig f_a1 e28
                  refine me_aald X f_a1.2.1 ⟨by decide, by decide, Nat.lt_of_lt_of_le (by decide) hnt⟩ f_a1.1 e28 dX12_scheme_269 ?_
                  refine me_iload X (i := 4) 3 rfl dX12_scheme_270 ?_
                  refine me_aload_n X (i := 0) 0 rfl dX12_scheme_272 ?_
                  refine me_getr X 90 kF_X12_57 (Nat.le_of_ble_eq_true rfl) me_k63 me_f63_16 dX12_scheme_273 ?_
                  refine me_iconst X dX12_scheme_276 ic_1 ?_
                  refine me_aald X (j := 92) (Nat.le_of_ble_eq_true rfl) ⟨by decide, by decide, Nat.lt_of_lt_of_le (by decide) hnt⟩ me_k90 (by decide) dX12_scheme_277 ?_
                  refine me_iload_n X (i := 2) 1 rfl dX12_scheme_278 ?_
                  obtain ⟨a3, e29, h⟩ := me_bd h
                  have f_a3 := me_f101 e29
                  refine me_aald X (Nat.le_of_ble_eq_true rfl) ⟨by decide, by decide, Nat.lt_of_lt_of_le (by decide) hnt⟩ me_k92 e29 dX12_scheme_279 ?_
                  refine me_iload_n X (i := 3) 2 rfl dX12_scheme_280 ?_
                  obtain ⟨a4, e30, h⟩ := me_bd h
                  have f_a4 := me_fdig f_a3 e30
                  refine me_aald X f_a3.2.1 ⟨by decide, by decide, Nat.lt_of_lt_of_le (by decide) hnt⟩ f_a3.1 e30 dX12_scheme_281 ?_
                  refine me_iload X (i := 4) 3 rfl dX12_scheme_282 ?_
                  obtain ⟨v23, e31, h⟩ := me_bd h
                  refine me_iald X f_a4.2 f_a4.1 e31 dX12_scheme_284 ?_
                  obtain ⟨M20, e32, h⟩ := me_bd h
                  refine me_iast X f_a2.2 f_a2.1 e32 dX12_scheme_285 ?_
                  refine me_iinc X (v := (x4_1 + 1)) 3 rfl (in_1 _) [(4, .int (x4_1 + 1)), (0, .ref (ad 63)), (2, .int x2_1), (3, .int x3_1)] (Nat.le_of_ble_eq_true rfl) rfl dX12_scheme_286 ?_
                  refine me_goto X 249 (by decide) dX12_scheme_289 ?_
                  obtain rfl := me_so h
                  refine me_sub (L' := [(0, .ref (ad 63)), (2, .int x2_1), (3, .int x3_1), (4, .int (x4_1 + 1))]) [1, 2, 3, 0] rfl ?_
                  exact hb4 ((x4_1 + 1), M20) rfl
          · have h := me_ip c9 h
            refine me_aload_n X (i := 0) 0 rfl dX12_scheme_195 ?_
            refine me_geti X kF_X12_143 (Nat.le_of_ble_eq_true rfl) me_k63 me_f63_26 dX12_scheme_196 ?_
            refine me_bipush X dX12_scheme_199 ib_10 ?_
            refine me_isub X dX12_scheme_201 ?_
            obtain ⟨rfl, rfl⟩ := me_sp h
            exact me_iret X hr hlk dX12_scheme_202
        refine me_l_W (b := mX12_scheme_63_L86) (P := fun w => me_W p l e R s m args below meth c 0 0 (MQ below (me_Qc D cA ad n A (some (.int r)) M') args s 0 0 A) D cA ad n 5 A 86 [(0, .ref (ad 63))] [] w) (r := M14) ?_ me_fu M6 hq1
        rintro M7 z1 h hb1 - hr1
        unfold mX12_scheme_63_L86 at h
        refine me_aload_n X (i := 0) 0 rfl dX12_scheme_86 ?_
        obtain ⟨v6, e7, h⟩ := me_bd h
        refine me_callVi X [] (ctX12_fine_63 hn (Nat.le_trans (by decide) hnt) e7) kV_X12_164 rfl rfl (Nat.le_of_ble_eq_true rfl) me_k63 (Nat.le_of_ble_eq_true rfl) (Nat.le_refl _) (Nat.le_of_ble_eq_true rfl) dX12_scheme_87 ?_
        refine me_if_eq X 180 (by decide) dX12_scheme_90 (fun c4 => ?_) (fun c4 => ?_)
        · have h := me_ip c4 h
          obtain rfl := me_so h
          have q := hr1 _ rfl
          cases q
          exact hx1
        · have h := me_in c4 h
          refine me_aload_n X (i := 0) 0 rfl dX12_scheme_93 ?_
          obtain ⟨v7, e8, h⟩ := me_bd h
          refine me_callVi X [] (ctX12_here_63 hn (Nat.le_trans (by decide) hnt) e8) kV_X12_149 rfl rfl (Nat.le_of_ble_eq_true rfl) me_k63 (Nat.le_of_ble_eq_true rfl) (Nat.le_refl _) (Nat.le_of_ble_eq_true rfl) dX12_scheme_94 ?_
          refine me_iconst X dX12_scheme_97 ic_m1 ?_
          refine me_icmp_eq X 180 (by decide) dX12_scheme_98 (fun c5 => ?_) (fun c5 => ?_)
          · have h := me_ip c5 h
            obtain rfl := me_so h
            have q := hr1 _ rfl
            cases q
            exact hx1
          · have h := me_in c5 h
            refine me_aload_n X (i := 0) 0 rfl dX12_scheme_101 ?_
            obtain ⟨v8, e9, h⟩ := me_bd h
            refine me_callVi X [] (ctX12_here_63 hn (Nat.le_trans (by decide) hnt) e9) kV_X12_149 rfl rfl (Nat.le_of_ble_eq_true rfl) me_k63 (Nat.le_of_ble_eq_true rfl) (Nat.le_refl _) (Nat.le_of_ble_eq_true rfl) dX12_scheme_102 ?_
            obtain ⟨v9, e10, h⟩ := me_bd h
            refine me_callSi X [.int v8] (ctX12_isDigit hn (Nat.le_trans (by decide) hnt) e10) kS_X12_153 rfl rfl (Nat.le_of_ble_eq_true rfl) (Nat.le_refl _) (Nat.le_of_ble_eq_true rfl) dX12_scheme_105 ?_
            have hj143_4 : ∀ (M10 : me_M), mX12_scheme_63_J143 M10 = some z1 → me_W p l e R s m args below meth c 0 0 (MQ below (me_Qc D cA ad n A (some (.int r)) M') args s 0 0 A) D cA ad n 5 A 143 [(0, .ref (ad 63))] [] M10 := by
              intro M10 h
              unfold mX12_scheme_63_J143 at h
              refine me_aload_n X (i := 0) 0 rfl dX12_scheme_143 ?_
              obtain ⟨v13, e14, h⟩ := me_bd h
              refine me_callVi X [] (ctX12_fine_63 hn (Nat.le_trans (by decide) hnt) e14) kV_X12_164 rfl rfl (Nat.le_of_ble_eq_true rfl) me_k63 (Nat.le_of_ble_eq_true rfl) (Nat.le_refl _) (Nat.le_of_ble_eq_true rfl) dX12_scheme_144 ?_
              refine me_if_ne X 153 (by decide) dX12_scheme_147 (fun c8 => ?_) (fun c8 => ?_)
              · have h := me_in c8 h
                refine me_aload_n X (i := 0) 0 rfl dX12_scheme_153 ?_
                refine me_aload_n X (i := 0) 0 rfl dX12_scheme_154 ?_
                refine me_getr X 77 kF_X12_49 (Nat.le_of_ble_eq_true rfl) me_k63 me_f63_14 dX12_scheme_155 ?_
                refine me_iconst X dX12_scheme_158 ic_1 ?_
                obtain ⟨v14, e15, h⟩ := me_bd h
                refine me_iald X (Nat.le_of_ble_eq_true rfl) me_k77 e15 dX12_scheme_159 ?_
                obtain ⟨M11, e16, h⟩ := me_bd h
                refine me_callVv X [.int v14] (ctX12_readsSearch_63 hn (Nat.le_trans (by decide) hnt) e16) kV_X12_179 rfl rfl (Nat.le_of_ble_eq_true rfl) me_k63 (Nat.le_of_ble_eq_true rfl) (Nat.le_refl _) (Nat.le_of_ble_eq_true rfl) dX12_scheme_160 ?_
                refine me_aload_n X (i := 0) 0 rfl dX12_scheme_163 ?_
                refine me_getr X 77 kF_X12_49 (Nat.le_of_ble_eq_true rfl) me_k63 me_f63_14 dX12_scheme_164 ?_
                refine me_iconst X dX12_scheme_167 ic_1 ?_
                refine me_dup2 X rfl rfl dX12_scheme_168 ?_
                obtain ⟨v16, e17, h⟩ := me_bd h
                refine me_iald X (Nat.le_of_ble_eq_true rfl) me_k77 e17 dX12_scheme_169 ?_
                refine me_iconst X dX12_scheme_170 ic_1 ?_
                refine me_iadd X dX12_scheme_171 ?_
                obtain ⟨M12, e18, h⟩ := me_bd h
                refine me_iast X (Nat.le_of_ble_eq_true rfl) me_k77 e18 dX12_scheme_172 ?_
                refine me_aload_n X (i := 0) 0 rfl dX12_scheme_173 ?_
                obtain ⟨M13, e19, h⟩ := me_bd h
                refine me_callVv X [] (ctX12_blanks_63 hn (Nat.le_trans (by decide) hnt) e19) kV_X12_176 rfl rfl (Nat.le_of_ble_eq_true rfl) me_k63 (Nat.le_of_ble_eq_true rfl) (Nat.le_refl _) (Nat.le_of_ble_eq_true rfl) dX12_scheme_174 ?_
                refine me_goto X 86 (by decide) dX12_scheme_177 ?_
                obtain rfl := me_so h
                exact hb1 M13 rfl
              · have h := me_ip c8 h
                refine me_goto X 180 (by decide) dX12_scheme_150 ?_
                obtain rfl := me_so h
                have q := hr1 _ rfl
                cases q
                exact hx1
            refine me_if_ne X 123 (by decide) dX12_scheme_108 (fun c6 => ?_) (fun c6 => ?_)
            · have h := me_in c6 h
              refine me_aload_n X (i := 0) 0 rfl dX12_scheme_123 ?_
              refine me_getr X 77 kF_X12_49 (Nat.le_of_ble_eq_true rfl) me_k63 me_f63_14 dX12_scheme_124 ?_
              refine me_iconst X dX12_scheme_127 ic_1 ?_
              obtain ⟨v10, e11, h⟩ := me_bd h
              refine me_iald X (Nat.le_of_ble_eq_true rfl) me_k77 e11 dX12_scheme_128 ?_
              refine me_bipush X dX12_scheme_129 ib_8 ?_
              refine me_icmp_ne X 143 (by decide) dX12_scheme_131 (fun c7 => ?_) (fun c7 => ?_)
              · have h := me_in c7 h
                exact hj143_4 M7 h
              · have h := me_ip c7 h
                refine me_aload_n X (i := 0) 0 rfl dX12_scheme_134 ?_
                refine me_iconst X dX12_scheme_135 ic_3 ?_
                refine me_aload_n X (i := 0) 0 rfl dX12_scheme_136 ?_
                refine me_geti X kF_X12_137 (Nat.le_of_ble_eq_true rfl) me_k63 me_f63_25 dX12_scheme_137 ?_
                obtain ⟨M8, e12, h⟩ := me_bd h
                refine me_callVv X [.int 3, .int (M7.1 63 25)] (ctX12_wrong_63 hn (Nat.le_trans (by decide) hnt) e12) kV_X12_160 rfl rfl (Nat.le_of_ble_eq_true rfl) me_k63 (Nat.le_of_ble_eq_true rfl) (Nat.le_refl _) (Nat.le_of_ble_eq_true rfl) dX12_scheme_140 ?_
                exact hj143_4 M8 h
            · have h := me_ip c6 h
              refine me_aload_n X (i := 0) 0 rfl dX12_scheme_111 ?_
              refine me_iconst X dX12_scheme_112 ic_1 ?_
              refine me_aload_n X (i := 0) 0 rfl dX12_scheme_113 ?_
              refine me_geti X kF_X12_137 (Nat.le_of_ble_eq_true rfl) me_k63 me_f63_25 dX12_scheme_114 ?_
              obtain ⟨M9, e13, h⟩ := me_bd h
              refine me_callVv X [.int 1, .int (M7.1 63 25)] (ctX12_wrong_63 hn (Nat.le_trans (by decide) hnt) e13) kV_X12_160 rfl rfl (Nat.le_of_ble_eq_true rfl) me_k63 (Nat.le_of_ble_eq_true rfl) (Nat.le_refl _) (Nat.le_of_ble_eq_true rfl) dX12_scheme_117 ?_
              refine me_goto X 143 (by decide) dX12_scheme_120 ?_
              exact hj143_4 M9 h
      refine me_icmp_ne X 86 (by decide) dX12_scheme_74 (fun c3 => ?_) (fun c3 => ?_)
      · have h := me_in c3 h
        refine me_sub (L' := [(0, .ref (ad 63))]) [0] rfl ?_
        exact hj86_2 M4 h
      · have h := me_ip c3 h
        refine me_aload_n X (i := 0) 0 rfl dX12_scheme_77 ?_
        refine me_iconst X dX12_scheme_78 ic_1 ?_
        refine me_aload_n X (i := 0) 0 rfl dX12_scheme_79 ?_
        refine me_geti X kF_X12_137 (Nat.le_of_ble_eq_true rfl) me_k63 me_f63_25 dX12_scheme_80 ?_
        obtain ⟨M5, e6, h⟩ := me_bd h
        refine me_callVv X [.int 1, .int (M4.1 63 25)] (ctX12_wrong_63 hn (Nat.le_trans (by decide) hnt) e6) kV_X12_160 rfl rfl (Nat.le_of_ble_eq_true rfl) me_k63 (Nat.le_of_ble_eq_true rfl) (Nat.le_refl _) (Nat.le_of_ble_eq_true rfl) dX12_scheme_83 ?_
        refine me_sub (L' := [(0, .ref (ad 63))]) [0] rfl ?_
        exact hj86_2 M5 h
    · have h := me_in c2 h
      refine me_iconst X dX12_scheme_31 ic_0 ?_
      obtain ⟨rfl, rfl⟩ := me_sp h
      exact me_iret X hr hlk dX12_scheme_32
  refine me_if_ne X 22 (by decide) dX12_scheme_15 (fun c1 => ?_) (fun c1 => ?_)
  · have h := me_in c1 h
    refine me_iconst X dX12_scheme_22 ic_0 ?_
    exact hj23_1 0 (me_s M 63 0 0) h
  · have h := me_ip c1 h
    refine me_iconst X dX12_scheme_18 ic_1 ?_
    refine me_goto X 23 (by decide) dX12_scheme_19 ?_
    exact hj23_1 1 (me_s M 63 0 0) h
