def mX12_fault_63 (M : me_M)  : Option (Int32 × me_M) :=
  some (((me_s M 63 0 0).1 63 3), (me_s M 63 0 0))
set_option maxRecDepth 100000 in
set_option maxHeartbeats 4000000 in
theorem ctX12_fault_63 {l : Launch} {n nt : Nat} (hn : 424 ≤ n) (hnt : 4 ≤ nt) {M : me_M} {r : Int32} {M' : me_M} (h : mX12_fault_63 M = some (r, M')) : me_Ct l yX12_fault cX12_fault 1 (some .int) 0 n nt (fun ad => [.ref (ad 63)]) M (fun _ => some (.int r)) M' := by
  unfold mX12_fault_63 at h
  refine me_enter (N0 := 424) RX12 rfl (plainFor_of_name pl_RX12) hn (Nat.le_trans (by decide) hnt) (fun _ => Nat.le_of_ble_eq_true rfl) ?_
  intro p e R s m args below meth c D cA ad tys A X hr hlk
  refine me_sub (L' := [(0, .ref (ad 63))]) [0] rfl ?_
  refine me_aload_n X (i := 0) 0 rfl dX12_fault_0 ?_
  refine me_iconst X dX12_fault_1 ic_0 ?_
  refine me_puti X kG_X12_105 (Nat.le_of_ble_eq_true rfl) me_k63 me_f63_0 dX12_fault_2 ?_
  refine me_aload_n X (i := 0) 0 rfl dX12_fault_5 ?_
  refine me_geti X kF_X12_13 (Nat.le_of_ble_eq_true rfl) me_k63 me_f63_3 dX12_fault_6 ?_
  obtain ⟨rfl, rfl⟩ := me_sp h
  exact me_iret X hr hlk dX12_fault_9
def mX12_step_63_J21 (p0 : Int32) (s1 : Int32) (M1 : me_M) : Option (Int32 × me_M) :=
  ((mX12_bad_63 M1 s1 1 1).bind fun (v2, M2) => (if v2 = 0 then some ((M2.1 63 6), (me_s M2 63 6 p0)) else some (0, M2)))
def mX12_step_63 (M : me_M) (p0 : Int32) : Option (Int32 × me_M) :=
  ((mX12_in p0 1 16).bind fun v1 => (if v1 = 0 then (mX12_step_63_J21 p0 1 (me_s M 63 0 0)) else (mX12_step_63_J21 p0 0 (me_s M 63 0 0))))
set_option maxRecDepth 100000 in
set_option maxHeartbeats 4000000 in
theorem ctX12_step_63 {l : Launch} {n nt : Nat} (hn : 424 ≤ n) (hnt : 4 ≤ nt) {M : me_M} {p0 : Int32} {r : Int32} {M' : me_M} (h : mX12_step_63 M p0 = some (r, M')) : me_Ct l yX12_step cX12_step 3 (some .int) 1 n nt (fun ad => [.ref (ad 63), .int p0]) M (fun _ => some (.int r)) M' := by
  unfold mX12_step_63 at h
  refine me_enter (N0 := 424) RX12 rfl (plainFor_of_name pl_RX12) hn (Nat.le_trans (by decide) hnt) (fun _ => Nat.le_of_ble_eq_true rfl) ?_
  intro p e R s m args below meth c D cA ad tys A X hr hlk
  refine me_sub (L' := [(0, .ref (ad 63)), (1, .int p0)]) [0, 1] rfl ?_
  refine me_aload_n X (i := 0) 0 rfl dX12_step_0 ?_
  refine me_iconst X dX12_step_1 ic_0 ?_
  refine me_puti X kG_X12_105 (Nat.le_of_ble_eq_true rfl) me_k63 me_f63_0 dX12_step_2 ?_
  refine me_aload_n X (i := 0) 0 rfl dX12_step_5 ?_
  refine me_iload_n X (i := 1) 1 rfl dX12_step_6 ?_
  refine me_iconst X dX12_step_7 ic_1 ?_
  refine me_bipush X dX12_step_8 ib_16 ?_
  obtain ⟨v1, e1, h⟩ := me_bd h
  refine me_callSi X [.int p0, .int 1, .int 16] (ctX12_in hn (Nat.le_trans (by decide) hnt) e1) kS_X12_108 rfl rfl (Nat.le_of_ble_eq_true rfl) (Nat.le_refl _) (Nat.le_of_ble_eq_true rfl) dX12_step_10 ?_
  have hj21_1 : ∀ (s1 : Int32) (M1 : me_M), mX12_step_63_J21 p0 s1 M1 = some (r, M') → me_W p l e R s m args below meth c 0 0 (MQ below (me_Qc D cA ad n A (some (.int r)) M') args s 0 0 A) D cA ad n 3 A 21 [(0, .ref (ad 63)), (1, .int p0)] [.int s1, .ref (ad 63)] M1 := by
    intro s1 M1 h
    unfold mX12_step_63_J21 at h
    refine me_iconst X dX12_step_21 ic_1 ?_
    refine me_iconst X dX12_step_22 ic_1 ?_
    obtain ⟨⟨v2, M2⟩, e2, h⟩ := me_bd h
    refine me_callVi X [.int s1, .int 1, .int 1] (ctX12_bad_63 hn (Nat.le_trans (by decide) hnt) e2) kV_X12_122 rfl rfl (Nat.le_of_ble_eq_true rfl) me_k63 (Nat.le_of_ble_eq_true rfl) (Nat.le_refl _) (Nat.le_of_ble_eq_true rfl) dX12_step_23 ?_
    refine me_if_eq X 31 (by decide) dX12_step_26 (fun c2 => ?_) (fun c2 => ?_)
    · have h := me_ip c2 h
      refine me_aload_n X (i := 0) 0 rfl dX12_step_31 ?_
      refine me_geti X kF_X12_23 (Nat.le_of_ble_eq_true rfl) me_k63 me_f63_6 dX12_step_32 ?_
      refine me_istore_n X (i := 2) [(2, .int (M2.1 63 6)), (0, .ref (ad 63)), (1, .int p0)] (Nat.le_of_ble_eq_true rfl) rfl dX12_step_35 ?_
      refine me_aload_n X (i := 0) 1 rfl dX12_step_36 ?_
      refine me_iload_n X (i := 1) 2 rfl dX12_step_37 ?_
      refine me_puti X kG_X12_23 (Nat.le_of_ble_eq_true rfl) me_k63 me_f63_6 dX12_step_38 ?_
      refine me_iload_n X (i := 2) 0 rfl dX12_step_41 ?_
      obtain ⟨rfl, rfl⟩ := me_sp h
      exact me_iret X hr hlk dX12_step_42
    · have h := me_in c2 h
      refine me_iconst X dX12_step_29 ic_0 ?_
      obtain ⟨rfl, rfl⟩ := me_sp h
      exact me_iret X hr hlk dX12_step_30
  refine me_if_ne X 20 (by decide) dX12_step_13 (fun c1 => ?_) (fun c1 => ?_)
  · have h := me_in c1 h
    refine me_iconst X dX12_step_20 ic_0 ?_
    exact hj21_1 0 (me_s M 63 0 0) h
  · have h := me_ip c1 h
    refine me_iconst X dX12_step_16 ic_1 ?_
    refine me_goto X 21 (by decide) dX12_step_17 ?_
    exact hj21_1 1 (me_s M 63 0 0) h
def mX12_letters_63 (M : me_M)  : Option Int32 :=
  some ((M.1 63 11) - (M.1 63 10))
set_option maxRecDepth 100000 in
set_option maxHeartbeats 4000000 in
theorem ctX12_letters_63 {l : Launch} {n nt : Nat} (hn : 424 ≤ n) (hnt : 4 ≤ nt) {M : me_M} {r : Int32} (h : mX12_letters_63 M = some r) : me_Ct l yX12_letters cX12_letters 1 (some .int) 0 n nt (fun ad => [.ref (ad 63)]) M (fun _ => some (.int r)) M := by
  unfold mX12_letters_63 at h
  refine me_enter (N0 := 424) RX12 rfl (plainFor_of_name pl_RX12) hn (Nat.le_trans (by decide) hnt) (fun _ => Nat.le_of_ble_eq_true rfl) ?_
  intro p e R s m args below meth c D cA ad tys A X hr hlk
  refine me_sub (L' := [(0, .ref (ad 63))]) [0] rfl ?_
  refine me_aload_n X (i := 0) 0 rfl dX12_letters_0 ?_
  refine me_geti X kF_X12_40 (Nat.le_of_ble_eq_true rfl) me_k63 me_f63_11 dX12_letters_1 ?_
  refine me_aload_n X (i := 0) 0 rfl dX12_letters_4 ?_
  refine me_geti X kF_X12_37 (Nat.le_of_ble_eq_true rfl) me_k63 me_f63_10 dX12_letters_5 ?_
  refine me_isub X dX12_letters_8 ?_
  obtain rfl := me_so h
  exact me_iret X hr hlk dX12_letters_9
def mX12_against_63_J81 (p0 : Int32) (p1 : Int32) (x3_1 : Int32) (s1 : Int32) (M : me_M) (s2 : Int32) : Option ((Int32) ⊕ ((Unit) ⊕ Int32)) :=
  (if s1 = s2 then some (.inl (x3_1 + 1)) else (if s2 ≤ s1 then some (.inr (.inr 1)) else some (.inr (.inr (-1)))))
def mX12_against_63_J48 (p0 : Int32) (p1 : Int32) (x3_1 : Int32) (M : me_M) (s1 : Int32) : Option ((Int32) ⊕ ((Unit) ⊕ Int32)) :=
  (if p0 = 0 then ((me_r M 75 84 ((M.1 63 10) + x3_1)).bind fun v6 => (mX12_against_63_J81 p0 p1 x3_1 s1 M v6)) else ((me_r M 75 84 (((M.1 63 11) - 1) - x3_1)).bind fun v5 => (mX12_against_63_J81 p0 p1 x3_1 s1 M v5)))
def mX12_against_63_L2 (M : me_M) (p0 : Int32) (p1 : Int32) : (Int32) → Option ((Int32) ⊕ ((Unit) ⊕ Int32))
  | x3_1 => ((mX12_letters_63 M).bind fun v1 => (if v1 ≤ x3_1 then some (.inr (.inl ())) else ((me_a 2 70 p0).bind fun a1 => ((me_r M a1 241 p1).bind fun v2 => (if (M.1 63 5) ≤ (v2 + x3_1) then (mX12_against_63_J48 p0 p1 x3_1 M 0) else ((me_a 2 67 p0).bind fun a2 => ((me_a 2 70 p0).bind fun a3 => ((me_r M a3 241 p1).bind fun v3 => ((me_r M a2 241 (v3 + x3_1)).bind fun v4 => (mX12_against_63_J48 p0 p1 x3_1 M v4))))))))))
def mX12_against_63 (M : me_M) (p0 : Int32) (p1 : Int32) : Option Int32 :=
  ((me_l (mX12_against_63_L2 M p0 p1) me_fu 0).bind fun o => Sum.elim (fun _ => some 0) (fun res => some res) o)
set_option maxRecDepth 100000 in
set_option maxHeartbeats 4000000 in
theorem ctX12_against_63 {l : Launch} {n nt : Nat} (hn : 424 ≤ n) (hnt : 4 ≤ nt) {M : me_M} {p0 : Int32} {p1 : Int32} {r : Int32} (h : mX12_against_63 M p0 p1 = some r) : me_Ct l yX12_against cX12_against 6 (some .int) 1 n nt (fun ad => [.ref (ad 63), .int p0, .int p1]) M (fun _ => some (.int r)) M := by
  unfold mX12_against_63 at h
  refine me_enter (N0 := 424) RX12 rfl (plainFor_of_name pl_RX12) hn (Nat.le_trans (by decide) hnt) (fun _ => Nat.le_of_ble_eq_true rfl) ?_
  intro p e R s m args below meth c D cA ad tys A X hr hlk
  refine me_sub (L' := [(0, .ref (ad 63)), (1, .int p0), (2, .int p1)]) [0, 1, 2] rfl ?_
  refine me_iconst X dX12_against_0 ic_0 ?_
  refine me_istore_n X (i := 3) [(3, .int 0), (0, .ref (ad 63)), (1, .int p0), (2, .int p1)] (Nat.le_of_ble_eq_true rfl) rfl dX12_against_1 ?_
  obtain ⟨o0, hq1l, hq1⟩ := me_bd h
  have hx1 : o0 = .inl () → me_W p l e R s m args below meth c 0 0 (MQ below (me_Qc D cA ad n A (some (.int r)) M) args s 0 0 A) D cA ad n 6 A 109 [] [] M := by
    intro q
    subst q
    have h := me_el hq1
    refine me_iconst X dX12_against_109 ic_0 ?_
    obtain rfl := me_so h
    exact me_iret X hr hlk dX12_against_110
  refine me_sub (L' := [(0, .ref (ad 63)), (1, .int p0), (2, .int p1), (3, .int 0)]) [1, 2, 3, 0] rfl ?_
  refine me_l_W (b := (mX12_against_63_L2 M p0 p1)) (P := fun w => me_W p l e R s m args below meth c 0 0 (MQ below (me_Qc D cA ad n A (some (.int r)) M) args s 0 0 A) D cA ad n 6 A 2 [(0, .ref (ad 63)), (1, .int p0), (2, .int p1), (3, .int w)] [] M) (r := o0) ?_ me_fu 0 hq1l
  rintro x3_1 z1 h hb1 - hr1
  unfold mX12_against_63_L2 at h
  refine me_iload_n X (i := 3) 3 rfl dX12_against_2 ?_
  refine me_aload_n X (i := 0) 0 rfl dX12_against_3 ?_
  obtain ⟨v1, e1, h⟩ := me_bd h
  refine me_callVi X [] (ctX12_letters_63 hn (Nat.le_trans (by decide) hnt) e1) kV_X12_183 rfl rfl (Nat.le_of_ble_eq_true rfl) me_k63 (Nat.le_of_ble_eq_true rfl) (Nat.le_refl _) (Nat.le_of_ble_eq_true rfl) dX12_against_4 ?_
  refine me_icmp_ge X 109 (by decide) dX12_against_7 (fun c1 => ?_) (fun c1 => ?_)
  · have h := me_ip c1 h
    obtain rfl := me_so h
    have q := hr1 _ rfl
    refine me_sub (L' := []) [] rfl ?_
    subst q
    exact hx1 rfl
  · have h := me_in c1 h
    refine me_aload_n X (i := 0) 0 rfl dX12_against_10 ?_
    refine me_getr X 69 kF_X12_31 (Nat.le_of_ble_eq_true rfl) me_k63 me_f63_8 dX12_against_11 ?_
    refine me_iload_n X (i := 1) 1 rfl dX12_against_14 ?_
    obtain ⟨a1, e2, h⟩ := me_bd h
    have f_a1 := me_f70 e2
    refine me_aald X (Nat.le_of_ble_eq_true rfl) ⟨by decide, by decide, Nat.lt_of_lt_of_le (by decide) hnt⟩ me_k69 e2 dX12_against_15 ?_
    refine me_iload_n X (i := 2) 2 rfl dX12_against_16 ?_
    obtain ⟨v2, e3, h⟩ := me_bd h
    refine me_iald X f_a1.2 f_a1.1 e3 dX12_against_17 ?_
    refine me_iload_n X (i := 3) 3 rfl dX12_against_18 ?_
    refine me_iadd X dX12_against_19 ?_
    refine me_aload_n X (i := 0) 0 rfl dX12_against_20 ?_
    refine me_geti X kF_X12_20 (Nat.le_of_ble_eq_true rfl) me_k63 me_f63_5 dX12_against_21 ?_
    have hj48_1 : ∀ (s1 : Int32), mX12_against_63_J48 p0 p1 x3_1 M s1 = some z1 → me_W p l e R s m args below meth c 0 0 (MQ below (me_Qc D cA ad n A (some (.int r)) M) args s 0 0 A) D cA ad n 6 A 48 [(0, .ref (ad 63)), (1, .int p0), (2, .int p1), (3, .int x3_1)] [.int s1] M := by
      intro s1 h
      unfold mX12_against_63_J48 at h
      refine me_istore X (i := 4) [(4, .int s1), (0, .ref (ad 63)), (1, .int p0), (2, .int p1), (3, .int x3_1)] (Nat.le_of_ble_eq_true rfl) rfl dX12_against_48 ?_
      refine me_iload_n X (i := 1) 2 rfl dX12_against_50 ?_
      have hj81_2 : ∀ (s2 : Int32), mX12_against_63_J81 p0 p1 x3_1 s1 M s2 = some z1 → me_W p l e R s m args below meth c 0 0 (MQ below (me_Qc D cA ad n A (some (.int r)) M) args s 0 0 A) D cA ad n 6 A 81 [(0, .ref (ad 63)), (1, .int p0), (2, .int p1), (3, .int x3_1), (4, .int s1)] [.int s2] M := by
        intro s2 h
        unfold mX12_against_63_J81 at h
        refine me_istore X (i := 5) [(5, .int s2), (0, .ref (ad 63)), (1, .int p0), (2, .int p1), (3, .int x3_1), (4, .int s1)] (Nat.le_of_ble_eq_true rfl) rfl dX12_against_81 ?_
        refine me_iload X (i := 4) 5 rfl dX12_against_83 ?_
        refine me_iload X (i := 5) 0 rfl dX12_against_85 ?_
        refine me_icmp_eq X 103 (by decide) dX12_against_87 (fun c4 => ?_) (fun c4 => ?_)
        · have h := me_ip c4 h
          refine me_iinc X (v := (x3_1 + 1)) 4 rfl (in_1 _) [(3, .int (x3_1 + 1)), (5, .int s2), (0, .ref (ad 63)), (1, .int p0), (2, .int p1), (4, .int s1)] (Nat.le_of_ble_eq_true rfl) rfl dX12_against_103 ?_
          refine me_goto X 2 (by decide) dX12_against_106 ?_
          obtain rfl := me_so h
          refine me_sub (L' := [(0, .ref (ad 63)), (1, .int p0), (2, .int p1), (3, .int (x3_1 + 1))]) [2, 3, 4, 0] rfl ?_
          exact hb1 (x3_1 + 1) rfl
        · have h := me_in c4 h
          refine me_iload X (i := 4) 5 rfl dX12_against_90 ?_
          refine me_iload X (i := 5) 0 rfl dX12_against_92 ?_
          refine me_icmp_ge X 101 (by decide) dX12_against_94 (fun c5 => ?_) (fun c5 => ?_)
          · have h := me_ip c5 h
            refine me_iconst X dX12_against_101 ic_1 ?_
            obtain rfl := me_so h
            have q := hr1 _ rfl
            subst q
            have h : some 1 = some r := hq1
            obtain rfl := me_so h
            exact me_iret X hr hlk dX12_against_102
          · have h := me_in c5 h
            refine me_iconst X dX12_against_97 ic_m1 ?_
            refine me_goto X 102 (by decide) dX12_against_98 ?_
            obtain rfl := me_so h
            have q := hr1 _ rfl
            subst q
            have h : some (-1) = some r := hq1
            obtain rfl := me_so h
            exact me_iret X hr hlk dX12_against_102
      refine me_if_ne X 68 (by decide) dX12_against_51 (fun c3 => ?_) (fun c3 => ?_)
      · have h := me_in c3 h
        refine me_aload_n X (i := 0) 1 rfl dX12_against_68 ?_
        refine me_getr X 75 kF_X12_43 (Nat.le_of_ble_eq_true rfl) me_k63 me_f63_12 dX12_against_69 ?_
        refine me_aload_n X (i := 0) 1 rfl dX12_against_72 ?_
        refine me_geti X kF_X12_40 (Nat.le_of_ble_eq_true rfl) me_k63 me_f63_11 dX12_against_73 ?_
        refine me_iconst X dX12_against_76 ic_1 ?_
        refine me_isub X dX12_against_77 ?_
        refine me_iload_n X (i := 3) 4 rfl dX12_against_78 ?_
        refine me_isub X dX12_against_79 ?_
        obtain ⟨v5, e8, h⟩ := me_bd h
        refine me_iald X (Nat.le_of_ble_eq_true rfl) me_k75 e8 dX12_against_80 ?_
        refine me_sub (L' := [(0, .ref (ad 63)), (1, .int p0), (2, .int p1), (3, .int x3_1), (4, .int s1)]) [1, 2, 3, 4, 0] rfl ?_
        exact hj81_2 v5 h
      · have h := me_ip c3 h
        refine me_aload_n X (i := 0) 1 rfl dX12_against_54 ?_
        refine me_getr X 75 kF_X12_43 (Nat.le_of_ble_eq_true rfl) me_k63 me_f63_12 dX12_against_55 ?_
        refine me_aload_n X (i := 0) 1 rfl dX12_against_58 ?_
        refine me_geti X kF_X12_37 (Nat.le_of_ble_eq_true rfl) me_k63 me_f63_10 dX12_against_59 ?_
        refine me_iload_n X (i := 3) 4 rfl dX12_against_62 ?_
        refine me_iadd X dX12_against_63 ?_
        obtain ⟨v6, e9, h⟩ := me_bd h
        refine me_iald X (Nat.le_of_ble_eq_true rfl) me_k75 e9 dX12_against_64 ?_
        refine me_goto X 81 (by decide) dX12_against_65 ?_
        refine me_sub (L' := [(0, .ref (ad 63)), (1, .int p0), (2, .int p1), (3, .int x3_1), (4, .int s1)]) [1, 2, 3, 4, 0] rfl ?_
        exact hj81_2 v6 h
    refine me_icmp_ge X 47 (by decide) dX12_against_24 (fun c2 => ?_) (fun c2 => ?_)
    · have h := me_ip c2 h
      refine me_iconst X dX12_against_47 ic_0 ?_
      exact hj48_1 0 h
    · have h := me_in c2 h
      refine me_aload_n X (i := 0) 0 rfl dX12_against_27 ?_
      refine me_getr X 66 kF_X12_28 (Nat.le_of_ble_eq_true rfl) me_k63 me_f63_7 dX12_against_28 ?_
      refine me_iload_n X (i := 1) 1 rfl dX12_against_31 ?_
      obtain ⟨a2, e4, h⟩ := me_bd h
      have f_a2 := me_f67 e4
      refine me_aald X (Nat.le_of_ble_eq_true rfl) ⟨by decide, by decide, Nat.lt_of_lt_of_le (by decide) hnt⟩ me_k66 e4 dX12_against_32 ?_
      refine me_aload_n X (i := 0) 0 rfl dX12_against_33 ?_
      refine me_getr X 69 kF_X12_31 (Nat.le_of_ble_eq_true rfl) me_k63 me_f63_8 dX12_against_34 ?_
      refine me_iload_n X (i := 1) 1 rfl dX12_against_37 ?_
      obtain ⟨a3, e5, h⟩ := me_bd h
      have f_a3 := me_f70 e5
      refine me_aald X (Nat.le_of_ble_eq_true rfl) ⟨by decide, by decide, Nat.lt_of_lt_of_le (by decide) hnt⟩ me_k69 e5 dX12_against_38 ?_
      refine me_iload_n X (i := 2) 2 rfl dX12_against_39 ?_
      obtain ⟨v3, e6, h⟩ := me_bd h
      refine me_iald X f_a3.2 f_a3.1 e6 dX12_against_40 ?_
      refine me_iload_n X (i := 3) 3 rfl dX12_against_41 ?_
      refine me_iadd X dX12_against_42 ?_
      obtain ⟨v4, e7, h⟩ := me_bd h
      refine me_iald X f_a2.2 f_a2.1 e7 dX12_against_43 ?_
      refine me_goto X 48 (by decide) dX12_against_44 ?_
      exact hj48_1 v4 h
def mX12_lowOf_63_L2 (M : me_M) (p0 : Int32) : (Int32) → Option ((Int32) ⊕ (Int32))
  | x2_1 => (if (M.1 63 5) < x2_1 then some (.inr x2_1) else ((mX12_against_63 M p0 x2_1).bind fun v1 => (if 0 ≤ v1 then some (.inr x2_1) else some (.inl (x2_1 + 1)))))
def mX12_lowOf_63 (M : me_M) (p0 : Int32) : Option Int32 :=
  ((me_l (mX12_lowOf_63_L2 M p0) me_fu 0).bind fun y2_1 => some y2_1)
set_option maxRecDepth 100000 in
set_option maxHeartbeats 4000000 in
theorem ctX12_lowOf_63 {l : Launch} {n nt : Nat} (hn : 424 ≤ n) (hnt : 4 ≤ nt) {M : me_M} {p0 : Int32} {r : Int32} (h : mX12_lowOf_63 M p0 = some r) : me_Ct l yX12_lowOf cX12_lowOf 3 (some .int) 2 n nt (fun ad => [.ref (ad 63), .int p0]) M (fun _ => some (.int r)) M := by
  unfold mX12_lowOf_63 at h
  refine me_enter (N0 := 424) RX12 rfl (plainFor_of_name pl_RX12) hn (Nat.le_trans (by decide) hnt) (fun _ => Nat.le_of_ble_eq_true rfl) ?_
  intro p e R s m args below meth c D cA ad tys A X hr hlk
  refine me_sub (L' := [(0, .ref (ad 63)), (1, .int p0)]) [0, 1] rfl ?_
  refine me_iconst X dX12_lowOf_0 ic_0 ?_
  refine me_istore_n X (i := 2) [(2, .int 0), (0, .ref (ad 63)), (1, .int p0)] (Nat.le_of_ble_eq_true rfl) rfl dX12_lowOf_1 ?_
  obtain ⟨y2_1, hq1, h⟩ := me_bd h
  have hx1 : me_W p l e R s m args below meth c 0 0 (MQ below (me_Qc D cA ad n A (some (.int r)) M) args s 0 0 A) D cA ad n 3 A 25 [(2, .int y2_1)] [] M := by
    refine me_iload_n X (i := 2) 0 rfl dX12_lowOf_25 ?_
    obtain rfl := me_so h
    exact me_iret X hr hlk dX12_lowOf_26
  refine me_sub (L' := [(0, .ref (ad 63)), (1, .int p0), (2, .int 0)]) [1, 2, 0] rfl ?_
  refine me_l_W (b := (mX12_lowOf_63_L2 M p0)) (P := fun w => me_W p l e R s m args below meth c 0 0 (MQ below (me_Qc D cA ad n A (some (.int r)) M) args s 0 0 A) D cA ad n 3 A 2 [(0, .ref (ad 63)), (1, .int p0), (2, .int w)] [] M) (r := y2_1) ?_ me_fu 0 hq1
  rintro x2_1 z1 h hb1 - hr1
  unfold mX12_lowOf_63_L2 at h
  refine me_iload_n X (i := 2) 2 rfl dX12_lowOf_2 ?_
  refine me_aload_n X (i := 0) 0 rfl dX12_lowOf_3 ?_
  refine me_geti X kF_X12_20 (Nat.le_of_ble_eq_true rfl) me_k63 me_f63_5 dX12_lowOf_4 ?_
  refine me_icmp_gt X 25 (by decide) dX12_lowOf_7 (fun c1 => ?_) (fun c1 => ?_)
  · have h := me_ip c1 h
    obtain rfl := me_so h
    have q := hr1 _ rfl
    refine me_sub (L' := [(2, .int x2_1)]) [2] rfl ?_
    cases q
    exact hx1
  · have h := me_in c1 h
    refine me_aload_n X (i := 0) 0 rfl dX12_lowOf_10 ?_
    refine me_iload_n X (i := 1) 1 rfl dX12_lowOf_11 ?_
    refine me_iload_n X (i := 2) 2 rfl dX12_lowOf_12 ?_
    obtain ⟨v1, e1, h⟩ := me_bd h
    refine me_callVi X [.int p0, .int x2_1] (ctX12_against_63 hn (Nat.le_trans (by decide) hnt) e1) kV_X12_186 rfl rfl (Nat.le_of_ble_eq_true rfl) me_k63 (Nat.le_of_ble_eq_true rfl) (Nat.le_refl _) (Nat.le_of_ble_eq_true rfl) dX12_lowOf_13 ?_
    refine me_if_ge X 25 (by decide) dX12_lowOf_16 (fun c2 => ?_) (fun c2 => ?_)
    · have h := me_ip c2 h
      obtain rfl := me_so h
      have q := hr1 _ rfl
      refine me_sub (L' := [(2, .int x2_1)]) [2] rfl ?_
      cases q
      exact hx1
    · have h := me_in c2 h
      refine me_iinc X (v := (x2_1 + 1)) 2 rfl (in_1 _) [(2, .int (x2_1 + 1)), (0, .ref (ad 63)), (1, .int p0)] (Nat.le_of_ble_eq_true rfl) rfl dX12_lowOf_19 ?_
      refine me_goto X 2 (by decide) dX12_lowOf_22 ?_
      obtain rfl := me_so h
      refine me_sub (L' := [(0, .ref (ad 63)), (1, .int p0), (2, .int (x2_1 + 1))]) [1, 2, 0] rfl ?_
      exact hb1 (x2_1 + 1) rfl
def mX12_sizeOf_63_J27 (x2_1 : Int32) (x1_1 : Int32) (M : me_M) (s1 : Int32) : Option ((Int32 × Int32) ⊕ (Int32)) :=
  some (.inl ((x1_1 + s1), (x2_1 + 1)))
def mX12_sizeOf_63_L4 (M : me_M) : (Int32 × Int32) → Option ((Int32 × Int32) ⊕ (Int32))
  | (x1_1, x2_1) => (if (M.1 63 5) < x2_1 then some (.inr x1_1) else ((mX12_against_63 M 0 x2_1).bind fun v1 => (if v1 = 0 then (mX12_sizeOf_63_J27 x2_1 x1_1 M 1) else (mX12_sizeOf_63_J27 x2_1 x1_1 M 0))))
def mX12_sizeOf_63 (M : me_M)  : Option Int32 :=
  ((me_l (mX12_sizeOf_63_L4 M) me_fu (0, 0)).bind fun y1_1 => some y1_1)
set_option maxRecDepth 100000 in
set_option maxHeartbeats 4000000 in
theorem ctX12_sizeOf_63 {l : Launch} {n nt : Nat} (hn : 424 ≤ n) (hnt : 4 ≤ nt) {M : me_M} {r : Int32} (h : mX12_sizeOf_63 M = some r) : me_Ct l yX12_sizeOf cX12_sizeOf 3 (some .int) 2 n nt (fun ad => [.ref (ad 63)]) M (fun _ => some (.int r)) M := by
  unfold mX12_sizeOf_63 at h
  refine me_enter (N0 := 424) RX12 rfl (plainFor_of_name pl_RX12) hn (Nat.le_trans (by decide) hnt) (fun _ => Nat.le_of_ble_eq_true rfl) ?_
  intro p e R s m args below meth c D cA ad tys A X hr hlk
  refine me_sub (L' := [(0, .ref (ad 63))]) [0] rfl ?_
  refine me_iconst X dX12_sizeOf_0 ic_0 ?_
  refine me_istore_n X (i := 1) [(1, .int 0), (0, .ref (ad 63))] (Nat.le_of_ble_eq_true rfl) rfl dX12_sizeOf_1 ?_
  refine me_iconst X dX12_sizeOf_2 ic_0 ?_
  refine me_istore_n X (i := 2) [(2, .int 0), (1, .int 0), (0, .ref (ad 63))] (Nat.le_of_ble_eq_true rfl) rfl dX12_sizeOf_3 ?_
  obtain ⟨y1_1, hq1, h⟩ := me_bd h
  have hx1 : me_W p l e R s m args below meth c 0 0 (MQ below (me_Qc D cA ad n A (some (.int r)) M) args s 0 0 A) D cA ad n 3 A 35 [(1, .int y1_1)] [] M := by
    refine me_iload_n X (i := 1) 0 rfl dX12_sizeOf_35 ?_
    obtain rfl := me_so h
    exact me_iret X hr hlk dX12_sizeOf_36
  refine me_sub (L' := [(0, .ref (ad 63)), (1, .int 0), (2, .int 0)]) [2, 1, 0] rfl ?_
  refine me_l_W (b := (mX12_sizeOf_63_L4 M)) (P := fun w => me_W p l e R s m args below meth c 0 0 (MQ below (me_Qc D cA ad n A (some (.int r)) M) args s 0 0 A) D cA ad n 3 A 4 [(0, .ref (ad 63)), (1, .int w.1), (2, .int w.2)] [] M) (r := y1_1) ?_ me_fu (0, 0) hq1
  rintro ⟨x1_1, x2_1⟩ z1 h hb1 - hr1
  unfold mX12_sizeOf_63_L4 at h
  refine me_iload_n X (i := 2) 2 rfl dX12_sizeOf_4 ?_
  refine me_aload_n X (i := 0) 0 rfl dX12_sizeOf_5 ?_
  refine me_geti X kF_X12_20 (Nat.le_of_ble_eq_true rfl) me_k63 me_f63_5 dX12_sizeOf_6 ?_
  refine me_icmp_gt X 35 (by decide) dX12_sizeOf_9 (fun c1 => ?_) (fun c1 => ?_)
  · have h := me_ip c1 h
    obtain rfl := me_so h
    have q := hr1 _ rfl
    refine me_sub (L' := [(1, .int x1_1)]) [1] rfl ?_
    cases q
    exact hx1
  · have h := me_in c1 h
    refine me_iload_n X (i := 1) 1 rfl dX12_sizeOf_12 ?_
    refine me_aload_n X (i := 0) 0 rfl dX12_sizeOf_13 ?_
    refine me_iconst X dX12_sizeOf_14 ic_0 ?_
    refine me_iload_n X (i := 2) 2 rfl dX12_sizeOf_15 ?_
    obtain ⟨v1, e1, h⟩ := me_bd h
    refine me_callVi X [.int 0, .int x2_1] (ctX12_against_63 hn (Nat.le_trans (by decide) hnt) e1) kV_X12_186 rfl rfl (Nat.le_of_ble_eq_true rfl) me_k63 (Nat.le_of_ble_eq_true rfl) (Nat.le_refl _) (Nat.le_of_ble_eq_true rfl) dX12_sizeOf_16 ?_
    have hj27_1 : ∀ (s1 : Int32), mX12_sizeOf_63_J27 x2_1 x1_1 M s1 = some z1 → me_W p l e R s m args below meth c 0 0 (MQ below (me_Qc D cA ad n A (some (.int r)) M) args s 0 0 A) D cA ad n 3 A 27 [(0, .ref (ad 63)), (2, .int x2_1)] [.int s1, .int x1_1] M := by
      intro s1 h
      unfold mX12_sizeOf_63_J27 at h
      refine me_iadd X dX12_sizeOf_27 ?_
      refine me_istore_n X (i := 1) [(1, .int (x1_1 + s1)), (0, .ref (ad 63)), (2, .int x2_1)] (Nat.le_of_ble_eq_true rfl) rfl dX12_sizeOf_28 ?_
      refine me_iinc X (v := (x2_1 + 1)) 2 rfl (in_1 _) [(2, .int (x2_1 + 1)), (1, .int (x1_1 + s1)), (0, .ref (ad 63))] (Nat.le_of_ble_eq_true rfl) rfl dX12_sizeOf_29 ?_
      refine me_goto X 4 (by decide) dX12_sizeOf_32 ?_
      obtain rfl := me_so h
      refine me_sub (L' := [(0, .ref (ad 63)), (1, .int (x1_1 + s1)), (2, .int (x2_1 + 1))]) [2, 1, 0] rfl ?_
      exact hb1 ((x1_1 + s1), (x2_1 + 1)) rfl
    refine me_if_ne X 26 (by decide) dX12_sizeOf_19 (fun c2 => ?_) (fun c2 => ?_)
    · have h := me_in c2 h
      refine me_iconst X dX12_sizeOf_26 ic_0 ?_
      refine me_sub (L' := [(0, .ref (ad 63)), (2, .int x2_1)]) [0, 2] rfl ?_
      exact hj27_1 0 h
    · have h := me_ip c2 h
      refine me_iconst X dX12_sizeOf_22 ic_1 ?_
      refine me_goto X 27 (by decide) dX12_sizeOf_23 ?_
      refine me_sub (L' := [(0, .ref (ad 63)), (2, .int x2_1)]) [0, 2] rfl ?_
      exact hj27_1 1 h
def mX12_sizeBy_63_J47 (M3 : me_M) : Option (Int32 × me_M) :=
  ((mX12_sizeOf_63 M3).bind fun v1 => some (v1, M3))
def mX12_sizeBy_63 (M : me_M) (p0 : Int32) (p1 : Int32) : Option (Int32 × me_M) :=
  (if p1 = 0 then ((me_t (me_s M 63 10 ((M.1 63 10) - 1)) 75 84 ((me_s M 63 10 ((M.1 63 10) - 1)).1 63 10) p0).bind fun M2 => (mX12_sizeBy_63_J47 M2)) else ((me_t M 75 84 (M.1 63 11) p0).bind fun M1 => (mX12_sizeBy_63_J47 (me_s M1 63 11 ((M1.1 63 11) + 1)))))
set_option maxRecDepth 100000 in
set_option maxHeartbeats 4000000 in
theorem ctX12_sizeBy_63 {l : Launch} {n nt : Nat} (hn : 424 ≤ n) (hnt : 4 ≤ nt) {M : me_M} {p0 : Int32} {p1 : Int32} {r : Int32} {M' : me_M} (h : mX12_sizeBy_63 M p0 p1 = some (r, M')) : me_Ct l yX12_sizeBy cX12_sizeBy 3 (some .int) 3 n nt (fun ad => [.ref (ad 63), .int p0, .int p1]) M (fun _ => some (.int r)) M' := by
  unfold mX12_sizeBy_63 at h
  refine me_enter (N0 := 424) RX12 rfl (plainFor_of_name pl_RX12) hn (Nat.le_trans (by decide) hnt) (fun _ => Nat.le_of_ble_eq_true rfl) ?_
  intro p e R s m args below meth c D cA ad tys A X hr hlk
  refine me_sub (L' := [(0, .ref (ad 63)), (1, .int p0), (2, .int p1)]) [0, 1, 2] rfl ?_
  refine me_iload_n X (i := 2) 2 rfl dX12_sizeBy_0 ?_
  have hj47_1 : ∀ (M3 : me_M), mX12_sizeBy_63_J47 M3 = some (r, M') → me_W p l e R s m args below meth c 0 0 (MQ below (me_Qc D cA ad n A (some (.int r)) M') args s 0 0 A) D cA ad n 3 A 47 [(0, .ref (ad 63))] [] M3 := by
    intro M3 h
    unfold mX12_sizeBy_63_J47 at h
    refine me_aload_n X (i := 0) 0 rfl dX12_sizeBy_47 ?_
    obtain ⟨v1, e3, h⟩ := me_bd h
    refine me_callVi X [] (ctX12_sizeOf_63 hn (Nat.le_trans (by decide) hnt) e3) kV_X12_190 rfl rfl (Nat.le_of_ble_eq_true rfl) me_k63 (Nat.le_of_ble_eq_true rfl) (Nat.le_refl _) (Nat.le_of_ble_eq_true rfl) dX12_sizeBy_48 ?_
    obtain ⟨rfl, rfl⟩ := me_sp h
    exact me_iret X hr hlk dX12_sizeBy_51
  refine me_if_ne X 27 (by decide) dX12_sizeBy_1 (fun c1 => ?_) (fun c1 => ?_)
  · have h := me_in c1 h
    refine me_aload_n X (i := 0) 0 rfl dX12_sizeBy_27 ?_
    refine me_getr X 75 kF_X12_43 (Nat.le_of_ble_eq_true rfl) me_k63 me_f63_12 dX12_sizeBy_28 ?_
    refine me_aload_n X (i := 0) 0 rfl dX12_sizeBy_31 ?_
    refine me_geti X kF_X12_40 (Nat.le_of_ble_eq_true rfl) me_k63 me_f63_11 dX12_sizeBy_32 ?_
    refine me_iload_n X (i := 1) 1 rfl dX12_sizeBy_35 ?_
    obtain ⟨M1, e1, h⟩ := me_bd h
    refine me_iast X (Nat.le_of_ble_eq_true rfl) me_k75 e1 dX12_sizeBy_36 ?_
    refine me_aload_n X (i := 0) 0 rfl dX12_sizeBy_37 ?_
    refine me_dup X rfl dX12_sizeBy_38 ?_
    refine me_geti X kF_X12_40 (Nat.le_of_ble_eq_true rfl) me_k63 me_f63_11 dX12_sizeBy_39 ?_
    refine me_iconst X dX12_sizeBy_42 ic_1 ?_
    refine me_iadd X dX12_sizeBy_43 ?_
    refine me_puti X kG_X12_40 (Nat.le_of_ble_eq_true rfl) me_k63 me_f63_11 dX12_sizeBy_44 ?_
    refine me_sub (L' := [(0, .ref (ad 63))]) [0] rfl ?_
    exact hj47_1 (me_s M1 63 11 ((M1.1 63 11) + 1)) h
  · have h := me_ip c1 h
    refine me_aload_n X (i := 0) 0 rfl dX12_sizeBy_4 ?_
    refine me_dup X rfl dX12_sizeBy_5 ?_
    refine me_geti X kF_X12_37 (Nat.le_of_ble_eq_true rfl) me_k63 me_f63_10 dX12_sizeBy_6 ?_
    refine me_iconst X dX12_sizeBy_9 ic_1 ?_
    refine me_isub X dX12_sizeBy_10 ?_
    refine me_puti X kG_X12_37 (Nat.le_of_ble_eq_true rfl) me_k63 me_f63_10 dX12_sizeBy_11 ?_
    refine me_aload_n X (i := 0) 0 rfl dX12_sizeBy_14 ?_
    refine me_getr X 75 kF_X12_43 (Nat.le_of_ble_eq_true rfl) me_k63 me_f63_12 dX12_sizeBy_15 ?_
    refine me_aload_n X (i := 0) 0 rfl dX12_sizeBy_18 ?_
    refine me_geti X kF_X12_37 (Nat.le_of_ble_eq_true rfl) me_k63 me_f63_10 dX12_sizeBy_19 ?_
    refine me_iload_n X (i := 1) 1 rfl dX12_sizeBy_22 ?_
    obtain ⟨M2, e2, h⟩ := me_bd h
    refine me_iast X (Nat.le_of_ble_eq_true rfl) me_k75 e2 dX12_sizeBy_23 ?_
    refine me_goto X 47 (by decide) dX12_sizeBy_24 ?_
    refine me_sub (L' := [(0, .ref (ad 63))]) [0] rfl ?_
    exact hj47_1 M2 h
def mX12_takesOff_63 (M : me_M) (p0 : Int32) : Option me_M :=
  (if p0 = 0 then some (me_s M 63 10 ((M.1 63 10) + 1)) else some (me_s M 63 11 ((M.1 63 11) - 1)))
set_option maxRecDepth 100000 in
set_option maxHeartbeats 4000000 in
theorem ctX12_takesOff_63 {l : Launch} {n nt : Nat} (hn : 424 ≤ n) (hnt : 4 ≤ nt) {M : me_M} {p0 : Int32} {M' : me_M} (h : mX12_takesOff_63 M p0 = some M') : me_Ct l yX12_takesOff cX12_takesOff 2 none 0 n nt (fun ad => [.ref (ad 63), .int p0]) M (fun _ => none) M' := by
  unfold mX12_takesOff_63 at h
  refine me_enter (N0 := 424) RX12 rfl (plainFor_of_name pl_RX12) hn (Nat.le_trans (by decide) hnt) (fun _ => Nat.le_of_ble_eq_true rfl) ?_
  intro p e R s m args below meth c D cA ad tys A X hr hlk
  refine me_sub (L' := [(0, .ref (ad 63)), (1, .int p0)]) [0, 1] rfl ?_
  refine me_iload_n X (i := 1) 1 rfl dX12_takesOff_0 ?_
  refine me_if_ne X 17 (by decide) dX12_takesOff_1 (fun c1 => ?_) (fun c1 => ?_)
  · have h := me_in c1 h
    refine me_aload_n X (i := 0) 0 rfl dX12_takesOff_17 ?_
    refine me_dup X rfl dX12_takesOff_18 ?_
    refine me_geti X kF_X12_40 (Nat.le_of_ble_eq_true rfl) me_k63 me_f63_11 dX12_takesOff_19 ?_
    refine me_iconst X dX12_takesOff_22 ic_1 ?_
    refine me_isub X dX12_takesOff_23 ?_
    refine me_puti X kG_X12_40 (Nat.le_of_ble_eq_true rfl) me_k63 me_f63_11 dX12_takesOff_24 ?_
    obtain rfl := me_so h
    exact me_vret X hr hlk dX12_takesOff_27
  · have h := me_ip c1 h
    refine me_aload_n X (i := 0) 0 rfl dX12_takesOff_4 ?_
    refine me_dup X rfl dX12_takesOff_5 ?_
    refine me_geti X kF_X12_37 (Nat.le_of_ble_eq_true rfl) me_k63 me_f63_10 dX12_takesOff_6 ?_
    refine me_iconst X dX12_takesOff_9 ic_1 ?_
    refine me_iadd X dX12_takesOff_10 ?_
    refine me_puti X kG_X12_37 (Nat.le_of_ble_eq_true rfl) me_k63 me_f63_10 dX12_takesOff_11 ?_
    refine me_goto X 27 (by decide) dX12_takesOff_14 ?_
    obtain rfl := me_so h
    exact me_vret X hr hlk dX12_takesOff_27
def mX12_grow_63_J50 (p0 : Int32) (p1 : Int32) (M3 : me_M) (s2 : Int32) : Option (Int32 × me_M) :=
  ((mX12_bad_63 M3 s2 2 2).bind fun (v5, M4) => (if v5 = 0 then ((mX12_sizeBy_63 M4 ((p0 - 97) + 2) p1).bind fun (v6, M5) => (if v6 = 0 then ((mX12_takesOff_63 M5 p1).bind fun M7 => some (v6, M7)) else ((mX12_letters_63 M5).bind fun v7 => ((me_t M5 76 40 (v7 - 1) p1).bind fun M6 => some (v6, M6))))) else some (0, M4)))
def mX12_grow_63_J27 (p0 : Int32) (p1 : Int32) (s1 : Int32) (M2 : me_M) : Option (Int32 × me_M) :=
  ((mX12_bad_63 M2 s1 1 1).bind fun (v3, M3) => (if v3 = 0 then ((mX12_letters_63 M3).bind fun v4 => (if v4 = 40 then (mX12_grow_63_J50 p0 p1 M3 1) else (mX12_grow_63_J50 p0 p1 M3 0))) else some (0, M3)))
def mX12_grow_63_J22 (p0 : Int32) (p1 : Int32) (M1 : me_M) : Option (Int32 × me_M) :=
  (mX12_grow_63_J27 p0 p1 1 M1)
def mX12_grow_63 (M : me_M) (p0 : Int32) (p1 : Int32) : Option (Int32 × me_M) :=
  ((mX12_isLetter p0).bind fun v1 => (if v1 = 0 then (mX12_grow_63_J22 p0 p1 (me_s M 63 0 0)) else ((mX12_in p1 0 1).bind fun v2 => (if v2 = 0 then (mX12_grow_63_J22 p0 p1 (me_s M 63 0 0)) else (mX12_grow_63_J27 p0 p1 0 (me_s M 63 0 0))))))
set_option maxRecDepth 100000 in
set_option maxHeartbeats 4000000 in
theorem ctX12_grow_63 {l : Launch} {n nt : Nat} (hn : 424 ≤ n) (hnt : 4 ≤ nt) {M : me_M} {p0 : Int32} {p1 : Int32} {r : Int32} {M' : me_M} (h : mX12_grow_63 M p0 p1 = some (r, M')) : me_Ct l yX12_grow cX12_grow 4 (some .int) 4 n nt (fun ad => [.ref (ad 63), .int p0, .int p1]) M (fun _ => some (.int r)) M' := by
  unfold mX12_grow_63 at h
  refine me_enter (N0 := 424) RX12 rfl (plainFor_of_name pl_RX12) hn (Nat.le_trans (by decide) hnt) (fun _ => Nat.le_of_ble_eq_true rfl) ?_
  intro p e R s m args below meth c D cA ad tys A X hr hlk
  refine me_sub (L' := [(0, .ref (ad 63)), (1, .int p0), (2, .int p1)]) [0, 1, 2] rfl ?_
  refine me_aload_n X (i := 0) 0 rfl dX12_grow_0 ?_
  refine me_iconst X dX12_grow_1 ic_0 ?_
  refine me_puti X kG_X12_105 (Nat.le_of_ble_eq_true rfl) me_k63 me_f63_0 dX12_grow_2 ?_
  refine me_aload_n X (i := 0) 0 rfl dX12_grow_5 ?_
  refine me_iload_n X (i := 1) 1 rfl dX12_grow_6 ?_
  obtain ⟨v1, e1, h⟩ := me_bd h
  refine me_callSi X [.int p0] (ctX12_isLetter hn (Nat.le_trans (by decide) hnt) e1) kS_X12_118 rfl rfl (Nat.le_of_ble_eq_true rfl) (Nat.le_refl _) (Nat.le_of_ble_eq_true rfl) dX12_grow_7 ?_
  have hj27_2 : ∀ (s1 : Int32) (M2 : me_M), mX12_grow_63_J27 p0 p1 s1 M2 = some (r, M') → me_W p l e R s m args below meth c 0 0 (MQ below (me_Qc D cA ad n A (some (.int r)) M') args s 0 0 A) D cA ad n 4 A 27 [(0, .ref (ad 63)), (1, .int p0), (2, .int p1)] [.int s1, .ref (ad 63)] M2 := by
    intro s1 M2 h
    unfold mX12_grow_63_J27 at h
    refine me_iconst X dX12_grow_27 ic_1 ?_
    refine me_iconst X dX12_grow_28 ic_1 ?_
    obtain ⟨⟨v3, M3⟩, e3, h⟩ := me_bd h
    refine me_callVi X [.int s1, .int 1, .int 1] (ctX12_bad_63 hn (Nat.le_trans (by decide) hnt) e3) kV_X12_122 rfl rfl (Nat.le_of_ble_eq_true rfl) me_k63 (Nat.le_of_ble_eq_true rfl) (Nat.le_refl _) (Nat.le_of_ble_eq_true rfl) dX12_grow_29 ?_
    refine me_if_ne X 58 (by decide) dX12_grow_32 (fun c3 => ?_) (fun c3 => ?_)
    · have h := me_in c3 h
      refine me_iconst X dX12_grow_58 ic_0 ?_
      obtain ⟨rfl, rfl⟩ := me_sp h
      exact me_iret X hr hlk dX12_grow_59
    · have h := me_ip c3 h
      refine me_aload_n X (i := 0) 0 rfl dX12_grow_35 ?_
      refine me_aload_n X (i := 0) 0 rfl dX12_grow_36 ?_
      obtain ⟨v4, e4, h⟩ := me_bd h
      refine me_callVi X [] (ctX12_letters_63 hn (Nat.le_trans (by decide) hnt) e4) kV_X12_183 rfl rfl (Nat.le_of_ble_eq_true rfl) me_k63 (Nat.le_of_ble_eq_true rfl) (Nat.le_refl _) (Nat.le_of_ble_eq_true rfl) dX12_grow_37 ?_
      refine me_bipush X dX12_grow_40 ib_40 ?_
      have hj50_3 : ∀ (s2 : Int32), mX12_grow_63_J50 p0 p1 M3 s2 = some (r, M') → me_W p l e R s m args below meth c 0 0 (MQ below (me_Qc D cA ad n A (some (.int r)) M') args s 0 0 A) D cA ad n 4 A 50 [(0, .ref (ad 63)), (1, .int p0), (2, .int p1)] [.int s2, .ref (ad 63)] M3 := by
        intro s2 h
        unfold mX12_grow_63_J50 at h
        refine me_iconst X dX12_grow_50 ic_2 ?_
        refine me_iconst X dX12_grow_51 ic_2 ?_
        obtain ⟨⟨v5, M4⟩, e5, h⟩ := me_bd h
        refine me_callVi X [.int s2, .int 2, .int 2] (ctX12_bad_63 hn (Nat.le_trans (by decide) hnt) e5) kV_X12_122 rfl rfl (Nat.le_of_ble_eq_true rfl) me_k63 (Nat.le_of_ble_eq_true rfl) (Nat.le_refl _) (Nat.le_of_ble_eq_true rfl) dX12_grow_52 ?_
        refine me_if_eq X 60 (by decide) dX12_grow_55 (fun c5 => ?_) (fun c5 => ?_)
        · have h := me_ip c5 h
          refine me_aload_n X (i := 0) 0 rfl dX12_grow_60 ?_
          refine me_iload_n X (i := 1) 1 rfl dX12_grow_61 ?_
          refine me_bipush X dX12_grow_62 ib_97 ?_
          refine me_isub X dX12_grow_64 ?_
          refine me_iconst X dX12_grow_65 ic_2 ?_
          refine me_iadd X dX12_grow_66 ?_
          refine me_iload_n X (i := 2) 2 rfl dX12_grow_67 ?_
          obtain ⟨⟨v6, M5⟩, e6, h⟩ := me_bd h
          refine me_callVi X [.int ((p0 - 97) + 2), .int p1] (ctX12_sizeBy_63 hn (Nat.le_trans (by decide) hnt) e6) kV_X12_193 rfl rfl (Nat.le_of_ble_eq_true rfl) me_k63 (Nat.le_of_ble_eq_true rfl) (Nat.le_refl _) (Nat.le_of_ble_eq_true rfl) dX12_grow_68 ?_
          refine me_istore_n X (i := 3) [(3, .int v6), (0, .ref (ad 63)), (1, .int p0), (2, .int p1)] (Nat.le_of_ble_eq_true rfl) rfl dX12_grow_71 ?_
          refine me_iload_n X (i := 3) 0 rfl dX12_grow_72 ?_
          refine me_if_ne X 84 (by decide) dX12_grow_73 (fun c6 => ?_) (fun c6 => ?_)
          · have h := me_in c6 h
            refine me_aload_n X (i := 0) 1 rfl dX12_grow_84 ?_
            refine me_getr X 76 kF_X12_46 (Nat.le_of_ble_eq_true rfl) me_k63 me_f63_13 dX12_grow_85 ?_
            refine me_aload_n X (i := 0) 1 rfl dX12_grow_88 ?_
            obtain ⟨v7, e7, h⟩ := me_bd h
            refine me_callVi X [] (ctX12_letters_63 hn (Nat.le_trans (by decide) hnt) e7) kV_X12_183 rfl rfl (Nat.le_of_ble_eq_true rfl) me_k63 (Nat.le_of_ble_eq_true rfl) (Nat.le_refl _) (Nat.le_of_ble_eq_true rfl) dX12_grow_89 ?_
            refine me_iconst X dX12_grow_92 ic_1 ?_
            refine me_isub X dX12_grow_93 ?_
            refine me_iload_n X (i := 2) 3 rfl dX12_grow_94 ?_
            obtain ⟨M6, e8, h⟩ := me_bd h
            refine me_iast X (Nat.le_of_ble_eq_true rfl) me_k76 e8 dX12_grow_95 ?_
            refine me_iload_n X (i := 3) 0 rfl dX12_grow_96 ?_
            obtain ⟨rfl, rfl⟩ := me_sp h
            exact me_iret X hr hlk dX12_grow_97
          · have h := me_ip c6 h
            refine me_aload_n X (i := 0) 1 rfl dX12_grow_76 ?_
            refine me_iload_n X (i := 2) 3 rfl dX12_grow_77 ?_
            obtain ⟨M7, e9, h⟩ := me_bd h
            refine me_callVv X [.int p1] (ctX12_takesOff_63 hn (Nat.le_trans (by decide) hnt) e9) kV_X12_196 rfl rfl (Nat.le_of_ble_eq_true rfl) me_k63 (Nat.le_of_ble_eq_true rfl) (Nat.le_refl _) (Nat.le_of_ble_eq_true rfl) dX12_grow_78 ?_
            refine me_goto X 96 (by decide) dX12_grow_81 ?_
            refine me_iload_n X (i := 3) 0 rfl dX12_grow_96 ?_
            obtain ⟨rfl, rfl⟩ := me_sp h
            exact me_iret X hr hlk dX12_grow_97
        · have h := me_in c5 h
          refine me_iconst X dX12_grow_58 ic_0 ?_
          obtain ⟨rfl, rfl⟩ := me_sp h
          exact me_iret X hr hlk dX12_grow_59
      refine me_icmp_ne X 49 (by decide) dX12_grow_42 (fun c4 => ?_) (fun c4 => ?_)
      · have h := me_in c4 h
        refine me_iconst X dX12_grow_49 ic_0 ?_
        exact hj50_3 0 h
      · have h := me_ip c4 h
        refine me_iconst X dX12_grow_45 ic_1 ?_
        refine me_goto X 50 (by decide) dX12_grow_46 ?_
        exact hj50_3 1 h
  have hj22_1 : ∀ (M1 : me_M), mX12_grow_63_J22 p0 p1 M1 = some (r, M') → me_W p l e R s m args below meth c 0 0 (MQ below (me_Qc D cA ad n A (some (.int r)) M') args s 0 0 A) D cA ad n 4 A 22 [(0, .ref (ad 63)), (1, .int p0), (2, .int p1)] [.ref (ad 63)] M1 := by
    intro M1 h
    unfold mX12_grow_63_J22 at h
    refine me_iconst X dX12_grow_22 ic_1 ?_
    refine me_goto X 27 (by decide) dX12_grow_23 ?_
    exact hj27_2 1 M1 h
  refine me_if_eq X 22 (by decide) dX12_grow_10 (fun c1 => ?_) (fun c1 => ?_)
  · have h := me_ip c1 h
    exact hj22_1 (me_s M 63 0 0) h
  · have h := me_in c1 h
    refine me_iload_n X (i := 2) 2 rfl dX12_grow_13 ?_
    refine me_iconst X dX12_grow_14 ic_0 ?_
    refine me_iconst X dX12_grow_15 ic_1 ?_
    obtain ⟨v2, e2, h⟩ := me_bd h
    refine me_callSi X [.int p1, .int 0, .int 1] (ctX12_in hn (Nat.le_trans (by decide) hnt) e2) kS_X12_108 rfl rfl (Nat.le_of_ble_eq_true rfl) (Nat.le_refl _) (Nat.le_of_ble_eq_true rfl) dX12_grow_16 ?_
    refine me_if_ne X 26 (by decide) dX12_grow_19 (fun c2 => ?_) (fun c2 => ?_)
    · have h := me_in c2 h
      refine me_iconst X dX12_grow_26 ic_0 ?_
      exact hj27_2 0 (me_s M 63 0 0) h
    · have h := me_ip c2 h
      exact hj22_1 (me_s M 63 0 0) h
def mX12_shrink_63_J48 (M2 : me_M) : Option (Int32 × me_M) :=
  ((mX12_sizeOf_63 M2).bind fun v6 => some (v6, M2))
def mX12_shrink_63 (M : me_M)  : Option (Int32 × me_M) :=
  ((mX12_letters_63 (me_s M 63 0 0)).bind fun v1 => (if v1 = 0 then some ((-1), (me_s M 63 0 0)) else ((mX12_letters_63 (me_s M 63 0 0)).bind fun v2 => ((me_r (me_s M 63 0 0) 76 40 (v2 - 1)).bind fun v3 => ((mX12_takesOff_63 (me_s M 63 0 0) v3).bind fun M1 => ((mX12_letters_63 M1).bind fun v5 => (if v5 = 0 then (mX12_shrink_63_J48 (me_s (me_s M1 63 10 42) 63 11 42)) else (mX12_shrink_63_J48 M1))))))))
set_option maxRecDepth 100000 in
set_option maxHeartbeats 4000000 in
theorem ctX12_shrink_63 {l : Launch} {n nt : Nat} (hn : 424 ≤ n) (hnt : 4 ≤ nt) {M : me_M} {r : Int32} {M' : me_M} (h : mX12_shrink_63 M = some (r, M')) : me_Ct l yX12_shrink cX12_shrink 1 (some .int) 3 n nt (fun ad => [.ref (ad 63)]) M (fun _ => some (.int r)) M' := by
  unfold mX12_shrink_63 at h
  refine me_enter (N0 := 424) RX12 rfl (plainFor_of_name pl_RX12) hn (Nat.le_trans (by decide) hnt) (fun _ => Nat.le_of_ble_eq_true rfl) ?_
  intro p e R s m args below meth c D cA ad tys A X hr hlk
  refine me_sub (L' := [(0, .ref (ad 63))]) [0] rfl ?_
  refine me_aload_n X (i := 0) 0 rfl dX12_shrink_0 ?_
  refine me_iconst X dX12_shrink_1 ic_0 ?_
  refine me_puti X kG_X12_105 (Nat.le_of_ble_eq_true rfl) me_k63 me_f63_0 dX12_shrink_2 ?_
  refine me_aload_n X (i := 0) 0 rfl dX12_shrink_5 ?_
  obtain ⟨v1, e1, h⟩ := me_bd h
  refine me_callVi X [] (ctX12_letters_63 hn (Nat.le_trans (by decide) hnt) e1) kV_X12_183 rfl rfl (Nat.le_of_ble_eq_true rfl) me_k63 (Nat.le_of_ble_eq_true rfl) (Nat.le_refl _) (Nat.le_of_ble_eq_true rfl) dX12_shrink_6 ?_
  refine me_if_ne X 14 (by decide) dX12_shrink_9 (fun c1 => ?_) (fun c1 => ?_)
  · have h := me_in c1 h
    refine me_aload_n X (i := 0) 0 rfl dX12_shrink_14 ?_
    refine me_aload_n X (i := 0) 0 rfl dX12_shrink_15 ?_
    refine me_getr X 76 kF_X12_46 (Nat.le_of_ble_eq_true rfl) me_k63 me_f63_13 dX12_shrink_16 ?_
    refine me_aload_n X (i := 0) 0 rfl dX12_shrink_19 ?_
    obtain ⟨v2, e2, h⟩ := me_bd h
    refine me_callVi X [] (ctX12_letters_63 hn (Nat.le_trans (by decide) hnt) e2) kV_X12_183 rfl rfl (Nat.le_of_ble_eq_true rfl) me_k63 (Nat.le_of_ble_eq_true rfl) (Nat.le_refl _) (Nat.le_of_ble_eq_true rfl) dX12_shrink_20 ?_
    refine me_iconst X dX12_shrink_23 ic_1 ?_
    refine me_isub X dX12_shrink_24 ?_
    obtain ⟨v3, e3, h⟩ := me_bd h
    refine me_iald X (Nat.le_of_ble_eq_true rfl) me_k76 e3 dX12_shrink_25 ?_
    obtain ⟨M1, e4, h⟩ := me_bd h
    refine me_callVv X [.int v3] (ctX12_takesOff_63 hn (Nat.le_trans (by decide) hnt) e4) kV_X12_196 rfl rfl (Nat.le_of_ble_eq_true rfl) me_k63 (Nat.le_of_ble_eq_true rfl) (Nat.le_refl _) (Nat.le_of_ble_eq_true rfl) dX12_shrink_26 ?_
    refine me_aload_n X (i := 0) 0 rfl dX12_shrink_29 ?_
    obtain ⟨v5, e5, h⟩ := me_bd h
    refine me_callVi X [] (ctX12_letters_63 hn (Nat.le_trans (by decide) hnt) e5) kV_X12_183 rfl rfl (Nat.le_of_ble_eq_true rfl) me_k63 (Nat.le_of_ble_eq_true rfl) (Nat.le_refl _) (Nat.le_of_ble_eq_true rfl) dX12_shrink_30 ?_
    have hj48_1 : ∀ (M2 : me_M), mX12_shrink_63_J48 M2 = some (r, M') → me_W p l e R s m args below meth c 0 0 (MQ below (me_Qc D cA ad n A (some (.int r)) M') args s 0 0 A) D cA ad n 1 A 48 [(0, .ref (ad 63))] [] M2 := by
      intro M2 h
      unfold mX12_shrink_63_J48 at h
      refine me_aload_n X (i := 0) 0 rfl dX12_shrink_48 ?_
      obtain ⟨v6, e6, h⟩ := me_bd h
      refine me_callVi X [] (ctX12_sizeOf_63 hn (Nat.le_trans (by decide) hnt) e6) kV_X12_190 rfl rfl (Nat.le_of_ble_eq_true rfl) me_k63 (Nat.le_of_ble_eq_true rfl) (Nat.le_refl _) (Nat.le_of_ble_eq_true rfl) dX12_shrink_49 ?_
      obtain ⟨rfl, rfl⟩ := me_sp h
      exact me_iret X hr hlk dX12_shrink_52
    refine me_if_ne X 48 (by decide) dX12_shrink_33 (fun c2 => ?_) (fun c2 => ?_)
    · have h := me_in c2 h
      exact hj48_1 M1 h
    · have h := me_ip c2 h
      refine me_aload_n X (i := 0) 0 rfl dX12_shrink_36 ?_
      refine me_bipush X dX12_shrink_37 ib_42 ?_
      refine me_puti X kG_X12_37 (Nat.le_of_ble_eq_true rfl) me_k63 me_f63_10 dX12_shrink_39 ?_
      refine me_aload_n X (i := 0) 0 rfl dX12_shrink_42 ?_
      refine me_bipush X dX12_shrink_43 ib_42 ?_
      refine me_puti X kG_X12_40 (Nat.le_of_ble_eq_true rfl) me_k63 me_f63_11 dX12_shrink_45 ?_
      exact hj48_1 (me_s (me_s M1 63 10 42) 63 11 42) h
  · have h := me_ip c1 h
    refine me_iconst X dX12_shrink_12 ic_m1 ?_
    obtain ⟨rfl, rfl⟩ := me_sp h
    exact me_iret X hr hlk dX12_shrink_13
def mX12_clear_63 (M : me_M)  : Option (Int32 × me_M) :=
  ((mX12_letters_63 (me_s M 63 0 0)).bind fun v1 => some (v1, (me_s (me_s (me_s M 63 0 0) 63 10 42) 63 11 42)))
set_option maxRecDepth 100000 in
set_option maxHeartbeats 4000000 in
theorem ctX12_clear_63 {l : Launch} {n nt : Nat} (hn : 424 ≤ n) (hnt : 4 ≤ nt) {M : me_M} {r : Int32} {M' : me_M} (h : mX12_clear_63 M = some (r, M')) : me_Ct l yX12_clear cX12_clear 2 (some .int) 1 n nt (fun ad => [.ref (ad 63)]) M (fun _ => some (.int r)) M' := by
  unfold mX12_clear_63 at h
  refine me_enter (N0 := 424) RX12 rfl (plainFor_of_name pl_RX12) hn (Nat.le_trans (by decide) hnt) (fun _ => Nat.le_of_ble_eq_true rfl) ?_
  intro p e R s m args below meth c D cA ad tys A X hr hlk
  refine me_sub (L' := [(0, .ref (ad 63))]) [0] rfl ?_
  refine me_aload_n X (i := 0) 0 rfl dX12_clear_0 ?_
  refine me_iconst X dX12_clear_1 ic_0 ?_
  refine me_puti X kG_X12_105 (Nat.le_of_ble_eq_true rfl) me_k63 me_f63_0 dX12_clear_2 ?_
  refine me_aload_n X (i := 0) 0 rfl dX12_clear_5 ?_
  obtain ⟨v1, e1, h⟩ := me_bd h
  refine me_callVi X [] (ctX12_letters_63 hn (Nat.le_trans (by decide) hnt) e1) kV_X12_183 rfl rfl (Nat.le_of_ble_eq_true rfl) me_k63 (Nat.le_of_ble_eq_true rfl) (Nat.le_refl _) (Nat.le_of_ble_eq_true rfl) dX12_clear_6 ?_
  refine me_istore_n X (i := 1) [(1, .int v1), (0, .ref (ad 63))] (Nat.le_of_ble_eq_true rfl) rfl dX12_clear_9 ?_
  refine me_aload_n X (i := 0) 1 rfl dX12_clear_10 ?_
  refine me_bipush X dX12_clear_11 ib_42 ?_
  refine me_puti X kG_X12_37 (Nat.le_of_ble_eq_true rfl) me_k63 me_f63_10 dX12_clear_13 ?_
  refine me_aload_n X (i := 0) 1 rfl dX12_clear_16 ?_
  refine me_bipush X dX12_clear_17 ib_42 ?_
  refine me_puti X kG_X12_40 (Nat.le_of_ble_eq_true rfl) me_k63 me_f63_11 dX12_clear_19 ?_
  refine me_iload_n X (i := 1) 0 rfl dX12_clear_22 ?_
  obtain ⟨rfl, rfl⟩ := me_sp h
  exact me_iret X hr hlk dX12_clear_23
def mX12_documents_63_J30 (x2_1 : Int32) (x1_1 : Int32) (M : me_M) (s1 : Int32) : Option ((Int32 × Int32) ⊕ (Int32)) :=
  some (.inl ((x1_1 + s1), (x2_1 + 1)))
def mX12_documents_63_L4 (M : me_M) : (Int32 × Int32) → Option ((Int32 × Int32) ⊕ (Int32))
  | (x1_1, x2_1) => (if (M.1 63 5) ≤ x2_1 then some (.inr x1_1) else ((me_r M 67 241 x2_1).bind fun v1 => (if v1 = 1 then (mX12_documents_63_J30 x2_1 x1_1 M 1) else (mX12_documents_63_J30 x2_1 x1_1 M 0))))
def mX12_documents_63 (M : me_M)  : Option Int32 :=
  ((me_l (mX12_documents_63_L4 M) me_fu (1, 0)).bind fun y1_1 => some y1_1)
set_option maxRecDepth 100000 in
set_option maxHeartbeats 4000000 in
theorem ctX12_documents_63 {l : Launch} {n nt : Nat} (hn : 424 ≤ n) (hnt : 4 ≤ nt) {M : me_M} {r : Int32} (h : mX12_documents_63 M = some r) : me_Ct l yX12_documents cX12_documents 3 (some .int) 0 n nt (fun ad => [.ref (ad 63)]) M (fun _ => some (.int r)) M := by
  unfold mX12_documents_63 at h
  refine me_enter (N0 := 424) RX12 rfl (plainFor_of_name pl_RX12) hn (Nat.le_trans (by decide) hnt) (fun _ => Nat.le_of_ble_eq_true rfl) ?_
  intro p e R s m args below meth c D cA ad tys A X hr hlk
  refine me_sub (L' := [(0, .ref (ad 63))]) [0] rfl ?_
  refine me_iconst X dX12_documents_0 ic_1 ?_
  refine me_istore_n X (i := 1) [(1, .int 1), (0, .ref (ad 63))] (Nat.le_of_ble_eq_true rfl) rfl dX12_documents_1 ?_
  refine me_iconst X dX12_documents_2 ic_0 ?_
  refine me_istore_n X (i := 2) [(2, .int 0), (1, .int 1), (0, .ref (ad 63))] (Nat.le_of_ble_eq_true rfl) rfl dX12_documents_3 ?_
  obtain ⟨y1_1, hq1, h⟩ := me_bd h
  have hx1 : me_W p l e R s m args below meth c 0 0 (MQ below (me_Qc D cA ad n A (some (.int r)) M) args s 0 0 A) D cA ad n 3 A 38 [(1, .int y1_1)] [] M := by
    refine me_iload_n X (i := 1) 0 rfl dX12_documents_38 ?_
    obtain rfl := me_so h
    exact me_iret X hr hlk dX12_documents_39
  refine me_sub (L' := [(0, .ref (ad 63)), (1, .int 1), (2, .int 0)]) [2, 1, 0] rfl ?_
  refine me_l_W (b := (mX12_documents_63_L4 M)) (P := fun w => me_W p l e R s m args below meth c 0 0 (MQ below (me_Qc D cA ad n A (some (.int r)) M) args s 0 0 A) D cA ad n 3 A 4 [(0, .ref (ad 63)), (1, .int w.1), (2, .int w.2)] [] M) (r := y1_1) ?_ me_fu (1, 0) hq1
  rintro ⟨x1_1, x2_1⟩ z1 h hb1 - hr1
  unfold mX12_documents_63_L4 at h
  refine me_iload_n X (i := 2) 2 rfl dX12_documents_4 ?_
  refine me_aload_n X (i := 0) 0 rfl dX12_documents_5 ?_
  refine me_geti X kF_X12_20 (Nat.le_of_ble_eq_true rfl) me_k63 me_f63_5 dX12_documents_6 ?_
  refine me_icmp_ge X 38 (by decide) dX12_documents_9 (fun c1 => ?_) (fun c1 => ?_)
  · have h := me_ip c1 h
    obtain rfl := me_so h
    have q := hr1 _ rfl
    refine me_sub (L' := [(1, .int x1_1)]) [1] rfl ?_
    cases q
    exact hx1
  · have h := me_in c1 h
    refine me_iload_n X (i := 1) 1 rfl dX12_documents_12 ?_
    refine me_aload_n X (i := 0) 0 rfl dX12_documents_13 ?_
    refine me_getr X 66 kF_X12_28 (Nat.le_of_ble_eq_true rfl) me_k63 me_f63_7 dX12_documents_14 ?_
    refine me_iconst X dX12_documents_17 ic_0 ?_
    refine me_aald X (j := 67) (Nat.le_of_ble_eq_true rfl) ⟨by decide, by decide, Nat.lt_of_lt_of_le (by decide) hnt⟩ me_k66 (by decide) dX12_documents_18 ?_
    refine me_iload_n X (i := 2) 2 rfl dX12_documents_19 ?_
    obtain ⟨v1, e1, h⟩ := me_bd h
    refine me_iald X (Nat.le_of_ble_eq_true rfl) me_k67 e1 dX12_documents_20 ?_
    refine me_iconst X dX12_documents_21 ic_1 ?_
    have hj30_1 : ∀ (s1 : Int32), mX12_documents_63_J30 x2_1 x1_1 M s1 = some z1 → me_W p l e R s m args below meth c 0 0 (MQ below (me_Qc D cA ad n A (some (.int r)) M) args s 0 0 A) D cA ad n 3 A 30 [(0, .ref (ad 63)), (2, .int x2_1)] [.int s1, .int x1_1] M := by
      intro s1 h
      unfold mX12_documents_63_J30 at h
      refine me_iadd X dX12_documents_30 ?_
      refine me_istore_n X (i := 1) [(1, .int (x1_1 + s1)), (0, .ref (ad 63)), (2, .int x2_1)] (Nat.le_of_ble_eq_true rfl) rfl dX12_documents_31 ?_
      refine me_iinc X (v := (x2_1 + 1)) 2 rfl (in_1 _) [(2, .int (x2_1 + 1)), (1, .int (x1_1 + s1)), (0, .ref (ad 63))] (Nat.le_of_ble_eq_true rfl) rfl dX12_documents_32 ?_
      refine me_goto X 4 (by decide) dX12_documents_35 ?_
      obtain rfl := me_so h
      refine me_sub (L' := [(0, .ref (ad 63)), (1, .int (x1_1 + s1)), (2, .int (x2_1 + 1))]) [2, 1, 0] rfl ?_
      exact hb1 ((x1_1 + s1), (x2_1 + 1)) rfl
    refine me_icmp_ne X 29 (by decide) dX12_documents_22 (fun c2 => ?_) (fun c2 => ?_)
    · have h := me_in c2 h
      refine me_iconst X dX12_documents_29 ic_0 ?_
      refine me_sub (L' := [(0, .ref (ad 63)), (2, .int x2_1)]) [0, 2] rfl ?_
      exact hj30_1 0 h
    · have h := me_ip c2 h
      refine me_iconst X dX12_documents_25 ic_1 ?_
      refine me_goto X 30 (by decide) dX12_documents_26 ?_
      refine me_sub (L' := [(0, .ref (ad 63)), (2, .int x2_1)]) [0, 2] rfl ?_
      exact hj30_1 1 h
def mX12_hasLetter_63_L2 (M : me_M) (p0 : Int32) : (Int32) → Option ((Int32) ⊕ ((Unit) ⊕ Int32))
  | x2_1 => (if (M.1 63 5) ≤ x2_1 then some (.inr (.inl ())) else ((me_r M 67 241 x2_1).bind fun v1 => (if v1 = p0 then some (.inr (.inr 1)) else some (.inl (x2_1 + 1)))))
def mX12_hasLetter_63 (M : me_M) (p0 : Int32) : Option Int32 :=
  ((me_l (mX12_hasLetter_63_L2 M p0) me_fu 0).bind fun o => Sum.elim (fun _ => some 0) (fun res => some res) o)
set_option maxRecDepth 100000 in
set_option maxHeartbeats 4000000 in
theorem ctX12_hasLetter_63 {l : Launch} {n nt : Nat} (hn : 424 ≤ n) (hnt : 4 ≤ nt) {M : me_M} {p0 : Int32} {r : Int32} (h : mX12_hasLetter_63 M p0 = some r) : me_Ct l yX12_hasLetter cX12_hasLetter 3 (some .boolean) 0 n nt (fun ad => [.ref (ad 63), .int p0]) M (fun _ => some (.int r)) M := by
  unfold mX12_hasLetter_63 at h
  refine me_enter (N0 := 424) RX12 rfl (plainFor_of_name pl_RX12) hn (Nat.le_trans (by decide) hnt) (fun _ => Nat.le_of_ble_eq_true rfl) ?_
  intro p e R s m args below meth c D cA ad tys A X hr hlk
  refine me_sub (L' := [(0, .ref (ad 63)), (1, .int p0)]) [0, 1] rfl ?_
  refine me_iconst X dX12_hasLetter_0 ic_0 ?_
  refine me_istore_n X (i := 2) [(2, .int 0), (0, .ref (ad 63)), (1, .int p0)] (Nat.le_of_ble_eq_true rfl) rfl dX12_hasLetter_1 ?_
  obtain ⟨o0, hq1l, hq1⟩ := me_bd h
  have hx1 : o0 = .inl () → me_W p l e R s m args below meth c 0 0 (MQ below (me_Qc D cA ad n A (some (.int r)) M) args s 0 0 A) D cA ad n 3 A 30 [] [] M := by
    intro q
    subst q
    have h := me_el hq1
    refine me_iconst X dX12_hasLetter_30 ic_0 ?_
    obtain rfl := me_so h
    exact me_zret X (by decide) hr hlk dX12_hasLetter_31
  refine me_sub (L' := [(0, .ref (ad 63)), (1, .int p0), (2, .int 0)]) [1, 2, 0] rfl ?_
  refine me_l_W (b := (mX12_hasLetter_63_L2 M p0)) (P := fun w => me_W p l e R s m args below meth c 0 0 (MQ below (me_Qc D cA ad n A (some (.int r)) M) args s 0 0 A) D cA ad n 3 A 2 [(0, .ref (ad 63)), (1, .int p0), (2, .int w)] [] M) (r := o0) ?_ me_fu 0 hq1l
  rintro x2_1 z1 h hb1 - hr1
  unfold mX12_hasLetter_63_L2 at h
  refine me_iload_n X (i := 2) 2 rfl dX12_hasLetter_2 ?_
  refine me_aload_n X (i := 0) 0 rfl dX12_hasLetter_3 ?_
  refine me_geti X kF_X12_20 (Nat.le_of_ble_eq_true rfl) me_k63 me_f63_5 dX12_hasLetter_4 ?_
  refine me_icmp_ge X 30 (by decide) dX12_hasLetter_7 (fun c1 => ?_) (fun c1 => ?_)
  · have h := me_ip c1 h
    obtain rfl := me_so h
    have q := hr1 _ rfl
    refine me_sub (L' := []) [] rfl ?_
    subst q
    exact hx1 rfl
  · have h := me_in c1 h
    refine me_aload_n X (i := 0) 0 rfl dX12_hasLetter_10 ?_
    refine me_getr X 66 kF_X12_28 (Nat.le_of_ble_eq_true rfl) me_k63 me_f63_7 dX12_hasLetter_11 ?_
    refine me_iconst X dX12_hasLetter_14 ic_0 ?_
    refine me_aald X (j := 67) (Nat.le_of_ble_eq_true rfl) ⟨by decide, by decide, Nat.lt_of_lt_of_le (by decide) hnt⟩ me_k66 (by decide) dX12_hasLetter_15 ?_
    refine me_iload_n X (i := 2) 2 rfl dX12_hasLetter_16 ?_
    obtain ⟨v1, e1, h⟩ := me_bd h
    refine me_iald X (Nat.le_of_ble_eq_true rfl) me_k67 e1 dX12_hasLetter_17 ?_
    refine me_iload_n X (i := 1) 1 rfl dX12_hasLetter_18 ?_
    refine me_icmp_ne X 24 (by decide) dX12_hasLetter_19 (fun c2 => ?_) (fun c2 => ?_)
    · have h := me_in c2 h
      refine me_iinc X (v := (x2_1 + 1)) 2 rfl (in_1 _) [(2, .int (x2_1 + 1)), (0, .ref (ad 63)), (1, .int p0)] (Nat.le_of_ble_eq_true rfl) rfl dX12_hasLetter_24 ?_
      refine me_goto X 2 (by decide) dX12_hasLetter_27 ?_
      obtain rfl := me_so h
      refine me_sub (L' := [(0, .ref (ad 63)), (1, .int p0), (2, .int (x2_1 + 1))]) [1, 2, 0] rfl ?_
      exact hb1 (x2_1 + 1) rfl
    · have h := me_ip c2 h
      refine me_iconst X dX12_hasLetter_22 ic_1 ?_
      obtain rfl := me_so h
      have q := hr1 _ rfl
      subst q
      have h : some 1 = some r := hq1
      obtain rfl := me_so h
      exact me_zret X (by decide) hr hlk dX12_hasLetter_23
def mX12_unlike_63_J24 (x2_1 : Int32) (x1_1 : Int32) (M : me_M) (s1 : Int32) : Option ((Int32 × Int32) ⊕ (Int32)) :=
  some (.inl ((x1_1 + s1), (x2_1 + 1)))
def mX12_unlike_63_L4 (M : me_M) : (Int32 × Int32) → Option ((Int32 × Int32) ⊕ (Int32))
  | (x1_1, x2_1) => (if 10 ≤ x2_1 then some (.inr x1_1) else ((mX12_hasLetter_63 M x2_1).bind fun v1 => (if v1 = 0 then (mX12_unlike_63_J24 x2_1 x1_1 M 0) else (mX12_unlike_63_J24 x2_1 x1_1 M 1))))
def mX12_unlike_63 (M : me_M)  : Option Int32 :=
  ((me_l (mX12_unlike_63_L4 M) me_fu (0, 2)).bind fun y1_1 => some y1_1)
set_option maxRecDepth 100000 in
set_option maxHeartbeats 4000000 in
theorem ctX12_unlike_63 {l : Launch} {n nt : Nat} (hn : 424 ≤ n) (hnt : 4 ≤ nt) {M : me_M} {r : Int32} (h : mX12_unlike_63 M = some r) : me_Ct l yX12_unlike cX12_unlike 3 (some .int) 1 n nt (fun ad => [.ref (ad 63)]) M (fun _ => some (.int r)) M := by
  unfold mX12_unlike_63 at h
  refine me_enter (N0 := 424) RX12 rfl (plainFor_of_name pl_RX12) hn (Nat.le_trans (by decide) hnt) (fun _ => Nat.le_of_ble_eq_true rfl) ?_
  intro p e R s m args below meth c D cA ad tys A X hr hlk
  refine me_sub (L' := [(0, .ref (ad 63))]) [0] rfl ?_
  refine me_iconst X dX12_unlike_0 ic_0 ?_
  refine me_istore_n X (i := 1) [(1, .int 0), (0, .ref (ad 63))] (Nat.le_of_ble_eq_true rfl) rfl dX12_unlike_1 ?_
  refine me_iconst X dX12_unlike_2 ic_2 ?_
  refine me_istore_n X (i := 2) [(2, .int 2), (1, .int 0), (0, .ref (ad 63))] (Nat.le_of_ble_eq_true rfl) rfl dX12_unlike_3 ?_
  obtain ⟨y1_1, hq1, h⟩ := me_bd h
  have hx1 : me_W p l e R s m args below meth c 0 0 (MQ below (me_Qc D cA ad n A (some (.int r)) M) args s 0 0 A) D cA ad n 3 A 32 [(1, .int y1_1)] [] M := by
    refine me_iload_n X (i := 1) 0 rfl dX12_unlike_32 ?_
    obtain rfl := me_so h
    exact me_iret X hr hlk dX12_unlike_33
  refine me_sub (L' := [(0, .ref (ad 63)), (1, .int 0), (2, .int 2)]) [2, 1, 0] rfl ?_
  refine me_l_W (b := (mX12_unlike_63_L4 M)) (P := fun w => me_W p l e R s m args below meth c 0 0 (MQ below (me_Qc D cA ad n A (some (.int r)) M) args s 0 0 A) D cA ad n 3 A 4 [(0, .ref (ad 63)), (1, .int w.1), (2, .int w.2)] [] M) (r := y1_1) ?_ me_fu (0, 2) hq1
  rintro ⟨x1_1, x2_1⟩ z1 h hb1 - hr1
  unfold mX12_unlike_63_L4 at h
  refine me_iload_n X (i := 2) 2 rfl dX12_unlike_4 ?_
  refine me_bipush X dX12_unlike_5 ib_10 ?_
  refine me_icmp_ge X 32 (by decide) dX12_unlike_7 (fun c1 => ?_) (fun c1 => ?_)
  · have h := me_ip c1 h
    obtain rfl := me_so h
    have q := hr1 _ rfl
    refine me_sub (L' := [(1, .int x1_1)]) [1] rfl ?_
    cases q
    exact hx1
  · have h := me_in c1 h
    refine me_iload_n X (i := 1) 1 rfl dX12_unlike_10 ?_
    refine me_aload_n X (i := 0) 0 rfl dX12_unlike_11 ?_
    refine me_iload_n X (i := 2) 2 rfl dX12_unlike_12 ?_
    obtain ⟨v1, e1, h⟩ := me_bd h
    refine me_callVi X [.int x2_1] (ctX12_hasLetter_63 hn (Nat.le_trans (by decide) hnt) e1) kV_X12_199 rfl rfl (Nat.le_of_ble_eq_true rfl) me_k63 (Nat.le_of_ble_eq_true rfl) (Nat.le_refl _) (Nat.le_of_ble_eq_true rfl) dX12_unlike_13 ?_
    have hj24_1 : ∀ (s1 : Int32), mX12_unlike_63_J24 x2_1 x1_1 M s1 = some z1 → me_W p l e R s m args below meth c 0 0 (MQ below (me_Qc D cA ad n A (some (.int r)) M) args s 0 0 A) D cA ad n 3 A 24 [(0, .ref (ad 63)), (2, .int x2_1)] [.int s1, .int x1_1] M := by
      intro s1 h
      unfold mX12_unlike_63_J24 at h
      refine me_iadd X dX12_unlike_24 ?_
      refine me_istore_n X (i := 1) [(1, .int (x1_1 + s1)), (0, .ref (ad 63)), (2, .int x2_1)] (Nat.le_of_ble_eq_true rfl) rfl dX12_unlike_25 ?_
      refine me_iinc X (v := (x2_1 + 1)) 2 rfl (in_1 _) [(2, .int (x2_1 + 1)), (1, .int (x1_1 + s1)), (0, .ref (ad 63))] (Nat.le_of_ble_eq_true rfl) rfl dX12_unlike_26 ?_
      refine me_goto X 4 (by decide) dX12_unlike_29 ?_
      obtain rfl := me_so h
      refine me_sub (L' := [(0, .ref (ad 63)), (1, .int (x1_1 + s1)), (2, .int (x2_1 + 1))]) [2, 1, 0] rfl ?_
      exact hb1 ((x1_1 + s1), (x2_1 + 1)) rfl
    refine me_if_eq X 23 (by decide) dX12_unlike_16 (fun c2 => ?_) (fun c2 => ?_)
    · have h := me_ip c2 h
      refine me_iconst X dX12_unlike_23 ic_0 ?_
      refine me_sub (L' := [(0, .ref (ad 63)), (2, .int x2_1)]) [0, 2] rfl ?_
      exact hj24_1 0 h
    · have h := me_in c2 h
      refine me_iconst X dX12_unlike_19 ic_1 ?_
      refine me_goto X 24 (by decide) dX12_unlike_20 ?_
      refine me_sub (L' := [(0, .ref (ad 63)), (2, .int x2_1)]) [0, 2] rfl ?_
      exact hj24_1 1 h
def mX12_budget_63_L4 (M : me_M) : (Int32 × Int32) → Option ((Int32 × Int32) ⊕ (Int32))
  | (x1_1, x2_1) => ((me_r M 77 2 0).bind fun v1 => (if v1 ≤ x2_1 then some (.inr x1_1) else ((me_a 8 93 x2_1).bind fun a1 => ((me_a 3 (109 + 3 * (a1 - 93)) 2).bind fun a2 => ((me_r M 78 2 0).bind fun v2 => ((me_r M a2 5 (v2 - 1)).bind fun v3 => ((mX12_more x1_1 v3).bind fun v4 => some (.inl (v4, (x2_1 + 1))))))))))
def mX12_budget_63 (M : me_M)  : Option Int32 :=
  ((me_l (mX12_budget_63_L4 M) me_fu (0, 0)).bind fun y1_1 => some y1_1)
set_option maxRecDepth 100000 in
set_option maxHeartbeats 4000000 in
theorem ctX12_budget_63 {l : Launch} {n nt : Nat} (hn : 424 ≤ n) (hnt : 4 ≤ nt) {M : me_M} {r : Int32} (h : mX12_budget_63 M = some r) : me_Ct l yX12_budget cX12_budget 3 (some .int) 1 n nt (fun ad => [.ref (ad 63)]) M (fun _ => some (.int r)) M := by
  unfold mX12_budget_63 at h
  refine me_enter (N0 := 424) RX12 rfl (plainFor_of_name pl_RX12) hn (Nat.le_trans (by decide) hnt) (fun _ => Nat.le_of_ble_eq_true rfl) ?_
  intro p e R s m args below meth c D cA ad tys A X hr hlk
  refine me_sub (L' := [(0, .ref (ad 63))]) [0] rfl ?_
  refine me_iconst X dX12_budget_0 ic_0 ?_
  refine me_istore_n X (i := 1) [(1, .int 0), (0, .ref (ad 63))] (Nat.le_of_ble_eq_true rfl) rfl dX12_budget_1 ?_
  refine me_iconst X dX12_budget_2 ic_0 ?_
  refine me_istore_n X (i := 2) [(2, .int 0), (1, .int 0), (0, .ref (ad 63))] (Nat.le_of_ble_eq_true rfl) rfl dX12_budget_3 ?_
  obtain ⟨y1_1, hq1, h⟩ := me_bd h
  have hx1 : me_W p l e R s m args below meth c 0 0 (MQ below (me_Qc D cA ad n A (some (.int r)) M) args s 0 0 A) D cA ad n 3 A 44 [(1, .int y1_1)] [] M := by
    refine me_iload_n X (i := 1) 0 rfl dX12_budget_44 ?_
    obtain rfl := me_so h
    exact me_iret X hr hlk dX12_budget_45
  refine me_sub (L' := [(0, .ref (ad 63)), (1, .int 0), (2, .int 0)]) [2, 1, 0] rfl ?_
  refine me_l_W (b := (mX12_budget_63_L4 M)) (P := fun w => me_W p l e R s m args below meth c 0 0 (MQ below (me_Qc D cA ad n A (some (.int r)) M) args s 0 0 A) D cA ad n 3 A 4 [(0, .ref (ad 63)), (1, .int w.1), (2, .int w.2)] [] M) (r := y1_1) ?_ me_fu (0, 0) hq1
  rintro ⟨x1_1, x2_1⟩ z1 h hb1 - hr1
  unfold mX12_budget_63_L4 at h
  refine me_iload_n X (i := 2) 2 rfl dX12_budget_4 ?_
  refine me_aload_n X (i := 0) 0 rfl dX12_budget_5 ?_
  refine me_getr X 77 kF_X12_49 (Nat.le_of_ble_eq_true rfl) me_k63 me_f63_14 dX12_budget_6 ?_
  refine me_iconst X dX12_budget_9 ic_0 ?_
  obtain ⟨v1, e1, h⟩ := me_bd h
  refine me_iald X (Nat.le_of_ble_eq_true rfl) me_k77 e1 dX12_budget_10 ?_
  refine me_icmp_ge X 44 (by decide) dX12_budget_11 (fun c1 => ?_) (fun c1 => ?_)
  · have h := me_ip c1 h
    obtain rfl := me_so h
    have q := hr1 _ rfl
    refine me_sub (L' := [(1, .int x1_1)]) [1] rfl ?_
    cases q
    exact hx1
  · have h := me_in c1 h
    refine me_iload_n X (i := 1) 1 rfl dX12_budget_14 ?_
    refine me_aload_n X (i := 0) 0 rfl dX12_budget_15 ?_
    refine me_getr X 90 kF_X12_57 (Nat.le_of_ble_eq_true rfl) me_k63 me_f63_16 dX12_budget_16 ?_
    refine me_iconst X dX12_budget_19 ic_0 ?_
    refine me_aald X (j := 91) (Nat.le_of_ble_eq_true rfl) ⟨by decide, by decide, Nat.lt_of_lt_of_le (by decide) hnt⟩ me_k90 (by decide) dX12_budget_20 ?_
    refine me_iload_n X (i := 2) 2 rfl dX12_budget_21 ?_
    obtain ⟨a1, e2, h⟩ := me_bd h
    have f_a1 := me_f93 e2
    refine me_aald X (Nat.le_of_ble_eq_true rfl) ⟨by decide, by decide, Nat.lt_of_lt_of_le (by decide) hnt⟩ me_k91 e2 dX12_budget_22 ?_
    refine me_iconst X dX12_budget_23 ic_2 ?_
    obtain ⟨a2, e3, h⟩ := me_bd h
    have f_a2 := me_fdig f_a1 e3
    refine me_aald X f_a1.2.1 ⟨by decide, by decide, Nat.lt_of_lt_of_le (by decide) hnt⟩ f_a1.1 e3 dX12_budget_24 ?_
    refine me_aload_n X (i := 0) 0 rfl dX12_budget_25 ?_
    refine me_getr X 78 kF_X12_52 (Nat.le_of_ble_eq_true rfl) me_k63 me_f63_15 dX12_budget_26 ?_
    refine me_iconst X dX12_budget_29 ic_0 ?_
    obtain ⟨v2, e4, h⟩ := me_bd h
    refine me_iald X (Nat.le_of_ble_eq_true rfl) me_k78 e4 dX12_budget_30 ?_
    refine me_iconst X dX12_budget_31 ic_1 ?_
    refine me_isub X dX12_budget_32 ?_
    obtain ⟨v3, e5, h⟩ := me_bd h
    refine me_iald X f_a2.2 f_a2.1 e5 dX12_budget_33 ?_
    obtain ⟨v4, e6, h⟩ := me_bd h
    refine me_callSi X [.int x1_1, .int v3] (ctX12_more hn (Nat.le_trans (by decide) hnt) e6) kS_X12_202 rfl rfl (Nat.le_of_ble_eq_true rfl) (Nat.le_refl _) (Nat.le_of_ble_eq_true rfl) dX12_budget_34 ?_
    refine me_istore_n X (i := 1) [(1, .int v4), (0, .ref (ad 63)), (2, .int x2_1)] (Nat.le_of_ble_eq_true rfl) rfl dX12_budget_37 ?_
    refine me_iinc X (v := (x2_1 + 1)) 2 rfl (in_1 _) [(2, .int (x2_1 + 1)), (1, .int v4), (0, .ref (ad 63))] (Nat.le_of_ble_eq_true rfl) rfl dX12_budget_38 ?_
    refine me_goto X 4 (by decide) dX12_budget_41 ?_
    obtain rfl := me_so h
    refine me_sub (L' := [(0, .ref (ad 63)), (1, .int v4), (2, .int (x2_1 + 1))]) [2, 1, 0] rfl ?_
    exact hb1 (v4, (x2_1 + 1)) rfl
def mX12_places_63_J27 (x2_1 : Int32) (x1_1 : Int32) (M : me_M) (s1 : Int32) : Option ((Int32 × Int32) ⊕ (Int32)) :=
  some (.inl ((x1_1 + s1), (x2_1 + 1)))
def mX12_places_63_L4 (M : me_M) : (Int32 × Int32) → Option ((Int32 × Int32) ⊕ (Int32))
  | (x1_1, x2_1) => (if (M.1 63 5) ≤ x2_1 then some (.inr x1_1) else ((me_r M 79 241 x2_1).bind fun v1 => (if v1 ≤ 0 then (mX12_places_63_J27 x2_1 x1_1 M 0) else (mX12_places_63_J27 x2_1 x1_1 M 1))))
def mX12_places_63 (M : me_M)  : Option Int32 :=
  ((me_l (mX12_places_63_L4 M) me_fu (0, 0)).bind fun y1_1 => some y1_1)
set_option maxRecDepth 100000 in
set_option maxHeartbeats 4000000 in
theorem ctX12_places_63 {l : Launch} {n nt : Nat} (hn : 424 ≤ n) (hnt : 4 ≤ nt) {M : me_M} {r : Int32} (h : mX12_places_63 M = some r) : me_Ct l yX12_places cX12_places 3 (some .int) 0 n nt (fun ad => [.ref (ad 63)]) M (fun _ => some (.int r)) M := by
  unfold mX12_places_63 at h
  refine me_enter (N0 := 424) RX12 rfl (plainFor_of_name pl_RX12) hn (Nat.le_trans (by decide) hnt) (fun _ => Nat.le_of_ble_eq_true rfl) ?_
  intro p e R s m args below meth c D cA ad tys A X hr hlk
  refine me_sub (L' := [(0, .ref (ad 63))]) [0] rfl ?_
  refine me_iconst X dX12_places_0 ic_0 ?_
  refine me_istore_n X (i := 1) [(1, .int 0), (0, .ref (ad 63))] (Nat.le_of_ble_eq_true rfl) rfl dX12_places_1 ?_
  refine me_iconst X dX12_places_2 ic_0 ?_
  refine me_istore_n X (i := 2) [(2, .int 0), (1, .int 0), (0, .ref (ad 63))] (Nat.le_of_ble_eq_true rfl) rfl dX12_places_3 ?_
  obtain ⟨y1_1, hq1, h⟩ := me_bd h
  have hx1 : me_W p l e R s m args below meth c 0 0 (MQ below (me_Qc D cA ad n A (some (.int r)) M) args s 0 0 A) D cA ad n 3 A 35 [(1, .int y1_1)] [] M := by
    refine me_iload_n X (i := 1) 0 rfl dX12_places_35 ?_
    obtain rfl := me_so h
    exact me_iret X hr hlk dX12_places_36
  refine me_sub (L' := [(0, .ref (ad 63)), (1, .int 0), (2, .int 0)]) [2, 1, 0] rfl ?_
  refine me_l_W (b := (mX12_places_63_L4 M)) (P := fun w => me_W p l e R s m args below meth c 0 0 (MQ below (me_Qc D cA ad n A (some (.int r)) M) args s 0 0 A) D cA ad n 3 A 4 [(0, .ref (ad 63)), (1, .int w.1), (2, .int w.2)] [] M) (r := y1_1) ?_ me_fu (0, 0) hq1
  rintro ⟨x1_1, x2_1⟩ z1 h hb1 - hr1
  unfold mX12_places_63_L4 at h
  refine me_iload_n X (i := 2) 2 rfl dX12_places_4 ?_
  refine me_aload_n X (i := 0) 0 rfl dX12_places_5 ?_
  refine me_geti X kF_X12_20 (Nat.le_of_ble_eq_true rfl) me_k63 me_f63_5 dX12_places_6 ?_
  refine me_icmp_ge X 35 (by decide) dX12_places_9 (fun c1 => ?_) (fun c1 => ?_)
  · have h := me_ip c1 h
    obtain rfl := me_so h
    have q := hr1 _ rfl
    refine me_sub (L' := [(1, .int x1_1)]) [1] rfl ?_
    cases q
    exact hx1
  · have h := me_in c1 h
    refine me_iload_n X (i := 1) 1 rfl dX12_places_12 ?_
    refine me_aload_n X (i := 0) 0 rfl dX12_places_13 ?_
    refine me_getr X 79 kF_X12_60 (Nat.le_of_ble_eq_true rfl) me_k63 me_f63_21 dX12_places_14 ?_
    refine me_iload_n X (i := 2) 2 rfl dX12_places_17 ?_
    obtain ⟨v1, e1, h⟩ := me_bd h
    refine me_iald X (Nat.le_of_ble_eq_true rfl) me_k79 e1 dX12_places_18 ?_
    have hj27_1 : ∀ (s1 : Int32), mX12_places_63_J27 x2_1 x1_1 M s1 = some z1 → me_W p l e R s m args below meth c 0 0 (MQ below (me_Qc D cA ad n A (some (.int r)) M) args s 0 0 A) D cA ad n 3 A 27 [(0, .ref (ad 63)), (2, .int x2_1)] [.int s1, .int x1_1] M := by
      intro s1 h
      unfold mX12_places_63_J27 at h
      refine me_iadd X dX12_places_27 ?_
      refine me_istore_n X (i := 1) [(1, .int (x1_1 + s1)), (0, .ref (ad 63)), (2, .int x2_1)] (Nat.le_of_ble_eq_true rfl) rfl dX12_places_28 ?_
      refine me_iinc X (v := (x2_1 + 1)) 2 rfl (in_1 _) [(2, .int (x2_1 + 1)), (1, .int (x1_1 + s1)), (0, .ref (ad 63))] (Nat.le_of_ble_eq_true rfl) rfl dX12_places_29 ?_
      refine me_goto X 4 (by decide) dX12_places_32 ?_
      obtain rfl := me_so h
      refine me_sub (L' := [(0, .ref (ad 63)), (1, .int (x1_1 + s1)), (2, .int (x2_1 + 1))]) [2, 1, 0] rfl ?_
      exact hb1 ((x1_1 + s1), (x2_1 + 1)) rfl
    refine me_if_le X 26 (by decide) dX12_places_19 (fun c2 => ?_) (fun c2 => ?_)
    · have h := me_ip c2 h
      refine me_iconst X dX12_places_26 ic_0 ?_
      refine me_sub (L' := [(0, .ref (ad 63)), (2, .int x2_1)]) [0, 2] rfl ?_
      exact hj27_1 0 h
    · have h := me_in c2 h
      refine me_iconst X dX12_places_22 ic_1 ?_
      refine me_goto X 27 (by decide) dX12_places_23 ?_
      refine me_sub (L' := [(0, .ref (ad 63)), (2, .int x2_1)]) [0, 2] rfl ?_
      exact hj27_1 1 h
def mX12_told_63_J21 (p0 : Int32) (s1 : Int32) (M1 : me_M) : Option (Int32 × me_M) :=
  ((mX12_bad_63 M1 s1 1 1).bind fun (v2, M2) => (if v2 = 0 then (if p0 = 0 then some ((M2.1 63 5), M2) else (if p0 = 1 then ((mX12_documents_63 M2).bind fun v3 => some (v3, M2)) else (if p0 = 2 then ((mX12_unlike_63 M2).bind fun v4 => some (v4, M2)) else (if p0 = 3 then some ((M2.1 63 6), M2) else (if p0 = 4 then ((mX12_letters_63 M2).bind fun v5 => some (v5, M2)) else (if p0 = 5 then ((mX12_lowOf_63 M2 (p0 - 5)).bind fun v6 => some (v6, M2)) else (if p0 = 6 then ((mX12_lowOf_63 M2 (p0 - 5)).bind fun v7 => some (v7, M2)) else (if p0 = 7 then ((mX12_sizeOf_63 M2).bind fun v8 => some (v8, M2)) else (if p0 = 8 then ((me_dv (M2.1 63 5) (M2.1 63 6)).bind fun v9 => some ((v9 + 1), M2)) else (if p0 = 9 then ((me_r M2 77 2 0).bind fun v10 => some (v10, M2)) else (if p0 = 10 then ((me_r M2 78 2 0).bind fun v11 => some (v11, M2)) else (if p0 = 11 then ((mX12_budget_63 M2).bind fun v12 => some (v12, M2)) else (if p0 = 12 then some ((M2.1 63 2), M2) else (if (M2.1 63 17) = 0 then some ((-1), M2) else ((mX12_places_63 M2).bind fun v13 => some (v13, M2)))))))))))))))) else some (0, M2)))
def mX12_told_63 (M : me_M) (p0 : Int32) : Option (Int32 × me_M) :=
  ((mX12_in p0 0 13).bind fun v1 => (if v1 = 0 then (mX12_told_63_J21 p0 1 (me_s M 63 0 0)) else (mX12_told_63_J21 p0 0 (me_s M 63 0 0))))
set_option maxRecDepth 100000 in
set_option maxHeartbeats 4000000 in
theorem ctX12_told_63 {l : Launch} {n nt : Nat} (hn : 424 ≤ n) (hnt : 4 ≤ nt) {M : me_M} {p0 : Int32} {r : Int32} {M' : me_M} (h : mX12_told_63 M p0 = some (r, M')) : me_Ct l yX12_told cX12_told 2 (some .int) 3 n nt (fun ad => [.ref (ad 63), .int p0]) M (fun _ => some (.int r)) M' := by
  unfold mX12_told_63 at h
  refine me_enter (N0 := 424) RX12 rfl (plainFor_of_name pl_RX12) hn (Nat.le_trans (by decide) hnt) (fun _ => Nat.le_of_ble_eq_true rfl) ?_
  intro p e R s m args below meth c D cA ad tys A X hr hlk
  refine me_sub (L' := [(0, .ref (ad 63)), (1, .int p0)]) [0, 1] rfl ?_
  refine me_aload_n X (i := 0) 0 rfl dX12_told_0 ?_
  refine me_iconst X dX12_told_1 ic_0 ?_
  refine me_puti X kG_X12_105 (Nat.le_of_ble_eq_true rfl) me_k63 me_f63_0 dX12_told_2 ?_
  refine me_aload_n X (i := 0) 0 rfl dX12_told_5 ?_
  refine me_iload_n X (i := 1) 1 rfl dX12_told_6 ?_
  refine me_iconst X dX12_told_7 ic_0 ?_
  refine me_bipush X dX12_told_8 ib_13 ?_
  obtain ⟨v1, e1, h⟩ := me_bd h
  refine me_callSi X [.int p0, .int 0, .int 13] (ctX12_in hn (Nat.le_trans (by decide) hnt) e1) kS_X12_108 rfl rfl (Nat.le_of_ble_eq_true rfl) (Nat.le_refl _) (Nat.le_of_ble_eq_true rfl) dX12_told_10 ?_
  have hj21_1 : ∀ (s1 : Int32) (M1 : me_M), mX12_told_63_J21 p0 s1 M1 = some (r, M') → me_W p l e R s m args below meth c 0 0 (MQ below (me_Qc D cA ad n A (some (.int r)) M') args s 0 0 A) D cA ad n 2 A 21 [(0, .ref (ad 63)), (1, .int p0)] [.int s1, .ref (ad 63)] M1 := by
    intro s1 M1 h
    unfold mX12_told_63_J21 at h
    refine me_iconst X dX12_told_21 ic_1 ?_
    refine me_iconst X dX12_told_22 ic_1 ?_
    obtain ⟨⟨v2, M2⟩, e2, h⟩ := me_bd h
    refine me_callVi X [.int s1, .int 1, .int 1] (ctX12_bad_63 hn (Nat.le_trans (by decide) hnt) e2) kV_X12_122 rfl rfl (Nat.le_of_ble_eq_true rfl) me_k63 (Nat.le_of_ble_eq_true rfl) (Nat.le_refl _) (Nat.le_of_ble_eq_true rfl) dX12_told_23 ?_
    refine me_if_eq X 31 (by decide) dX12_told_26 (fun c2 => ?_) (fun c2 => ?_)
    · have h := me_ip c2 h
      refine me_iload_n X (i := 1) 1 rfl dX12_told_31 ?_
      by_cases c3 : p0 = 0
      · have h := me_ip c3 h
        refine me_tin X (off := 68) 100 (by rw [c3]; decide) (by rw [c3]; decide) (by rw [c3] <;> decide) (by decide) dX12_told_32 ?_
        refine me_aload_n X (i := 0) 0 rfl dX12_told_100 ?_
        refine me_geti X kF_X12_20 (Nat.le_of_ble_eq_true rfl) me_k63 me_f63_5 dX12_told_101 ?_
        obtain ⟨rfl, rfl⟩ := me_sp h
        exact me_iret X hr hlk dX12_told_104
      · have h := me_in c3 h
        by_cases c4 : p0 = 1
        · have h := me_ip c4 h
          refine me_tin X (off := 73) 105 (by rw [c4]; decide) (by rw [c4]; decide) (by rw [c4] <;> decide) (by decide) dX12_told_32 ?_
          refine me_aload_n X (i := 0) 0 rfl dX12_told_105 ?_
          obtain ⟨v3, e3, h⟩ := me_bd h
          refine me_callVi X [] (ctX12_documents_63 hn (Nat.le_trans (by decide) hnt) e3) kV_X12_205 rfl rfl (Nat.le_of_ble_eq_true rfl) me_k63 (Nat.le_of_ble_eq_true rfl) (Nat.le_refl _) (Nat.le_of_ble_eq_true rfl) dX12_told_106 ?_
          obtain ⟨rfl, rfl⟩ := me_sp h
          exact me_iret X hr hlk dX12_told_109
        · have h := me_in c4 h
          by_cases c5 : p0 = 2
          · have h := me_ip c5 h
            refine me_tin X (off := 78) 110 (by rw [c5]; decide) (by rw [c5]; decide) (by rw [c5] <;> decide) (by decide) dX12_told_32 ?_
            refine me_aload_n X (i := 0) 0 rfl dX12_told_110 ?_
            obtain ⟨v4, e4, h⟩ := me_bd h
            refine me_callVi X [] (ctX12_unlike_63 hn (Nat.le_trans (by decide) hnt) e4) kV_X12_208 rfl rfl (Nat.le_of_ble_eq_true rfl) me_k63 (Nat.le_of_ble_eq_true rfl) (Nat.le_refl _) (Nat.le_of_ble_eq_true rfl) dX12_told_111 ?_
            obtain ⟨rfl, rfl⟩ := me_sp h
            exact me_iret X hr hlk dX12_told_114
          · have h := me_in c5 h
            by_cases c6 : p0 = 3
            · have h := me_ip c6 h
              refine me_tin X (off := 83) 115 (by rw [c6]; decide) (by rw [c6]; decide) (by rw [c6] <;> decide) (by decide) dX12_told_32 ?_
              refine me_aload_n X (i := 0) 0 rfl dX12_told_115 ?_
              refine me_geti X kF_X12_23 (Nat.le_of_ble_eq_true rfl) me_k63 me_f63_6 dX12_told_116 ?_
              obtain ⟨rfl, rfl⟩ := me_sp h
              exact me_iret X hr hlk dX12_told_119
            · have h := me_in c6 h
              by_cases c7 : p0 = 4
              · have h := me_ip c7 h
                refine me_tin X (off := 88) 120 (by rw [c7]; decide) (by rw [c7]; decide) (by rw [c7] <;> decide) (by decide) dX12_told_32 ?_
                refine me_aload_n X (i := 0) 0 rfl dX12_told_120 ?_
                obtain ⟨v5, e5, h⟩ := me_bd h
                refine me_callVi X [] (ctX12_letters_63 hn (Nat.le_trans (by decide) hnt) e5) kV_X12_183 rfl rfl (Nat.le_of_ble_eq_true rfl) me_k63 (Nat.le_of_ble_eq_true rfl) (Nat.le_refl _) (Nat.le_of_ble_eq_true rfl) dX12_told_121 ?_
                obtain ⟨rfl, rfl⟩ := me_sp h
                exact me_iret X hr hlk dX12_told_124
              · have h := me_in c7 h
                by_cases c8 : p0 = 5
                · have h := me_ip c8 h
                  refine me_tin X (off := 93) 125 (by rw [c8]; decide) (by rw [c8]; decide) (by rw [c8] <;> decide) (by decide) dX12_told_32 ?_
                  refine me_aload_n X (i := 0) 0 rfl dX12_told_125 ?_
                  refine me_iload_n X (i := 1) 1 rfl dX12_told_126 ?_
                  refine me_iconst X dX12_told_127 ic_5 ?_
                  refine me_isub X dX12_told_128 ?_
                  obtain ⟨v6, e6, h⟩ := me_bd h
                  refine me_callVi X [.int (p0 - 5)] (ctX12_lowOf_63 hn (Nat.le_trans (by decide) hnt) e6) kV_X12_211 rfl rfl (Nat.le_of_ble_eq_true rfl) me_k63 (Nat.le_of_ble_eq_true rfl) (Nat.le_refl _) (Nat.le_of_ble_eq_true rfl) dX12_told_129 ?_
                  obtain ⟨rfl, rfl⟩ := me_sp h
                  exact me_iret X hr hlk dX12_told_132
                · have h := me_in c8 h
                  by_cases c9 : p0 = 6
                  · have h := me_ip c9 h
                    refine me_tin X (off := 93) 125 (by rw [c9]; decide) (by rw [c9]; decide) (by rw [c9] <;> decide) (by decide) dX12_told_32 ?_
                    refine me_aload_n X (i := 0) 0 rfl dX12_told_125 ?_
                    refine me_iload_n X (i := 1) 1 rfl dX12_told_126 ?_
                    refine me_iconst X dX12_told_127 ic_5 ?_
                    refine me_isub X dX12_told_128 ?_
                    obtain ⟨v7, e7, h⟩ := me_bd h
                    refine me_callVi X [.int (p0 - 5)] (ctX12_lowOf_63 hn (Nat.le_trans (by decide) hnt) e7) kV_X12_211 rfl rfl (Nat.le_of_ble_eq_true rfl) me_k63 (Nat.le_of_ble_eq_true rfl) (Nat.le_refl _) (Nat.le_of_ble_eq_true rfl) dX12_told_129 ?_
                    obtain ⟨rfl, rfl⟩ := me_sp h
                    exact me_iret X hr hlk dX12_told_132
                  · have h := me_in c9 h
                    by_cases c10 : p0 = 7
                    · have h := me_ip c10 h
                      refine me_tin X (off := 101) 133 (by rw [c10]; decide) (by rw [c10]; decide) (by rw [c10] <;> decide) (by decide) dX12_told_32 ?_
                      refine me_aload_n X (i := 0) 0 rfl dX12_told_133 ?_
                      obtain ⟨v8, e8, h⟩ := me_bd h
                      refine me_callVi X [] (ctX12_sizeOf_63 hn (Nat.le_trans (by decide) hnt) e8) kV_X12_190 rfl rfl (Nat.le_of_ble_eq_true rfl) me_k63 (Nat.le_of_ble_eq_true rfl) (Nat.le_refl _) (Nat.le_of_ble_eq_true rfl) dX12_told_134 ?_
                      obtain ⟨rfl, rfl⟩ := me_sp h
                      exact me_iret X hr hlk dX12_told_137
                    · have h := me_in c10 h
                      by_cases c11 : p0 = 8
                      · have h := me_ip c11 h
                        refine me_tin X (off := 106) 138 (by rw [c11]; decide) (by rw [c11]; decide) (by rw [c11] <;> decide) (by decide) dX12_told_32 ?_
                        refine me_aload_n X (i := 0) 0 rfl dX12_told_138 ?_
                        refine me_geti X kF_X12_20 (Nat.le_of_ble_eq_true rfl) me_k63 me_f63_5 dX12_told_139 ?_
                        refine me_aload_n X (i := 0) 0 rfl dX12_told_142 ?_
                        refine me_geti X kF_X12_23 (Nat.le_of_ble_eq_true rfl) me_k63 me_f63_6 dX12_told_143 ?_
                        obtain ⟨v9, e9, h⟩ := me_bd h
                        refine me_idiv X e9 dX12_told_146 ?_
                        refine me_iconst X dX12_told_147 ic_1 ?_
                        refine me_iadd X dX12_told_148 ?_
                        obtain ⟨rfl, rfl⟩ := me_sp h
                        exact me_iret X hr hlk dX12_told_149
                      · have h := me_in c11 h
                        by_cases c12 : p0 = 9
                        · have h := me_ip c12 h
                          refine me_tin X (off := 118) 150 (by rw [c12]; decide) (by rw [c12]; decide) (by rw [c12] <;> decide) (by decide) dX12_told_32 ?_
                          refine me_aload_n X (i := 0) 0 rfl dX12_told_150 ?_
                          refine me_getr X 77 kF_X12_49 (Nat.le_of_ble_eq_true rfl) me_k63 me_f63_14 dX12_told_151 ?_
                          refine me_iconst X dX12_told_154 ic_0 ?_
                          obtain ⟨v10, e10, h⟩ := me_bd h
                          refine me_iald X (Nat.le_of_ble_eq_true rfl) me_k77 e10 dX12_told_155 ?_
                          obtain ⟨rfl, rfl⟩ := me_sp h
                          exact me_iret X hr hlk dX12_told_156
                        · have h := me_in c12 h
                          by_cases c13 : p0 = 10
                          · have h := me_ip c13 h
                            refine me_tin X (off := 125) 157 (by rw [c13]; decide) (by rw [c13]; decide) (by rw [c13] <;> decide) (by decide) dX12_told_32 ?_
                            refine me_aload_n X (i := 0) 0 rfl dX12_told_157 ?_
                            refine me_getr X 78 kF_X12_52 (Nat.le_of_ble_eq_true rfl) me_k63 me_f63_15 dX12_told_158 ?_
                            refine me_iconst X dX12_told_161 ic_0 ?_
                            obtain ⟨v11, e11, h⟩ := me_bd h
                            refine me_iald X (Nat.le_of_ble_eq_true rfl) me_k78 e11 dX12_told_162 ?_
                            obtain ⟨rfl, rfl⟩ := me_sp h
                            exact me_iret X hr hlk dX12_told_163
                          · have h := me_in c13 h
                            by_cases c14 : p0 = 11
                            · have h := me_ip c14 h
                              refine me_tin X (off := 132) 164 (by rw [c14]; decide) (by rw [c14]; decide) (by rw [c14] <;> decide) (by decide) dX12_told_32 ?_
                              refine me_aload_n X (i := 0) 0 rfl dX12_told_164 ?_
                              obtain ⟨v12, e12, h⟩ := me_bd h
                              refine me_callVi X [] (ctX12_budget_63 hn (Nat.le_trans (by decide) hnt) e12) kV_X12_214 rfl rfl (Nat.le_of_ble_eq_true rfl) me_k63 (Nat.le_of_ble_eq_true rfl) (Nat.le_refl _) (Nat.le_of_ble_eq_true rfl) dX12_told_165 ?_
                              obtain ⟨rfl, rfl⟩ := me_sp h
                              exact me_iret X hr hlk dX12_told_168
                            · have h := me_in c14 h
                              by_cases c15 : p0 = 12
                              · have h := me_ip c15 h
                                refine me_tin X (off := 137) 169 (by rw [c15]; decide) (by rw [c15]; decide) (by rw [c15] <;> decide) (by decide) dX12_told_32 ?_
                                refine me_aload_n X (i := 0) 0 rfl dX12_told_169 ?_
                                refine me_geti X kF_X12_115 (Nat.le_of_ble_eq_true rfl) me_k63 me_f63_2 dX12_told_170 ?_
                                obtain ⟨rfl, rfl⟩ := me_sp h
                                exact me_iret X hr hlk dX12_told_173
                              · have h := me_in c15 h
                                refine me_tout X 174 (by have q0 := lv_neT (k := 0) (a := 0) c3 (by decide); have q1 := lv_neT (k := 1) (a := 1) c4 (by decide); have q2 := lv_neT (k := 2) (a := 2) c5 (by decide); have q3 := lv_neT (k := 3) (a := 3) c6 (by decide); have q4 := lv_neT (k := 4) (a := 4) c7 (by decide); have q5 := lv_neT (k := 5) (a := 5) c8 (by decide); have q6 := lv_neT (k := 6) (a := 6) c9 (by decide); have q7 := lv_neT (k := 7) (a := 7) c10 (by decide); have q8 := lv_neT (k := 8) (a := 8) c11 (by decide); have q9 := lv_neT (k := 9) (a := 9) c12 (by decide); have q10 := lv_neT (k := 10) (a := 10) c13 (by decide); have q11 := lv_neT (k := 11) (a := 11) c14 (by decide); have q12 := lv_neT (k := 12) (a := 12) c15 (by decide); omega) (by decide) dX12_told_32 ?_
                                refine me_aload_n X (i := 0) 0 rfl dX12_told_174 ?_
                                refine me_geti X kF_X12_130 (Nat.le_of_ble_eq_true rfl) me_k63 me_f63_17 dX12_told_175 ?_
                                refine me_if_eq X 188 (by decide) dX12_told_178 (fun c16 => ?_) (fun c16 => ?_)
                                · have h := me_ip c16 h
                                  refine me_iconst X dX12_told_188 ic_m1 ?_
                                  obtain ⟨rfl, rfl⟩ := me_sp h
                                  exact me_iret X hr hlk dX12_told_189
                                · have h := me_in c16 h
                                  refine me_aload_n X (i := 0) 0 rfl dX12_told_181 ?_
                                  obtain ⟨v13, e13, h⟩ := me_bd h
                                  refine me_callVi X [] (ctX12_places_63 hn (Nat.le_trans (by decide) hnt) e13) kV_X12_217 rfl rfl (Nat.le_of_ble_eq_true rfl) me_k63 (Nat.le_of_ble_eq_true rfl) (Nat.le_refl _) (Nat.le_of_ble_eq_true rfl) dX12_told_182 ?_
                                  refine me_goto X 189 (by decide) dX12_told_185 ?_
                                  obtain ⟨rfl, rfl⟩ := me_sp h
                                  exact me_iret X hr hlk dX12_told_189
    · have h := me_in c2 h
      refine me_iconst X dX12_told_29 ic_0 ?_
      obtain ⟨rfl, rfl⟩ := me_sp h
      exact me_iret X hr hlk dX12_told_30
  refine me_if_ne X 20 (by decide) dX12_told_13 (fun c1 => ?_) (fun c1 => ?_)
  · have h := me_in c1 h
    refine me_iconst X dX12_told_20 ic_0 ?_
    exact hj21_1 0 (me_s M 63 0 0) h
  · have h := me_ip c1 h
    refine me_iconst X dX12_told_16 ic_1 ?_
    refine me_goto X 21 (by decide) dX12_told_17 ?_
    exact hj21_1 1 (me_s M 63 0 0) h
def mX12_isPlace_63 (M : me_M) (p0 : Int32) : Option Int32 :=
  ((mX12_in p0 0 (M.1 63 5)).bind fun v1 => (if v1 = 0 ∨ v1 = 1 then some v1 else none))
set_option maxRecDepth 100000 in
set_option maxHeartbeats 4000000 in
theorem ctX12_isPlace_63 {l : Launch} {n nt : Nat} (hn : 424 ≤ n) (hnt : 4 ≤ nt) {M : me_M} {p0 : Int32} {r : Int32} (h : mX12_isPlace_63 M p0 = some r) : me_Ct l yX12_isPlace cX12_isPlace 2 (some .boolean) 1 n nt (fun ad => [.ref (ad 63), .int p0]) M (fun _ => some (.int r)) M := by
  unfold mX12_isPlace_63 at h
  refine me_enter (N0 := 424) RX12 rfl (plainFor_of_name pl_RX12) hn (Nat.le_trans (by decide) hnt) (fun _ => Nat.le_of_ble_eq_true rfl) ?_
  intro p e R s m args below meth c D cA ad tys A X hr hlk
  refine me_sub (L' := [(0, .ref (ad 63)), (1, .int p0)]) [0, 1] rfl ?_
  refine me_iload_n X (i := 1) 1 rfl dX12_isPlace_0 ?_
  refine me_iconst X dX12_isPlace_1 ic_0 ?_
  refine me_aload_n X (i := 0) 0 rfl dX12_isPlace_2 ?_
  refine me_geti X kF_X12_20 (Nat.le_of_ble_eq_true rfl) me_k63 me_f63_5 dX12_isPlace_3 ?_
  obtain ⟨v1, e1, h⟩ := me_bd h
  refine me_callSi X [.int p0, .int 0, .int (M.1 63 5)] (ctX12_in hn (Nat.le_trans (by decide) hnt) e1) kS_X12_108 rfl rfl (Nat.le_of_ble_eq_true rfl) (Nat.le_refl _) (Nat.le_of_ble_eq_true rfl) dX12_isPlace_6 ?_
  by_cases c1 : v1 = 0 ∨ v1 = 1
  · have h := me_ip c1 h
    obtain rfl := me_so h
    exact me_zret X (me_z c1) hr hlk dX12_isPlace_9
  · have h := me_in c1 h
    cases h
def mX12_isRow_63 (M : me_M) (p0 : Int32) (p1 : Int32) : Option Int32 :=
  ((mX12_in p0 0 1).bind fun v1 => (if v1 = 0 then some 0 else ((mX12_isPlace_63 M p1).bind fun v2 => (if v2 = 0 then some 0 else some 1))))
set_option maxRecDepth 100000 in
set_option maxHeartbeats 4000000 in
theorem ctX12_isRow_63 {l : Launch} {n nt : Nat} (hn : 424 ≤ n) (hnt : 4 ≤ nt) {M : me_M} {p0 : Int32} {p1 : Int32} {r : Int32} (h : mX12_isRow_63 M p0 p1 = some r) : me_Ct l yX12_isRow cX12_isRow 3 (some .boolean) 2 n nt (fun ad => [.ref (ad 63), .int p0, .int p1]) M (fun _ => some (.int r)) M := by
  unfold mX12_isRow_63 at h
  refine me_enter (N0 := 424) RX12 rfl (plainFor_of_name pl_RX12) hn (Nat.le_trans (by decide) hnt) (fun _ => Nat.le_of_ble_eq_true rfl) ?_
  intro p e R s m args below meth c D cA ad tys A X hr hlk
  refine me_sub (L' := [(0, .ref (ad 63)), (1, .int p0), (2, .int p1)]) [0, 1, 2] rfl ?_
  refine me_iload_n X (i := 1) 1 rfl dX12_isRow_0 ?_
  refine me_iconst X dX12_isRow_1 ic_0 ?_
  refine me_iconst X dX12_isRow_2 ic_1 ?_
  obtain ⟨v1, e1, h⟩ := me_bd h
  refine me_callSi X [.int p0, .int 0, .int 1] (ctX12_in hn (Nat.le_trans (by decide) hnt) e1) kS_X12_108 rfl rfl (Nat.le_of_ble_eq_true rfl) (Nat.le_refl _) (Nat.le_of_ble_eq_true rfl) dX12_isRow_3 ?_
  refine me_if_eq X 21 (by decide) dX12_isRow_6 (fun c1 => ?_) (fun c1 => ?_)
  · have h := me_ip c1 h
    refine me_iconst X dX12_isRow_21 ic_0 ?_
    obtain rfl := me_so h
    exact me_zret X (by decide) hr hlk dX12_isRow_22
  · have h := me_in c1 h
    refine me_aload_n X (i := 0) 0 rfl dX12_isRow_9 ?_
    refine me_iload_n X (i := 2) 2 rfl dX12_isRow_10 ?_
    obtain ⟨v2, e2, h⟩ := me_bd h
    refine me_callVi X [.int p1] (ctX12_isPlace_63 hn (Nat.le_trans (by decide) hnt) e2) kV_X12_220 rfl rfl (Nat.le_of_ble_eq_true rfl) me_k63 (Nat.le_of_ble_eq_true rfl) (Nat.le_refl _) (Nat.le_of_ble_eq_true rfl) dX12_isRow_11 ?_
    refine me_if_eq X 21 (by decide) dX12_isRow_14 (fun c2 => ?_) (fun c2 => ?_)
    · have h := me_ip c2 h
      refine me_iconst X dX12_isRow_21 ic_0 ?_
      obtain rfl := me_so h
      exact me_zret X (by decide) hr hlk dX12_isRow_22
    · have h := me_in c2 h
      refine me_iconst X dX12_isRow_17 ic_1 ?_
      refine me_goto X 22 (by decide) dX12_isRow_18 ?_
      obtain rfl := me_so h
      exact me_zret X (by decide) hr hlk dX12_isRow_22
def mX12_sign_63_J19 (p0 : Int32) (s1 : Int32) (M1 : me_M) : Option (Int32 × me_M) :=
  ((mX12_bad_63 M1 s1 1 0).bind fun (v2, M2) => (if v2 = 0 then ((me_r M2 67 241 p0).bind fun v3 => ((mX12_byteOf v3).bind fun v4 => some (v4, M2))) else some (0, M2)))
def mX12_sign_63 (M : me_M) (p0 : Int32) : Option (Int32 × me_M) :=
  ((mX12_isPlace_63 (me_s M 63 0 0) p0).bind fun v1 => (if v1 = 0 then (mX12_sign_63_J19 p0 1 (me_s M 63 0 0)) else (mX12_sign_63_J19 p0 0 (me_s M 63 0 0))))
set_option maxRecDepth 100000 in
set_option maxHeartbeats 4000000 in
theorem ctX12_sign_63 {l : Launch} {n nt : Nat} (hn : 424 ≤ n) (hnt : 4 ≤ nt) {M : me_M} {p0 : Int32} {r : Int32} {M' : me_M} (h : mX12_sign_63 M p0 = some (r, M')) : me_Ct l yX12_sign cX12_sign 2 (some .int) 2 n nt (fun ad => [.ref (ad 63), .int p0]) M (fun _ => some (.int r)) M' := by
  unfold mX12_sign_63 at h
  refine me_enter (N0 := 424) RX12 rfl (plainFor_of_name pl_RX12) hn (Nat.le_trans (by decide) hnt) (fun _ => Nat.le_of_ble_eq_true rfl) ?_
  intro p e R s m args below meth c D cA ad tys A X hr hlk
  refine me_sub (L' := [(0, .ref (ad 63)), (1, .int p0)]) [0, 1] rfl ?_
  refine me_aload_n X (i := 0) 0 rfl dX12_sign_0 ?_
  refine me_iconst X dX12_sign_1 ic_0 ?_
  refine me_puti X kG_X12_105 (Nat.le_of_ble_eq_true rfl) me_k63 me_f63_0 dX12_sign_2 ?_
  refine me_aload_n X (i := 0) 0 rfl dX12_sign_5 ?_
  refine me_aload_n X (i := 0) 0 rfl dX12_sign_6 ?_
  refine me_iload_n X (i := 1) 1 rfl dX12_sign_7 ?_
  obtain ⟨v1, e1, h⟩ := me_bd h
  refine me_callVi X [.int p0] (ctX12_isPlace_63 hn (Nat.le_trans (by decide) hnt) e1) kV_X12_220 rfl rfl (Nat.le_of_ble_eq_true rfl) me_k63 (Nat.le_of_ble_eq_true rfl) (Nat.le_refl _) (Nat.le_of_ble_eq_true rfl) dX12_sign_8 ?_
  have hj19_1 : ∀ (s1 : Int32) (M1 : me_M), mX12_sign_63_J19 p0 s1 M1 = some (r, M') → me_W p l e R s m args below meth c 0 0 (MQ below (me_Qc D cA ad n A (some (.int r)) M') args s 0 0 A) D cA ad n 2 A 19 [(0, .ref (ad 63)), (1, .int p0)] [.int s1, .ref (ad 63)] M1 := by
    intro s1 M1 h
    unfold mX12_sign_63_J19 at h
    refine me_iconst X dX12_sign_19 ic_1 ?_
    refine me_iconst X dX12_sign_20 ic_0 ?_
    obtain ⟨⟨v2, M2⟩, e2, h⟩ := me_bd h
    refine me_callVi X [.int s1, .int 1, .int 0] (ctX12_bad_63 hn (Nat.le_trans (by decide) hnt) e2) kV_X12_122 rfl rfl (Nat.le_of_ble_eq_true rfl) me_k63 (Nat.le_of_ble_eq_true rfl) (Nat.le_refl _) (Nat.le_of_ble_eq_true rfl) dX12_sign_21 ?_
    refine me_if_eq X 29 (by decide) dX12_sign_24 (fun c2 => ?_) (fun c2 => ?_)
    · have h := me_ip c2 h
      refine me_aload_n X (i := 0) 0 rfl dX12_sign_29 ?_
      refine me_getr X 66 kF_X12_28 (Nat.le_of_ble_eq_true rfl) me_k63 me_f63_7 dX12_sign_30 ?_
      refine me_iconst X dX12_sign_33 ic_0 ?_
      refine me_aald X (j := 67) (Nat.le_of_ble_eq_true rfl) ⟨by decide, by decide, Nat.lt_of_lt_of_le (by decide) hnt⟩ me_k66 (by decide) dX12_sign_34 ?_
      refine me_iload_n X (i := 1) 1 rfl dX12_sign_35 ?_
      obtain ⟨v3, e3, h⟩ := me_bd h
      refine me_iald X (Nat.le_of_ble_eq_true rfl) me_k67 e3 dX12_sign_36 ?_
      obtain ⟨v4, e4, h⟩ := me_bd h
      refine me_callSi X [.int v3] (ctX12_byteOf hn (Nat.le_trans (by decide) hnt) e4) kS_X12_223 rfl rfl (Nat.le_of_ble_eq_true rfl) (Nat.le_refl _) (Nat.le_of_ble_eq_true rfl) dX12_sign_37 ?_
      obtain ⟨rfl, rfl⟩ := me_sp h
      exact me_iret X hr hlk dX12_sign_40
    · have h := me_in c2 h
      refine me_iconst X dX12_sign_27 ic_0 ?_
      obtain ⟨rfl, rfl⟩ := me_sp h
      exact me_iret X hr hlk dX12_sign_28
  refine me_if_ne X 18 (by decide) dX12_sign_11 (fun c1 => ?_) (fun c1 => ?_)
  · have h := me_in c1 h
    refine me_iconst X dX12_sign_18 ic_0 ?_
    exact hj19_1 0 (me_s M 63 0 0) h
  · have h := me_ip c1 h
    refine me_iconst X dX12_sign_14 ic_1 ?_
    refine me_goto X 19 (by decide) dX12_sign_15 ?_
    exact hj19_1 1 (me_s M 63 0 0) h
def mX12_before_63 (M : me_M) (p0 : Int32) (p1 : Int32) : Option Int32 :=
  ((me_a 2 70 p0).bind fun a1 => ((me_r M a1 241 p1).bind fun v1 => (if v1 = 0 then some 0 else ((me_a 2 67 p0).bind fun a2 => ((me_a 2 70 p0).bind fun a3 => ((me_r M a3 241 p1).bind fun v2 => ((me_r M a2 241 (v2 - 1)).bind fun v3 => some v3)))))))
set_option maxRecDepth 100000 in
set_option maxHeartbeats 4000000 in
theorem ctX12_before_63 {l : Launch} {n nt : Nat} (hn : 424 ≤ n) (hnt : 4 ≤ nt) {M : me_M} {p0 : Int32} {p1 : Int32} {r : Int32} (h : mX12_before_63 M p0 p1 = some r) : me_Ct l yX12_before cX12_before 3 (some .int) 0 n nt (fun ad => [.ref (ad 63), .int p0, .int p1]) M (fun _ => some (.int r)) M := by
  unfold mX12_before_63 at h
  refine me_enter (N0 := 424) RX12 rfl (plainFor_of_name pl_RX12) hn (Nat.le_trans (by decide) hnt) (fun _ => Nat.le_of_ble_eq_true rfl) ?_
  intro p e R s m args below meth c D cA ad tys A X hr hlk
  refine me_sub (L' := [(0, .ref (ad 63)), (1, .int p0), (2, .int p1)]) [0, 1, 2] rfl ?_
  refine me_aload_n X (i := 0) 0 rfl dX12_before_0 ?_
  refine me_getr X 69 kF_X12_31 (Nat.le_of_ble_eq_true rfl) me_k63 me_f63_8 dX12_before_1 ?_
  refine me_iload_n X (i := 1) 1 rfl dX12_before_4 ?_
  obtain ⟨a1, e1, h⟩ := me_bd h
  have f_a1 := me_f70 e1
  refine me_aald X (Nat.le_of_ble_eq_true rfl) ⟨by decide, by decide, Nat.lt_of_lt_of_le (by decide) hnt⟩ me_k69 e1 dX12_before_5 ?_
  refine me_iload_n X (i := 2) 2 rfl dX12_before_6 ?_
  obtain ⟨v1, e2, h⟩ := me_bd h
  refine me_iald X f_a1.2 f_a1.1 e2 dX12_before_7 ?_
  refine me_if_ne X 15 (by decide) dX12_before_8 (fun c1 => ?_) (fun c1 => ?_)
  · have h := me_in c1 h
    refine me_aload_n X (i := 0) 0 rfl dX12_before_15 ?_
    refine me_getr X 66 kF_X12_28 (Nat.le_of_ble_eq_true rfl) me_k63 me_f63_7 dX12_before_16 ?_
    refine me_iload_n X (i := 1) 1 rfl dX12_before_19 ?_
    obtain ⟨a2, e3, h⟩ := me_bd h
    have f_a2 := me_f67 e3
    refine me_aald X (Nat.le_of_ble_eq_true rfl) ⟨by decide, by decide, Nat.lt_of_lt_of_le (by decide) hnt⟩ me_k66 e3 dX12_before_20 ?_
    refine me_aload_n X (i := 0) 0 rfl dX12_before_21 ?_
    refine me_getr X 69 kF_X12_31 (Nat.le_of_ble_eq_true rfl) me_k63 me_f63_8 dX12_before_22 ?_
    refine me_iload_n X (i := 1) 1 rfl dX12_before_25 ?_
    obtain ⟨a3, e4, h⟩ := me_bd h
    have f_a3 := me_f70 e4
    refine me_aald X (Nat.le_of_ble_eq_true rfl) ⟨by decide, by decide, Nat.lt_of_lt_of_le (by decide) hnt⟩ me_k69 e4 dX12_before_26 ?_
    refine me_iload_n X (i := 2) 2 rfl dX12_before_27 ?_
    obtain ⟨v2, e5, h⟩ := me_bd h
    refine me_iald X f_a3.2 f_a3.1 e5 dX12_before_28 ?_
    refine me_iconst X dX12_before_29 ic_1 ?_
    refine me_isub X dX12_before_30 ?_
    obtain ⟨v3, e6, h⟩ := me_bd h
    refine me_iald X f_a2.2 f_a2.1 e6 dX12_before_31 ?_
    obtain rfl := me_so h
    exact me_iret X hr hlk dX12_before_32
  · have h := me_ip c1 h
    refine me_iconst X dX12_before_11 ic_0 ?_
    refine me_goto X 32 (by decide) dX12_before_12 ?_
    obtain rfl := me_so h
    exact me_iret X hr hlk dX12_before_32
def mX12_alike_63_L30 (M : me_M) (p0 : Int32) (v1 : Int32) (v2 : Int32) : (Int32) → Option ((Int32) ⊕ (Int32))
  | x5_1 => (if (M.1 63 5) ≤ (v1 + x5_1) then some (.inr x5_1) else (if (M.1 63 5) ≤ (v2 + x5_1) then some (.inr x5_1) else ((me_a 2 67 p0).bind fun a3 => ((me_r M a3 241 (v1 + x5_1)).bind fun v3 => ((me_a 2 67 p0).bind fun a4 => ((me_r M a4 241 (v2 + x5_1)).bind fun v4 => (if v3 = v4 then some (.inl (x5_1 + 1)) else some (.inr x5_1))))))))
def mX12_alike_63 (M : me_M) (p0 : Int32) (p1 : Int32) : Option Int32 :=
  (if p1 = 0 then some 0 else ((me_a 2 70 p0).bind fun a1 => ((me_r M a1 241 p1).bind fun v1 => ((me_a 2 70 p0).bind fun a2 => ((me_r M a2 241 (p1 - 1)).bind fun v2 => ((me_l (mX12_alike_63_L30 M p0 v1 v2) me_fu 0).bind fun y5_1 => some y5_1))))))
set_option maxRecDepth 100000 in
set_option maxHeartbeats 4000000 in
theorem ctX12_alike_63 {l : Launch} {n nt : Nat} (hn : 424 ≤ n) (hnt : 4 ≤ nt) {M : me_M} {p0 : Int32} {p1 : Int32} {r : Int32} (h : mX12_alike_63 M p0 p1 = some r) : me_Ct l yX12_alike cX12_alike 6 (some .int) 0 n nt (fun ad => [.ref (ad 63), .int p0, .int p1]) M (fun _ => some (.int r)) M := by
  unfold mX12_alike_63 at h
  refine me_enter (N0 := 424) RX12 rfl (plainFor_of_name pl_RX12) hn (Nat.le_trans (by decide) hnt) (fun _ => Nat.le_of_ble_eq_true rfl) ?_
  intro p e R s m args below meth c D cA ad tys A X hr hlk
  refine me_sub (L' := [(0, .ref (ad 63)), (1, .int p0), (2, .int p1)]) [0, 1, 2] rfl ?_
  refine me_iload_n X (i := 2) 2 rfl dX12_alike_0 ?_
  refine me_if_ne X 6 (by decide) dX12_alike_1 (fun c1 => ?_) (fun c1 => ?_)
  · have h := me_in c1 h
    refine me_aload_n X (i := 0) 0 rfl dX12_alike_6 ?_
    refine me_getr X 69 kF_X12_31 (Nat.le_of_ble_eq_true rfl) me_k63 me_f63_8 dX12_alike_7 ?_
    refine me_iload_n X (i := 1) 1 rfl dX12_alike_10 ?_
    obtain ⟨a1, e1, h⟩ := me_bd h
    have f_a1 := me_f70 e1
    refine me_aald X (Nat.le_of_ble_eq_true rfl) ⟨by decide, by decide, Nat.lt_of_lt_of_le (by decide) hnt⟩ me_k69 e1 dX12_alike_11 ?_
    refine me_iload_n X (i := 2) 2 rfl dX12_alike_12 ?_
    obtain ⟨v1, e2, h⟩ := me_bd h
    refine me_iald X f_a1.2 f_a1.1 e2 dX12_alike_13 ?_
    refine me_istore_n X (i := 3) [(3, .int v1), (0, .ref (ad 63)), (1, .int p0), (2, .int p1)] (Nat.le_of_ble_eq_true rfl) rfl dX12_alike_14 ?_
    refine me_aload_n X (i := 0) 1 rfl dX12_alike_15 ?_
    refine me_getr X 69 kF_X12_31 (Nat.le_of_ble_eq_true rfl) me_k63 me_f63_8 dX12_alike_16 ?_
    refine me_iload_n X (i := 1) 2 rfl dX12_alike_19 ?_
    obtain ⟨a2, e3, h⟩ := me_bd h
    have f_a2 := me_f70 e3
    refine me_aald X (Nat.le_of_ble_eq_true rfl) ⟨by decide, by decide, Nat.lt_of_lt_of_le (by decide) hnt⟩ me_k69 e3 dX12_alike_20 ?_
    refine me_iload_n X (i := 2) 3 rfl dX12_alike_21 ?_
    refine me_iconst X dX12_alike_22 ic_1 ?_
    refine me_isub X dX12_alike_23 ?_
    obtain ⟨v2, e4, h⟩ := me_bd h
    refine me_iald X f_a2.2 f_a2.1 e4 dX12_alike_24 ?_
    refine me_istore X (i := 4) [(4, .int v2), (3, .int v1), (0, .ref (ad 63)), (1, .int p0), (2, .int p1)] (Nat.le_of_ble_eq_true rfl) rfl dX12_alike_25 ?_
    refine me_iconst X dX12_alike_27 ic_0 ?_
    refine me_istore X (i := 5) [(5, .int 0), (4, .int v2), (3, .int v1), (0, .ref (ad 63)), (1, .int p0), (2, .int p1)] (Nat.le_of_ble_eq_true rfl) rfl dX12_alike_28 ?_
    obtain ⟨y5_1, hq1, h⟩ := me_bd h
    have hx1 : me_W p l e R s m args below meth c 0 0 (MQ below (me_Qc D cA ad n A (some (.int r)) M) args s 0 0 A) D cA ad n 6 A 85 [(5, .int y5_1)] [] M := by
      refine me_iload X (i := 5) 0 rfl dX12_alike_85 ?_
      obtain rfl := me_so h
      exact me_iret X hr hlk dX12_alike_87
    refine me_sub (L' := [(0, .ref (ad 63)), (1, .int p0), (3, .int v1), (4, .int v2), (5, .int 0)]) [3, 4, 2, 1, 0] rfl ?_
    refine me_l_W (b := (mX12_alike_63_L30 M p0 v1 v2)) (P := fun w => me_W p l e R s m args below meth c 0 0 (MQ below (me_Qc D cA ad n A (some (.int r)) M) args s 0 0 A) D cA ad n 6 A 30 [(0, .ref (ad 63)), (1, .int p0), (3, .int v1), (4, .int v2), (5, .int w)] [] M) (r := y5_1) ?_ me_fu 0 hq1
    rintro x5_1 z1 h hb1 - hr1
    unfold mX12_alike_63_L30 at h
    refine me_iload_n X (i := 3) 2 rfl dX12_alike_30 ?_
    refine me_iload X (i := 5) 4 rfl dX12_alike_31 ?_
    refine me_iadd X dX12_alike_33 ?_
    refine me_aload_n X (i := 0) 0 rfl dX12_alike_34 ?_
    refine me_geti X kF_X12_20 (Nat.le_of_ble_eq_true rfl) me_k63 me_f63_5 dX12_alike_35 ?_
    refine me_icmp_ge X 85 (by decide) dX12_alike_38 (fun c2 => ?_) (fun c2 => ?_)
    · have h := me_ip c2 h
      obtain rfl := me_so h
      have q := hr1 _ rfl
      refine me_sub (L' := [(5, .int x5_1)]) [4] rfl ?_
      cases q
      exact hx1
    · have h := me_in c2 h
      refine me_iload X (i := 4) 3 rfl dX12_alike_41 ?_
      refine me_iload X (i := 5) 4 rfl dX12_alike_43 ?_
      refine me_iadd X dX12_alike_45 ?_
      refine me_aload_n X (i := 0) 0 rfl dX12_alike_46 ?_
      refine me_geti X kF_X12_20 (Nat.le_of_ble_eq_true rfl) me_k63 me_f63_5 dX12_alike_47 ?_
      refine me_icmp_ge X 85 (by decide) dX12_alike_50 (fun c3 => ?_) (fun c3 => ?_)
      · have h := me_ip c3 h
        obtain rfl := me_so h
        have q := hr1 _ rfl
        refine me_sub (L' := [(5, .int x5_1)]) [4] rfl ?_
        cases q
        exact hx1
      · have h := me_in c3 h
        refine me_aload_n X (i := 0) 0 rfl dX12_alike_53 ?_
        refine me_getr X 66 kF_X12_28 (Nat.le_of_ble_eq_true rfl) me_k63 me_f63_7 dX12_alike_54 ?_
        refine me_iload_n X (i := 1) 1 rfl dX12_alike_57 ?_
        obtain ⟨a3, e5, h⟩ := me_bd h
        have f_a3 := me_f67 e5
        refine me_aald X (Nat.le_of_ble_eq_true rfl) ⟨by decide, by decide, Nat.lt_of_lt_of_le (by decide) hnt⟩ me_k66 e5 dX12_alike_58 ?_
        refine me_iload_n X (i := 3) 2 rfl dX12_alike_59 ?_
        refine me_iload X (i := 5) 4 rfl dX12_alike_60 ?_
        refine me_iadd X dX12_alike_62 ?_
        obtain ⟨v3, e6, h⟩ := me_bd h
        refine me_iald X f_a3.2 f_a3.1 e6 dX12_alike_63 ?_
        refine me_aload_n X (i := 0) 0 rfl dX12_alike_64 ?_
        refine me_getr X 66 kF_X12_28 (Nat.le_of_ble_eq_true rfl) me_k63 me_f63_7 dX12_alike_65 ?_
        refine me_iload_n X (i := 1) 1 rfl dX12_alike_68 ?_
        obtain ⟨a4, e7, h⟩ := me_bd h
        have f_a4 := me_f67 e7
        refine me_aald X (Nat.le_of_ble_eq_true rfl) ⟨by decide, by decide, Nat.lt_of_lt_of_le (by decide) hnt⟩ me_k66 e7 dX12_alike_69 ?_
        refine me_iload X (i := 4) 3 rfl dX12_alike_70 ?_
        refine me_iload X (i := 5) 4 rfl dX12_alike_72 ?_
        refine me_iadd X dX12_alike_74 ?_
        obtain ⟨v4, e8, h⟩ := me_bd h
        refine me_iald X f_a4.2 f_a4.1 e8 dX12_alike_75 ?_
        refine me_icmp_ne X 85 (by decide) dX12_alike_76 (fun c4 => ?_) (fun c4 => ?_)
        · have h := me_in c4 h
          obtain rfl := me_so h
          have q := hr1 _ rfl
          refine me_sub (L' := [(5, .int x5_1)]) [4] rfl ?_
          cases q
          exact hx1
        · have h := me_ip c4 h
          refine me_iinc X (v := (x5_1 + 1)) 4 rfl (in_1 _) [(5, .int (x5_1 + 1)), (0, .ref (ad 63)), (1, .int p0), (3, .int v1), (4, .int v2)] (Nat.le_of_ble_eq_true rfl) rfl dX12_alike_79 ?_
          refine me_goto X 30 (by decide) dX12_alike_82 ?_
          obtain rfl := me_so h
          refine me_sub (L' := [(0, .ref (ad 63)), (1, .int p0), (3, .int v1), (4, .int v2), (5, .int (x5_1 + 1))]) [1, 2, 3, 4, 0] rfl ?_
          exact hb1 (x5_1 + 1) rfl
  · have h := me_ip c1 h
    refine me_iconst X dX12_alike_4 ic_0 ?_
    obtain rfl := me_so h
    exact me_iret X hr hlk dX12_alike_5
def mX12_row_63_J44 (p0 : Int32) (p1 : Int32) (p2 : Int32) (M2 : me_M) (s2 : Int32) : Option (Int32 × me_M) :=
  ((mX12_bad_63 M2 s2 2 1).bind fun (v4, M3) => (if v4 = 0 then ((me_a 2 70 p0).bind fun a1 => ((me_r M3 a1 241 p1).bind fun v5 => (if p2 = 0 then some (v5, M3) else (if p2 = 1 then ((me_a 2 67 p0).bind fun a2 => ((me_r M3 a2 241 v5).bind fun v6 => ((mX12_byteOf v6).bind fun v7 => some (v7, M3)))) else (if p2 = 2 then ((mX12_before_63 M3 p0 p1).bind fun v8 => ((mX12_byteOf v8).bind fun v9 => some (v9, M3))) else (if p2 = 3 then (if v5 = 0 then some (0, M3) else ((me_a 2 73 p0).bind fun a3 => ((me_r M3 a3 241 (v5 - 1)).bind fun v10 => some (v10, M3)))) else (if p2 = 4 then ((me_md v5 (M3.1 63 6)).bind fun v11 => (if v11 = 0 then some (1, M3) else some (0, M3))) else (if p2 = 5 then ((me_md v5 (M3.1 63 6)).bind fun v12 => some (v12, M3)) else ((mX12_alike_63 M3 p0 p1).bind fun v13 => some (v13, M3)))))))))) else some (0, M3)))
def mX12_row_63_J20 (p0 : Int32) (p1 : Int32) (p2 : Int32) (s1 : Int32) (M1 : me_M) : Option (Int32 × me_M) :=
  ((mX12_bad_63 M1 s1 1 0).bind fun (v2, M2) => (if v2 = 0 then ((mX12_in p2 0 6).bind fun v3 => (if v3 = 0 then (mX12_row_63_J44 p0 p1 p2 M2 1) else (mX12_row_63_J44 p0 p1 p2 M2 0))) else some (0, M2)))
def mX12_row_63 (M : me_M) (p0 : Int32) (p1 : Int32) (p2 : Int32) : Option (Int32 × me_M) :=
  ((mX12_isRow_63 (me_s M 63 0 0) p0 p1).bind fun v1 => (if v1 = 0 then (mX12_row_63_J20 p0 p1 p2 1 (me_s M 63 0 0)) else (mX12_row_63_J20 p0 p1 p2 0 (me_s M 63 0 0))))
set_option maxRecDepth 100000 in
set_option maxHeartbeats 4000000 in
theorem ctX12_row_63 {l : Launch} {n nt : Nat} (hn : 424 ≤ n) (hnt : 4 ≤ nt) {M : me_M} {p0 : Int32} {p1 : Int32} {p2 : Int32} {r : Int32} {M' : me_M} (h : mX12_row_63 M p0 p1 p2 = some (r, M')) : me_Ct l yX12_row cX12_row 5 (some .int) 3 n nt (fun ad => [.ref (ad 63), .int p0, .int p1, .int p2]) M (fun _ => some (.int r)) M' := by
  unfold mX12_row_63 at h
  refine me_enter (N0 := 424) RX12 rfl (plainFor_of_name pl_RX12) hn (Nat.le_trans (by decide) hnt) (fun _ => Nat.le_of_ble_eq_true rfl) ?_
  intro p e R s m args below meth c D cA ad tys A X hr hlk
  refine me_sub (L' := [(0, .ref (ad 63)), (1, .int p0), (2, .int p1), (3, .int p2)]) [0, 1, 2, 3] rfl ?_
  refine me_aload_n X (i := 0) 0 rfl dX12_row_0 ?_
  refine me_iconst X dX12_row_1 ic_0 ?_
  refine me_puti X kG_X12_105 (Nat.le_of_ble_eq_true rfl) me_k63 me_f63_0 dX12_row_2 ?_
  refine me_aload_n X (i := 0) 0 rfl dX12_row_5 ?_
  refine me_aload_n X (i := 0) 0 rfl dX12_row_6 ?_
  refine me_iload_n X (i := 1) 1 rfl dX12_row_7 ?_
  refine me_iload_n X (i := 2) 2 rfl dX12_row_8 ?_
  obtain ⟨v1, e1, h⟩ := me_bd h
  refine me_callVi X [.int p0, .int p1] (ctX12_isRow_63 hn (Nat.le_trans (by decide) hnt) e1) kV_X12_226 rfl rfl (Nat.le_of_ble_eq_true rfl) me_k63 (Nat.le_of_ble_eq_true rfl) (Nat.le_refl _) (Nat.le_of_ble_eq_true rfl) dX12_row_9 ?_
  have hj20_1 : ∀ (s1 : Int32) (M1 : me_M), mX12_row_63_J20 p0 p1 p2 s1 M1 = some (r, M') → me_W p l e R s m args below meth c 0 0 (MQ below (me_Qc D cA ad n A (some (.int r)) M') args s 0 0 A) D cA ad n 5 A 20 [(0, .ref (ad 63)), (1, .int p0), (2, .int p1), (3, .int p2)] [.int s1, .ref (ad 63)] M1 := by
    intro s1 M1 h
    unfold mX12_row_63_J20 at h
    refine me_iconst X dX12_row_20 ic_1 ?_
    refine me_iconst X dX12_row_21 ic_0 ?_
    obtain ⟨⟨v2, M2⟩, e2, h⟩ := me_bd h
    refine me_callVi X [.int s1, .int 1, .int 0] (ctX12_bad_63 hn (Nat.le_trans (by decide) hnt) e2) kV_X12_122 rfl rfl (Nat.le_of_ble_eq_true rfl) me_k63 (Nat.le_of_ble_eq_true rfl) (Nat.le_refl _) (Nat.le_of_ble_eq_true rfl) dX12_row_22 ?_
    refine me_if_ne X 52 (by decide) dX12_row_25 (fun c2 => ?_) (fun c2 => ?_)
    · have h := me_in c2 h
      refine me_iconst X dX12_row_52 ic_0 ?_
      obtain ⟨rfl, rfl⟩ := me_sp h
      exact me_iret X hr hlk dX12_row_53
    · have h := me_ip c2 h
      refine me_aload_n X (i := 0) 0 rfl dX12_row_28 ?_
      refine me_iload_n X (i := 3) 3 rfl dX12_row_29 ?_
      refine me_iconst X dX12_row_30 ic_0 ?_
      refine me_bipush X dX12_row_31 ib_6 ?_
      obtain ⟨v3, e3, h⟩ := me_bd h
      refine me_callSi X [.int p2, .int 0, .int 6] (ctX12_in hn (Nat.le_trans (by decide) hnt) e3) kS_X12_108 rfl rfl (Nat.le_of_ble_eq_true rfl) (Nat.le_refl _) (Nat.le_of_ble_eq_true rfl) dX12_row_33 ?_
      have hj44_2 : ∀ (s2 : Int32), mX12_row_63_J44 p0 p1 p2 M2 s2 = some (r, M') → me_W p l e R s m args below meth c 0 0 (MQ below (me_Qc D cA ad n A (some (.int r)) M') args s 0 0 A) D cA ad n 5 A 44 [(0, .ref (ad 63)), (1, .int p0), (2, .int p1), (3, .int p2)] [.int s2, .ref (ad 63)] M2 := by
        intro s2 h
        unfold mX12_row_63_J44 at h
        refine me_iconst X dX12_row_44 ic_2 ?_
        refine me_iconst X dX12_row_45 ic_1 ?_
        obtain ⟨⟨v4, M3⟩, e4, h⟩ := me_bd h
        refine me_callVi X [.int s2, .int 2, .int 1] (ctX12_bad_63 hn (Nat.le_trans (by decide) hnt) e4) kV_X12_122 rfl rfl (Nat.le_of_ble_eq_true rfl) me_k63 (Nat.le_of_ble_eq_true rfl) (Nat.le_refl _) (Nat.le_of_ble_eq_true rfl) dX12_row_46 ?_
        refine me_if_eq X 54 (by decide) dX12_row_49 (fun c4 => ?_) (fun c4 => ?_)
        · have h := me_ip c4 h
          refine me_aload_n X (i := 0) 0 rfl dX12_row_54 ?_
          refine me_getr X 69 kF_X12_31 (Nat.le_of_ble_eq_true rfl) me_k63 me_f63_8 dX12_row_55 ?_
          refine me_iload_n X (i := 1) 1 rfl dX12_row_58 ?_
          obtain ⟨a1, e5, h⟩ := me_bd h
          have f_a1 := me_f70 e5
          refine me_aald X (Nat.le_of_ble_eq_true rfl) ⟨by decide, by decide, Nat.lt_of_lt_of_le (by decide) hnt⟩ me_k69 e5 dX12_row_59 ?_
          refine me_iload_n X (i := 2) 2 rfl dX12_row_60 ?_
          obtain ⟨v5, e6, h⟩ := me_bd h
          refine me_iald X f_a1.2 f_a1.1 e6 dX12_row_61 ?_
          refine me_istore X (i := 4) [(4, .int v5), (0, .ref (ad 63)), (1, .int p0), (2, .int p1), (3, .int p2)] (Nat.le_of_ble_eq_true rfl) rfl dX12_row_62 ?_
          refine me_iload_n X (i := 3) 4 rfl dX12_row_64 ?_
          by_cases c5 : p2 = 0
          · have h := me_ip c5 h
            refine me_tin X (off := 39) 104 (by rw [c5]; decide) (by rw [c5]; decide) (by rw [c5] <;> decide) (by decide) dX12_row_65 ?_
            refine me_iload X (i := 4) 0 rfl dX12_row_104 ?_
            obtain ⟨rfl, rfl⟩ := me_sp h
            exact me_iret X hr hlk dX12_row_106
          · have h := me_in c5 h
            by_cases c6 : p2 = 1
            · have h := me_ip c6 h
              refine me_tin X (off := 42) 107 (by rw [c6]; decide) (by rw [c6]; decide) (by rw [c6] <;> decide) (by decide) dX12_row_65 ?_
              refine me_aload_n X (i := 0) 1 rfl dX12_row_107 ?_
              refine me_getr X 66 kF_X12_28 (Nat.le_of_ble_eq_true rfl) me_k63 me_f63_7 dX12_row_108 ?_
              refine me_iload_n X (i := 1) 2 rfl dX12_row_111 ?_
              obtain ⟨a2, e7, h⟩ := me_bd h
              have f_a2 := me_f67 e7
              refine me_aald X (Nat.le_of_ble_eq_true rfl) ⟨by decide, by decide, Nat.lt_of_lt_of_le (by decide) hnt⟩ me_k66 e7 dX12_row_112 ?_
              refine me_iload X (i := 4) 0 rfl dX12_row_113 ?_
              obtain ⟨v6, e8, h⟩ := me_bd h
              refine me_iald X f_a2.2 f_a2.1 e8 dX12_row_115 ?_
              obtain ⟨v7, e9, h⟩ := me_bd h
              refine me_callSi X [.int v6] (ctX12_byteOf hn (Nat.le_trans (by decide) hnt) e9) kS_X12_223 rfl rfl (Nat.le_of_ble_eq_true rfl) (Nat.le_refl _) (Nat.le_of_ble_eq_true rfl) dX12_row_116 ?_
              obtain ⟨rfl, rfl⟩ := me_sp h
              exact me_iret X hr hlk dX12_row_119
            · have h := me_in c6 h
              by_cases c7 : p2 = 2
              · have h := me_ip c7 h
                refine me_tin X (off := 55) 120 (by rw [c7]; decide) (by rw [c7]; decide) (by rw [c7] <;> decide) (by decide) dX12_row_65 ?_
                refine me_aload_n X (i := 0) 1 rfl dX12_row_120 ?_
                refine me_iload_n X (i := 1) 2 rfl dX12_row_121 ?_
                refine me_iload_n X (i := 2) 3 rfl dX12_row_122 ?_
                obtain ⟨v8, e10, h⟩ := me_bd h
                refine me_callVi X [.int p0, .int p1] (ctX12_before_63 hn (Nat.le_trans (by decide) hnt) e10) kV_X12_230 rfl rfl (Nat.le_of_ble_eq_true rfl) me_k63 (Nat.le_of_ble_eq_true rfl) (Nat.le_refl _) (Nat.le_of_ble_eq_true rfl) dX12_row_123 ?_
                obtain ⟨v9, e11, h⟩ := me_bd h
                refine me_callSi X [.int v8] (ctX12_byteOf hn (Nat.le_trans (by decide) hnt) e11) kS_X12_223 rfl rfl (Nat.le_of_ble_eq_true rfl) (Nat.le_refl _) (Nat.le_of_ble_eq_true rfl) dX12_row_126 ?_
                obtain ⟨rfl, rfl⟩ := me_sp h
                exact me_iret X hr hlk dX12_row_129
              · have h := me_in c7 h
                by_cases c8 : p2 = 3
                · have h := me_ip c8 h
                  refine me_tin X (off := 65) 130 (by rw [c8]; decide) (by rw [c8]; decide) (by rw [c8] <;> decide) (by decide) dX12_row_65 ?_
                  refine me_iload X (i := 4) 0 rfl dX12_row_130 ?_
                  refine me_if_ne X 139 (by decide) dX12_row_132 (fun c9 => ?_) (fun c9 => ?_)
                  · have h := me_in c9 h
                    refine me_aload_n X (i := 0) 1 rfl dX12_row_139 ?_
                    refine me_getr X 72 kF_X12_34 (Nat.le_of_ble_eq_true rfl) me_k63 me_f63_9 dX12_row_140 ?_
                    refine me_iload_n X (i := 1) 2 rfl dX12_row_143 ?_
                    obtain ⟨a3, e12, h⟩ := me_bd h
                    have f_a3 := me_f73 e12
                    refine me_aald X (Nat.le_of_ble_eq_true rfl) ⟨by decide, by decide, Nat.lt_of_lt_of_le (by decide) hnt⟩ me_k72 e12 dX12_row_144 ?_
                    refine me_iload X (i := 4) 0 rfl dX12_row_145 ?_
                    refine me_iconst X dX12_row_147 ic_1 ?_
                    refine me_isub X dX12_row_148 ?_
                    obtain ⟨v10, e13, h⟩ := me_bd h
                    refine me_iald X f_a3.2 f_a3.1 e13 dX12_row_149 ?_
                    obtain ⟨rfl, rfl⟩ := me_sp h
                    exact me_iret X hr hlk dX12_row_150
                  · have h := me_ip c9 h
                    refine me_iconst X dX12_row_135 ic_0 ?_
                    refine me_goto X 150 (by decide) dX12_row_136 ?_
                    obtain ⟨rfl, rfl⟩ := me_sp h
                    exact me_iret X hr hlk dX12_row_150
                · have h := me_in c8 h
                  by_cases c10 : p2 = 4
                  · have h := me_ip c10 h
                    refine me_tin X (off := 86) 151 (by rw [c10]; decide) (by rw [c10]; decide) (by rw [c10] <;> decide) (by decide) dX12_row_65 ?_
                    refine me_iload X (i := 4) 0 rfl dX12_row_151 ?_
                    refine me_aload_n X (i := 0) 1 rfl dX12_row_153 ?_
                    refine me_geti X kF_X12_23 (Nat.le_of_ble_eq_true rfl) me_k63 me_f63_6 dX12_row_154 ?_
                    obtain ⟨v11, e14, h⟩ := me_bd h
                    refine me_irem X e14 dX12_row_157 ?_
                    refine me_if_ne X 165 (by decide) dX12_row_158 (fun c11 => ?_) (fun c11 => ?_)
                    · have h := me_in c11 h
                      refine me_iconst X dX12_row_165 ic_0 ?_
                      obtain ⟨rfl, rfl⟩ := me_sp h
                      exact me_iret X hr hlk dX12_row_166
                    · have h := me_ip c11 h
                      refine me_iconst X dX12_row_161 ic_1 ?_
                      refine me_goto X 166 (by decide) dX12_row_162 ?_
                      obtain ⟨rfl, rfl⟩ := me_sp h
                      exact me_iret X hr hlk dX12_row_166
                  · have h := me_in c10 h
                    by_cases c12 : p2 = 5
                    · have h := me_ip c12 h
                      refine me_tin X (off := 102) 167 (by rw [c12]; decide) (by rw [c12]; decide) (by rw [c12] <;> decide) (by decide) dX12_row_65 ?_
                      refine me_iload X (i := 4) 0 rfl dX12_row_167 ?_
                      refine me_aload_n X (i := 0) 1 rfl dX12_row_169 ?_
                      refine me_geti X kF_X12_23 (Nat.le_of_ble_eq_true rfl) me_k63 me_f63_6 dX12_row_170 ?_
                      obtain ⟨v12, e15, h⟩ := me_bd h
                      refine me_irem X e15 dX12_row_173 ?_
                      obtain ⟨rfl, rfl⟩ := me_sp h
                      exact me_iret X hr hlk dX12_row_174
                    · have h := me_in c12 h
                      refine me_tout X 175 (by have q0 := lv_neT (k := 0) (a := 0) c5 (by decide); have q1 := lv_neT (k := 1) (a := 1) c6 (by decide); have q2 := lv_neT (k := 2) (a := 2) c7 (by decide); have q3 := lv_neT (k := 3) (a := 3) c8 (by decide); have q4 := lv_neT (k := 4) (a := 4) c10 (by decide); have q5 := lv_neT (k := 5) (a := 5) c12 (by decide); omega) (by decide) dX12_row_65 ?_
                      refine me_aload_n X (i := 0) 1 rfl dX12_row_175 ?_
                      refine me_iload_n X (i := 1) 2 rfl dX12_row_176 ?_
                      refine me_iload_n X (i := 2) 3 rfl dX12_row_177 ?_
                      obtain ⟨v13, e16, h⟩ := me_bd h
                      refine me_callVi X [.int p0, .int p1] (ctX12_alike_63 hn (Nat.le_trans (by decide) hnt) e16) kV_X12_233 rfl rfl (Nat.le_of_ble_eq_true rfl) me_k63 (Nat.le_of_ble_eq_true rfl) (Nat.le_refl _) (Nat.le_of_ble_eq_true rfl) dX12_row_178 ?_
                      obtain ⟨rfl, rfl⟩ := me_sp h
                      exact me_iret X hr hlk dX12_row_181
        · have h := me_in c4 h
          refine me_iconst X dX12_row_52 ic_0 ?_
          obtain ⟨rfl, rfl⟩ := me_sp h
          exact me_iret X hr hlk dX12_row_53
      refine me_if_ne X 43 (by decide) dX12_row_36 (fun c3 => ?_) (fun c3 => ?_)
      · have h := me_in c3 h
        refine me_iconst X dX12_row_43 ic_0 ?_
        exact hj44_2 0 h
      · have h := me_ip c3 h
        refine me_iconst X dX12_row_39 ic_1 ?_
        refine me_goto X 44 (by decide) dX12_row_40 ?_
        exact hj44_2 1 h
  refine me_if_ne X 19 (by decide) dX12_row_12 (fun c1 => ?_) (fun c1 => ?_)
  · have h := me_in c1 h
    refine me_iconst X dX12_row_19 ic_0 ?_
    exact hj20_1 0 (me_s M 63 0 0) h
  · have h := me_ip c1 h
    refine me_iconst X dX12_row_15 ic_1 ?_
    refine me_goto X 20 (by decide) dX12_row_16 ?_
    exact hj20_1 1 (me_s M 63 0 0) h
def mX12_rowOf_63_J20 (p0 : Int32) (p1 : Int32) (s1 : Int32) (M1 : me_M) : Option (Int32 × me_M) :=
  ((mX12_bad_63 M1 s1 1 0).bind fun (v2, M2) => (if v2 = 0 then ((me_a 2 73 p0).bind fun a1 => ((me_r M2 a1 241 p1).bind fun v3 => some (v3, M2))) else some (0, M2)))
def mX12_rowOf_63 (M : me_M) (p0 : Int32) (p1 : Int32) : Option (Int32 × me_M) :=
  ((mX12_isRow_63 (me_s M 63 0 0) p0 p1).bind fun v1 => (if v1 = 0 then (mX12_rowOf_63_J20 p0 p1 1 (me_s M 63 0 0)) else (mX12_rowOf_63_J20 p0 p1 0 (me_s M 63 0 0))))
set_option maxRecDepth 100000 in
set_option maxHeartbeats 4000000 in
theorem ctX12_rowOf_63 {l : Launch} {n nt : Nat} (hn : 424 ≤ n) (hnt : 4 ≤ nt) {M : me_M} {p0 : Int32} {p1 : Int32} {r : Int32} {M' : me_M} (h : mX12_rowOf_63 M p0 p1 = some (r, M')) : me_Ct l yX12_rowOf cX12_rowOf 3 (some .int) 3 n nt (fun ad => [.ref (ad 63), .int p0, .int p1]) M (fun _ => some (.int r)) M' := by
  unfold mX12_rowOf_63 at h
  refine me_enter (N0 := 424) RX12 rfl (plainFor_of_name pl_RX12) hn (Nat.le_trans (by decide) hnt) (fun _ => Nat.le_of_ble_eq_true rfl) ?_
  intro p e R s m args below meth c D cA ad tys A X hr hlk
  refine me_sub (L' := [(0, .ref (ad 63)), (1, .int p0), (2, .int p1)]) [0, 1, 2] rfl ?_
  refine me_aload_n X (i := 0) 0 rfl dX12_rowOf_0 ?_
  refine me_iconst X dX12_rowOf_1 ic_0 ?_
  refine me_puti X kG_X12_105 (Nat.le_of_ble_eq_true rfl) me_k63 me_f63_0 dX12_rowOf_2 ?_
  refine me_aload_n X (i := 0) 0 rfl dX12_rowOf_5 ?_
  refine me_aload_n X (i := 0) 0 rfl dX12_rowOf_6 ?_
  refine me_iload_n X (i := 1) 1 rfl dX12_rowOf_7 ?_
  refine me_iload_n X (i := 2) 2 rfl dX12_rowOf_8 ?_
  obtain ⟨v1, e1, h⟩ := me_bd h
  refine me_callVi X [.int p0, .int p1] (ctX12_isRow_63 hn (Nat.le_trans (by decide) hnt) e1) kV_X12_226 rfl rfl (Nat.le_of_ble_eq_true rfl) me_k63 (Nat.le_of_ble_eq_true rfl) (Nat.le_refl _) (Nat.le_of_ble_eq_true rfl) dX12_rowOf_9 ?_
  have hj20_1 : ∀ (s1 : Int32) (M1 : me_M), mX12_rowOf_63_J20 p0 p1 s1 M1 = some (r, M') → me_W p l e R s m args below meth c 0 0 (MQ below (me_Qc D cA ad n A (some (.int r)) M') args s 0 0 A) D cA ad n 3 A 20 [(0, .ref (ad 63)), (1, .int p0), (2, .int p1)] [.int s1, .ref (ad 63)] M1 := by
    intro s1 M1 h
    unfold mX12_rowOf_63_J20 at h
    refine me_iconst X dX12_rowOf_20 ic_1 ?_
    refine me_iconst X dX12_rowOf_21 ic_0 ?_
    obtain ⟨⟨v2, M2⟩, e2, h⟩ := me_bd h
    refine me_callVi X [.int s1, .int 1, .int 0] (ctX12_bad_63 hn (Nat.le_trans (by decide) hnt) e2) kV_X12_122 rfl rfl (Nat.le_of_ble_eq_true rfl) me_k63 (Nat.le_of_ble_eq_true rfl) (Nat.le_refl _) (Nat.le_of_ble_eq_true rfl) dX12_rowOf_22 ?_
    refine me_if_eq X 30 (by decide) dX12_rowOf_25 (fun c2 => ?_) (fun c2 => ?_)
    · have h := me_ip c2 h
      refine me_aload_n X (i := 0) 0 rfl dX12_rowOf_30 ?_
      refine me_getr X 72 kF_X12_34 (Nat.le_of_ble_eq_true rfl) me_k63 me_f63_9 dX12_rowOf_31 ?_
      refine me_iload_n X (i := 1) 1 rfl dX12_rowOf_34 ?_
      obtain ⟨a1, e3, h⟩ := me_bd h
      have f_a1 := me_f73 e3
      refine me_aald X (Nat.le_of_ble_eq_true rfl) ⟨by decide, by decide, Nat.lt_of_lt_of_le (by decide) hnt⟩ me_k72 e3 dX12_rowOf_35 ?_
      refine me_iload_n X (i := 2) 2 rfl dX12_rowOf_36 ?_
      obtain ⟨v3, e4, h⟩ := me_bd h
      refine me_iald X f_a1.2 f_a1.1 e4 dX12_rowOf_37 ?_
      obtain ⟨rfl, rfl⟩ := me_sp h
      exact me_iret X hr hlk dX12_rowOf_38
    · have h := me_in c2 h
      refine me_iconst X dX12_rowOf_28 ic_0 ?_
      obtain ⟨rfl, rfl⟩ := me_sp h
      exact me_iret X hr hlk dX12_rowOf_29
  refine me_if_ne X 19 (by decide) dX12_rowOf_12 (fun c1 => ?_) (fun c1 => ?_)
  · have h := me_in c1 h
    refine me_iconst X dX12_rowOf_19 ic_0 ?_
    exact hj20_1 0 (me_s M 63 0 0) h
  · have h := me_ip c1 h
    refine me_iconst X dX12_rowOf_15 ic_1 ?_
    refine me_goto X 20 (by decide) dX12_rowOf_16 ?_
    exact hj20_1 1 (me_s M 63 0 0) h
def mX12_count_63_J98 (p0 : Int32) (p1 : Int32) (p2 : Int32) (x5_1 : Int32) (x4_1 : Int32) (M4 : me_M) (s3 : Int32) : Option ((Int32 × Int32) ⊕ (Int32)) :=
  some (.inl ((x4_1 + s3), (x5_1 + 1)))
def mX12_count_63_L71 (M4 : me_M) (p0 : Int32) (p1 : Int32) (p2 : Int32) : (Int32 × Int32) → Option ((Int32 × Int32) ⊕ (Int32))
  | (x4_1, x5_1) => (if p1 ≤ x5_1 then some (.inr x4_1) else ((mX12_before_63 M4 p0 x5_1).bind fun v6 => ((mX12_byteOf v6).bind fun v7 => (if v7 = p2 then (mX12_count_63_J98 p0 p1 p2 x5_1 x4_1 M4 1) else (mX12_count_63_J98 p0 p1 p2 x5_1 x4_1 M4 0)))))
def mX12_count_63_J55 (p0 : Int32) (p1 : Int32) (p2 : Int32) (M3 : me_M) (s2 : Int32) : Option (Int32 × me_M) :=
  ((mX12_bad_63 M3 s2 2 1).bind fun (v5, M4) => (if v5 = 0 then ((me_l (mX12_count_63_L71 M4 p0 p1 p2) me_fu (0, 0)).bind fun y4_1 => some (y4_1, M4)) else some (0, M4)))
def mX12_count_63_J34 (p0 : Int32) (p1 : Int32) (p2 : Int32) (s1 : Int32) (M2 : me_M) : Option (Int32 × me_M) :=
  ((mX12_bad_63 M2 s1 1 0).bind fun (v3, M3) => (if v3 = 0 then ((mX12_isLetter p2).bind fun v4 => (if v4 = 0 then (mX12_count_63_J55 p0 p1 p2 M3 1) else (mX12_count_63_J55 p0 p1 p2 M3 0))) else some (0, M3)))
def mX12_count_63_J29 (p0 : Int32) (p1 : Int32) (p2 : Int32) (M1 : me_M) : Option (Int32 × me_M) :=
  (mX12_count_63_J34 p0 p1 p2 1 M1)
def mX12_count_63 (M : me_M) (p0 : Int32) (p1 : Int32) (p2 : Int32) : Option (Int32 × me_M) :=
  ((mX12_in p0 0 1).bind fun v1 => (if v1 = 0 then (mX12_count_63_J29 p0 p1 p2 (me_s M 63 0 0)) else ((mX12_in p1 0 (((me_s M 63 0 0).1 63 5) + 1)).bind fun v2 => (if v2 = 0 then (mX12_count_63_J29 p0 p1 p2 (me_s M 63 0 0)) else (mX12_count_63_J34 p0 p1 p2 0 (me_s M 63 0 0))))))
set_option maxRecDepth 100000 in
set_option maxHeartbeats 4000000 in
theorem ctX12_count_63 {l : Launch} {n nt : Nat} (hn : 424 ≤ n) (hnt : 4 ≤ nt) {M : me_M} {p0 : Int32} {p1 : Int32} {p2 : Int32} {r : Int32} {M' : me_M} (h : mX12_count_63 M p0 p1 p2 = some (r, M')) : me_Ct l yX12_count cX12_count 6 (some .int) 2 n nt (fun ad => [.ref (ad 63), .int p0, .int p1, .int p2]) M (fun _ => some (.int r)) M' := by
  unfold mX12_count_63 at h
  refine me_enter (N0 := 424) RX12 rfl (plainFor_of_name pl_RX12) hn (Nat.le_trans (by decide) hnt) (fun _ => Nat.le_of_ble_eq_true rfl) ?_
  intro p e R s m args below meth c D cA ad tys A X hr hlk
  refine me_sub (L' := [(0, .ref (ad 63)), (1, .int p0), (2, .int p1), (3, .int p2)]) [0, 1, 2, 3] rfl ?_
  refine me_aload_n X (i := 0) 0 rfl dX12_count_0 ?_
  refine me_iconst X dX12_count_1 ic_0 ?_
  refine me_puti X kG_X12_105 (Nat.le_of_ble_eq_true rfl) me_k63 me_f63_0 dX12_count_2 ?_
  refine me_aload_n X (i := 0) 0 rfl dX12_count_5 ?_
  refine me_iload_n X (i := 1) 1 rfl dX12_count_6 ?_
  refine me_iconst X dX12_count_7 ic_0 ?_
  refine me_iconst X dX12_count_8 ic_1 ?_
  obtain ⟨v1, e1, h⟩ := me_bd h
  refine me_callSi X [.int p0, .int 0, .int 1] (ctX12_in hn (Nat.le_trans (by decide) hnt) e1) kS_X12_108 rfl rfl (Nat.le_of_ble_eq_true rfl) (Nat.le_refl _) (Nat.le_of_ble_eq_true rfl) dX12_count_9 ?_
  have hj34_2 : ∀ (s1 : Int32) (M2 : me_M), mX12_count_63_J34 p0 p1 p2 s1 M2 = some (r, M') → me_W p l e R s m args below meth c 0 0 (MQ below (me_Qc D cA ad n A (some (.int r)) M') args s 0 0 A) D cA ad n 6 A 34 [(0, .ref (ad 63)), (1, .int p0), (2, .int p1), (3, .int p2)] [.int s1, .ref (ad 63)] M2 := by
    intro s1 M2 h
    unfold mX12_count_63_J34 at h
    refine me_iconst X dX12_count_34 ic_1 ?_
    refine me_iconst X dX12_count_35 ic_0 ?_
    obtain ⟨⟨v3, M3⟩, e3, h⟩ := me_bd h
    refine me_callVi X [.int s1, .int 1, .int 0] (ctX12_bad_63 hn (Nat.le_trans (by decide) hnt) e3) kV_X12_122 rfl rfl (Nat.le_of_ble_eq_true rfl) me_k63 (Nat.le_of_ble_eq_true rfl) (Nat.le_refl _) (Nat.le_of_ble_eq_true rfl) dX12_count_36 ?_
    refine me_if_ne X 63 (by decide) dX12_count_39 (fun c3 => ?_) (fun c3 => ?_)
    · have h := me_in c3 h
      refine me_iconst X dX12_count_63 ic_0 ?_
      obtain ⟨rfl, rfl⟩ := me_sp h
      exact me_iret X hr hlk dX12_count_64
    · have h := me_ip c3 h
      refine me_aload_n X (i := 0) 0 rfl dX12_count_42 ?_
      refine me_iload_n X (i := 3) 3 rfl dX12_count_43 ?_
      obtain ⟨v4, e4, h⟩ := me_bd h
      refine me_callSi X [.int p2] (ctX12_isLetter hn (Nat.le_trans (by decide) hnt) e4) kS_X12_118 rfl rfl (Nat.le_of_ble_eq_true rfl) (Nat.le_refl _) (Nat.le_of_ble_eq_true rfl) dX12_count_44 ?_
      have hj55_3 : ∀ (s2 : Int32), mX12_count_63_J55 p0 p1 p2 M3 s2 = some (r, M') → me_W p l e R s m args below meth c 0 0 (MQ below (me_Qc D cA ad n A (some (.int r)) M') args s 0 0 A) D cA ad n 6 A 55 [(0, .ref (ad 63)), (1, .int p0), (2, .int p1), (3, .int p2)] [.int s2, .ref (ad 63)] M3 := by
        intro s2 h
        unfold mX12_count_63_J55 at h
        refine me_iconst X dX12_count_55 ic_2 ?_
        refine me_iconst X dX12_count_56 ic_1 ?_
        obtain ⟨⟨v5, M4⟩, e5, h⟩ := me_bd h
        refine me_callVi X [.int s2, .int 2, .int 1] (ctX12_bad_63 hn (Nat.le_trans (by decide) hnt) e5) kV_X12_122 rfl rfl (Nat.le_of_ble_eq_true rfl) me_k63 (Nat.le_of_ble_eq_true rfl) (Nat.le_refl _) (Nat.le_of_ble_eq_true rfl) dX12_count_57 ?_
        refine me_if_eq X 65 (by decide) dX12_count_60 (fun c5 => ?_) (fun c5 => ?_)
        · have h := me_ip c5 h
          refine me_iconst X dX12_count_65 ic_0 ?_
          refine me_istore X (i := 4) [(4, .int 0), (0, .ref (ad 63)), (1, .int p0), (2, .int p1), (3, .int p2)] (Nat.le_of_ble_eq_true rfl) rfl dX12_count_66 ?_
          refine me_iconst X dX12_count_68 ic_0 ?_
          refine me_istore X (i := 5) [(5, .int 0), (4, .int 0), (0, .ref (ad 63)), (1, .int p0), (2, .int p1), (3, .int p2)] (Nat.le_of_ble_eq_true rfl) rfl dX12_count_69 ?_
          obtain ⟨y4_1, hq1, h⟩ := me_bd h
          have hx1 : me_W p l e R s m args below meth c 0 0 (MQ below (me_Qc D cA ad n A (some (.int r)) M') args s 0 0 A) D cA ad n 6 A 107 [(4, .int y4_1)] [] M4 := by
            refine me_iload X (i := 4) 0 rfl dX12_count_107 ?_
            obtain ⟨rfl, rfl⟩ := me_sp h
            exact me_iret X hr hlk dX12_count_109
          refine me_sub (L' := [(0, .ref (ad 63)), (1, .int p0), (2, .int p1), (3, .int p2), (4, .int 0), (5, .int 0)]) [2, 3, 4, 5, 1, 0] rfl ?_
          refine me_l_W (b := (mX12_count_63_L71 M4 p0 p1 p2)) (P := fun w => me_W p l e R s m args below meth c 0 0 (MQ below (me_Qc D cA ad n A (some (.int r)) M') args s 0 0 A) D cA ad n 6 A 71 [(0, .ref (ad 63)), (1, .int p0), (2, .int p1), (3, .int p2), (4, .int w.1), (5, .int w.2)] [] M4) (r := y4_1) ?_ me_fu (0, 0) hq1
          rintro ⟨x4_1, x5_1⟩ z1 h hb1 - hr1
          unfold mX12_count_63_L71 at h
          refine me_iload X (i := 5) 5 rfl dX12_count_71 ?_
          refine me_iload_n X (i := 2) 2 rfl dX12_count_73 ?_
          refine me_icmp_ge X 107 (by decide) dX12_count_74 (fun c6 => ?_) (fun c6 => ?_)
          · have h := me_ip c6 h
            obtain rfl := me_so h
            have q := hr1 _ rfl
            refine me_sub (L' := [(4, .int x4_1)]) [4] rfl ?_
            cases q
            exact hx1
          · have h := me_in c6 h
            refine me_iload X (i := 4) 4 rfl dX12_count_77 ?_
            refine me_aload_n X (i := 0) 0 rfl dX12_count_79 ?_
            refine me_iload_n X (i := 1) 1 rfl dX12_count_80 ?_
            refine me_iload X (i := 5) 5 rfl dX12_count_81 ?_
            obtain ⟨v6, e6, h⟩ := me_bd h
            refine me_callVi X [.int p0, .int x5_1] (ctX12_before_63 hn (Nat.le_trans (by decide) hnt) e6) kV_X12_230 rfl rfl (Nat.le_of_ble_eq_true rfl) me_k63 (Nat.le_of_ble_eq_true rfl) (Nat.le_refl _) (Nat.le_of_ble_eq_true rfl) dX12_count_83 ?_
            obtain ⟨v7, e7, h⟩ := me_bd h
            refine me_callSi X [.int v6] (ctX12_byteOf hn (Nat.le_trans (by decide) hnt) e7) kS_X12_223 rfl rfl (Nat.le_of_ble_eq_true rfl) (Nat.le_refl _) (Nat.le_of_ble_eq_true rfl) dX12_count_86 ?_
            refine me_iload_n X (i := 3) 3 rfl dX12_count_89 ?_
            have hj98_4 : ∀ (s3 : Int32), mX12_count_63_J98 p0 p1 p2 x5_1 x4_1 M4 s3 = some z1 → me_W p l e R s m args below meth c 0 0 (MQ below (me_Qc D cA ad n A (some (.int r)) M') args s 0 0 A) D cA ad n 6 A 98 [(0, .ref (ad 63)), (1, .int p0), (2, .int p1), (3, .int p2), (5, .int x5_1)] [.int s3, .int x4_1] M4 := by
              intro s3 h
              unfold mX12_count_63_J98 at h
              refine me_iadd X dX12_count_98 ?_
              refine me_istore X (i := 4) [(4, .int (x4_1 + s3)), (0, .ref (ad 63)), (1, .int p0), (2, .int p1), (3, .int p2), (5, .int x5_1)] (Nat.le_of_ble_eq_true rfl) rfl dX12_count_99 ?_
              refine me_iinc X (v := (x5_1 + 1)) 5 rfl (in_1 _) [(5, .int (x5_1 + 1)), (4, .int (x4_1 + s3)), (0, .ref (ad 63)), (1, .int p0), (2, .int p1), (3, .int p2)] (Nat.le_of_ble_eq_true rfl) rfl dX12_count_101 ?_
              refine me_goto X 71 (by decide) dX12_count_104 ?_
              obtain rfl := me_so h
              refine me_sub (L' := [(0, .ref (ad 63)), (1, .int p0), (2, .int p1), (3, .int p2), (4, .int (x4_1 + s3)), (5, .int (x5_1 + 1))]) [2, 3, 4, 5, 1, 0] rfl ?_
              exact hb1 ((x4_1 + s3), (x5_1 + 1)) rfl
            refine me_icmp_ne X 97 (by decide) dX12_count_90 (fun c7 => ?_) (fun c7 => ?_)
            · have h := me_in c7 h
              refine me_iconst X dX12_count_97 ic_0 ?_
              refine me_sub (L' := [(0, .ref (ad 63)), (1, .int p0), (2, .int p1), (3, .int p2), (5, .int x5_1)]) [0, 1, 2, 3, 5] rfl ?_
              exact hj98_4 0 h
            · have h := me_ip c7 h
              refine me_iconst X dX12_count_93 ic_1 ?_
              refine me_goto X 98 (by decide) dX12_count_94 ?_
              refine me_sub (L' := [(0, .ref (ad 63)), (1, .int p0), (2, .int p1), (3, .int p2), (5, .int x5_1)]) [0, 1, 2, 3, 5] rfl ?_
              exact hj98_4 1 h
        · have h := me_in c5 h
          refine me_iconst X dX12_count_63 ic_0 ?_
          obtain ⟨rfl, rfl⟩ := me_sp h
          exact me_iret X hr hlk dX12_count_64
      refine me_if_ne X 54 (by decide) dX12_count_47 (fun c4 => ?_) (fun c4 => ?_)
      · have h := me_in c4 h
        refine me_iconst X dX12_count_54 ic_0 ?_
        exact hj55_3 0 h
      · have h := me_ip c4 h
        refine me_iconst X dX12_count_50 ic_1 ?_
        refine me_goto X 55 (by decide) dX12_count_51 ?_
        exact hj55_3 1 h
  have hj29_1 : ∀ (M1 : me_M), mX12_count_63_J29 p0 p1 p2 M1 = some (r, M') → me_W p l e R s m args below meth c 0 0 (MQ below (me_Qc D cA ad n A (some (.int r)) M') args s 0 0 A) D cA ad n 6 A 29 [(0, .ref (ad 63)), (1, .int p0), (2, .int p1), (3, .int p2)] [.ref (ad 63)] M1 := by
    intro M1 h
    unfold mX12_count_63_J29 at h
    refine me_iconst X dX12_count_29 ic_1 ?_
    refine me_goto X 34 (by decide) dX12_count_30 ?_
    exact hj34_2 1 M1 h
  refine me_if_eq X 29 (by decide) dX12_count_12 (fun c1 => ?_) (fun c1 => ?_)
  · have h := me_ip c1 h
    exact hj29_1 (me_s M 63 0 0) h
  · have h := me_in c1 h
    refine me_iload_n X (i := 2) 2 rfl dX12_count_15 ?_
    refine me_iconst X dX12_count_16 ic_0 ?_
    refine me_aload_n X (i := 0) 0 rfl dX12_count_17 ?_
    refine me_geti X kF_X12_20 (Nat.le_of_ble_eq_true rfl) me_k63 me_f63_5 dX12_count_18 ?_
    refine me_iconst X dX12_count_21 ic_1 ?_
    refine me_iadd X dX12_count_22 ?_
    obtain ⟨v2, e2, h⟩ := me_bd h
    refine me_callSi X [.int p1, .int 0, .int (((me_s M 63 0 0).1 63 5) + 1)] (ctX12_in hn (Nat.le_trans (by decide) hnt) e2) kS_X12_108 rfl rfl (Nat.le_of_ble_eq_true rfl) (Nat.le_refl _) (Nat.le_of_ble_eq_true rfl) dX12_count_23 ?_
    refine me_if_ne X 33 (by decide) dX12_count_26 (fun c2 => ?_) (fun c2 => ?_)
    · have h := me_in c2 h
      refine me_iconst X dX12_count_33 ic_0 ?_
      exact hj34_2 0 (me_s M 63 0 0) h
    · have h := me_ip c2 h
      exact hj29_1 (me_s M 63 0 0) h
def mX12_letter_63_J25 (p0 : Int32) (s1 : Int32) (M1 : me_M) : Option (Int32 × me_M) :=
  ((mX12_bad_63 M1 s1 1 0).bind fun (v3, M2) => (if v3 = 0 then ((me_r M2 75 84 ((M2.1 63 10) + p0)).bind fun v4 => ((mX12_byteOf v4).bind fun v5 => some (v5, M2))) else some (0, M2)))
def mX12_letter_63 (M : me_M) (p0 : Int32) : Option (Int32 × me_M) :=
  ((mX12_letters_63 (me_s M 63 0 0)).bind fun v1 => ((mX12_in p0 0 (v1 - 1)).bind fun v2 => (if v2 = 0 then (mX12_letter_63_J25 p0 1 (me_s M 63 0 0)) else (mX12_letter_63_J25 p0 0 (me_s M 63 0 0)))))
set_option maxRecDepth 100000 in
set_option maxHeartbeats 4000000 in
theorem ctX12_letter_63 {l : Launch} {n nt : Nat} (hn : 424 ≤ n) (hnt : 4 ≤ nt) {M : me_M} {p0 : Int32} {r : Int32} {M' : me_M} (h : mX12_letter_63 M p0 = some (r, M')) : me_Ct l yX12_letter cX12_letter 2 (some .int) 1 n nt (fun ad => [.ref (ad 63), .int p0]) M (fun _ => some (.int r)) M' := by
  unfold mX12_letter_63 at h
  refine me_enter (N0 := 424) RX12 rfl (plainFor_of_name pl_RX12) hn (Nat.le_trans (by decide) hnt) (fun _ => Nat.le_of_ble_eq_true rfl) ?_
  intro p e R s m args below meth c D cA ad tys A X hr hlk
  refine me_sub (L' := [(0, .ref (ad 63)), (1, .int p0)]) [0, 1] rfl ?_
  refine me_aload_n X (i := 0) 0 rfl dX12_letter_0 ?_
  refine me_iconst X dX12_letter_1 ic_0 ?_
  refine me_puti X kG_X12_105 (Nat.le_of_ble_eq_true rfl) me_k63 me_f63_0 dX12_letter_2 ?_
  refine me_aload_n X (i := 0) 0 rfl dX12_letter_5 ?_
  refine me_iload_n X (i := 1) 1 rfl dX12_letter_6 ?_
  refine me_iconst X dX12_letter_7 ic_0 ?_
  refine me_aload_n X (i := 0) 0 rfl dX12_letter_8 ?_
  obtain ⟨v1, e1, h⟩ := me_bd h
  refine me_callVi X [] (ctX12_letters_63 hn (Nat.le_trans (by decide) hnt) e1) kV_X12_183 rfl rfl (Nat.le_of_ble_eq_true rfl) me_k63 (Nat.le_of_ble_eq_true rfl) (Nat.le_refl _) (Nat.le_of_ble_eq_true rfl) dX12_letter_9 ?_
  refine me_iconst X dX12_letter_12 ic_1 ?_
  refine me_isub X dX12_letter_13 ?_
  obtain ⟨v2, e2, h⟩ := me_bd h
  refine me_callSi X [.int p0, .int 0, .int (v1 - 1)] (ctX12_in hn (Nat.le_trans (by decide) hnt) e2) kS_X12_108 rfl rfl (Nat.le_of_ble_eq_true rfl) (Nat.le_refl _) (Nat.le_of_ble_eq_true rfl) dX12_letter_14 ?_
  have hj25_1 : ∀ (s1 : Int32) (M1 : me_M), mX12_letter_63_J25 p0 s1 M1 = some (r, M') → me_W p l e R s m args below meth c 0 0 (MQ below (me_Qc D cA ad n A (some (.int r)) M') args s 0 0 A) D cA ad n 2 A 25 [(0, .ref (ad 63)), (1, .int p0)] [.int s1, .ref (ad 63)] M1 := by
    intro s1 M1 h
    unfold mX12_letter_63_J25 at h
    refine me_iconst X dX12_letter_25 ic_1 ?_
    refine me_iconst X dX12_letter_26 ic_0 ?_
    obtain ⟨⟨v3, M2⟩, e3, h⟩ := me_bd h
    refine me_callVi X [.int s1, .int 1, .int 0] (ctX12_bad_63 hn (Nat.le_trans (by decide) hnt) e3) kV_X12_122 rfl rfl (Nat.le_of_ble_eq_true rfl) me_k63 (Nat.le_of_ble_eq_true rfl) (Nat.le_refl _) (Nat.le_of_ble_eq_true rfl) dX12_letter_27 ?_
    refine me_if_eq X 35 (by decide) dX12_letter_30 (fun c2 => ?_) (fun c2 => ?_)
    · have h := me_ip c2 h
      refine me_aload_n X (i := 0) 0 rfl dX12_letter_35 ?_
      refine me_getr X 75 kF_X12_43 (Nat.le_of_ble_eq_true rfl) me_k63 me_f63_12 dX12_letter_36 ?_
      refine me_aload_n X (i := 0) 0 rfl dX12_letter_39 ?_
      refine me_geti X kF_X12_37 (Nat.le_of_ble_eq_true rfl) me_k63 me_f63_10 dX12_letter_40 ?_
      refine me_iload_n X (i := 1) 1 rfl dX12_letter_43 ?_
      refine me_iadd X dX12_letter_44 ?_
      obtain ⟨v4, e4, h⟩ := me_bd h
      refine me_iald X (Nat.le_of_ble_eq_true rfl) me_k75 e4 dX12_letter_45 ?_
      obtain ⟨v5, e5, h⟩ := me_bd h
      refine me_callSi X [.int v4] (ctX12_byteOf hn (Nat.le_trans (by decide) hnt) e5) kS_X12_223 rfl rfl (Nat.le_of_ble_eq_true rfl) (Nat.le_refl _) (Nat.le_of_ble_eq_true rfl) dX12_letter_46 ?_
      obtain ⟨rfl, rfl⟩ := me_sp h
      exact me_iret X hr hlk dX12_letter_49
    · have h := me_in c2 h
      refine me_iconst X dX12_letter_33 ic_0 ?_
      obtain ⟨rfl, rfl⟩ := me_sp h
      exact me_iret X hr hlk dX12_letter_34
  refine me_if_ne X 24 (by decide) dX12_letter_17 (fun c1 => ?_) (fun c1 => ?_)
  · have h := me_in c1 h
    refine me_iconst X dX12_letter_24 ic_0 ?_
    exact hj25_1 0 (me_s M 63 0 0) h
  · have h := me_ip c1 h
    refine me_iconst X dX12_letter_20 ic_1 ?_
    refine me_goto X 25 (by decide) dX12_letter_21 ?_
    exact hj25_1 1 (me_s M 63 0 0) h
def mX12_grows_63_J68 (p0 : Int32) (x3_1 : Int32) (x2_1 : Int32) (M4 : me_M) (s2 : Int32) : Option ((Int32 × Int32 × me_M) ⊕ (Int32 × me_M)) :=
  ((mX12_takesOff_63 M4 p0).bind fun M5 => some (.inl ((x2_1 ||| s2), (x3_1 + 1), M5)))
def mX12_grows_63_L34 (p0 : Int32) : (Int32 × Int32 × me_M) → Option ((Int32 × Int32 × me_M) ⊕ (Int32 × me_M))
  | (x2_1, x3_1, M3) => (if 10 ≤ x3_1 then some (.inr (x2_1, M3)) else ((mX12_letters_63 M3).bind fun v3 => (if 40 ≤ v3 then some (.inr (x2_1, M3)) else ((mX12_sizeBy_63 M3 x3_1 p0).bind fun (v4, M4) => (if v4 ≤ 0 then (mX12_grows_63_J68 p0 x3_1 x2_1 M4 0) else (mX12_grows_63_J68 p0 x3_1 x2_1 M4 (1 <<< ((x3_1 - 2) &&& 31))))))))
def mX12_grows_63_J20 (p0 : Int32) (s1 : Int32) (M1 : me_M) : Option (Int32 × me_M) :=
  ((mX12_bad_63 M1 s1 1 1).bind fun (v2, M2) => (if v2 = 0 then ((me_l (mX12_grows_63_L34 p0) me_fu (0, 2, M2)).bind fun (y2_1, M6) => some (y2_1, M6)) else some (0, M2)))
def mX12_grows_63 (M : me_M) (p0 : Int32) : Option (Int32 × me_M) :=
  ((mX12_in p0 0 1).bind fun v1 => (if v1 = 0 then (mX12_grows_63_J20 p0 1 (me_s M 63 0 0)) else (mX12_grows_63_J20 p0 0 (me_s M 63 0 0))))
set_option maxRecDepth 100000 in
set_option maxHeartbeats 4000000 in
theorem ctX12_grows_63 {l : Launch} {n nt : Nat} (hn : 424 ≤ n) (hnt : 4 ≤ nt) {M : me_M} {p0 : Int32} {r : Int32} {M' : me_M} (h : mX12_grows_63 M p0 = some (r, M')) : me_Ct l yX12_grows cX12_grows 4 (some .int) 4 n nt (fun ad => [.ref (ad 63), .int p0]) M (fun _ => some (.int r)) M' := by
  unfold mX12_grows_63 at h
  refine me_enter (N0 := 424) RX12 rfl (plainFor_of_name pl_RX12) hn (Nat.le_trans (by decide) hnt) (fun _ => Nat.le_of_ble_eq_true rfl) ?_
  intro p e R s m args below meth c D cA ad tys A X hr hlk
  refine me_sub (L' := [(0, .ref (ad 63)), (1, .int p0)]) [0, 1] rfl ?_
  refine me_aload_n X (i := 0) 0 rfl dX12_grows_0 ?_
  refine me_iconst X dX12_grows_1 ic_0 ?_
  refine me_puti X kG_X12_105 (Nat.le_of_ble_eq_true rfl) me_k63 me_f63_0 dX12_grows_2 ?_
  refine me_aload_n X (i := 0) 0 rfl dX12_grows_5 ?_
  refine me_iload_n X (i := 1) 1 rfl dX12_grows_6 ?_
  refine me_iconst X dX12_grows_7 ic_0 ?_
  refine me_iconst X dX12_grows_8 ic_1 ?_
  obtain ⟨v1, e1, h⟩ := me_bd h
  refine me_callSi X [.int p0, .int 0, .int 1] (ctX12_in hn (Nat.le_trans (by decide) hnt) e1) kS_X12_108 rfl rfl (Nat.le_of_ble_eq_true rfl) (Nat.le_refl _) (Nat.le_of_ble_eq_true rfl) dX12_grows_9 ?_
  have hj20_1 : ∀ (s1 : Int32) (M1 : me_M), mX12_grows_63_J20 p0 s1 M1 = some (r, M') → me_W p l e R s m args below meth c 0 0 (MQ below (me_Qc D cA ad n A (some (.int r)) M') args s 0 0 A) D cA ad n 4 A 20 [(0, .ref (ad 63)), (1, .int p0)] [.int s1, .ref (ad 63)] M1 := by
    intro s1 M1 h
    unfold mX12_grows_63_J20 at h
    refine me_iconst X dX12_grows_20 ic_1 ?_
    refine me_iconst X dX12_grows_21 ic_1 ?_
    obtain ⟨⟨v2, M2⟩, e2, h⟩ := me_bd h
    refine me_callVi X [.int s1, .int 1, .int 1] (ctX12_bad_63 hn (Nat.le_trans (by decide) hnt) e2) kV_X12_122 rfl rfl (Nat.le_of_ble_eq_true rfl) me_k63 (Nat.le_of_ble_eq_true rfl) (Nat.le_refl _) (Nat.le_of_ble_eq_true rfl) dX12_grows_22 ?_
    refine me_if_eq X 30 (by decide) dX12_grows_25 (fun c2 => ?_) (fun c2 => ?_)
    · have h := me_ip c2 h
      refine me_iconst X dX12_grows_30 ic_0 ?_
      refine me_istore_n X (i := 2) [(2, .int 0), (0, .ref (ad 63)), (1, .int p0)] (Nat.le_of_ble_eq_true rfl) rfl dX12_grows_31 ?_
      refine me_iconst X dX12_grows_32 ic_2 ?_
      refine me_istore_n X (i := 3) [(3, .int 2), (2, .int 0), (0, .ref (ad 63)), (1, .int p0)] (Nat.le_of_ble_eq_true rfl) rfl dX12_grows_33 ?_
      obtain ⟨⟨y2_1, M6⟩, hq1, h⟩ := me_bd h
      have hx1 : me_W p l e R s m args below meth c 0 0 (MQ below (me_Qc D cA ad n A (some (.int r)) M') args s 0 0 A) D cA ad n 4 A 81 [(2, .int y2_1)] [] M6 := by
        refine me_iload_n X (i := 2) 0 rfl dX12_grows_81 ?_
        obtain ⟨rfl, rfl⟩ := me_sp h
        exact me_iret X hr hlk dX12_grows_82
      refine me_sub (L' := [(0, .ref (ad 63)), (1, .int p0), (2, .int 0), (3, .int 2)]) [2, 3, 1, 0] rfl ?_
      refine me_l_W (b := (mX12_grows_63_L34 p0)) (P := fun w => me_W p l e R s m args below meth c 0 0 (MQ below (me_Qc D cA ad n A (some (.int r)) M') args s 0 0 A) D cA ad n 4 A 34 [(0, .ref (ad 63)), (1, .int p0), (2, .int w.1), (3, .int w.2.1)] [] w.2.2) (r := (y2_1, M6)) ?_ me_fu (0, 2, M2) hq1
      rintro ⟨x2_1, x3_1, M3⟩ z1 h hb1 - hr1
      unfold mX12_grows_63_L34 at h
      refine me_iload_n X (i := 3) 3 rfl dX12_grows_34 ?_
      refine me_bipush X dX12_grows_35 ib_10 ?_
      refine me_icmp_ge X 81 (by decide) dX12_grows_37 (fun c3 => ?_) (fun c3 => ?_)
      · have h := me_ip c3 h
        obtain rfl := me_so h
        have q := hr1 _ rfl
        refine me_sub (L' := [(2, .int x2_1)]) [2] rfl ?_
        cases q
        exact hx1
      · have h := me_in c3 h
        refine me_aload_n X (i := 0) 0 rfl dX12_grows_40 ?_
        obtain ⟨v3, e3, h⟩ := me_bd h
        refine me_callVi X [] (ctX12_letters_63 hn (Nat.le_trans (by decide) hnt) e3) kV_X12_183 rfl rfl (Nat.le_of_ble_eq_true rfl) me_k63 (Nat.le_of_ble_eq_true rfl) (Nat.le_refl _) (Nat.le_of_ble_eq_true rfl) dX12_grows_41 ?_
        refine me_bipush X dX12_grows_44 ib_40 ?_
        refine me_icmp_ge X 81 (by decide) dX12_grows_46 (fun c4 => ?_) (fun c4 => ?_)
        · have h := me_ip c4 h
          obtain rfl := me_so h
          have q := hr1 _ rfl
          refine me_sub (L' := [(2, .int x2_1)]) [2] rfl ?_
          cases q
          exact hx1
        · have h := me_in c4 h
          refine me_iload_n X (i := 2) 2 rfl dX12_grows_49 ?_
          refine me_aload_n X (i := 0) 0 rfl dX12_grows_50 ?_
          refine me_iload_n X (i := 3) 3 rfl dX12_grows_51 ?_
          refine me_iload_n X (i := 1) 1 rfl dX12_grows_52 ?_
          obtain ⟨⟨v4, M4⟩, e4, h⟩ := me_bd h
          refine me_callVi X [.int x3_1, .int p0] (ctX12_sizeBy_63 hn (Nat.le_trans (by decide) hnt) e4) kV_X12_193 rfl rfl (Nat.le_of_ble_eq_true rfl) me_k63 (Nat.le_of_ble_eq_true rfl) (Nat.le_refl _) (Nat.le_of_ble_eq_true rfl) dX12_grows_53 ?_
          have hj68_2 : ∀ (s2 : Int32), mX12_grows_63_J68 p0 x3_1 x2_1 M4 s2 = some z1 → me_W p l e R s m args below meth c 0 0 (MQ below (me_Qc D cA ad n A (some (.int r)) M') args s 0 0 A) D cA ad n 4 A 68 [(0, .ref (ad 63)), (1, .int p0), (3, .int x3_1)] [.int s2, .int x2_1] M4 := by
            intro s2 h
            unfold mX12_grows_63_J68 at h
            refine me_ior X dX12_grows_68 ?_
            refine me_istore_n X (i := 2) [(2, .int (x2_1 ||| s2)), (0, .ref (ad 63)), (1, .int p0), (3, .int x3_1)] (Nat.le_of_ble_eq_true rfl) rfl dX12_grows_69 ?_
            refine me_aload_n X (i := 0) 1 rfl dX12_grows_70 ?_
            refine me_iload_n X (i := 1) 2 rfl dX12_grows_71 ?_
            obtain ⟨M5, e5, h⟩ := me_bd h
            refine me_callVv X [.int p0] (ctX12_takesOff_63 hn (Nat.le_trans (by decide) hnt) e5) kV_X12_196 rfl rfl (Nat.le_of_ble_eq_true rfl) me_k63 (Nat.le_of_ble_eq_true rfl) (Nat.le_refl _) (Nat.le_of_ble_eq_true rfl) dX12_grows_72 ?_
            refine me_iinc X (v := (x3_1 + 1)) 3 rfl (in_1 _) [(3, .int (x3_1 + 1)), (2, .int (x2_1 ||| s2)), (0, .ref (ad 63)), (1, .int p0)] (Nat.le_of_ble_eq_true rfl) rfl dX12_grows_75 ?_
            refine me_goto X 34 (by decide) dX12_grows_78 ?_
            obtain rfl := me_so h
            refine me_sub (L' := [(0, .ref (ad 63)), (1, .int p0), (2, .int (x2_1 ||| s2)), (3, .int (x3_1 + 1))]) [2, 3, 1, 0] rfl ?_
            exact hb1 ((x2_1 ||| s2), (x3_1 + 1), M5) rfl
          refine me_if_le X 67 (by decide) dX12_grows_56 (fun c5 => ?_) (fun c5 => ?_)
          · have h := me_ip c5 h
            refine me_iconst X dX12_grows_67 ic_0 ?_
            refine me_sub (L' := [(0, .ref (ad 63)), (1, .int p0), (3, .int x3_1)]) [0, 1, 3] rfl ?_
            exact hj68_2 0 h
          · have h := me_in c5 h
            refine me_iconst X dX12_grows_59 ic_1 ?_
            refine me_iload_n X (i := 3) 3 rfl dX12_grows_60 ?_
            refine me_iconst X dX12_grows_61 ic_2 ?_
            refine me_isub X dX12_grows_62 ?_
            refine me_ishl X dX12_grows_63 ?_
            refine me_goto X 68 (by decide) dX12_grows_64 ?_
            refine me_sub (L' := [(0, .ref (ad 63)), (1, .int p0), (3, .int x3_1)]) [0, 1, 3] rfl ?_
            exact hj68_2 (1 <<< ((x3_1 - 2) &&& 31)) h
    · have h := me_in c2 h
      refine me_iconst X dX12_grows_28 ic_0 ?_
      obtain ⟨rfl, rfl⟩ := me_sp h
      exact me_iret X hr hlk dX12_grows_29
  refine me_if_ne X 19 (by decide) dX12_grows_12 (fun c1 => ?_) (fun c1 => ?_)
  · have h := me_in c1 h
    refine me_iconst X dX12_grows_19 ic_0 ?_
    exact hj20_1 0 (me_s M 63 0 0) h
  · have h := me_ip c1 h
    refine me_iconst X dX12_grows_15 ic_1 ?_
    refine me_goto X 20 (by decide) dX12_grows_16 ?_
    exact hj20_1 1 (me_s M 63 0 0) h
def mX12_isHit_63_L2 (M : me_M) (p0 : Int32) : (Int32) → Option ((Int32) ⊕ ((Unit) ⊕ Int32))
  | x2_1 => ((mX12_letters_63 M).bind fun v1 => (if v1 ≤ x2_1 then some (.inr (.inl ())) else (if (M.1 63 5) ≤ (p0 + x2_1) then some (.inr (.inr 0)) else ((me_r M 67 241 (p0 + x2_1)).bind fun v2 => ((me_r M 75 84 ((M.1 63 10) + x2_1)).bind fun v3 => (if v2 = v3 then some (.inl (x2_1 + 1)) else some (.inr (.inr 0))))))))
def mX12_isHit_63 (M : me_M) (p0 : Int32) : Option Int32 :=
  ((me_l (mX12_isHit_63_L2 M p0) me_fu 0).bind fun o => Sum.elim (fun _ => some 1) (fun res => some res) o)
set_option maxRecDepth 100000 in
set_option maxHeartbeats 4000000 in
theorem ctX12_isHit_63 {l : Launch} {n nt : Nat} (hn : 424 ≤ n) (hnt : 4 ≤ nt) {M : me_M} {p0 : Int32} {r : Int32} (h : mX12_isHit_63 M p0 = some r) : me_Ct l yX12_isHit cX12_isHit 3 (some .boolean) 1 n nt (fun ad => [.ref (ad 63), .int p0]) M (fun _ => some (.int r)) M := by
  unfold mX12_isHit_63 at h
  refine me_enter (N0 := 424) RX12 rfl (plainFor_of_name pl_RX12) hn (Nat.le_trans (by decide) hnt) (fun _ => Nat.le_of_ble_eq_true rfl) ?_
  intro p e R s m args below meth c D cA ad tys A X hr hlk
  refine me_sub (L' := [(0, .ref (ad 63)), (1, .int p0)]) [0, 1] rfl ?_
  refine me_iconst X dX12_isHit_0 ic_0 ?_
  refine me_istore_n X (i := 2) [(2, .int 0), (0, .ref (ad 63)), (1, .int p0)] (Nat.le_of_ble_eq_true rfl) rfl dX12_isHit_1 ?_
  obtain ⟨o0, hq1l, hq1⟩ := me_bd h
  have hx1 : o0 = .inl () → me_W p l e R s m args below meth c 0 0 (MQ below (me_Qc D cA ad n A (some (.int r)) M) args s 0 0 A) D cA ad n 3 A 52 [] [] M := by
    intro q
    subst q
    have h := me_el hq1
    refine me_iconst X dX12_isHit_52 ic_1 ?_
    obtain rfl := me_so h
    exact me_zret X (by decide) hr hlk dX12_isHit_53
  refine me_sub (L' := [(0, .ref (ad 63)), (1, .int p0), (2, .int 0)]) [1, 2, 0] rfl ?_
  refine me_l_W (b := (mX12_isHit_63_L2 M p0)) (P := fun w => me_W p l e R s m args below meth c 0 0 (MQ below (me_Qc D cA ad n A (some (.int r)) M) args s 0 0 A) D cA ad n 3 A 2 [(0, .ref (ad 63)), (1, .int p0), (2, .int w)] [] M) (r := o0) ?_ me_fu 0 hq1l
  rintro x2_1 z1 h hb1 - hr1
  unfold mX12_isHit_63_L2 at h
  refine me_iload_n X (i := 2) 2 rfl dX12_isHit_2 ?_
  refine me_aload_n X (i := 0) 0 rfl dX12_isHit_3 ?_
  obtain ⟨v1, e1, h⟩ := me_bd h
  refine me_callVi X [] (ctX12_letters_63 hn (Nat.le_trans (by decide) hnt) e1) kV_X12_183 rfl rfl (Nat.le_of_ble_eq_true rfl) me_k63 (Nat.le_of_ble_eq_true rfl) (Nat.le_refl _) (Nat.le_of_ble_eq_true rfl) dX12_isHit_4 ?_
  refine me_icmp_ge X 52 (by decide) dX12_isHit_7 (fun c1 => ?_) (fun c1 => ?_)
  · have h := me_ip c1 h
    obtain rfl := me_so h
    have q := hr1 _ rfl
    refine me_sub (L' := []) [] rfl ?_
    subst q
    exact hx1 rfl
  · have h := me_in c1 h
    refine me_iload_n X (i := 1) 1 rfl dX12_isHit_10 ?_
    refine me_iload_n X (i := 2) 2 rfl dX12_isHit_11 ?_
    refine me_iadd X dX12_isHit_12 ?_
    refine me_aload_n X (i := 0) 0 rfl dX12_isHit_13 ?_
    refine me_geti X kF_X12_20 (Nat.le_of_ble_eq_true rfl) me_k63 me_f63_5 dX12_isHit_14 ?_
    refine me_icmp_ge X 44 (by decide) dX12_isHit_17 (fun c2 => ?_) (fun c2 => ?_)
    · have h := me_ip c2 h
      refine me_iconst X dX12_isHit_44 ic_0 ?_
      obtain rfl := me_so h
      have q := hr1 _ rfl
      subst q
      have h : some 0 = some r := hq1
      obtain rfl := me_so h
      exact me_zret X (by decide) hr hlk dX12_isHit_45
    · have h := me_in c2 h
      refine me_aload_n X (i := 0) 0 rfl dX12_isHit_20 ?_
      refine me_getr X 66 kF_X12_28 (Nat.le_of_ble_eq_true rfl) me_k63 me_f63_7 dX12_isHit_21 ?_
      refine me_iconst X dX12_isHit_24 ic_0 ?_
      refine me_aald X (j := 67) (Nat.le_of_ble_eq_true rfl) ⟨by decide, by decide, Nat.lt_of_lt_of_le (by decide) hnt⟩ me_k66 (by decide) dX12_isHit_25 ?_
      refine me_iload_n X (i := 1) 1 rfl dX12_isHit_26 ?_
      refine me_iload_n X (i := 2) 2 rfl dX12_isHit_27 ?_
      refine me_iadd X dX12_isHit_28 ?_
      obtain ⟨v2, e2, h⟩ := me_bd h
      refine me_iald X (Nat.le_of_ble_eq_true rfl) me_k67 e2 dX12_isHit_29 ?_
      refine me_aload_n X (i := 0) 0 rfl dX12_isHit_30 ?_
      refine me_getr X 75 kF_X12_43 (Nat.le_of_ble_eq_true rfl) me_k63 me_f63_12 dX12_isHit_31 ?_
      refine me_aload_n X (i := 0) 0 rfl dX12_isHit_34 ?_
      refine me_geti X kF_X12_37 (Nat.le_of_ble_eq_true rfl) me_k63 me_f63_10 dX12_isHit_35 ?_
      refine me_iload_n X (i := 2) 2 rfl dX12_isHit_38 ?_
      refine me_iadd X dX12_isHit_39 ?_
      obtain ⟨v3, e3, h⟩ := me_bd h
      refine me_iald X (Nat.le_of_ble_eq_true rfl) me_k75 e3 dX12_isHit_40 ?_
      refine me_icmp_eq X 46 (by decide) dX12_isHit_41 (fun c3 => ?_) (fun c3 => ?_)
      · have h := me_ip c3 h
        refine me_iinc X (v := (x2_1 + 1)) 2 rfl (in_1 _) [(2, .int (x2_1 + 1)), (0, .ref (ad 63)), (1, .int p0)] (Nat.le_of_ble_eq_true rfl) rfl dX12_isHit_46 ?_
        refine me_goto X 2 (by decide) dX12_isHit_49 ?_
        obtain rfl := me_so h
        refine me_sub (L' := [(0, .ref (ad 63)), (1, .int p0), (2, .int (x2_1 + 1))]) [1, 2, 0] rfl ?_
        exact hb1 (x2_1 + 1) rfl
      · have h := me_in c3 h
        refine me_iconst X dX12_isHit_44 ic_0 ?_
        obtain rfl := me_so h
        have q := hr1 _ rfl
        subst q
        have h : some 0 = some r := hq1
        obtain rfl := me_so h
        exact me_zret X (by decide) hr hlk dX12_isHit_45
