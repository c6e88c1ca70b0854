def mX12_letterAt_63_J24 (M : me_M)  : Option Int32 :=
  some (-1)
def mX12_letterAt_63 (M : me_M) (p0 : Int32) : Option Int32 :=
  (if p0 < 0 then (mX12_letterAt_63_J24 M ) else (if (M.1 63 5) ≤ p0 then (mX12_letterAt_63_J24 M ) else ((me_r M 67 241 p0).bind fun v1 => (if v1 = 1 then (mX12_letterAt_63_J24 M ) else ((me_r M 67 241 p0).bind fun v2 => some v2)))))
set_option maxRecDepth 100000 in
set_option maxHeartbeats 4000000 in
theorem ctX12_letterAt_63 {l : Launch} {n nt : Nat} (hn : 424 ≤ n) (hnt : 4 ≤ nt) {M : me_M} {p0 : Int32} {r : Int32} (h : mX12_letterAt_63 M p0 = some r) : me_Ct l yX12_letterAt cX12_letterAt 2 (some .int) 0 n nt (fun ad => [.ref (ad 63), .int p0]) M (fun _ => some (.int r)) M := by
  unfold mX12_letterAt_63 at h
  refine me_enter (N0 := 424) RX12 rfl (plainFor_of_name pl_RX12) hn (Nat.le_trans (by decide) hnt) (fun _ => Nat.le_of_ble_eq_true rfl) ?_
  intro p e R s m args below meth c D cA ad tys A X hr hlk
  refine me_sub (L' := [(0, .ref (ad 63)), (1, .int p0)]) [0, 1] rfl ?_
  refine me_iload_n X (i := 1) 1 rfl dX12_letterAt_0 ?_
  have hj24_1 : mX12_letterAt_63_J24 M  = some r → me_W p l e R s m args below meth c 0 0 (MQ below (me_Qc D cA ad n A (some (.int r)) M) args s 0 0 A) D cA ad n 2 A 24 [] [] M := by
    intro h
    unfold mX12_letterAt_63_J24 at h
    refine me_iconst X dX12_letterAt_24 ic_m1 ?_
    refine me_goto X 36 (by decide) dX12_letterAt_25 ?_
    obtain rfl := me_so h
    exact me_iret X hr hlk dX12_letterAt_36
  refine me_if_lt X 24 (by decide) dX12_letterAt_1 (fun c1 => ?_) (fun c1 => ?_)
  · have h := me_ip c1 h
    refine me_sub (L' := []) [] rfl ?_
    exact hj24_1  h
  · have h := me_in c1 h
    refine me_iload_n X (i := 1) 1 rfl dX12_letterAt_4 ?_
    refine me_aload_n X (i := 0) 0 rfl dX12_letterAt_5 ?_
    refine me_geti X kF_X12_20 (Nat.le_of_ble_eq_true rfl) me_k63 me_f63_5 dX12_letterAt_6 ?_
    refine me_icmp_ge X 24 (by decide) dX12_letterAt_9 (fun c2 => ?_) (fun c2 => ?_)
    · have h := me_ip c2 h
      refine me_sub (L' := []) [] rfl ?_
      exact hj24_1  h
    · have h := me_in c2 h
      refine me_aload_n X (i := 0) 0 rfl dX12_letterAt_12 ?_
      refine me_getr X 66 kF_X12_28 (Nat.le_of_ble_eq_true rfl) me_k63 me_f63_7 dX12_letterAt_13 ?_
      refine me_iconst X dX12_letterAt_16 ic_0 ?_
      refine me_aald X (j := 67) (Nat.le_of_ble_eq_true rfl) ⟨by decide, by decide, Nat.lt_of_lt_of_le (by decide) hnt⟩ me_k66 (by decide) dX12_letterAt_17 ?_
      refine me_iload_n X (i := 1) 1 rfl dX12_letterAt_18 ?_
      obtain ⟨v1, e1, h⟩ := me_bd h
      refine me_iald X (Nat.le_of_ble_eq_true rfl) me_k67 e1 dX12_letterAt_19 ?_
      refine me_iconst X dX12_letterAt_20 ic_1 ?_
      refine me_icmp_ne X 28 (by decide) dX12_letterAt_21 (fun c3 => ?_) (fun c3 => ?_)
      · have h := me_in c3 h
        refine me_aload_n X (i := 0) 0 rfl dX12_letterAt_28 ?_
        refine me_getr X 66 kF_X12_28 (Nat.le_of_ble_eq_true rfl) me_k63 me_f63_7 dX12_letterAt_29 ?_
        refine me_iconst X dX12_letterAt_32 ic_0 ?_
        refine me_aald X (j := 67) (Nat.le_of_ble_eq_true rfl) ⟨by decide, by decide, Nat.lt_of_lt_of_le (by decide) hnt⟩ me_k66 (by decide) dX12_letterAt_33 ?_
        refine me_iload_n X (i := 1) 1 rfl dX12_letterAt_34 ?_
        obtain ⟨v2, e2, h⟩ := me_bd h
        refine me_iald X (Nat.le_of_ble_eq_true rfl) me_k67 e2 dX12_letterAt_35 ?_
        obtain rfl := me_so h
        exact me_iret X hr hlk dX12_letterAt_36
      · have h := me_ip c3 h
        refine me_sub (L' := []) [] rfl ?_
        exact hj24_1  h
def mX12_isMaximal_63_J124 (p0 : Int32) (p1 : Int32) (p2 : Int32) (x7_1 : Int32) (M : me_M) (x4_4 : Int32) (x5_4 : Int32) (x6_2 : Int32) : Option ((Int32 × Int32 × Int32 × Int32) ⊕ (Int32 × Int32 × Int32)) :=
  some (.inl (x4_4, x5_4, x6_2, (x7_1 + 1)))
def mX12_isMaximal_63_J121 (p0 : Int32) (p1 : Int32) (p2 : Int32) (x4_3 : Int32) (x7_1 : Int32) (x6_1 : Int32) (M : me_M) (x5_3 : Int32) (s2 : Int32) : Option ((Int32 × Int32 × Int32 × Int32) ⊕ (Int32 × Int32 × Int32)) :=
  (mX12_isMaximal_63_J124 p0 p1 p2 x7_1 M x4_3 x5_3 (x6_1 ||| s2))
def mX12_isMaximal_63_J116 (p0 : Int32) (p1 : Int32) (p2 : Int32) (x4_3 : Int32) (x7_1 : Int32) (x6_1 : Int32) (M : me_M) (x5_2 : Int32) : Option ((Int32 × Int32 × Int32 × Int32) ⊕ (Int32 × Int32 × Int32)) :=
  (mX12_isMaximal_63_J121 p0 p1 p2 x4_3 x7_1 x6_1 M x5_2 1)
def mX12_isMaximal_63_J81 (p0 : Int32) (p1 : Int32) (p2 : Int32) (x6_1 : Int32) (x7_1 : Int32) (x5_1 : Int32) (M : me_M) (x4_3 : Int32) (s1 : Int32) : Option ((Int32 × Int32 × Int32 × Int32) ⊕ (Int32 × Int32 × Int32)) :=
  ((mX12_letterAt_63 M (x7_1 + p1)).bind fun v5 => (if v5 = (-1) then (mX12_isMaximal_63_J116 p0 p1 p2 x4_3 x7_1 x6_1 M (x5_1 ||| s1)) else ((mX12_letterAt_63 M (x7_1 + p1)).bind fun v6 => ((mX12_letterAt_63 M (p0 + p1)).bind fun v7 => (if v6 = v7 then (mX12_isMaximal_63_J121 p0 p1 p2 x4_3 x7_1 x6_1 M (x5_1 ||| s1) 0) else (mX12_isMaximal_63_J116 p0 p1 p2 x4_3 x7_1 x6_1 M (x5_1 ||| s1)))))))
def mX12_isMaximal_63_J76 (p0 : Int32) (p1 : Int32) (p2 : Int32) (x6_1 : Int32) (x7_1 : Int32) (x5_1 : Int32) (M : me_M) (x4_2 : Int32) : Option ((Int32 × Int32 × Int32 × Int32) ⊕ (Int32 × Int32 × Int32)) :=
  (mX12_isMaximal_63_J81 p0 p1 p2 x6_1 x7_1 x5_1 M x4_2 1)
def mX12_isMaximal_63_J41 (p0 : Int32) (p1 : Int32) (p2 : Int32) (x4_1 : Int32) (x5_1 : Int32) (x6_1 : Int32) (x7_1 : Int32) (M : me_M)  : Option ((Int32 × Int32 × Int32 × Int32) ⊕ (Int32 × Int32 × Int32)) :=
  ((mX12_letterAt_63 M (x7_1 - 1)).bind fun v2 => (if v2 = (-1) then (mX12_isMaximal_63_J76 p0 p1 p2 x6_1 x7_1 x5_1 M (x4_1 + 1)) else ((mX12_letterAt_63 M (x7_1 - 1)).bind fun v3 => ((mX12_letterAt_63 M (p0 - 1)).bind fun v4 => (if v3 = v4 then (mX12_isMaximal_63_J81 p0 p1 p2 x6_1 x7_1 x5_1 M (x4_1 + 1) 0) else (mX12_isMaximal_63_J76 p0 p1 p2 x6_1 x7_1 x5_1 M (x4_1 + 1)))))))
def mX12_isMaximal_63_L12 (M : me_M) (p0 : Int32) (p1 : Int32) (p2 : Int32) : (Int32 × Int32 × Int32 × Int32) → Option ((Int32 × Int32 × Int32 × Int32) ⊕ (Int32 × Int32 × Int32))
  | (x4_1, x5_1, x6_1, x7_1) => (if (M.1 63 5) ≤ x7_1 then some (.inr (x4_1, x5_1, x6_1)) else (if x7_1 = p0 then (mX12_isMaximal_63_J41 p0 p1 p2 x4_1 x5_1 x6_1 x7_1 M ) else ((mX12_like_63 M p0 x7_1).bind fun v1 => (if p1 ≤ v1 then (mX12_isMaximal_63_J41 p0 p1 p2 x4_1 x5_1 x6_1 x7_1 M ) else (mX12_isMaximal_63_J124 p0 p1 p2 x7_1 M x4_1 x5_1 x6_1)))))
def mX12_isMaximal_63 (M : me_M) (p0 : Int32) (p1 : Int32) (p2 : Int32) : Option Int32 :=
  ((me_l (mX12_isMaximal_63_L12 M p0 p1 p2) me_fu (0, 0, 0, 0)).bind fun (y4_1, y5_1, y6_1) => (if y4_1 < 2 then some 0 else (if y4_1 < p2 then some 0 else (if y5_1 = 0 then some 0 else (if y6_1 = 0 then some 0 else some 1)))))
set_option maxRecDepth 100000 in
set_option maxHeartbeats 4000000 in
theorem ctX12_isMaximal_63 {l : Launch} {n nt : Nat} (hn : 424 ≤ n) (hnt : 4 ≤ nt) {M : me_M} {p0 : Int32} {p1 : Int32} {p2 : Int32} {r : Int32} (h : mX12_isMaximal_63 M p0 p1 p2 = some r) : me_Ct l yX12_isMaximal cX12_isMaximal 8 (some .boolean) 1 n nt (fun ad => [.ref (ad 63), .int p0, .int p1, .int p2]) M (fun _ => some (.int r)) M := by
  unfold mX12_isMaximal_63 at h
  refine me_enter (N0 := 424) RX12 rfl (plainFor_of_name pl_RX12) hn (Nat.le_trans (by decide) hnt) (fun _ => Nat.le_of_ble_eq_true rfl) ?_
  intro p e R s m args below meth c D cA ad tys A X hr hlk
  refine me_sub (L' := [(0, .ref (ad 63)), (1, .int p0), (2, .int p1), (3, .int p2)]) [0, 1, 2, 3] rfl ?_
  refine me_iconst X dX12_isMaximal_0 ic_0 ?_
  refine me_istore X (i := 4) [(4, .int 0), (0, .ref (ad 63)), (1, .int p0), (2, .int p1), (3, .int p2)] (Nat.le_of_ble_eq_true rfl) rfl dX12_isMaximal_1 ?_
  refine me_iconst X dX12_isMaximal_3 ic_0 ?_
  refine me_istore X (i := 5) [(5, .int 0), (4, .int 0), (0, .ref (ad 63)), (1, .int p0), (2, .int p1), (3, .int p2)] (Nat.le_of_ble_eq_true rfl) rfl dX12_isMaximal_4 ?_
  refine me_iconst X dX12_isMaximal_6 ic_0 ?_
  refine me_istore X (i := 6) [(6, .int 0), (5, .int 0), (4, .int 0), (0, .ref (ad 63)), (1, .int p0), (2, .int p1), (3, .int p2)] (Nat.le_of_ble_eq_true rfl) rfl dX12_isMaximal_7 ?_
  refine me_iconst X dX12_isMaximal_9 ic_0 ?_
  refine me_istore X (i := 7) [(7, .int 0), (6, .int 0), (5, .int 0), (4, .int 0), (0, .ref (ad 63)), (1, .int p0), (2, .int p1), (3, .int p2)] (Nat.le_of_ble_eq_true rfl) rfl dX12_isMaximal_10 ?_
  obtain ⟨⟨y4_1, y5_1, y6_1⟩, hq1, h⟩ := me_bd h
  have hx1 : me_W p l e R s m args below meth c 0 0 (MQ below (me_Qc D cA ad n A (some (.int r)) M) args s 0 0 A) D cA ad n 8 A 130 [(3, .int p2), (4, .int y4_1), (5, .int y5_1), (6, .int y6_1)] [] M := by
    refine me_iload X (i := 4) 1 rfl dX12_isMaximal_130 ?_
    refine me_iconst X dX12_isMaximal_132 ic_2 ?_
    refine me_icmp_lt X 156 (by decide) dX12_isMaximal_133 (fun c8 => ?_) (fun c8 => ?_)
    · have h := me_ip c8 h
      refine me_iconst X dX12_isMaximal_156 ic_0 ?_
      obtain rfl := me_so h
      exact me_zret X (by decide) hr hlk dX12_isMaximal_157
    · have h := me_in c8 h
      refine me_iload X (i := 4) 1 rfl dX12_isMaximal_136 ?_
      refine me_iload_n X (i := 3) 0 rfl dX12_isMaximal_138 ?_
      refine me_icmp_lt X 156 (by decide) dX12_isMaximal_139 (fun c9 => ?_) (fun c9 => ?_)
      · have h := me_ip c9 h
        refine me_iconst X dX12_isMaximal_156 ic_0 ?_
        obtain rfl := me_so h
        exact me_zret X (by decide) hr hlk dX12_isMaximal_157
      · have h := me_in c9 h
        refine me_iload X (i := 5) 2 rfl dX12_isMaximal_142 ?_
        refine me_if_eq X 156 (by decide) dX12_isMaximal_144 (fun c10 => ?_) (fun c10 => ?_)
        · have h := me_ip c10 h
          refine me_iconst X dX12_isMaximal_156 ic_0 ?_
          obtain rfl := me_so h
          exact me_zret X (by decide) hr hlk dX12_isMaximal_157
        · have h := me_in c10 h
          refine me_iload X (i := 6) 3 rfl dX12_isMaximal_147 ?_
          refine me_if_eq X 156 (by decide) dX12_isMaximal_149 (fun c11 => ?_) (fun c11 => ?_)
          · have h := me_ip c11 h
            refine me_iconst X dX12_isMaximal_156 ic_0 ?_
            obtain rfl := me_so h
            exact me_zret X (by decide) hr hlk dX12_isMaximal_157
          · have h := me_in c11 h
            refine me_iconst X dX12_isMaximal_152 ic_1 ?_
            refine me_goto X 157 (by decide) dX12_isMaximal_153 ?_
            obtain rfl := me_so h
            exact me_zret X (by decide) hr hlk dX12_isMaximal_157
  refine me_sub (L' := [(0, .ref (ad 63)), (1, .int p0), (2, .int p1), (3, .int p2), (4, .int 0), (5, .int 0), (6, .int 0), (7, .int 0)]) [4, 5, 6, 7, 3, 2, 1, 0] rfl ?_
  refine me_l_W (b := (mX12_isMaximal_63_L12 M p0 p1 p2)) (P := fun w => me_W p l e R s m args below meth c 0 0 (MQ below (me_Qc D cA ad n A (some (.int r)) M) args s 0 0 A) D cA ad n 8 A 12 [(0, .ref (ad 63)), (1, .int p0), (2, .int p1), (3, .int p2), (4, .int w.1), (5, .int w.2.1), (6, .int w.2.2.1), (7, .int w.2.2.2)] [] M) (r := (y4_1, y5_1, y6_1)) ?_ me_fu (0, 0, 0, 0) hq1
  rintro ⟨x4_1, x5_1, x6_1, x7_1⟩ z1 h hb1 - hr1
  unfold mX12_isMaximal_63_L12 at h
  refine me_iload X (i := 7) 7 rfl dX12_isMaximal_12 ?_
  refine me_aload_n X (i := 0) 0 rfl dX12_isMaximal_14 ?_
  refine me_geti X kF_X12_20 (Nat.le_of_ble_eq_true rfl) me_k63 me_f63_5 dX12_isMaximal_15 ?_
  refine me_icmp_ge X 130 (by decide) dX12_isMaximal_18 (fun c1 => ?_) (fun c1 => ?_)
  · have h := me_ip c1 h
    obtain rfl := me_so h
    have q := hr1 _ rfl
    refine me_sub (L' := [(3, .int p2), (4, .int x4_1), (5, .int x5_1), (6, .int x6_1)]) [3, 4, 5, 6] rfl ?_
    cases q
    exact hx1
  · have h := me_in c1 h
    refine me_iload X (i := 7) 7 rfl dX12_isMaximal_21 ?_
    refine me_iload_n X (i := 1) 1 rfl dX12_isMaximal_23 ?_
    have hj124_2 : ∀ (x4_4 : Int32) (x5_4 : Int32) (x6_2 : Int32), mX12_isMaximal_63_J124 p0 p1 p2 x7_1 M x4_4 x5_4 x6_2 = some z1 → me_W p l e R s m args below meth c 0 0 (MQ below (me_Qc D cA ad n A (some (.int r)) M) args s 0 0 A) D cA ad n 8 A 124 [(0, .ref (ad 63)), (1, .int p0), (2, .int p1), (3, .int p2), (4, .int x4_4), (5, .int x5_4), (6, .int x6_2), (7, .int x7_1)] [] M := by
      intro x4_4 x5_4 x6_2 h
      unfold mX12_isMaximal_63_J124 at h
      refine me_iinc X (v := (x7_1 + 1)) 7 rfl (in_1 _) [(7, .int (x7_1 + 1)), (0, .ref (ad 63)), (1, .int p0), (2, .int p1), (3, .int p2), (4, .int x4_4), (5, .int x5_4), (6, .int x6_2)] (Nat.le_of_ble_eq_true rfl) rfl dX12_isMaximal_124 ?_
      refine me_goto X 12 (by decide) dX12_isMaximal_127 ?_
      obtain rfl := me_so h
      refine me_sub (L' := [(0, .ref (ad 63)), (1, .int p0), (2, .int p1), (3, .int p2), (4, .int x4_4), (5, .int x5_4), (6, .int x6_2), (7, .int (x7_1 + 1))]) [1, 2, 3, 4, 5, 6, 7, 0] rfl ?_
      exact hb1 (x4_4, x5_4, x6_2, (x7_1 + 1)) rfl
    have hj41_1 : mX12_isMaximal_63_J41 p0 p1 p2 x4_1 x5_1 x6_1 x7_1 M  = some z1 → me_W p l e R s m args below meth c 0 0 (MQ below (me_Qc D cA ad n A (some (.int r)) M) args s 0 0 A) D cA ad n 8 A 41 [(0, .ref (ad 63)), (1, .int p0), (2, .int p1), (3, .int p2), (4, .int x4_1), (5, .int x5_1), (6, .int x6_1), (7, .int x7_1)] [] M := by
      intro h
      unfold mX12_isMaximal_63_J41 at h
      refine me_iinc X (v := (x4_1 + 1)) 4 rfl (in_1 _) [(4, .int (x4_1 + 1)), (0, .ref (ad 63)), (1, .int p0), (2, .int p1), (3, .int p2), (5, .int x5_1), (6, .int x6_1), (7, .int x7_1)] (Nat.le_of_ble_eq_true rfl) rfl dX12_isMaximal_41 ?_
      refine me_iload X (i := 5) 5 rfl dX12_isMaximal_44 ?_
      refine me_aload_n X (i := 0) 1 rfl dX12_isMaximal_46 ?_
      refine me_iload X (i := 7) 7 rfl dX12_isMaximal_47 ?_
      refine me_iconst X dX12_isMaximal_49 ic_1 ?_
      refine me_isub X dX12_isMaximal_50 ?_
      obtain ⟨v2, e2, h⟩ := me_bd h
      refine me_callVi X [.int (x7_1 - 1)] (ctX12_letterAt_63 hn (Nat.le_trans (by decide) hnt) e2) kV_X12_307 rfl rfl (Nat.le_of_ble_eq_true rfl) me_k63 (Nat.le_of_ble_eq_true rfl) (Nat.le_refl _) (Nat.le_of_ble_eq_true rfl) dX12_isMaximal_51 ?_
      refine me_iconst X dX12_isMaximal_54 ic_m1 ?_
      have hj81_4 : ∀ (x4_3 : Int32) (s1 : Int32), mX12_isMaximal_63_J81 p0 p1 p2 x6_1 x7_1 x5_1 M x4_3 s1 = some z1 → me_W p l e R s m args below meth c 0 0 (MQ below (me_Qc D cA ad n A (some (.int r)) M) args s 0 0 A) D cA ad n 8 A 81 [(0, .ref (ad 63)), (1, .int p0), (2, .int p1), (3, .int p2), (4, .int x4_3), (6, .int x6_1), (7, .int x7_1)] [.int s1, .int x5_1] M := by
        intro x4_3 s1 h
        unfold mX12_isMaximal_63_J81 at h
        refine me_ior X dX12_isMaximal_81 ?_
        refine me_istore X (i := 5) [(5, .int (x5_1 ||| s1)), (0, .ref (ad 63)), (1, .int p0), (2, .int p1), (3, .int p2), (4, .int x4_3), (6, .int x6_1), (7, .int x7_1)] (Nat.le_of_ble_eq_true rfl) rfl dX12_isMaximal_82 ?_
        refine me_iload X (i := 6) 6 rfl dX12_isMaximal_84 ?_
        refine me_aload_n X (i := 0) 1 rfl dX12_isMaximal_86 ?_
        refine me_iload X (i := 7) 7 rfl dX12_isMaximal_87 ?_
        refine me_iload_n X (i := 2) 3 rfl dX12_isMaximal_89 ?_
        refine me_iadd X dX12_isMaximal_90 ?_
        obtain ⟨v5, e5, h⟩ := me_bd h
        refine me_callVi X [.int (x7_1 + p1)] (ctX12_letterAt_63 hn (Nat.le_trans (by decide) hnt) e5) kV_X12_307 rfl rfl (Nat.le_of_ble_eq_true rfl) me_k63 (Nat.le_of_ble_eq_true rfl) (Nat.le_refl _) (Nat.le_of_ble_eq_true rfl) dX12_isMaximal_91 ?_
        refine me_iconst X dX12_isMaximal_94 ic_m1 ?_
        have hj121_6 : ∀ (x5_3 : Int32) (s2 : Int32), mX12_isMaximal_63_J121 p0 p1 p2 x4_3 x7_1 x6_1 M x5_3 s2 = some z1 → me_W p l e R s m args below meth c 0 0 (MQ below (me_Qc D cA ad n A (some (.int r)) M) args s 0 0 A) D cA ad n 8 A 121 [(0, .ref (ad 63)), (1, .int p0), (2, .int p1), (3, .int p2), (4, .int x4_3), (5, .int x5_3), (7, .int x7_1)] [.int s2, .int x6_1] M := by
          intro x5_3 s2 h
          unfold mX12_isMaximal_63_J121 at h
          refine me_ior X dX12_isMaximal_121 ?_
          refine me_istore X (i := 6) [(6, .int (x6_1 ||| s2)), (0, .ref (ad 63)), (1, .int p0), (2, .int p1), (3, .int p2), (4, .int x4_3), (5, .int x5_3), (7, .int x7_1)] (Nat.le_of_ble_eq_true rfl) rfl dX12_isMaximal_122 ?_
          refine me_sub (L' := [(0, .ref (ad 63)), (1, .int p0), (2, .int p1), (3, .int p2), (4, .int x4_3), (5, .int x5_3), (6, .int (x6_1 ||| s2)), (7, .int x7_1)]) [1, 2, 3, 4, 5, 6, 0, 7] rfl ?_
          exact hj124_2 x4_3 x5_3 (x6_1 ||| s2) h
        have hj116_5 : ∀ (x5_2 : Int32), mX12_isMaximal_63_J116 p0 p1 p2 x4_3 x7_1 x6_1 M x5_2 = some z1 → me_W p l e R s m args below meth c 0 0 (MQ below (me_Qc D cA ad n A (some (.int r)) M) args s 0 0 A) D cA ad n 8 A 116 [(0, .ref (ad 63)), (1, .int p0), (2, .int p1), (3, .int p2), (4, .int x4_3), (5, .int x5_2), (7, .int x7_1)] [.int x6_1] M := by
          intro x5_2 h
          unfold mX12_isMaximal_63_J116 at h
          refine me_iconst X dX12_isMaximal_116 ic_1 ?_
          refine me_goto X 121 (by decide) dX12_isMaximal_117 ?_
          exact hj121_6 x5_2 1 h
        refine me_icmp_eq X 116 (by decide) dX12_isMaximal_95 (fun c6 => ?_) (fun c6 => ?_)
        · have h := me_ip c6 h
          refine me_sub (L' := [(0, .ref (ad 63)), (1, .int p0), (2, .int p1), (3, .int p2), (4, .int x4_3), (5, .int (x5_1 ||| s1)), (7, .int x7_1)]) [1, 2, 3, 4, 5, 0, 7] rfl ?_
          exact hj116_5 (x5_1 ||| s1) h
        · have h := me_in c6 h
          refine me_aload_n X (i := 0) 1 rfl dX12_isMaximal_98 ?_
          refine me_iload X (i := 7) 7 rfl dX12_isMaximal_99 ?_
          refine me_iload_n X (i := 2) 3 rfl dX12_isMaximal_101 ?_
          refine me_iadd X dX12_isMaximal_102 ?_
          obtain ⟨v6, e6, h⟩ := me_bd h
          refine me_callVi X [.int (x7_1 + p1)] (ctX12_letterAt_63 hn (Nat.le_trans (by decide) hnt) e6) kV_X12_307 rfl rfl (Nat.le_of_ble_eq_true rfl) me_k63 (Nat.le_of_ble_eq_true rfl) (Nat.le_refl _) (Nat.le_of_ble_eq_true rfl) dX12_isMaximal_103 ?_
          refine me_aload_n X (i := 0) 1 rfl dX12_isMaximal_106 ?_
          refine me_iload_n X (i := 1) 2 rfl dX12_isMaximal_107 ?_
          refine me_iload_n X (i := 2) 3 rfl dX12_isMaximal_108 ?_
          refine me_iadd X dX12_isMaximal_109 ?_
          obtain ⟨v7, e7, h⟩ := me_bd h
          refine me_callVi X [.int (p0 + p1)] (ctX12_letterAt_63 hn (Nat.le_trans (by decide) hnt) e7) kV_X12_307 rfl rfl (Nat.le_of_ble_eq_true rfl) me_k63 (Nat.le_of_ble_eq_true rfl) (Nat.le_refl _) (Nat.le_of_ble_eq_true rfl) dX12_isMaximal_110 ?_
          refine me_icmp_eq X 120 (by decide) dX12_isMaximal_113 (fun c7 => ?_) (fun c7 => ?_)
          · have h := me_ip c7 h
            refine me_iconst X dX12_isMaximal_120 ic_0 ?_
            refine me_sub (L' := [(0, .ref (ad 63)), (1, .int p0), (2, .int p1), (3, .int p2), (4, .int x4_3), (5, .int (x5_1 ||| s1)), (7, .int x7_1)]) [1, 2, 3, 4, 5, 0, 7] rfl ?_
            exact hj121_6 (x5_1 ||| s1) 0 h
          · have h := me_in c7 h
            refine me_sub (L' := [(0, .ref (ad 63)), (1, .int p0), (2, .int p1), (3, .int p2), (4, .int x4_3), (5, .int (x5_1 ||| s1)), (7, .int x7_1)]) [1, 2, 3, 4, 5, 0, 7] rfl ?_
            exact hj116_5 (x5_1 ||| s1) h
      have hj76_3 : ∀ (x4_2 : Int32), mX12_isMaximal_63_J76 p0 p1 p2 x6_1 x7_1 x5_1 M x4_2 = some z1 → me_W p l e R s m args below meth c 0 0 (MQ below (me_Qc D cA ad n A (some (.int r)) M) args s 0 0 A) D cA ad n 8 A 76 [(0, .ref (ad 63)), (1, .int p0), (2, .int p1), (3, .int p2), (4, .int x4_2), (6, .int x6_1), (7, .int x7_1)] [.int x5_1] M := by
        intro x4_2 h
        unfold mX12_isMaximal_63_J76 at h
        refine me_iconst X dX12_isMaximal_76 ic_1 ?_
        refine me_goto X 81 (by decide) dX12_isMaximal_77 ?_
        exact hj81_4 x4_2 1 h
      refine me_icmp_eq X 76 (by decide) dX12_isMaximal_55 (fun c4 => ?_) (fun c4 => ?_)
      · have h := me_ip c4 h
        refine me_sub (L' := [(0, .ref (ad 63)), (1, .int p0), (2, .int p1), (3, .int p2), (4, .int (x4_1 + 1)), (6, .int x6_1), (7, .int x7_1)]) [1, 2, 3, 4, 0, 6, 7] rfl ?_
        exact hj76_3 (x4_1 + 1) h
      · have h := me_in c4 h
        refine me_aload_n X (i := 0) 1 rfl dX12_isMaximal_58 ?_
        refine me_iload X (i := 7) 7 rfl dX12_isMaximal_59 ?_
        refine me_iconst X dX12_isMaximal_61 ic_1 ?_
        refine me_isub X dX12_isMaximal_62 ?_
        obtain ⟨v3, e3, h⟩ := me_bd h
        refine me_callVi X [.int (x7_1 - 1)] (ctX12_letterAt_63 hn (Nat.le_trans (by decide) hnt) e3) kV_X12_307 rfl rfl (Nat.le_of_ble_eq_true rfl) me_k63 (Nat.le_of_ble_eq_true rfl) (Nat.le_refl _) (Nat.le_of_ble_eq_true rfl) dX12_isMaximal_63 ?_
        refine me_aload_n X (i := 0) 1 rfl dX12_isMaximal_66 ?_
        refine me_iload_n X (i := 1) 2 rfl dX12_isMaximal_67 ?_
        refine me_iconst X dX12_isMaximal_68 ic_1 ?_
        refine me_isub X dX12_isMaximal_69 ?_
        obtain ⟨v4, e4, h⟩ := me_bd h
        refine me_callVi X [.int (p0 - 1)] (ctX12_letterAt_63 hn (Nat.le_trans (by decide) hnt) e4) kV_X12_307 rfl rfl (Nat.le_of_ble_eq_true rfl) me_k63 (Nat.le_of_ble_eq_true rfl) (Nat.le_refl _) (Nat.le_of_ble_eq_true rfl) dX12_isMaximal_70 ?_
        refine me_icmp_eq X 80 (by decide) dX12_isMaximal_73 (fun c5 => ?_) (fun c5 => ?_)
        · have h := me_ip c5 h
          refine me_iconst X dX12_isMaximal_80 ic_0 ?_
          refine me_sub (L' := [(0, .ref (ad 63)), (1, .int p0), (2, .int p1), (3, .int p2), (4, .int (x4_1 + 1)), (6, .int x6_1), (7, .int x7_1)]) [1, 2, 3, 4, 0, 6, 7] rfl ?_
          exact hj81_4 (x4_1 + 1) 0 h
        · have h := me_in c5 h
          refine me_sub (L' := [(0, .ref (ad 63)), (1, .int p0), (2, .int p1), (3, .int p2), (4, .int (x4_1 + 1)), (6, .int x6_1), (7, .int x7_1)]) [1, 2, 3, 4, 0, 6, 7] rfl ?_
          exact hj76_3 (x4_1 + 1) h
    refine me_icmp_eq X 41 (by decide) dX12_isMaximal_24 (fun c2 => ?_) (fun c2 => ?_)
    · have h := me_ip c2 h
      exact hj41_1  h
    · have h := me_in c2 h
      refine me_aload_n X (i := 0) 0 rfl dX12_isMaximal_27 ?_
      refine me_iload_n X (i := 1) 1 rfl dX12_isMaximal_28 ?_
      refine me_iload X (i := 7) 7 rfl dX12_isMaximal_29 ?_
      obtain ⟨v1, e1, h⟩ := me_bd h
      refine me_callVi X [.int p0, .int x7_1] (ctX12_like_63 hn (Nat.le_trans (by decide) hnt) e1) kV_X12_304 rfl rfl (Nat.le_of_ble_eq_true rfl) me_k63 (Nat.le_of_ble_eq_true rfl) (Nat.le_refl _) (Nat.le_of_ble_eq_true rfl) dX12_isMaximal_31 ?_
      refine me_iload_n X (i := 2) 2 rfl dX12_isMaximal_34 ?_
      refine me_icmp_ge X 41 (by decide) dX12_isMaximal_35 (fun c3 => ?_) (fun c3 => ?_)
      · have h := me_ip c3 h
        exact hj41_1  h
      · have h := me_in c3 h
        refine me_goto X 124 (by decide) dX12_isMaximal_38 ?_
        exact hj124_2 x4_1 x5_1 x6_1 h
def mX12_twice_63_J28 (p0 : Int32) (x3_1 : Int32) (M : me_M) (x2_2 : Int32) : Option ((Int32 × Int32) ⊕ (Int32)) :=
  some (.inl (x2_2, (x3_1 + 1)))
def mX12_twice_63_L4 (M : me_M) (p0 : Int32) : (Int32 × Int32) → Option ((Int32 × Int32) ⊕ (Int32))
  | (x2_1, x3_1) => (if (M.1 63 5) ≤ x3_1 then some (.inr x2_1) else (if x3_1 = p0 then (mX12_twice_63_J28 p0 x3_1 M x2_1) else ((mX12_like_63 M p0 x3_1).bind fun v1 => ((mX12_more x2_1 v1).bind fun v2 => (mX12_twice_63_J28 p0 x3_1 M v2)))))
def mX12_twice_63 (M : me_M) (p0 : Int32) : Option Int32 :=
  ((me_l (mX12_twice_63_L4 M p0) me_fu (0, 0)).bind fun y2_1 => some y2_1)
set_option maxRecDepth 100000 in
set_option maxHeartbeats 4000000 in
theorem ctX12_twice_63 {l : Launch} {n nt : Nat} (hn : 424 ≤ n) (hnt : 4 ≤ nt) {M : me_M} {p0 : Int32} {r : Int32} (h : mX12_twice_63 M p0 = some r) : me_Ct l yX12_twice cX12_twice 4 (some .int) 1 n nt (fun ad => [.ref (ad 63), .int p0]) M (fun _ => some (.int r)) M := by
  unfold mX12_twice_63 at h
  refine me_enter (N0 := 424) RX12 rfl (plainFor_of_name pl_RX12) hn (Nat.le_trans (by decide) hnt) (fun _ => Nat.le_of_ble_eq_true rfl) ?_
  intro p e R s m args below meth c D cA ad tys A X hr hlk
  refine me_sub (L' := [(0, .ref (ad 63)), (1, .int p0)]) [0, 1] rfl ?_
  refine me_iconst X dX12_twice_0 ic_0 ?_
  refine me_istore_n X (i := 2) [(2, .int 0), (0, .ref (ad 63)), (1, .int p0)] (Nat.le_of_ble_eq_true rfl) rfl dX12_twice_1 ?_
  refine me_iconst X dX12_twice_2 ic_0 ?_
  refine me_istore_n X (i := 3) [(3, .int 0), (2, .int 0), (0, .ref (ad 63)), (1, .int p0)] (Nat.le_of_ble_eq_true rfl) rfl dX12_twice_3 ?_
  obtain ⟨y2_1, hq1, h⟩ := me_bd h
  have hx1 : me_W p l e R s m args below meth c 0 0 (MQ below (me_Qc D cA ad n A (some (.int r)) M) args s 0 0 A) D cA ad n 4 A 34 [(2, .int y2_1)] [] M := by
    refine me_iload_n X (i := 2) 0 rfl dX12_twice_34 ?_
    obtain rfl := me_so h
    exact me_iret X hr hlk dX12_twice_35
  refine me_sub (L' := [(0, .ref (ad 63)), (1, .int p0), (2, .int 0), (3, .int 0)]) [2, 3, 1, 0] rfl ?_
  refine me_l_W (b := (mX12_twice_63_L4 M p0)) (P := fun w => me_W p l e R s m args below meth c 0 0 (MQ below (me_Qc D cA ad n A (some (.int r)) M) args s 0 0 A) D cA ad n 4 A 4 [(0, .ref (ad 63)), (1, .int p0), (2, .int w.1), (3, .int w.2)] [] M) (r := y2_1) ?_ me_fu (0, 0) hq1
  rintro ⟨x2_1, x3_1⟩ z1 h hb1 - hr1
  unfold mX12_twice_63_L4 at h
  refine me_iload_n X (i := 3) 3 rfl dX12_twice_4 ?_
  refine me_aload_n X (i := 0) 0 rfl dX12_twice_5 ?_
  refine me_geti X kF_X12_20 (Nat.le_of_ble_eq_true rfl) me_k63 me_f63_5 dX12_twice_6 ?_
  refine me_icmp_ge X 34 (by decide) dX12_twice_9 (fun c1 => ?_) (fun c1 => ?_)
  · have h := me_ip c1 h
    obtain rfl := me_so h
    have q := hr1 _ rfl
    refine me_sub (L' := [(2, .int x2_1)]) [2] rfl ?_
    cases q
    exact hx1
  · have h := me_in c1 h
    refine me_iload_n X (i := 3) 3 rfl dX12_twice_12 ?_
    refine me_iload_n X (i := 1) 1 rfl dX12_twice_13 ?_
    have hj28_1 : ∀ (x2_2 : Int32), mX12_twice_63_J28 p0 x3_1 M x2_2 = some z1 → me_W p l e R s m args below meth c 0 0 (MQ below (me_Qc D cA ad n A (some (.int r)) M) args s 0 0 A) D cA ad n 4 A 28 [(0, .ref (ad 63)), (1, .int p0), (2, .int x2_2), (3, .int x3_1)] [] M := by
      intro x2_2 h
      unfold mX12_twice_63_J28 at h
      refine me_iinc X (v := (x3_1 + 1)) 3 rfl (in_1 _) [(3, .int (x3_1 + 1)), (0, .ref (ad 63)), (1, .int p0), (2, .int x2_2)] (Nat.le_of_ble_eq_true rfl) rfl dX12_twice_28 ?_
      refine me_goto X 4 (by decide) dX12_twice_31 ?_
      obtain rfl := me_so h
      refine me_sub (L' := [(0, .ref (ad 63)), (1, .int p0), (2, .int x2_2), (3, .int (x3_1 + 1))]) [1, 2, 3, 0] rfl ?_
      exact hb1 (x2_2, (x3_1 + 1)) rfl
    refine me_icmp_eq X 28 (by decide) dX12_twice_14 (fun c2 => ?_) (fun c2 => ?_)
    · have h := me_ip c2 h
      exact hj28_1 x2_1 h
    · have h := me_in c2 h
      refine me_iload_n X (i := 2) 2 rfl dX12_twice_17 ?_
      refine me_aload_n X (i := 0) 0 rfl dX12_twice_18 ?_
      refine me_iload_n X (i := 1) 1 rfl dX12_twice_19 ?_
      refine me_iload_n X (i := 3) 3 rfl dX12_twice_20 ?_
      obtain ⟨v1, e1, h⟩ := me_bd h
      refine me_callVi X [.int p0, .int x3_1] (ctX12_like_63 hn (Nat.le_trans (by decide) hnt) e1) kV_X12_304 rfl rfl (Nat.le_of_ble_eq_true rfl) me_k63 (Nat.le_of_ble_eq_true rfl) (Nat.le_refl _) (Nat.le_of_ble_eq_true rfl) dX12_twice_21 ?_
      obtain ⟨v2, e2, h⟩ := me_bd h
      refine me_callSi X [.int x2_1, .int v1] (ctX12_more hn (Nat.le_trans (by decide) hnt) e2) kS_X12_202 rfl rfl (Nat.le_of_ble_eq_true rfl) (Nat.le_refl _) (Nat.le_of_ble_eq_true rfl) dX12_twice_24 ?_
      refine me_istore_n X (i := 2) [(2, .int v2), (0, .ref (ad 63)), (1, .int p0), (3, .int x3_1)] (Nat.le_of_ble_eq_true rfl) rfl dX12_twice_27 ?_
      refine me_sub (L' := [(0, .ref (ad 63)), (1, .int p0), (2, .int v2), (3, .int x3_1)]) [1, 2, 0, 3] rfl ?_
      exact hj28_1 v2 h
def mX12_firstOf_63_L2 (M : me_M) (p0 : Int32) (p1 : Int32) : (Int32) → Option ((Int32) ⊕ (Int32))
  | x3_1 => (if x3_1 = p0 then some (.inr x3_1) else ((mX12_like_63 M p0 x3_1).bind fun v1 => (if p1 ≤ v1 then some (.inr x3_1) else some (.inl (x3_1 + 1)))))
def mX12_firstOf_63 (M : me_M) (p0 : Int32) (p1 : Int32) : Option Int32 :=
  ((me_l (mX12_firstOf_63_L2 M p0 p1) me_fu 0).bind fun y3_1 => some y3_1)
set_option maxRecDepth 100000 in
set_option maxHeartbeats 4000000 in
theorem ctX12_firstOf_63 {l : Launch} {n nt : Nat} (hn : 424 ≤ n) (hnt : 4 ≤ nt) {M : me_M} {p0 : Int32} {p1 : Int32} {r : Int32} (h : mX12_firstOf_63 M p0 p1 = some r) : me_Ct l yX12_firstOf cX12_firstOf 4 (some .int) 1 n nt (fun ad => [.ref (ad 63), .int p0, .int p1]) M (fun _ => some (.int r)) M := by
  unfold mX12_firstOf_63 at h
  refine me_enter (N0 := 424) RX12 rfl (plainFor_of_name pl_RX12) hn (Nat.le_trans (by decide) hnt) (fun _ => Nat.le_of_ble_eq_true rfl) ?_
  intro p e R s m args below meth c D cA ad tys A X hr hlk
  refine me_sub (L' := [(0, .ref (ad 63)), (1, .int p0), (2, .int p1)]) [0, 1, 2] rfl ?_
  refine me_iconst X dX12_firstOf_0 ic_0 ?_
  refine me_istore_n X (i := 3) [(3, .int 0), (0, .ref (ad 63)), (1, .int p0), (2, .int p1)] (Nat.le_of_ble_eq_true rfl) rfl dX12_firstOf_1 ?_
  obtain ⟨y3_1, hq1, h⟩ := me_bd h
  have hx1 : me_W p l e R s m args below meth c 0 0 (MQ below (me_Qc D cA ad n A (some (.int r)) M) args s 0 0 A) D cA ad n 4 A 23 [(3, .int y3_1)] [] M := by
    refine me_iload_n X (i := 3) 0 rfl dX12_firstOf_23 ?_
    obtain rfl := me_so h
    exact me_iret X hr hlk dX12_firstOf_24
  refine me_sub (L' := [(0, .ref (ad 63)), (1, .int p0), (2, .int p1), (3, .int 0)]) [1, 2, 3, 0] rfl ?_
  refine me_l_W (b := (mX12_firstOf_63_L2 M p0 p1)) (P := fun w => me_W p l e R s m args below meth c 0 0 (MQ below (me_Qc D cA ad n A (some (.int r)) M) args s 0 0 A) D cA ad n 4 A 2 [(0, .ref (ad 63)), (1, .int p0), (2, .int p1), (3, .int w)] [] M) (r := y3_1) ?_ me_fu 0 hq1
  rintro x3_1 z1 h hb1 - hr1
  unfold mX12_firstOf_63_L2 at h
  refine me_iload_n X (i := 3) 3 rfl dX12_firstOf_2 ?_
  refine me_iload_n X (i := 1) 1 rfl dX12_firstOf_3 ?_
  refine me_icmp_eq X 23 (by decide) dX12_firstOf_4 (fun c1 => ?_) (fun c1 => ?_)
  · have h := me_ip c1 h
    obtain rfl := me_so h
    have q := hr1 _ rfl
    refine me_sub (L' := [(3, .int x3_1)]) [3] rfl ?_
    cases q
    exact hx1
  · have h := me_in c1 h
    refine me_aload_n X (i := 0) 0 rfl dX12_firstOf_7 ?_
    refine me_iload_n X (i := 1) 1 rfl dX12_firstOf_8 ?_
    refine me_iload_n X (i := 3) 3 rfl dX12_firstOf_9 ?_
    obtain ⟨v1, e1, h⟩ := me_bd h
    refine me_callVi X [.int p0, .int x3_1] (ctX12_like_63 hn (Nat.le_trans (by decide) hnt) e1) kV_X12_304 rfl rfl (Nat.le_of_ble_eq_true rfl) me_k63 (Nat.le_of_ble_eq_true rfl) (Nat.le_refl _) (Nat.le_of_ble_eq_true rfl) dX12_firstOf_10 ?_
    refine me_iload_n X (i := 2) 2 rfl dX12_firstOf_13 ?_
    refine me_icmp_ge X 23 (by decide) dX12_firstOf_14 (fun c2 => ?_) (fun c2 => ?_)
    · have h := me_ip c2 h
      obtain rfl := me_so h
      have q := hr1 _ rfl
      refine me_sub (L' := [(3, .int x3_1)]) [3] rfl ?_
      cases q
      exact hx1
    · have h := me_in c2 h
      refine me_iinc X (v := (x3_1 + 1)) 3 rfl (in_1 _) [(3, .int (x3_1 + 1)), (0, .ref (ad 63)), (1, .int p0), (2, .int p1)] (Nat.le_of_ble_eq_true rfl) rfl dX12_firstOf_17 ?_
      refine me_goto X 2 (by decide) dX12_firstOf_20 ?_
      obtain rfl := me_so h
      refine me_sub (L' := [(0, .ref (ad 63)), (1, .int p0), (2, .int p1), (3, .int (x3_1 + 1))]) [1, 2, 3, 0] rfl ?_
      exact hb1 (x3_1 + 1) rfl
def mX12_times_63_J37 (p0 : Int32) (p1 : Int32) (x4_1 : Int32) (x3_1 : Int32) (M : me_M) (s1 : Int32) : Option ((Int32 × Int32) ⊕ (Int32)) :=
  some (.inl ((x3_1 + s1), (x4_1 + 1)))
def mX12_times_63_J32 (p0 : Int32) (p1 : Int32) (x4_1 : Int32) (x3_1 : Int32) (M : me_M)  : Option ((Int32 × Int32) ⊕ (Int32)) :=
  (mX12_times_63_J37 p0 p1 x4_1 x3_1 M 1)
def mX12_times_63_L5 (M : me_M) (p0 : Int32) (p1 : Int32) : (Int32 × Int32) → Option ((Int32 × Int32) ⊕ (Int32))
  | (x3_1, x4_1) => (if (M.1 63 5) ≤ x4_1 then some (.inr x3_1) else (if x4_1 = p0 then (mX12_times_63_J32 p0 p1 x4_1 x3_1 M ) else ((mX12_like_63 M p0 x4_1).bind fun v1 => (if v1 < p1 then (mX12_times_63_J37 p0 p1 x4_1 x3_1 M 0) else (mX12_times_63_J32 p0 p1 x4_1 x3_1 M )))))
def mX12_times_63 (M : me_M) (p0 : Int32) (p1 : Int32) : Option Int32 :=
  ((me_l (mX12_times_63_L5 M p0 p1) me_fu (0, 0)).bind fun y3_1 => some y3_1)
set_option maxRecDepth 100000 in
set_option maxHeartbeats 4000000 in
theorem ctX12_times_63 {l : Launch} {n nt : Nat} (hn : 424 ≤ n) (hnt : 4 ≤ nt) {M : me_M} {p0 : Int32} {p1 : Int32} {r : Int32} (h : mX12_times_63 M p0 p1 = some r) : me_Ct l yX12_times cX12_times 5 (some .int) 1 n nt (fun ad => [.ref (ad 63), .int p0, .int p1]) M (fun _ => some (.int r)) M := by
  unfold mX12_times_63 at h
  refine me_enter (N0 := 424) RX12 rfl (plainFor_of_name pl_RX12) hn (Nat.le_trans (by decide) hnt) (fun _ => Nat.le_of_ble_eq_true rfl) ?_
  intro p e R s m args below meth c D cA ad tys A X hr hlk
  refine me_sub (L' := [(0, .ref (ad 63)), (1, .int p0), (2, .int p1)]) [0, 1, 2] rfl ?_
  refine me_iconst X dX12_times_0 ic_0 ?_
  refine me_istore_n X (i := 3) [(3, .int 0), (0, .ref (ad 63)), (1, .int p0), (2, .int p1)] (Nat.le_of_ble_eq_true rfl) rfl dX12_times_1 ?_
  refine me_iconst X dX12_times_2 ic_0 ?_
  refine me_istore X (i := 4) [(4, .int 0), (3, .int 0), (0, .ref (ad 63)), (1, .int p0), (2, .int p1)] (Nat.le_of_ble_eq_true rfl) rfl dX12_times_3 ?_
  obtain ⟨y3_1, hq1, h⟩ := me_bd h
  have hx1 : me_W p l e R s m args below meth c 0 0 (MQ below (me_Qc D cA ad n A (some (.int r)) M) args s 0 0 A) D cA ad n 5 A 45 [(3, .int y3_1)] [] M := by
    refine me_iload_n X (i := 3) 0 rfl dX12_times_45 ?_
    obtain rfl := me_so h
    exact me_iret X hr hlk dX12_times_46
  refine me_sub (L' := [(0, .ref (ad 63)), (1, .int p0), (2, .int p1), (3, .int 0), (4, .int 0)]) [2, 3, 4, 1, 0] rfl ?_
  refine me_l_W (b := (mX12_times_63_L5 M p0 p1)) (P := fun w => me_W p l e R s m args below meth c 0 0 (MQ below (me_Qc D cA ad n A (some (.int r)) M) args s 0 0 A) D cA ad n 5 A 5 [(0, .ref (ad 63)), (1, .int p0), (2, .int p1), (3, .int w.1), (4, .int w.2)] [] M) (r := y3_1) ?_ me_fu (0, 0) hq1
  rintro ⟨x3_1, x4_1⟩ z1 h hb1 - hr1
  unfold mX12_times_63_L5 at h
  refine me_iload X (i := 4) 4 rfl dX12_times_5 ?_
  refine me_aload_n X (i := 0) 0 rfl dX12_times_7 ?_
  refine me_geti X kF_X12_20 (Nat.le_of_ble_eq_true rfl) me_k63 me_f63_5 dX12_times_8 ?_
  refine me_icmp_ge X 45 (by decide) dX12_times_11 (fun c1 => ?_) (fun c1 => ?_)
  · have h := me_ip c1 h
    obtain rfl := me_so h
    have q := hr1 _ rfl
    refine me_sub (L' := [(3, .int x3_1)]) [3] rfl ?_
    cases q
    exact hx1
  · have h := me_in c1 h
    refine me_iload_n X (i := 3) 3 rfl dX12_times_14 ?_
    refine me_iload X (i := 4) 4 rfl dX12_times_15 ?_
    refine me_iload_n X (i := 1) 1 rfl dX12_times_17 ?_
    have hj37_2 : ∀ (s1 : Int32), mX12_times_63_J37 p0 p1 x4_1 x3_1 M s1 = some z1 → me_W p l e R s m args below meth c 0 0 (MQ below (me_Qc D cA ad n A (some (.int r)) M) args s 0 0 A) D cA ad n 5 A 37 [(0, .ref (ad 63)), (1, .int p0), (2, .int p1), (4, .int x4_1)] [.int s1, .int x3_1] M := by
      intro s1 h
      unfold mX12_times_63_J37 at h
      refine me_iadd X dX12_times_37 ?_
      refine me_istore_n X (i := 3) [(3, .int (x3_1 + s1)), (0, .ref (ad 63)), (1, .int p0), (2, .int p1), (4, .int x4_1)] (Nat.le_of_ble_eq_true rfl) rfl dX12_times_38 ?_
      refine me_iinc X (v := (x4_1 + 1)) 4 rfl (in_1 _) [(4, .int (x4_1 + 1)), (3, .int (x3_1 + s1)), (0, .ref (ad 63)), (1, .int p0), (2, .int p1)] (Nat.le_of_ble_eq_true rfl) rfl dX12_times_39 ?_
      refine me_goto X 5 (by decide) dX12_times_42 ?_
      obtain rfl := me_so h
      refine me_sub (L' := [(0, .ref (ad 63)), (1, .int p0), (2, .int p1), (3, .int (x3_1 + s1)), (4, .int (x4_1 + 1))]) [2, 3, 4, 1, 0] rfl ?_
      exact hb1 ((x3_1 + s1), (x4_1 + 1)) rfl
    have hj32_1 : mX12_times_63_J32 p0 p1 x4_1 x3_1 M  = some z1 → me_W p l e R s m args below meth c 0 0 (MQ below (me_Qc D cA ad n A (some (.int r)) M) args s 0 0 A) D cA ad n 5 A 32 [(0, .ref (ad 63)), (1, .int p0), (2, .int p1), (4, .int x4_1)] [.int x3_1] M := by
      intro h
      unfold mX12_times_63_J32 at h
      refine me_iconst X dX12_times_32 ic_1 ?_
      refine me_goto X 37 (by decide) dX12_times_33 ?_
      exact hj37_2 1 h
    refine me_icmp_eq X 32 (by decide) dX12_times_18 (fun c2 => ?_) (fun c2 => ?_)
    · have h := me_ip c2 h
      refine me_sub (L' := [(0, .ref (ad 63)), (1, .int p0), (2, .int p1), (4, .int x4_1)]) [0, 1, 2, 4] rfl ?_
      exact hj32_1  h
    · have h := me_in c2 h
      refine me_aload_n X (i := 0) 0 rfl dX12_times_21 ?_
      refine me_iload_n X (i := 1) 1 rfl dX12_times_22 ?_
      refine me_iload X (i := 4) 4 rfl dX12_times_23 ?_
      obtain ⟨v1, e1, h⟩ := me_bd h
      refine me_callVi X [.int p0, .int x4_1] (ctX12_like_63 hn (Nat.le_trans (by decide) hnt) e1) kV_X12_304 rfl rfl (Nat.le_of_ble_eq_true rfl) me_k63 (Nat.le_of_ble_eq_true rfl) (Nat.le_refl _) (Nat.le_of_ble_eq_true rfl) dX12_times_25 ?_
      refine me_iload_n X (i := 2) 2 rfl dX12_times_28 ?_
      refine me_icmp_lt X 36 (by decide) dX12_times_29 (fun c3 => ?_) (fun c3 => ?_)
      · have h := me_ip c3 h
        refine me_iconst X dX12_times_36 ic_0 ?_
        refine me_sub (L' := [(0, .ref (ad 63)), (1, .int p0), (2, .int p1), (4, .int x4_1)]) [0, 1, 2, 4] rfl ?_
        exact hj37_2 0 h
      · have h := me_in c3 h
        refine me_sub (L' := [(0, .ref (ad 63)), (1, .int p0), (2, .int p1), (4, .int x4_1)]) [0, 1, 2, 4] rfl ?_
        exact hj32_1  h
def mX12_maximalsTo_63_J144 (p0 : Int32) (p1 : Int32) (p2 : Int32) (x5_1 : Int32) (v1 : Int32) (x8_1 : Int32) (x4_3 : Int32) (M7 : me_M) : Option ((Int32 × Int32 × me_M) ⊕ (Int32 × me_M)) :=
  some (.inl (x4_3, (x8_1 + 1), M7))
def mX12_maximalsTo_63_J141 (p0 : Int32) (p1 : Int32) (p2 : Int32) (x4_2 : Int32) (x5_1 : Int32) (v1 : Int32) (x8_1 : Int32) (M6 : me_M) : Option ((Int32 × Int32 × me_M) ⊕ (Int32 × me_M)) :=
  (mX12_maximalsTo_63_J144 p0 p1 p2 x5_1 v1 x8_1 (x4_2 + 1) M6)
def mX12_maximalsTo_63_L64 (p0 : Int32) (p1 : Int32) (p2 : Int32) (x5_1 : Int32) (v1 : Int32) : (Int32 × Int32 × me_M) → Option ((Int32 × Int32 × me_M) ⊕ (Int32 × me_M))
  | (x4_2, x8_1, M2) => (if (M2.1 63 5) ≤ v1 then some (.inr (x4_2, M2)) else ((mX12_twice_63 M2 v1).bind fun v5 => (if v5 < x8_1 then some (.inr (x4_2, M2)) else ((mX12_isMaximal_63 M2 v1 x8_1 p2).bind fun v6 => (if v6 = 0 then (mX12_maximalsTo_63_J144 p0 p1 p2 x5_1 v1 x8_1 x4_2 M2) else (if x4_2 = p0 then ((me_t M2 89 3 0 x8_1).bind fun M3 => ((mX12_firstOf_63 M3 v1 x8_1).bind fun v7 => ((me_t M3 89 3 1 v7).bind fun M4 => ((mX12_times_63 M4 v1 x8_1).bind fun v8 => ((me_t M4 89 3 2 v8).bind fun M5 => (mX12_maximalsTo_63_J141 p0 p1 p2 x4_2 x5_1 v1 x8_1 M5)))))) else (mX12_maximalsTo_63_J141 p0 p1 p2 x4_2 x5_1 v1 x8_1 M2)))))))
def mX12_maximalsTo_63_J52 (p0 : Int32) (p1 : Int32) (p2 : Int32) (x4_1 : Int32) (x5_1 : Int32) (v1 : Int32) (M1 : me_M) (s1 : Int32) : Option ((Int32 × Int32 × me_M) ⊕ (Int32 × me_M)) :=
  ((mX12_more p1 (s1 + 1)).bind fun v4 => ((me_l (mX12_maximalsTo_63_L64 p0 p1 p2 x5_1 v1) me_fu (x4_1, v4, M1)).bind fun (y4_1, M8) => some (.inl (y4_1, (x5_1 + 1), M8))))
def mX12_maximalsTo_63_L6 (p0 : Int32) (p1 : Int32) (p2 : Int32) : (Int32 × Int32 × me_M) → Option ((Int32 × Int32 × me_M) ⊕ (Int32 × me_M))
  | (x4_1, x5_1, M1) => (if (M1.1 63 5) < x5_1 then some (.inr (x4_1, M1)) else ((me_r M1 70 241 x5_1).bind fun v1 => (if x5_1 = 0 then (mX12_maximalsTo_63_J52 p0 p1 p2 x4_1 x5_1 v1 M1 0) else ((me_r M1 70 241 (x5_1 - 1)).bind fun v2 => ((mX12_like_63 M1 v1 v2).bind fun v3 => (mX12_maximalsTo_63_J52 p0 p1 p2 x4_1 x5_1 v1 M1 v3))))))
def mX12_maximalsTo_63 (M : me_M) (p0 : Int32) (p1 : Int32) (p2 : Int32) : Option (Int32 × me_M) :=
  ((me_l (mX12_maximalsTo_63_L6 p0 p1 p2) me_fu (0, 0, M)).bind fun (y4_2, M9) => some (y4_2, M9))
set_option maxRecDepth 100000 in
set_option maxHeartbeats 4000000 in
theorem ctX12_maximalsTo_63 {l : Launch} {n nt : Nat} (hn : 424 ≤ n) (hnt : 4 ≤ nt) {M : me_M} {p0 : Int32} {p1 : Int32} {p2 : Int32} {r : Int32} {M' : me_M} (h : mX12_maximalsTo_63 M p0 p1 p2 = some (r, M')) : me_Ct l yX12_maximalsTo cX12_maximalsTo 9 (some .int) 2 n nt (fun ad => [.ref (ad 63), .int p0, .int p1, .int p2]) M (fun _ => some (.int r)) M' := by
  unfold mX12_maximalsTo_63 at h
  refine me_enter (N0 := 424) RX12 rfl (plainFor_of_name pl_RX12) hn (Nat.le_trans (by decide) hnt) (fun _ => Nat.le_of_ble_eq_true rfl) ?_
  intro p e R s m args below meth c D cA ad tys A X hr hlk
  refine me_sub (L' := [(0, .ref (ad 63)), (1, .int p0), (2, .int p1), (3, .int p2)]) [0, 1, 2, 3] rfl ?_
  refine me_iconst X dX12_maximalsTo_0 ic_0 ?_
  refine me_istore X (i := 4) [(4, .int 0), (0, .ref (ad 63)), (1, .int p0), (2, .int p1), (3, .int p2)] (Nat.le_of_ble_eq_true rfl) rfl dX12_maximalsTo_1 ?_
  refine me_iconst X dX12_maximalsTo_3 ic_0 ?_
  refine me_istore X (i := 5) [(5, .int 0), (4, .int 0), (0, .ref (ad 63)), (1, .int p0), (2, .int p1), (3, .int p2)] (Nat.le_of_ble_eq_true rfl) rfl dX12_maximalsTo_4 ?_
  obtain ⟨⟨y4_2, M9⟩, hq1, h⟩ := me_bd h
  have hx2 : me_W p l e R s m args below meth c 0 0 (MQ below (me_Qc D cA ad n A (some (.int r)) M') args s 0 0 A) D cA ad n 9 A 156 [(4, .int y4_2)] [] M9 := by
    refine me_iload X (i := 4) 0 rfl dX12_maximalsTo_156 ?_
    obtain ⟨rfl, rfl⟩ := me_sp h
    exact me_iret X hr hlk dX12_maximalsTo_158
  refine me_sub (L' := [(0, .ref (ad 63)), (1, .int p0), (2, .int p1), (3, .int p2), (4, .int 0), (5, .int 0)]) [2, 3, 4, 5, 1, 0] rfl ?_
  refine me_l_W (b := (mX12_maximalsTo_63_L6 p0 p1 p2)) (P := fun w => me_W p l e R s m args below meth c 0 0 (MQ below (me_Qc D cA ad n A (some (.int r)) M') args s 0 0 A) D cA ad n 9 A 6 [(0, .ref (ad 63)), (1, .int p0), (2, .int p1), (3, .int p2), (4, .int w.1), (5, .int w.2.1)] [] w.2.2) (r := (y4_2, M9)) ?_ me_fu (0, 0, M) hq1
  rintro ⟨x4_1, x5_1, M1⟩ z1 h hb1 - hr1
  unfold mX12_maximalsTo_63_L6 at h
  refine me_iload X (i := 5) 5 rfl dX12_maximalsTo_6 ?_
  refine me_aload_n X (i := 0) 0 rfl dX12_maximalsTo_8 ?_
  refine me_geti X kF_X12_20 (Nat.le_of_ble_eq_true rfl) me_k63 me_f63_5 dX12_maximalsTo_9 ?_
  refine me_icmp_gt X 156 (by decide) dX12_maximalsTo_12 (fun c1 => ?_) (fun c1 => ?_)
  · have h := me_ip c1 h
    obtain rfl := me_so h
    have q := hr1 _ rfl
    refine me_sub (L' := [(4, .int x4_1)]) [4] rfl ?_
    cases q
    exact hx2
  · have h := me_in c1 h
    refine me_aload_n X (i := 0) 0 rfl dX12_maximalsTo_15 ?_
    refine me_getr X 69 kF_X12_31 (Nat.le_of_ble_eq_true rfl) me_k63 me_f63_8 dX12_maximalsTo_16 ?_
    refine me_iconst X dX12_maximalsTo_19 ic_0 ?_
    refine me_aald X (j := 70) (Nat.le_of_ble_eq_true rfl) ⟨by decide, by decide, Nat.lt_of_lt_of_le (by decide) hnt⟩ me_k69 (by decide) dX12_maximalsTo_20 ?_
    refine me_iload X (i := 5) 5 rfl dX12_maximalsTo_21 ?_
    obtain ⟨v1, e1, h⟩ := me_bd h
    refine me_iald X (Nat.le_of_ble_eq_true rfl) me_k70 e1 dX12_maximalsTo_23 ?_
    refine me_istore X (i := 6) [(6, .int v1), (0, .ref (ad 63)), (1, .int p0), (2, .int p1), (3, .int p2), (4, .int x4_1), (5, .int x5_1)] (Nat.le_of_ble_eq_true rfl) rfl dX12_maximalsTo_24 ?_
    refine me_iload X (i := 5) 6 rfl dX12_maximalsTo_26 ?_
    have hj52_1 : ∀ (s1 : Int32), mX12_maximalsTo_63_J52 p0 p1 p2 x4_1 x5_1 v1 M1 s1 = some z1 → me_W p l e R s m args below meth c 0 0 (MQ below (me_Qc D cA ad n A (some (.int r)) M') args s 0 0 A) D cA ad n 9 A 52 [(0, .ref (ad 63)), (1, .int p0), (2, .int p1), (3, .int p2), (4, .int x4_1), (5, .int x5_1), (6, .int v1)] [.int s1] M1 := by
      intro s1 h
      unfold mX12_maximalsTo_63_J52 at h
      refine me_istore X (i := 7) [(7, .int s1), (0, .ref (ad 63)), (1, .int p0), (2, .int p1), (3, .int p2), (4, .int x4_1), (5, .int x5_1), (6, .int v1)] (Nat.le_of_ble_eq_true rfl) rfl dX12_maximalsTo_52 ?_
      refine me_iload_n X (i := 2) 3 rfl dX12_maximalsTo_54 ?_
      refine me_iload X (i := 7) 0 rfl dX12_maximalsTo_55 ?_
      refine me_iconst X dX12_maximalsTo_57 ic_1 ?_
      refine me_iadd X dX12_maximalsTo_58 ?_
      obtain ⟨v4, e4, h⟩ := me_bd h
      refine me_callSi X [.int p1, .int (s1 + 1)] (ctX12_more hn (Nat.le_trans (by decide) hnt) e4) kS_X12_202 rfl rfl (Nat.le_of_ble_eq_true rfl) (Nat.le_refl _) (Nat.le_of_ble_eq_true rfl) dX12_maximalsTo_59 ?_
      refine me_istore X (i := 8) [(8, .int v4), (7, .int s1), (0, .ref (ad 63)), (1, .int p0), (2, .int p1), (3, .int p2), (4, .int x4_1), (5, .int x5_1), (6, .int v1)] (Nat.le_of_ble_eq_true rfl) rfl dX12_maximalsTo_62 ?_
      obtain ⟨⟨y4_1, M8⟩, hq2, h⟩ := me_bd h
      have hx1 : me_W p l e R s m args below meth c 0 0 (MQ below (me_Qc D cA ad n A (some (.int r)) M') args s 0 0 A) D cA ad n 9 A 150 [(0, .ref (ad 63)), (1, .int p0), (2, .int p1), (3, .int p2), (4, .int y4_1), (5, .int x5_1)] [] M8 := by
        refine me_iinc X (v := (x5_1 + 1)) 5 rfl (in_1 _) [(5, .int (x5_1 + 1)), (0, .ref (ad 63)), (1, .int p0), (2, .int p1), (3, .int p2), (4, .int y4_1)] (Nat.le_of_ble_eq_true rfl) rfl dX12_maximalsTo_150 ?_
        refine me_goto X 6 (by decide) dX12_maximalsTo_153 ?_
        obtain rfl := me_so h
        refine me_sub (L' := [(0, .ref (ad 63)), (1, .int p0), (2, .int p1), (3, .int p2), (4, .int y4_1), (5, .int (x5_1 + 1))]) [1, 2, 3, 4, 5, 0] rfl ?_
        exact hb1 (y4_1, (x5_1 + 1), M8) rfl
      refine me_sub (L' := [(0, .ref (ad 63)), (1, .int p0), (2, .int p1), (3, .int p2), (4, .int x4_1), (5, .int x5_1), (6, .int v1), (8, .int v4)]) [2, 3, 4, 5, 6, 7, 8, 0] rfl ?_
      refine me_l_W (b := (mX12_maximalsTo_63_L64 p0 p1 p2 x5_1 v1)) (P := fun w => me_W p l e R s m args below meth c 0 0 (MQ below (me_Qc D cA ad n A (some (.int r)) M') args s 0 0 A) D cA ad n 9 A 64 [(0, .ref (ad 63)), (1, .int p0), (2, .int p1), (3, .int p2), (4, .int w.1), (5, .int x5_1), (6, .int v1), (8, .int w.2.1)] [] w.2.2) (r := (y4_1, M8)) ?_ me_fu (x4_1, v4, M1) hq2
      rintro ⟨x4_2, x8_1, M2⟩ z2 h hb2 - hr2
      unfold mX12_maximalsTo_63_L64 at h
      refine me_iload X (i := 6) 6 rfl dX12_maximalsTo_64 ?_
      refine me_aload_n X (i := 0) 0 rfl dX12_maximalsTo_66 ?_
      refine me_geti X kF_X12_20 (Nat.le_of_ble_eq_true rfl) me_k63 me_f63_5 dX12_maximalsTo_67 ?_
      refine me_icmp_ge X 150 (by decide) dX12_maximalsTo_70 (fun c3 => ?_) (fun c3 => ?_)
      · have h := me_ip c3 h
        obtain rfl := me_so h
        have q := hr2 _ rfl
        refine me_sub (L' := [(0, .ref (ad 63)), (1, .int p0), (2, .int p1), (3, .int p2), (4, .int x4_2), (5, .int x5_1)]) [0, 1, 2, 3, 4, 5] rfl ?_
        cases q
        exact hx1
      · have h := me_in c3 h
        refine me_iload X (i := 8) 7 rfl dX12_maximalsTo_73 ?_
        refine me_aload_n X (i := 0) 0 rfl dX12_maximalsTo_75 ?_
        refine me_iload X (i := 6) 6 rfl dX12_maximalsTo_76 ?_
        obtain ⟨v5, e5, h⟩ := me_bd h
        refine me_callVi X [.int v1] (ctX12_twice_63 hn (Nat.le_trans (by decide) hnt) e5) kV_X12_310 rfl rfl (Nat.le_of_ble_eq_true rfl) me_k63 (Nat.le_of_ble_eq_true rfl) (Nat.le_refl _) (Nat.le_of_ble_eq_true rfl) dX12_maximalsTo_78 ?_
        refine me_icmp_gt X 150 (by decide) dX12_maximalsTo_81 (fun c4 => ?_) (fun c4 => ?_)
        · have h := me_ip c4 h
          obtain rfl := me_so h
          have q := hr2 _ rfl
          refine me_sub (L' := [(0, .ref (ad 63)), (1, .int p0), (2, .int p1), (3, .int p2), (4, .int x4_2), (5, .int x5_1)]) [0, 1, 2, 3, 4, 5] rfl ?_
          cases q
          exact hx1
        · have h := me_in c4 h
          refine me_aload_n X (i := 0) 0 rfl dX12_maximalsTo_84 ?_
          refine me_iload X (i := 6) 6 rfl dX12_maximalsTo_85 ?_
          refine me_iload X (i := 8) 7 rfl dX12_maximalsTo_87 ?_
          refine me_iload_n X (i := 3) 3 rfl dX12_maximalsTo_89 ?_
          obtain ⟨v6, e6, h⟩ := me_bd h
          refine me_callVi X [.int v1, .int x8_1, .int p2] (ctX12_isMaximal_63 hn (Nat.le_trans (by decide) hnt) e6) kV_X12_313 rfl rfl (Nat.le_of_ble_eq_true rfl) me_k63 (Nat.le_of_ble_eq_true rfl) (Nat.le_refl _) (Nat.le_of_ble_eq_true rfl) dX12_maximalsTo_90 ?_
          have hj144_3 : ∀ (x4_3 : Int32) (M7 : me_M), mX12_maximalsTo_63_J144 p0 p1 p2 x5_1 v1 x8_1 x4_3 M7 = some z2 → me_W p l e R s m args below meth c 0 0 (MQ below (me_Qc D cA ad n A (some (.int r)) M') args s 0 0 A) D cA ad n 9 A 144 [(0, .ref (ad 63)), (1, .int p0), (2, .int p1), (3, .int p2), (4, .int x4_3), (5, .int x5_1), (6, .int v1), (8, .int x8_1)] [] M7 := by
            intro x4_3 M7 h
            unfold mX12_maximalsTo_63_J144 at h
            refine me_iinc X (v := (x8_1 + 1)) 7 rfl (in_1 _) [(8, .int (x8_1 + 1)), (0, .ref (ad 63)), (1, .int p0), (2, .int p1), (3, .int p2), (4, .int x4_3), (5, .int x5_1), (6, .int v1)] (Nat.le_of_ble_eq_true rfl) rfl dX12_maximalsTo_144 ?_
            refine me_goto X 64 (by decide) dX12_maximalsTo_147 ?_
            obtain rfl := me_so h
            refine me_sub (L' := [(0, .ref (ad 63)), (1, .int p0), (2, .int p1), (3, .int p2), (4, .int x4_3), (5, .int x5_1), (6, .int v1), (8, .int (x8_1 + 1))]) [1, 2, 3, 4, 5, 6, 7, 0] rfl ?_
            exact hb2 (x4_3, (x8_1 + 1), M7) rfl
          refine me_if_ne X 99 (by decide) dX12_maximalsTo_93 (fun c5 => ?_) (fun c5 => ?_)
          · have h := me_in c5 h
            refine me_iload X (i := 4) 4 rfl dX12_maximalsTo_99 ?_
            refine me_iload_n X (i := 1) 1 rfl dX12_maximalsTo_101 ?_
            have hj141_4 : ∀ (M6 : me_M), mX12_maximalsTo_63_J141 p0 p1 p2 x4_2 x5_1 v1 x8_1 M6 = some z2 → me_W p l e R s m args below meth c 0 0 (MQ below (me_Qc D cA ad n A (some (.int r)) M') args s 0 0 A) D cA ad n 9 A 141 [(0, .ref (ad 63)), (1, .int p0), (2, .int p1), (3, .int p2), (4, .int x4_2), (5, .int x5_1), (6, .int v1), (8, .int x8_1)] [] M6 := by
              intro M6 h
              unfold mX12_maximalsTo_63_J141 at h
              refine me_iinc X (v := (x4_2 + 1)) 4 rfl (in_1 _) [(4, .int (x4_2 + 1)), (0, .ref (ad 63)), (1, .int p0), (2, .int p1), (3, .int p2), (5, .int x5_1), (6, .int v1), (8, .int x8_1)] (Nat.le_of_ble_eq_true rfl) rfl dX12_maximalsTo_141 ?_
              refine me_sub (L' := [(0, .ref (ad 63)), (1, .int p0), (2, .int p1), (3, .int p2), (4, .int (x4_2 + 1)), (5, .int x5_1), (6, .int v1), (8, .int x8_1)]) [1, 2, 3, 4, 0, 5, 6, 7] rfl ?_
              exact hj144_3 (x4_2 + 1) M6 h
            refine me_icmp_ne X 141 (by decide) dX12_maximalsTo_102 (fun c6 => ?_) (fun c6 => ?_)
            · have h := me_in c6 h
              exact hj141_4 M2 h
            · have h := me_ip c6 h
              refine me_aload_n X (i := 0) 0 rfl dX12_maximalsTo_105 ?_
              refine me_getr X 89 kF_X12_99 (Nat.le_of_ble_eq_true rfl) me_k63 me_f63_42 dX12_maximalsTo_106 ?_
              refine me_iconst X dX12_maximalsTo_109 ic_0 ?_
              refine me_iload X (i := 8) 7 rfl dX12_maximalsTo_110 ?_
              obtain ⟨M3, e7, h⟩ := me_bd h
              refine me_iast X (Nat.le_of_ble_eq_true rfl) me_k89 e7 dX12_maximalsTo_112 ?_
              refine me_aload_n X (i := 0) 0 rfl dX12_maximalsTo_113 ?_
              refine me_getr X 89 kF_X12_99 (Nat.le_of_ble_eq_true rfl) me_k63 me_f63_42 dX12_maximalsTo_114 ?_
              refine me_iconst X dX12_maximalsTo_117 ic_1 ?_
              refine me_aload_n X (i := 0) 0 rfl dX12_maximalsTo_118 ?_
              refine me_iload X (i := 6) 6 rfl dX12_maximalsTo_119 ?_
              refine me_iload X (i := 8) 7 rfl dX12_maximalsTo_121 ?_
              obtain ⟨v7, e8, h⟩ := me_bd h
              refine me_callVi X [.int v1, .int x8_1] (ctX12_firstOf_63 hn (Nat.le_trans (by decide) hnt) e8) kV_X12_316 rfl rfl (Nat.le_of_ble_eq_true rfl) me_k63 (Nat.le_of_ble_eq_true rfl) (Nat.le_refl _) (Nat.le_of_ble_eq_true rfl) dX12_maximalsTo_123 ?_
              obtain ⟨M4, e9, h⟩ := me_bd h
              refine me_iast X (Nat.le_of_ble_eq_true rfl) me_k89 e9 dX12_maximalsTo_126 ?_
              refine me_aload_n X (i := 0) 0 rfl dX12_maximalsTo_127 ?_
              refine me_getr X 89 kF_X12_99 (Nat.le_of_ble_eq_true rfl) me_k63 me_f63_42 dX12_maximalsTo_128 ?_
              refine me_iconst X dX12_maximalsTo_131 ic_2 ?_
              refine me_aload_n X (i := 0) 0 rfl dX12_maximalsTo_132 ?_
              refine me_iload X (i := 6) 6 rfl dX12_maximalsTo_133 ?_
              refine me_iload X (i := 8) 7 rfl dX12_maximalsTo_135 ?_
              obtain ⟨v8, e10, h⟩ := me_bd h
              refine me_callVi X [.int v1, .int x8_1] (ctX12_times_63 hn (Nat.le_trans (by decide) hnt) e10) kV_X12_319 rfl rfl (Nat.le_of_ble_eq_true rfl) me_k63 (Nat.le_of_ble_eq_true rfl) (Nat.le_refl _) (Nat.le_of_ble_eq_true rfl) dX12_maximalsTo_137 ?_
              obtain ⟨M5, e11, h⟩ := me_bd h
              refine me_iast X (Nat.le_of_ble_eq_true rfl) me_k89 e11 dX12_maximalsTo_140 ?_
              exact hj141_4 M5 h
          · have h := me_ip c5 h
            refine me_goto X 144 (by decide) dX12_maximalsTo_96 ?_
            exact hj144_3 x4_2 M2 h
    refine me_if_ne X 35 (by decide) dX12_maximalsTo_28 (fun c2 => ?_) (fun c2 => ?_)
    · have h := me_in c2 h
      refine me_aload_n X (i := 0) 1 rfl dX12_maximalsTo_35 ?_
      refine me_iload X (i := 6) 0 rfl dX12_maximalsTo_36 ?_
      refine me_aload_n X (i := 0) 1 rfl dX12_maximalsTo_38 ?_
      refine me_getr X 69 kF_X12_31 (Nat.le_of_ble_eq_true rfl) me_k63 me_f63_8 dX12_maximalsTo_39 ?_
      refine me_iconst X dX12_maximalsTo_42 ic_0 ?_
      refine me_aald X (j := 70) (Nat.le_of_ble_eq_true rfl) ⟨by decide, by decide, Nat.lt_of_lt_of_le (by decide) hnt⟩ me_k69 (by decide) dX12_maximalsTo_43 ?_
      refine me_iload X (i := 5) 6 rfl dX12_maximalsTo_44 ?_
      refine me_iconst X dX12_maximalsTo_46 ic_1 ?_
      refine me_isub X dX12_maximalsTo_47 ?_
      obtain ⟨v2, e2, h⟩ := me_bd h
      refine me_iald X (Nat.le_of_ble_eq_true rfl) me_k70 e2 dX12_maximalsTo_48 ?_
      obtain ⟨v3, e3, h⟩ := me_bd h
      refine me_callVi X [.int v1, .int v2] (ctX12_like_63 hn (Nat.le_trans (by decide) hnt) e3) kV_X12_304 rfl rfl (Nat.le_of_ble_eq_true rfl) me_k63 (Nat.le_of_ble_eq_true rfl) (Nat.le_refl _) (Nat.le_of_ble_eq_true rfl) dX12_maximalsTo_49 ?_
      refine me_sub (L' := [(0, .ref (ad 63)), (1, .int p0), (2, .int p1), (3, .int p2), (4, .int x4_1), (5, .int x5_1), (6, .int v1)]) [1, 2, 3, 4, 5, 6, 0] rfl ?_
      exact hj52_1 v3 h
    · have h := me_ip c2 h
      refine me_iconst X dX12_maximalsTo_31 ic_0 ?_
      refine me_goto X 52 (by decide) dX12_maximalsTo_32 ?_
      refine me_sub (L' := [(0, .ref (ad 63)), (1, .int p0), (2, .int p1), (3, .int p2), (4, .int x4_1), (5, .int x5_1), (6, .int v1)]) [1, 2, 3, 4, 5, 6, 0] rfl ?_
      exact hj52_1 0 h
def mX12_areBounds_63 (p0 : Int32) (p1 : Int32) : Option Int32 :=
  ((mX12_in p0 1 240).bind fun v1 => (if v1 = 0 then some 0 else ((mX12_in p1 2 241).bind fun v2 => (if v2 = 0 then some 0 else some 1))))
set_option maxRecDepth 100000 in
set_option maxHeartbeats 4000000 in
theorem ctX12_areBounds_63 {l : Launch} {n nt : Nat} (hn : 424 ≤ n) (hnt : 4 ≤ nt) {M : me_M} {p0 : Int32} {p1 : Int32} {r : Int32} (h : mX12_areBounds_63 p0 p1 = some r) : me_Ct l yX12_areBounds cX12_areBounds 3 (some .boolean) 1 n nt (fun ad => [.ref (ad 63), .int p0, .int p1]) M (fun _ => some (.int r)) M := by
  unfold mX12_areBounds_63 at h
  refine me_enter (N0 := 424) RX12 rfl (plainFor_of_name pl_RX12) hn (Nat.le_trans (by decide) hnt) (fun _ => Nat.le_of_ble_eq_true rfl) ?_
  intro p e R s m args below meth c D cA ad tys A X hr hlk
  refine me_sub (L' := [(0, .ref (ad 63)), (1, .int p0), (2, .int p1)]) [0, 1, 2] rfl ?_
  refine me_iload_n X (i := 1) 1 rfl dX12_areBounds_0 ?_
  refine me_iconst X dX12_areBounds_1 ic_1 ?_
  refine me_sipush X dX12_areBounds_2 is_240 ?_
  obtain ⟨v1, e1, h⟩ := me_bd h
  refine me_callSi X [.int p0, .int 1, .int 240] (ctX12_in hn (Nat.le_trans (by decide) hnt) e1) kS_X12_108 rfl rfl (Nat.le_of_ble_eq_true rfl) (Nat.le_refl _) (Nat.le_of_ble_eq_true rfl) dX12_areBounds_5 ?_
  refine me_if_eq X 26 (by decide) dX12_areBounds_8 (fun c1 => ?_) (fun c1 => ?_)
  · have h := me_ip c1 h
    refine me_iconst X dX12_areBounds_26 ic_0 ?_
    obtain rfl := me_so h
    exact me_zret X (by decide) hr hlk dX12_areBounds_27
  · have h := me_in c1 h
    refine me_iload_n X (i := 2) 2 rfl dX12_areBounds_11 ?_
    refine me_iconst X dX12_areBounds_12 ic_2 ?_
    refine me_sipush X dX12_areBounds_13 is_241 ?_
    obtain ⟨v2, e2, h⟩ := me_bd h
    refine me_callSi X [.int p1, .int 2, .int 241] (ctX12_in hn (Nat.le_trans (by decide) hnt) e2) kS_X12_108 rfl rfl (Nat.le_of_ble_eq_true rfl) (Nat.le_refl _) (Nat.le_of_ble_eq_true rfl) dX12_areBounds_16 ?_
    refine me_if_eq X 26 (by decide) dX12_areBounds_19 (fun c2 => ?_) (fun c2 => ?_)
    · have h := me_ip c2 h
      refine me_iconst X dX12_areBounds_26 ic_0 ?_
      obtain rfl := me_so h
      exact me_zret X (by decide) hr hlk dX12_areBounds_27
    · have h := me_in c2 h
      refine me_iconst X dX12_areBounds_22 ic_1 ?_
      refine me_goto X 27 (by decide) dX12_areBounds_23 ?_
      obtain rfl := me_so h
      exact me_zret X (by decide) hr hlk dX12_areBounds_27
def mX12_maximals_63_J20 (p0 : Int32) (p1 : Int32) (s1 : Int32) (M1 : me_M) : Option (Int32 × me_M) :=
  ((mX12_bad_63 M1 s1 1 1).bind fun (v2, M2) => (if v2 = 0 then ((mX12_maximalsTo_63 M2 (-1) p0 p1).bind fun (v3, M3) => some (v3, M3)) else some (0, M2)))
def mX12_maximals_63 (M : me_M) (p0 : Int32) (p1 : Int32) : Option (Int32 × me_M) :=
  ((mX12_areBounds_63 p0 p1).bind fun v1 => (if v1 = 0 then (mX12_maximals_63_J20 p0 p1 1 (me_s M 63 0 0)) else (mX12_maximals_63_J20 p0 p1 0 (me_s M 63 0 0))))
set_option maxRecDepth 100000 in
set_option maxHeartbeats 4000000 in
theorem ctX12_maximals_63 {l : Launch} {n nt : Nat} (hn : 424 ≤ n) (hnt : 4 ≤ nt) {M : me_M} {p0 : Int32} {p1 : Int32} {r : Int32} {M' : me_M} (h : mX12_maximals_63 M p0 p1 = some (r, M')) : me_Ct l yX12_maximals cX12_maximals 3 (some .int) 3 n nt (fun ad => [.ref (ad 63), .int p0, .int p1]) M (fun _ => some (.int r)) M' := by
  unfold mX12_maximals_63 at h
  refine me_enter (N0 := 424) RX12 rfl (plainFor_of_name pl_RX12) hn (Nat.le_trans (by decide) hnt) (fun _ => Nat.le_of_ble_eq_true rfl) ?_
  intro p e R s m args below meth c D cA ad tys A X hr hlk
  refine me_sub (L' := [(0, .ref (ad 63)), (1, .int p0), (2, .int p1)]) [0, 1, 2] rfl ?_
  refine me_aload_n X (i := 0) 0 rfl dX12_maximals_0 ?_
  refine me_iconst X dX12_maximals_1 ic_0 ?_
  refine me_puti X kG_X12_105 (Nat.le_of_ble_eq_true rfl) me_k63 me_f63_0 dX12_maximals_2 ?_
  refine me_aload_n X (i := 0) 0 rfl dX12_maximals_5 ?_
  refine me_aload_n X (i := 0) 0 rfl dX12_maximals_6 ?_
  refine me_iload_n X (i := 1) 1 rfl dX12_maximals_7 ?_
  refine me_iload_n X (i := 2) 2 rfl dX12_maximals_8 ?_
  obtain ⟨v1, e1, h⟩ := me_bd h
  refine me_callVi X [.int p0, .int p1] (ctX12_areBounds_63 hn (Nat.le_trans (by decide) hnt) e1) kV_X12_322 rfl rfl (Nat.le_of_ble_eq_true rfl) me_k63 (Nat.le_of_ble_eq_true rfl) (Nat.le_refl _) (Nat.le_of_ble_eq_true rfl) dX12_maximals_9 ?_
  have hj20_1 : ∀ (s1 : Int32) (M1 : me_M), mX12_maximals_63_J20 p0 p1 s1 M1 = some (r, M') → me_W p l e R s m args below meth c 0 0 (MQ below (me_Qc D cA ad n A (some (.int r)) M') args s 0 0 A) D cA ad n 3 A 20 [(0, .ref (ad 63)), (1, .int p0), (2, .int p1)] [.int s1, .ref (ad 63)] M1 := by
    intro s1 M1 h
    unfold mX12_maximals_63_J20 at h
    refine me_iconst X dX12_maximals_20 ic_1 ?_
    refine me_iconst X dX12_maximals_21 ic_1 ?_
    obtain ⟨⟨v2, M2⟩, e2, h⟩ := me_bd h
    refine me_callVi X [.int s1, .int 1, .int 1] (ctX12_bad_63 hn (Nat.le_trans (by decide) hnt) e2) kV_X12_122 rfl rfl (Nat.le_of_ble_eq_true rfl) me_k63 (Nat.le_of_ble_eq_true rfl) (Nat.le_refl _) (Nat.le_of_ble_eq_true rfl) dX12_maximals_22 ?_
    refine me_if_eq X 30 (by decide) dX12_maximals_25 (fun c2 => ?_) (fun c2 => ?_)
    · have h := me_ip c2 h
      refine me_aload_n X (i := 0) 0 rfl dX12_maximals_30 ?_
      refine me_iconst X dX12_maximals_31 ic_m1 ?_
      refine me_iload_n X (i := 1) 1 rfl dX12_maximals_32 ?_
      refine me_iload_n X (i := 2) 2 rfl dX12_maximals_33 ?_
      obtain ⟨⟨v3, M3⟩, e3, h⟩ := me_bd h
      refine me_callVi X [.int (-1), .int p0, .int p1] (ctX12_maximalsTo_63 hn (Nat.le_trans (by decide) hnt) e3) kV_X12_325 rfl rfl (Nat.le_of_ble_eq_true rfl) me_k63 (Nat.le_of_ble_eq_true rfl) (Nat.le_refl _) (Nat.le_of_ble_eq_true rfl) dX12_maximals_34 ?_
      obtain ⟨rfl, rfl⟩ := me_sp h
      exact me_iret X hr hlk dX12_maximals_37
    · have h := me_in c2 h
      refine me_iconst X dX12_maximals_28 ic_0 ?_
      obtain ⟨rfl, rfl⟩ := me_sp h
      exact me_iret X hr hlk dX12_maximals_29
  refine me_if_ne X 19 (by decide) dX12_maximals_12 (fun c1 => ?_) (fun c1 => ?_)
  · have h := me_in c1 h
    refine me_iconst X dX12_maximals_19 ic_0 ?_
    exact hj20_1 0 (me_s M 63 0 0) h
  · have h := me_ip c1 h
    refine me_iconst X dX12_maximals_15 ic_1 ?_
    refine me_goto X 20 (by decide) dX12_maximals_16 ?_
    exact hj20_1 1 (me_s M 63 0 0) h
def mX12_maximal_63_J63 (p3 : Int32) (M4 : me_M) (s2 : Int32) : Option (Int32 × me_M) :=
  ((mX12_bad_63 M4 s2 1 0).bind fun (v6, M5) => (if v6 = 0 then ((me_r M5 89 3 p3).bind fun v7 => some (v7, M5)) else some (0, M5)))
def mX12_maximal_63_J30 (p0 : Int32) (p1 : Int32) (p2 : Int32) (p3 : Int32) (s1 : Int32) (M2 : me_M) : Option (Int32 × me_M) :=
  ((mX12_bad_63 M2 s1 2 1).bind fun (v3, M3) => (if v3 = 0 then ((mX12_maximalsTo_63 M3 p0 p1 p2).bind fun (v4, M4) => ((mX12_in p0 0 (v4 - 1)).bind fun v5 => (if v5 = 0 then (mX12_maximal_63_J63 p3 M4 1) else (mX12_maximal_63_J63 p3 M4 0)))) else some (0, M3)))
def mX12_maximal_63_J25 (p0 : Int32) (p1 : Int32) (p2 : Int32) (p3 : Int32) (M1 : me_M) : Option (Int32 × me_M) :=
  (mX12_maximal_63_J30 p0 p1 p2 p3 1 M1)
def mX12_maximal_63 (M : me_M) (p0 : Int32) (p1 : Int32) (p2 : Int32) (p3 : Int32) : Option (Int32 × me_M) :=
  ((mX12_areBounds_63 p1 p2).bind fun v1 => (if v1 = 0 then (mX12_maximal_63_J25 p0 p1 p2 p3 (me_s M 63 0 0)) else ((mX12_in p3 0 2).bind fun v2 => (if v2 = 0 then (mX12_maximal_63_J25 p0 p1 p2 p3 (me_s M 63 0 0)) else (mX12_maximal_63_J30 p0 p1 p2 p3 0 (me_s M 63 0 0))))))
set_option maxRecDepth 100000 in
set_option maxHeartbeats 4000000 in
theorem ctX12_maximal_63 {l : Launch} {n nt : Nat} (hn : 424 ≤ n) (hnt : 4 ≤ nt) {M : me_M} {p0 : Int32} {p1 : Int32} {p2 : Int32} {p3 : Int32} {r : Int32} {M' : me_M} (h : mX12_maximal_63 M p0 p1 p2 p3 = some (r, M')) : me_Ct l yX12_maximal cX12_maximal 5 (some .int) 3 n nt (fun ad => [.ref (ad 63), .int p0, .int p1, .int p2, .int p3]) M (fun _ => some (.int r)) M' := by
  unfold mX12_maximal_63 at h
  refine me_enter (N0 := 424) RX12 rfl (plainFor_of_name pl_RX12) hn (Nat.le_trans (by decide) hnt) (fun _ => Nat.le_of_ble_eq_true rfl) ?_
  intro p e R s m args below meth c D cA ad tys A X hr hlk
  refine me_sub (L' := [(0, .ref (ad 63)), (1, .int p0), (2, .int p1), (3, .int p2), (4, .int p3)]) [0, 1, 2, 3, 4] rfl ?_
  refine me_aload_n X (i := 0) 0 rfl dX12_maximal_0 ?_
  refine me_iconst X dX12_maximal_1 ic_0 ?_
  refine me_puti X kG_X12_105 (Nat.le_of_ble_eq_true rfl) me_k63 me_f63_0 dX12_maximal_2 ?_
  refine me_aload_n X (i := 0) 0 rfl dX12_maximal_5 ?_
  refine me_aload_n X (i := 0) 0 rfl dX12_maximal_6 ?_
  refine me_iload_n X (i := 2) 2 rfl dX12_maximal_7 ?_
  refine me_iload_n X (i := 3) 3 rfl dX12_maximal_8 ?_
  obtain ⟨v1, e1, h⟩ := me_bd h
  refine me_callVi X [.int p1, .int p2] (ctX12_areBounds_63 hn (Nat.le_trans (by decide) hnt) e1) kV_X12_322 rfl rfl (Nat.le_of_ble_eq_true rfl) me_k63 (Nat.le_of_ble_eq_true rfl) (Nat.le_refl _) (Nat.le_of_ble_eq_true rfl) dX12_maximal_9 ?_
  have hj30_2 : ∀ (s1 : Int32) (M2 : me_M), mX12_maximal_63_J30 p0 p1 p2 p3 s1 M2 = some (r, M') → me_W p l e R s m args below meth c 0 0 (MQ below (me_Qc D cA ad n A (some (.int r)) M') args s 0 0 A) D cA ad n 5 A 30 [(0, .ref (ad 63)), (1, .int p0), (2, .int p1), (3, .int p2), (4, .int p3)] [.int s1, .ref (ad 63)] M2 := by
    intro s1 M2 h
    unfold mX12_maximal_63_J30 at h
    refine me_iconst X dX12_maximal_30 ic_2 ?_
    refine me_iconst X dX12_maximal_31 ic_1 ?_
    obtain ⟨⟨v3, M3⟩, e3, h⟩ := me_bd h
    refine me_callVi X [.int s1, .int 2, .int 1] (ctX12_bad_63 hn (Nat.le_trans (by decide) hnt) e3) kV_X12_122 rfl rfl (Nat.le_of_ble_eq_true rfl) me_k63 (Nat.le_of_ble_eq_true rfl) (Nat.le_refl _) (Nat.le_of_ble_eq_true rfl) dX12_maximal_32 ?_
    refine me_if_eq X 40 (by decide) dX12_maximal_35 (fun c3 => ?_) (fun c3 => ?_)
    · have h := me_ip c3 h
      refine me_aload_n X (i := 0) 0 rfl dX12_maximal_40 ?_
      refine me_iload_n X (i := 1) 1 rfl dX12_maximal_41 ?_
      refine me_iconst X dX12_maximal_42 ic_0 ?_
      refine me_aload_n X (i := 0) 0 rfl dX12_maximal_43 ?_
      refine me_iload_n X (i := 1) 1 rfl dX12_maximal_44 ?_
      refine me_iload_n X (i := 2) 2 rfl dX12_maximal_45 ?_
      refine me_iload_n X (i := 3) 3 rfl dX12_maximal_46 ?_
      obtain ⟨⟨v4, M4⟩, e4, h⟩ := me_bd h
      refine me_callVi X [.int p0, .int p1, .int p2] (ctX12_maximalsTo_63 hn (Nat.le_trans (by decide) hnt) e4) kV_X12_325 rfl rfl (Nat.le_of_ble_eq_true rfl) me_k63 (Nat.le_of_ble_eq_true rfl) (Nat.le_refl _) (Nat.le_of_ble_eq_true rfl) dX12_maximal_47 ?_
      refine me_iconst X dX12_maximal_50 ic_1 ?_
      refine me_isub X dX12_maximal_51 ?_
      obtain ⟨v5, e5, h⟩ := me_bd h
      refine me_callSi X [.int p0, .int 0, .int (v4 - 1)] (ctX12_in hn (Nat.le_trans (by decide) hnt) e5) kS_X12_108 rfl rfl (Nat.le_of_ble_eq_true rfl) (Nat.le_refl _) (Nat.le_of_ble_eq_true rfl) dX12_maximal_52 ?_
      have hj63_3 : ∀ (s2 : Int32), mX12_maximal_63_J63 p3 M4 s2 = some (r, M') → me_W p l e R s m args below meth c 0 0 (MQ below (me_Qc D cA ad n A (some (.int r)) M') args s 0 0 A) D cA ad n 5 A 63 [(0, .ref (ad 63)), (4, .int p3)] [.int s2, .ref (ad 63)] M4 := by
        intro s2 h
        unfold mX12_maximal_63_J63 at h
        refine me_iconst X dX12_maximal_63 ic_1 ?_
        refine me_iconst X dX12_maximal_64 ic_0 ?_
        obtain ⟨⟨v6, M5⟩, e6, h⟩ := me_bd h
        refine me_callVi X [.int s2, .int 1, .int 0] (ctX12_bad_63 hn (Nat.le_trans (by decide) hnt) e6) kV_X12_122 rfl rfl (Nat.le_of_ble_eq_true rfl) me_k63 (Nat.le_of_ble_eq_true rfl) (Nat.le_refl _) (Nat.le_of_ble_eq_true rfl) dX12_maximal_65 ?_
        refine me_if_eq X 73 (by decide) dX12_maximal_68 (fun c5 => ?_) (fun c5 => ?_)
        · have h := me_ip c5 h
          refine me_aload_n X (i := 0) 0 rfl dX12_maximal_73 ?_
          refine me_getr X 89 kF_X12_99 (Nat.le_of_ble_eq_true rfl) me_k63 me_f63_42 dX12_maximal_74 ?_
          refine me_iload X (i := 4) 1 rfl dX12_maximal_77 ?_
          obtain ⟨v7, e7, h⟩ := me_bd h
          refine me_iald X (Nat.le_of_ble_eq_true rfl) me_k89 e7 dX12_maximal_79 ?_
          obtain ⟨rfl, rfl⟩ := me_sp h
          exact me_iret X hr hlk dX12_maximal_80
        · have h := me_in c5 h
          refine me_iconst X dX12_maximal_71 ic_0 ?_
          obtain ⟨rfl, rfl⟩ := me_sp h
          exact me_iret X hr hlk dX12_maximal_72
      refine me_if_ne X 62 (by decide) dX12_maximal_55 (fun c4 => ?_) (fun c4 => ?_)
      · have h := me_in c4 h
        refine me_iconst X dX12_maximal_62 ic_0 ?_
        refine me_sub (L' := [(0, .ref (ad 63)), (4, .int p3)]) [0, 4] rfl ?_
        exact hj63_3 0 h
      · have h := me_ip c4 h
        refine me_iconst X dX12_maximal_58 ic_1 ?_
        refine me_goto X 63 (by decide) dX12_maximal_59 ?_
        refine me_sub (L' := [(0, .ref (ad 63)), (4, .int p3)]) [0, 4] rfl ?_
        exact hj63_3 1 h
    · have h := me_in c3 h
      refine me_iconst X dX12_maximal_38 ic_0 ?_
      obtain ⟨rfl, rfl⟩ := me_sp h
      exact me_iret X hr hlk dX12_maximal_39
  have hj25_1 : ∀ (M1 : me_M), mX12_maximal_63_J25 p0 p1 p2 p3 M1 = some (r, M') → me_W p l e R s m args below meth c 0 0 (MQ below (me_Qc D cA ad n A (some (.int r)) M') args s 0 0 A) D cA ad n 5 A 25 [(0, .ref (ad 63)), (1, .int p0), (2, .int p1), (3, .int p2), (4, .int p3)] [.ref (ad 63)] M1 := by
    intro M1 h
    unfold mX12_maximal_63_J25 at h
    refine me_iconst X dX12_maximal_25 ic_1 ?_
    refine me_goto X 30 (by decide) dX12_maximal_26 ?_
    exact hj30_2 1 M1 h
  refine me_if_eq X 25 (by decide) dX12_maximal_12 (fun c1 => ?_) (fun c1 => ?_)
  · have h := me_ip c1 h
    exact hj25_1 (me_s M 63 0 0) h
  · have h := me_in c1 h
    refine me_iload X (i := 4) 4 rfl dX12_maximal_15 ?_
    refine me_iconst X dX12_maximal_17 ic_0 ?_
    refine me_iconst X dX12_maximal_18 ic_2 ?_
    obtain ⟨v2, e2, h⟩ := me_bd h
    refine me_callSi X [.int p3, .int 0, .int 2] (ctX12_in hn (Nat.le_trans (by decide) hnt) e2) kS_X12_108 rfl rfl (Nat.le_of_ble_eq_true rfl) (Nat.le_refl _) (Nat.le_of_ble_eq_true rfl) dX12_maximal_19 ?_
    refine me_if_ne X 29 (by decide) dX12_maximal_22 (fun c2 => ?_) (fun c2 => ?_)
    · have h := me_in c2 h
      refine me_iconst X dX12_maximal_29 ic_0 ?_
      exact hj30_2 0 (me_s M 63 0 0) h
    · have h := me_ip c2 h
      exact hj25_1 (me_s M 63 0 0) h
def mX12_strings_63_J90 (p0 : Int32) (x2_1 : Int32) (x3_1 : Int32) (x5_1 : Int32) (M2 : me_M) (s3 : Int32) : Option ((Int32 × Int32) ⊕ (Int32)) :=
  some (.inl (s3, (x5_1 + 1)))
def mX12_strings_63_L63 (M2 : me_M) (p0 : Int32) (x2_1 : Int32) (x3_1 : Int32) : (Int32 × Int32) → Option ((Int32 × Int32) ⊕ (Int32))
  | (x4_1, x5_1) => (if x3_1 ≤ x5_1 then some (.inr x4_1) else (if x4_1 = 0 then some (.inr x4_1) else ((mX12_like_63 M2 x5_1 x3_1).bind fun v4 => (if p0 ≤ v4 then (mX12_strings_63_J90 p0 x2_1 x3_1 x5_1 M2 0) else (mX12_strings_63_J90 p0 x2_1 x3_1 x5_1 M2 1)))))
def mX12_strings_63_J109 (p0 : Int32) (x3_1 : Int32) (x2_1 : Int32) (M2 : me_M) (s4 : Int32) : Option ((Int32 × Int32) ⊕ (Int32)) :=
  some (.inl ((x2_1 + s4), (x3_1 + 1)))
def mX12_strings_63_J58 (p0 : Int32) (x2_1 : Int32) (x3_1 : Int32) (M2 : me_M) (s2 : Int32) : Option ((Int32 × Int32) ⊕ (Int32)) :=
  ((me_l (mX12_strings_63_L63 M2 p0 x2_1 x3_1) me_fu (s2, 0)).bind fun y4_1 => (if y4_1 = 0 then (mX12_strings_63_J109 p0 x3_1 x2_1 M2 0) else (mX12_strings_63_J109 p0 x3_1 x2_1 M2 1)))
def mX12_strings_63_L36 (M2 : me_M) (p0 : Int32) : (Int32 × Int32) → Option ((Int32 × Int32) ⊕ (Int32))
  | (x2_1, x3_1) => (if (M2.1 63 5) ≤ x3_1 then some (.inr x2_1) else ((mX12_run_63 M2 x3_1).bind fun v3 => (if v3 < p0 then (mX12_strings_63_J58 p0 x2_1 x3_1 M2 0) else (mX12_strings_63_J58 p0 x2_1 x3_1 M2 1))))
def mX12_strings_63_J22 (p0 : Int32) (s1 : Int32) (M1 : me_M) : Option (Int32 × me_M) :=
  ((mX12_bad_63 M1 s1 1 1).bind fun (v2, M2) => (if v2 = 0 then ((me_l (mX12_strings_63_L36 M2 p0) me_fu (0, 0)).bind fun y2_1 => some (y2_1, M2)) else some (0, M2)))
def mX12_strings_63 (M : me_M) (p0 : Int32) : Option (Int32 × me_M) :=
  ((mX12_in p0 1 240).bind fun v1 => (if v1 = 0 then (mX12_strings_63_J22 p0 1 (me_s M 63 0 0)) else (mX12_strings_63_J22 p0 0 (me_s M 63 0 0))))
set_option maxRecDepth 100000 in
set_option maxHeartbeats 4000000 in
theorem ctX12_strings_63 {l : Launch} {n nt : Nat} (hn : 424 ≤ n) (hnt : 4 ≤ nt) {M : me_M} {p0 : Int32} {r : Int32} {M' : me_M} (h : mX12_strings_63 M p0 = some (r, M')) : me_Ct l yX12_strings cX12_strings 6 (some .int) 1 n nt (fun ad => [.ref (ad 63), .int p0]) M (fun _ => some (.int r)) M' := by
  unfold mX12_strings_63 at h
  refine me_enter (N0 := 424) RX12 rfl (plainFor_of_name pl_RX12) hn (Nat.le_trans (by decide) hnt) (fun _ => Nat.le_of_ble_eq_true rfl) ?_
  intro p e R s m args below meth c D cA ad tys A X hr hlk
  refine me_sub (L' := [(0, .ref (ad 63)), (1, .int p0)]) [0, 1] rfl ?_
  refine me_aload_n X (i := 0) 0 rfl dX12_strings_0 ?_
  refine me_iconst X dX12_strings_1 ic_0 ?_
  refine me_puti X kG_X12_105 (Nat.le_of_ble_eq_true rfl) me_k63 me_f63_0 dX12_strings_2 ?_
  refine me_aload_n X (i := 0) 0 rfl dX12_strings_5 ?_
  refine me_iload_n X (i := 1) 1 rfl dX12_strings_6 ?_
  refine me_iconst X dX12_strings_7 ic_1 ?_
  refine me_sipush X dX12_strings_8 is_240 ?_
  obtain ⟨v1, e1, h⟩ := me_bd h
  refine me_callSi X [.int p0, .int 1, .int 240] (ctX12_in hn (Nat.le_trans (by decide) hnt) e1) kS_X12_108 rfl rfl (Nat.le_of_ble_eq_true rfl) (Nat.le_refl _) (Nat.le_of_ble_eq_true rfl) dX12_strings_11 ?_
  have hj22_1 : ∀ (s1 : Int32) (M1 : me_M), mX12_strings_63_J22 p0 s1 M1 = some (r, M') → me_W p l e R s m args below meth c 0 0 (MQ below (me_Qc D cA ad n A (some (.int r)) M') args s 0 0 A) D cA ad n 6 A 22 [(0, .ref (ad 63)), (1, .int p0)] [.int s1, .ref (ad 63)] M1 := by
    intro s1 M1 h
    unfold mX12_strings_63_J22 at h
    refine me_iconst X dX12_strings_22 ic_1 ?_
    refine me_iconst X dX12_strings_23 ic_1 ?_
    obtain ⟨⟨v2, M2⟩, e2, h⟩ := me_bd h
    refine me_callVi X [.int s1, .int 1, .int 1] (ctX12_bad_63 hn (Nat.le_trans (by decide) hnt) e2) kV_X12_122 rfl rfl (Nat.le_of_ble_eq_true rfl) me_k63 (Nat.le_of_ble_eq_true rfl) (Nat.le_refl _) (Nat.le_of_ble_eq_true rfl) dX12_strings_24 ?_
    refine me_if_eq X 32 (by decide) dX12_strings_27 (fun c2 => ?_) (fun c2 => ?_)
    · have h := me_ip c2 h
      refine me_iconst X dX12_strings_32 ic_0 ?_
      refine me_istore_n X (i := 2) [(2, .int 0), (0, .ref (ad 63)), (1, .int p0)] (Nat.le_of_ble_eq_true rfl) rfl dX12_strings_33 ?_
      refine me_iconst X dX12_strings_34 ic_0 ?_
      refine me_istore_n X (i := 3) [(3, .int 0), (2, .int 0), (0, .ref (ad 63)), (1, .int p0)] (Nat.le_of_ble_eq_true rfl) rfl dX12_strings_35 ?_
      obtain ⟨y2_1, hq1, h⟩ := me_bd h
      have hx2 : me_W p l e R s m args below meth c 0 0 (MQ below (me_Qc D cA ad n A (some (.int r)) M') args s 0 0 A) D cA ad n 6 A 117 [(2, .int y2_1)] [] M2 := by
        refine me_iload_n X (i := 2) 0 rfl dX12_strings_117 ?_
        obtain ⟨rfl, rfl⟩ := me_sp h
        exact me_iret X hr hlk dX12_strings_118
      refine me_sub (L' := [(0, .ref (ad 63)), (1, .int p0), (2, .int 0), (3, .int 0)]) [2, 3, 1, 0] rfl ?_
      refine me_l_W (b := (mX12_strings_63_L36 M2 p0)) (P := fun w => me_W p l e R s m args below meth c 0 0 (MQ below (me_Qc D cA ad n A (some (.int r)) M') args s 0 0 A) D cA ad n 6 A 36 [(0, .ref (ad 63)), (1, .int p0), (2, .int w.1), (3, .int w.2)] [] M2) (r := y2_1) ?_ me_fu (0, 0) hq1
      rintro ⟨x2_1, x3_1⟩ z1 h hb1 - hr1
      unfold mX12_strings_63_L36 at h
      refine me_iload_n X (i := 3) 3 rfl dX12_strings_36 ?_
      refine me_aload_n X (i := 0) 0 rfl dX12_strings_37 ?_
      refine me_geti X kF_X12_20 (Nat.le_of_ble_eq_true rfl) me_k63 me_f63_5 dX12_strings_38 ?_
      refine me_icmp_ge X 117 (by decide) dX12_strings_41 (fun c3 => ?_) (fun c3 => ?_)
      · have h := me_ip c3 h
        obtain rfl := me_so h
        have q := hr1 _ rfl
        refine me_sub (L' := [(2, .int x2_1)]) [2] rfl ?_
        cases q
        exact hx2
      · have h := me_in c3 h
        refine me_aload_n X (i := 0) 0 rfl dX12_strings_44 ?_
        refine me_iload_n X (i := 3) 3 rfl dX12_strings_45 ?_
        obtain ⟨v3, e3, h⟩ := me_bd h
        refine me_callVi X [.int x3_1] (ctX12_run_63 hn (Nat.le_trans (by decide) hnt) e3) kV_X12_328 rfl rfl (Nat.le_of_ble_eq_true rfl) me_k63 (Nat.le_of_ble_eq_true rfl) (Nat.le_refl _) (Nat.le_of_ble_eq_true rfl) dX12_strings_46 ?_
        refine me_iload_n X (i := 1) 1 rfl dX12_strings_49 ?_
        have hj58_2 : ∀ (s2 : Int32), mX12_strings_63_J58 p0 x2_1 x3_1 M2 s2 = some z1 → me_W p l e R s m args below meth c 0 0 (MQ below (me_Qc D cA ad n A (some (.int r)) M') args s 0 0 A) D cA ad n 6 A 58 [(0, .ref (ad 63)), (1, .int p0), (2, .int x2_1), (3, .int x3_1)] [.int s2] M2 := by
          intro s2 h
          unfold mX12_strings_63_J58 at h
          refine me_istore X (i := 4) [(4, .int s2), (0, .ref (ad 63)), (1, .int p0), (2, .int x2_1), (3, .int x3_1)] (Nat.le_of_ble_eq_true rfl) rfl dX12_strings_58 ?_
          refine me_iconst X dX12_strings_60 ic_0 ?_
          refine me_istore X (i := 5) [(5, .int 0), (4, .int s2), (0, .ref (ad 63)), (1, .int p0), (2, .int x2_1), (3, .int x3_1)] (Nat.le_of_ble_eq_true rfl) rfl dX12_strings_61 ?_
          obtain ⟨y4_1, hq2, h⟩ := me_bd h
          have hx1 : me_W p l e R s m args below meth c 0 0 (MQ below (me_Qc D cA ad n A (some (.int r)) M') args s 0 0 A) D cA ad n 6 A 98 [(0, .ref (ad 63)), (1, .int p0), (2, .int x2_1), (3, .int x3_1), (4, .int y4_1)] [] M2 := by
            refine me_iload_n X (i := 2) 2 rfl dX12_strings_98 ?_
            refine me_iload X (i := 4) 4 rfl dX12_strings_99 ?_
            have hj109_5 : ∀ (s4 : Int32), mX12_strings_63_J109 p0 x3_1 x2_1 M2 s4 = some z1 → me_W p l e R s m args below meth c 0 0 (MQ below (me_Qc D cA ad n A (some (.int r)) M') args s 0 0 A) D cA ad n 6 A 109 [(0, .ref (ad 63)), (1, .int p0), (3, .int x3_1)] [.int s4, .int x2_1] M2 := by
              intro s4 h
              unfold mX12_strings_63_J109 at h
              refine me_iadd X dX12_strings_109 ?_
              refine me_istore_n X (i := 2) [(2, .int (x2_1 + s4)), (0, .ref (ad 63)), (1, .int p0), (3, .int x3_1)] (Nat.le_of_ble_eq_true rfl) rfl dX12_strings_110 ?_
              refine me_iinc X (v := (x3_1 + 1)) 3 rfl (in_1 _) [(3, .int (x3_1 + 1)), (2, .int (x2_1 + s4)), (0, .ref (ad 63)), (1, .int p0)] (Nat.le_of_ble_eq_true rfl) rfl dX12_strings_111 ?_
              refine me_goto X 36 (by decide) dX12_strings_114 ?_
              obtain rfl := me_so h
              refine me_sub (L' := [(0, .ref (ad 63)), (1, .int p0), (2, .int (x2_1 + s4)), (3, .int (x3_1 + 1))]) [2, 3, 1, 0] rfl ?_
              exact hb1 ((x2_1 + s4), (x3_1 + 1)) rfl
            refine me_if_eq X 108 (by decide) dX12_strings_101 (fun c8 => ?_) (fun c8 => ?_)
            · have h := me_ip c8 h
              refine me_iconst X dX12_strings_108 ic_0 ?_
              refine me_sub (L' := [(0, .ref (ad 63)), (1, .int p0), (3, .int x3_1)]) [0, 1, 3] rfl ?_
              exact hj109_5 0 h
            · have h := me_in c8 h
              refine me_iconst X dX12_strings_104 ic_1 ?_
              refine me_goto X 109 (by decide) dX12_strings_105 ?_
              refine me_sub (L' := [(0, .ref (ad 63)), (1, .int p0), (3, .int x3_1)]) [0, 1, 3] rfl ?_
              exact hj109_5 1 h
          refine me_sub (L' := [(0, .ref (ad 63)), (1, .int p0), (2, .int x2_1), (3, .int x3_1), (4, .int s2), (5, .int 0)]) [2, 3, 4, 5, 1, 0] rfl ?_
          refine me_l_W (b := (mX12_strings_63_L63 M2 p0 x2_1 x3_1)) (P := fun w => me_W p l e R s m args below meth c 0 0 (MQ below (me_Qc D cA ad n A (some (.int r)) M') args s 0 0 A) D cA ad n 6 A 63 [(0, .ref (ad 63)), (1, .int p0), (2, .int x2_1), (3, .int x3_1), (4, .int w.1), (5, .int w.2)] [] M2) (r := y4_1) ?_ me_fu (s2, 0) hq2
          rintro ⟨x4_1, x5_1⟩ z2 h hb2 - hr2
          unfold mX12_strings_63_L63 at h
          refine me_iload X (i := 5) 5 rfl dX12_strings_63 ?_
          refine me_iload_n X (i := 3) 3 rfl dX12_strings_65 ?_
          refine me_icmp_ge X 98 (by decide) dX12_strings_66 (fun c5 => ?_) (fun c5 => ?_)
          · have h := me_ip c5 h
            obtain rfl := me_so h
            have q := hr2 _ rfl
            refine me_sub (L' := [(0, .ref (ad 63)), (1, .int p0), (2, .int x2_1), (3, .int x3_1), (4, .int x4_1)]) [0, 1, 2, 3, 4] rfl ?_
            cases q
            exact hx1
          · have h := me_in c5 h
            refine me_iload X (i := 4) 4 rfl dX12_strings_69 ?_
            refine me_if_eq X 98 (by decide) dX12_strings_71 (fun c6 => ?_) (fun c6 => ?_)
            · have h := me_ip c6 h
              obtain rfl := me_so h
              have q := hr2 _ rfl
              refine me_sub (L' := [(0, .ref (ad 63)), (1, .int p0), (2, .int x2_1), (3, .int x3_1), (4, .int x4_1)]) [0, 1, 2, 3, 4] rfl ?_
              cases q
              exact hx1
            · have h := me_in c6 h
              refine me_aload_n X (i := 0) 0 rfl dX12_strings_74 ?_
              refine me_iload X (i := 5) 5 rfl dX12_strings_75 ?_
              refine me_iload_n X (i := 3) 3 rfl dX12_strings_77 ?_
              obtain ⟨v4, e4, h⟩ := me_bd h
              refine me_callVi X [.int x5_1, .int x3_1] (ctX12_like_63 hn (Nat.le_trans (by decide) hnt) e4) kV_X12_304 rfl rfl (Nat.le_of_ble_eq_true rfl) me_k63 (Nat.le_of_ble_eq_true rfl) (Nat.le_refl _) (Nat.le_of_ble_eq_true rfl) dX12_strings_78 ?_
              refine me_iload_n X (i := 1) 1 rfl dX12_strings_81 ?_
              have hj90_4 : ∀ (s3 : Int32), mX12_strings_63_J90 p0 x2_1 x3_1 x5_1 M2 s3 = some z2 → me_W p l e R s m args below meth c 0 0 (MQ below (me_Qc D cA ad n A (some (.int r)) M') args s 0 0 A) D cA ad n 6 A 90 [(0, .ref (ad 63)), (1, .int p0), (2, .int x2_1), (3, .int x3_1), (5, .int x5_1)] [.int s3] M2 := by
                intro s3 h
                unfold mX12_strings_63_J90 at h
                refine me_istore X (i := 4) [(4, .int s3), (0, .ref (ad 63)), (1, .int p0), (2, .int x2_1), (3, .int x3_1), (5, .int x5_1)] (Nat.le_of_ble_eq_true rfl) rfl dX12_strings_90 ?_
                refine me_iinc X (v := (x5_1 + 1)) 5 rfl (in_1 _) [(5, .int (x5_1 + 1)), (4, .int s3), (0, .ref (ad 63)), (1, .int p0), (2, .int x2_1), (3, .int x3_1)] (Nat.le_of_ble_eq_true rfl) rfl dX12_strings_92 ?_
                refine me_goto X 63 (by decide) dX12_strings_95 ?_
                obtain rfl := me_so h
                refine me_sub (L' := [(0, .ref (ad 63)), (1, .int p0), (2, .int x2_1), (3, .int x3_1), (4, .int s3), (5, .int (x5_1 + 1))]) [2, 3, 4, 5, 1, 0] rfl ?_
                exact hb2 (s3, (x5_1 + 1)) rfl
              refine me_icmp_ge X 89 (by decide) dX12_strings_82 (fun c7 => ?_) (fun c7 => ?_)
              · have h := me_ip c7 h
                refine me_iconst X dX12_strings_89 ic_0 ?_
                refine me_sub (L' := [(0, .ref (ad 63)), (1, .int p0), (2, .int x2_1), (3, .int x3_1), (5, .int x5_1)]) [0, 1, 2, 3, 5] rfl ?_
                exact hj90_4 0 h
              · have h := me_in c7 h
                refine me_iconst X dX12_strings_85 ic_1 ?_
                refine me_goto X 90 (by decide) dX12_strings_86 ?_
                refine me_sub (L' := [(0, .ref (ad 63)), (1, .int p0), (2, .int x2_1), (3, .int x3_1), (5, .int x5_1)]) [0, 1, 2, 3, 5] rfl ?_
                exact hj90_4 1 h
        refine me_icmp_lt X 57 (by decide) dX12_strings_50 (fun c4 => ?_) (fun c4 => ?_)
        · have h := me_ip c4 h
          refine me_iconst X dX12_strings_57 ic_0 ?_
          exact hj58_2 0 h
        · have h := me_in c4 h
          refine me_iconst X dX12_strings_53 ic_1 ?_
          refine me_goto X 58 (by decide) dX12_strings_54 ?_
          exact hj58_2 1 h
    · have h := me_in c2 h
      refine me_iconst X dX12_strings_30 ic_0 ?_
      obtain ⟨rfl, rfl⟩ := me_sp h
      exact me_iret X hr hlk dX12_strings_31
  refine me_if_ne X 21 (by decide) dX12_strings_14 (fun c1 => ?_) (fun c1 => ?_)
  · have h := me_in c1 h
    refine me_iconst X dX12_strings_21 ic_0 ?_
    exact hj22_1 0 (me_s M 63 0 0) h
  · have h := me_ip c1 h
    refine me_iconst X dX12_strings_17 ic_1 ?_
    refine me_goto X 22 (by decide) dX12_strings_18 ?_
    exact hj22_1 1 (me_s M 63 0 0) h
def mX12_repeat_63_J69 (p0 : Int32) (x4_1 : Int32) (M2 : me_M) (x2_2 : Int32) (x3_2 : Int32) : Option ((Int32 × Int32 × Int32) ⊕ (Int32 × Int32)) :=
  some (.inl (x2_2, x3_2, (x4_1 + 1)))
def mX12_repeat_63_L37 (M2 : me_M) (p0 : Int32) : (Int32 × Int32 × Int32) → Option ((Int32 × Int32 × Int32) ⊕ (Int32 × Int32))
  | (x2_1, x3_1, x4_1) => (if (M2.1 63 5) ≤ x4_1 then some (.inr (x2_1, x3_1)) else ((mX12_twice_63 M2 x4_1).bind fun v3 => (if x2_1 < v3 then (mX12_repeat_63_J69 p0 x4_1 M2 v3 x4_1) else (mX12_repeat_63_J69 p0 x4_1 M2 x2_1 x3_1))))
def mX12_repeat_63_J20 (p0 : Int32) (s1 : Int32) (M1 : me_M) : Option (Int32 × me_M) :=
  ((mX12_bad_63 M1 s1 1 1).bind fun (v2, M2) => (if v2 = 0 then ((me_l (mX12_repeat_63_L37 M2 p0) me_fu (0, (-1), 0)).bind fun (y2_1, y3_1) => (if p0 = 0 then some (y2_1, M2) else (if p0 = 1 then some (y3_1, M2) else (if y2_1 = 0 then some (0, M2) else ((mX12_times_63 M2 y3_1 y2_1).bind fun v4 => some (v4, M2)))))) else some (0, M2)))
def mX12_repeat_63 (M : me_M) (p0 : Int32) : Option (Int32 × me_M) :=
  ((mX12_in p0 0 2).bind fun v1 => (if v1 = 0 then (mX12_repeat_63_J20 p0 1 (me_s M 63 0 0)) else (mX12_repeat_63_J20 p0 0 (me_s M 63 0 0))))
set_option maxRecDepth 100000 in
set_option maxHeartbeats 4000000 in
theorem ctX12_repeat_63 {l : Launch} {n nt : Nat} (hn : 424 ≤ n) (hnt : 4 ≤ nt) {M : me_M} {p0 : Int32} {r : Int32} {M' : me_M} (h : mX12_repeat_63 M p0 = some (r, M')) : me_Ct l yX12_repeat cX12_repeat 6 (some .int) 2 n nt (fun ad => [.ref (ad 63), .int p0]) M (fun _ => some (.int r)) M' := by
  unfold mX12_repeat_63 at h
  refine me_enter (N0 := 424) RX12 rfl (plainFor_of_name pl_RX12) hn (Nat.le_trans (by decide) hnt) (fun _ => Nat.le_of_ble_eq_true rfl) ?_
  intro p e R s m args below meth c D cA ad tys A X hr hlk
  refine me_sub (L' := [(0, .ref (ad 63)), (1, .int p0)]) [0, 1] rfl ?_
  refine me_aload_n X (i := 0) 0 rfl dX12_repeat_0 ?_
  refine me_iconst X dX12_repeat_1 ic_0 ?_
  refine me_puti X kG_X12_105 (Nat.le_of_ble_eq_true rfl) me_k63 me_f63_0 dX12_repeat_2 ?_
  refine me_aload_n X (i := 0) 0 rfl dX12_repeat_5 ?_
  refine me_iload_n X (i := 1) 1 rfl dX12_repeat_6 ?_
  refine me_iconst X dX12_repeat_7 ic_0 ?_
  refine me_iconst X dX12_repeat_8 ic_2 ?_
  obtain ⟨v1, e1, h⟩ := me_bd h
  refine me_callSi X [.int p0, .int 0, .int 2] (ctX12_in hn (Nat.le_trans (by decide) hnt) e1) kS_X12_108 rfl rfl (Nat.le_of_ble_eq_true rfl) (Nat.le_refl _) (Nat.le_of_ble_eq_true rfl) dX12_repeat_9 ?_
  have hj20_1 : ∀ (s1 : Int32) (M1 : me_M), mX12_repeat_63_J20 p0 s1 M1 = some (r, M') → me_W p l e R s m args below meth c 0 0 (MQ below (me_Qc D cA ad n A (some (.int r)) M') args s 0 0 A) D cA ad n 6 A 20 [(0, .ref (ad 63)), (1, .int p0)] [.int s1, .ref (ad 63)] M1 := by
    intro s1 M1 h
    unfold mX12_repeat_63_J20 at h
    refine me_iconst X dX12_repeat_20 ic_1 ?_
    refine me_iconst X dX12_repeat_21 ic_1 ?_
    obtain ⟨⟨v2, M2⟩, e2, h⟩ := me_bd h
    refine me_callVi X [.int s1, .int 1, .int 1] (ctX12_bad_63 hn (Nat.le_trans (by decide) hnt) e2) kV_X12_122 rfl rfl (Nat.le_of_ble_eq_true rfl) me_k63 (Nat.le_of_ble_eq_true rfl) (Nat.le_refl _) (Nat.le_of_ble_eq_true rfl) dX12_repeat_22 ?_
    refine me_if_eq X 30 (by decide) dX12_repeat_25 (fun c2 => ?_) (fun c2 => ?_)
    · have h := me_ip c2 h
      refine me_iconst X dX12_repeat_30 ic_0 ?_
      refine me_istore_n X (i := 2) [(2, .int 0), (0, .ref (ad 63)), (1, .int p0)] (Nat.le_of_ble_eq_true rfl) rfl dX12_repeat_31 ?_
      refine me_iconst X dX12_repeat_32 ic_m1 ?_
      refine me_istore_n X (i := 3) [(3, .int (-1)), (2, .int 0), (0, .ref (ad 63)), (1, .int p0)] (Nat.le_of_ble_eq_true rfl) rfl dX12_repeat_33 ?_
      refine me_iconst X dX12_repeat_34 ic_0 ?_
      refine me_istore X (i := 4) [(4, .int 0), (3, .int (-1)), (2, .int 0), (0, .ref (ad 63)), (1, .int p0)] (Nat.le_of_ble_eq_true rfl) rfl dX12_repeat_35 ?_
      obtain ⟨⟨y2_1, y3_1⟩, hq1, h⟩ := me_bd h
      have hx1 : me_W p l e R s m args below meth c 0 0 (MQ below (me_Qc D cA ad n A (some (.int r)) M') args s 0 0 A) D cA ad n 6 A 75 [(0, .ref (ad 63)), (1, .int p0), (2, .int y2_1), (3, .int y3_1)] [] M2 := by
        refine me_iload_n X (i := 1) 1 rfl dX12_repeat_75 ?_
        refine me_if_ne X 83 (by decide) dX12_repeat_76 (fun c5 => ?_) (fun c5 => ?_)
        · have h := me_in c5 h
          refine me_iload_n X (i := 1) 1 rfl dX12_repeat_83 ?_
          refine me_iconst X dX12_repeat_84 ic_1 ?_
          refine me_icmp_ne X 92 (by decide) dX12_repeat_85 (fun c6 => ?_) (fun c6 => ?_)
          · have h := me_in c6 h
            refine me_iload_n X (i := 2) 2 rfl dX12_repeat_92 ?_
            refine me_if_ne X 100 (by decide) dX12_repeat_93 (fun c7 => ?_) (fun c7 => ?_)
            · have h := me_in c7 h
              refine me_aload_n X (i := 0) 0 rfl dX12_repeat_100 ?_
              refine me_iload_n X (i := 3) 3 rfl dX12_repeat_101 ?_
              refine me_iload_n X (i := 2) 2 rfl dX12_repeat_102 ?_
              obtain ⟨v4, e4, h⟩ := me_bd h
              refine me_callVi X [.int y3_1, .int y2_1] (ctX12_times_63 hn (Nat.le_trans (by decide) hnt) e4) kV_X12_319 rfl rfl (Nat.le_of_ble_eq_true rfl) me_k63 (Nat.le_of_ble_eq_true rfl) (Nat.le_refl _) (Nat.le_of_ble_eq_true rfl) dX12_repeat_103 ?_
              obtain ⟨rfl, rfl⟩ := me_sp h
              exact me_iret X hr hlk dX12_repeat_106
            · have h := me_ip c7 h
              refine me_iconst X dX12_repeat_96 ic_0 ?_
              refine me_goto X 106 (by decide) dX12_repeat_97 ?_
              obtain ⟨rfl, rfl⟩ := me_sp h
              exact me_iret X hr hlk dX12_repeat_106
          · have h := me_ip c6 h
            refine me_iload_n X (i := 3) 3 rfl dX12_repeat_88 ?_
            refine me_goto X 106 (by decide) dX12_repeat_89 ?_
            obtain ⟨rfl, rfl⟩ := me_sp h
            exact me_iret X hr hlk dX12_repeat_106
        · have h := me_ip c5 h
          refine me_iload_n X (i := 2) 2 rfl dX12_repeat_79 ?_
          refine me_goto X 106 (by decide) dX12_repeat_80 ?_
          obtain ⟨rfl, rfl⟩ := me_sp h
          exact me_iret X hr hlk dX12_repeat_106
      refine me_sub (L' := [(0, .ref (ad 63)), (1, .int p0), (2, .int 0), (3, .int (-1)), (4, .int 0)]) [3, 4, 2, 1, 0] rfl ?_
      refine me_l_W (b := (mX12_repeat_63_L37 M2 p0)) (P := fun w => me_W p l e R s m args below meth c 0 0 (MQ below (me_Qc D cA ad n A (some (.int r)) M') args s 0 0 A) D cA ad n 6 A 37 [(0, .ref (ad 63)), (1, .int p0), (2, .int w.1), (3, .int w.2.1), (4, .int w.2.2)] [] M2) (r := (y2_1, y3_1)) ?_ me_fu (0, (-1), 0) hq1
      rintro ⟨x2_1, x3_1, x4_1⟩ z1 h hb1 - hr1
      unfold mX12_repeat_63_L37 at h
      refine me_iload X (i := 4) 4 rfl dX12_repeat_37 ?_
      refine me_aload_n X (i := 0) 0 rfl dX12_repeat_39 ?_
      refine me_geti X kF_X12_20 (Nat.le_of_ble_eq_true rfl) me_k63 me_f63_5 dX12_repeat_40 ?_
      refine me_icmp_ge X 75 (by decide) dX12_repeat_43 (fun c3 => ?_) (fun c3 => ?_)
      · have h := me_ip c3 h
        obtain rfl := me_so h
        have q := hr1 _ rfl
        refine me_sub (L' := [(0, .ref (ad 63)), (1, .int p0), (2, .int x2_1), (3, .int x3_1)]) [0, 1, 2, 3] rfl ?_
        cases q
        exact hx1
      · have h := me_in c3 h
        refine me_aload_n X (i := 0) 0 rfl dX12_repeat_46 ?_
        refine me_iload X (i := 4) 4 rfl dX12_repeat_47 ?_
        obtain ⟨v3, e3, h⟩ := me_bd h
        refine me_callVi X [.int x4_1] (ctX12_twice_63 hn (Nat.le_trans (by decide) hnt) e3) kV_X12_310 rfl rfl (Nat.le_of_ble_eq_true rfl) me_k63 (Nat.le_of_ble_eq_true rfl) (Nat.le_refl _) (Nat.le_of_ble_eq_true rfl) dX12_repeat_49 ?_
        refine me_istore X (i := 5) [(5, .int v3), (0, .ref (ad 63)), (1, .int p0), (2, .int x2_1), (3, .int x3_1), (4, .int x4_1)] (Nat.le_of_ble_eq_true rfl) rfl dX12_repeat_52 ?_
        refine me_iload X (i := 5) 0 rfl dX12_repeat_54 ?_
        refine me_iload_n X (i := 2) 3 rfl dX12_repeat_56 ?_
        have hj69_2 : ∀ (x2_2 : Int32) (x3_2 : Int32), mX12_repeat_63_J69 p0 x4_1 M2 x2_2 x3_2 = some z1 → me_W p l e R s m args below meth c 0 0 (MQ below (me_Qc D cA ad n A (some (.int r)) M') args s 0 0 A) D cA ad n 6 A 69 [(0, .ref (ad 63)), (1, .int p0), (2, .int x2_2), (3, .int x3_2), (4, .int x4_1)] [] M2 := by
          intro x2_2 x3_2 h
          unfold mX12_repeat_63_J69 at h
          refine me_iinc X (v := (x4_1 + 1)) 4 rfl (in_1 _) [(4, .int (x4_1 + 1)), (0, .ref (ad 63)), (1, .int p0), (2, .int x2_2), (3, .int x3_2)] (Nat.le_of_ble_eq_true rfl) rfl dX12_repeat_69 ?_
          refine me_goto X 37 (by decide) dX12_repeat_72 ?_
          obtain rfl := me_so h
          refine me_sub (L' := [(0, .ref (ad 63)), (1, .int p0), (2, .int x2_2), (3, .int x3_2), (4, .int (x4_1 + 1))]) [1, 2, 3, 4, 0] rfl ?_
          exact hb1 (x2_2, x3_2, (x4_1 + 1)) rfl
        refine me_icmp_gt X 63 (by decide) dX12_repeat_57 (fun c4 => ?_) (fun c4 => ?_)
        · have h := me_ip c4 h
          refine me_iload X (i := 5) 0 rfl dX12_repeat_63 ?_
          refine me_istore_n X (i := 2) [(2, .int v3), (5, .int v3), (0, .ref (ad 63)), (1, .int p0), (3, .int x3_1), (4, .int x4_1)] (Nat.le_of_ble_eq_true rfl) rfl dX12_repeat_65 ?_
          refine me_iload X (i := 4) 5 rfl dX12_repeat_66 ?_
          refine me_istore_n X (i := 3) [(3, .int x4_1), (2, .int v3), (5, .int v3), (0, .ref (ad 63)), (1, .int p0), (4, .int x4_1)] (Nat.le_of_ble_eq_true rfl) rfl dX12_repeat_68 ?_
          refine me_sub (L' := [(0, .ref (ad 63)), (1, .int p0), (2, .int v3), (3, .int x4_1), (4, .int x4_1)]) [3, 4, 1, 0, 5] rfl ?_
          exact hj69_2 v3 x4_1 h
        · have h := me_in c4 h
          refine me_goto X 69 (by decide) dX12_repeat_60 ?_
          refine me_sub (L' := [(0, .ref (ad 63)), (1, .int p0), (2, .int x2_1), (3, .int x3_1), (4, .int x4_1)]) [1, 2, 3, 4, 5] rfl ?_
          exact hj69_2 x2_1 x3_1 h
    · have h := me_in c2 h
      refine me_iconst X dX12_repeat_28 ic_0 ?_
      obtain ⟨rfl, rfl⟩ := me_sp h
      exact me_iret X hr hlk dX12_repeat_29
  refine me_if_ne X 19 (by decide) dX12_repeat_12 (fun c1 => ?_) (fun c1 => ?_)
  · have h := me_in c1 h
    refine me_iconst X dX12_repeat_19 ic_0 ?_
    exact hj20_1 0 (me_s M 63 0 0) h
  · have h := me_ip c1 h
    refine me_iconst X dX12_repeat_15 ic_1 ?_
    refine me_goto X 20 (by decide) dX12_repeat_16 ?_
    exact hj20_1 1 (me_s M 63 0 0) h
def mX12_uniqueOf_63 (M : me_M) (p0 : Int32) : Option Int32 :=
  (if p0 = (M.1 63 5) then some (-1) else ((mX12_twice_63 M p0).bind fun v1 => ((mX12_run_63 M p0).bind fun v2 => (if v2 < (v1 + 1) then some (-1) else some (v1 + 1)))))
set_option maxRecDepth 100000 in
set_option maxHeartbeats 4000000 in
theorem ctX12_uniqueOf_63 {l : Launch} {n nt : Nat} (hn : 424 ≤ n) (hnt : 4 ≤ nt) {M : me_M} {p0 : Int32} {r : Int32} (h : mX12_uniqueOf_63 M p0 = some r) : me_Ct l yX12_uniqueOf cX12_uniqueOf 3 (some .int) 2 n nt (fun ad => [.ref (ad 63), .int p0]) M (fun _ => some (.int r)) M := by
  unfold mX12_uniqueOf_63 at h
  refine me_enter (N0 := 424) RX12 rfl (plainFor_of_name pl_RX12) hn (Nat.le_trans (by decide) hnt) (fun _ => Nat.le_of_ble_eq_true rfl) ?_
  intro p e R s m args below meth c D cA ad tys A X hr hlk
  refine me_sub (L' := [(0, .ref (ad 63)), (1, .int p0)]) [0, 1] rfl ?_
  refine me_iload_n X (i := 1) 1 rfl dX12_uniqueOf_0 ?_
  refine me_aload_n X (i := 0) 0 rfl dX12_uniqueOf_1 ?_
  refine me_geti X kF_X12_20 (Nat.le_of_ble_eq_true rfl) me_k63 me_f63_5 dX12_uniqueOf_2 ?_
  refine me_icmp_ne X 10 (by decide) dX12_uniqueOf_5 (fun c1 => ?_) (fun c1 => ?_)
  · have h := me_in c1 h
    refine me_aload_n X (i := 0) 0 rfl dX12_uniqueOf_10 ?_
    refine me_iload_n X (i := 1) 1 rfl dX12_uniqueOf_11 ?_
    obtain ⟨v1, e1, h⟩ := me_bd h
    refine me_callVi X [.int p0] (ctX12_twice_63 hn (Nat.le_trans (by decide) hnt) e1) kV_X12_310 rfl rfl (Nat.le_of_ble_eq_true rfl) me_k63 (Nat.le_of_ble_eq_true rfl) (Nat.le_refl _) (Nat.le_of_ble_eq_true rfl) dX12_uniqueOf_12 ?_
    refine me_iconst X dX12_uniqueOf_15 ic_1 ?_
    refine me_iadd X dX12_uniqueOf_16 ?_
    refine me_istore_n X (i := 2) [(2, .int (v1 + 1)), (0, .ref (ad 63)), (1, .int p0)] (Nat.le_of_ble_eq_true rfl) rfl dX12_uniqueOf_17 ?_
    refine me_iload_n X (i := 2) 0 rfl dX12_uniqueOf_18 ?_
    refine me_aload_n X (i := 0) 1 rfl dX12_uniqueOf_19 ?_
    refine me_iload_n X (i := 1) 2 rfl dX12_uniqueOf_20 ?_
    obtain ⟨v2, e2, h⟩ := me_bd h
    refine me_callVi X [.int p0] (ctX12_run_63 hn (Nat.le_trans (by decide) hnt) e2) kV_X12_328 rfl rfl (Nat.le_of_ble_eq_true rfl) me_k63 (Nat.le_of_ble_eq_true rfl) (Nat.le_refl _) (Nat.le_of_ble_eq_true rfl) dX12_uniqueOf_21 ?_
    refine me_icmp_gt X 31 (by decide) dX12_uniqueOf_24 (fun c2 => ?_) (fun c2 => ?_)
    · have h := me_ip c2 h
      refine me_iconst X dX12_uniqueOf_31 ic_m1 ?_
      obtain rfl := me_so h
      exact me_iret X hr hlk dX12_uniqueOf_32
    · have h := me_in c2 h
      refine me_iload_n X (i := 2) 0 rfl dX12_uniqueOf_27 ?_
      refine me_goto X 32 (by decide) dX12_uniqueOf_28 ?_
      obtain rfl := me_so h
      exact me_iret X hr hlk dX12_uniqueOf_32
  · have h := me_ip c1 h
    refine me_iconst X dX12_uniqueOf_8 ic_m1 ?_
    obtain rfl := me_so h
    exact me_iret X hr hlk dX12_uniqueOf_9
def mX12_unique_63_J19 (p0 : Int32) (s1 : Int32) (M1 : me_M) : Option (Int32 × me_M) :=
  ((mX12_bad_63 M1 s1 1 0).bind fun (v2, M2) => (if v2 = 0 then ((mX12_uniqueOf_63 M2 p0).bind fun v3 => some (v3, M2)) else some (0, M2)))
def mX12_unique_63 (M : me_M) (p0 : Int32) : Option (Int32 × me_M) :=
  ((mX12_isPlace_63 (me_s M 63 0 0) p0).bind fun v1 => (if v1 = 0 then (mX12_unique_63_J19 p0 1 (me_s M 63 0 0)) else (mX12_unique_63_J19 p0 0 (me_s M 63 0 0))))
set_option maxRecDepth 100000 in
set_option maxHeartbeats 4000000 in
theorem ctX12_unique_63 {l : Launch} {n nt : Nat} (hn : 424 ≤ n) (hnt : 4 ≤ nt) {M : me_M} {p0 : Int32} {r : Int32} {M' : me_M} (h : mX12_unique_63 M p0 = some (r, M')) : me_Ct l yX12_unique cX12_unique 2 (some .int) 3 n nt (fun ad => [.ref (ad 63), .int p0]) M (fun _ => some (.int r)) M' := by
  unfold mX12_unique_63 at h
  refine me_enter (N0 := 424) RX12 rfl (plainFor_of_name pl_RX12) hn (Nat.le_trans (by decide) hnt) (fun _ => Nat.le_of_ble_eq_true rfl) ?_
  intro p e R s m args below meth c D cA ad tys A X hr hlk
  refine me_sub (L' := [(0, .ref (ad 63)), (1, .int p0)]) [0, 1] rfl ?_
  refine me_aload_n X (i := 0) 0 rfl dX12_unique_0 ?_
  refine me_iconst X dX12_unique_1 ic_0 ?_
  refine me_puti X kG_X12_105 (Nat.le_of_ble_eq_true rfl) me_k63 me_f63_0 dX12_unique_2 ?_
  refine me_aload_n X (i := 0) 0 rfl dX12_unique_5 ?_
  refine me_aload_n X (i := 0) 0 rfl dX12_unique_6 ?_
  refine me_iload_n X (i := 1) 1 rfl dX12_unique_7 ?_
  obtain ⟨v1, e1, h⟩ := me_bd h
  refine me_callVi X [.int p0] (ctX12_isPlace_63 hn (Nat.le_trans (by decide) hnt) e1) kV_X12_220 rfl rfl (Nat.le_of_ble_eq_true rfl) me_k63 (Nat.le_of_ble_eq_true rfl) (Nat.le_refl _) (Nat.le_of_ble_eq_true rfl) dX12_unique_8 ?_
  have hj19_1 : ∀ (s1 : Int32) (M1 : me_M), mX12_unique_63_J19 p0 s1 M1 = some (r, M') → me_W p l e R s m args below meth c 0 0 (MQ below (me_Qc D cA ad n A (some (.int r)) M') args s 0 0 A) D cA ad n 2 A 19 [(0, .ref (ad 63)), (1, .int p0)] [.int s1, .ref (ad 63)] M1 := by
    intro s1 M1 h
    unfold mX12_unique_63_J19 at h
    refine me_iconst X dX12_unique_19 ic_1 ?_
    refine me_iconst X dX12_unique_20 ic_0 ?_
    obtain ⟨⟨v2, M2⟩, e2, h⟩ := me_bd h
    refine me_callVi X [.int s1, .int 1, .int 0] (ctX12_bad_63 hn (Nat.le_trans (by decide) hnt) e2) kV_X12_122 rfl rfl (Nat.le_of_ble_eq_true rfl) me_k63 (Nat.le_of_ble_eq_true rfl) (Nat.le_refl _) (Nat.le_of_ble_eq_true rfl) dX12_unique_21 ?_
    refine me_if_eq X 29 (by decide) dX12_unique_24 (fun c2 => ?_) (fun c2 => ?_)
    · have h := me_ip c2 h
      refine me_aload_n X (i := 0) 0 rfl dX12_unique_29 ?_
      refine me_iload_n X (i := 1) 1 rfl dX12_unique_30 ?_
      obtain ⟨v3, e3, h⟩ := me_bd h
      refine me_callVi X [.int p0] (ctX12_uniqueOf_63 hn (Nat.le_trans (by decide) hnt) e3) kV_X12_331 rfl rfl (Nat.le_of_ble_eq_true rfl) me_k63 (Nat.le_of_ble_eq_true rfl) (Nat.le_refl _) (Nat.le_of_ble_eq_true rfl) dX12_unique_31 ?_
      obtain ⟨rfl, rfl⟩ := me_sp h
      exact me_iret X hr hlk dX12_unique_34
    · have h := me_in c2 h
      refine me_iconst X dX12_unique_27 ic_0 ?_
      obtain ⟨rfl, rfl⟩ := me_sp h
      exact me_iret X hr hlk dX12_unique_28
  refine me_if_ne X 18 (by decide) dX12_unique_11 (fun c1 => ?_) (fun c1 => ?_)
  · have h := me_in c1 h
    refine me_iconst X dX12_unique_18 ic_0 ?_
    exact hj19_1 0 (me_s M 63 0 0) h
  · have h := me_ip c1 h
    refine me_iconst X dX12_unique_14 ic_1 ?_
    refine me_goto X 19 (by decide) dX12_unique_15 ?_
    exact hj19_1 1 (me_s M 63 0 0) h
def mX12_around_63_J152 (p0 : Int32) (p1 : Int32) (x5_1 : Int32) (M3 : me_M) (x3_2 : Int32) (x4_2 : Int32) : Option ((Int32 × Int32 × Int32) ⊕ (Int32 × Int32)) :=
  some (.inl (x3_2, x4_2, (x5_1 + 1)))
def mX12_around_63_J145 (p0 : Int32) (p1 : Int32) (x5_1 : Int32) (v8 : Int32) (M3 : me_M)  : Option ((Int32 × Int32 × Int32) ⊕ (Int32 × Int32)) :=
  (mX12_around_63_J152 p0 p1 x5_1 M3 v8 x5_1)
def mX12_around_63_L60 (M3 : me_M) (p0 : Int32) (p1 : Int32) : (Int32 × Int32 × Int32) → Option ((Int32 × Int32 × Int32) ⊕ (Int32 × Int32))
  | (x3_1, x4_1, x5_1) => (if p0 < x5_1 then some (.inr (x3_1, x4_1)) else (if (M3.1 63 5) ≤ p0 then some (.inr (x3_1, x4_1)) else ((me_r M3 67 241 p0).bind fun v5 => (if v5 = 1 then some (.inr (x3_1, x4_1)) else ((mX12_uniqueOf_63 M3 x5_1).bind fun v6 => (if v6 = (-1) then (mX12_around_63_J152 p0 p1 x5_1 M3 x3_1 x4_1) else ((mX12_run_63 M3 x5_1).bind fun v7 => (if ((p0 - x5_1) + 1) ≤ v7 then ((mX12_more v6 ((p0 - x5_1) + 1)).bind fun v8 => (if x3_1 = (-1) then (mX12_around_63_J145 p0 p1 x5_1 v8 M3 ) else (if v8 < x3_1 then (mX12_around_63_J145 p0 p1 x5_1 v8 M3 ) else (mX12_around_63_J152 p0 p1 x5_1 M3 x3_1 x4_1)))) else (mX12_around_63_J152 p0 p1 x5_1 M3 x3_1 x4_1)))))))))
def mX12_around_63_J42 (p0 : Int32) (p1 : Int32) (M2 : me_M) (s2 : Int32) : Option (Int32 × me_M) :=
  ((mX12_bad_63 M2 s2 2 1).bind fun (v4, M3) => (if v4 = 0 then ((me_l (mX12_around_63_L60 M3 p0 p1) me_fu ((-1), (-1), 0)).bind fun (y3_1, y4_1) => (if p1 = 0 then some (y3_1, M3) else some (y4_1, M3))) else some (0, M3)))
def mX12_around_63_J19 (p0 : Int32) (p1 : Int32) (s1 : Int32) (M1 : me_M) : Option (Int32 × me_M) :=
  ((mX12_bad_63 M1 s1 1 0).bind fun (v2, M2) => (if v2 = 0 then ((mX12_in p1 0 1).bind fun v3 => (if v3 = 0 then (mX12_around_63_J42 p0 p1 M2 1) else (mX12_around_63_J42 p0 p1 M2 0))) else some (0, M2)))
def mX12_around_63 (M : me_M) (p0 : Int32) (p1 : Int32) : Option (Int32 × me_M) :=
  ((mX12_isPlace_63 (me_s M 63 0 0) p0).bind fun v1 => (if v1 = 0 then (mX12_around_63_J19 p0 p1 1 (me_s M 63 0 0)) else (mX12_around_63_J19 p0 p1 0 (me_s M 63 0 0))))
set_option maxRecDepth 100000 in
set_option maxHeartbeats 4000000 in
theorem ctX12_around_63 {l : Launch} {n nt : Nat} (hn : 424 ≤ n) (hnt : 4 ≤ nt) {M : me_M} {p0 : Int32} {p1 : Int32} {r : Int32} {M' : me_M} (h : mX12_around_63 M p0 p1 = some (r, M')) : me_Ct l yX12_around cX12_around 7 (some .int) 3 n nt (fun ad => [.ref (ad 63), .int p0, .int p1]) M (fun _ => some (.int r)) M' := by
  unfold mX12_around_63 at h
  refine me_enter (N0 := 424) RX12 rfl (plainFor_of_name pl_RX12) hn (Nat.le_trans (by decide) hnt) (fun _ => Nat.le_of_ble_eq_true rfl) ?_
  intro p e R s m args below meth c D cA ad tys A X hr hlk
  refine me_sub (L' := [(0, .ref (ad 63)), (1, .int p0), (2, .int p1)]) [0, 1, 2] rfl ?_
  refine me_aload_n X (i := 0) 0 rfl dX12_around_0 ?_
  refine me_iconst X dX12_around_1 ic_0 ?_
  refine me_puti X kG_X12_105 (Nat.le_of_ble_eq_true rfl) me_k63 me_f63_0 dX12_around_2 ?_
  refine me_aload_n X (i := 0) 0 rfl dX12_around_5 ?_
  refine me_aload_n X (i := 0) 0 rfl dX12_around_6 ?_
  refine me_iload_n X (i := 1) 1 rfl dX12_around_7 ?_
  obtain ⟨v1, e1, h⟩ := me_bd h
  refine me_callVi X [.int p0] (ctX12_isPlace_63 hn (Nat.le_trans (by decide) hnt) e1) kV_X12_220 rfl rfl (Nat.le_of_ble_eq_true rfl) me_k63 (Nat.le_of_ble_eq_true rfl) (Nat.le_refl _) (Nat.le_of_ble_eq_true rfl) dX12_around_8 ?_
  have hj19_1 : ∀ (s1 : Int32) (M1 : me_M), mX12_around_63_J19 p0 p1 s1 M1 = some (r, M') → me_W p l e R s m args below meth c 0 0 (MQ below (me_Qc D cA ad n A (some (.int r)) M') args s 0 0 A) D cA ad n 7 A 19 [(0, .ref (ad 63)), (1, .int p0), (2, .int p1)] [.int s1, .ref (ad 63)] M1 := by
    intro s1 M1 h
    unfold mX12_around_63_J19 at h
    refine me_iconst X dX12_around_19 ic_1 ?_
    refine me_iconst X dX12_around_20 ic_0 ?_
    obtain ⟨⟨v2, M2⟩, e2, h⟩ := me_bd h
    refine me_callVi X [.int s1, .int 1, .int 0] (ctX12_bad_63 hn (Nat.le_trans (by decide) hnt) e2) kV_X12_122 rfl rfl (Nat.le_of_ble_eq_true rfl) me_k63 (Nat.le_of_ble_eq_true rfl) (Nat.le_refl _) (Nat.le_of_ble_eq_true rfl) dX12_around_21 ?_
    refine me_if_ne X 50 (by decide) dX12_around_24 (fun c2 => ?_) (fun c2 => ?_)
    · have h := me_in c2 h
      refine me_iconst X dX12_around_50 ic_0 ?_
      obtain ⟨rfl, rfl⟩ := me_sp h
      exact me_iret X hr hlk dX12_around_51
    · have h := me_ip c2 h
      refine me_aload_n X (i := 0) 0 rfl dX12_around_27 ?_
      refine me_iload_n X (i := 2) 2 rfl dX12_around_28 ?_
      refine me_iconst X dX12_around_29 ic_0 ?_
      refine me_iconst X dX12_around_30 ic_1 ?_
      obtain ⟨v3, e3, h⟩ := me_bd h
      refine me_callSi X [.int p1, .int 0, .int 1] (ctX12_in hn (Nat.le_trans (by decide) hnt) e3) kS_X12_108 rfl rfl (Nat.le_of_ble_eq_true rfl) (Nat.le_refl _) (Nat.le_of_ble_eq_true rfl) dX12_around_31 ?_
      have hj42_2 : ∀ (s2 : Int32), mX12_around_63_J42 p0 p1 M2 s2 = some (r, M') → me_W p l e R s m args below meth c 0 0 (MQ below (me_Qc D cA ad n A (some (.int r)) M') args s 0 0 A) D cA ad n 7 A 42 [(0, .ref (ad 63)), (1, .int p0), (2, .int p1)] [.int s2, .ref (ad 63)] M2 := by
        intro s2 h
        unfold mX12_around_63_J42 at h
        refine me_iconst X dX12_around_42 ic_2 ?_
        refine me_iconst X dX12_around_43 ic_1 ?_
        obtain ⟨⟨v4, M3⟩, e4, h⟩ := me_bd h
        refine me_callVi X [.int s2, .int 2, .int 1] (ctX12_bad_63 hn (Nat.le_trans (by decide) hnt) e4) kV_X12_122 rfl rfl (Nat.le_of_ble_eq_true rfl) me_k63 (Nat.le_of_ble_eq_true rfl) (Nat.le_refl _) (Nat.le_of_ble_eq_true rfl) dX12_around_44 ?_
        refine me_if_eq X 52 (by decide) dX12_around_47 (fun c4 => ?_) (fun c4 => ?_)
        · have h := me_ip c4 h
          refine me_iconst X dX12_around_52 ic_m1 ?_
          refine me_istore_n X (i := 3) [(3, .int (-1)), (0, .ref (ad 63)), (1, .int p0), (2, .int p1)] (Nat.le_of_ble_eq_true rfl) rfl dX12_around_53 ?_
          refine me_iconst X dX12_around_54 ic_m1 ?_
          refine me_istore X (i := 4) [(4, .int (-1)), (3, .int (-1)), (0, .ref (ad 63)), (1, .int p0), (2, .int p1)] (Nat.le_of_ble_eq_true rfl) rfl dX12_around_55 ?_
          refine me_iconst X dX12_around_57 ic_0 ?_
          refine me_istore X (i := 5) [(5, .int 0), (4, .int (-1)), (3, .int (-1)), (0, .ref (ad 63)), (1, .int p0), (2, .int p1)] (Nat.le_of_ble_eq_true rfl) rfl dX12_around_58 ?_
          obtain ⟨⟨y3_1, y4_1⟩, hq1, h⟩ := me_bd h
          have hx1 : me_W p l e R s m args below meth c 0 0 (MQ below (me_Qc D cA ad n A (some (.int r)) M') args s 0 0 A) D cA ad n 7 A 158 [(2, .int p1), (3, .int y3_1), (4, .int y4_1)] [] M3 := by
            refine me_iload_n X (i := 2) 0 rfl dX12_around_158 ?_
            refine me_if_ne X 166 (by decide) dX12_around_159 (fun c12 => ?_) (fun c12 => ?_)
            · have h := me_in c12 h
              refine me_iload X (i := 4) 2 rfl dX12_around_166 ?_
              obtain ⟨rfl, rfl⟩ := me_sp h
              exact me_iret X hr hlk dX12_around_168
            · have h := me_ip c12 h
              refine me_iload_n X (i := 3) 1 rfl dX12_around_162 ?_
              refine me_goto X 168 (by decide) dX12_around_163 ?_
              obtain ⟨rfl, rfl⟩ := me_sp h
              exact me_iret X hr hlk dX12_around_168
          refine me_sub (L' := [(0, .ref (ad 63)), (1, .int p0), (2, .int p1), (3, .int (-1)), (4, .int (-1)), (5, .int 0)]) [3, 4, 5, 2, 1, 0] rfl ?_
          refine me_l_W (b := (mX12_around_63_L60 M3 p0 p1)) (P := fun w => me_W p l e R s m args below meth c 0 0 (MQ below (me_Qc D cA ad n A (some (.int r)) M') args s 0 0 A) D cA ad n 7 A 60 [(0, .ref (ad 63)), (1, .int p0), (2, .int p1), (3, .int w.1), (4, .int w.2.1), (5, .int w.2.2)] [] M3) (r := (y3_1, y4_1)) ?_ me_fu ((-1), (-1), 0) hq1
          rintro ⟨x3_1, x4_1, x5_1⟩ z1 h hb1 - hr1
          unfold mX12_around_63_L60 at h
          refine me_iload X (i := 5) 5 rfl dX12_around_60 ?_
          refine me_iload_n X (i := 1) 1 rfl dX12_around_62 ?_
          refine me_icmp_gt X 158 (by decide) dX12_around_63 (fun c5 => ?_) (fun c5 => ?_)
          · have h := me_ip c5 h
            obtain rfl := me_so h
            have q := hr1 _ rfl
            refine me_sub (L' := [(2, .int p1), (3, .int x3_1), (4, .int x4_1)]) [2, 3, 4] rfl ?_
            cases q
            exact hx1
          · have h := me_in c5 h
            refine me_iload_n X (i := 1) 1 rfl dX12_around_66 ?_
            refine me_aload_n X (i := 0) 0 rfl dX12_around_67 ?_
            refine me_geti X kF_X12_20 (Nat.le_of_ble_eq_true rfl) me_k63 me_f63_5 dX12_around_68 ?_
            refine me_icmp_ge X 158 (by decide) dX12_around_71 (fun c6 => ?_) (fun c6 => ?_)
            · have h := me_ip c6 h
              obtain rfl := me_so h
              have q := hr1 _ rfl
              refine me_sub (L' := [(2, .int p1), (3, .int x3_1), (4, .int x4_1)]) [2, 3, 4] rfl ?_
              cases q
              exact hx1
            · have h := me_in c6 h
              refine me_aload_n X (i := 0) 0 rfl dX12_around_74 ?_
              refine me_getr X 66 kF_X12_28 (Nat.le_of_ble_eq_true rfl) me_k63 me_f63_7 dX12_around_75 ?_
              refine me_iconst X dX12_around_78 ic_0 ?_
              refine me_aald X (j := 67) (Nat.le_of_ble_eq_true rfl) ⟨by decide, by decide, Nat.lt_of_lt_of_le (by decide) hnt⟩ me_k66 (by decide) dX12_around_79 ?_
              refine me_iload_n X (i := 1) 1 rfl dX12_around_80 ?_
              obtain ⟨v5, e5, h⟩ := me_bd h
              refine me_iald X (Nat.le_of_ble_eq_true rfl) me_k67 e5 dX12_around_81 ?_
              refine me_iconst X dX12_around_82 ic_1 ?_
              refine me_icmp_eq X 158 (by decide) dX12_around_83 (fun c7 => ?_) (fun c7 => ?_)
              · have h := me_ip c7 h
                obtain rfl := me_so h
                have q := hr1 _ rfl
                refine me_sub (L' := [(2, .int p1), (3, .int x3_1), (4, .int x4_1)]) [2, 3, 4] rfl ?_
                cases q
                exact hx1
              · have h := me_in c7 h
                refine me_aload_n X (i := 0) 0 rfl dX12_around_86 ?_
                refine me_iload X (i := 5) 5 rfl dX12_around_87 ?_
                obtain ⟨v6, e6, h⟩ := me_bd h
                refine me_callVi X [.int x5_1] (ctX12_uniqueOf_63 hn (Nat.le_trans (by decide) hnt) e6) kV_X12_331 rfl rfl (Nat.le_of_ble_eq_true rfl) me_k63 (Nat.le_of_ble_eq_true rfl) (Nat.le_refl _) (Nat.le_of_ble_eq_true rfl) dX12_around_89 ?_
                refine me_istore X (i := 6) [(6, .int v6), (0, .ref (ad 63)), (1, .int p0), (2, .int p1), (3, .int x3_1), (4, .int x4_1), (5, .int x5_1)] (Nat.le_of_ble_eq_true rfl) rfl dX12_around_92 ?_
                refine me_iload X (i := 6) 0 rfl dX12_around_94 ?_
                refine me_iconst X dX12_around_96 ic_m1 ?_
                have hj152_4 : ∀ (x3_2 : Int32) (x4_2 : Int32), mX12_around_63_J152 p0 p1 x5_1 M3 x3_2 x4_2 = some z1 → me_W p l e R s m args below meth c 0 0 (MQ below (me_Qc D cA ad n A (some (.int r)) M') args s 0 0 A) D cA ad n 7 A 152 [(0, .ref (ad 63)), (1, .int p0), (2, .int p1), (3, .int x3_2), (4, .int x4_2), (5, .int x5_1)] [] M3 := by
                  intro x3_2 x4_2 h
                  unfold mX12_around_63_J152 at h
                  refine me_iinc X (v := (x5_1 + 1)) 5 rfl (in_1 _) [(5, .int (x5_1 + 1)), (0, .ref (ad 63)), (1, .int p0), (2, .int p1), (3, .int x3_2), (4, .int x4_2)] (Nat.le_of_ble_eq_true rfl) rfl dX12_around_152 ?_
                  refine me_goto X 60 (by decide) dX12_around_155 ?_
                  obtain rfl := me_so h
                  refine me_sub (L' := [(0, .ref (ad 63)), (1, .int p0), (2, .int p1), (3, .int x3_2), (4, .int x4_2), (5, .int (x5_1 + 1))]) [1, 2, 3, 4, 5, 0] rfl ?_
                  exact hb1 (x3_2, x4_2, (x5_1 + 1)) rfl
                refine me_icmp_eq X 152 (by decide) dX12_around_97 (fun c8 => ?_) (fun c8 => ?_)
                · have h := me_ip c8 h
                  refine me_sub (L' := [(0, .ref (ad 63)), (1, .int p0), (2, .int p1), (3, .int x3_1), (4, .int x4_1), (5, .int x5_1)]) [1, 2, 3, 4, 5, 6] rfl ?_
                  exact hj152_4 x3_1 x4_1 h
                · have h := me_in c8 h
                  refine me_aload_n X (i := 0) 1 rfl dX12_around_100 ?_
                  refine me_iload X (i := 5) 6 rfl dX12_around_101 ?_
                  obtain ⟨v7, e7, h⟩ := me_bd h
                  refine me_callVi X [.int x5_1] (ctX12_run_63 hn (Nat.le_trans (by decide) hnt) e7) kV_X12_328 rfl rfl (Nat.le_of_ble_eq_true rfl) me_k63 (Nat.le_of_ble_eq_true rfl) (Nat.le_refl _) (Nat.le_of_ble_eq_true rfl) dX12_around_103 ?_
                  refine me_iload_n X (i := 1) 2 rfl dX12_around_106 ?_
                  refine me_iload X (i := 5) 6 rfl dX12_around_107 ?_
                  refine me_isub X dX12_around_109 ?_
                  refine me_iconst X dX12_around_110 ic_1 ?_
                  refine me_iadd X dX12_around_111 ?_
                  refine me_icmp_ge X 118 (by decide) dX12_around_112 (fun c9 => ?_) (fun c9 => ?_)
                  · have h := me_ip c9 h
                    refine me_iload X (i := 6) 0 rfl dX12_around_118 ?_
                    refine me_iload_n X (i := 1) 2 rfl dX12_around_120 ?_
                    refine me_iload X (i := 5) 6 rfl dX12_around_121 ?_
                    refine me_isub X dX12_around_123 ?_
                    refine me_iconst X dX12_around_124 ic_1 ?_
                    refine me_iadd X dX12_around_125 ?_
                    obtain ⟨v8, e8, h⟩ := me_bd h
                    refine me_callSi X [.int v6, .int ((p0 - x5_1) + 1)] (ctX12_more hn (Nat.le_trans (by decide) hnt) e8) kS_X12_202 rfl rfl (Nat.le_of_ble_eq_true rfl) (Nat.le_refl _) (Nat.le_of_ble_eq_true rfl) dX12_around_126 ?_
                    refine me_istore X (i := 6) [(6, .int v8), (0, .ref (ad 63)), (1, .int p0), (2, .int p1), (3, .int x3_1), (4, .int x4_1), (5, .int x5_1)] (Nat.le_of_ble_eq_true rfl) rfl dX12_around_129 ?_
                    refine me_iload_n X (i := 3) 4 rfl dX12_around_131 ?_
                    refine me_iconst X dX12_around_132 ic_m1 ?_
                    have hj145_5 : mX12_around_63_J145 p0 p1 x5_1 v8 M3  = some z1 → me_W p l e R s m args below meth c 0 0 (MQ below (me_Qc D cA ad n A (some (.int r)) M') args s 0 0 A) D cA ad n 7 A 145 [(0, .ref (ad 63)), (1, .int p0), (2, .int p1), (5, .int x5_1), (6, .int v8)] [] M3 := by
                      intro h
                      unfold mX12_around_63_J145 at h
                      refine me_iload X (i := 6) 4 rfl dX12_around_145 ?_
                      refine me_istore_n X (i := 3) [(3, .int v8), (0, .ref (ad 63)), (1, .int p0), (2, .int p1), (5, .int x5_1), (6, .int v8)] (Nat.le_of_ble_eq_true rfl) rfl dX12_around_147 ?_
                      refine me_iload X (i := 5) 4 rfl dX12_around_148 ?_
                      refine me_istore X (i := 4) [(4, .int x5_1), (3, .int v8), (0, .ref (ad 63)), (1, .int p0), (2, .int p1), (5, .int x5_1), (6, .int v8)] (Nat.le_of_ble_eq_true rfl) rfl dX12_around_150 ?_
                      refine me_sub (L' := [(0, .ref (ad 63)), (1, .int p0), (2, .int p1), (3, .int v8), (4, .int x5_1), (5, .int x5_1)]) [2, 3, 4, 1, 0, 5] rfl ?_
                      exact hj152_4 v8 x5_1 h
                    refine me_icmp_eq X 145 (by decide) dX12_around_133 (fun c10 => ?_) (fun c10 => ?_)
                    · have h := me_ip c10 h
                      refine me_sub (L' := [(0, .ref (ad 63)), (1, .int p0), (2, .int p1), (5, .int x5_1), (6, .int v8)]) [1, 2, 3, 6, 0] rfl ?_
                      exact hj145_5  h
                    · have h := me_in c10 h
                      refine me_iload X (i := 6) 0 rfl dX12_around_136 ?_
                      refine me_iload_n X (i := 3) 4 rfl dX12_around_138 ?_
                      refine me_icmp_lt X 145 (by decide) dX12_around_139 (fun c11 => ?_) (fun c11 => ?_)
                      · have h := me_ip c11 h
                        refine me_sub (L' := [(0, .ref (ad 63)), (1, .int p0), (2, .int p1), (5, .int x5_1), (6, .int v8)]) [1, 2, 3, 6, 0] rfl ?_
                        exact hj145_5  h
                      · have h := me_in c11 h
                        refine me_goto X 152 (by decide) dX12_around_142 ?_
                        refine me_sub (L' := [(0, .ref (ad 63)), (1, .int p0), (2, .int p1), (3, .int x3_1), (4, .int x4_1), (5, .int x5_1)]) [1, 2, 3, 4, 5, 6] rfl ?_
                        exact hj152_4 x3_1 x4_1 h
                  · have h := me_in c9 h
                    refine me_goto X 152 (by decide) dX12_around_115 ?_
                    refine me_sub (L' := [(0, .ref (ad 63)), (1, .int p0), (2, .int p1), (3, .int x3_1), (4, .int x4_1), (5, .int x5_1)]) [1, 2, 3, 4, 5, 6] rfl ?_
                    exact hj152_4 x3_1 x4_1 h
        · have h := me_in c4 h
          refine me_iconst X dX12_around_50 ic_0 ?_
          obtain ⟨rfl, rfl⟩ := me_sp h
          exact me_iret X hr hlk dX12_around_51
      refine me_if_ne X 41 (by decide) dX12_around_34 (fun c3 => ?_) (fun c3 => ?_)
      · have h := me_in c3 h
        refine me_iconst X dX12_around_41 ic_0 ?_
        exact hj42_2 0 h
      · have h := me_ip c3 h
        refine me_iconst X dX12_around_37 ic_1 ?_
        refine me_goto X 42 (by decide) dX12_around_38 ?_
        exact hj42_2 1 h
  refine me_if_ne X 18 (by decide) dX12_around_11 (fun c1 => ?_) (fun c1 => ?_)
  · have h := me_in c1 h
    refine me_iconst X dX12_around_18 ic_0 ?_
    exact hj19_1 0 (me_s M 63 0 0) h
  · have h := me_ip c1 h
    refine me_iconst X dX12_around_14 ic_1 ?_
    refine me_goto X 19 (by decide) dX12_around_15 ?_
    exact hj19_1 1 (me_s M 63 0 0) h
def mX12_commonOf_63_J71 (p0 : Int32) (x2_1 : Int32) (x3_1 : Int32) (x5_1 : Int32) (x4_1 : Int32) (M : me_M) (s1 : Int32) : Option ((Int32 × Int32) ⊕ (Int32)) :=
  ((mX12_more x4_1 s1).bind fun v7 => some (.inl (v7, (x5_1 + 1))))
def mX12_commonOf_63_L26 (M : me_M) (p0 : Int32) (x2_1 : Int32) (x3_1 : Int32) : (Int32 × Int32) → Option ((Int32 × Int32) ⊕ (Int32))
  | (x4_1, x5_1) => (if (M.1 63 5) ≤ x5_1 then some (.inr x4_1) else ((me_r M 67 241 x5_1).bind fun v4 => (if v4 = 1 then some (.inr x4_1) else (if p0 = x5_1 then ((mX12_run_63 M p0).bind fun v6 => (mX12_commonOf_63_J71 p0 x2_1 x3_1 x5_1 x4_1 M v6)) else ((mX12_like_63 M p0 x5_1).bind fun v5 => (mX12_commonOf_63_J71 p0 x2_1 x3_1 x5_1 x4_1 M v5))))))
def mX12_commonOf_63_L8 (M : me_M) (p0 : Int32) : (Int32 × Int32) → Option ((Int32 × Int32) ⊕ (Int32))
  | (x2_1, x3_1) => ((mX12_documents_63 M).bind fun v2 => (if v2 ≤ x3_1 then some (.inr x2_1) else ((mX12_beginOf_63 M x3_1).bind fun v3 => ((me_l (mX12_commonOf_63_L26 M p0 x2_1 x3_1) me_fu (0, v3)).bind fun y4_1 => ((mX12_less x2_1 y4_1).bind fun v8 => some (.inl (v8, (x3_1 + 1))))))))
def mX12_commonOf_63 (M : me_M) (p0 : Int32) : Option Int32 :=
  ((mX12_run_63 M p0).bind fun v1 => ((me_l (mX12_commonOf_63_L8 M p0) me_fu (v1, 0)).bind fun y2_1 => some y2_1))
set_option maxRecDepth 100000 in
set_option maxHeartbeats 4000000 in
theorem ctX12_commonOf_63 {l : Launch} {n nt : Nat} (hn : 424 ≤ n) (hnt : 4 ≤ nt) {M : me_M} {p0 : Int32} {r : Int32} (h : mX12_commonOf_63 M p0 = some r) : me_Ct l yX12_commonOf cX12_commonOf 6 (some .int) 1 n nt (fun ad => [.ref (ad 63), .int p0]) M (fun _ => some (.int r)) M := by
  unfold mX12_commonOf_63 at h
  refine me_enter (N0 := 424) RX12 rfl (plainFor_of_name pl_RX12) hn (Nat.le_trans (by decide) hnt) (fun _ => Nat.le_of_ble_eq_true rfl) ?_
  intro p e R s m args below meth c D cA ad tys A X hr hlk
  refine me_sub (L' := [(0, .ref (ad 63)), (1, .int p0)]) [0, 1] rfl ?_
  refine me_aload_n X (i := 0) 0 rfl dX12_commonOf_0 ?_
  refine me_iload_n X (i := 1) 1 rfl dX12_commonOf_1 ?_
  obtain ⟨v1, e1, h⟩ := me_bd h
  refine me_callVi X [.int p0] (ctX12_run_63 hn (Nat.le_trans (by decide) hnt) e1) kV_X12_328 rfl rfl (Nat.le_of_ble_eq_true rfl) me_k63 (Nat.le_of_ble_eq_true rfl) (Nat.le_refl _) (Nat.le_of_ble_eq_true rfl) dX12_commonOf_2 ?_
  refine me_istore_n X (i := 2) [(2, .int v1), (0, .ref (ad 63)), (1, .int p0)] (Nat.le_of_ble_eq_true rfl) rfl dX12_commonOf_5 ?_
  refine me_iconst X dX12_commonOf_6 ic_0 ?_
  refine me_istore_n X (i := 3) [(3, .int 0), (2, .int v1), (0, .ref (ad 63)), (1, .int p0)] (Nat.le_of_ble_eq_true rfl) rfl dX12_commonOf_7 ?_
  obtain ⟨y2_1, hq1, h⟩ := me_bd h
  have hx2 : me_W p l e R s m args below meth c 0 0 (MQ below (me_Qc D cA ad n A (some (.int r)) M) args s 0 0 A) D cA ad n 6 A 95 [(2, .int y2_1)] [] M := by
    refine me_iload_n X (i := 2) 0 rfl dX12_commonOf_95 ?_
    obtain rfl := me_so h
    exact me_iret X hr hlk dX12_commonOf_96
  refine me_sub (L' := [(0, .ref (ad 63)), (1, .int p0), (2, .int v1), (3, .int 0)]) [2, 3, 1, 0] rfl ?_
  refine me_l_W (b := (mX12_commonOf_63_L8 M p0)) (P := fun w => me_W p l e R s m args below meth c 0 0 (MQ below (me_Qc D cA ad n A (some (.int r)) M) args s 0 0 A) D cA ad n 6 A 8 [(0, .ref (ad 63)), (1, .int p0), (2, .int w.1), (3, .int w.2)] [] M) (r := y2_1) ?_ me_fu (v1, 0) hq1
  rintro ⟨x2_1, x3_1⟩ z1 h hb1 - hr1
  unfold mX12_commonOf_63_L8 at h
  refine me_iload_n X (i := 3) 3 rfl dX12_commonOf_8 ?_
  refine me_aload_n X (i := 0) 0 rfl dX12_commonOf_9 ?_
  obtain ⟨v2, e2, h⟩ := me_bd h
  refine me_callVi X [] (ctX12_documents_63 hn (Nat.le_trans (by decide) hnt) e2) kV_X12_205 rfl rfl (Nat.le_of_ble_eq_true rfl) me_k63 (Nat.le_of_ble_eq_true rfl) (Nat.le_refl _) (Nat.le_of_ble_eq_true rfl) dX12_commonOf_10 ?_
  refine me_icmp_ge X 95 (by decide) dX12_commonOf_13 (fun c1 => ?_) (fun c1 => ?_)
  · have h := me_ip c1 h
    obtain rfl := me_so h
    have q := hr1 _ rfl
    refine me_sub (L' := [(2, .int x2_1)]) [2] rfl ?_
    cases q
    exact hx2
  · have h := me_in c1 h
    refine me_iconst X dX12_commonOf_16 ic_0 ?_
    refine me_istore X (i := 4) [(4, .int 0), (0, .ref (ad 63)), (1, .int p0), (2, .int x2_1), (3, .int x3_1)] (Nat.le_of_ble_eq_true rfl) rfl dX12_commonOf_17 ?_
    refine me_aload_n X (i := 0) 1 rfl dX12_commonOf_19 ?_
    refine me_iload_n X (i := 3) 4 rfl dX12_commonOf_20 ?_
    obtain ⟨v3, e3, h⟩ := me_bd h
    refine me_callVi X [.int x3_1] (ctX12_beginOf_63 hn (Nat.le_trans (by decide) hnt) e3) kV_X12_245 rfl rfl (Nat.le_of_ble_eq_true rfl) me_k63 (Nat.le_of_ble_eq_true rfl) (Nat.le_refl _) (Nat.le_of_ble_eq_true rfl) dX12_commonOf_21 ?_
    refine me_istore X (i := 5) [(5, .int v3), (4, .int 0), (0, .ref (ad 63)), (1, .int p0), (2, .int x2_1), (3, .int x3_1)] (Nat.le_of_ble_eq_true rfl) rfl dX12_commonOf_24 ?_
    obtain ⟨y4_1, hq2, h⟩ := me_bd h
    have hx1 : me_W p l e R s m args below meth c 0 0 (MQ below (me_Qc D cA ad n A (some (.int r)) M) args s 0 0 A) D cA ad n 6 A 82 [(0, .ref (ad 63)), (1, .int p0), (2, .int x2_1), (3, .int x3_1), (4, .int y4_1)] [] M := by
      refine me_iload_n X (i := 2) 2 rfl dX12_commonOf_82 ?_
      refine me_iload X (i := 4) 4 rfl dX12_commonOf_83 ?_
      obtain ⟨v8, e8, h⟩ := me_bd h
      refine me_callSi X [.int x2_1, .int y4_1] (ctX12_less hn (Nat.le_trans (by decide) hnt) e8) kS_X12_251 rfl rfl (Nat.le_of_ble_eq_true rfl) (Nat.le_refl _) (Nat.le_of_ble_eq_true rfl) dX12_commonOf_85 ?_
      refine me_istore_n X (i := 2) [(2, .int v8), (0, .ref (ad 63)), (1, .int p0), (3, .int x3_1), (4, .int y4_1)] (Nat.le_of_ble_eq_true rfl) rfl dX12_commonOf_88 ?_
      refine me_iinc X (v := (x3_1 + 1)) 3 rfl (in_1 _) [(3, .int (x3_1 + 1)), (2, .int v8), (0, .ref (ad 63)), (1, .int p0), (4, .int y4_1)] (Nat.le_of_ble_eq_true rfl) rfl dX12_commonOf_89 ?_
      refine me_goto X 8 (by decide) dX12_commonOf_92 ?_
      obtain rfl := me_so h
      refine me_sub (L' := [(0, .ref (ad 63)), (1, .int p0), (2, .int v8), (3, .int (x3_1 + 1))]) [2, 3, 1, 0] rfl ?_
      exact hb1 (v8, (x3_1 + 1)) rfl
    refine me_sub (L' := [(0, .ref (ad 63)), (1, .int p0), (2, .int x2_1), (3, .int x3_1), (4, .int 0), (5, .int v3)]) [2, 3, 4, 5, 1, 0] rfl ?_
    refine me_l_W (b := (mX12_commonOf_63_L26 M p0 x2_1 x3_1)) (P := fun w => me_W p l e R s m args below meth c 0 0 (MQ below (me_Qc D cA ad n A (some (.int r)) M) args s 0 0 A) D cA ad n 6 A 26 [(0, .ref (ad 63)), (1, .int p0), (2, .int x2_1), (3, .int x3_1), (4, .int w.1), (5, .int w.2)] [] M) (r := y4_1) ?_ me_fu (0, v3) hq2
    rintro ⟨x4_1, x5_1⟩ z2 h hb2 - hr2
    unfold mX12_commonOf_63_L26 at h
    refine me_iload X (i := 5) 5 rfl dX12_commonOf_26 ?_
    refine me_aload_n X (i := 0) 0 rfl dX12_commonOf_28 ?_
    refine me_geti X kF_X12_20 (Nat.le_of_ble_eq_true rfl) me_k63 me_f63_5 dX12_commonOf_29 ?_
    refine me_icmp_ge X 82 (by decide) dX12_commonOf_32 (fun c2 => ?_) (fun c2 => ?_)
    · have h := me_ip c2 h
      obtain rfl := me_so h
      have q := hr2 _ rfl
      refine me_sub (L' := [(0, .ref (ad 63)), (1, .int p0), (2, .int x2_1), (3, .int x3_1), (4, .int x4_1)]) [0, 1, 2, 3, 4] rfl ?_
      cases q
      exact hx1
    · have h := me_in c2 h
      refine me_aload_n X (i := 0) 0 rfl dX12_commonOf_35 ?_
      refine me_getr X 66 kF_X12_28 (Nat.le_of_ble_eq_true rfl) me_k63 me_f63_7 dX12_commonOf_36 ?_
      refine me_iconst X dX12_commonOf_39 ic_0 ?_
      refine me_aald X (j := 67) (Nat.le_of_ble_eq_true rfl) ⟨by decide, by decide, Nat.lt_of_lt_of_le (by decide) hnt⟩ me_k66 (by decide) dX12_commonOf_40 ?_
      refine me_iload X (i := 5) 5 rfl dX12_commonOf_41 ?_
      obtain ⟨v4, e4, h⟩ := me_bd h
      refine me_iald X (Nat.le_of_ble_eq_true rfl) me_k67 e4 dX12_commonOf_43 ?_
      refine me_iconst X dX12_commonOf_44 ic_1 ?_
      refine me_icmp_eq X 82 (by decide) dX12_commonOf_45 (fun c3 => ?_) (fun c3 => ?_)
      · have h := me_ip c3 h
        obtain rfl := me_so h
        have q := hr2 _ rfl
        refine me_sub (L' := [(0, .ref (ad 63)), (1, .int p0), (2, .int x2_1), (3, .int x3_1), (4, .int x4_1)]) [0, 1, 2, 3, 4] rfl ?_
        cases q
        exact hx1
      · have h := me_in c3 h
        refine me_iload X (i := 4) 4 rfl dX12_commonOf_48 ?_
        refine me_iload_n X (i := 1) 1 rfl dX12_commonOf_50 ?_
        refine me_iload X (i := 5) 5 rfl dX12_commonOf_51 ?_
        have hj71_2 : ∀ (s1 : Int32), mX12_commonOf_63_J71 p0 x2_1 x3_1 x5_1 x4_1 M s1 = some z2 → me_W p l e R s m args below meth c 0 0 (MQ below (me_Qc D cA ad n A (some (.int r)) M) args s 0 0 A) D cA ad n 6 A 71 [(0, .ref (ad 63)), (1, .int p0), (2, .int x2_1), (3, .int x3_1), (5, .int x5_1)] [.int s1, .int x4_1] M := by
          intro s1 h
          unfold mX12_commonOf_63_J71 at h
          obtain ⟨v7, e7, h⟩ := me_bd h
          refine me_callSi X [.int x4_1, .int s1] (ctX12_more hn (Nat.le_trans (by decide) hnt) e7) kS_X12_202 rfl rfl (Nat.le_of_ble_eq_true rfl) (Nat.le_refl _) (Nat.le_of_ble_eq_true rfl) dX12_commonOf_71 ?_
          refine me_istore X (i := 4) [(4, .int v7), (0, .ref (ad 63)), (1, .int p0), (2, .int x2_1), (3, .int x3_1), (5, .int x5_1)] (Nat.le_of_ble_eq_true rfl) rfl dX12_commonOf_74 ?_
          refine me_iinc X (v := (x5_1 + 1)) 5 rfl (in_1 _) [(5, .int (x5_1 + 1)), (4, .int v7), (0, .ref (ad 63)), (1, .int p0), (2, .int x2_1), (3, .int x3_1)] (Nat.le_of_ble_eq_true rfl) rfl dX12_commonOf_76 ?_
          refine me_goto X 26 (by decide) dX12_commonOf_79 ?_
          obtain rfl := me_so h
          refine me_sub (L' := [(0, .ref (ad 63)), (1, .int p0), (2, .int x2_1), (3, .int x3_1), (4, .int v7), (5, .int (x5_1 + 1))]) [2, 3, 4, 5, 1, 0] rfl ?_
          exact hb2 (v7, (x5_1 + 1)) rfl
        refine me_icmp_ne X 64 (by decide) dX12_commonOf_53 (fun c4 => ?_) (fun c4 => ?_)
        · have h := me_in c4 h
          refine me_aload_n X (i := 0) 0 rfl dX12_commonOf_64 ?_
          refine me_iload_n X (i := 1) 1 rfl dX12_commonOf_65 ?_
          refine me_iload X (i := 5) 5 rfl dX12_commonOf_66 ?_
          obtain ⟨v5, e5, h⟩ := me_bd h
          refine me_callVi X [.int p0, .int x5_1] (ctX12_like_63 hn (Nat.le_trans (by decide) hnt) e5) kV_X12_304 rfl rfl (Nat.le_of_ble_eq_true rfl) me_k63 (Nat.le_of_ble_eq_true rfl) (Nat.le_refl _) (Nat.le_of_ble_eq_true rfl) dX12_commonOf_68 ?_
          refine me_sub (L' := [(0, .ref (ad 63)), (1, .int p0), (2, .int x2_1), (3, .int x3_1), (5, .int x5_1)]) [0, 1, 2, 3, 5] rfl ?_
          exact hj71_2 v5 h
        · have h := me_ip c4 h
          refine me_aload_n X (i := 0) 0 rfl dX12_commonOf_56 ?_
          refine me_iload_n X (i := 1) 1 rfl dX12_commonOf_57 ?_
          obtain ⟨v6, e6, h⟩ := me_bd h
          refine me_callVi X [.int p0] (ctX12_run_63 hn (Nat.le_trans (by decide) hnt) e6) kV_X12_328 rfl rfl (Nat.le_of_ble_eq_true rfl) me_k63 (Nat.le_of_ble_eq_true rfl) (Nat.le_refl _) (Nat.le_of_ble_eq_true rfl) dX12_commonOf_58 ?_
          refine me_goto X 71 (by decide) dX12_commonOf_61 ?_
          refine me_sub (L' := [(0, .ref (ad 63)), (1, .int p0), (2, .int x2_1), (3, .int x3_1), (5, .int x5_1)]) [0, 1, 2, 3, 5] rfl ?_
          exact hj71_2 v6 h
def mX12_common_63_J69 (p0 : Int32) (x4_1 : Int32) (M2 : me_M) (x2_2 : Int32) (x3_2 : Int32) : Option ((Int32 × Int32 × Int32) ⊕ (Int32 × Int32)) :=
  some (.inl (x2_2, x3_2, (x4_1 + 1)))
def mX12_common_63_L37 (M2 : me_M) (p0 : Int32) : (Int32 × Int32 × Int32) → Option ((Int32 × Int32 × Int32) ⊕ (Int32 × Int32))
  | (x2_1, x3_1, x4_1) => (if (M2.1 63 5) ≤ x4_1 then some (.inr (x2_1, x3_1)) else ((mX12_commonOf_63 M2 x4_1).bind fun v3 => (if x2_1 < v3 then (mX12_common_63_J69 p0 x4_1 M2 v3 x4_1) else (mX12_common_63_J69 p0 x4_1 M2 x2_1 x3_1))))
def mX12_common_63_J20 (p0 : Int32) (s1 : Int32) (M1 : me_M) : Option (Int32 × me_M) :=
  ((mX12_bad_63 M1 s1 1 1).bind fun (v2, M2) => (if v2 = 0 then ((me_l (mX12_common_63_L37 M2 p0) me_fu (0, (-1), 0)).bind fun (y2_1, y3_1) => (if p0 = 0 then some (y2_1, M2) else some (y3_1, M2))) else some (0, M2)))
def mX12_common_63 (M : me_M) (p0 : Int32) : Option (Int32 × me_M) :=
  ((mX12_in p0 0 1).bind fun v1 => (if v1 = 0 then (mX12_common_63_J20 p0 1 (me_s M 63 0 0)) else (mX12_common_63_J20 p0 0 (me_s M 63 0 0))))
set_option maxRecDepth 100000 in
set_option maxHeartbeats 4000000 in
theorem ctX12_common_63 {l : Launch} {n nt : Nat} (hn : 424 ≤ n) (hnt : 4 ≤ nt) {M : me_M} {p0 : Int32} {r : Int32} {M' : me_M} (h : mX12_common_63 M p0 = some (r, M')) : me_Ct l yX12_common cX12_common 6 (some .int) 2 n nt (fun ad => [.ref (ad 63), .int p0]) M (fun _ => some (.int r)) M' := by
  unfold mX12_common_63 at h
  refine me_enter (N0 := 424) RX12 rfl (plainFor_of_name pl_RX12) hn (Nat.le_trans (by decide) hnt) (fun _ => Nat.le_of_ble_eq_true rfl) ?_
  intro p e R s m args below meth c D cA ad tys A X hr hlk
  refine me_sub (L' := [(0, .ref (ad 63)), (1, .int p0)]) [0, 1] rfl ?_
  refine me_aload_n X (i := 0) 0 rfl dX12_common_0 ?_
  refine me_iconst X dX12_common_1 ic_0 ?_
  refine me_puti X kG_X12_105 (Nat.le_of_ble_eq_true rfl) me_k63 me_f63_0 dX12_common_2 ?_
  refine me_aload_n X (i := 0) 0 rfl dX12_common_5 ?_
  refine me_iload_n X (i := 1) 1 rfl dX12_common_6 ?_
  refine me_iconst X dX12_common_7 ic_0 ?_
  refine me_iconst X dX12_common_8 ic_1 ?_
  obtain ⟨v1, e1, h⟩ := me_bd h
  refine me_callSi X [.int p0, .int 0, .int 1] (ctX12_in hn (Nat.le_trans (by decide) hnt) e1) kS_X12_108 rfl rfl (Nat.le_of_ble_eq_true rfl) (Nat.le_refl _) (Nat.le_of_ble_eq_true rfl) dX12_common_9 ?_
  have hj20_1 : ∀ (s1 : Int32) (M1 : me_M), mX12_common_63_J20 p0 s1 M1 = some (r, M') → me_W p l e R s m args below meth c 0 0 (MQ below (me_Qc D cA ad n A (some (.int r)) M') args s 0 0 A) D cA ad n 6 A 20 [(0, .ref (ad 63)), (1, .int p0)] [.int s1, .ref (ad 63)] M1 := by
    intro s1 M1 h
    unfold mX12_common_63_J20 at h
    refine me_iconst X dX12_common_20 ic_1 ?_
    refine me_iconst X dX12_common_21 ic_1 ?_
    obtain ⟨⟨v2, M2⟩, e2, h⟩ := me_bd h
    refine me_callVi X [.int s1, .int 1, .int 1] (ctX12_bad_63 hn (Nat.le_trans (by decide) hnt) e2) kV_X12_122 rfl rfl (Nat.le_of_ble_eq_true rfl) me_k63 (Nat.le_of_ble_eq_true rfl) (Nat.le_refl _) (Nat.le_of_ble_eq_true rfl) dX12_common_22 ?_
    refine me_if_eq X 30 (by decide) dX12_common_25 (fun c2 => ?_) (fun c2 => ?_)
    · have h := me_ip c2 h
      refine me_iconst X dX12_common_30 ic_0 ?_
      refine me_istore_n X (i := 2) [(2, .int 0), (0, .ref (ad 63)), (1, .int p0)] (Nat.le_of_ble_eq_true rfl) rfl dX12_common_31 ?_
      refine me_iconst X dX12_common_32 ic_m1 ?_
      refine me_istore_n X (i := 3) [(3, .int (-1)), (2, .int 0), (0, .ref (ad 63)), (1, .int p0)] (Nat.le_of_ble_eq_true rfl) rfl dX12_common_33 ?_
      refine me_iconst X dX12_common_34 ic_0 ?_
      refine me_istore X (i := 4) [(4, .int 0), (3, .int (-1)), (2, .int 0), (0, .ref (ad 63)), (1, .int p0)] (Nat.le_of_ble_eq_true rfl) rfl dX12_common_35 ?_
      obtain ⟨⟨y2_1, y3_1⟩, hq1, h⟩ := me_bd h
      have hx1 : me_W p l e R s m args below meth c 0 0 (MQ below (me_Qc D cA ad n A (some (.int r)) M') args s 0 0 A) D cA ad n 6 A 75 [(1, .int p0), (2, .int y2_1), (3, .int y3_1)] [] M2 := by
        refine me_iload_n X (i := 1) 0 rfl dX12_common_75 ?_
        refine me_if_ne X 83 (by decide) dX12_common_76 (fun c5 => ?_) (fun c5 => ?_)
        · have h := me_in c5 h
          refine me_iload_n X (i := 3) 2 rfl dX12_common_83 ?_
          obtain ⟨rfl, rfl⟩ := me_sp h
          exact me_iret X hr hlk dX12_common_84
        · have h := me_ip c5 h
          refine me_iload_n X (i := 2) 1 rfl dX12_common_79 ?_
          refine me_goto X 84 (by decide) dX12_common_80 ?_
          obtain ⟨rfl, rfl⟩ := me_sp h
          exact me_iret X hr hlk dX12_common_84
      refine me_sub (L' := [(0, .ref (ad 63)), (1, .int p0), (2, .int 0), (3, .int (-1)), (4, .int 0)]) [3, 4, 2, 1, 0] rfl ?_
      refine me_l_W (b := (mX12_common_63_L37 M2 p0)) (P := fun w => me_W p l e R s m args below meth c 0 0 (MQ below (me_Qc D cA ad n A (some (.int r)) M') args s 0 0 A) D cA ad n 6 A 37 [(0, .ref (ad 63)), (1, .int p0), (2, .int w.1), (3, .int w.2.1), (4, .int w.2.2)] [] M2) (r := (y2_1, y3_1)) ?_ me_fu (0, (-1), 0) hq1
      rintro ⟨x2_1, x3_1, x4_1⟩ z1 h hb1 - hr1
      unfold mX12_common_63_L37 at h
      refine me_iload X (i := 4) 4 rfl dX12_common_37 ?_
      refine me_aload_n X (i := 0) 0 rfl dX12_common_39 ?_
      refine me_geti X kF_X12_20 (Nat.le_of_ble_eq_true rfl) me_k63 me_f63_5 dX12_common_40 ?_
      refine me_icmp_ge X 75 (by decide) dX12_common_43 (fun c3 => ?_) (fun c3 => ?_)
      · have h := me_ip c3 h
        obtain rfl := me_so h
        have q := hr1 _ rfl
        refine me_sub (L' := [(1, .int p0), (2, .int x2_1), (3, .int x3_1)]) [1, 2, 3] rfl ?_
        cases q
        exact hx1
      · have h := me_in c3 h
        refine me_aload_n X (i := 0) 0 rfl dX12_common_46 ?_
        refine me_iload X (i := 4) 4 rfl dX12_common_47 ?_
        obtain ⟨v3, e3, h⟩ := me_bd h
        refine me_callVi X [.int x4_1] (ctX12_commonOf_63 hn (Nat.le_trans (by decide) hnt) e3) kV_X12_334 rfl rfl (Nat.le_of_ble_eq_true rfl) me_k63 (Nat.le_of_ble_eq_true rfl) (Nat.le_refl _) (Nat.le_of_ble_eq_true rfl) dX12_common_49 ?_
        refine me_istore X (i := 5) [(5, .int v3), (0, .ref (ad 63)), (1, .int p0), (2, .int x2_1), (3, .int x3_1), (4, .int x4_1)] (Nat.le_of_ble_eq_true rfl) rfl dX12_common_52 ?_
        refine me_iload X (i := 5) 0 rfl dX12_common_54 ?_
        refine me_iload_n X (i := 2) 3 rfl dX12_common_56 ?_
        have hj69_2 : ∀ (x2_2 : Int32) (x3_2 : Int32), mX12_common_63_J69 p0 x4_1 M2 x2_2 x3_2 = some z1 → me_W p l e R s m args below meth c 0 0 (MQ below (me_Qc D cA ad n A (some (.int r)) M') args s 0 0 A) D cA ad n 6 A 69 [(0, .ref (ad 63)), (1, .int p0), (2, .int x2_2), (3, .int x3_2), (4, .int x4_1)] [] M2 := by
          intro x2_2 x3_2 h
          unfold mX12_common_63_J69 at h
          refine me_iinc X (v := (x4_1 + 1)) 4 rfl (in_1 _) [(4, .int (x4_1 + 1)), (0, .ref (ad 63)), (1, .int p0), (2, .int x2_2), (3, .int x3_2)] (Nat.le_of_ble_eq_true rfl) rfl dX12_common_69 ?_
          refine me_goto X 37 (by decide) dX12_common_72 ?_
          obtain rfl := me_so h
          refine me_sub (L' := [(0, .ref (ad 63)), (1, .int p0), (2, .int x2_2), (3, .int x3_2), (4, .int (x4_1 + 1))]) [1, 2, 3, 4, 0] rfl ?_
          exact hb1 (x2_2, x3_2, (x4_1 + 1)) rfl
        refine me_icmp_gt X 63 (by decide) dX12_common_57 (fun c4 => ?_) (fun c4 => ?_)
        · have h := me_ip c4 h
          refine me_iload X (i := 5) 0 rfl dX12_common_63 ?_
          refine me_istore_n X (i := 2) [(2, .int v3), (5, .int v3), (0, .ref (ad 63)), (1, .int p0), (3, .int x3_1), (4, .int x4_1)] (Nat.le_of_ble_eq_true rfl) rfl dX12_common_65 ?_
          refine me_iload X (i := 4) 5 rfl dX12_common_66 ?_
          refine me_istore_n X (i := 3) [(3, .int x4_1), (2, .int v3), (5, .int v3), (0, .ref (ad 63)), (1, .int p0), (4, .int x4_1)] (Nat.le_of_ble_eq_true rfl) rfl dX12_common_68 ?_
          refine me_sub (L' := [(0, .ref (ad 63)), (1, .int p0), (2, .int v3), (3, .int x4_1), (4, .int x4_1)]) [3, 4, 1, 0, 5] rfl ?_
          exact hj69_2 v3 x4_1 h
        · have h := me_in c4 h
          refine me_goto X 69 (by decide) dX12_common_60 ?_
          refine me_sub (L' := [(0, .ref (ad 63)), (1, .int p0), (2, .int x2_1), (3, .int x3_1), (4, .int x4_1)]) [1, 2, 3, 4, 5] rfl ?_
          exact hj69_2 x2_1 x3_1 h
    · have h := me_in c2 h
      refine me_iconst X dX12_common_28 ic_0 ?_
      obtain ⟨rfl, rfl⟩ := me_sp h
      exact me_iret X hr hlk dX12_common_29
  refine me_if_ne X 19 (by decide) dX12_common_12 (fun c1 => ?_) (fun c1 => ?_)
  · have h := me_in c1 h
    refine me_iconst X dX12_common_19 ic_0 ?_
    exact hj20_1 0 (me_s M 63 0 0) h
  · have h := me_ip c1 h
    refine me_iconst X dX12_common_15 ic_1 ?_
    refine me_goto X 20 (by decide) dX12_common_16 ?_
    exact hj20_1 1 (me_s M 63 0 0) h
def mX12_document_63_J48 (p0 : Int32) (p1 : Int32) (M2 : me_M) (s2 : Int32) : Option (Int32 × me_M) :=
  ((mX12_bad_63 M2 s2 2 1).bind fun (v5, M3) => (if v5 = 0 then (if p1 = 0 then ((mX12_beginOf_63 M3 p0).bind fun v9 => some (v9, M3)) else (if p1 = 1 then ((mX12_beginOf_63 M3 p0).bind fun v7 => ((mX12_run_63 M3 v7).bind fun v8 => some (v8, M3))) else ((mX12_hitsIn_63 M3 p0).bind fun v6 => some (v6, M3)))) else some (0, M3)))
def mX12_document_63_J25 (p0 : Int32) (p1 : Int32) (s1 : Int32) (M1 : me_M) : Option (Int32 × me_M) :=
  ((mX12_bad_63 M1 s1 1 0).bind fun (v3, M2) => (if v3 = 0 then ((mX12_in p1 0 2).bind fun v4 => (if v4 = 0 then (mX12_document_63_J48 p0 p1 M2 1) else (mX12_document_63_J48 p0 p1 M2 0))) else some (0, M2)))
def mX12_document_63 (M : me_M) (p0 : Int32) (p1 : Int32) : Option (Int32 × me_M) :=
  ((mX12_documents_63 (me_s M 63 0 0)).bind fun v1 => ((mX12_in p0 0 (v1 - 1)).bind fun v2 => (if v2 = 0 then (mX12_document_63_J25 p0 p1 1 (me_s M 63 0 0)) else (mX12_document_63_J25 p0 p1 0 (me_s M 63 0 0)))))
set_option maxRecDepth 100000 in
set_option maxHeartbeats 4000000 in
theorem ctX12_document_63 {l : Launch} {n nt : Nat} (hn : 424 ≤ n) (hnt : 4 ≤ nt) {M : me_M} {p0 : Int32} {p1 : Int32} {r : Int32} {M' : me_M} (h : mX12_document_63 M p0 p1 = some (r, M')) : me_Ct l yX12_document cX12_document 3 (some .int) 3 n nt (fun ad => [.ref (ad 63), .int p0, .int p1]) M (fun _ => some (.int r)) M' := by
  unfold mX12_document_63 at h
  refine me_enter (N0 := 424) RX12 rfl (plainFor_of_name pl_RX12) hn (Nat.le_trans (by decide) hnt) (fun _ => Nat.le_of_ble_eq_true rfl) ?_
  intro p e R s m args below meth c D cA ad tys A X hr hlk
  refine me_sub (L' := [(0, .ref (ad 63)), (1, .int p0), (2, .int p1)]) [0, 1, 2] rfl ?_
  refine me_aload_n X (i := 0) 0 rfl dX12_document_0 ?_
  refine me_iconst X dX12_document_1 ic_0 ?_
  refine me_puti X kG_X12_105 (Nat.le_of_ble_eq_true rfl) me_k63 me_f63_0 dX12_document_2 ?_
  refine me_aload_n X (i := 0) 0 rfl dX12_document_5 ?_
  refine me_iload_n X (i := 1) 1 rfl dX12_document_6 ?_
  refine me_iconst X dX12_document_7 ic_0 ?_
  refine me_aload_n X (i := 0) 0 rfl dX12_document_8 ?_
  obtain ⟨v1, e1, h⟩ := me_bd h
  refine me_callVi X [] (ctX12_documents_63 hn (Nat.le_trans (by decide) hnt) e1) kV_X12_205 rfl rfl (Nat.le_of_ble_eq_true rfl) me_k63 (Nat.le_of_ble_eq_true rfl) (Nat.le_refl _) (Nat.le_of_ble_eq_true rfl) dX12_document_9 ?_
  refine me_iconst X dX12_document_12 ic_1 ?_
  refine me_isub X dX12_document_13 ?_
  obtain ⟨v2, e2, h⟩ := me_bd h
  refine me_callSi X [.int p0, .int 0, .int (v1 - 1)] (ctX12_in hn (Nat.le_trans (by decide) hnt) e2) kS_X12_108 rfl rfl (Nat.le_of_ble_eq_true rfl) (Nat.le_refl _) (Nat.le_of_ble_eq_true rfl) dX12_document_14 ?_
  have hj25_1 : ∀ (s1 : Int32) (M1 : me_M), mX12_document_63_J25 p0 p1 s1 M1 = some (r, M') → me_W p l e R s m args below meth c 0 0 (MQ below (me_Qc D cA ad n A (some (.int r)) M') args s 0 0 A) D cA ad n 3 A 25 [(0, .ref (ad 63)), (1, .int p0), (2, .int p1)] [.int s1, .ref (ad 63)] M1 := by
    intro s1 M1 h
    unfold mX12_document_63_J25 at h
    refine me_iconst X dX12_document_25 ic_1 ?_
    refine me_iconst X dX12_document_26 ic_0 ?_
    obtain ⟨⟨v3, M2⟩, e3, h⟩ := me_bd h
    refine me_callVi X [.int s1, .int 1, .int 0] (ctX12_bad_63 hn (Nat.le_trans (by decide) hnt) e3) kV_X12_122 rfl rfl (Nat.le_of_ble_eq_true rfl) me_k63 (Nat.le_of_ble_eq_true rfl) (Nat.le_refl _) (Nat.le_of_ble_eq_true rfl) dX12_document_27 ?_
    refine me_if_ne X 56 (by decide) dX12_document_30 (fun c2 => ?_) (fun c2 => ?_)
    · have h := me_in c2 h
      refine me_iconst X dX12_document_56 ic_0 ?_
      obtain ⟨rfl, rfl⟩ := me_sp h
      exact me_iret X hr hlk dX12_document_57
    · have h := me_ip c2 h
      refine me_aload_n X (i := 0) 0 rfl dX12_document_33 ?_
      refine me_iload_n X (i := 2) 2 rfl dX12_document_34 ?_
      refine me_iconst X dX12_document_35 ic_0 ?_
      refine me_iconst X dX12_document_36 ic_2 ?_
      obtain ⟨v4, e4, h⟩ := me_bd h
      refine me_callSi X [.int p1, .int 0, .int 2] (ctX12_in hn (Nat.le_trans (by decide) hnt) e4) kS_X12_108 rfl rfl (Nat.le_of_ble_eq_true rfl) (Nat.le_refl _) (Nat.le_of_ble_eq_true rfl) dX12_document_37 ?_
      have hj48_2 : ∀ (s2 : Int32), mX12_document_63_J48 p0 p1 M2 s2 = some (r, M') → me_W p l e R s m args below meth c 0 0 (MQ below (me_Qc D cA ad n A (some (.int r)) M') args s 0 0 A) D cA ad n 3 A 48 [(0, .ref (ad 63)), (1, .int p0), (2, .int p1)] [.int s2, .ref (ad 63)] M2 := by
        intro s2 h
        unfold mX12_document_63_J48 at h
        refine me_iconst X dX12_document_48 ic_2 ?_
        refine me_iconst X dX12_document_49 ic_1 ?_
        obtain ⟨⟨v5, M3⟩, e5, h⟩ := me_bd h
        refine me_callVi X [.int s2, .int 2, .int 1] (ctX12_bad_63 hn (Nat.le_trans (by decide) hnt) e5) kV_X12_122 rfl rfl (Nat.le_of_ble_eq_true rfl) me_k63 (Nat.le_of_ble_eq_true rfl) (Nat.le_refl _) (Nat.le_of_ble_eq_true rfl) dX12_document_50 ?_
        refine me_if_eq X 58 (by decide) dX12_document_53 (fun c4 => ?_) (fun c4 => ?_)
        · have h := me_ip c4 h
          refine me_iload_n X (i := 2) 2 rfl dX12_document_58 ?_
          refine me_if_ne X 70 (by decide) dX12_document_59 (fun c5 => ?_) (fun c5 => ?_)
          · have h := me_in c5 h
            refine me_iload_n X (i := 2) 2 rfl dX12_document_70 ?_
            refine me_iconst X dX12_document_71 ic_1 ?_
            refine me_icmp_ne X 87 (by decide) dX12_document_72 (fun c6 => ?_) (fun c6 => ?_)
            · have h := me_in c6 h
              refine me_aload_n X (i := 0) 0 rfl dX12_document_87 ?_
              refine me_iload_n X (i := 1) 1 rfl dX12_document_88 ?_
              obtain ⟨v6, e6, h⟩ := me_bd h
              refine me_callVi X [.int p0] (ctX12_hitsIn_63 hn (Nat.le_trans (by decide) hnt) e6) kV_X12_248 rfl rfl (Nat.le_of_ble_eq_true rfl) me_k63 (Nat.le_of_ble_eq_true rfl) (Nat.le_refl _) (Nat.le_of_ble_eq_true rfl) dX12_document_89 ?_
              obtain ⟨rfl, rfl⟩ := me_sp h
              exact me_iret X hr hlk dX12_document_92
            · have h := me_ip c6 h
              refine me_aload_n X (i := 0) 0 rfl dX12_document_75 ?_
              refine me_aload_n X (i := 0) 0 rfl dX12_document_76 ?_
              refine me_iload_n X (i := 1) 1 rfl dX12_document_77 ?_
              obtain ⟨v7, e7, h⟩ := me_bd h
              refine me_callVi X [.int p0] (ctX12_beginOf_63 hn (Nat.le_trans (by decide) hnt) e7) kV_X12_245 rfl rfl (Nat.le_of_ble_eq_true rfl) me_k63 (Nat.le_of_ble_eq_true rfl) (Nat.le_refl _) (Nat.le_of_ble_eq_true rfl) dX12_document_78 ?_
              obtain ⟨v8, e8, h⟩ := me_bd h
              refine me_callVi X [.int v7] (ctX12_run_63 hn (Nat.le_trans (by decide) hnt) e8) kV_X12_328 rfl rfl (Nat.le_of_ble_eq_true rfl) me_k63 (Nat.le_of_ble_eq_true rfl) (Nat.le_refl _) (Nat.le_of_ble_eq_true rfl) dX12_document_81 ?_
              refine me_goto X 92 (by decide) dX12_document_84 ?_
              obtain ⟨rfl, rfl⟩ := me_sp h
              exact me_iret X hr hlk dX12_document_92
          · have h := me_ip c5 h
            refine me_aload_n X (i := 0) 0 rfl dX12_document_62 ?_
            refine me_iload_n X (i := 1) 1 rfl dX12_document_63 ?_
            obtain ⟨v9, e9, h⟩ := me_bd h
            refine me_callVi X [.int p0] (ctX12_beginOf_63 hn (Nat.le_trans (by decide) hnt) e9) kV_X12_245 rfl rfl (Nat.le_of_ble_eq_true rfl) me_k63 (Nat.le_of_ble_eq_true rfl) (Nat.le_refl _) (Nat.le_of_ble_eq_true rfl) dX12_document_64 ?_
            refine me_goto X 92 (by decide) dX12_document_67 ?_
            obtain ⟨rfl, rfl⟩ := me_sp h
            exact me_iret X hr hlk dX12_document_92
        · have h := me_in c4 h
          refine me_iconst X dX12_document_56 ic_0 ?_
          obtain ⟨rfl, rfl⟩ := me_sp h
          exact me_iret X hr hlk dX12_document_57
      refine me_if_ne X 47 (by decide) dX12_document_40 (fun c3 => ?_) (fun c3 => ?_)
      · have h := me_in c3 h
        refine me_iconst X dX12_document_47 ic_0 ?_
        exact hj48_2 0 h
      · have h := me_ip c3 h
        refine me_iconst X dX12_document_43 ic_1 ?_
        refine me_goto X 48 (by decide) dX12_document_44 ?_
        exact hj48_2 1 h
  refine me_if_ne X 24 (by decide) dX12_document_17 (fun c1 => ?_) (fun c1 => ?_)
  · have h := me_in c1 h
    refine me_iconst X dX12_document_24 ic_0 ?_
    exact hj25_1 0 (me_s M 63 0 0) h
  · have h := me_ip c1 h
    refine me_iconst X dX12_document_20 ic_1 ?_
    refine me_goto X 25 (by decide) dX12_document_21 ?_
    exact hj25_1 1 (me_s M 63 0 0) h
def mX12_print_63_L35 (M2 : me_M) (p0 : Int32) : (Int64 × Int32) → Option ((Int64 × Int32) ⊕ (Int64))
  | (x2_1, x4_1) => (if (M2.1 63 5) < x4_1 then some (.inr x2_1) else ((mX12_before_63 M2 p0 x4_1).bind fun v3 => ((mX12_byteOf v3).bind fun v4 => some (.inl (((31 * x2_1) + v4.toInt64), (x4_1 + 1))))))
def mX12_print_63_J20 (p0 : Int32) (s1 : Int32) (M1 : me_M) : Option (Int64 × me_M) :=
  ((mX12_bad_63 M1 s1 1 0).bind fun (v2, M2) => (if v2 = 0 then ((me_l (mX12_print_63_L35 M2 p0) me_fu (0, 0)).bind fun y2_1 => some (y2_1, M2)) else some (0, M2)))
def mX12_print_63 (M : me_M) (p0 : Int32) : Option (Int64 × me_M) :=
  ((mX12_in p0 0 1).bind fun v1 => (if v1 = 0 then (mX12_print_63_J20 p0 1 (me_s M 63 0 0)) else (mX12_print_63_J20 p0 0 (me_s M 63 0 0))))
set_option maxRecDepth 100000 in
set_option maxHeartbeats 4000000 in
theorem ctX12_print_63 {l : Launch} {n nt : Nat} (hn : 424 ≤ n) (hnt : 4 ≤ nt) {M : me_M} {p0 : Int32} {r : Int64} {M' : me_M} (h : mX12_print_63 M p0 = some (r, M')) : me_Ct l yX12_print cX12_print 5 (some .long) 1 n nt (fun ad => [.ref (ad 63), .int p0]) M (fun _ => some (.long r)) M' := by
  unfold mX12_print_63 at h
  refine me_enter (N0 := 424) RX12 rfl (plainFor_of_name pl_RX12) hn (Nat.le_trans (by decide) hnt) (fun _ => Nat.le_of_ble_eq_true rfl) ?_
  intro p e R s m args below meth c D cA ad tys A X hr hlk
  refine me_sub (L' := [(0, .ref (ad 63)), (1, .int p0)]) [0, 1] rfl ?_
  refine me_aload_n X (i := 0) 0 rfl dX12_print_0 ?_
  refine me_iconst X dX12_print_1 ic_0 ?_
  refine me_puti X kG_X12_105 (Nat.le_of_ble_eq_true rfl) me_k63 me_f63_0 dX12_print_2 ?_
  refine me_aload_n X (i := 0) 0 rfl dX12_print_5 ?_
  refine me_iload_n X (i := 1) 1 rfl dX12_print_6 ?_
  refine me_iconst X dX12_print_7 ic_0 ?_
  refine me_iconst X dX12_print_8 ic_1 ?_
  obtain ⟨v1, e1, h⟩ := me_bd h
  refine me_callSi X [.int p0, .int 0, .int 1] (ctX12_in hn (Nat.le_trans (by decide) hnt) e1) kS_X12_108 rfl rfl (Nat.le_of_ble_eq_true rfl) (Nat.le_refl _) (Nat.le_of_ble_eq_true rfl) dX12_print_9 ?_
  have hj20_1 : ∀ (s1 : Int32) (M1 : me_M), mX12_print_63_J20 p0 s1 M1 = some (r, M') → me_W p l e R s m args below meth c 0 0 (MQ below (me_Qc D cA ad n A (some (.long r)) M') args s 0 0 A) D cA ad n 5 A 20 [(0, .ref (ad 63)), (1, .int p0)] [.int s1, .ref (ad 63)] M1 := by
    intro s1 M1 h
    unfold mX12_print_63_J20 at h
    refine me_iconst X dX12_print_20 ic_1 ?_
    refine me_iconst X dX12_print_21 ic_0 ?_
    obtain ⟨⟨v2, M2⟩, e2, h⟩ := me_bd h
    refine me_callVi X [.int s1, .int 1, .int 0] (ctX12_bad_63 hn (Nat.le_trans (by decide) hnt) e2) kV_X12_122 rfl rfl (Nat.le_of_ble_eq_true rfl) me_k63 (Nat.le_of_ble_eq_true rfl) (Nat.le_refl _) (Nat.le_of_ble_eq_true rfl) dX12_print_22 ?_
    refine me_if_eq X 30 (by decide) dX12_print_25 (fun c2 => ?_) (fun c2 => ?_)
    · have h := me_ip c2 h
      refine me_lconst (v := 0) X dX12_print_30 (by decide) ?_
      refine me_lstore_n X (i := 2) [(2, .long 0), (0, .ref (ad 63)), (1, .int p0)] (Nat.le_of_ble_eq_true rfl) rfl dX12_print_31 ?_
      refine me_iconst X dX12_print_32 ic_0 ?_
      refine me_istore X (i := 4) [(4, .int 0), (2, .long 0), (0, .ref (ad 63)), (1, .int p0)] (Nat.le_of_ble_eq_true rfl) rfl dX12_print_33 ?_
      obtain ⟨y2_1, hq1, h⟩ := me_bd h
      have hx1 : me_W p l e R s m args below meth c 0 0 (MQ below (me_Qc D cA ad n A (some (.long r)) M') args s 0 0 A) D cA ad n 5 A 68 [(2, .long y2_1)] [] M2 := by
        refine me_lload_n X (i := 2) 0 rfl dX12_print_68 ?_
        obtain ⟨rfl, rfl⟩ := me_sp h
        exact me_lret X hr hlk dX12_print_69
      refine me_sub (L' := [(0, .ref (ad 63)), (1, .int p0), (2, .long 0), (4, .int 0)]) [2, 3, 1, 0] rfl ?_
      refine me_l_W (b := (mX12_print_63_L35 M2 p0)) (P := fun w => me_W p l e R s m args below meth c 0 0 (MQ below (me_Qc D cA ad n A (some (.long r)) M') args s 0 0 A) D cA ad n 5 A 35 [(0, .ref (ad 63)), (1, .int p0), (2, .long w.1), (4, .int w.2)] [] M2) (r := y2_1) ?_ me_fu (0, 0) hq1
      rintro ⟨x2_1, x4_1⟩ z1 h hb1 - hr1
      unfold mX12_print_63_L35 at h
      refine me_iload X (i := 4) 3 rfl dX12_print_35 ?_
      refine me_aload_n X (i := 0) 0 rfl dX12_print_37 ?_
      refine me_geti X kF_X12_20 (Nat.le_of_ble_eq_true rfl) me_k63 me_f63_5 dX12_print_38 ?_
      refine me_icmp_gt X 68 (by decide) dX12_print_41 (fun c3 => ?_) (fun c3 => ?_)
      · have h := me_ip c3 h
        obtain rfl := me_so h
        have q := hr1 _ rfl
        refine me_sub (L' := [(2, .long x2_1)]) [2] rfl ?_
        cases q
        exact hx1
      · have h := me_in c3 h
        refine me_ldc2 X tw_1821 dX12_print_44 ?_
        refine me_lload_n X (i := 2) 2 rfl dX12_print_47 ?_
        refine me_lmul X dX12_print_48 ?_
        refine me_aload_n X (i := 0) 0 rfl dX12_print_49 ?_
        refine me_iload_n X (i := 1) 1 rfl dX12_print_50 ?_
        refine me_iload X (i := 4) 3 rfl dX12_print_51 ?_
        obtain ⟨v3, e3, h⟩ := me_bd h
        refine me_callVi X [.int p0, .int x4_1] (ctX12_before_63 hn (Nat.le_trans (by decide) hnt) e3) kV_X12_230 rfl rfl (Nat.le_of_ble_eq_true rfl) me_k63 (Nat.le_of_ble_eq_true rfl) (Nat.le_refl _) (Nat.le_of_ble_eq_true rfl) dX12_print_53 ?_
        obtain ⟨v4, e4, h⟩ := me_bd h
        refine me_callSi X [.int v3] (ctX12_byteOf hn (Nat.le_trans (by decide) hnt) e4) kS_X12_223 rfl rfl (Nat.le_of_ble_eq_true rfl) (Nat.le_refl _) (Nat.le_of_ble_eq_true rfl) dX12_print_56 ?_
        refine me_i2l X dX12_print_59 ?_
        refine me_ladd X dX12_print_60 ?_
        refine me_lstore_n X (i := 2) [(2, .long ((31 * x2_1) + v4.toInt64)), (0, .ref (ad 63)), (1, .int p0), (4, .int x4_1)] (Nat.le_of_ble_eq_true rfl) rfl dX12_print_61 ?_
        refine me_iinc X (v := (x4_1 + 1)) 3 rfl (in_1 _) [(4, .int (x4_1 + 1)), (2, .long ((31 * x2_1) + v4.toInt64)), (0, .ref (ad 63)), (1, .int p0)] (Nat.le_of_ble_eq_true rfl) rfl dX12_print_62 ?_
        refine me_goto X 35 (by decide) dX12_print_65 ?_
        obtain rfl := me_so h
        refine me_sub (L' := [(0, .ref (ad 63)), (1, .int p0), (2, .long ((31 * x2_1) + v4.toInt64)), (4, .int (x4_1 + 1))]) [2, 3, 1, 0] rfl ?_
        exact hb1 (((31 * x2_1) + v4.toInt64), (x4_1 + 1)) rfl
    · have h := me_in c2 h
      refine me_lconst (v := 0) X dX12_print_28 (by decide) ?_
      obtain ⟨rfl, rfl⟩ := me_sp h
      exact me_lret X hr hlk dX12_print_29
  refine me_if_ne X 19 (by decide) dX12_print_12 (fun c1 => ?_) (fun c1 => ?_)
  · have h := me_in c1 h
    refine me_iconst X dX12_print_19 ic_0 ?_
    exact hj20_1 0 (me_s M 63 0 0) h
  · have h := me_ip c1 h
    refine me_iconst X dX12_print_15 ic_1 ?_
    refine me_goto X 20 (by decide) dX12_print_16 ?_
    exact hj20_1 1 (me_s M 63 0 0) h
