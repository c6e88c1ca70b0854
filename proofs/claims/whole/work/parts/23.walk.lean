def mX12_narrows_63_J109 (p0 : Int32) (p1 : Int32) (p2 : Int32) (x5_1 : Int32) (x4_2 : Int32) (M3 : me_M) : Option ((Int32 × Int32 × me_M) ⊕ (Int32 × me_M)) :=
  some (.inl (x4_2, (x5_1 + 1), M3))
def mX12_narrows_63_J61 (p0 : Int32) (p1 : Int32) (p2 : Int32) (x4_1 : Int32) (x5_1 : Int32) (s1 : Int32) (M1 : me_M) (s2 : Int32) : Option ((Int32 × Int32 × me_M) ⊕ (Int32 × me_M)) :=
  (if s2 < 0 then (mX12_narrows_63_J109 p0 p1 p2 x5_1 x4_1 M1) else (if (M1.1 63 5) ≤ s2 then (mX12_narrows_63_J109 p0 p1 p2 x5_1 x4_1 M1) else ((me_r M1 67 241 s2).bind fun v4 => (if v4 = p2 then ((me_a 25 158 (p0 + 1)).bind fun a2 => ((me_t M1 a2 241 x4_1 s1).bind fun M2 => (mX12_narrows_63_J109 p0 p1 p2 x5_1 (x4_1 + 1) M2))) else (mX12_narrows_63_J109 p0 p1 p2 x5_1 x4_1 M1)))))
def mX12_narrows_63_J41 (p0 : Int32) (p1 : Int32) (p2 : Int32) (x4_1 : Int32) (x5_1 : Int32) (v1 : Int32) (M1 : me_M) (s1 : Int32) : Option ((Int32 × Int32 × me_M) ⊕ (Int32 × me_M)) :=
  ((me_r M1 84 24 p0).bind fun v3 => (if v3 = 0 then (mX12_narrows_63_J61 p0 p1 p2 x4_1 x5_1 s1 M1 s1) else (mX12_narrows_63_J61 p0 p1 p2 x4_1 x5_1 s1 M1 (v1 + p0))))
def mX12_narrows_63_L6 (p0 : Int32) (p1 : Int32) (p2 : Int32) : (Int32 × Int32 × me_M) → Option ((Int32 × Int32 × me_M) ⊕ (Int32 × me_M))
  | (x4_1, x5_1, M1) => (if p1 ≤ x5_1 then some (.inr (x4_1, M1)) else ((me_a 25 158 p0).bind fun a1 => ((me_r M1 a1 241 x5_1).bind fun v1 => ((me_r M1 84 24 p0).bind fun v2 => (if v2 = 0 then (mX12_narrows_63_J41 p0 p1 p2 x4_1 x5_1 v1 M1 (v1 - 1)) else (mX12_narrows_63_J41 p0 p1 p2 x4_1 x5_1 v1 M1 v1))))))
def mX12_narrows_63 (M : me_M) (p0 : Int32) (p1 : Int32) (p2 : Int32) : Option (Int32 × me_M) :=
  ((me_l (mX12_narrows_63_L6 p0 p1 p2) me_fu (0, 0, M)).bind fun (y4_1, M4) => some (y4_1, M4))
set_option maxRecDepth 100000 in
set_option maxHeartbeats 4000000 in
theorem ctX12_narrows_63 {l : Launch} {n nt : Nat} (hn : 424 ≤ n) (hnt : 4 ≤ nt) {M : me_M} {p0 : Int32} {p1 : Int32} {p2 : Int32} {r : Int32} {M' : me_M} (h : mX12_narrows_63 M p0 p1 p2 = some (r, M')) : me_Ct l yX12_narrows cX12_narrows 9 (some .int) 0 n nt (fun ad => [.ref (ad 63), .int p0, .int p1, .int p2]) M (fun _ => some (.int r)) M' := by
  unfold mX12_narrows_63 at h
  refine me_enter (N0 := 424) RX12 rfl (plainFor_of_name pl_RX12) hn (Nat.le_trans (by decide) hnt) (fun _ => Nat.le_of_ble_eq_true rfl) ?_
  intro p e R s m args below meth c D cA ad tys A X hr hlk
  refine me_sub (L' := [(0, .ref (ad 63)), (1, .int p0), (2, .int p1), (3, .int p2)]) [0, 1, 2, 3] rfl ?_
  refine me_iconst X dX12_narrows_0 ic_0 ?_
  refine me_istore X (i := 4) [(4, .int 0), (0, .ref (ad 63)), (1, .int p0), (2, .int p1), (3, .int p2)] (Nat.le_of_ble_eq_true rfl) rfl dX12_narrows_1 ?_
  refine me_iconst X dX12_narrows_3 ic_0 ?_
  refine me_istore X (i := 5) [(5, .int 0), (4, .int 0), (0, .ref (ad 63)), (1, .int p0), (2, .int p1), (3, .int p2)] (Nat.le_of_ble_eq_true rfl) rfl dX12_narrows_4 ?_
  obtain ⟨⟨y4_1, M4⟩, hq1, h⟩ := me_bd h
  have hx1 : me_W p l e R s m args below meth c 0 0 (MQ below (me_Qc D cA ad n A (some (.int r)) M') args s 0 0 A) D cA ad n 9 A 115 [(4, .int y4_1)] [] M4 := by
    refine me_iload X (i := 4) 0 rfl dX12_narrows_115 ?_
    obtain ⟨rfl, rfl⟩ := me_sp h
    exact me_iret X hr hlk dX12_narrows_117
  refine me_sub (L' := [(0, .ref (ad 63)), (1, .int p0), (2, .int p1), (3, .int p2), (4, .int 0), (5, .int 0)]) [2, 3, 4, 5, 1, 0] rfl ?_
  refine me_l_W (b := (mX12_narrows_63_L6 p0 p1 p2)) (P := fun w => me_W p l e R s m args below meth c 0 0 (MQ below (me_Qc D cA ad n A (some (.int r)) M') args s 0 0 A) D cA ad n 9 A 6 [(0, .ref (ad 63)), (1, .int p0), (2, .int p1), (3, .int p2), (4, .int w.1), (5, .int w.2.1)] [] w.2.2) (r := (y4_1, M4)) ?_ me_fu (0, 0, M) hq1
  rintro ⟨x4_1, x5_1, M1⟩ z1 h hb1 - hr1
  unfold mX12_narrows_63_L6 at h
  refine me_iload X (i := 5) 5 rfl dX12_narrows_6 ?_
  refine me_iload_n X (i := 2) 2 rfl dX12_narrows_8 ?_
  refine me_icmp_ge X 115 (by decide) dX12_narrows_9 (fun c1 => ?_) (fun c1 => ?_)
  · have h := me_ip c1 h
    obtain rfl := me_so h
    have q := hr1 _ rfl
    refine me_sub (L' := [(4, .int x4_1)]) [4] rfl ?_
    cases q
    exact hx1
  · have h := me_in c1 h
    refine me_aload_n X (i := 0) 0 rfl dX12_narrows_12 ?_
    refine me_getr X 157 kF_X12_87 (Nat.le_of_ble_eq_true rfl) me_k63 me_f63_34 dX12_narrows_13 ?_
    refine me_iload_n X (i := 1) 1 rfl dX12_narrows_16 ?_
    obtain ⟨a1, e1, h⟩ := me_bd h
    have f_a1 := me_f158 e1
    refine me_aald X (Nat.le_of_ble_eq_true rfl) ⟨by decide, by decide, Nat.lt_of_lt_of_le (by decide) hnt⟩ me_k157 e1 dX12_narrows_17 ?_
    refine me_iload X (i := 5) 5 rfl dX12_narrows_18 ?_
    obtain ⟨v1, e2, h⟩ := me_bd h
    refine me_iald X f_a1.2 f_a1.1 e2 dX12_narrows_20 ?_
    refine me_istore X (i := 6) [(6, .int v1), (0, .ref (ad 63)), (1, .int p0), (2, .int p1), (3, .int p2), (4, .int x4_1), (5, .int x5_1)] (Nat.le_of_ble_eq_true rfl) rfl dX12_narrows_21 ?_
    refine me_aload_n X (i := 0) 1 rfl dX12_narrows_23 ?_
    refine me_getr X 84 kF_X12_78 (Nat.le_of_ble_eq_true rfl) me_k63 me_f63_31 dX12_narrows_24 ?_
    refine me_iload_n X (i := 1) 2 rfl dX12_narrows_27 ?_
    obtain ⟨v2, e3, h⟩ := me_bd h
    refine me_iald X (Nat.le_of_ble_eq_true rfl) me_k84 e3 dX12_narrows_28 ?_
    have hj41_1 : ∀ (s1 : Int32), mX12_narrows_63_J41 p0 p1 p2 x4_1 x5_1 v1 M1 s1 = some z1 → me_W p l e R s m args below meth c 0 0 (MQ below (me_Qc D cA ad n A (some (.int r)) M') args s 0 0 A) D cA ad n 9 A 41 [(0, .ref (ad 63)), (1, .int p0), (2, .int p1), (3, .int p2), (4, .int x4_1), (5, .int x5_1), (6, .int v1)] [.int s1] M1 := by
      intro s1 h
      unfold mX12_narrows_63_J41 at h
      refine me_istore X (i := 7) [(7, .int s1), (0, .ref (ad 63)), (1, .int p0), (2, .int p1), (3, .int p2), (4, .int x4_1), (5, .int x5_1), (6, .int v1)] (Nat.le_of_ble_eq_true rfl) rfl dX12_narrows_41 ?_
      refine me_aload_n X (i := 0) 1 rfl dX12_narrows_43 ?_
      refine me_getr X 84 kF_X12_78 (Nat.le_of_ble_eq_true rfl) me_k63 me_f63_31 dX12_narrows_44 ?_
      refine me_iload_n X (i := 1) 2 rfl dX12_narrows_47 ?_
      obtain ⟨v3, e4, h⟩ := me_bd h
      refine me_iald X (Nat.le_of_ble_eq_true rfl) me_k84 e4 dX12_narrows_48 ?_
      have hj61_2 : ∀ (s2 : Int32), mX12_narrows_63_J61 p0 p1 p2 x4_1 x5_1 s1 M1 s2 = some z1 → me_W p l e R s m args below meth c 0 0 (MQ below (me_Qc D cA ad n A (some (.int r)) M') args s 0 0 A) D cA ad n 9 A 61 [(0, .ref (ad 63)), (1, .int p0), (2, .int p1), (3, .int p2), (4, .int x4_1), (5, .int x5_1), (7, .int s1)] [.int s2] M1 := by
        intro s2 h
        unfold mX12_narrows_63_J61 at h
        refine me_istore X (i := 8) [(8, .int s2), (0, .ref (ad 63)), (1, .int p0), (2, .int p1), (3, .int p2), (4, .int x4_1), (5, .int x5_1), (7, .int s1)] (Nat.le_of_ble_eq_true rfl) rfl dX12_narrows_61 ?_
        refine me_iload X (i := 8) 0 rfl dX12_narrows_63 ?_
        have hj109_3 : ∀ (x4_2 : Int32) (M3 : me_M), mX12_narrows_63_J109 p0 p1 p2 x5_1 x4_2 M3 = some z1 → me_W p l e R s m args below meth c 0 0 (MQ below (me_Qc D cA ad n A (some (.int r)) M') args s 0 0 A) D cA ad n 9 A 109 [(0, .ref (ad 63)), (1, .int p0), (2, .int p1), (3, .int p2), (4, .int x4_2), (5, .int x5_1)] [] M3 := by
          intro x4_2 M3 h
          unfold mX12_narrows_63_J109 at h
          refine me_iinc X (v := (x5_1 + 1)) 5 rfl (in_1 _) [(5, .int (x5_1 + 1)), (0, .ref (ad 63)), (1, .int p0), (2, .int p1), (3, .int p2), (4, .int x4_2)] (Nat.le_of_ble_eq_true rfl) rfl dX12_narrows_109 ?_
          refine me_goto X 6 (by decide) dX12_narrows_112 ?_
          obtain rfl := me_so h
          refine me_sub (L' := [(0, .ref (ad 63)), (1, .int p0), (2, .int p1), (3, .int p2), (4, .int x4_2), (5, .int (x5_1 + 1))]) [1, 2, 3, 4, 5, 0] rfl ?_
          exact hb1 (x4_2, (x5_1 + 1), M3) rfl
        refine me_if_lt X 109 (by decide) dX12_narrows_65 (fun c4 => ?_) (fun c4 => ?_)
        · have h := me_ip c4 h
          refine me_sub (L' := [(0, .ref (ad 63)), (1, .int p0), (2, .int p1), (3, .int p2), (4, .int x4_1), (5, .int x5_1)]) [1, 2, 3, 4, 5, 6] rfl ?_
          exact hj109_3 x4_1 M1 h
        · have h := me_in c4 h
          refine me_iload X (i := 8) 0 rfl dX12_narrows_68 ?_
          refine me_aload_n X (i := 0) 1 rfl dX12_narrows_70 ?_
          refine me_geti X kF_X12_20 (Nat.le_of_ble_eq_true rfl) me_k63 me_f63_5 dX12_narrows_71 ?_
          refine me_icmp_ge X 109 (by decide) dX12_narrows_74 (fun c5 => ?_) (fun c5 => ?_)
          · have h := me_ip c5 h
            refine me_sub (L' := [(0, .ref (ad 63)), (1, .int p0), (2, .int p1), (3, .int p2), (4, .int x4_1), (5, .int x5_1)]) [1, 2, 3, 4, 5, 6] rfl ?_
            exact hj109_3 x4_1 M1 h
          · have h := me_in c5 h
            refine me_aload_n X (i := 0) 1 rfl dX12_narrows_77 ?_
            refine me_getr X 66 kF_X12_28 (Nat.le_of_ble_eq_true rfl) me_k63 me_f63_7 dX12_narrows_78 ?_
            refine me_iconst X dX12_narrows_81 ic_0 ?_
            refine me_aald X (j := 67) (Nat.le_of_ble_eq_true rfl) ⟨by decide, by decide, Nat.lt_of_lt_of_le (by decide) hnt⟩ me_k66 (by decide) dX12_narrows_82 ?_
            refine me_iload X (i := 8) 0 rfl dX12_narrows_83 ?_
            obtain ⟨v4, e5, h⟩ := me_bd h
            refine me_iald X (Nat.le_of_ble_eq_true rfl) me_k67 e5 dX12_narrows_85 ?_
            refine me_iload_n X (i := 3) 4 rfl dX12_narrows_86 ?_
            refine me_icmp_eq X 93 (by decide) dX12_narrows_87 (fun c6 => ?_) (fun c6 => ?_)
            · have h := me_ip c6 h
              refine me_aload_n X (i := 0) 1 rfl dX12_narrows_93 ?_
              refine me_getr X 157 kF_X12_87 (Nat.le_of_ble_eq_true rfl) me_k63 me_f63_34 dX12_narrows_94 ?_
              refine me_iload_n X (i := 1) 2 rfl dX12_narrows_97 ?_
              refine me_iconst X dX12_narrows_98 ic_1 ?_
              refine me_iadd X dX12_narrows_99 ?_
              obtain ⟨a2, e6, h⟩ := me_bd h
              have f_a2 := me_f158 e6
              refine me_aald X (Nat.le_of_ble_eq_true rfl) ⟨by decide, by decide, Nat.lt_of_lt_of_le (by decide) hnt⟩ me_k157 e6 dX12_narrows_100 ?_
              refine me_iload X (i := 4) 5 rfl dX12_narrows_101 ?_
              refine me_iload X (i := 7) 7 rfl dX12_narrows_103 ?_
              obtain ⟨M2, e7, h⟩ := me_bd h
              refine me_iast X f_a2.2 f_a2.1 e7 dX12_narrows_105 ?_
              refine me_iinc X (v := (x4_1 + 1)) 5 rfl (in_1 _) [(4, .int (x4_1 + 1)), (8, .int s2), (0, .ref (ad 63)), (1, .int p0), (2, .int p1), (3, .int p2), (5, .int x5_1), (7, .int s1)] (Nat.le_of_ble_eq_true rfl) rfl dX12_narrows_106 ?_
              refine me_sub (L' := [(0, .ref (ad 63)), (1, .int p0), (2, .int p1), (3, .int p2), (4, .int (x4_1 + 1)), (5, .int x5_1)]) [2, 3, 4, 5, 0, 6] rfl ?_
              exact hj109_3 (x4_1 + 1) M2 h
            · have h := me_in c6 h
              refine me_goto X 109 (by decide) dX12_narrows_90 ?_
              refine me_sub (L' := [(0, .ref (ad 63)), (1, .int p0), (2, .int p1), (3, .int p2), (4, .int x4_1), (5, .int x5_1)]) [1, 2, 3, 4, 5, 6] rfl ?_
              exact hj109_3 x4_1 M1 h
      refine me_if_ne X 57 (by decide) dX12_narrows_49 (fun c3 => ?_) (fun c3 => ?_)
      · have h := me_in c3 h
        refine me_iload X (i := 6) 7 rfl dX12_narrows_57 ?_
        refine me_iload_n X (i := 1) 2 rfl dX12_narrows_59 ?_
        refine me_iadd X dX12_narrows_60 ?_
        refine me_sub (L' := [(0, .ref (ad 63)), (1, .int p0), (2, .int p1), (3, .int p2), (4, .int x4_1), (5, .int x5_1), (7, .int s1)]) [1, 2, 3, 4, 5, 6, 0] rfl ?_
        exact hj61_2 (v1 + p0) h
      · have h := me_ip c3 h
        refine me_iload X (i := 7) 0 rfl dX12_narrows_52 ?_
        refine me_goto X 61 (by decide) dX12_narrows_54 ?_
        refine me_sub (L' := [(0, .ref (ad 63)), (1, .int p0), (2, .int p1), (3, .int p2), (4, .int x4_1), (5, .int x5_1), (7, .int s1)]) [1, 2, 3, 4, 5, 6, 0] rfl ?_
        exact hj61_2 s1 h
    refine me_if_ne X 39 (by decide) dX12_narrows_29 (fun c2 => ?_) (fun c2 => ?_)
    · have h := me_in c2 h
      refine me_iload X (i := 6) 0 rfl dX12_narrows_39 ?_
      refine me_sub (L' := [(0, .ref (ad 63)), (1, .int p0), (2, .int p1), (3, .int p2), (4, .int x4_1), (5, .int x5_1), (6, .int v1)]) [1, 2, 3, 4, 5, 6, 0] rfl ?_
      exact hj41_1 v1 h
    · have h := me_ip c2 h
      refine me_iload X (i := 6) 0 rfl dX12_narrows_32 ?_
      refine me_iconst X dX12_narrows_34 ic_1 ?_
      refine me_isub X dX12_narrows_35 ?_
      refine me_goto X 41 (by decide) dX12_narrows_36 ?_
      refine me_sub (L' := [(0, .ref (ad 63)), (1, .int p0), (2, .int p1), (3, .int p2), (4, .int x4_1), (5, .int x5_1), (6, .int v1)]) [1, 2, 3, 4, 5, 6, 0] rfl ?_
      exact hj41_1 (v1 - 1) h
def mX12_goes_63_J245 (rec : me_M → Int32 → Int32 → Int32 → Int32 → Option me_M) (p0 : Int32) (p1 : Int32) (p2 : Int32) (p3 : Int32) (v1 : Int32) (x6_1 : Int32) (M5 : me_M) : Option ((Int32 × me_M) ⊕ (me_M)) :=
  some (.inl ((x6_1 + 1), M5))
def mX12_goes_63_J218 (rec : me_M → Int32 → Int32 → Int32 → Int32 → Option me_M) (p0 : Int32) (p1 : Int32) (p2 : Int32) (p3 : Int32) (v1 : Int32) (x6_1 : Int32) (x7_1 : Int32) (M2 : me_M) : Option ((Int32 × me_M) ⊕ (me_M)) :=
  ((mX12_narrows_63 M2 p1 p2 x6_1).bind fun (v8, M3) => (if v8 ≤ 0 then (mX12_goes_63_J245 rec p0 p1 p2 p3 v1 x6_1 M3) else ((rec M3 p0 (p1 + 1) v8 x7_1).bind fun M4 => (mX12_goes_63_J245 rec p0 p1 p2 p3 v1 x6_1 M4))))
def mX12_goes_63_J153 (rec : me_M → Int32 → Int32 → Int32 → Int32 → Option me_M) (p0 : Int32) (p1 : Int32) (p2 : Int32) (p3 : Int32) (v1 : Int32) (x6_1 : Int32) (M1 : me_M) (s1 : Int32) : Option ((Int32 × me_M) ⊕ (me_M)) :=
  ((me_a 8 93 p0).bind fun a1 => ((me_a 3 (109 + 3 * (a1 - 93)) 2).bind fun a2 => ((me_r M1 a2 5 v1).bind fun v5 => (if (p3 + s1) ≤ v5 then ((me_r (me_s M1 63 35 ((M1.1 63 35) + 1)) 86 24 p1).bind fun v6 => (if v6 = 1 then ((me_a 8 93 p0).bind fun a3 => ((me_a 3 (109 + 3 * (a3 - 93)) 1).bind fun a4 => ((me_r (me_s M1 63 35 ((M1.1 63 35) + 1)) a4 5 v1).bind fun v7 => (if v7 ≤ (p3 + s1) then (mX12_goes_63_J218 rec p0 p1 p2 p3 v1 x6_1 (p3 + s1) (me_s M1 63 35 ((M1.1 63 35) + 1))) else (mX12_goes_63_J245 rec p0 p1 p2 p3 v1 x6_1 (me_s M1 63 35 ((M1.1 63 35) + 1))))))) else (mX12_goes_63_J218 rec p0 p1 p2 p3 v1 x6_1 (p3 + s1) (me_s M1 63 35 ((M1.1 63 35) + 1))))) else (mX12_goes_63_J245 rec p0 p1 p2 p3 v1 x6_1 M1)))))
def mX12_goes_63_L111 (rec : me_M → Int32 → Int32 → Int32 → Int32 → Option me_M) (p0 : Int32) (p1 : Int32) (p2 : Int32) (p3 : Int32) (v1 : Int32) : (Int32 × me_M) → Option ((Int32 × me_M) ⊕ (me_M))
  | (x6_1, M1) => (if 10 ≤ x6_1 then some (.inr M1) else ((mX12_hasLetter_63 M1 x6_1).bind fun v2 => (if v2 = 0 then (mX12_goes_63_J245 rec p0 p1 p2 p3 v1 x6_1 M1) else ((me_r M1 83 24 p1).bind fun v3 => ((me_r M1 81 24 v3).bind fun v4 => (if x6_1 = v4 then (mX12_goes_63_J153 rec p0 p1 p2 p3 v1 x6_1 M1 0) else (mX12_goes_63_J153 rec p0 p1 p2 p3 v1 x6_1 M1 1)))))))
def mX12_goes_63_J93 (rec : me_M → Int32 → Int32 → Int32 → Int32 → Option me_M) (p1 : Int32) (p2 : Int32) (p3 : Int32) (x5_1 : Int32) (M11 : me_M) : Option ((Int32 × me_M) ⊕ (me_M)) :=
  some (.inl ((x5_1 + 1), M11))
def mX12_goes_63_J81 (rec : me_M → Int32 → Int32 → Int32 → Int32 → Option me_M) (p1 : Int32) (p2 : Int32) (p3 : Int32) (x5_1 : Int32) (v10 : Int32) (s2 : Int32) (M8 : me_M) : Option ((Int32 × me_M) ⊕ (me_M)) :=
  ((me_t M8 80 241 v10 s2).bind fun M9 => ((me_r M9 79 241 v10).bind fun v14 => ((me_t M9 79 241 v10 (v14 + 1)).bind fun M10 => (mX12_goes_63_J93 rec p1 p2 p3 x5_1 M10))))
def mX12_goes_63_L11 (rec : me_M → Int32 → Int32 → Int32 → Int32 → Option me_M) (p1 : Int32) (p2 : Int32) (p3 : Int32) : (Int32 × me_M) → Option ((Int32 × me_M) ⊕ (me_M))
  | (x5_1, M7) => (if p2 ≤ x5_1 then some (.inr M7) else ((me_a 25 158 p1).bind fun a5 => ((me_r M7 a5 241 x5_1).bind fun v10 => (if ((me_s M7 63 36 ((M7.1 63 36) + 1)).1 63 37) = 0 then ((me_r (me_s M7 63 36 ((M7.1 63 36) + 1)) 79 241 v10).bind fun v11 => (if v11 = 0 then (mX12_goes_63_J81 rec p1 p2 p3 x5_1 v10 p3 (me_s M7 63 36 ((M7.1 63 36) + 1))) else ((me_r (me_s M7 63 36 ((M7.1 63 36) + 1)) 80 241 v10).bind fun v12 => ((mX12_less v12 p3).bind fun v13 => (mX12_goes_63_J81 rec p1 p2 p3 x5_1 v10 v13 (me_s M7 63 36 ((M7.1 63 36) + 1))))))) else (mX12_goes_63_J93 rec p1 p2 p3 x5_1 (me_s M7 63 36 ((M7.1 63 36) + 1)))))))
def mX12_goes_63_b (rec : me_M → Int32 → Int32 → Int32 → Int32 → Option me_M) (M : me_M) (p0 : Int32) (p1 : Int32) (p2 : Int32) (p3 : Int32) : Option me_M :=
  (if p1 = (M.1 63 20) then ((me_l (mX12_goes_63_L11 rec p1 p2 p3) me_fu (0, M)).bind fun M12 => some M12) else ((me_r M 85 24 p1).bind fun v1 => ((me_l (mX12_goes_63_L111 rec p0 p1 p2 p3 v1) me_fu (2, M)).bind fun M6 => some M6)))
def mX12_goes_63 : Nat → me_M → Int32 → Int32 → Int32 → Int32 → Option me_M
  | 0, _, _, _, _, _ => none
  | d + 1, M, p0, p1, p2, p3 => mX12_goes_63_b (mX12_goes_63 d) M p0 p1 p2 p3
set_option maxRecDepth 100000 in
set_option maxHeartbeats 4000000 in
theorem ctX12_goes_63 {l : Launch} {n nt : Nat} (hn : 424 ≤ n) (hnt : 4 ≤ nt) : ∀ (d : Nat) (M : me_M) (p0 : Int32) (p1 : Int32) (p2 : Int32) (p3 : Int32) (M' : me_M), mX12_goes_63 d M p0 p1 p2 p3 = some M' → me_Ct l yX12_goes cX12_goes 9 none (1 + d) n nt (fun ad => [.ref (ad 63), .int p0, .int p1, .int p2, .int p3]) M (fun _ => none) M' := by
  intro d
  induction d with
  | zero => intro M p0 p1 p2 p3 M' h; have h : (none : Option me_M) = some M' := h; cases h
  | succ d ih =>
    intro M p0 p1 p2 p3 M' h
    have h : mX12_goes_63_b (mX12_goes_63 d) M p0 p1 p2 p3 = some M' := h
    unfold mX12_goes_63_b at h
    refine me_enter (N0 := 424) RX12 rfl (plainFor_of_name pl_RX12) hn (Nat.le_trans (by decide) hnt) (fun _ => Nat.le_of_ble_eq_true rfl) ?_
    intro p e R s m args below meth c D cA ad tys A X hr hlk
    refine me_sub (L' := [(0, .ref (ad 63)), (1, .int p0), (2, .int p1), (3, .int p2), (4, .int p3)]) [0, 1, 2, 3, 4] rfl ?_
    refine me_iload_n X (i := 2) 2 rfl dX12_goes_0 ?_
    refine me_aload_n X (i := 0) 0 rfl dX12_goes_1 ?_
    refine me_geti X kF_X12_263 (Nat.le_of_ble_eq_true rfl) me_k63 me_f63_20 dX12_goes_2 ?_
    refine me_icmp_ne X 100 (by decide) dX12_goes_5 (fun c1 => ?_) (fun c1 => ?_)
    · have h := me_in c1 h
      refine me_aload_n X (i := 0) 0 rfl dX12_goes_100 ?_
      refine me_getr X 85 kF_X12_81 (Nat.le_of_ble_eq_true rfl) me_k63 me_f63_32 dX12_goes_101 ?_
      refine me_iload_n X (i := 2) 2 rfl dX12_goes_104 ?_
      obtain ⟨v1, e1, h⟩ := me_bd h
      refine me_iald X (Nat.le_of_ble_eq_true rfl) me_k85 e1 dX12_goes_105 ?_
      refine me_istore X (i := 5) [(5, .int v1), (0, .ref (ad 63)), (1, .int p0), (2, .int p1), (3, .int p2), (4, .int p3)] (Nat.le_of_ble_eq_true rfl) rfl dX12_goes_106 ?_
      refine me_iconst X dX12_goes_108 ic_2 ?_
      refine me_istore X (i := 6) [(6, .int 2), (5, .int v1), (0, .ref (ad 63)), (1, .int p0), (2, .int p1), (3, .int p2), (4, .int p3)] (Nat.le_of_ble_eq_true rfl) rfl dX12_goes_109 ?_
      obtain ⟨M6, hq1, h⟩ := me_bd h
      have hx1 : me_W p l e R s m args below meth c 0 0 (MQ below (me_Qc D cA ad n A none M') args s 0 0 A) D cA ad n 9 A 251 [] [] M6 := by
        obtain rfl := me_so h
        exact me_vret X hr hlk dX12_goes_251
      refine me_sub (L' := [(0, .ref (ad 63)), (1, .int p0), (2, .int p1), (3, .int p2), (4, .int p3), (5, .int v1), (6, .int 2)]) [2, 3, 4, 5, 6, 1, 0] rfl ?_
      refine me_l_W (b := (mX12_goes_63_L111 (mX12_goes_63 d) p0 p1 p2 p3 v1)) (P := fun w => me_W p l e R s m args below meth c 0 0 (MQ below (me_Qc D cA ad n A none M') args s 0 0 A) D cA ad n 9 A 111 [(0, .ref (ad 63)), (1, .int p0), (2, .int p1), (3, .int p2), (4, .int p3), (5, .int v1), (6, .int w.1)] [] w.2) (r := M6) ?_ me_fu (2, M) hq1
      rintro ⟨x6_1, M1⟩ z1 h hb1 - hr1
      unfold mX12_goes_63_L111 at h
      refine me_iload X (i := 6) 6 rfl dX12_goes_111 ?_
      refine me_bipush X dX12_goes_113 ib_10 ?_
      refine me_icmp_ge X 251 (by decide) dX12_goes_115 (fun c2 => ?_) (fun c2 => ?_)
      · have h := me_ip c2 h
        obtain rfl := me_so h
        have q := hr1 _ rfl
        refine me_sub (L' := []) [] rfl ?_
        cases q
        exact hx1
      · have h := me_in c2 h
        refine me_aload_n X (i := 0) 0 rfl dX12_goes_118 ?_
        refine me_iload X (i := 6) 6 rfl dX12_goes_119 ?_
        obtain ⟨v2, e2, h⟩ := me_bd h
        refine me_callVi X [.int x6_1] (ctX12_hasLetter_63 hn (Nat.le_trans (by decide) hnt) e2) kV_X12_199 rfl rfl (Nat.le_of_ble_eq_true rfl) me_k63 (by omega) (Nat.le_refl _) (Nat.le_of_ble_eq_true rfl) dX12_goes_121 ?_
        have hj245_1 : ∀ (M5 : me_M), mX12_goes_63_J245 (mX12_goes_63 d) p0 p1 p2 p3 v1 x6_1 M5 = some z1 → me_W p l e R s m args below meth c 0 0 (MQ below (me_Qc D cA ad n A none M') args s 0 0 A) D cA ad n 9 A 245 [(0, .ref (ad 63)), (1, .int p0), (2, .int p1), (3, .int p2), (4, .int p3), (5, .int v1), (6, .int x6_1)] [] M5 := by
          intro M5 h
          unfold mX12_goes_63_J245 at h
          refine me_iinc X (v := (x6_1 + 1)) 6 rfl (in_1 _) [(6, .int (x6_1 + 1)), (0, .ref (ad 63)), (1, .int p0), (2, .int p1), (3, .int p2), (4, .int p3), (5, .int v1)] (Nat.le_of_ble_eq_true rfl) rfl dX12_goes_245 ?_
          refine me_goto X 111 (by decide) dX12_goes_248 ?_
          obtain rfl := me_so h
          refine me_sub (L' := [(0, .ref (ad 63)), (1, .int p0), (2, .int p1), (3, .int p2), (4, .int p3), (5, .int v1), (6, .int (x6_1 + 1))]) [1, 2, 3, 4, 5, 6, 0] rfl ?_
          exact hb1 ((x6_1 + 1), M5) rfl
        refine me_if_ne X 130 (by decide) dX12_goes_124 (fun c3 => ?_) (fun c3 => ?_)
        · have h := me_in c3 h
          refine me_iload X (i := 4) 4 rfl dX12_goes_130 ?_
          refine me_iload X (i := 6) 6 rfl dX12_goes_132 ?_
          refine me_aload_n X (i := 0) 0 rfl dX12_goes_134 ?_
          refine me_getr X 81 kF_X12_66 (Nat.le_of_ble_eq_true rfl) me_k63 me_f63_23 dX12_goes_135 ?_
          refine me_aload_n X (i := 0) 0 rfl dX12_goes_138 ?_
          refine me_getr X 83 kF_X12_75 (Nat.le_of_ble_eq_true rfl) me_k63 me_f63_30 dX12_goes_139 ?_
          refine me_iload_n X (i := 2) 2 rfl dX12_goes_142 ?_
          obtain ⟨v3, e3, h⟩ := me_bd h
          refine me_iald X (Nat.le_of_ble_eq_true rfl) me_k83 e3 dX12_goes_143 ?_
          obtain ⟨v4, e4, h⟩ := me_bd h
          refine me_iald X (Nat.le_of_ble_eq_true rfl) me_k81 e4 dX12_goes_144 ?_
          have hj153_2 : ∀ (s1 : Int32), mX12_goes_63_J153 (mX12_goes_63 d) p0 p1 p2 p3 v1 x6_1 M1 s1 = some z1 → me_W p l e R s m args below meth c 0 0 (MQ below (me_Qc D cA ad n A none M') args s 0 0 A) D cA ad n 9 A 153 [(0, .ref (ad 63)), (1, .int p0), (2, .int p1), (3, .int p2), (4, .int p3), (5, .int v1), (6, .int x6_1)] [.int s1, .int p3] M1 := by
            intro s1 h
            unfold mX12_goes_63_J153 at h
            refine me_iadd X dX12_goes_153 ?_
            refine me_istore X (i := 7) [(7, .int (p3 + s1)), (0, .ref (ad 63)), (1, .int p0), (2, .int p1), (3, .int p2), (4, .int p3), (5, .int v1), (6, .int x6_1)] (Nat.le_of_ble_eq_true rfl) rfl dX12_goes_154 ?_
            refine me_iload X (i := 7) 0 rfl dX12_goes_156 ?_
            refine me_aload_n X (i := 0) 1 rfl dX12_goes_158 ?_
            refine me_getr X 90 kF_X12_57 (Nat.le_of_ble_eq_true rfl) me_k63 me_f63_16 dX12_goes_159 ?_
            refine me_iconst X dX12_goes_162 ic_0 ?_
            refine me_aald X (j := 91) (Nat.le_of_ble_eq_true rfl) ⟨by decide, by decide, Nat.lt_of_lt_of_le (by decide) hnt⟩ me_k90 (by decide) dX12_goes_163 ?_
            refine me_iload_n X (i := 1) 2 rfl dX12_goes_164 ?_
            obtain ⟨a1, e5, h⟩ := me_bd h
            have f_a1 := me_f93 e5
            refine me_aald X (Nat.le_of_ble_eq_true rfl) ⟨by decide, by decide, Nat.lt_of_lt_of_le (by decide) hnt⟩ me_k91 e5 dX12_goes_165 ?_
            refine me_iconst X dX12_goes_166 ic_2 ?_
            obtain ⟨a2, e6, h⟩ := me_bd h
            have f_a2 := me_fdig f_a1 e6
            refine me_aald X f_a1.2.1 ⟨by decide, by decide, Nat.lt_of_lt_of_le (by decide) hnt⟩ f_a1.1 e6 dX12_goes_167 ?_
            refine me_iload X (i := 5) 6 rfl dX12_goes_168 ?_
            obtain ⟨v5, e7, h⟩ := me_bd h
            refine me_iald X f_a2.2 f_a2.1 e7 dX12_goes_170 ?_
            refine me_icmp_le X 177 (by decide) dX12_goes_171 (fun c5 => ?_) (fun c5 => ?_)
            · have h := me_ip c5 h
              refine me_aload_n X (i := 0) 1 rfl dX12_goes_177 ?_
              refine me_dup X rfl dX12_goes_178 ?_
              refine me_geti X kF_X12_272 (Nat.le_of_ble_eq_true rfl) me_k63 me_f63_35 dX12_goes_179 ?_
              refine me_iconst X dX12_goes_182 ic_1 ?_
              refine me_iadd X dX12_goes_183 ?_
              refine me_puti X kG_X12_272 (Nat.le_of_ble_eq_true rfl) me_k63 me_f63_35 dX12_goes_184 ?_
              refine me_aload_n X (i := 0) 1 rfl dX12_goes_187 ?_
              refine me_getr X 86 kF_X12_84 (Nat.le_of_ble_eq_true rfl) me_k63 me_f63_33 dX12_goes_188 ?_
              refine me_iload_n X (i := 2) 3 rfl dX12_goes_191 ?_
              obtain ⟨v6, e8, h⟩ := me_bd h
              refine me_iald X (Nat.le_of_ble_eq_true rfl) me_k86 e8 dX12_goes_192 ?_
              refine me_iconst X dX12_goes_193 ic_1 ?_
              have hj218_3 : ∀ (x7_1 : Int32) (M2 : me_M), mX12_goes_63_J218 (mX12_goes_63 d) p0 p1 p2 p3 v1 x6_1 x7_1 M2 = some z1 → me_W p l e R s m args below meth c 0 0 (MQ below (me_Qc D cA ad n A none M') args s 0 0 A) D cA ad n 9 A 218 [(0, .ref (ad 63)), (1, .int p0), (2, .int p1), (3, .int p2), (4, .int p3), (5, .int v1), (6, .int x6_1), (7, .int x7_1)] [] M2 := by
                intro x7_1 M2 h
                unfold mX12_goes_63_J218 at h
                refine me_aload_n X (i := 0) 0 rfl dX12_goes_218 ?_
                refine me_iload_n X (i := 2) 2 rfl dX12_goes_219 ?_
                refine me_iload_n X (i := 3) 3 rfl dX12_goes_220 ?_
                refine me_iload X (i := 6) 6 rfl dX12_goes_221 ?_
                obtain ⟨⟨v8, M3⟩, e12, h⟩ := me_bd h
                refine me_callVi X [.int p1, .int p2, .int x6_1] (ctX12_narrows_63 hn (Nat.le_trans (by decide) hnt) e12) kV_X12_275 rfl rfl (Nat.le_of_ble_eq_true rfl) me_k63 (by omega) (Nat.le_refl _) (Nat.le_of_ble_eq_true rfl) dX12_goes_223 ?_
                refine me_istore X (i := 8) [(8, .int v8), (0, .ref (ad 63)), (1, .int p0), (2, .int p1), (3, .int p2), (4, .int p3), (5, .int v1), (6, .int x6_1), (7, .int x7_1)] (Nat.le_of_ble_eq_true rfl) rfl dX12_goes_226 ?_
                refine me_iload X (i := 8) 0 rfl dX12_goes_228 ?_
                refine me_if_le X 245 (by decide) dX12_goes_230 (fun c8 => ?_) (fun c8 => ?_)
                · have h := me_ip c8 h
                  refine me_sub (L' := [(0, .ref (ad 63)), (1, .int p0), (2, .int p1), (3, .int p2), (4, .int p3), (5, .int v1), (6, .int x6_1)]) [1, 2, 3, 4, 5, 6, 7] rfl ?_
                  exact hj245_1 M3 h
                · have h := me_in c8 h
                  refine me_aload_n X (i := 0) 1 rfl dX12_goes_233 ?_
                  refine me_iload_n X (i := 1) 2 rfl dX12_goes_234 ?_
                  refine me_iload_n X (i := 2) 3 rfl dX12_goes_235 ?_
                  refine me_iconst X dX12_goes_236 ic_1 ?_
                  refine me_iadd X dX12_goes_237 ?_
                  refine me_iload X (i := 8) 0 rfl dX12_goes_238 ?_
                  refine me_iload X (i := 7) 8 rfl dX12_goes_240 ?_
                  obtain ⟨M4, e13, h⟩ := me_bd h
                  refine me_callVv X [.int p0, .int (p1 + 1), .int v8, .int x7_1] (ih _ _ _ _ _ _ e13) kV_X12_279 rfl rfl (Nat.le_of_ble_eq_true rfl) me_k63 (by omega) (Nat.le_refl _) (Nat.le_of_ble_eq_true rfl) dX12_goes_242 ?_
                  refine me_sub (L' := [(0, .ref (ad 63)), (1, .int p0), (2, .int p1), (3, .int p2), (4, .int p3), (5, .int v1), (6, .int x6_1)]) [1, 2, 3, 4, 5, 6, 7] rfl ?_
                  exact hj245_1 M4 h
              refine me_icmp_ne X 218 (by decide) dX12_goes_194 (fun c6 => ?_) (fun c6 => ?_)
              · have h := me_in c6 h
                refine me_sub (L' := [(0, .ref (ad 63)), (1, .int p0), (2, .int p1), (3, .int p2), (4, .int p3), (5, .int v1), (6, .int x6_1), (7, .int (p3 + s1))]) [1, 2, 3, 4, 5, 6, 7, 0] rfl ?_
                exact hj218_3 (p3 + s1) (me_s M1 63 35 ((M1.1 63 35) + 1)) h
              · have h := me_ip c6 h
                refine me_iload X (i := 7) 0 rfl dX12_goes_197 ?_
                refine me_aload_n X (i := 0) 1 rfl dX12_goes_199 ?_
                refine me_getr X 90 kF_X12_57 (Nat.le_of_ble_eq_true rfl) me_k63 me_f63_16 dX12_goes_200 ?_
                refine me_iconst X dX12_goes_203 ic_0 ?_
                refine me_aald X (j := 91) (Nat.le_of_ble_eq_true rfl) ⟨by decide, by decide, Nat.lt_of_lt_of_le (by decide) hnt⟩ me_k90 (by decide) dX12_goes_204 ?_
                refine me_iload_n X (i := 1) 2 rfl dX12_goes_205 ?_
                obtain ⟨a3, e9, h⟩ := me_bd h
                have f_a3 := me_f93 e9
                refine me_aald X (Nat.le_of_ble_eq_true rfl) ⟨by decide, by decide, Nat.lt_of_lt_of_le (by decide) hnt⟩ me_k91 e9 dX12_goes_206 ?_
                refine me_iconst X dX12_goes_207 ic_1 ?_
                obtain ⟨a4, e10, h⟩ := me_bd h
                have f_a4 := me_fdig f_a3 e10
                refine me_aald X f_a3.2.1 ⟨by decide, by decide, Nat.lt_of_lt_of_le (by decide) hnt⟩ f_a3.1 e10 dX12_goes_208 ?_
                refine me_iload X (i := 5) 6 rfl dX12_goes_209 ?_
                obtain ⟨v7, e11, h⟩ := me_bd h
                refine me_iald X f_a4.2 f_a4.1 e11 dX12_goes_211 ?_
                refine me_icmp_ge X 218 (by decide) dX12_goes_212 (fun c7 => ?_) (fun c7 => ?_)
                · have h := me_ip c7 h
                  refine me_sub (L' := [(0, .ref (ad 63)), (1, .int p0), (2, .int p1), (3, .int p2), (4, .int p3), (5, .int v1), (6, .int x6_1), (7, .int (p3 + s1))]) [1, 2, 3, 4, 5, 6, 7, 0] rfl ?_
                  exact hj218_3 (p3 + s1) (me_s M1 63 35 ((M1.1 63 35) + 1)) h
                · have h := me_in c7 h
                  refine me_goto X 245 (by decide) dX12_goes_215 ?_
                  refine me_sub (L' := [(0, .ref (ad 63)), (1, .int p0), (2, .int p1), (3, .int p2), (4, .int p3), (5, .int v1), (6, .int x6_1)]) [1, 2, 3, 4, 5, 6, 7] rfl ?_
                  exact hj245_1 (me_s M1 63 35 ((M1.1 63 35) + 1)) h
            · have h := me_in c5 h
              refine me_goto X 245 (by decide) dX12_goes_174 ?_
              refine me_sub (L' := [(0, .ref (ad 63)), (1, .int p0), (2, .int p1), (3, .int p2), (4, .int p3), (5, .int v1), (6, .int x6_1)]) [1, 2, 3, 4, 5, 6, 7] rfl ?_
              exact hj245_1 M1 h
          refine me_icmp_ne X 152 (by decide) dX12_goes_145 (fun c4 => ?_) (fun c4 => ?_)
          · have h := me_in c4 h
            refine me_iconst X dX12_goes_152 ic_1 ?_
            exact hj153_2 1 h
          · have h := me_ip c4 h
            refine me_iconst X dX12_goes_148 ic_0 ?_
            refine me_goto X 153 (by decide) dX12_goes_149 ?_
            exact hj153_2 0 h
        · have h := me_ip c3 h
          refine me_goto X 245 (by decide) dX12_goes_127 ?_
          exact hj245_1 M1 h
    · have h := me_ip c1 h
      refine me_iconst X dX12_goes_8 ic_0 ?_
      refine me_istore X (i := 5) [(5, .int 0), (0, .ref (ad 63)), (1, .int p0), (2, .int p1), (3, .int p2), (4, .int p3)] (Nat.le_of_ble_eq_true rfl) rfl dX12_goes_9 ?_
      obtain ⟨M12, hq2, h⟩ := me_bd h
      have hx2 : me_W p l e R s m args below meth c 0 0 (MQ below (me_Qc D cA ad n A none M') args s 0 0 A) D cA ad n 9 A 99 [] [] M12 := by
        obtain rfl := me_so h
        exact me_vret X hr hlk dX12_goes_99
      refine me_sub (L' := [(0, .ref (ad 63)), (2, .int p1), (3, .int p2), (4, .int p3), (5, .int 0)]) [1, 3, 4, 5, 0] rfl ?_
      refine me_l_W (b := (mX12_goes_63_L11 (mX12_goes_63 d) p1 p2 p3)) (P := fun w => me_W p l e R s m args below meth c 0 0 (MQ below (me_Qc D cA ad n A none M') args s 0 0 A) D cA ad n 9 A 11 [(0, .ref (ad 63)), (2, .int p1), (3, .int p2), (4, .int p3), (5, .int w.1)] [] w.2) (r := M12) ?_ me_fu (0, M) hq2
      rintro ⟨x5_1, M7⟩ z2 h hb2 - hr2
      unfold mX12_goes_63_L11 at h
      refine me_iload X (i := 5) 4 rfl dX12_goes_11 ?_
      refine me_iload_n X (i := 3) 2 rfl dX12_goes_13 ?_
      refine me_icmp_ge X 99 (by decide) dX12_goes_14 (fun c9 => ?_) (fun c9 => ?_)
      · have h := me_ip c9 h
        obtain rfl := me_so h
        have q := hr2 _ rfl
        refine me_sub (L' := []) [] rfl ?_
        cases q
        exact hx2
      · have h := me_in c9 h
        refine me_aload_n X (i := 0) 0 rfl dX12_goes_17 ?_
        refine me_getr X 157 kF_X12_87 (Nat.le_of_ble_eq_true rfl) me_k63 me_f63_34 dX12_goes_18 ?_
        refine me_iload_n X (i := 2) 1 rfl dX12_goes_21 ?_
        obtain ⟨a5, e14, h⟩ := me_bd h
        have f_a5 := me_f158 e14
        refine me_aald X (Nat.le_of_ble_eq_true rfl) ⟨by decide, by decide, Nat.lt_of_lt_of_le (by decide) hnt⟩ me_k157 e14 dX12_goes_22 ?_
        refine me_iload X (i := 5) 4 rfl dX12_goes_23 ?_
        obtain ⟨v10, e15, h⟩ := me_bd h
        refine me_iald X f_a5.2 f_a5.1 e15 dX12_goes_25 ?_
        refine me_istore X (i := 6) [(6, .int v10), (0, .ref (ad 63)), (2, .int p1), (3, .int p2), (4, .int p3), (5, .int x5_1)] (Nat.le_of_ble_eq_true rfl) rfl dX12_goes_26 ?_
        refine me_aload_n X (i := 0) 1 rfl dX12_goes_28 ?_
        refine me_dup X rfl dX12_goes_29 ?_
        refine me_geti X kF_X12_266 (Nat.le_of_ble_eq_true rfl) me_k63 me_f63_36 dX12_goes_30 ?_
        refine me_iconst X dX12_goes_33 ic_1 ?_
        refine me_iadd X dX12_goes_34 ?_
        refine me_puti X kG_X12_266 (Nat.le_of_ble_eq_true rfl) me_k63 me_f63_36 dX12_goes_35 ?_
        refine me_aload_n X (i := 0) 1 rfl dX12_goes_38 ?_
        refine me_geti X kF_X12_269 (Nat.le_of_ble_eq_true rfl) me_k63 me_f63_37 dX12_goes_39 ?_
        have hj93_4 : ∀ (M11 : me_M), mX12_goes_63_J93 (mX12_goes_63 d) p1 p2 p3 x5_1 M11 = some z2 → me_W p l e R s m args below meth c 0 0 (MQ below (me_Qc D cA ad n A none M') args s 0 0 A) D cA ad n 9 A 93 [(0, .ref (ad 63)), (2, .int p1), (3, .int p2), (4, .int p3), (5, .int x5_1)] [] M11 := by
          intro M11 h
          unfold mX12_goes_63_J93 at h
          refine me_iinc X (v := (x5_1 + 1)) 4 rfl (in_1 _) [(5, .int (x5_1 + 1)), (0, .ref (ad 63)), (2, .int p1), (3, .int p2), (4, .int p3)] (Nat.le_of_ble_eq_true rfl) rfl dX12_goes_93 ?_
          refine me_goto X 11 (by decide) dX12_goes_96 ?_
          obtain rfl := me_so h
          refine me_sub (L' := [(0, .ref (ad 63)), (2, .int p1), (3, .int p2), (4, .int p3), (5, .int (x5_1 + 1))]) [1, 2, 3, 4, 0] rfl ?_
          exact hb2 ((x5_1 + 1), M11) rfl
        refine me_if_eq X 48 (by decide) dX12_goes_42 (fun c10 => ?_) (fun c10 => ?_)
        · have h := me_ip c10 h
          refine me_aload_n X (i := 0) 1 rfl dX12_goes_48 ?_
          refine me_getr X 80 kF_X12_63 (Nat.le_of_ble_eq_true rfl) me_k63 me_f63_22 dX12_goes_49 ?_
          refine me_iload X (i := 6) 0 rfl dX12_goes_52 ?_
          refine me_aload_n X (i := 0) 1 rfl dX12_goes_54 ?_
          refine me_getr X 79 kF_X12_60 (Nat.le_of_ble_eq_true rfl) me_k63 me_f63_21 dX12_goes_55 ?_
          refine me_iload X (i := 6) 0 rfl dX12_goes_58 ?_
          obtain ⟨v11, e16, h⟩ := me_bd h
          refine me_iald X (Nat.le_of_ble_eq_true rfl) me_k79 e16 dX12_goes_60 ?_
          have hj81_5 : ∀ (s2 : Int32) (M8 : me_M), mX12_goes_63_J81 (mX12_goes_63 d) p1 p2 p3 x5_1 v10 s2 M8 = some z2 → me_W p l e R s m args below meth c 0 0 (MQ below (me_Qc D cA ad n A none M') args s 0 0 A) D cA ad n 9 A 81 [(0, .ref (ad 63)), (2, .int p1), (3, .int p2), (4, .int p3), (5, .int x5_1), (6, .int v10)] [.int s2, .int v10, .ref (ad 80)] M8 := by
            intro s2 M8 h
            unfold mX12_goes_63_J81 at h
            obtain ⟨M9, e19, h⟩ := me_bd h
            refine me_iast X (Nat.le_of_ble_eq_true rfl) me_k80 e19 dX12_goes_81 ?_
            refine me_aload_n X (i := 0) 0 rfl dX12_goes_82 ?_
            refine me_getr X 79 kF_X12_60 (Nat.le_of_ble_eq_true rfl) me_k63 me_f63_21 dX12_goes_83 ?_
            refine me_iload X (i := 6) 5 rfl dX12_goes_86 ?_
            refine me_dup2 X rfl rfl dX12_goes_88 ?_
            obtain ⟨v14, e20, h⟩ := me_bd h
            refine me_iald X (Nat.le_of_ble_eq_true rfl) me_k79 e20 dX12_goes_89 ?_
            refine me_iconst X dX12_goes_90 ic_1 ?_
            refine me_iadd X dX12_goes_91 ?_
            obtain ⟨M10, e21, h⟩ := me_bd h
            refine me_iast X (Nat.le_of_ble_eq_true rfl) me_k79 e21 dX12_goes_92 ?_
            refine me_sub (L' := [(0, .ref (ad 63)), (2, .int p1), (3, .int p2), (4, .int p3), (5, .int x5_1)]) [0, 1, 2, 3, 4] rfl ?_
            exact hj93_4 M10 h
          refine me_if_ne X 69 (by decide) dX12_goes_61 (fun c11 => ?_) (fun c11 => ?_)
          · have h := me_in c11 h
            refine me_aload_n X (i := 0) 1 rfl dX12_goes_69 ?_
            refine me_getr X 80 kF_X12_63 (Nat.le_of_ble_eq_true rfl) me_k63 me_f63_22 dX12_goes_70 ?_
            refine me_iload X (i := 6) 0 rfl dX12_goes_73 ?_
            obtain ⟨v12, e17, h⟩ := me_bd h
            refine me_iald X (Nat.le_of_ble_eq_true rfl) me_k80 e17 dX12_goes_75 ?_
            refine me_iload X (i := 4) 4 rfl dX12_goes_76 ?_
            obtain ⟨v13, e18, h⟩ := me_bd h
            refine me_callSi X [.int v12, .int p3] (ctX12_less hn (Nat.le_trans (by decide) hnt) e18) kS_X12_251 rfl rfl (by omega) (Nat.le_refl _) (Nat.le_of_ble_eq_true rfl) dX12_goes_78 ?_
            refine me_sub (L' := [(0, .ref (ad 63)), (2, .int p1), (3, .int p2), (4, .int p3), (5, .int x5_1), (6, .int v10)]) [1, 2, 3, 4, 5, 0] rfl ?_
            exact hj81_5 v13 (me_s M7 63 36 ((M7.1 63 36) + 1)) h
          · have h := me_ip c11 h
            refine me_iload X (i := 4) 4 rfl dX12_goes_64 ?_
            refine me_goto X 81 (by decide) dX12_goes_66 ?_
            refine me_sub (L' := [(0, .ref (ad 63)), (2, .int p1), (3, .int p2), (4, .int p3), (5, .int x5_1), (6, .int v10)]) [1, 2, 3, 4, 5, 0] rfl ?_
            exact hj81_5 p3 (me_s M7 63 36 ((M7.1 63 36) + 1)) h
        · have h := me_in c10 h
          refine me_goto X 93 (by decide) dX12_goes_45 ?_
          refine me_sub (L' := [(0, .ref (ad 63)), (2, .int p1), (3, .int p2), (4, .int p3), (5, .int x5_1)]) [1, 2, 3, 4, 5] rfl ?_
          exact hj93_4 (me_s M7 63 36 ((M7.1 63 36) + 1)) h
def mX12_runs_63_L7 (p0 : Int32) : (Int32 × me_M) → Option ((Int32 × me_M) ⊕ (me_M))
  | (x2_1, M2) => (if (M2.1 63 5) < x2_1 then some (.inr M2) else ((me_t M2 158 241 x2_1 x2_1).bind fun M3 => some (.inl ((x2_1 + 1), M3))))
def mX12_runs_63 (M : me_M) (p0 : Int32) : Option me_M :=
  ((mX12_laysTurns_63 M p0).bind fun M1 => ((me_l (mX12_runs_63_L7 p0) me_fu (0, M1)).bind fun M4 => ((mX12_goes_63 26 M4 p0 0 ((M4.1 63 5) + 1) 0).bind fun M5 => some M5)))
set_option maxRecDepth 100000 in
set_option maxHeartbeats 4000000 in
theorem ctX12_runs_63 {l : Launch} {n nt : Nat} (hn : 424 ≤ n) (hnt : 4 ≤ nt) {M : me_M} {p0 : Int32} {M' : me_M} (h : mX12_runs_63 M p0 = some M') : me_Ct l yX12_runs cX12_runs 3 none 28 n nt (fun ad => [.ref (ad 63), .int p0]) M (fun _ => none) M' := by
  unfold mX12_runs_63 at h
  refine me_enter (N0 := 424) RX12 rfl (plainFor_of_name pl_RX12) hn (Nat.le_trans (by decide) hnt) (fun _ => Nat.le_of_ble_eq_true rfl) ?_
  intro p e R s m args below meth c D cA ad tys A X hr hlk
  refine me_sub (L' := [(0, .ref (ad 63)), (1, .int p0)]) [0, 1] rfl ?_
  refine me_aload_n X (i := 0) 0 rfl dX12_runs_0 ?_
  refine me_iload_n X (i := 1) 1 rfl dX12_runs_1 ?_
  obtain ⟨M1, e1, h⟩ := me_bd h
  refine me_callVv X [.int p0] (ctX12_laysTurns_63 hn (Nat.le_trans (by decide) hnt) e1) kV_X12_283 rfl rfl (Nat.le_of_ble_eq_true rfl) me_k63 (Nat.le_of_ble_eq_true rfl) (Nat.le_refl _) (Nat.le_of_ble_eq_true rfl) dX12_runs_2 ?_
  refine me_iconst X dX12_runs_5 ic_0 ?_
  refine me_istore_n X (i := 2) [(2, .int 0), (0, .ref (ad 63)), (1, .int p0)] (Nat.le_of_ble_eq_true rfl) rfl dX12_runs_6 ?_
  obtain ⟨M4, hq1, h⟩ := me_bd h
  have hx1 : me_W p l e R s m args below meth c 0 0 (MQ below (me_Qc D cA ad n A none M') args s 0 0 A) D cA ad n 3 A 30 [(0, .ref (ad 63)), (1, .int p0)] [] M4 := by
    refine me_aload_n X (i := 0) 0 rfl dX12_runs_30 ?_
    refine me_iload_n X (i := 1) 1 rfl dX12_runs_31 ?_
    refine me_iconst X dX12_runs_32 ic_0 ?_
    refine me_aload_n X (i := 0) 0 rfl dX12_runs_33 ?_
    refine me_geti X kF_X12_20 (Nat.le_of_ble_eq_true rfl) me_k63 me_f63_5 dX12_runs_34 ?_
    refine me_iconst X dX12_runs_37 ic_1 ?_
    refine me_iadd X dX12_runs_38 ?_
    refine me_iconst X dX12_runs_39 ic_0 ?_
    obtain ⟨M5, e3, h⟩ := me_bd h
    refine me_callVv X [.int p0, .int 0, .int ((M4.1 63 5) + 1), .int 0] (ctX12_goes_63 hn (Nat.le_trans (by decide) hnt) 26 _ _ _ _ _ _ e3) kV_X12_279 rfl rfl (Nat.le_of_ble_eq_true rfl) me_k63 (by omega) (Nat.le_refl _) (Nat.le_of_ble_eq_true rfl) dX12_runs_40 ?_
    obtain rfl := me_so h
    exact me_vret X hr hlk dX12_runs_43
  refine me_sub (L' := [(0, .ref (ad 63)), (1, .int p0), (2, .int 0)]) [1, 2, 0] rfl ?_
  refine me_l_W (b := (mX12_runs_63_L7 p0)) (P := fun w => me_W p l e R s m args below meth c 0 0 (MQ below (me_Qc D cA ad n A none M') args s 0 0 A) D cA ad n 3 A 7 [(0, .ref (ad 63)), (1, .int p0), (2, .int w.1)] [] w.2) (r := M4) ?_ me_fu (0, M1) hq1
  rintro ⟨x2_1, M2⟩ z1 h hb1 - hr1
  unfold mX12_runs_63_L7 at h
  refine me_iload_n X (i := 2) 2 rfl dX12_runs_7 ?_
  refine me_aload_n X (i := 0) 0 rfl dX12_runs_8 ?_
  refine me_geti X kF_X12_20 (Nat.le_of_ble_eq_true rfl) me_k63 me_f63_5 dX12_runs_9 ?_
  refine me_icmp_gt X 30 (by decide) dX12_runs_12 (fun c1 => ?_) (fun c1 => ?_)
  · have h := me_ip c1 h
    obtain rfl := me_so h
    have q := hr1 _ rfl
    refine me_sub (L' := [(0, .ref (ad 63)), (1, .int p0)]) [0, 1] rfl ?_
    cases q
    exact hx1
  · have h := me_in c1 h
    refine me_aload_n X (i := 0) 0 rfl dX12_runs_15 ?_
    refine me_getr X 157 kF_X12_87 (Nat.le_of_ble_eq_true rfl) me_k63 me_f63_34 dX12_runs_16 ?_
    refine me_iconst X dX12_runs_19 ic_0 ?_
    refine me_aald X (j := 158) (Nat.le_of_ble_eq_true rfl) ⟨by decide, by decide, Nat.lt_of_lt_of_le (by decide) hnt⟩ me_k157 (by decide) dX12_runs_20 ?_
    refine me_iload_n X (i := 2) 2 rfl dX12_runs_21 ?_
    refine me_iload_n X (i := 2) 2 rfl dX12_runs_22 ?_
    obtain ⟨M3, e2, h⟩ := me_bd h
    refine me_iast X (Nat.le_of_ble_eq_true rfl) me_k158 e2 dX12_runs_23 ?_
    refine me_iinc X (v := (x2_1 + 1)) 2 rfl (in_1 _) [(2, .int (x2_1 + 1)), (0, .ref (ad 63)), (1, .int p0)] (Nat.le_of_ble_eq_true rfl) rfl dX12_runs_24 ?_
    refine me_goto X 7 (by decide) dX12_runs_27 ?_
    obtain rfl := me_so h
    refine me_sub (L' := [(0, .ref (ad 63)), (1, .int p0), (2, .int (x2_1 + 1))]) [1, 2, 0] rfl ?_
    exact hb1 ((x2_1 + 1), M3) rfl
def mX12_search_63_L69 (p0 : Int32) : (Int32 × me_M) → Option ((Int32 × me_M) ⊕ (me_M))
  | (x2_1, M4) => (if p0 ≤ x2_1 then some (.inr M4) else ((me_r M4 65 240 x2_1).bind fun v5 => ((me_t M4 81 24 x2_1 ((v5 - 97) + 2)).bind fun M5 => some (.inl ((x2_1 + 1), M5)))))
def mX12_search_63_L99  : (Int32 × me_M) → Option ((Int32 × me_M) ⊕ (me_M))
  | (x2_2, M7) => (if (M7.1 63 5) < x2_2 then some (.inr M7) else ((me_t M7 79 241 x2_2 0).bind fun M8 => ((me_t M8 80 241 x2_2 0).bind fun M9 => some (.inl ((x2_2 + 1), M9)))))
def mX12_search_63_L149  : (Int32 × me_M) → Option ((Int32 × me_M) ⊕ (me_M))
  | (x2_3, M11) => ((me_r M11 77 2 0).bind fun v6 => (if v6 ≤ x2_3 then some (.inr M11) else ((mX12_runs_63 M11 x2_3).bind fun M12 => some (.inl ((x2_3 + 1), M12)))))
def mX12_search_63_J47 (p0 : Int32) (s1 : Int32) (M2 : me_M) : Option (Int32 × me_M) :=
  ((mX12_bad_63 M2 s1 1 1).bind fun (v4, M3) => (if v4 = 0 then ((me_l (mX12_search_63_L69 p0) me_fu (0, (me_s (me_s M3 63 2 0) 63 20 p0))).bind fun M6 => ((me_l mX12_search_63_L99 me_fu (0, M6)).bind fun M10 => ((me_l mX12_search_63_L149 me_fu (0, (me_s (me_s (me_s (me_s M10 63 17 1) 63 37 0) 63 35 0) 63 36 0))).bind fun M13 => ((mX12_places_63 (me_s (me_s M13 63 18 (M13.1 63 35)) 63 19 ((me_s M13 63 18 (M13.1 63 35)).1 63 36))).bind fun v8 => some (v8, (me_s (me_s M13 63 18 (M13.1 63 35)) 63 19 ((me_s M13 63 18 (M13.1 63 35)).1 63 36))))))) else some (0, M3)))
def mX12_search_63_J42 (p0 : Int32) (M1 : me_M) : Option (Int32 × me_M) :=
  (mX12_search_63_J47 p0 1 M1)
def mX12_search_63 (M : me_M) (p0 : Int32) : Option (Int32 × me_M) :=
  ((mX12_in p0 1 ((me_s M 63 0 0).1 63 2)).bind fun v1 => (if v1 = 0 then (mX12_search_63_J42 p0 (me_s M 63 0 0)) else ((me_r (me_s M 63 0 0) 78 2 0).bind fun v2 => (if p0 < v2 then (mX12_search_63_J42 p0 (me_s M 63 0 0)) else (if 24 < p0 then (mX12_search_63_J42 p0 (me_s M 63 0 0)) else ((mX12_areLetters_63 (me_s M 63 0 0) p0).bind fun v3 => (if v3 = 0 then (mX12_search_63_J42 p0 (me_s M 63 0 0)) else (mX12_search_63_J47 p0 0 (me_s M 63 0 0)))))))))
set_option maxRecDepth 100000 in
set_option maxHeartbeats 4000000 in
theorem ctX12_search_63 {l : Launch} {n nt : Nat} (hn : 424 ≤ n) (hnt : 4 ≤ nt) {M : me_M} {p0 : Int32} {r : Int32} {M' : me_M} (h : mX12_search_63 M p0 = some (r, M')) : me_Ct l yX12_search cX12_search 3 (some .int) 29 n nt (fun ad => [.ref (ad 63), .int p0]) M (fun _ => some (.int r)) M' := by
  unfold mX12_search_63 at h
  refine me_enter (N0 := 424) RX12 rfl (plainFor_of_name pl_RX12) hn (Nat.le_trans (by decide) hnt) (fun _ => Nat.le_of_ble_eq_true rfl) ?_
  intro p e R s m args below meth c D cA ad tys A X hr hlk
  refine me_sub (L' := [(0, .ref (ad 63)), (1, .int p0)]) [0, 1] rfl ?_
  refine me_aload_n X (i := 0) 0 rfl dX12_search_0 ?_
  refine me_iconst X dX12_search_1 ic_0 ?_
  refine me_puti X kG_X12_105 (Nat.le_of_ble_eq_true rfl) me_k63 me_f63_0 dX12_search_2 ?_
  refine me_aload_n X (i := 0) 0 rfl dX12_search_5 ?_
  refine me_iload_n X (i := 1) 1 rfl dX12_search_6 ?_
  refine me_iconst X dX12_search_7 ic_1 ?_
  refine me_aload_n X (i := 0) 0 rfl dX12_search_8 ?_
  refine me_geti X kF_X12_115 (Nat.le_of_ble_eq_true rfl) me_k63 me_f63_2 dX12_search_9 ?_
  obtain ⟨v1, e1, h⟩ := me_bd h
  refine me_callSi X [.int p0, .int 1, .int ((me_s M 63 0 0).1 63 2)] (ctX12_in hn (Nat.le_trans (by decide) hnt) e1) kS_X12_108 rfl rfl (Nat.le_of_ble_eq_true rfl) (Nat.le_refl _) (Nat.le_of_ble_eq_true rfl) dX12_search_12 ?_
  have hj47_2 : ∀ (s1 : Int32) (M2 : me_M), mX12_search_63_J47 p0 s1 M2 = some (r, M') → me_W p l e R s m args below meth c 0 0 (MQ below (me_Qc D cA ad n A (some (.int r)) M') args s 0 0 A) D cA ad n 3 A 47 [(0, .ref (ad 63)), (1, .int p0)] [.int s1, .ref (ad 63)] M2 := by
    intro s1 M2 h
    unfold mX12_search_63_J47 at h
    refine me_iconst X dX12_search_47 ic_1 ?_
    refine me_iconst X dX12_search_48 ic_1 ?_
    obtain ⟨⟨v4, M3⟩, e4, h⟩ := me_bd h
    refine me_callVi X [.int s1, .int 1, .int 1] (ctX12_bad_63 hn (Nat.le_trans (by decide) hnt) e4) kV_X12_122 rfl rfl (Nat.le_of_ble_eq_true rfl) me_k63 (Nat.le_of_ble_eq_true rfl) (Nat.le_refl _) (Nat.le_of_ble_eq_true rfl) dX12_search_49 ?_
    refine me_if_eq X 57 (by decide) dX12_search_52 (fun c5 => ?_) (fun c5 => ?_)
    · have h := me_ip c5 h
      refine me_aload_n X (i := 0) 0 rfl dX12_search_57 ?_
      refine me_iconst X dX12_search_58 ic_0 ?_
      refine me_puti X kG_X12_115 (Nat.le_of_ble_eq_true rfl) me_k63 me_f63_2 dX12_search_59 ?_
      refine me_aload_n X (i := 0) 0 rfl dX12_search_62 ?_
      refine me_iload_n X (i := 1) 1 rfl dX12_search_63 ?_
      refine me_puti X kG_X12_263 (Nat.le_of_ble_eq_true rfl) me_k63 me_f63_20 dX12_search_64 ?_
      refine me_iconst X dX12_search_67 ic_0 ?_
      refine me_istore_n X (i := 2) [(2, .int 0), (0, .ref (ad 63)), (1, .int p0)] (Nat.le_of_ble_eq_true rfl) rfl dX12_search_68 ?_
      obtain ⟨M6, hq1, h⟩ := me_bd h
      have hx1 : me_W p l e R s m args below meth c 0 0 (MQ below (me_Qc D cA ad n A (some (.int r)) M') args s 0 0 A) D cA ad n 3 A 97 [(0, .ref (ad 63))] [] M6 := by
        refine me_iconst X dX12_search_97 ic_0 ?_
        refine me_istore_n X (i := 2) [(2, .int 0), (0, .ref (ad 63))] (Nat.le_of_ble_eq_true rfl) rfl dX12_search_98 ?_
        obtain ⟨M10, hq2, h⟩ := me_bd h
        have hx2 : me_W p l e R s m args below meth c 0 0 (MQ below (me_Qc D cA ad n A (some (.int r)) M') args s 0 0 A) D cA ad n 3 A 127 [(0, .ref (ad 63))] [] M10 := by
          refine me_aload_n X (i := 0) 0 rfl dX12_search_127 ?_
          refine me_iconst X dX12_search_128 ic_1 ?_
          refine me_putz X ⟨by decide, by decide⟩ kG_X12_130 (Nat.le_of_ble_eq_true rfl) me_k63 me_f63_17 dX12_search_129 ?_
          refine me_aload_n X (i := 0) 0 rfl dX12_search_132 ?_
          refine me_iconst X dX12_search_133 ic_0 ?_
          refine me_putz X ⟨by decide, by decide⟩ kG_X12_269 (Nat.le_of_ble_eq_true rfl) me_k63 me_f63_37 dX12_search_134 ?_
          refine me_aload_n X (i := 0) 0 rfl dX12_search_137 ?_
          refine me_iconst X dX12_search_138 ic_0 ?_
          refine me_puti X kG_X12_272 (Nat.le_of_ble_eq_true rfl) me_k63 me_f63_35 dX12_search_139 ?_
          refine me_aload_n X (i := 0) 0 rfl dX12_search_142 ?_
          refine me_iconst X dX12_search_143 ic_0 ?_
          refine me_puti X kG_X12_266 (Nat.le_of_ble_eq_true rfl) me_k63 me_f63_36 dX12_search_144 ?_
          refine me_iconst X dX12_search_147 ic_0 ?_
          refine me_istore_n X (i := 2) [(2, .int 0), (0, .ref (ad 63))] (Nat.le_of_ble_eq_true rfl) rfl dX12_search_148 ?_
          obtain ⟨M13, hq3, h⟩ := me_bd h
          have hx3 : me_W p l e R s m args below meth c 0 0 (MQ below (me_Qc D cA ad n A (some (.int r)) M') args s 0 0 A) D cA ad n 3 A 170 [(0, .ref (ad 63))] [] M13 := by
            refine me_aload_n X (i := 0) 0 rfl dX12_search_170 ?_
            refine me_aload_n X (i := 0) 0 rfl dX12_search_171 ?_
            refine me_geti X kF_X12_272 (Nat.le_of_ble_eq_true rfl) me_k63 me_f63_35 dX12_search_172 ?_
            refine me_puti X kG_X12_289 (Nat.le_of_ble_eq_true rfl) me_k63 me_f63_18 dX12_search_175 ?_
            refine me_aload_n X (i := 0) 0 rfl dX12_search_178 ?_
            refine me_aload_n X (i := 0) 0 rfl dX12_search_179 ?_
            refine me_geti X kF_X12_266 (Nat.le_of_ble_eq_true rfl) me_k63 me_f63_36 dX12_search_180 ?_
            refine me_puti X kG_X12_292 (Nat.le_of_ble_eq_true rfl) me_k63 me_f63_19 dX12_search_183 ?_
            refine me_aload_n X (i := 0) 0 rfl dX12_search_186 ?_
            obtain ⟨v8, e11, h⟩ := me_bd h
            refine me_callVi X [] (ctX12_places_63 hn (Nat.le_trans (by decide) hnt) e11) kV_X12_217 rfl rfl (Nat.le_of_ble_eq_true rfl) me_k63 (Nat.le_of_ble_eq_true rfl) (Nat.le_refl _) (Nat.le_of_ble_eq_true rfl) dX12_search_187 ?_
            obtain ⟨rfl, rfl⟩ := me_sp h
            exact me_iret X hr hlk dX12_search_190
          refine me_sub (L' := [(0, .ref (ad 63)), (2, .int 0)]) [1, 0] rfl ?_
          refine me_l_W (b := mX12_search_63_L149) (P := fun w => me_W p l e R s m args below meth c 0 0 (MQ below (me_Qc D cA ad n A (some (.int r)) M') args s 0 0 A) D cA ad n 3 A 149 [(0, .ref (ad 63)), (2, .int w.1)] [] w.2) (r := M13) ?_ me_fu (0, (me_s (me_s (me_s (me_s M10 63 17 1) 63 37 0) 63 35 0) 63 36 0)) hq3
          rintro ⟨x2_3, M11⟩ z3 h hb3 - hr3
          unfold mX12_search_63_L149 at h
          refine me_iload_n X (i := 2) 1 rfl dX12_search_149 ?_
          refine me_aload_n X (i := 0) 0 rfl dX12_search_150 ?_
          refine me_getr X 77 kF_X12_49 (Nat.le_of_ble_eq_true rfl) me_k63 me_f63_14 dX12_search_151 ?_
          refine me_iconst X dX12_search_154 ic_0 ?_
          obtain ⟨v6, e9, h⟩ := me_bd h
          refine me_iald X (Nat.le_of_ble_eq_true rfl) me_k77 e9 dX12_search_155 ?_
          refine me_icmp_ge X 170 (by decide) dX12_search_156 (fun c8 => ?_) (fun c8 => ?_)
          · have h := me_ip c8 h
            obtain rfl := me_so h
            have q := hr3 _ rfl
            refine me_sub (L' := [(0, .ref (ad 63))]) [0] rfl ?_
            cases q
            exact hx3
          · have h := me_in c8 h
            refine me_aload_n X (i := 0) 0 rfl dX12_search_159 ?_
            refine me_iload_n X (i := 2) 1 rfl dX12_search_160 ?_
            obtain ⟨M12, e10, h⟩ := me_bd h
            refine me_callVv X [.int x2_3] (ctX12_runs_63 hn (Nat.le_trans (by decide) hnt) e10) kV_X12_286 rfl rfl (Nat.le_of_ble_eq_true rfl) me_k63 (Nat.le_of_ble_eq_true rfl) (Nat.le_refl _) (Nat.le_of_ble_eq_true rfl) dX12_search_161 ?_
            refine me_iinc X (v := (x2_3 + 1)) 1 rfl (in_1 _) [(2, .int (x2_3 + 1)), (0, .ref (ad 63))] (Nat.le_of_ble_eq_true rfl) rfl dX12_search_164 ?_
            refine me_goto X 149 (by decide) dX12_search_167 ?_
            obtain rfl := me_so h
            refine me_sub (L' := [(0, .ref (ad 63)), (2, .int (x2_3 + 1))]) [1, 0] rfl ?_
            exact hb3 ((x2_3 + 1), M12) rfl
        refine me_sub (L' := [(0, .ref (ad 63)), (2, .int 0)]) [1, 0] rfl ?_
        refine me_l_W (b := mX12_search_63_L99) (P := fun w => me_W p l e R s m args below meth c 0 0 (MQ below (me_Qc D cA ad n A (some (.int r)) M') args s 0 0 A) D cA ad n 3 A 99 [(0, .ref (ad 63)), (2, .int w.1)] [] w.2) (r := M10) ?_ me_fu (0, M6) hq2
        rintro ⟨x2_2, M7⟩ z2 h hb2 - hr2
        unfold mX12_search_63_L99 at h
        refine me_iload_n X (i := 2) 1 rfl dX12_search_99 ?_
        refine me_aload_n X (i := 0) 0 rfl dX12_search_100 ?_
        refine me_geti X kF_X12_20 (Nat.le_of_ble_eq_true rfl) me_k63 me_f63_5 dX12_search_101 ?_
        refine me_icmp_gt X 127 (by decide) dX12_search_104 (fun c7 => ?_) (fun c7 => ?_)
        · have h := me_ip c7 h
          obtain rfl := me_so h
          have q := hr2 _ rfl
          refine me_sub (L' := [(0, .ref (ad 63))]) [0] rfl ?_
          cases q
          exact hx2
        · have h := me_in c7 h
          refine me_aload_n X (i := 0) 0 rfl dX12_search_107 ?_
          refine me_getr X 79 kF_X12_60 (Nat.le_of_ble_eq_true rfl) me_k63 me_f63_21 dX12_search_108 ?_
          refine me_iload_n X (i := 2) 1 rfl dX12_search_111 ?_
          refine me_iconst X dX12_search_112 ic_0 ?_
          obtain ⟨M8, e7, h⟩ := me_bd h
          refine me_iast X (Nat.le_of_ble_eq_true rfl) me_k79 e7 dX12_search_113 ?_
          refine me_aload_n X (i := 0) 0 rfl dX12_search_114 ?_
          refine me_getr X 80 kF_X12_63 (Nat.le_of_ble_eq_true rfl) me_k63 me_f63_22 dX12_search_115 ?_
          refine me_iload_n X (i := 2) 1 rfl dX12_search_118 ?_
          refine me_iconst X dX12_search_119 ic_0 ?_
          obtain ⟨M9, e8, h⟩ := me_bd h
          refine me_iast X (Nat.le_of_ble_eq_true rfl) me_k80 e8 dX12_search_120 ?_
          refine me_iinc X (v := (x2_2 + 1)) 1 rfl (in_1 _) [(2, .int (x2_2 + 1)), (0, .ref (ad 63))] (Nat.le_of_ble_eq_true rfl) rfl dX12_search_121 ?_
          refine me_goto X 99 (by decide) dX12_search_124 ?_
          obtain rfl := me_so h
          refine me_sub (L' := [(0, .ref (ad 63)), (2, .int (x2_2 + 1))]) [1, 0] rfl ?_
          exact hb2 ((x2_2 + 1), M9) rfl
      refine me_sub (L' := [(0, .ref (ad 63)), (1, .int p0), (2, .int 0)]) [1, 2, 0] rfl ?_
      refine me_l_W (b := (mX12_search_63_L69 p0)) (P := fun w => me_W p l e R s m args below meth c 0 0 (MQ below (me_Qc D cA ad n A (some (.int r)) M') args s 0 0 A) D cA ad n 3 A 69 [(0, .ref (ad 63)), (1, .int p0), (2, .int w.1)] [] w.2) (r := M6) ?_ me_fu (0, (me_s (me_s M3 63 2 0) 63 20 p0)) hq1
      rintro ⟨x2_1, M4⟩ z1 h hb1 - hr1
      unfold mX12_search_63_L69 at h
      refine me_iload_n X (i := 2) 2 rfl dX12_search_69 ?_
      refine me_iload_n X (i := 1) 1 rfl dX12_search_70 ?_
      refine me_icmp_ge X 97 (by decide) dX12_search_71 (fun c6 => ?_) (fun c6 => ?_)
      · have h := me_ip c6 h
        obtain rfl := me_so h
        have q := hr1 _ rfl
        refine me_sub (L' := [(0, .ref (ad 63))]) [0] rfl ?_
        cases q
        exact hx1
      · have h := me_in c6 h
        refine me_aload_n X (i := 0) 0 rfl dX12_search_74 ?_
        refine me_getr X 81 kF_X12_66 (Nat.le_of_ble_eq_true rfl) me_k63 me_f63_23 dX12_search_75 ?_
        refine me_iload_n X (i := 2) 2 rfl dX12_search_78 ?_
        refine me_aload_n X (i := 0) 0 rfl dX12_search_79 ?_
        refine me_getr X 65 kF_X12_17 (Nat.le_of_ble_eq_true rfl) me_k63 me_f63_4 dX12_search_80 ?_
        refine me_iload_n X (i := 2) 2 rfl dX12_search_83 ?_
        obtain ⟨v5, e5, h⟩ := me_bd h
        refine me_iald X (Nat.le_of_ble_eq_true rfl) me_k65 e5 dX12_search_84 ?_
        refine me_bipush X dX12_search_85 ib_97 ?_
        refine me_isub X dX12_search_87 ?_
        refine me_iconst X dX12_search_88 ic_2 ?_
        refine me_iadd X dX12_search_89 ?_
        obtain ⟨M5, e6, h⟩ := me_bd h
        refine me_iast X (Nat.le_of_ble_eq_true rfl) me_k81 e6 dX12_search_90 ?_
        refine me_iinc X (v := (x2_1 + 1)) 2 rfl (in_1 _) [(2, .int (x2_1 + 1)), (0, .ref (ad 63)), (1, .int p0)] (Nat.le_of_ble_eq_true rfl) rfl dX12_search_91 ?_
        refine me_goto X 69 (by decide) dX12_search_94 ?_
        obtain rfl := me_so h
        refine me_sub (L' := [(0, .ref (ad 63)), (1, .int p0), (2, .int (x2_1 + 1))]) [1, 2, 0] rfl ?_
        exact hb1 ((x2_1 + 1), M5) rfl
    · have h := me_in c5 h
      refine me_iconst X dX12_search_55 ic_0 ?_
      obtain ⟨rfl, rfl⟩ := me_sp h
      exact me_iret X hr hlk dX12_search_56
  have hj42_1 : ∀ (M1 : me_M), mX12_search_63_J42 p0 M1 = some (r, M') → me_W p l e R s m args below meth c 0 0 (MQ below (me_Qc D cA ad n A (some (.int r)) M') args s 0 0 A) D cA ad n 3 A 42 [(0, .ref (ad 63)), (1, .int p0)] [.ref (ad 63)] M1 := by
    intro M1 h
    unfold mX12_search_63_J42 at h
    refine me_iconst X dX12_search_42 ic_1 ?_
    refine me_goto X 47 (by decide) dX12_search_43 ?_
    exact hj47_2 1 M1 h
  refine me_if_eq X 42 (by decide) dX12_search_15 (fun c1 => ?_) (fun c1 => ?_)
  · have h := me_ip c1 h
    exact hj42_1 (me_s M 63 0 0) h
  · have h := me_in c1 h
    refine me_iload_n X (i := 1) 1 rfl dX12_search_18 ?_
    refine me_aload_n X (i := 0) 0 rfl dX12_search_19 ?_
    refine me_getr X 78 kF_X12_52 (Nat.le_of_ble_eq_true rfl) me_k63 me_f63_15 dX12_search_20 ?_
    refine me_iconst X dX12_search_23 ic_0 ?_
    obtain ⟨v2, e2, h⟩ := me_bd h
    refine me_iald X (Nat.le_of_ble_eq_true rfl) me_k78 e2 dX12_search_24 ?_
    refine me_icmp_lt X 42 (by decide) dX12_search_25 (fun c2 => ?_) (fun c2 => ?_)
    · have h := me_ip c2 h
      exact hj42_1 (me_s M 63 0 0) h
    · have h := me_in c2 h
      refine me_iload_n X (i := 1) 1 rfl dX12_search_28 ?_
      refine me_bipush X dX12_search_29 ib_24 ?_
      refine me_icmp_gt X 42 (by decide) dX12_search_31 (fun c3 => ?_) (fun c3 => ?_)
      · have h := me_ip c3 h
        exact hj42_1 (me_s M 63 0 0) h
      · have h := me_in c3 h
        refine me_aload_n X (i := 0) 0 rfl dX12_search_34 ?_
        refine me_iload_n X (i := 1) 1 rfl dX12_search_35 ?_
        obtain ⟨v3, e3, h⟩ := me_bd h
        refine me_callVi X [.int p0] (ctX12_areLetters_63 hn (Nat.le_trans (by decide) hnt) e3) kV_X12_254 rfl rfl (Nat.le_of_ble_eq_true rfl) me_k63 (Nat.le_of_ble_eq_true rfl) (Nat.le_refl _) (Nat.le_of_ble_eq_true rfl) dX12_search_36 ?_
        refine me_if_ne X 46 (by decide) dX12_search_39 (fun c4 => ?_) (fun c4 => ?_)
        · have h := me_in c4 h
          refine me_iconst X dX12_search_46 ic_0 ?_
          exact hj47_2 0 (me_s M 63 0 0) h
        · have h := me_ip c4 h
          exact hj42_1 (me_s M 63 0 0) h
def mX12_foundAt_63_J27 (p0 : Int32) (x3_1 : Int32) (x2_1 : Int32) (M : me_M) (s1 : Int32) : Option ((Int32 × Int32) ⊕ ((Unit) ⊕ Int32)) :=
  (if (x2_1 + s1) = p0 then some (.inr (.inr x3_1)) else some (.inl ((x2_1 + s1), (x3_1 + 1))))
def mX12_foundAt_63_L4 (M : me_M) (p0 : Int32) : (Int32 × Int32) → Option ((Int32 × Int32) ⊕ ((Unit) ⊕ Int32))
  | (x2_1, x3_1) => (if (M.1 63 5) ≤ x3_1 then some (.inr (.inl ())) else ((me_r M 79 241 x3_1).bind fun v1 => (if v1 ≤ 0 then (mX12_foundAt_63_J27 p0 x3_1 x2_1 M 0) else (mX12_foundAt_63_J27 p0 x3_1 x2_1 M 1))))
def mX12_foundAt_63 (M : me_M) (p0 : Int32) : Option Int32 :=
  ((me_l (mX12_foundAt_63_L4 M p0) me_fu ((-1), 0)).bind fun o => Sum.elim (fun _ => some (-1)) (fun res => some res) o)
set_option maxRecDepth 100000 in
set_option maxHeartbeats 4000000 in
theorem ctX12_foundAt_63 {l : Launch} {n nt : Nat} (hn : 424 ≤ n) (hnt : 4 ≤ nt) {M : me_M} {p0 : Int32} {r : Int32} (h : mX12_foundAt_63 M p0 = some r) : me_Ct l yX12_foundAt cX12_foundAt 4 (some .int) 0 n nt (fun ad => [.ref (ad 63), .int p0]) M (fun _ => some (.int r)) M := by
  unfold mX12_foundAt_63 at h
  refine me_enter (N0 := 424) RX12 rfl (plainFor_of_name pl_RX12) hn (Nat.le_trans (by decide) hnt) (fun _ => Nat.le_of_ble_eq_true rfl) ?_
  intro p e R s m args below meth c D cA ad tys A X hr hlk
  refine me_sub (L' := [(0, .ref (ad 63)), (1, .int p0)]) [0, 1] rfl ?_
  refine me_iconst X dX12_foundAt_0 ic_m1 ?_
  refine me_istore_n X (i := 2) [(2, .int (-1)), (0, .ref (ad 63)), (1, .int p0)] (Nat.le_of_ble_eq_true rfl) rfl dX12_foundAt_1 ?_
  refine me_iconst X dX12_foundAt_2 ic_0 ?_
  refine me_istore_n X (i := 3) [(3, .int 0), (2, .int (-1)), (0, .ref (ad 63)), (1, .int p0)] (Nat.le_of_ble_eq_true rfl) rfl dX12_foundAt_3 ?_
  obtain ⟨o0, hq1l, hq1⟩ := me_bd h
  have hx1 : o0 = .inl () → me_W p l e R s m args below meth c 0 0 (MQ below (me_Qc D cA ad n A (some (.int r)) M) args s 0 0 A) D cA ad n 4 A 42 [] [] M := by
    intro q
    subst q
    have h := me_el hq1
    refine me_iconst X dX12_foundAt_42 ic_m1 ?_
    obtain rfl := me_so h
    exact me_iret X hr hlk dX12_foundAt_43
  refine me_sub (L' := [(0, .ref (ad 63)), (1, .int p0), (2, .int (-1)), (3, .int 0)]) [2, 3, 1, 0] rfl ?_
  refine me_l_W (b := (mX12_foundAt_63_L4 M p0)) (P := fun w => me_W p l e R s m args below meth c 0 0 (MQ below (me_Qc D cA ad n A (some (.int r)) M) args s 0 0 A) D cA ad n 4 A 4 [(0, .ref (ad 63)), (1, .int p0), (2, .int w.1), (3, .int w.2)] [] M) (r := o0) ?_ me_fu ((-1), 0) hq1l
  rintro ⟨x2_1, x3_1⟩ z1 h hb1 - hr1
  unfold mX12_foundAt_63_L4 at h
  refine me_iload_n X (i := 3) 3 rfl dX12_foundAt_4 ?_
  refine me_aload_n X (i := 0) 0 rfl dX12_foundAt_5 ?_
  refine me_geti X kF_X12_20 (Nat.le_of_ble_eq_true rfl) me_k63 me_f63_5 dX12_foundAt_6 ?_
  refine me_icmp_ge X 42 (by decide) dX12_foundAt_9 (fun c1 => ?_) (fun c1 => ?_)
  · have h := me_ip c1 h
    obtain rfl := me_so h
    have q := hr1 _ rfl
    refine me_sub (L' := []) [] rfl ?_
    subst q
    exact hx1 rfl
  · have h := me_in c1 h
    refine me_iload_n X (i := 2) 2 rfl dX12_foundAt_12 ?_
    refine me_aload_n X (i := 0) 0 rfl dX12_foundAt_13 ?_
    refine me_getr X 79 kF_X12_60 (Nat.le_of_ble_eq_true rfl) me_k63 me_f63_21 dX12_foundAt_14 ?_
    refine me_iload_n X (i := 3) 3 rfl dX12_foundAt_17 ?_
    obtain ⟨v1, e1, h⟩ := me_bd h
    refine me_iald X (Nat.le_of_ble_eq_true rfl) me_k79 e1 dX12_foundAt_18 ?_
    have hj27_1 : ∀ (s1 : Int32), mX12_foundAt_63_J27 p0 x3_1 x2_1 M s1 = some z1 → me_W p l e R s m args below meth c 0 0 (MQ below (me_Qc D cA ad n A (some (.int r)) M) args s 0 0 A) D cA ad n 4 A 27 [(0, .ref (ad 63)), (1, .int p0), (3, .int x3_1)] [.int s1, .int x2_1] M := by
      intro s1 h
      unfold mX12_foundAt_63_J27 at h
      refine me_iadd X dX12_foundAt_27 ?_
      refine me_istore_n X (i := 2) [(2, .int (x2_1 + s1)), (0, .ref (ad 63)), (1, .int p0), (3, .int x3_1)] (Nat.le_of_ble_eq_true rfl) rfl dX12_foundAt_28 ?_
      refine me_iload_n X (i := 2) 0 rfl dX12_foundAt_29 ?_
      refine me_iload_n X (i := 1) 2 rfl dX12_foundAt_30 ?_
      refine me_icmp_ne X 36 (by decide) dX12_foundAt_31 (fun c3 => ?_) (fun c3 => ?_)
      · have h := me_in c3 h
        refine me_iinc X (v := (x3_1 + 1)) 3 rfl (in_1 _) [(3, .int (x3_1 + 1)), (2, .int (x2_1 + s1)), (0, .ref (ad 63)), (1, .int p0)] (Nat.le_of_ble_eq_true rfl) rfl dX12_foundAt_36 ?_
        refine me_goto X 4 (by decide) dX12_foundAt_39 ?_
        obtain rfl := me_so h
        refine me_sub (L' := [(0, .ref (ad 63)), (1, .int p0), (2, .int (x2_1 + s1)), (3, .int (x3_1 + 1))]) [2, 3, 1, 0] rfl ?_
        exact hb1 ((x2_1 + s1), (x3_1 + 1)) rfl
      · have h := me_ip c3 h
        refine me_iload_n X (i := 3) 3 rfl dX12_foundAt_34 ?_
        obtain rfl := me_so h
        have q := hr1 _ rfl
        subst q
        have h : some x3_1 = some r := hq1
        obtain rfl := me_so h
        exact me_iret X hr hlk dX12_foundAt_35
    refine me_if_le X 26 (by decide) dX12_foundAt_19 (fun c2 => ?_) (fun c2 => ?_)
    · have h := me_ip c2 h
      refine me_iconst X dX12_foundAt_26 ic_0 ?_
      refine me_sub (L' := [(0, .ref (ad 63)), (1, .int p0), (3, .int x3_1)]) [0, 1, 3] rfl ?_
      exact hj27_1 0 h
    · have h := me_in c2 h
      refine me_iconst X dX12_foundAt_22 ic_1 ?_
      refine me_goto X 27 (by decide) dX12_foundAt_23 ?_
      refine me_sub (L' := [(0, .ref (ad 63)), (1, .int p0), (3, .int x3_1)]) [0, 1, 3] rfl ?_
      exact hj27_1 1 h
def mX12_found_63_J117 (p1 : Int32) (v6 : Int32) (x5_1 : Int32) (x4_1 : Int32) (M4 : me_M) (s3 : Int32) : Option ((Int32 × Int32) ⊕ (Int32)) :=
  some (.inl ((x4_1 ||| s3), (x5_1 + 1)))
def mX12_found_63_L77 (M4 : me_M) (p1 : Int32) (v6 : Int32) : (Int32 × Int32) → Option ((Int32 × Int32) ⊕ (Int32))
  | (x4_1, x5_1) => (if (M4.1 63 20) ≤ x5_1 then some (.inr x4_1) else ((me_r M4 67 241 (v6 + x5_1)).bind fun v7 => ((me_r M4 81 24 x5_1).bind fun v8 => (if v7 = v8 then (mX12_found_63_J117 p1 v6 x5_1 x4_1 M4 0) else (mX12_found_63_J117 p1 v6 x5_1 x4_1 M4 (1 <<< (x5_1 &&& 31)))))))
def mX12_found_63_J55 (p0 : Int32) (p1 : Int32) (M3 : me_M) (s2 : Int32) : Option (Int32 × me_M) :=
  ((mX12_bad_63 M3 s2 2 1).bind fun (v5, M4) => (if v5 = 0 then ((mX12_foundAt_63 M4 p0).bind fun v6 => ((me_l (mX12_found_63_L77 M4 p1 v6) me_fu (0, 0)).bind fun y4_1 => (if p1 = 0 then some (v6, M4) else (if p1 = 1 then ((me_r M4 80 241 v6).bind fun v10 => some (v10, M4)) else (if p1 = 2 then ((me_r M4 79 241 v6).bind fun v9 => some (v9, M4)) else some (y4_1, M4)))))) else some (0, M4)))
def mX12_found_63_J32 (p0 : Int32) (p1 : Int32) (s1 : Int32) (M2 : me_M) : Option (Int32 × me_M) :=
  ((mX12_bad_63 M2 s1 1 0).bind fun (v3, M3) => (if v3 = 0 then ((mX12_in p1 0 3).bind fun v4 => (if v4 = 0 then (mX12_found_63_J55 p0 p1 M3 1) else (mX12_found_63_J55 p0 p1 M3 0))) else some (0, M3)))
def mX12_found_63_J27 (p0 : Int32) (p1 : Int32) (M1 : me_M) : Option (Int32 × me_M) :=
  (mX12_found_63_J32 p0 p1 1 M1)
def mX12_found_63 (M : me_M) (p0 : Int32) (p1 : Int32) : Option (Int32 × me_M) :=
  (if ((me_s M 63 0 0).1 63 17) = 0 then (mX12_found_63_J27 p0 p1 (me_s M 63 0 0)) else ((mX12_places_63 (me_s M 63 0 0)).bind fun v1 => ((mX12_in p0 0 (v1 - 1)).bind fun v2 => (if v2 = 0 then (mX12_found_63_J27 p0 p1 (me_s M 63 0 0)) else (mX12_found_63_J32 p0 p1 0 (me_s M 63 0 0))))))
set_option maxRecDepth 100000 in
set_option maxHeartbeats 4000000 in
theorem ctX12_found_63 {l : Launch} {n nt : Nat} (hn : 424 ≤ n) (hnt : 4 ≤ nt) {M : me_M} {p0 : Int32} {p1 : Int32} {r : Int32} {M' : me_M} (h : mX12_found_63 M p0 p1 = some (r, M')) : me_Ct l yX12_found cX12_found 6 (some .int) 1 n nt (fun ad => [.ref (ad 63), .int p0, .int p1]) M (fun _ => some (.int r)) M' := by
  unfold mX12_found_63 at h
  refine me_enter (N0 := 424) RX12 rfl (plainFor_of_name pl_RX12) hn (Nat.le_trans (by decide) hnt) (fun _ => Nat.le_of_ble_eq_true rfl) ?_
  intro p e R s m args below meth c D cA ad tys A X hr hlk
  refine me_sub (L' := [(0, .ref (ad 63)), (1, .int p0), (2, .int p1)]) [0, 1, 2] rfl ?_
  refine me_aload_n X (i := 0) 0 rfl dX12_found_0 ?_
  refine me_iconst X dX12_found_1 ic_0 ?_
  refine me_puti X kG_X12_105 (Nat.le_of_ble_eq_true rfl) me_k63 me_f63_0 dX12_found_2 ?_
  refine me_aload_n X (i := 0) 0 rfl dX12_found_5 ?_
  refine me_aload_n X (i := 0) 0 rfl dX12_found_6 ?_
  refine me_geti X kF_X12_130 (Nat.le_of_ble_eq_true rfl) me_k63 me_f63_17 dX12_found_7 ?_
  have hj32_2 : ∀ (s1 : Int32) (M2 : me_M), mX12_found_63_J32 p0 p1 s1 M2 = some (r, M') → me_W p l e R s m args below meth c 0 0 (MQ below (me_Qc D cA ad n A (some (.int r)) M') args s 0 0 A) D cA ad n 6 A 32 [(0, .ref (ad 63)), (1, .int p0), (2, .int p1)] [.int s1, .ref (ad 63)] M2 := by
    intro s1 M2 h
    unfold mX12_found_63_J32 at h
    refine me_iconst X dX12_found_32 ic_1 ?_
    refine me_iconst X dX12_found_33 ic_0 ?_
    obtain ⟨⟨v3, M3⟩, e3, h⟩ := me_bd h
    refine me_callVi X [.int s1, .int 1, .int 0] (ctX12_bad_63 hn (Nat.le_trans (by decide) hnt) e3) kV_X12_122 rfl rfl (Nat.le_of_ble_eq_true rfl) me_k63 (Nat.le_of_ble_eq_true rfl) (Nat.le_refl _) (Nat.le_of_ble_eq_true rfl) dX12_found_34 ?_
    refine me_if_ne X 63 (by decide) dX12_found_37 (fun c3 => ?_) (fun c3 => ?_)
    · have h := me_in c3 h
      refine me_iconst X dX12_found_63 ic_0 ?_
      obtain ⟨rfl, rfl⟩ := me_sp h
      exact me_iret X hr hlk dX12_found_64
    · have h := me_ip c3 h
      refine me_aload_n X (i := 0) 0 rfl dX12_found_40 ?_
      refine me_iload_n X (i := 2) 2 rfl dX12_found_41 ?_
      refine me_iconst X dX12_found_42 ic_0 ?_
      refine me_iconst X dX12_found_43 ic_3 ?_
      obtain ⟨v4, e4, h⟩ := me_bd h
      refine me_callSi X [.int p1, .int 0, .int 3] (ctX12_in hn (Nat.le_trans (by decide) hnt) e4) kS_X12_108 rfl rfl (Nat.le_of_ble_eq_true rfl) (Nat.le_refl _) (Nat.le_of_ble_eq_true rfl) dX12_found_44 ?_
      have hj55_3 : ∀ (s2 : Int32), mX12_found_63_J55 p0 p1 M3 s2 = some (r, M') → me_W p l e R s m args below meth c 0 0 (MQ below (me_Qc D cA ad n A (some (.int r)) M') args s 0 0 A) D cA ad n 6 A 55 [(0, .ref (ad 63)), (1, .int p0), (2, .int p1)] [.int s2, .ref (ad 63)] M3 := by
        intro s2 h
        unfold mX12_found_63_J55 at h
        refine me_iconst X dX12_found_55 ic_2 ?_
        refine me_iconst X dX12_found_56 ic_1 ?_
        obtain ⟨⟨v5, M4⟩, e5, h⟩ := me_bd h
        refine me_callVi X [.int s2, .int 2, .int 1] (ctX12_bad_63 hn (Nat.le_trans (by decide) hnt) e5) kV_X12_122 rfl rfl (Nat.le_of_ble_eq_true rfl) me_k63 (Nat.le_of_ble_eq_true rfl) (Nat.le_refl _) (Nat.le_of_ble_eq_true rfl) dX12_found_57 ?_
        refine me_if_eq X 65 (by decide) dX12_found_60 (fun c5 => ?_) (fun c5 => ?_)
        · have h := me_ip c5 h
          refine me_aload_n X (i := 0) 0 rfl dX12_found_65 ?_
          refine me_iload_n X (i := 1) 1 rfl dX12_found_66 ?_
          obtain ⟨v6, e6, h⟩ := me_bd h
          refine me_callVi X [.int p0] (ctX12_foundAt_63 hn (Nat.le_trans (by decide) hnt) e6) kV_X12_295 rfl rfl (Nat.le_of_ble_eq_true rfl) me_k63 (Nat.le_of_ble_eq_true rfl) (Nat.le_refl _) (Nat.le_of_ble_eq_true rfl) dX12_found_67 ?_
          refine me_istore_n X (i := 3) [(3, .int v6), (0, .ref (ad 63)), (1, .int p0), (2, .int p1)] (Nat.le_of_ble_eq_true rfl) rfl dX12_found_70 ?_
          refine me_iconst X dX12_found_71 ic_0 ?_
          refine me_istore X (i := 4) [(4, .int 0), (3, .int v6), (0, .ref (ad 63)), (1, .int p0), (2, .int p1)] (Nat.le_of_ble_eq_true rfl) rfl dX12_found_72 ?_
          refine me_iconst X dX12_found_74 ic_0 ?_
          refine me_istore X (i := 5) [(5, .int 0), (4, .int 0), (3, .int v6), (0, .ref (ad 63)), (1, .int p0), (2, .int p1)] (Nat.le_of_ble_eq_true rfl) rfl dX12_found_75 ?_
          obtain ⟨y4_1, hq1, h⟩ := me_bd h
          have hx1 : me_W p l e R s m args below meth c 0 0 (MQ below (me_Qc D cA ad n A (some (.int r)) M') args s 0 0 A) D cA ad n 6 A 126 [(0, .ref (ad 63)), (2, .int p1), (3, .int v6), (4, .int y4_1)] [] M4 := by
            refine me_iload_n X (i := 2) 1 rfl dX12_found_126 ?_
            refine me_if_ne X 134 (by decide) dX12_found_127 (fun c8 => ?_) (fun c8 => ?_)
            · have h := me_in c8 h
              refine me_iload_n X (i := 2) 1 rfl dX12_found_134 ?_
              refine me_iconst X dX12_found_135 ic_1 ?_
              refine me_icmp_ne X 148 (by decide) dX12_found_136 (fun c9 => ?_) (fun c9 => ?_)
              · have h := me_in c9 h
                refine me_iload_n X (i := 2) 1 rfl dX12_found_148 ?_
                refine me_iconst X dX12_found_149 ic_2 ?_
                refine me_icmp_ne X 162 (by decide) dX12_found_150 (fun c10 => ?_) (fun c10 => ?_)
                · have h := me_in c10 h
                  refine me_iload X (i := 4) 3 rfl dX12_found_162 ?_
                  obtain ⟨rfl, rfl⟩ := me_sp h
                  exact me_iret X hr hlk dX12_found_164
                · have h := me_ip c10 h
                  refine me_aload_n X (i := 0) 0 rfl dX12_found_153 ?_
                  refine me_getr X 79 kF_X12_60 (Nat.le_of_ble_eq_true rfl) me_k63 me_f63_21 dX12_found_154 ?_
                  refine me_iload_n X (i := 3) 2 rfl dX12_found_157 ?_
                  obtain ⟨v9, e9, h⟩ := me_bd h
                  refine me_iald X (Nat.le_of_ble_eq_true rfl) me_k79 e9 dX12_found_158 ?_
                  refine me_goto X 164 (by decide) dX12_found_159 ?_
                  obtain ⟨rfl, rfl⟩ := me_sp h
                  exact me_iret X hr hlk dX12_found_164
              · have h := me_ip c9 h
                refine me_aload_n X (i := 0) 0 rfl dX12_found_139 ?_
                refine me_getr X 80 kF_X12_63 (Nat.le_of_ble_eq_true rfl) me_k63 me_f63_22 dX12_found_140 ?_
                refine me_iload_n X (i := 3) 2 rfl dX12_found_143 ?_
                obtain ⟨v10, e10, h⟩ := me_bd h
                refine me_iald X (Nat.le_of_ble_eq_true rfl) me_k80 e10 dX12_found_144 ?_
                refine me_goto X 164 (by decide) dX12_found_145 ?_
                obtain ⟨rfl, rfl⟩ := me_sp h
                exact me_iret X hr hlk dX12_found_164
            · have h := me_ip c8 h
              refine me_iload_n X (i := 3) 2 rfl dX12_found_130 ?_
              refine me_goto X 164 (by decide) dX12_found_131 ?_
              obtain ⟨rfl, rfl⟩ := me_sp h
              exact me_iret X hr hlk dX12_found_164
          refine me_sub (L' := [(0, .ref (ad 63)), (2, .int p1), (3, .int v6), (4, .int 0), (5, .int 0)]) [3, 5, 2, 1, 0] rfl ?_
          refine me_l_W (b := (mX12_found_63_L77 M4 p1 v6)) (P := fun w => me_W p l e R s m args below meth c 0 0 (MQ below (me_Qc D cA ad n A (some (.int r)) M') args s 0 0 A) D cA ad n 6 A 77 [(0, .ref (ad 63)), (2, .int p1), (3, .int v6), (4, .int w.1), (5, .int w.2)] [] M4) (r := y4_1) ?_ me_fu (0, 0) hq1
          rintro ⟨x4_1, x5_1⟩ z1 h hb1 - hr1
          unfold mX12_found_63_L77 at h
          refine me_iload X (i := 5) 4 rfl dX12_found_77 ?_
          refine me_aload_n X (i := 0) 0 rfl dX12_found_79 ?_
          refine me_geti X kF_X12_263 (Nat.le_of_ble_eq_true rfl) me_k63 me_f63_20 dX12_found_80 ?_
          refine me_icmp_ge X 126 (by decide) dX12_found_83 (fun c6 => ?_) (fun c6 => ?_)
          · have h := me_ip c6 h
            obtain rfl := me_so h
            have q := hr1 _ rfl
            refine me_sub (L' := [(0, .ref (ad 63)), (2, .int p1), (3, .int v6), (4, .int x4_1)]) [0, 1, 2, 3] rfl ?_
            cases q
            exact hx1
          · have h := me_in c6 h
            refine me_iload X (i := 4) 3 rfl dX12_found_86 ?_
            refine me_aload_n X (i := 0) 0 rfl dX12_found_88 ?_
            refine me_getr X 66 kF_X12_28 (Nat.le_of_ble_eq_true rfl) me_k63 me_f63_7 dX12_found_89 ?_
            refine me_iconst X dX12_found_92 ic_0 ?_
            refine me_aald X (j := 67) (Nat.le_of_ble_eq_true rfl) ⟨by decide, by decide, Nat.lt_of_lt_of_le (by decide) hnt⟩ me_k66 (by decide) dX12_found_93 ?_
            refine me_iload_n X (i := 3) 2 rfl dX12_found_94 ?_
            refine me_iload X (i := 5) 4 rfl dX12_found_95 ?_
            refine me_iadd X dX12_found_97 ?_
            obtain ⟨v7, e7, h⟩ := me_bd h
            refine me_iald X (Nat.le_of_ble_eq_true rfl) me_k67 e7 dX12_found_98 ?_
            refine me_aload_n X (i := 0) 0 rfl dX12_found_99 ?_
            refine me_getr X 81 kF_X12_66 (Nat.le_of_ble_eq_true rfl) me_k63 me_f63_23 dX12_found_100 ?_
            refine me_iload X (i := 5) 4 rfl dX12_found_103 ?_
            obtain ⟨v8, e8, h⟩ := me_bd h
            refine me_iald X (Nat.le_of_ble_eq_true rfl) me_k81 e8 dX12_found_105 ?_
            have hj117_4 : ∀ (s3 : Int32), mX12_found_63_J117 p1 v6 x5_1 x4_1 M4 s3 = some z1 → me_W p l e R s m args below meth c 0 0 (MQ below (me_Qc D cA ad n A (some (.int r)) M') args s 0 0 A) D cA ad n 6 A 117 [(0, .ref (ad 63)), (2, .int p1), (3, .int v6), (5, .int x5_1)] [.int s3, .int x4_1] M4 := by
              intro s3 h
              unfold mX12_found_63_J117 at h
              refine me_ior X dX12_found_117 ?_
              refine me_istore X (i := 4) [(4, .int (x4_1 ||| s3)), (0, .ref (ad 63)), (2, .int p1), (3, .int v6), (5, .int x5_1)] (Nat.le_of_ble_eq_true rfl) rfl dX12_found_118 ?_
              refine me_iinc X (v := (x5_1 + 1)) 4 rfl (in_1 _) [(5, .int (x5_1 + 1)), (4, .int (x4_1 ||| s3)), (0, .ref (ad 63)), (2, .int p1), (3, .int v6)] (Nat.le_of_ble_eq_true rfl) rfl dX12_found_120 ?_
              refine me_goto X 77 (by decide) dX12_found_123 ?_
              obtain rfl := me_so h
              refine me_sub (L' := [(0, .ref (ad 63)), (2, .int p1), (3, .int v6), (4, .int (x4_1 ||| s3)), (5, .int (x5_1 + 1))]) [2, 3, 4, 1, 0] rfl ?_
              exact hb1 ((x4_1 ||| s3), (x5_1 + 1)) rfl
            refine me_icmp_eq X 116 (by decide) dX12_found_106 (fun c7 => ?_) (fun c7 => ?_)
            · have h := me_ip c7 h
              refine me_iconst X dX12_found_116 ic_0 ?_
              refine me_sub (L' := [(0, .ref (ad 63)), (2, .int p1), (3, .int v6), (5, .int x5_1)]) [0, 1, 2, 4] rfl ?_
              exact hj117_4 0 h
            · have h := me_in c7 h
              refine me_iconst X dX12_found_109 ic_1 ?_
              refine me_iload X (i := 5) 4 rfl dX12_found_110 ?_
              refine me_ishl X dX12_found_112 ?_
              refine me_goto X 117 (by decide) dX12_found_113 ?_
              refine me_sub (L' := [(0, .ref (ad 63)), (2, .int p1), (3, .int v6), (5, .int x5_1)]) [0, 1, 2, 4] rfl ?_
              exact hj117_4 (1 <<< (x5_1 &&& 31)) h
        · have h := me_in c5 h
          refine me_iconst X dX12_found_63 ic_0 ?_
          obtain ⟨rfl, rfl⟩ := me_sp h
          exact me_iret X hr hlk dX12_found_64
      refine me_if_ne X 54 (by decide) dX12_found_47 (fun c4 => ?_) (fun c4 => ?_)
      · have h := me_in c4 h
        refine me_iconst X dX12_found_54 ic_0 ?_
        exact hj55_3 0 h
      · have h := me_ip c4 h
        refine me_iconst X dX12_found_50 ic_1 ?_
        refine me_goto X 55 (by decide) dX12_found_51 ?_
        exact hj55_3 1 h
  have hj27_1 : ∀ (M1 : me_M), mX12_found_63_J27 p0 p1 M1 = some (r, M') → me_W p l e R s m args below meth c 0 0 (MQ below (me_Qc D cA ad n A (some (.int r)) M') args s 0 0 A) D cA ad n 6 A 27 [(0, .ref (ad 63)), (1, .int p0), (2, .int p1)] [.ref (ad 63)] M1 := by
    intro M1 h
    unfold mX12_found_63_J27 at h
    refine me_iconst X dX12_found_27 ic_1 ?_
    refine me_goto X 32 (by decide) dX12_found_28 ?_
    exact hj32_2 1 M1 h
  refine me_if_eq X 27 (by decide) dX12_found_10 (fun c1 => ?_) (fun c1 => ?_)
  · have h := me_ip c1 h
    exact hj27_1 (me_s M 63 0 0) h
  · have h := me_in c1 h
    refine me_iload_n X (i := 1) 1 rfl dX12_found_13 ?_
    refine me_iconst X dX12_found_14 ic_0 ?_
    refine me_aload_n X (i := 0) 0 rfl dX12_found_15 ?_
    obtain ⟨v1, e1, h⟩ := me_bd h
    refine me_callVi X [] (ctX12_places_63 hn (Nat.le_trans (by decide) hnt) e1) kV_X12_217 rfl rfl (Nat.le_of_ble_eq_true rfl) me_k63 (Nat.le_of_ble_eq_true rfl) (Nat.le_refl _) (Nat.le_of_ble_eq_true rfl) dX12_found_16 ?_
    refine me_iconst X dX12_found_19 ic_1 ?_
    refine me_isub X dX12_found_20 ?_
    obtain ⟨v2, e2, h⟩ := me_bd h
    refine me_callSi X [.int p0, .int 0, .int (v1 - 1)] (ctX12_in hn (Nat.le_trans (by decide) hnt) e2) kS_X12_108 rfl rfl (Nat.le_of_ble_eq_true rfl) (Nat.le_refl _) (Nat.le_of_ble_eq_true rfl) dX12_found_21 ?_
    refine me_if_ne X 31 (by decide) dX12_found_24 (fun c2 => ?_) (fun c2 => ?_)
    · have h := me_in c2 h
      refine me_iconst X dX12_found_31 ic_0 ?_
      exact hj32_2 0 (me_s M 63 0 0) h
    · have h := me_ip c2 h
      exact hj27_1 (me_s M 63 0 0) h
def mX12_result_63_J98 (p0 : Int32) (x4_1 : Int32) (M2 : me_M) (x2_2 : Int32) (x3_2 : Int32) : Option ((Int32 × Int32 × Int32) ⊕ (Int32 × Int32)) :=
  some (.inl (x2_2, x3_2, (x4_1 + 1)))
def mX12_result_63_J84 (p0 : Int32) (x3_1 : Int32) (x4_1 : Int32) (x2_1 : Int32) (M2 : me_M) (s2 : Int32) : Option ((Int32 × Int32 × Int32) ⊕ (Int32 × Int32)) :=
  ((me_r M2 80 241 x4_1).bind fun v5 => ((mX12_more x3_1 v5).bind fun v6 => (mX12_result_63_J98 p0 x4_1 M2 (x2_1 + s2) v6)))
def mX12_result_63_L46 (M2 : me_M) (p0 : Int32) : (Int32 × Int32 × Int32) → Option ((Int32 × Int32 × Int32) ⊕ (Int32 × Int32))
  | (x2_1, x3_1, x4_1) => (if (M2.1 63 5) ≤ x4_1 then some (.inr (x2_1, x3_1)) else ((me_r M2 79 241 x4_1).bind fun v3 => (if v3 = 0 then (mX12_result_63_J98 p0 x4_1 M2 x2_1 x3_1) else ((me_r M2 80 241 x4_1).bind fun v4 => (if v4 = 0 then (mX12_result_63_J84 p0 x3_1 x4_1 x2_1 M2 1) else (mX12_result_63_J84 p0 x3_1 x4_1 x2_1 M2 0))))))
def mX12_result_63_J20 (p0 : Int32) (s1 : Int32) (M1 : me_M) : Option (Int32 × me_M) :=
  ((mX12_bad_63 M1 s1 1 1).bind fun (v2, M2) => (if v2 = 0 then (if (M2.1 63 17) = 0 then some ((-1), M2) else ((me_l (mX12_result_63_L46 M2 p0) me_fu (0, (-1), 0)).bind fun (y2_1, y3_1) => (if p0 = 0 then some ((M2.1 63 19), M2) else (if p0 = 1 then some ((M2.1 63 18), M2) else (if p0 = 2 then some (y2_1, M2) else (if p0 = 3 then some (y3_1, M2) else some ((M2.1 63 20), M2))))))) else some (0, M2)))
def mX12_result_63 (M : me_M) (p0 : Int32) : Option (Int32 × me_M) :=
  ((mX12_in p0 0 4).bind fun v1 => (if v1 = 0 then (mX12_result_63_J20 p0 1 (me_s M 63 0 0)) else (mX12_result_63_J20 p0 0 (me_s M 63 0 0))))
set_option maxRecDepth 100000 in
set_option maxHeartbeats 4000000 in
theorem ctX12_result_63 {l : Launch} {n nt : Nat} (hn : 424 ≤ n) (hnt : 4 ≤ nt) {M : me_M} {p0 : Int32} {r : Int32} {M' : me_M} (h : mX12_result_63 M p0 = some (r, M')) : me_Ct l yX12_result cX12_result 5 (some .int) 1 n nt (fun ad => [.ref (ad 63), .int p0]) M (fun _ => some (.int r)) M' := by
  unfold mX12_result_63 at h
  refine me_enter (N0 := 424) RX12 rfl (plainFor_of_name pl_RX12) hn (Nat.le_trans (by decide) hnt) (fun _ => Nat.le_of_ble_eq_true rfl) ?_
  intro p e R s m args below meth c D cA ad tys A X hr hlk
  refine me_sub (L' := [(0, .ref (ad 63)), (1, .int p0)]) [0, 1] rfl ?_
  refine me_aload_n X (i := 0) 0 rfl dX12_result_0 ?_
  refine me_iconst X dX12_result_1 ic_0 ?_
  refine me_puti X kG_X12_105 (Nat.le_of_ble_eq_true rfl) me_k63 me_f63_0 dX12_result_2 ?_
  refine me_aload_n X (i := 0) 0 rfl dX12_result_5 ?_
  refine me_iload_n X (i := 1) 1 rfl dX12_result_6 ?_
  refine me_iconst X dX12_result_7 ic_0 ?_
  refine me_iconst X dX12_result_8 ic_4 ?_
  obtain ⟨v1, e1, h⟩ := me_bd h
  refine me_callSi X [.int p0, .int 0, .int 4] (ctX12_in hn (Nat.le_trans (by decide) hnt) e1) kS_X12_108 rfl rfl (Nat.le_of_ble_eq_true rfl) (Nat.le_refl _) (Nat.le_of_ble_eq_true rfl) dX12_result_9 ?_
  have hj20_1 : ∀ (s1 : Int32) (M1 : me_M), mX12_result_63_J20 p0 s1 M1 = some (r, M') → me_W p l e R s m args below meth c 0 0 (MQ below (me_Qc D cA ad n A (some (.int r)) M') args s 0 0 A) D cA ad n 5 A 20 [(0, .ref (ad 63)), (1, .int p0)] [.int s1, .ref (ad 63)] M1 := by
    intro s1 M1 h
    unfold mX12_result_63_J20 at h
    refine me_iconst X dX12_result_20 ic_1 ?_
    refine me_iconst X dX12_result_21 ic_1 ?_
    obtain ⟨⟨v2, M2⟩, e2, h⟩ := me_bd h
    refine me_callVi X [.int s1, .int 1, .int 1] (ctX12_bad_63 hn (Nat.le_trans (by decide) hnt) e2) kV_X12_122 rfl rfl (Nat.le_of_ble_eq_true rfl) me_k63 (Nat.le_of_ble_eq_true rfl) (Nat.le_refl _) (Nat.le_of_ble_eq_true rfl) dX12_result_22 ?_
    refine me_if_eq X 30 (by decide) dX12_result_25 (fun c2 => ?_) (fun c2 => ?_)
    · have h := me_ip c2 h
      refine me_aload_n X (i := 0) 0 rfl dX12_result_30 ?_
      refine me_geti X kF_X12_130 (Nat.le_of_ble_eq_true rfl) me_k63 me_f63_17 dX12_result_31 ?_
      refine me_if_ne X 39 (by decide) dX12_result_34 (fun c3 => ?_) (fun c3 => ?_)
      · have h := me_in c3 h
        refine me_iconst X dX12_result_39 ic_0 ?_
        refine me_istore_n X (i := 2) [(2, .int 0), (0, .ref (ad 63)), (1, .int p0)] (Nat.le_of_ble_eq_true rfl) rfl dX12_result_40 ?_
        refine me_iconst X dX12_result_41 ic_m1 ?_
        refine me_istore_n X (i := 3) [(3, .int (-1)), (2, .int 0), (0, .ref (ad 63)), (1, .int p0)] (Nat.le_of_ble_eq_true rfl) rfl dX12_result_42 ?_
        refine me_iconst X dX12_result_43 ic_0 ?_
        refine me_istore X (i := 4) [(4, .int 0), (3, .int (-1)), (2, .int 0), (0, .ref (ad 63)), (1, .int p0)] (Nat.le_of_ble_eq_true rfl) rfl dX12_result_44 ?_
        obtain ⟨⟨y2_1, y3_1⟩, hq1, h⟩ := me_bd h
        have hx1 : me_W p l e R s m args below meth c 0 0 (MQ below (me_Qc D cA ad n A (some (.int r)) M') args s 0 0 A) D cA ad n 5 A 104 [(0, .ref (ad 63)), (1, .int p0), (2, .int y2_1), (3, .int y3_1)] [] M2 := by
          refine me_iload_n X (i := 1) 1 rfl dX12_result_104 ?_
          refine me_if_ne X 115 (by decide) dX12_result_105 (fun c7 => ?_) (fun c7 => ?_)
          · have h := me_in c7 h
            refine me_iload_n X (i := 1) 1 rfl dX12_result_115 ?_
            refine me_iconst X dX12_result_116 ic_1 ?_
            refine me_icmp_ne X 127 (by decide) dX12_result_117 (fun c8 => ?_) (fun c8 => ?_)
            · have h := me_in c8 h
              refine me_iload_n X (i := 1) 1 rfl dX12_result_127 ?_
              refine me_iconst X dX12_result_128 ic_2 ?_
              refine me_icmp_ne X 136 (by decide) dX12_result_129 (fun c9 => ?_) (fun c9 => ?_)
              · have h := me_in c9 h
                refine me_iload_n X (i := 1) 1 rfl dX12_result_136 ?_
                refine me_iconst X dX12_result_137 ic_3 ?_
                refine me_icmp_ne X 145 (by decide) dX12_result_138 (fun c10 => ?_) (fun c10 => ?_)
                · have h := me_in c10 h
                  refine me_aload_n X (i := 0) 0 rfl dX12_result_145 ?_
                  refine me_geti X kF_X12_263 (Nat.le_of_ble_eq_true rfl) me_k63 me_f63_20 dX12_result_146 ?_
                  obtain ⟨rfl, rfl⟩ := me_sp h
                  exact me_iret X hr hlk dX12_result_149
                · have h := me_ip c10 h
                  refine me_iload_n X (i := 3) 3 rfl dX12_result_141 ?_
                  refine me_goto X 149 (by decide) dX12_result_142 ?_
                  obtain ⟨rfl, rfl⟩ := me_sp h
                  exact me_iret X hr hlk dX12_result_149
              · have h := me_ip c9 h
                refine me_iload_n X (i := 2) 2 rfl dX12_result_132 ?_
                refine me_goto X 149 (by decide) dX12_result_133 ?_
                obtain ⟨rfl, rfl⟩ := me_sp h
                exact me_iret X hr hlk dX12_result_149
            · have h := me_ip c8 h
              refine me_aload_n X (i := 0) 0 rfl dX12_result_120 ?_
              refine me_geti X kF_X12_289 (Nat.le_of_ble_eq_true rfl) me_k63 me_f63_18 dX12_result_121 ?_
              refine me_goto X 149 (by decide) dX12_result_124 ?_
              obtain ⟨rfl, rfl⟩ := me_sp h
              exact me_iret X hr hlk dX12_result_149
          · have h := me_ip c7 h
            refine me_aload_n X (i := 0) 0 rfl dX12_result_108 ?_
            refine me_geti X kF_X12_292 (Nat.le_of_ble_eq_true rfl) me_k63 me_f63_19 dX12_result_109 ?_
            refine me_goto X 149 (by decide) dX12_result_112 ?_
            obtain ⟨rfl, rfl⟩ := me_sp h
            exact me_iret X hr hlk dX12_result_149
        refine me_sub (L' := [(0, .ref (ad 63)), (1, .int p0), (2, .int 0), (3, .int (-1)), (4, .int 0)]) [3, 4, 2, 1, 0] rfl ?_
        refine me_l_W (b := (mX12_result_63_L46 M2 p0)) (P := fun w => me_W p l e R s m args below meth c 0 0 (MQ below (me_Qc D cA ad n A (some (.int r)) M') args s 0 0 A) D cA ad n 5 A 46 [(0, .ref (ad 63)), (1, .int p0), (2, .int w.1), (3, .int w.2.1), (4, .int w.2.2)] [] M2) (r := (y2_1, y3_1)) ?_ me_fu (0, (-1), 0) hq1
        rintro ⟨x2_1, x3_1, x4_1⟩ z1 h hb1 - hr1
        unfold mX12_result_63_L46 at h
        refine me_iload X (i := 4) 4 rfl dX12_result_46 ?_
        refine me_aload_n X (i := 0) 0 rfl dX12_result_48 ?_
        refine me_geti X kF_X12_20 (Nat.le_of_ble_eq_true rfl) me_k63 me_f63_5 dX12_result_49 ?_
        refine me_icmp_ge X 104 (by decide) dX12_result_52 (fun c4 => ?_) (fun c4 => ?_)
        · have h := me_ip c4 h
          obtain rfl := me_so h
          have q := hr1 _ rfl
          refine me_sub (L' := [(0, .ref (ad 63)), (1, .int p0), (2, .int x2_1), (3, .int x3_1)]) [0, 1, 2, 3] rfl ?_
          cases q
          exact hx1
        · have h := me_in c4 h
          refine me_aload_n X (i := 0) 0 rfl dX12_result_55 ?_
          refine me_getr X 79 kF_X12_60 (Nat.le_of_ble_eq_true rfl) me_k63 me_f63_21 dX12_result_56 ?_
          refine me_iload X (i := 4) 4 rfl dX12_result_59 ?_
          obtain ⟨v3, e3, h⟩ := me_bd h
          refine me_iald X (Nat.le_of_ble_eq_true rfl) me_k79 e3 dX12_result_61 ?_
          have hj98_2 : ∀ (x2_2 : Int32) (x3_2 : Int32), mX12_result_63_J98 p0 x4_1 M2 x2_2 x3_2 = some z1 → me_W p l e R s m args below meth c 0 0 (MQ below (me_Qc D cA ad n A (some (.int r)) M') args s 0 0 A) D cA ad n 5 A 98 [(0, .ref (ad 63)), (1, .int p0), (2, .int x2_2), (3, .int x3_2), (4, .int x4_1)] [] M2 := by
            intro x2_2 x3_2 h
            unfold mX12_result_63_J98 at h
            refine me_iinc X (v := (x4_1 + 1)) 4 rfl (in_1 _) [(4, .int (x4_1 + 1)), (0, .ref (ad 63)), (1, .int p0), (2, .int x2_2), (3, .int x3_2)] (Nat.le_of_ble_eq_true rfl) rfl dX12_result_98 ?_
            refine me_goto X 46 (by decide) dX12_result_101 ?_
            obtain rfl := me_so h
            refine me_sub (L' := [(0, .ref (ad 63)), (1, .int p0), (2, .int x2_2), (3, .int x3_2), (4, .int (x4_1 + 1))]) [1, 2, 3, 4, 0] rfl ?_
            exact hb1 (x2_2, x3_2, (x4_1 + 1)) rfl
          refine me_if_ne X 68 (by decide) dX12_result_62 (fun c5 => ?_) (fun c5 => ?_)
          · have h := me_in c5 h
            refine me_iload_n X (i := 2) 2 rfl dX12_result_68 ?_
            refine me_aload_n X (i := 0) 0 rfl dX12_result_69 ?_
            refine me_getr X 80 kF_X12_63 (Nat.le_of_ble_eq_true rfl) me_k63 me_f63_22 dX12_result_70 ?_
            refine me_iload X (i := 4) 4 rfl dX12_result_73 ?_
            obtain ⟨v4, e4, h⟩ := me_bd h
            refine me_iald X (Nat.le_of_ble_eq_true rfl) me_k80 e4 dX12_result_75 ?_
            have hj84_3 : ∀ (s2 : Int32), mX12_result_63_J84 p0 x3_1 x4_1 x2_1 M2 s2 = some z1 → me_W p l e R s m args below meth c 0 0 (MQ below (me_Qc D cA ad n A (some (.int r)) M') args s 0 0 A) D cA ad n 5 A 84 [(0, .ref (ad 63)), (1, .int p0), (3, .int x3_1), (4, .int x4_1)] [.int s2, .int x2_1] M2 := by
              intro s2 h
              unfold mX12_result_63_J84 at h
              refine me_iadd X dX12_result_84 ?_
              refine me_istore_n X (i := 2) [(2, .int (x2_1 + s2)), (0, .ref (ad 63)), (1, .int p0), (3, .int x3_1), (4, .int x4_1)] (Nat.le_of_ble_eq_true rfl) rfl dX12_result_85 ?_
              refine me_iload_n X (i := 3) 3 rfl dX12_result_86 ?_
              refine me_aload_n X (i := 0) 1 rfl dX12_result_87 ?_
              refine me_getr X 80 kF_X12_63 (Nat.le_of_ble_eq_true rfl) me_k63 me_f63_22 dX12_result_88 ?_
              refine me_iload X (i := 4) 4 rfl dX12_result_91 ?_
              obtain ⟨v5, e5, h⟩ := me_bd h
              refine me_iald X (Nat.le_of_ble_eq_true rfl) me_k80 e5 dX12_result_93 ?_
              obtain ⟨v6, e6, h⟩ := me_bd h
              refine me_callSi X [.int x3_1, .int v5] (ctX12_more hn (Nat.le_trans (by decide) hnt) e6) kS_X12_202 rfl rfl (Nat.le_of_ble_eq_true rfl) (Nat.le_refl _) (Nat.le_of_ble_eq_true rfl) dX12_result_94 ?_
              refine me_istore_n X (i := 3) [(3, .int v6), (2, .int (x2_1 + s2)), (0, .ref (ad 63)), (1, .int p0), (4, .int x4_1)] (Nat.le_of_ble_eq_true rfl) rfl dX12_result_97 ?_
              refine me_sub (L' := [(0, .ref (ad 63)), (1, .int p0), (2, .int (x2_1 + s2)), (3, .int v6), (4, .int x4_1)]) [2, 3, 1, 0, 4] rfl ?_
              exact hj98_2 (x2_1 + s2) v6 h
            refine me_if_ne X 83 (by decide) dX12_result_76 (fun c6 => ?_) (fun c6 => ?_)
            · have h := me_in c6 h
              refine me_iconst X dX12_result_83 ic_0 ?_
              refine me_sub (L' := [(0, .ref (ad 63)), (1, .int p0), (3, .int x3_1), (4, .int x4_1)]) [0, 1, 3, 4] rfl ?_
              exact hj84_3 0 h
            · have h := me_ip c6 h
              refine me_iconst X dX12_result_79 ic_1 ?_
              refine me_goto X 84 (by decide) dX12_result_80 ?_
              refine me_sub (L' := [(0, .ref (ad 63)), (1, .int p0), (3, .int x3_1), (4, .int x4_1)]) [0, 1, 3, 4] rfl ?_
              exact hj84_3 1 h
          · have h := me_ip c5 h
            refine me_goto X 98 (by decide) dX12_result_65 ?_
            exact hj98_2 x2_1 x3_1 h
      · have h := me_ip c3 h
        refine me_iconst X dX12_result_37 ic_m1 ?_
        obtain ⟨rfl, rfl⟩ := me_sp h
        exact me_iret X hr hlk dX12_result_38
    · have h := me_in c2 h
      refine me_iconst X dX12_result_28 ic_0 ?_
      obtain ⟨rfl, rfl⟩ := me_sp h
      exact me_iret X hr hlk dX12_result_29
  refine me_if_ne X 19 (by decide) dX12_result_12 (fun c1 => ?_) (fun c1 => ?_)
  · have h := me_in c1 h
    refine me_iconst X dX12_result_19 ic_0 ?_
    exact hj20_1 0 (me_s M 63 0 0) h
  · have h := me_ip c1 h
    refine me_iconst X dX12_result_15 ic_1 ?_
    refine me_goto X 20 (by decide) dX12_result_16 ?_
    exact hj20_1 1 (me_s M 63 0 0) h
def mX12_ran_63_J50 (p0 : Int32) (p1 : Int32) (M2 : me_M) (s2 : Int32) : Option (Int32 × me_M) :=
  ((mX12_bad_63 M2 s2 2 1).bind fun (v5, M3) => (if v5 = 0 then (if (M3.1 63 17) = 0 then some ((-1), M3) else ((me_r M3 78 2 0).bind fun v6 => (if v6 ≤ (M3.1 63 20) then ((mX12_runs_63 (me_s (me_s (me_s M3 63 37 1) 63 35 0) 63 36 0) p0).bind fun M4 => (if p1 = 0 then some (((me_s M4 63 37 0).1 63 36), (me_s M4 63 37 0)) else some (((me_s M4 63 37 0).1 63 35), (me_s M4 63 37 0)))) else some ((-1), M3)))) else some (0, M3)))
def mX12_ran_63_J27 (p0 : Int32) (p1 : Int32) (s1 : Int32) (M1 : me_M) : Option (Int32 × me_M) :=
  ((mX12_bad_63 M1 s1 1 0).bind fun (v3, M2) => (if v3 = 0 then ((mX12_in p1 0 1).bind fun v4 => (if v4 = 0 then (mX12_ran_63_J50 p0 p1 M2 1) else (mX12_ran_63_J50 p0 p1 M2 0))) else some (0, M2)))
def mX12_ran_63 (M : me_M) (p0 : Int32) (p1 : Int32) : Option (Int32 × me_M) :=
  ((me_r (me_s M 63 0 0) 77 2 0).bind fun v1 => ((mX12_in p0 0 (v1 - 1)).bind fun v2 => (if v2 = 0 then (mX12_ran_63_J27 p0 p1 1 (me_s M 63 0 0)) else (mX12_ran_63_J27 p0 p1 0 (me_s M 63 0 0)))))
set_option maxRecDepth 100000 in
set_option maxHeartbeats 4000000 in
theorem ctX12_ran_63 {l : Launch} {n nt : Nat} (hn : 424 ≤ n) (hnt : 4 ≤ nt) {M : me_M} {p0 : Int32} {p1 : Int32} {r : Int32} {M' : me_M} (h : mX12_ran_63 M p0 p1 = some (r, M')) : me_Ct l yX12_ran cX12_ran 3 (some .int) 29 n nt (fun ad => [.ref (ad 63), .int p0, .int p1]) M (fun _ => some (.int r)) M' := by
  unfold mX12_ran_63 at h
  refine me_enter (N0 := 424) RX12 rfl (plainFor_of_name pl_RX12) hn (Nat.le_trans (by decide) hnt) (fun _ => Nat.le_of_ble_eq_true rfl) ?_
  intro p e R s m args below meth c D cA ad tys A X hr hlk
  refine me_sub (L' := [(0, .ref (ad 63)), (1, .int p0), (2, .int p1)]) [0, 1, 2] rfl ?_
  refine me_aload_n X (i := 0) 0 rfl dX12_ran_0 ?_
  refine me_iconst X dX12_ran_1 ic_0 ?_
  refine me_puti X kG_X12_105 (Nat.le_of_ble_eq_true rfl) me_k63 me_f63_0 dX12_ran_2 ?_
  refine me_aload_n X (i := 0) 0 rfl dX12_ran_5 ?_
  refine me_iload_n X (i := 1) 1 rfl dX12_ran_6 ?_
  refine me_iconst X dX12_ran_7 ic_0 ?_
  refine me_aload_n X (i := 0) 0 rfl dX12_ran_8 ?_
  refine me_getr X 77 kF_X12_49 (Nat.le_of_ble_eq_true rfl) me_k63 me_f63_14 dX12_ran_9 ?_
  refine me_iconst X dX12_ran_12 ic_0 ?_
  obtain ⟨v1, e1, h⟩ := me_bd h
  refine me_iald X (Nat.le_of_ble_eq_true rfl) me_k77 e1 dX12_ran_13 ?_
  refine me_iconst X dX12_ran_14 ic_1 ?_
  refine me_isub X dX12_ran_15 ?_
  obtain ⟨v2, e2, h⟩ := me_bd h
  refine me_callSi X [.int p0, .int 0, .int (v1 - 1)] (ctX12_in hn (Nat.le_trans (by decide) hnt) e2) kS_X12_108 rfl rfl (Nat.le_of_ble_eq_true rfl) (Nat.le_refl _) (Nat.le_of_ble_eq_true rfl) dX12_ran_16 ?_
  have hj27_1 : ∀ (s1 : Int32) (M1 : me_M), mX12_ran_63_J27 p0 p1 s1 M1 = some (r, M') → me_W p l e R s m args below meth c 0 0 (MQ below (me_Qc D cA ad n A (some (.int r)) M') args s 0 0 A) D cA ad n 3 A 27 [(0, .ref (ad 63)), (1, .int p0), (2, .int p1)] [.int s1, .ref (ad 63)] M1 := by
    intro s1 M1 h
    unfold mX12_ran_63_J27 at h
    refine me_iconst X dX12_ran_27 ic_1 ?_
    refine me_iconst X dX12_ran_28 ic_0 ?_
    obtain ⟨⟨v3, M2⟩, e3, h⟩ := me_bd h
    refine me_callVi X [.int s1, .int 1, .int 0] (ctX12_bad_63 hn (Nat.le_trans (by decide) hnt) e3) kV_X12_122 rfl rfl (Nat.le_of_ble_eq_true rfl) me_k63 (Nat.le_of_ble_eq_true rfl) (Nat.le_refl _) (Nat.le_of_ble_eq_true rfl) dX12_ran_29 ?_
    refine me_if_ne X 58 (by decide) dX12_ran_32 (fun c2 => ?_) (fun c2 => ?_)
    · have h := me_in c2 h
      refine me_iconst X dX12_ran_58 ic_0 ?_
      obtain ⟨rfl, rfl⟩ := me_sp h
      exact me_iret X hr hlk dX12_ran_59
    · have h := me_ip c2 h
      refine me_aload_n X (i := 0) 0 rfl dX12_ran_35 ?_
      refine me_iload_n X (i := 2) 2 rfl dX12_ran_36 ?_
      refine me_iconst X dX12_ran_37 ic_0 ?_
      refine me_iconst X dX12_ran_38 ic_1 ?_
      obtain ⟨v4, e4, h⟩ := me_bd h
      refine me_callSi X [.int p1, .int 0, .int 1] (ctX12_in hn (Nat.le_trans (by decide) hnt) e4) kS_X12_108 rfl rfl (Nat.le_of_ble_eq_true rfl) (Nat.le_refl _) (Nat.le_of_ble_eq_true rfl) dX12_ran_39 ?_
      have hj50_2 : ∀ (s2 : Int32), mX12_ran_63_J50 p0 p1 M2 s2 = some (r, M') → me_W p l e R s m args below meth c 0 0 (MQ below (me_Qc D cA ad n A (some (.int r)) M') args s 0 0 A) D cA ad n 3 A 50 [(0, .ref (ad 63)), (1, .int p0), (2, .int p1)] [.int s2, .ref (ad 63)] M2 := by
        intro s2 h
        unfold mX12_ran_63_J50 at h
        refine me_iconst X dX12_ran_50 ic_2 ?_
        refine me_iconst X dX12_ran_51 ic_1 ?_
        obtain ⟨⟨v5, M3⟩, e5, h⟩ := me_bd h
        refine me_callVi X [.int s2, .int 2, .int 1] (ctX12_bad_63 hn (Nat.le_trans (by decide) hnt) e5) kV_X12_122 rfl rfl (Nat.le_of_ble_eq_true rfl) me_k63 (Nat.le_of_ble_eq_true rfl) (Nat.le_refl _) (Nat.le_of_ble_eq_true rfl) dX12_ran_52 ?_
        refine me_if_eq X 60 (by decide) dX12_ran_55 (fun c4 => ?_) (fun c4 => ?_)
        · have h := me_ip c4 h
          refine me_aload_n X (i := 0) 0 rfl dX12_ran_60 ?_
          refine me_geti X kF_X12_130 (Nat.le_of_ble_eq_true rfl) me_k63 me_f63_17 dX12_ran_61 ?_
          refine me_if_eq X 80 (by decide) dX12_ran_64 (fun c5 => ?_) (fun c5 => ?_)
          · have h := me_ip c5 h
            refine me_iconst X dX12_ran_80 ic_m1 ?_
            obtain ⟨rfl, rfl⟩ := me_sp h
            exact me_iret X hr hlk dX12_ran_81
          · have h := me_in c5 h
            refine me_aload_n X (i := 0) 0 rfl dX12_ran_67 ?_
            refine me_geti X kF_X12_263 (Nat.le_of_ble_eq_true rfl) me_k63 me_f63_20 dX12_ran_68 ?_
            refine me_aload_n X (i := 0) 0 rfl dX12_ran_71 ?_
            refine me_getr X 78 kF_X12_52 (Nat.le_of_ble_eq_true rfl) me_k63 me_f63_15 dX12_ran_72 ?_
            refine me_iconst X dX12_ran_75 ic_0 ?_
            obtain ⟨v6, e6, h⟩ := me_bd h
            refine me_iald X (Nat.le_of_ble_eq_true rfl) me_k78 e6 dX12_ran_76 ?_
            refine me_icmp_ge X 82 (by decide) dX12_ran_77 (fun c6 => ?_) (fun c6 => ?_)
            · have h := me_ip c6 h
              refine me_aload_n X (i := 0) 0 rfl dX12_ran_82 ?_
              refine me_iconst X dX12_ran_83 ic_1 ?_
              refine me_putz X ⟨by decide, by decide⟩ kG_X12_269 (Nat.le_of_ble_eq_true rfl) me_k63 me_f63_37 dX12_ran_84 ?_
              refine me_aload_n X (i := 0) 0 rfl dX12_ran_87 ?_
              refine me_iconst X dX12_ran_88 ic_0 ?_
              refine me_puti X kG_X12_272 (Nat.le_of_ble_eq_true rfl) me_k63 me_f63_35 dX12_ran_89 ?_
              refine me_aload_n X (i := 0) 0 rfl dX12_ran_92 ?_
              refine me_iconst X dX12_ran_93 ic_0 ?_
              refine me_puti X kG_X12_266 (Nat.le_of_ble_eq_true rfl) me_k63 me_f63_36 dX12_ran_94 ?_
              refine me_aload_n X (i := 0) 0 rfl dX12_ran_97 ?_
              refine me_iload_n X (i := 1) 1 rfl dX12_ran_98 ?_
              obtain ⟨M4, e7, h⟩ := me_bd h
              refine me_callVv X [.int p0] (ctX12_runs_63 hn (Nat.le_trans (by decide) hnt) e7) kV_X12_286 rfl rfl (Nat.le_of_ble_eq_true rfl) me_k63 (Nat.le_of_ble_eq_true rfl) (Nat.le_refl _) (Nat.le_of_ble_eq_true rfl) dX12_ran_99 ?_
              refine me_aload_n X (i := 0) 0 rfl dX12_ran_102 ?_
              refine me_iconst X dX12_ran_103 ic_0 ?_
              refine me_putz X ⟨by decide, by decide⟩ kG_X12_269 (Nat.le_of_ble_eq_true rfl) me_k63 me_f63_37 dX12_ran_104 ?_
              refine me_iload_n X (i := 2) 2 rfl dX12_ran_107 ?_
              refine me_if_ne X 118 (by decide) dX12_ran_108 (fun c7 => ?_) (fun c7 => ?_)
              · have h := me_in c7 h
                refine me_aload_n X (i := 0) 0 rfl dX12_ran_118 ?_
                refine me_geti X kF_X12_272 (Nat.le_of_ble_eq_true rfl) me_k63 me_f63_35 dX12_ran_119 ?_
                obtain ⟨rfl, rfl⟩ := me_sp h
                exact me_iret X hr hlk dX12_ran_122
              · have h := me_ip c7 h
                refine me_aload_n X (i := 0) 0 rfl dX12_ran_111 ?_
                refine me_geti X kF_X12_266 (Nat.le_of_ble_eq_true rfl) me_k63 me_f63_36 dX12_ran_112 ?_
                refine me_goto X 122 (by decide) dX12_ran_115 ?_
                obtain ⟨rfl, rfl⟩ := me_sp h
                exact me_iret X hr hlk dX12_ran_122
            · have h := me_in c6 h
              refine me_iconst X dX12_ran_80 ic_m1 ?_
              obtain ⟨rfl, rfl⟩ := me_sp h
              exact me_iret X hr hlk dX12_ran_81
        · have h := me_in c4 h
          refine me_iconst X dX12_ran_58 ic_0 ?_
          obtain ⟨rfl, rfl⟩ := me_sp h
          exact me_iret X hr hlk dX12_ran_59
      refine me_if_ne X 49 (by decide) dX12_ran_42 (fun c3 => ?_) (fun c3 => ?_)
      · have h := me_in c3 h
        refine me_iconst X dX12_ran_49 ic_0 ?_
        exact hj50_2 0 h
      · have h := me_ip c3 h
        refine me_iconst X dX12_ran_45 ic_1 ?_
        refine me_goto X 50 (by decide) dX12_ran_46 ?_
        exact hj50_2 1 h
  refine me_if_ne X 26 (by decide) dX12_ran_19 (fun c1 => ?_) (fun c1 => ?_)
  · have h := me_in c1 h
    refine me_iconst X dX12_ran_26 ic_0 ?_
    exact hj27_1 0 (me_s M 63 0 0) h
  · have h := me_ip c1 h
    refine me_iconst X dX12_ran_22 ic_1 ?_
    refine me_goto X 27 (by decide) dX12_ran_23 ?_
    exact hj27_1 1 (me_s M 63 0 0) h
def mX12_run_63_L2 (M : me_M) (p0 : Int32) : (Int32) → Option ((Int32) ⊕ (Int32))
  | x2_1 => (if (M.1 63 5) ≤ (p0 + x2_1) then some (.inr x2_1) else ((me_r M 67 241 (p0 + x2_1)).bind fun v1 => (if v1 = 1 then some (.inr x2_1) else some (.inl (x2_1 + 1)))))
def mX12_run_63 (M : me_M) (p0 : Int32) : Option Int32 :=
  ((me_l (mX12_run_63_L2 M p0) me_fu 0).bind fun y2_1 => some y2_1)
set_option maxRecDepth 100000 in
set_option maxHeartbeats 4000000 in
theorem ctX12_run_63 {l : Launch} {n nt : Nat} (hn : 424 ≤ n) (hnt : 4 ≤ nt) {M : me_M} {p0 : Int32} {r : Int32} (h : mX12_run_63 M p0 = some r) : me_Ct l yX12_run cX12_run 3 (some .int) 0 n nt (fun ad => [.ref (ad 63), .int p0]) M (fun _ => some (.int r)) M := by
  unfold mX12_run_63 at h
  refine me_enter (N0 := 424) RX12 rfl (plainFor_of_name pl_RX12) hn (Nat.le_trans (by decide) hnt) (fun _ => Nat.le_of_ble_eq_true rfl) ?_
  intro p e R s m args below meth c D cA ad tys A X hr hlk
  refine me_sub (L' := [(0, .ref (ad 63)), (1, .int p0)]) [0, 1] rfl ?_
  refine me_iconst X dX12_run_0 ic_0 ?_
  refine me_istore_n X (i := 2) [(2, .int 0), (0, .ref (ad 63)), (1, .int p0)] (Nat.le_of_ble_eq_true rfl) rfl dX12_run_1 ?_
  obtain ⟨y2_1, hq1, h⟩ := me_bd h
  have hx1 : me_W p l e R s m args below meth c 0 0 (MQ below (me_Qc D cA ad n A (some (.int r)) M) args s 0 0 A) D cA ad n 3 A 32 [(2, .int y2_1)] [] M := by
    refine me_iload_n X (i := 2) 0 rfl dX12_run_32 ?_
    obtain rfl := me_so h
    exact me_iret X hr hlk dX12_run_33
  refine me_sub (L' := [(0, .ref (ad 63)), (1, .int p0), (2, .int 0)]) [1, 2, 0] rfl ?_
  refine me_l_W (b := (mX12_run_63_L2 M p0)) (P := fun w => me_W p l e R s m args below meth c 0 0 (MQ below (me_Qc D cA ad n A (some (.int r)) M) args s 0 0 A) D cA ad n 3 A 2 [(0, .ref (ad 63)), (1, .int p0), (2, .int w)] [] M) (r := y2_1) ?_ me_fu 0 hq1
  rintro x2_1 z1 h hb1 - hr1
  unfold mX12_run_63_L2 at h
  refine me_iload_n X (i := 1) 1 rfl dX12_run_2 ?_
  refine me_iload_n X (i := 2) 2 rfl dX12_run_3 ?_
  refine me_iadd X dX12_run_4 ?_
  refine me_aload_n X (i := 0) 0 rfl dX12_run_5 ?_
  refine me_geti X kF_X12_20 (Nat.le_of_ble_eq_true rfl) me_k63 me_f63_5 dX12_run_6 ?_
  refine me_icmp_ge X 32 (by decide) dX12_run_9 (fun c1 => ?_) (fun c1 => ?_)
  · have h := me_ip c1 h
    obtain rfl := me_so h
    have q := hr1 _ rfl
    refine me_sub (L' := [(2, .int x2_1)]) [2] rfl ?_
    cases q
    exact hx1
  · have h := me_in c1 h
    refine me_aload_n X (i := 0) 0 rfl dX12_run_12 ?_
    refine me_getr X 66 kF_X12_28 (Nat.le_of_ble_eq_true rfl) me_k63 me_f63_7 dX12_run_13 ?_
    refine me_iconst X dX12_run_16 ic_0 ?_
    refine me_aald X (j := 67) (Nat.le_of_ble_eq_true rfl) ⟨by decide, by decide, Nat.lt_of_lt_of_le (by decide) hnt⟩ me_k66 (by decide) dX12_run_17 ?_
    refine me_iload_n X (i := 1) 1 rfl dX12_run_18 ?_
    refine me_iload_n X (i := 2) 2 rfl dX12_run_19 ?_
    refine me_iadd X dX12_run_20 ?_
    obtain ⟨v1, e1, h⟩ := me_bd h
    refine me_iald X (Nat.le_of_ble_eq_true rfl) me_k67 e1 dX12_run_21 ?_
    refine me_iconst X dX12_run_22 ic_1 ?_
    refine me_icmp_eq X 32 (by decide) dX12_run_23 (fun c2 => ?_) (fun c2 => ?_)
    · have h := me_ip c2 h
      obtain rfl := me_so h
      have q := hr1 _ rfl
      refine me_sub (L' := [(2, .int x2_1)]) [2] rfl ?_
      cases q
      exact hx1
    · have h := me_in c2 h
      refine me_iinc X (v := (x2_1 + 1)) 2 rfl (in_1 _) [(2, .int (x2_1 + 1)), (0, .ref (ad 63)), (1, .int p0)] (Nat.le_of_ble_eq_true rfl) rfl dX12_run_26 ?_
      refine me_goto X 2 (by decide) dX12_run_29 ?_
      obtain rfl := me_so h
      refine me_sub (L' := [(0, .ref (ad 63)), (1, .int p0), (2, .int (x2_1 + 1))]) [1, 2, 0] rfl ?_
      exact hb1 (x2_1 + 1) rfl
def mX12_like_63_L2 (M : me_M) (p0 : Int32) (p1 : Int32) : (Int32) → Option ((Int32) ⊕ (Int32))
  | x3_1 => (if (M.1 63 5) ≤ (p0 + x3_1) then some (.inr x3_1) else (if (M.1 63 5) ≤ (p1 + x3_1) then some (.inr x3_1) else ((me_r M 67 241 (p0 + x3_1)).bind fun v1 => ((me_r M 67 241 (p1 + x3_1)).bind fun v2 => (if v1 = v2 then ((me_r M 67 241 (p0 + x3_1)).bind fun v3 => (if v3 = 1 then some (.inr x3_1) else some (.inl (x3_1 + 1)))) else some (.inr x3_1))))))
def mX12_like_63 (M : me_M) (p0 : Int32) (p1 : Int32) : Option Int32 :=
  ((me_l (mX12_like_63_L2 M p0 p1) me_fu 0).bind fun y3_1 => some y3_1)
set_option maxRecDepth 100000 in
set_option maxHeartbeats 4000000 in
theorem ctX12_like_63 {l : Launch} {n nt : Nat} (hn : 424 ≤ n) (hnt : 4 ≤ nt) {M : me_M} {p0 : Int32} {p1 : Int32} {r : Int32} (h : mX12_like_63 M p0 p1 = some r) : me_Ct l yX12_like cX12_like 4 (some .int) 0 n nt (fun ad => [.ref (ad 63), .int p0, .int p1]) M (fun _ => some (.int r)) M := by
  unfold mX12_like_63 at h
  refine me_enter (N0 := 424) RX12 rfl (plainFor_of_name pl_RX12) hn (Nat.le_trans (by decide) hnt) (fun _ => Nat.le_of_ble_eq_true rfl) ?_
  intro p e R s m args below meth c D cA ad tys A X hr hlk
  refine me_sub (L' := [(0, .ref (ad 63)), (1, .int p0), (2, .int p1)]) [0, 1, 2] rfl ?_
  refine me_iconst X dX12_like_0 ic_0 ?_
  refine me_istore_n X (i := 3) [(3, .int 0), (0, .ref (ad 63)), (1, .int p0), (2, .int p1)] (Nat.le_of_ble_eq_true rfl) rfl dX12_like_1 ?_
  obtain ⟨y3_1, hq1, h⟩ := me_bd h
  have hx1 : me_W p l e R s m args below meth c 0 0 (MQ below (me_Qc D cA ad n A (some (.int r)) M) args s 0 0 A) D cA ad n 4 A 65 [(3, .int y3_1)] [] M := by
    refine me_iload_n X (i := 3) 0 rfl dX12_like_65 ?_
    obtain rfl := me_so h
    exact me_iret X hr hlk dX12_like_66
  refine me_sub (L' := [(0, .ref (ad 63)), (1, .int p0), (2, .int p1), (3, .int 0)]) [1, 2, 3, 0] rfl ?_
  refine me_l_W (b := (mX12_like_63_L2 M p0 p1)) (P := fun w => me_W p l e R s m args below meth c 0 0 (MQ below (me_Qc D cA ad n A (some (.int r)) M) args s 0 0 A) D cA ad n 4 A 2 [(0, .ref (ad 63)), (1, .int p0), (2, .int p1), (3, .int w)] [] M) (r := y3_1) ?_ me_fu 0 hq1
  rintro x3_1 z1 h hb1 - hr1
  unfold mX12_like_63_L2 at h
  refine me_iload_n X (i := 1) 1 rfl dX12_like_2 ?_
  refine me_iload_n X (i := 3) 3 rfl dX12_like_3 ?_
  refine me_iadd X dX12_like_4 ?_
  refine me_aload_n X (i := 0) 0 rfl dX12_like_5 ?_
  refine me_geti X kF_X12_20 (Nat.le_of_ble_eq_true rfl) me_k63 me_f63_5 dX12_like_6 ?_
  refine me_icmp_ge X 65 (by decide) dX12_like_9 (fun c1 => ?_) (fun c1 => ?_)
  · have h := me_ip c1 h
    obtain rfl := me_so h
    have q := hr1 _ rfl
    refine me_sub (L' := [(3, .int x3_1)]) [3] rfl ?_
    cases q
    exact hx1
  · have h := me_in c1 h
    refine me_iload_n X (i := 2) 2 rfl dX12_like_12 ?_
    refine me_iload_n X (i := 3) 3 rfl dX12_like_13 ?_
    refine me_iadd X dX12_like_14 ?_
    refine me_aload_n X (i := 0) 0 rfl dX12_like_15 ?_
    refine me_geti X kF_X12_20 (Nat.le_of_ble_eq_true rfl) me_k63 me_f63_5 dX12_like_16 ?_
    refine me_icmp_ge X 65 (by decide) dX12_like_19 (fun c2 => ?_) (fun c2 => ?_)
    · have h := me_ip c2 h
      obtain rfl := me_so h
      have q := hr1 _ rfl
      refine me_sub (L' := [(3, .int x3_1)]) [3] rfl ?_
      cases q
      exact hx1
    · have h := me_in c2 h
      refine me_aload_n X (i := 0) 0 rfl dX12_like_22 ?_
      refine me_getr X 66 kF_X12_28 (Nat.le_of_ble_eq_true rfl) me_k63 me_f63_7 dX12_like_23 ?_
      refine me_iconst X dX12_like_26 ic_0 ?_
      refine me_aald X (j := 67) (Nat.le_of_ble_eq_true rfl) ⟨by decide, by decide, Nat.lt_of_lt_of_le (by decide) hnt⟩ me_k66 (by decide) dX12_like_27 ?_
      refine me_iload_n X (i := 1) 1 rfl dX12_like_28 ?_
      refine me_iload_n X (i := 3) 3 rfl dX12_like_29 ?_
      refine me_iadd X dX12_like_30 ?_
      obtain ⟨v1, e1, h⟩ := me_bd h
      refine me_iald X (Nat.le_of_ble_eq_true rfl) me_k67 e1 dX12_like_31 ?_
      refine me_aload_n X (i := 0) 0 rfl dX12_like_32 ?_
      refine me_getr X 66 kF_X12_28 (Nat.le_of_ble_eq_true rfl) me_k63 me_f63_7 dX12_like_33 ?_
      refine me_iconst X dX12_like_36 ic_0 ?_
      refine me_aald X (j := 67) (Nat.le_of_ble_eq_true rfl) ⟨by decide, by decide, Nat.lt_of_lt_of_le (by decide) hnt⟩ me_k66 (by decide) dX12_like_37 ?_
      refine me_iload_n X (i := 2) 2 rfl dX12_like_38 ?_
      refine me_iload_n X (i := 3) 3 rfl dX12_like_39 ?_
      refine me_iadd X dX12_like_40 ?_
      obtain ⟨v2, e2, h⟩ := me_bd h
      refine me_iald X (Nat.le_of_ble_eq_true rfl) me_k67 e2 dX12_like_41 ?_
      refine me_icmp_ne X 65 (by decide) dX12_like_42 (fun c3 => ?_) (fun c3 => ?_)
      · have h := me_in c3 h
        obtain rfl := me_so h
        have q := hr1 _ rfl
        refine me_sub (L' := [(3, .int x3_1)]) [3] rfl ?_
        cases q
        exact hx1
      · have h := me_ip c3 h
        refine me_aload_n X (i := 0) 0 rfl dX12_like_45 ?_
        refine me_getr X 66 kF_X12_28 (Nat.le_of_ble_eq_true rfl) me_k63 me_f63_7 dX12_like_46 ?_
        refine me_iconst X dX12_like_49 ic_0 ?_
        refine me_aald X (j := 67) (Nat.le_of_ble_eq_true rfl) ⟨by decide, by decide, Nat.lt_of_lt_of_le (by decide) hnt⟩ me_k66 (by decide) dX12_like_50 ?_
        refine me_iload_n X (i := 1) 1 rfl dX12_like_51 ?_
        refine me_iload_n X (i := 3) 3 rfl dX12_like_52 ?_
        refine me_iadd X dX12_like_53 ?_
        obtain ⟨v3, e3, h⟩ := me_bd h
        refine me_iald X (Nat.le_of_ble_eq_true rfl) me_k67 e3 dX12_like_54 ?_
        refine me_iconst X dX12_like_55 ic_1 ?_
        refine me_icmp_eq X 65 (by decide) dX12_like_56 (fun c4 => ?_) (fun c4 => ?_)
        · have h := me_ip c4 h
          obtain rfl := me_so h
          have q := hr1 _ rfl
          refine me_sub (L' := [(3, .int x3_1)]) [3] rfl ?_
          cases q
          exact hx1
        · have h := me_in c4 h
          refine me_iinc X (v := (x3_1 + 1)) 3 rfl (in_1 _) [(3, .int (x3_1 + 1)), (0, .ref (ad 63)), (1, .int p0), (2, .int p1)] (Nat.le_of_ble_eq_true rfl) rfl dX12_like_59 ?_
          refine me_goto X 2 (by decide) dX12_like_62 ?_
          obtain rfl := me_so h
          refine me_sub (L' := [(0, .ref (ad 63)), (1, .int p0), (2, .int p1), (3, .int (x3_1 + 1))]) [1, 2, 3, 0] rfl ?_
          exact hb1 (x3_1 + 1) rfl
def mX12_fits_63_L3 (M : me_M) (p0 : Int32) (p1 : Int32) (p2 : Int32) : (Int32) → Option ((Int32) ⊕ (Int32))
  | x4_1 => (if p2 ≤ (p0 + x4_1) then some (.inr x4_1) else (if (M.1 63 5) ≤ (p1 + x4_1) then some (.inr x4_1) else ((me_r M 67 241 (p1 + x4_1)).bind fun v1 => ((me_r M 87 240 (p0 + x4_1)).bind fun v2 => (if v1 = v2 then some (.inl (x4_1 + 1)) else some (.inr x4_1))))))
def mX12_fits_63 (M : me_M) (p0 : Int32) (p1 : Int32) (p2 : Int32) : Option Int32 :=
  ((me_l (mX12_fits_63_L3 M p0 p1 p2) me_fu 0).bind fun y4_1 => some y4_1)
set_option maxRecDepth 100000 in
set_option maxHeartbeats 4000000 in
theorem ctX12_fits_63 {l : Launch} {n nt : Nat} (hn : 424 ≤ n) (hnt : 4 ≤ nt) {M : me_M} {p0 : Int32} {p1 : Int32} {p2 : Int32} {r : Int32} (h : mX12_fits_63 M p0 p1 p2 = some r) : me_Ct l yX12_fits cX12_fits 5 (some .int) 0 n nt (fun ad => [.ref (ad 63), .int p0, .int p1, .int p2]) M (fun _ => some (.int r)) M := by
  unfold mX12_fits_63 at h
  refine me_enter (N0 := 424) RX12 rfl (plainFor_of_name pl_RX12) hn (Nat.le_trans (by decide) hnt) (fun _ => Nat.le_of_ble_eq_true rfl) ?_
  intro p e R s m args below meth c D cA ad tys A X hr hlk
  refine me_sub (L' := [(0, .ref (ad 63)), (1, .int p0), (2, .int p1), (3, .int p2)]) [0, 1, 2, 3] rfl ?_
  refine me_iconst X dX12_fits_0 ic_0 ?_
  refine me_istore X (i := 4) [(4, .int 0), (0, .ref (ad 63)), (1, .int p0), (2, .int p1), (3, .int p2)] (Nat.le_of_ble_eq_true rfl) rfl dX12_fits_1 ?_
  obtain ⟨y4_1, hq1, h⟩ := me_bd h
  have hx1 : me_W p l e R s m args below meth c 0 0 (MQ below (me_Qc D cA ad n A (some (.int r)) M) args s 0 0 A) D cA ad n 5 A 51 [(4, .int y4_1)] [] M := by
    refine me_iload X (i := 4) 0 rfl dX12_fits_51 ?_
    obtain rfl := me_so h
    exact me_iret X hr hlk dX12_fits_53
  refine me_sub (L' := [(0, .ref (ad 63)), (1, .int p0), (2, .int p1), (3, .int p2), (4, .int 0)]) [1, 2, 3, 4, 0] rfl ?_
  refine me_l_W (b := (mX12_fits_63_L3 M p0 p1 p2)) (P := fun w => me_W p l e R s m args below meth c 0 0 (MQ below (me_Qc D cA ad n A (some (.int r)) M) args s 0 0 A) D cA ad n 5 A 3 [(0, .ref (ad 63)), (1, .int p0), (2, .int p1), (3, .int p2), (4, .int w)] [] M) (r := y4_1) ?_ me_fu 0 hq1
  rintro x4_1 z1 h hb1 - hr1
  unfold mX12_fits_63_L3 at h
  refine me_iload_n X (i := 1) 1 rfl dX12_fits_3 ?_
  refine me_iload X (i := 4) 4 rfl dX12_fits_4 ?_
  refine me_iadd X dX12_fits_6 ?_
  refine me_iload_n X (i := 3) 3 rfl dX12_fits_7 ?_
  refine me_icmp_ge X 51 (by decide) dX12_fits_8 (fun c1 => ?_) (fun c1 => ?_)
  · have h := me_ip c1 h
    obtain rfl := me_so h
    have q := hr1 _ rfl
    refine me_sub (L' := [(4, .int x4_1)]) [4] rfl ?_
    cases q
    exact hx1
  · have h := me_in c1 h
    refine me_iload_n X (i := 2) 2 rfl dX12_fits_11 ?_
    refine me_iload X (i := 4) 4 rfl dX12_fits_12 ?_
    refine me_iadd X dX12_fits_14 ?_
    refine me_aload_n X (i := 0) 0 rfl dX12_fits_15 ?_
    refine me_geti X kF_X12_20 (Nat.le_of_ble_eq_true rfl) me_k63 me_f63_5 dX12_fits_16 ?_
    refine me_icmp_ge X 51 (by decide) dX12_fits_19 (fun c2 => ?_) (fun c2 => ?_)
    · have h := me_ip c2 h
      obtain rfl := me_so h
      have q := hr1 _ rfl
      refine me_sub (L' := [(4, .int x4_1)]) [4] rfl ?_
      cases q
      exact hx1
    · have h := me_in c2 h
      refine me_aload_n X (i := 0) 0 rfl dX12_fits_22 ?_
      refine me_getr X 66 kF_X12_28 (Nat.le_of_ble_eq_true rfl) me_k63 me_f63_7 dX12_fits_23 ?_
      refine me_iconst X dX12_fits_26 ic_0 ?_
      refine me_aald X (j := 67) (Nat.le_of_ble_eq_true rfl) ⟨by decide, by decide, Nat.lt_of_lt_of_le (by decide) hnt⟩ me_k66 (by decide) dX12_fits_27 ?_
      refine me_iload_n X (i := 2) 2 rfl dX12_fits_28 ?_
      refine me_iload X (i := 4) 4 rfl dX12_fits_29 ?_
      refine me_iadd X dX12_fits_31 ?_
      obtain ⟨v1, e1, h⟩ := me_bd h
      refine me_iald X (Nat.le_of_ble_eq_true rfl) me_k67 e1 dX12_fits_32 ?_
      refine me_aload_n X (i := 0) 0 rfl dX12_fits_33 ?_
      refine me_getr X 87 kF_X12_93 (Nat.le_of_ble_eq_true rfl) me_k63 me_f63_40 dX12_fits_34 ?_
      refine me_iload_n X (i := 1) 1 rfl dX12_fits_37 ?_
      refine me_iload X (i := 4) 4 rfl dX12_fits_38 ?_
      refine me_iadd X dX12_fits_40 ?_
      obtain ⟨v2, e2, h⟩ := me_bd h
      refine me_iald X (Nat.le_of_ble_eq_true rfl) me_k87 e2 dX12_fits_41 ?_
      refine me_icmp_ne X 51 (by decide) dX12_fits_42 (fun c3 => ?_) (fun c3 => ?_)
      · have h := me_in c3 h
        obtain rfl := me_so h
        have q := hr1 _ rfl
        refine me_sub (L' := [(4, .int x4_1)]) [4] rfl ?_
        cases q
        exact hx1
      · have h := me_ip c3 h
        refine me_iinc X (v := (x4_1 + 1)) 4 rfl (in_1 _) [(4, .int (x4_1 + 1)), (0, .ref (ad 63)), (1, .int p0), (2, .int p1), (3, .int p2)] (Nat.le_of_ble_eq_true rfl) rfl dX12_fits_45 ?_
        refine me_goto X 3 (by decide) dX12_fits_48 ?_
        obtain rfl := me_so h
        refine me_sub (L' := [(0, .ref (ad 63)), (1, .int p0), (2, .int p1), (3, .int p2), (4, .int (x4_1 + 1))]) [1, 2, 3, 4, 0] rfl ?_
        exact hb1 (x4_1 + 1) rfl
def mX12_laysMatch_63_J76 (a1 : Nat) (p0 : Int32) (p1 : Int32) (x4_1 : Int32) (M8 : me_M) : Option ((Int32 × me_M) ⊕ (me_M)) :=
  some (.inl ((x4_1 + (-1)), M8))
def mX12_laysMatch_63_L39 (p0 : Int32) (p1 : Int32) (a1 : Nat) : (Int32 × me_M) → Option ((Int32 × me_M) ⊕ (me_M))
  | (x4_1, M5) => (if x4_1 < 0 then some (.inr M5) else ((mX12_fits_63 M5 p0 x4_1 p1).bind fun v2 => ((me_r M5 88 240 p0).bind fun v3 => (if v3 ≤ v2 then ((me_r M5 a1 4 2).bind fun v4 => ((me_t M5 a1 4 2 (v4 + 1)).bind fun M6 => ((me_t M6 a1 4 3 x4_1).bind fun M7 => (mX12_laysMatch_63_J76 a1 p0 p1 x4_1 M7)))) else (mX12_laysMatch_63_J76 a1 p0 p1 x4_1 M5)))))
def mX12_laysMatch_63 (M : me_M) (p0 : Int32) (p1 : Int32) : Option me_M :=
  ((me_a 240 184 (M.1 63 38)).bind fun a1 => ((me_t M a1 4 0 p0).bind fun M1 => ((me_r M1 88 240 p0).bind fun v1 => ((me_t M1 a1 4 1 v1).bind fun M2 => ((me_t M2 a1 4 2 0).bind fun M3 => ((me_t M3 a1 4 3 (-1)).bind fun M4 => ((me_l (mX12_laysMatch_63_L39 p0 p1 a1) me_fu (((M4.1 63 5) - 1), M4)).bind fun M9 => some (me_s M9 63 38 ((M9.1 63 38) + 1)))))))))
set_option maxRecDepth 100000 in
set_option maxHeartbeats 4000000 in
theorem ctX12_laysMatch_63 {l : Launch} {n nt : Nat} (hn : 424 ≤ n) (hnt : 4 ≤ nt) {M : me_M} {p0 : Int32} {p1 : Int32} {M' : me_M} (h : mX12_laysMatch_63 M p0 p1 = some M') : me_Ct l yX12_laysMatch cX12_laysMatch 5 none 1 n nt (fun ad => [.ref (ad 63), .int p0, .int p1]) M (fun _ => none) M' := by
  unfold mX12_laysMatch_63 at h
  refine me_enter (N0 := 424) RX12 rfl (plainFor_of_name pl_RX12) hn (Nat.le_trans (by decide) hnt) (fun _ => Nat.le_of_ble_eq_true rfl) ?_
  intro p e R s m args below meth c D cA ad tys A X hr hlk
  refine me_sub (L' := [(0, .ref (ad 63)), (1, .int p0), (2, .int p1)]) [0, 1, 2] rfl ?_
  refine me_aload_n X (i := 0) 0 rfl dX12_laysMatch_0 ?_
  refine me_getr X 183 kF_X12_90 (Nat.le_of_ble_eq_true rfl) me_k63 me_f63_39 dX12_laysMatch_1 ?_
  refine me_aload_n X (i := 0) 0 rfl dX12_laysMatch_4 ?_
  refine me_geti X kF_X12_134 (Nat.le_of_ble_eq_true rfl) me_k63 me_f63_38 dX12_laysMatch_5 ?_
  obtain ⟨a1, e1, h⟩ := me_bd h
  have f_a1 := me_f184 e1
  refine me_aald X (Nat.le_of_ble_eq_true rfl) ⟨by decide, by decide, Nat.lt_of_lt_of_le (by decide) hnt⟩ me_k183 e1 dX12_laysMatch_8 ?_
  refine me_astore_n X (i := 3) [(3, .ref (ad a1)), (0, .ref (ad 63)), (1, .int p0), (2, .int p1)] (Nat.le_of_ble_eq_true rfl) rfl dX12_laysMatch_9 ?_
  refine me_aload_n X (i := 3) 0 rfl dX12_laysMatch_10 ?_
  refine me_iconst X dX12_laysMatch_11 ic_0 ?_
  refine me_iload_n X (i := 1) 2 rfl dX12_laysMatch_12 ?_
  obtain ⟨M1, e2, h⟩ := me_bd h
  refine me_iast X f_a1.2 f_a1.1 e2 dX12_laysMatch_13 ?_
  refine me_aload_n X (i := 3) 0 rfl dX12_laysMatch_14 ?_
  refine me_iconst X dX12_laysMatch_15 ic_1 ?_
  refine me_aload_n X (i := 0) 1 rfl dX12_laysMatch_16 ?_
  refine me_getr X 88 kF_X12_96 (Nat.le_of_ble_eq_true rfl) me_k63 me_f63_41 dX12_laysMatch_17 ?_
  refine me_iload_n X (i := 1) 2 rfl dX12_laysMatch_20 ?_
  obtain ⟨v1, e3, h⟩ := me_bd h
  refine me_iald X (Nat.le_of_ble_eq_true rfl) me_k88 e3 dX12_laysMatch_21 ?_
  obtain ⟨M2, e4, h⟩ := me_bd h
  refine me_iast X f_a1.2 f_a1.1 e4 dX12_laysMatch_22 ?_
  refine me_aload_n X (i := 3) 0 rfl dX12_laysMatch_23 ?_
  refine me_iconst X dX12_laysMatch_24 ic_2 ?_
  refine me_iconst X dX12_laysMatch_25 ic_0 ?_
  obtain ⟨M3, e5, h⟩ := me_bd h
  refine me_iast X f_a1.2 f_a1.1 e5 dX12_laysMatch_26 ?_
  refine me_aload_n X (i := 3) 0 rfl dX12_laysMatch_27 ?_
  refine me_iconst X dX12_laysMatch_28 ic_3 ?_
  refine me_iconst X dX12_laysMatch_29 ic_m1 ?_
  obtain ⟨M4, e6, h⟩ := me_bd h
  refine me_iast X f_a1.2 f_a1.1 e6 dX12_laysMatch_30 ?_
  refine me_aload_n X (i := 0) 1 rfl dX12_laysMatch_31 ?_
  refine me_geti X kF_X12_20 (Nat.le_of_ble_eq_true rfl) me_k63 me_f63_5 dX12_laysMatch_32 ?_
  refine me_iconst X dX12_laysMatch_35 ic_1 ?_
  refine me_isub X dX12_laysMatch_36 ?_
  refine me_istore X (i := 4) [(4, .int ((M4.1 63 5) - 1)), (3, .ref (ad a1)), (0, .ref (ad 63)), (1, .int p0), (2, .int p1)] (Nat.le_of_ble_eq_true rfl) rfl dX12_laysMatch_37 ?_
  obtain ⟨M9, hq1, h⟩ := me_bd h
  have hx1 : me_W p l e R s m args below meth c 0 0 (MQ below (me_Qc D cA ad n A none M') args s 0 0 A) D cA ad n 5 A 82 [(0, .ref (ad 63))] [] M9 := by
    refine me_aload_n X (i := 0) 0 rfl dX12_laysMatch_82 ?_
    refine me_dup X rfl dX12_laysMatch_83 ?_
    refine me_geti X kF_X12_134 (Nat.le_of_ble_eq_true rfl) me_k63 me_f63_38 dX12_laysMatch_84 ?_
    refine me_iconst X dX12_laysMatch_87 ic_1 ?_
    refine me_iadd X dX12_laysMatch_88 ?_
    refine me_puti X kG_X12_134 (Nat.le_of_ble_eq_true rfl) me_k63 me_f63_38 dX12_laysMatch_89 ?_
    obtain rfl := me_so h
    exact me_vret X hr hlk dX12_laysMatch_92
  refine me_sub (L' := [(0, .ref (ad 63)), (1, .int p0), (2, .int p1), (3, .ref (ad a1)), (4, .int ((M4.1 63 5) - 1))]) [2, 3, 4, 1, 0] rfl ?_
  refine me_l_W (b := (mX12_laysMatch_63_L39 p0 p1 a1)) (P := fun w => me_W p l e R s m args below meth c 0 0 (MQ below (me_Qc D cA ad n A none M') args s 0 0 A) D cA ad n 5 A 39 [(0, .ref (ad 63)), (1, .int p0), (2, .int p1), (3, .ref (ad a1)), (4, .int w.1)] [] w.2) (r := M9) ?_ me_fu (((M4.1 63 5) - 1), M4) hq1
  rintro ⟨x4_1, M5⟩ z1 h hb1 - hr1
  unfold mX12_laysMatch_63_L39 at h
  refine me_iload X (i := 4) 4 rfl dX12_laysMatch_39 ?_
  refine me_if_lt X 82 (by decide) dX12_laysMatch_41 (fun c1 => ?_) (fun c1 => ?_)
  · have h := me_ip c1 h
    obtain rfl := me_so h
    have q := hr1 _ rfl
    refine me_sub (L' := [(0, .ref (ad 63))]) [0] rfl ?_
    cases q
    exact hx1
  · have h := me_in c1 h
    refine me_aload_n X (i := 0) 0 rfl dX12_laysMatch_44 ?_
    refine me_iload_n X (i := 1) 1 rfl dX12_laysMatch_45 ?_
    refine me_iload X (i := 4) 4 rfl dX12_laysMatch_46 ?_
    refine me_iload_n X (i := 2) 2 rfl dX12_laysMatch_48 ?_
    obtain ⟨v2, e7, h⟩ := me_bd h
    refine me_callVi X [.int p0, .int x4_1, .int p1] (ctX12_fits_63 hn (Nat.le_trans (by decide) hnt) e7) kV_X12_298 rfl rfl (Nat.le_of_ble_eq_true rfl) me_k63 (Nat.le_of_ble_eq_true rfl) (Nat.le_refl _) (Nat.le_of_ble_eq_true rfl) dX12_laysMatch_49 ?_
    refine me_aload_n X (i := 0) 0 rfl dX12_laysMatch_52 ?_
    refine me_getr X 88 kF_X12_96 (Nat.le_of_ble_eq_true rfl) me_k63 me_f63_41 dX12_laysMatch_53 ?_
    refine me_iload_n X (i := 1) 1 rfl dX12_laysMatch_56 ?_
    obtain ⟨v3, e8, h⟩ := me_bd h
    refine me_iald X (Nat.le_of_ble_eq_true rfl) me_k88 e8 dX12_laysMatch_57 ?_
    have hj76_1 : ∀ (M8 : me_M), mX12_laysMatch_63_J76 a1 p0 p1 x4_1 M8 = some z1 → me_W p l e R s m args below meth c 0 0 (MQ below (me_Qc D cA ad n A none M') args s 0 0 A) D cA ad n 5 A 76 [(0, .ref (ad 63)), (1, .int p0), (2, .int p1), (3, .ref (ad a1)), (4, .int x4_1)] [] M8 := by
      intro M8 h
      unfold mX12_laysMatch_63_J76 at h
      refine me_iinc X (v := (x4_1 + (-1))) 4 rfl (in_m1 _) [(4, .int (x4_1 + (-1))), (0, .ref (ad 63)), (1, .int p0), (2, .int p1), (3, .ref (ad a1))] (Nat.le_of_ble_eq_true rfl) rfl dX12_laysMatch_76 ?_
      refine me_goto X 39 (by decide) dX12_laysMatch_79 ?_
      obtain rfl := me_so h
      refine me_sub (L' := [(0, .ref (ad 63)), (1, .int p0), (2, .int p1), (3, .ref (ad a1)), (4, .int (x4_1 + (-1)))]) [1, 2, 3, 4, 0] rfl ?_
      exact hb1 ((x4_1 + (-1)), M8) rfl
    refine me_icmp_ge X 64 (by decide) dX12_laysMatch_58 (fun c2 => ?_) (fun c2 => ?_)
    · have h := me_ip c2 h
      refine me_aload_n X (i := 3) 3 rfl dX12_laysMatch_64 ?_
      refine me_iconst X dX12_laysMatch_65 ic_2 ?_
      refine me_dup2 X rfl rfl dX12_laysMatch_66 ?_
      obtain ⟨v4, e9, h⟩ := me_bd h
      refine me_iald X f_a1.2 f_a1.1 e9 dX12_laysMatch_67 ?_
      refine me_iconst X dX12_laysMatch_68 ic_1 ?_
      refine me_iadd X dX12_laysMatch_69 ?_
      obtain ⟨M6, e10, h⟩ := me_bd h
      refine me_iast X f_a1.2 f_a1.1 e10 dX12_laysMatch_70 ?_
      refine me_aload_n X (i := 3) 3 rfl dX12_laysMatch_71 ?_
      refine me_iconst X dX12_laysMatch_72 ic_3 ?_
      refine me_iload X (i := 4) 4 rfl dX12_laysMatch_73 ?_
      obtain ⟨M7, e11, h⟩ := me_bd h
      refine me_iast X f_a1.2 f_a1.1 e11 dX12_laysMatch_75 ?_
      exact hj76_1 M7 h
    · have h := me_in c2 h
      refine me_goto X 76 (by decide) dX12_laysMatch_61 ?_
      exact hj76_1 M5 h
def mX12_matches_63_L64 (p0 : Int32) (p1 : Int32) : (Int32 × me_M) → Option ((Int32 × me_M) ⊕ (me_M))
  | (x3_1, M4) => (if p0 ≤ x3_1 then some (.inr M4) else ((me_r M4 65 240 x3_1).bind fun v5 => ((me_t M4 87 240 x3_1 ((v5 - 97) + 2)).bind fun M5 => some (.inl ((x3_1 + 1), M5)))))
def mX12_matches_63_L109 (p0 : Int32) (p1 : Int32) (x3_2 : Int32) : (Int32 × me_M) → Option ((Int32 × me_M) ⊕ (me_M))
  | (x4_1, M9) => (if (M9.1 63 5) ≤ x4_1 then some (.inr M9) else ((me_r M9 88 240 x3_2).bind fun v6 => ((mX12_fits_63 M9 x3_2 x4_1 p0).bind fun v7 => ((mX12_more v6 v7).bind fun v8 => ((me_t M9 88 240 x3_2 v8).bind fun M10 => some (.inl ((x4_1 + 1), M10)))))))
def mX12_matches_63_L94 (p0 : Int32) (p1 : Int32) : (Int32 × me_M) → Option ((Int32 × me_M) ⊕ (me_M))
  | (x3_2, M7) => (if p0 ≤ x3_2 then some (.inr M7) else ((me_t M7 88 240 x3_2 0).bind fun M8 => ((me_l (mX12_matches_63_L109 p0 p1 x3_2) me_fu (0, M8)).bind fun M11 => some (.inl ((x3_2 + 1), M11)))))
def mX12_matches_63_J197 (p0 : Int32) (p1 : Int32) (x3_3 : Int32) (M15 : me_M) : Option ((Int32 × me_M) ⊕ (me_M)) :=
  some (.inl ((x3_3 + 1), M15))
def mX12_matches_63_J191 (p0 : Int32) (p1 : Int32) (x3_3 : Int32) (M13 : me_M)  : Option ((Int32 × me_M) ⊕ (me_M)) :=
  ((mX12_laysMatch_63 M13 x3_3 p0).bind fun M14 => (mX12_matches_63_J197 p0 p1 x3_3 M14))
def mX12_matches_63_L155 (p0 : Int32) (p1 : Int32) : (Int32 × me_M) → Option ((Int32 × me_M) ⊕ (me_M))
  | (x3_3, M13) => (if p0 ≤ x3_3 then some (.inr M13) else ((me_r M13 88 240 x3_3).bind fun v9 => (if v9 < p1 then (mX12_matches_63_J197 p0 p1 x3_3 M13) else (if x3_3 = 0 then (mX12_matches_63_J191 p0 p1 x3_3 M13 ) else ((me_r M13 88 240 (x3_3 - 1)).bind fun v10 => ((me_r M13 88 240 x3_3).bind fun v11 => (if v11 < v10 then (mX12_matches_63_J197 p0 p1 x3_3 M13) else (mX12_matches_63_J191 p0 p1 x3_3 M13 ))))))))
def mX12_matches_63_J42 (p0 : Int32) (p1 : Int32) (s1 : Int32) (M2 : me_M) : Option (Int32 × me_M) :=
  ((mX12_bad_63 M2 s1 1 1).bind fun (v4, M3) => (if v4 = 0 then ((me_l (mX12_matches_63_L64 p0 p1) me_fu (0, (me_s (me_s M3 63 2 0) 63 38 0))).bind fun M6 => ((me_l (mX12_matches_63_L94 p0 p1) me_fu (0, M6)).bind fun M12 => ((me_l (mX12_matches_63_L155 p0 p1) me_fu (0, M12)).bind fun M16 => some ((M16.1 63 38), M16)))) else some (0, M3)))
def mX12_matches_63_J37 (p0 : Int32) (p1 : Int32) (M1 : me_M) : Option (Int32 × me_M) :=
  (mX12_matches_63_J42 p0 p1 1 M1)
def mX12_matches_63 (M : me_M) (p0 : Int32) (p1 : Int32) : Option (Int32 × me_M) :=
  ((mX12_in p0 1 ((me_s M 63 0 0).1 63 2)).bind fun v1 => (if v1 = 0 then (mX12_matches_63_J37 p0 p1 (me_s M 63 0 0)) else ((mX12_areLetters_63 (me_s M 63 0 0) p0).bind fun v2 => (if v2 = 0 then (mX12_matches_63_J37 p0 p1 (me_s M 63 0 0)) else ((mX12_in p1 1 240).bind fun v3 => (if v3 = 0 then (mX12_matches_63_J37 p0 p1 (me_s M 63 0 0)) else (mX12_matches_63_J42 p0 p1 0 (me_s M 63 0 0))))))))
set_option maxRecDepth 100000 in
set_option maxHeartbeats 4000000 in
theorem ctX12_matches_63 {l : Launch} {n nt : Nat} (hn : 424 ≤ n) (hnt : 4 ≤ nt) {M : me_M} {p0 : Int32} {p1 : Int32} {r : Int32} {M' : me_M} (h : mX12_matches_63 M p0 p1 = some (r, M')) : me_Ct l yX12_matches cX12_matches 5 (some .int) 3 n nt (fun ad => [.ref (ad 63), .int p0, .int p1]) M (fun _ => some (.int r)) M' := by
  unfold mX12_matches_63 at h
  refine me_enter (N0 := 424) RX12 rfl (plainFor_of_name pl_RX12) hn (Nat.le_trans (by decide) hnt) (fun _ => Nat.le_of_ble_eq_true rfl) ?_
  intro p e R s m args below meth c D cA ad tys A X hr hlk
  refine me_sub (L' := [(0, .ref (ad 63)), (1, .int p0), (2, .int p1)]) [0, 1, 2] rfl ?_
  refine me_aload_n X (i := 0) 0 rfl dX12_matches_0 ?_
  refine me_iconst X dX12_matches_1 ic_0 ?_
  refine me_puti X kG_X12_105 (Nat.le_of_ble_eq_true rfl) me_k63 me_f63_0 dX12_matches_2 ?_
  refine me_aload_n X (i := 0) 0 rfl dX12_matches_5 ?_
  refine me_iload_n X (i := 1) 1 rfl dX12_matches_6 ?_
  refine me_iconst X dX12_matches_7 ic_1 ?_
  refine me_aload_n X (i := 0) 0 rfl dX12_matches_8 ?_
  refine me_geti X kF_X12_115 (Nat.le_of_ble_eq_true rfl) me_k63 me_f63_2 dX12_matches_9 ?_
  obtain ⟨v1, e1, h⟩ := me_bd h
  refine me_callSi X [.int p0, .int 1, .int ((me_s M 63 0 0).1 63 2)] (ctX12_in hn (Nat.le_trans (by decide) hnt) e1) kS_X12_108 rfl rfl (Nat.le_of_ble_eq_true rfl) (Nat.le_refl _) (Nat.le_of_ble_eq_true rfl) dX12_matches_12 ?_
  have hj42_2 : ∀ (s1 : Int32) (M2 : me_M), mX12_matches_63_J42 p0 p1 s1 M2 = some (r, M') → me_W p l e R s m args below meth c 0 0 (MQ below (me_Qc D cA ad n A (some (.int r)) M') args s 0 0 A) D cA ad n 5 A 42 [(0, .ref (ad 63)), (1, .int p0), (2, .int p1)] [.int s1, .ref (ad 63)] M2 := by
    intro s1 M2 h
    unfold mX12_matches_63_J42 at h
    refine me_iconst X dX12_matches_42 ic_1 ?_
    refine me_iconst X dX12_matches_43 ic_1 ?_
    obtain ⟨⟨v4, M3⟩, e4, h⟩ := me_bd h
    refine me_callVi X [.int s1, .int 1, .int 1] (ctX12_bad_63 hn (Nat.le_trans (by decide) hnt) e4) kV_X12_122 rfl rfl (Nat.le_of_ble_eq_true rfl) me_k63 (Nat.le_of_ble_eq_true rfl) (Nat.le_refl _) (Nat.le_of_ble_eq_true rfl) dX12_matches_44 ?_
    refine me_if_eq X 52 (by decide) dX12_matches_47 (fun c4 => ?_) (fun c4 => ?_)
    · have h := me_ip c4 h
      refine me_aload_n X (i := 0) 0 rfl dX12_matches_52 ?_
      refine me_iconst X dX12_matches_53 ic_0 ?_
      refine me_puti X kG_X12_115 (Nat.le_of_ble_eq_true rfl) me_k63 me_f63_2 dX12_matches_54 ?_
      refine me_aload_n X (i := 0) 0 rfl dX12_matches_57 ?_
      refine me_iconst X dX12_matches_58 ic_0 ?_
      refine me_puti X kG_X12_134 (Nat.le_of_ble_eq_true rfl) me_k63 me_f63_38 dX12_matches_59 ?_
      refine me_iconst X dX12_matches_62 ic_0 ?_
      refine me_istore_n X (i := 3) [(3, .int 0), (0, .ref (ad 63)), (1, .int p0), (2, .int p1)] (Nat.le_of_ble_eq_true rfl) rfl dX12_matches_63 ?_
      obtain ⟨M6, hq1, h⟩ := me_bd h
      have hx1 : me_W p l e R s m args below meth c 0 0 (MQ below (me_Qc D cA ad n A (some (.int r)) M') args s 0 0 A) D cA ad n 5 A 92 [(0, .ref (ad 63)), (1, .int p0), (2, .int p1)] [] M6 := by
        refine me_iconst X dX12_matches_92 ic_0 ?_
        refine me_istore_n X (i := 3) [(3, .int 0), (0, .ref (ad 63)), (1, .int p0), (2, .int p1)] (Nat.le_of_ble_eq_true rfl) rfl dX12_matches_93 ?_
        obtain ⟨M12, hq2, h⟩ := me_bd h
        have hx3 : me_W p l e R s m args below meth c 0 0 (MQ below (me_Qc D cA ad n A (some (.int r)) M') args s 0 0 A) D cA ad n 5 A 153 [(0, .ref (ad 63)), (1, .int p0), (2, .int p1)] [] M12 := by
          refine me_iconst X dX12_matches_153 ic_0 ?_
          refine me_istore_n X (i := 3) [(3, .int 0), (0, .ref (ad 63)), (1, .int p0), (2, .int p1)] (Nat.le_of_ble_eq_true rfl) rfl dX12_matches_154 ?_
          obtain ⟨M16, hq4, h⟩ := me_bd h
          have hx4 : me_W p l e R s m args below meth c 0 0 (MQ below (me_Qc D cA ad n A (some (.int r)) M') args s 0 0 A) D cA ad n 5 A 203 [(0, .ref (ad 63))] [] M16 := by
            refine me_aload_n X (i := 0) 0 rfl dX12_matches_203 ?_
            refine me_geti X kF_X12_134 (Nat.le_of_ble_eq_true rfl) me_k63 me_f63_38 dX12_matches_204 ?_
            obtain ⟨rfl, rfl⟩ := me_sp h
            exact me_iret X hr hlk dX12_matches_207
          refine me_sub (L' := [(0, .ref (ad 63)), (1, .int p0), (2, .int p1), (3, .int 0)]) [1, 2, 3, 0] rfl ?_
          refine me_l_W (b := (mX12_matches_63_L155 p0 p1)) (P := fun w => me_W p l e R s m args below meth c 0 0 (MQ below (me_Qc D cA ad n A (some (.int r)) M') args s 0 0 A) D cA ad n 5 A 155 [(0, .ref (ad 63)), (1, .int p0), (2, .int p1), (3, .int w.1)] [] w.2) (r := M16) ?_ me_fu (0, M12) hq4
          rintro ⟨x3_3, M13⟩ z4 h hb4 - hr4
          unfold mX12_matches_63_L155 at h
          refine me_iload_n X (i := 3) 3 rfl dX12_matches_155 ?_
          refine me_iload_n X (i := 1) 1 rfl dX12_matches_156 ?_
          refine me_icmp_ge X 203 (by decide) dX12_matches_157 (fun c8 => ?_) (fun c8 => ?_)
          · have h := me_ip c8 h
            obtain rfl := me_so h
            have q := hr4 _ rfl
            refine me_sub (L' := [(0, .ref (ad 63))]) [0] rfl ?_
            cases q
            exact hx4
          · have h := me_in c8 h
            refine me_aload_n X (i := 0) 0 rfl dX12_matches_160 ?_
            refine me_getr X 88 kF_X12_96 (Nat.le_of_ble_eq_true rfl) me_k63 me_f63_41 dX12_matches_161 ?_
            refine me_iload_n X (i := 3) 3 rfl dX12_matches_164 ?_
            obtain ⟨v9, e12, h⟩ := me_bd h
            refine me_iald X (Nat.le_of_ble_eq_true rfl) me_k88 e12 dX12_matches_165 ?_
            refine me_iload_n X (i := 2) 2 rfl dX12_matches_166 ?_
            have hj197_3 : ∀ (M15 : me_M), mX12_matches_63_J197 p0 p1 x3_3 M15 = some z4 → me_W p l e R s m args below meth c 0 0 (MQ below (me_Qc D cA ad n A (some (.int r)) M') args s 0 0 A) D cA ad n 5 A 197 [(0, .ref (ad 63)), (1, .int p0), (2, .int p1), (3, .int x3_3)] [] M15 := by
              intro M15 h
              unfold mX12_matches_63_J197 at h
              refine me_iinc X (v := (x3_3 + 1)) 3 rfl (in_1 _) [(3, .int (x3_3 + 1)), (0, .ref (ad 63)), (1, .int p0), (2, .int p1)] (Nat.le_of_ble_eq_true rfl) rfl dX12_matches_197 ?_
              refine me_goto X 155 (by decide) dX12_matches_200 ?_
              obtain rfl := me_so h
              refine me_sub (L' := [(0, .ref (ad 63)), (1, .int p0), (2, .int p1), (3, .int (x3_3 + 1))]) [1, 2, 3, 0] rfl ?_
              exact hb4 ((x3_3 + 1), M15) rfl
            refine me_icmp_lt X 197 (by decide) dX12_matches_167 (fun c9 => ?_) (fun c9 => ?_)
            · have h := me_ip c9 h
              exact hj197_3 M13 h
            · have h := me_in c9 h
              refine me_iload_n X (i := 3) 3 rfl dX12_matches_170 ?_
              have hj191_4 : mX12_matches_63_J191 p0 p1 x3_3 M13  = some z4 → me_W p l e R s m args below meth c 0 0 (MQ below (me_Qc D cA ad n A (some (.int r)) M') args s 0 0 A) D cA ad n 5 A 191 [(0, .ref (ad 63)), (1, .int p0), (2, .int p1), (3, .int x3_3)] [] M13 := by
                intro h
                unfold mX12_matches_63_J191 at h
                refine me_aload_n X (i := 0) 0 rfl dX12_matches_191 ?_
                refine me_iload_n X (i := 3) 3 rfl dX12_matches_192 ?_
                refine me_iload_n X (i := 1) 1 rfl dX12_matches_193 ?_
                obtain ⟨M14, e15, h⟩ := me_bd h
                refine me_callVv X [.int x3_3, .int p0] (ctX12_laysMatch_63 hn (Nat.le_trans (by decide) hnt) e15) kV_X12_301 rfl rfl (Nat.le_of_ble_eq_true rfl) me_k63 (Nat.le_of_ble_eq_true rfl) (Nat.le_refl _) (Nat.le_of_ble_eq_true rfl) dX12_matches_194 ?_
                exact hj197_3 M14 h
              refine me_if_eq X 191 (by decide) dX12_matches_171 (fun c10 => ?_) (fun c10 => ?_)
              · have h := me_ip c10 h
                exact hj191_4  h
              · have h := me_in c10 h
                refine me_aload_n X (i := 0) 0 rfl dX12_matches_174 ?_
                refine me_getr X 88 kF_X12_96 (Nat.le_of_ble_eq_true rfl) me_k63 me_f63_41 dX12_matches_175 ?_
                refine me_iload_n X (i := 3) 3 rfl dX12_matches_178 ?_
                refine me_iconst X dX12_matches_179 ic_1 ?_
                refine me_isub X dX12_matches_180 ?_
                obtain ⟨v10, e13, h⟩ := me_bd h
                refine me_iald X (Nat.le_of_ble_eq_true rfl) me_k88 e13 dX12_matches_181 ?_
                refine me_aload_n X (i := 0) 0 rfl dX12_matches_182 ?_
                refine me_getr X 88 kF_X12_96 (Nat.le_of_ble_eq_true rfl) me_k63 me_f63_41 dX12_matches_183 ?_
                refine me_iload_n X (i := 3) 3 rfl dX12_matches_186 ?_
                obtain ⟨v11, e14, h⟩ := me_bd h
                refine me_iald X (Nat.le_of_ble_eq_true rfl) me_k88 e14 dX12_matches_187 ?_
                refine me_icmp_gt X 197 (by decide) dX12_matches_188 (fun c11 => ?_) (fun c11 => ?_)
                · have h := me_ip c11 h
                  exact hj197_3 M13 h
                · have h := me_in c11 h
                  exact hj191_4  h
        refine me_sub (L' := [(0, .ref (ad 63)), (1, .int p0), (2, .int p1), (3, .int 0)]) [1, 2, 3, 0] rfl ?_
        refine me_l_W (b := (mX12_matches_63_L94 p0 p1)) (P := fun w => me_W p l e R s m args below meth c 0 0 (MQ below (me_Qc D cA ad n A (some (.int r)) M') args s 0 0 A) D cA ad n 5 A 94 [(0, .ref (ad 63)), (1, .int p0), (2, .int p1), (3, .int w.1)] [] w.2) (r := M12) ?_ me_fu (0, M6) hq2
        rintro ⟨x3_2, M7⟩ z2 h hb2 - hr2
        unfold mX12_matches_63_L94 at h
        refine me_iload_n X (i := 3) 3 rfl dX12_matches_94 ?_
        refine me_iload_n X (i := 1) 1 rfl dX12_matches_95 ?_
        refine me_icmp_ge X 153 (by decide) dX12_matches_96 (fun c6 => ?_) (fun c6 => ?_)
        · have h := me_ip c6 h
          obtain rfl := me_so h
          have q := hr2 _ rfl
          refine me_sub (L' := [(0, .ref (ad 63)), (1, .int p0), (2, .int p1)]) [0, 1, 2] rfl ?_
          cases q
          exact hx3
        · have h := me_in c6 h
          refine me_aload_n X (i := 0) 0 rfl dX12_matches_99 ?_
          refine me_getr X 88 kF_X12_96 (Nat.le_of_ble_eq_true rfl) me_k63 me_f63_41 dX12_matches_100 ?_
          refine me_iload_n X (i := 3) 3 rfl dX12_matches_103 ?_
          refine me_iconst X dX12_matches_104 ic_0 ?_
          obtain ⟨M8, e7, h⟩ := me_bd h
          refine me_iast X (Nat.le_of_ble_eq_true rfl) me_k88 e7 dX12_matches_105 ?_
          refine me_iconst X dX12_matches_106 ic_0 ?_
          refine me_istore X (i := 4) [(4, .int 0), (0, .ref (ad 63)), (1, .int p0), (2, .int p1), (3, .int x3_2)] (Nat.le_of_ble_eq_true rfl) rfl dX12_matches_107 ?_
          obtain ⟨M11, hq3, h⟩ := me_bd h
          have hx2 : me_W p l e R s m args below meth c 0 0 (MQ below (me_Qc D cA ad n A (some (.int r)) M') args s 0 0 A) D cA ad n 5 A 147 [(0, .ref (ad 63)), (1, .int p0), (2, .int p1), (3, .int x3_2)] [] M11 := by
            refine me_iinc X (v := (x3_2 + 1)) 3 rfl (in_1 _) [(3, .int (x3_2 + 1)), (0, .ref (ad 63)), (1, .int p0), (2, .int p1)] (Nat.le_of_ble_eq_true rfl) rfl dX12_matches_147 ?_
            refine me_goto X 94 (by decide) dX12_matches_150 ?_
            obtain rfl := me_so h
            refine me_sub (L' := [(0, .ref (ad 63)), (1, .int p0), (2, .int p1), (3, .int (x3_2 + 1))]) [1, 2, 3, 0] rfl ?_
            exact hb2 ((x3_2 + 1), M11) rfl
          refine me_sub (L' := [(0, .ref (ad 63)), (1, .int p0), (2, .int p1), (3, .int x3_2), (4, .int 0)]) [1, 2, 3, 4, 0] rfl ?_
          refine me_l_W (b := (mX12_matches_63_L109 p0 p1 x3_2)) (P := fun w => me_W p l e R s m args below meth c 0 0 (MQ below (me_Qc D cA ad n A (some (.int r)) M') args s 0 0 A) D cA ad n 5 A 109 [(0, .ref (ad 63)), (1, .int p0), (2, .int p1), (3, .int x3_2), (4, .int w.1)] [] w.2) (r := M11) ?_ me_fu (0, M8) hq3
          rintro ⟨x4_1, M9⟩ z3 h hb3 - hr3
          unfold mX12_matches_63_L109 at h
          refine me_iload X (i := 4) 4 rfl dX12_matches_109 ?_
          refine me_aload_n X (i := 0) 0 rfl dX12_matches_111 ?_
          refine me_geti X kF_X12_20 (Nat.le_of_ble_eq_true rfl) me_k63 me_f63_5 dX12_matches_112 ?_
          refine me_icmp_ge X 147 (by decide) dX12_matches_115 (fun c7 => ?_) (fun c7 => ?_)
          · have h := me_ip c7 h
            obtain rfl := me_so h
            have q := hr3 _ rfl
            refine me_sub (L' := [(0, .ref (ad 63)), (1, .int p0), (2, .int p1), (3, .int x3_2)]) [0, 1, 2, 3] rfl ?_
            cases q
            exact hx2
          · have h := me_in c7 h
            refine me_aload_n X (i := 0) 0 rfl dX12_matches_118 ?_
            refine me_getr X 88 kF_X12_96 (Nat.le_of_ble_eq_true rfl) me_k63 me_f63_41 dX12_matches_119 ?_
            refine me_iload_n X (i := 3) 3 rfl dX12_matches_122 ?_
            refine me_aload_n X (i := 0) 0 rfl dX12_matches_123 ?_
            refine me_getr X 88 kF_X12_96 (Nat.le_of_ble_eq_true rfl) me_k63 me_f63_41 dX12_matches_124 ?_
            refine me_iload_n X (i := 3) 3 rfl dX12_matches_127 ?_
            obtain ⟨v6, e8, h⟩ := me_bd h
            refine me_iald X (Nat.le_of_ble_eq_true rfl) me_k88 e8 dX12_matches_128 ?_
            refine me_aload_n X (i := 0) 0 rfl dX12_matches_129 ?_
            refine me_iload_n X (i := 3) 3 rfl dX12_matches_130 ?_
            refine me_iload X (i := 4) 4 rfl dX12_matches_131 ?_
            refine me_iload_n X (i := 1) 1 rfl dX12_matches_133 ?_
            obtain ⟨v7, e9, h⟩ := me_bd h
            refine me_callVi X [.int x3_2, .int x4_1, .int p0] (ctX12_fits_63 hn (Nat.le_trans (by decide) hnt) e9) kV_X12_298 rfl rfl (Nat.le_of_ble_eq_true rfl) me_k63 (Nat.le_of_ble_eq_true rfl) (Nat.le_refl _) (Nat.le_of_ble_eq_true rfl) dX12_matches_134 ?_
            obtain ⟨v8, e10, h⟩ := me_bd h
            refine me_callSi X [.int v6, .int v7] (ctX12_more hn (Nat.le_trans (by decide) hnt) e10) kS_X12_202 rfl rfl (Nat.le_of_ble_eq_true rfl) (Nat.le_refl _) (Nat.le_of_ble_eq_true rfl) dX12_matches_137 ?_
            obtain ⟨M10, e11, h⟩ := me_bd h
            refine me_iast X (Nat.le_of_ble_eq_true rfl) me_k88 e11 dX12_matches_140 ?_
            refine me_iinc X (v := (x4_1 + 1)) 4 rfl (in_1 _) [(4, .int (x4_1 + 1)), (0, .ref (ad 63)), (1, .int p0), (2, .int p1), (3, .int x3_2)] (Nat.le_of_ble_eq_true rfl) rfl dX12_matches_141 ?_
            refine me_goto X 109 (by decide) dX12_matches_144 ?_
            obtain rfl := me_so h
            refine me_sub (L' := [(0, .ref (ad 63)), (1, .int p0), (2, .int p1), (3, .int x3_2), (4, .int (x4_1 + 1))]) [1, 2, 3, 4, 0] rfl ?_
            exact hb3 ((x4_1 + 1), M10) rfl
      refine me_sub (L' := [(0, .ref (ad 63)), (1, .int p0), (2, .int p1), (3, .int 0)]) [1, 2, 3, 0] rfl ?_
      refine me_l_W (b := (mX12_matches_63_L64 p0 p1)) (P := fun w => me_W p l e R s m args below meth c 0 0 (MQ below (me_Qc D cA ad n A (some (.int r)) M') args s 0 0 A) D cA ad n 5 A 64 [(0, .ref (ad 63)), (1, .int p0), (2, .int p1), (3, .int w.1)] [] w.2) (r := M6) ?_ me_fu (0, (me_s (me_s M3 63 2 0) 63 38 0)) hq1
      rintro ⟨x3_1, M4⟩ z1 h hb1 - hr1
      unfold mX12_matches_63_L64 at h
      refine me_iload_n X (i := 3) 3 rfl dX12_matches_64 ?_
      refine me_iload_n X (i := 1) 1 rfl dX12_matches_65 ?_
      refine me_icmp_ge X 92 (by decide) dX12_matches_66 (fun c5 => ?_) (fun c5 => ?_)
      · have h := me_ip c5 h
        obtain rfl := me_so h
        have q := hr1 _ rfl
        refine me_sub (L' := [(0, .ref (ad 63)), (1, .int p0), (2, .int p1)]) [0, 1, 2] rfl ?_
        cases q
        exact hx1
      · have h := me_in c5 h
        refine me_aload_n X (i := 0) 0 rfl dX12_matches_69 ?_
        refine me_getr X 87 kF_X12_93 (Nat.le_of_ble_eq_true rfl) me_k63 me_f63_40 dX12_matches_70 ?_
        refine me_iload_n X (i := 3) 3 rfl dX12_matches_73 ?_
        refine me_aload_n X (i := 0) 0 rfl dX12_matches_74 ?_
        refine me_getr X 65 kF_X12_17 (Nat.le_of_ble_eq_true rfl) me_k63 me_f63_4 dX12_matches_75 ?_
        refine me_iload_n X (i := 3) 3 rfl dX12_matches_78 ?_
        obtain ⟨v5, e5, h⟩ := me_bd h
        refine me_iald X (Nat.le_of_ble_eq_true rfl) me_k65 e5 dX12_matches_79 ?_
        refine me_bipush X dX12_matches_80 ib_97 ?_
        refine me_isub X dX12_matches_82 ?_
        refine me_iconst X dX12_matches_83 ic_2 ?_
        refine me_iadd X dX12_matches_84 ?_
        obtain ⟨M5, e6, h⟩ := me_bd h
        refine me_iast X (Nat.le_of_ble_eq_true rfl) me_k87 e6 dX12_matches_85 ?_
        refine me_iinc X (v := (x3_1 + 1)) 3 rfl (in_1 _) [(3, .int (x3_1 + 1)), (0, .ref (ad 63)), (1, .int p0), (2, .int p1)] (Nat.le_of_ble_eq_true rfl) rfl dX12_matches_86 ?_
        refine me_goto X 64 (by decide) dX12_matches_89 ?_
        obtain rfl := me_so h
        refine me_sub (L' := [(0, .ref (ad 63)), (1, .int p0), (2, .int p1), (3, .int (x3_1 + 1))]) [1, 2, 3, 0] rfl ?_
        exact hb1 ((x3_1 + 1), M5) rfl
    · have h := me_in c4 h
      refine me_iconst X dX12_matches_50 ic_0 ?_
      obtain ⟨rfl, rfl⟩ := me_sp h
      exact me_iret X hr hlk dX12_matches_51
  have hj37_1 : ∀ (M1 : me_M), mX12_matches_63_J37 p0 p1 M1 = some (r, M') → me_W p l e R s m args below meth c 0 0 (MQ below (me_Qc D cA ad n A (some (.int r)) M') args s 0 0 A) D cA ad n 5 A 37 [(0, .ref (ad 63)), (1, .int p0), (2, .int p1)] [.ref (ad 63)] M1 := by
    intro M1 h
    unfold mX12_matches_63_J37 at h
    refine me_iconst X dX12_matches_37 ic_1 ?_
    refine me_goto X 42 (by decide) dX12_matches_38 ?_
    exact hj42_2 1 M1 h
  refine me_if_eq X 37 (by decide) dX12_matches_15 (fun c1 => ?_) (fun c1 => ?_)
  · have h := me_ip c1 h
    exact hj37_1 (me_s M 63 0 0) h
  · have h := me_in c1 h
    refine me_aload_n X (i := 0) 0 rfl dX12_matches_18 ?_
    refine me_iload_n X (i := 1) 1 rfl dX12_matches_19 ?_
    obtain ⟨v2, e2, h⟩ := me_bd h
    refine me_callVi X [.int p0] (ctX12_areLetters_63 hn (Nat.le_trans (by decide) hnt) e2) kV_X12_254 rfl rfl (Nat.le_of_ble_eq_true rfl) me_k63 (Nat.le_of_ble_eq_true rfl) (Nat.le_refl _) (Nat.le_of_ble_eq_true rfl) dX12_matches_20 ?_
    refine me_if_eq X 37 (by decide) dX12_matches_23 (fun c2 => ?_) (fun c2 => ?_)
    · have h := me_ip c2 h
      exact hj37_1 (me_s M 63 0 0) h
    · have h := me_in c2 h
      refine me_iload_n X (i := 2) 2 rfl dX12_matches_26 ?_
      refine me_iconst X dX12_matches_27 ic_1 ?_
      refine me_sipush X dX12_matches_28 is_240 ?_
      obtain ⟨v3, e3, h⟩ := me_bd h
      refine me_callSi X [.int p1, .int 1, .int 240] (ctX12_in hn (Nat.le_trans (by decide) hnt) e3) kS_X12_108 rfl rfl (Nat.le_of_ble_eq_true rfl) (Nat.le_refl _) (Nat.le_of_ble_eq_true rfl) dX12_matches_31 ?_
      refine me_if_ne X 41 (by decide) dX12_matches_34 (fun c3 => ?_) (fun c3 => ?_)
      · have h := me_in c3 h
        refine me_iconst X dX12_matches_41 ic_0 ?_
        exact hj42_2 0 (me_s M 63 0 0) h
      · have h := me_ip c3 h
        exact hj37_1 (me_s M 63 0 0) h
def mX12_match_63_J48 (p0 : Int32) (p1 : Int32) (M2 : me_M) (s2 : Int32) : Option (Int32 × me_M) :=
  ((mX12_bad_63 M2 s2 2 1).bind fun (v4, M3) => (if v4 = 0 then ((me_a 240 184 p0).bind fun a1 => ((me_r M3 a1 4 p1).bind fun v5 => some (v5, M3))) else some (0, M3)))
def mX12_match_63_J25 (p0 : Int32) (p1 : Int32) (s1 : Int32) (M1 : me_M) : Option (Int32 × me_M) :=
  ((mX12_bad_63 M1 s1 1 0).bind fun (v2, M2) => (if v2 = 0 then ((mX12_in p1 0 3).bind fun v3 => (if v3 = 0 then (mX12_match_63_J48 p0 p1 M2 1) else (mX12_match_63_J48 p0 p1 M2 0))) else some (0, M2)))
def mX12_match_63 (M : me_M) (p0 : Int32) (p1 : Int32) : Option (Int32 × me_M) :=
  ((mX12_in p0 0 (((me_s M 63 0 0).1 63 38) - 1)).bind fun v1 => (if v1 = 0 then (mX12_match_63_J25 p0 p1 1 (me_s M 63 0 0)) else (mX12_match_63_J25 p0 p1 0 (me_s M 63 0 0))))
set_option maxRecDepth 100000 in
set_option maxHeartbeats 4000000 in
theorem ctX12_match_63 {l : Launch} {n nt : Nat} (hn : 424 ≤ n) (hnt : 4 ≤ nt) {M : me_M} {p0 : Int32} {p1 : Int32} {r : Int32} {M' : me_M} (h : mX12_match_63 M p0 p1 = some (r, M')) : me_Ct l yX12_match cX12_match 3 (some .int) 1 n nt (fun ad => [.ref (ad 63), .int p0, .int p1]) M (fun _ => some (.int r)) M' := by
  unfold mX12_match_63 at h
  refine me_enter (N0 := 424) RX12 rfl (plainFor_of_name pl_RX12) hn (Nat.le_trans (by decide) hnt) (fun _ => Nat.le_of_ble_eq_true rfl) ?_
  intro p e R s m args below meth c D cA ad tys A X hr hlk
  refine me_sub (L' := [(0, .ref (ad 63)), (1, .int p0), (2, .int p1)]) [0, 1, 2] rfl ?_
  refine me_aload_n X (i := 0) 0 rfl dX12_match_0 ?_
  refine me_iconst X dX12_match_1 ic_0 ?_
  refine me_puti X kG_X12_105 (Nat.le_of_ble_eq_true rfl) me_k63 me_f63_0 dX12_match_2 ?_
  refine me_aload_n X (i := 0) 0 rfl dX12_match_5 ?_
  refine me_iload_n X (i := 1) 1 rfl dX12_match_6 ?_
  refine me_iconst X dX12_match_7 ic_0 ?_
  refine me_aload_n X (i := 0) 0 rfl dX12_match_8 ?_
  refine me_geti X kF_X12_134 (Nat.le_of_ble_eq_true rfl) me_k63 me_f63_38 dX12_match_9 ?_
  refine me_iconst X dX12_match_12 ic_1 ?_
  refine me_isub X dX12_match_13 ?_
  obtain ⟨v1, e1, h⟩ := me_bd h
  refine me_callSi X [.int p0, .int 0, .int (((me_s M 63 0 0).1 63 38) - 1)] (ctX12_in hn (Nat.le_trans (by decide) hnt) e1) kS_X12_108 rfl rfl (Nat.le_of_ble_eq_true rfl) (Nat.le_refl _) (Nat.le_of_ble_eq_true rfl) dX12_match_14 ?_
  have hj25_1 : ∀ (s1 : Int32) (M1 : me_M), mX12_match_63_J25 p0 p1 s1 M1 = some (r, M') → me_W p l e R s m args below meth c 0 0 (MQ below (me_Qc D cA ad n A (some (.int r)) M') args s 0 0 A) D cA ad n 3 A 25 [(0, .ref (ad 63)), (1, .int p0), (2, .int p1)] [.int s1, .ref (ad 63)] M1 := by
    intro s1 M1 h
    unfold mX12_match_63_J25 at h
    refine me_iconst X dX12_match_25 ic_1 ?_
    refine me_iconst X dX12_match_26 ic_0 ?_
    obtain ⟨⟨v2, M2⟩, e2, h⟩ := me_bd h
    refine me_callVi X [.int s1, .int 1, .int 0] (ctX12_bad_63 hn (Nat.le_trans (by decide) hnt) e2) kV_X12_122 rfl rfl (Nat.le_of_ble_eq_true rfl) me_k63 (Nat.le_of_ble_eq_true rfl) (Nat.le_refl _) (Nat.le_of_ble_eq_true rfl) dX12_match_27 ?_
    refine me_if_ne X 56 (by decide) dX12_match_30 (fun c2 => ?_) (fun c2 => ?_)
    · have h := me_in c2 h
      refine me_iconst X dX12_match_56 ic_0 ?_
      obtain ⟨rfl, rfl⟩ := me_sp h
      exact me_iret X hr hlk dX12_match_57
    · have h := me_ip c2 h
      refine me_aload_n X (i := 0) 0 rfl dX12_match_33 ?_
      refine me_iload_n X (i := 2) 2 rfl dX12_match_34 ?_
      refine me_iconst X dX12_match_35 ic_0 ?_
      refine me_iconst X dX12_match_36 ic_3 ?_
      obtain ⟨v3, e3, h⟩ := me_bd h
      refine me_callSi X [.int p1, .int 0, .int 3] (ctX12_in hn (Nat.le_trans (by decide) hnt) e3) kS_X12_108 rfl rfl (Nat.le_of_ble_eq_true rfl) (Nat.le_refl _) (Nat.le_of_ble_eq_true rfl) dX12_match_37 ?_
      have hj48_2 : ∀ (s2 : Int32), mX12_match_63_J48 p0 p1 M2 s2 = some (r, M') → me_W p l e R s m args below meth c 0 0 (MQ below (me_Qc D cA ad n A (some (.int r)) M') args s 0 0 A) D cA ad n 3 A 48 [(0, .ref (ad 63)), (1, .int p0), (2, .int p1)] [.int s2, .ref (ad 63)] M2 := by
        intro s2 h
        unfold mX12_match_63_J48 at h
        refine me_iconst X dX12_match_48 ic_2 ?_
        refine me_iconst X dX12_match_49 ic_1 ?_
        obtain ⟨⟨v4, M3⟩, e4, h⟩ := me_bd h
        refine me_callVi X [.int s2, .int 2, .int 1] (ctX12_bad_63 hn (Nat.le_trans (by decide) hnt) e4) kV_X12_122 rfl rfl (Nat.le_of_ble_eq_true rfl) me_k63 (Nat.le_of_ble_eq_true rfl) (Nat.le_refl _) (Nat.le_of_ble_eq_true rfl) dX12_match_50 ?_
        refine me_if_eq X 58 (by decide) dX12_match_53 (fun c4 => ?_) (fun c4 => ?_)
        · have h := me_ip c4 h
          refine me_aload_n X (i := 0) 0 rfl dX12_match_58 ?_
          refine me_getr X 183 kF_X12_90 (Nat.le_of_ble_eq_true rfl) me_k63 me_f63_39 dX12_match_59 ?_
          refine me_iload_n X (i := 1) 1 rfl dX12_match_62 ?_
          obtain ⟨a1, e5, h⟩ := me_bd h
          have f_a1 := me_f184 e5
          refine me_aald X (Nat.le_of_ble_eq_true rfl) ⟨by decide, by decide, Nat.lt_of_lt_of_le (by decide) hnt⟩ me_k183 e5 dX12_match_63 ?_
          refine me_iload_n X (i := 2) 2 rfl dX12_match_64 ?_
          obtain ⟨v5, e6, h⟩ := me_bd h
          refine me_iald X f_a1.2 f_a1.1 e6 dX12_match_65 ?_
          obtain ⟨rfl, rfl⟩ := me_sp h
          exact me_iret X hr hlk dX12_match_66
        · have h := me_in c4 h
          refine me_iconst X dX12_match_56 ic_0 ?_
          obtain ⟨rfl, rfl⟩ := me_sp h
          exact me_iret X hr hlk dX12_match_57
      refine me_if_ne X 47 (by decide) dX12_match_40 (fun c3 => ?_) (fun c3 => ?_)
      · have h := me_in c3 h
        refine me_iconst X dX12_match_47 ic_0 ?_
        exact hj48_2 0 h
      · have h := me_ip c3 h
        refine me_iconst X dX12_match_43 ic_1 ?_
        refine me_goto X 48 (by decide) dX12_match_44 ?_
        exact hj48_2 1 h
  refine me_if_ne X 24 (by decide) dX12_match_17 (fun c1 => ?_) (fun c1 => ?_)
  · have h := me_in c1 h
    refine me_iconst X dX12_match_24 ic_0 ?_
    exact hj25_1 0 (me_s M 63 0 0) h
  · have h := me_ip c1 h
    refine me_iconst X dX12_match_20 ic_1 ?_
    refine me_goto X 25 (by decide) dX12_match_21 ?_
    exact hj25_1 1 (me_s M 63 0 0) h
