def mX7_extend_20 (M : me_M) (p0 : Int32) (p1 : Int32) (p2 : Int32) : Option (Int32 × me_M) :=
  (if p0 < 0 then some (0, M) else (if (p0 + 1) < 41 then (if p2 = 0 then ((me_r M 21 41 p0).bind fun v9 => ((me_r M 23 41 p0).bind fun v10 => ((mX4_rowWith_9 M v9 p1).bind fun v11 => ((me_t M 21 41 (p0 + 1) v11).bind fun M4 => ((me_r M4 22 41 p0).bind fun v12 => ((mX4_smallerAhead_9 M4 (v9 + v10) p1).bind fun v13 => ((mX4_smallerAhead_9 M4 v9 p1).bind fun v14 => ((me_t M4 22 41 (p0 + 1) ((v12 + v13) - v14)).bind fun M5 => ((mX4_rowWith_9 M5 (v9 + v10) p1).bind fun v15 => ((me_t M5 23 41 (p0 + 1) (v15 - v11)).bind fun M6 => ((me_r M6 23 41 (p0 + 1)).bind fun v16 => some (v16, M6)))))))))))) else ((me_r M 22 41 p0).bind fun v1 => ((me_r M 23 41 p0).bind fun v2 => ((mX4_rowWith_14 M v1 p1).bind fun v3 => ((me_t M 22 41 (p0 + 1) v3).bind fun M1 => ((me_r M1 21 41 p0).bind fun v4 => ((mX4_smallerAhead_14 M1 (v1 + v2) p1).bind fun v5 => ((mX4_smallerAhead_14 M1 v1 p1).bind fun v6 => ((me_t M1 21 41 (p0 + 1) ((v4 + v5) - v6)).bind fun M2 => ((mX4_rowWith_14 M2 (v1 + v2) p1).bind fun v7 => ((me_t M2 23 41 (p0 + 1) (v7 - v3)).bind fun M3 => ((me_r M3 23 41 (p0 + 1)).bind fun v8 => some (v8, M3))))))))))))) else some (0, M)))
set_option maxRecDepth 100000 in
set_option maxHeartbeats 4000000 in
theorem ctX7_extend_20 {l : Launch} {n nt : Nat} (hn : 63 ≤ n) (hnt : 1 ≤ nt) {M : me_M} {p0 : Int32} {p1 : Int32} {p2 : Int32} {r : Int32} {M' : me_M} (h : mX7_extend_20 M p0 p1 p2 = some (r, M')) : me_Ct l yX7_extend cX7_extend 10 (some .int) 3 n nt (fun ad => [.ref (ad 20), .int p0, .int p1, .int p2]) M (fun _ => some (.int r)) M' := by
  unfold mX7_extend_20 at h
  refine me_enter (N0 := 63) RX7 rfl (plainFor_of_name pl_RX7) hn (Nat.le_trans (by decide) hnt) (fun _ => Nat.le_of_ble_eq_true rfl) ?_
  intro p e R s m args below meth c D cA ad tys A X hr hlk
  refine me_sub (L' := [(0, .ref (ad 20)), (1, .int p0), (2, .int p1), (3, .int p2)]) [0, 1, 2, 3] rfl ?_
  refine me_iload_n X (i := 1) 1 rfl dX7_extend_0 ?_
  refine me_if_lt X 15 (by decide) dX7_extend_1 (fun c1 => ?_) (fun c1 => ?_)
  · have h := me_ip c1 h
    refine me_iconst X dX7_extend_15 ic_0 ?_
    obtain ⟨rfl, rfl⟩ := me_sp h
    exact me_iret X hr hlk dX7_extend_16
  · have h := me_in c1 h
    refine me_iload_n X (i := 1) 1 rfl dX7_extend_4 ?_
    refine me_iconst X dX7_extend_5 ic_1 ?_
    refine me_iadd X dX7_extend_6 ?_
    refine me_aload_n X (i := 0) 0 rfl dX7_extend_7 ?_
    refine me_getr X 23 kF_X7_18 (Nat.le_of_ble_eq_true rfl) me_k20 me_f20_4 dX7_extend_8 ?_
    refine me_alen (v := 41) X (Nat.le_of_ble_eq_true rfl) me_k23 (by decide) dX7_extend_11 ?_
    refine me_icmp_lt X 17 (by decide) dX7_extend_12 (fun c2 => ?_) (fun c2 => ?_)
    · have h := me_ip c2 h
      refine me_iload_n X (i := 3) 3 rfl dX7_extend_17 ?_
      refine me_if_ne X 28 (by decide) dX7_extend_18 (fun c3 => ?_) (fun c3 => ?_)
      · have h := me_in c3 h
        refine me_aload_n X (i := 0) 0 rfl dX7_extend_28 ?_
        refine me_getr X 14 kF_X7_25 (Nat.le_of_ble_eq_true rfl) me_k20 me_f20_1 dX7_extend_29 ?_
        refine me_astore X (i := 4) [(4, .ref (ad 14)), (0, .ref (ad 20)), (1, .int p0), (2, .int p1), (3, .int p2)] (Nat.le_of_ble_eq_true rfl) rfl dX7_extend_32 ?_
        refine me_iload_n X (i := 3) 4 rfl dX7_extend_34 ?_
        refine me_if_ne X 45 (by decide) dX7_extend_35 (fun c4 => ?_) (fun c4 => ?_)
        · refine me_aload_n X (i := 0) 1 rfl dX7_extend_45 ?_
          refine me_getr X 22 kF_X7_15 (Nat.le_of_ble_eq_true rfl) me_k20 me_f20_3 dX7_extend_46 ?_
          refine me_astore X (i := 5) [(5, .ref (ad 22)), (4, .ref (ad 14)), (0, .ref (ad 20)), (1, .int p0), (2, .int p1), (3, .int p2)] (Nat.le_of_ble_eq_true rfl) rfl dX7_extend_49 ?_
          refine me_iload_n X (i := 3) 5 rfl dX7_extend_51 ?_
          refine me_if_ne X 62 (by decide) dX7_extend_52 (fun c5 => ?_) (fun c5 => ?_)
          · refine me_aload_n X (i := 0) 2 rfl dX7_extend_62 ?_
            refine me_getr X 21 kF_X7_9 (Nat.le_of_ble_eq_true rfl) me_k20 me_f20_2 dX7_extend_63 ?_
            refine me_astore X (i := 6) [(6, .ref (ad 21)), (5, .ref (ad 22)), (4, .ref (ad 14)), (0, .ref (ad 20)), (1, .int p0), (2, .int p1), (3, .int p2)] (Nat.le_of_ble_eq_true rfl) rfl dX7_extend_66 ?_
            refine me_aload X (i := 5) 1 rfl dX7_extend_68 ?_
            refine me_iload_n X (i := 1) 4 rfl dX7_extend_70 ?_
            obtain ⟨v1, e1, h⟩ := me_bd h
            refine me_iald X (Nat.le_of_ble_eq_true rfl) me_k22 e1 dX7_extend_71 ?_
            refine me_istore X (i := 7) [(7, .int v1), (6, .ref (ad 21)), (5, .ref (ad 22)), (4, .ref (ad 14)), (0, .ref (ad 20)), (1, .int p0), (2, .int p1), (3, .int p2)] (Nat.le_of_ble_eq_true rfl) rfl dX7_extend_72 ?_
            refine me_iload X (i := 7) 0 rfl dX7_extend_74 ?_
            refine me_aload_n X (i := 0) 4 rfl dX7_extend_76 ?_
            refine me_getr X 23 kF_X7_18 (Nat.le_of_ble_eq_true rfl) me_k20 me_f20_4 dX7_extend_77 ?_
            refine me_iload_n X (i := 1) 5 rfl dX7_extend_80 ?_
            obtain ⟨v2, e2, h⟩ := me_bd h
            refine me_iald X (Nat.le_of_ble_eq_true rfl) me_k23 e2 dX7_extend_81 ?_
            refine me_iadd X dX7_extend_82 ?_
            refine me_istore X (i := 8) [(8, .int (v1 + v2)), (7, .int v1), (6, .ref (ad 21)), (5, .ref (ad 22)), (4, .ref (ad 14)), (0, .ref (ad 20)), (1, .int p0), (2, .int p1), (3, .int p2)] (Nat.le_of_ble_eq_true rfl) rfl dX7_extend_83 ?_
            refine me_aload X (i := 4) 4 rfl dX7_extend_85 ?_
            refine me_iload X (i := 7) 1 rfl dX7_extend_87 ?_
            refine me_iload_n X (i := 2) 7 rfl dX7_extend_89 ?_
            obtain ⟨v3, e3, h⟩ := me_bd h
            refine me_callVi X [.int v1, .int p1] (ctX4_rowWith_14 hn (Nat.le_trans (by decide) hnt) e3) kV_X7_34 rfl rfl (Nat.le_of_ble_eq_true rfl) me_k14 (Nat.le_of_ble_eq_true rfl) (Nat.le_refl _) (Nat.le_of_ble_eq_true rfl) dX7_extend_90 ?_
            refine me_istore X (i := 9) [(9, .int v3), (8, .int (v1 + v2)), (7, .int v1), (6, .ref (ad 21)), (5, .ref (ad 22)), (4, .ref (ad 14)), (0, .ref (ad 20)), (1, .int p0), (2, .int p1), (3, .int p2)] (Nat.le_of_ble_eq_true rfl) rfl dX7_extend_93 ?_
            refine me_aload X (i := 5) 4 rfl dX7_extend_95 ?_
            refine me_iload_n X (i := 1) 7 rfl dX7_extend_97 ?_
            refine me_iconst X dX7_extend_98 ic_1 ?_
            refine me_iadd X dX7_extend_99 ?_
            refine me_iload X (i := 9) 0 rfl dX7_extend_100 ?_
            obtain ⟨M1, e4, h⟩ := me_bd h
            refine me_iast X (Nat.le_of_ble_eq_true rfl) me_k22 e4 dX7_extend_102 ?_
            refine me_aload X (i := 6) 3 rfl dX7_extend_103 ?_
            refine me_iload_n X (i := 1) 7 rfl dX7_extend_105 ?_
            refine me_iconst X dX7_extend_106 ic_1 ?_
            refine me_iadd X dX7_extend_107 ?_
            refine me_aload X (i := 6) 3 rfl dX7_extend_108 ?_
            refine me_iload_n X (i := 1) 7 rfl dX7_extend_110 ?_
            obtain ⟨v4, e5, h⟩ := me_bd h
            refine me_iald X (Nat.le_of_ble_eq_true rfl) me_k21 e5 dX7_extend_111 ?_
            refine me_aload X (i := 4) 5 rfl dX7_extend_112 ?_
            refine me_iload X (i := 8) 1 rfl dX7_extend_114 ?_
            refine me_iload_n X (i := 2) 8 rfl dX7_extend_116 ?_
            obtain ⟨v5, e6, h⟩ := me_bd h
            refine me_callVi X [.int (v1 + v2), .int p1] (ctX4_smallerAhead_14 hn (Nat.le_trans (by decide) hnt) e6) kV_X7_38 rfl rfl (Nat.le_of_ble_eq_true rfl) me_k14 (Nat.le_of_ble_eq_true rfl) (Nat.le_refl _) (Nat.le_of_ble_eq_true rfl) dX7_extend_117 ?_
            refine me_iadd X dX7_extend_120 ?_
            refine me_aload X (i := 4) 5 rfl dX7_extend_121 ?_
            refine me_iload X (i := 7) 2 rfl dX7_extend_123 ?_
            refine me_iload_n X (i := 2) 8 rfl dX7_extend_125 ?_
            obtain ⟨v6, e7, h⟩ := me_bd h
            refine me_callVi X [.int v1, .int p1] (ctX4_smallerAhead_14 hn (Nat.le_trans (by decide) hnt) e7) kV_X7_38 rfl rfl (Nat.le_of_ble_eq_true rfl) me_k14 (Nat.le_of_ble_eq_true rfl) (Nat.le_refl _) (Nat.le_of_ble_eq_true rfl) dX7_extend_126 ?_
            refine me_isub X dX7_extend_129 ?_
            obtain ⟨M2, e8, h⟩ := me_bd h
            refine me_iast X (Nat.le_of_ble_eq_true rfl) me_k21 e8 dX7_extend_130 ?_
            refine me_aload_n X (i := 0) 6 rfl dX7_extend_131 ?_
            refine me_getr X 23 kF_X7_18 (Nat.le_of_ble_eq_true rfl) me_k20 me_f20_4 dX7_extend_132 ?_
            refine me_iload_n X (i := 1) 7 rfl dX7_extend_135 ?_
            refine me_iconst X dX7_extend_136 ic_1 ?_
            refine me_iadd X dX7_extend_137 ?_
            refine me_aload X (i := 4) 5 rfl dX7_extend_138 ?_
            refine me_iload X (i := 8) 1 rfl dX7_extend_140 ?_
            refine me_iload_n X (i := 2) 8 rfl dX7_extend_142 ?_
            obtain ⟨v7, e9, h⟩ := me_bd h
            refine me_callVi X [.int (v1 + v2), .int p1] (ctX4_rowWith_14 hn (Nat.le_trans (by decide) hnt) e9) kV_X7_34 rfl rfl (Nat.le_of_ble_eq_true rfl) me_k14 (Nat.le_of_ble_eq_true rfl) (Nat.le_refl _) (Nat.le_of_ble_eq_true rfl) dX7_extend_143 ?_
            refine me_iload X (i := 9) 0 rfl dX7_extend_146 ?_
            refine me_isub X dX7_extend_148 ?_
            obtain ⟨M3, e10, h⟩ := me_bd h
            refine me_iast X (Nat.le_of_ble_eq_true rfl) me_k23 e10 dX7_extend_149 ?_
            refine me_aload_n X (i := 0) 6 rfl dX7_extend_150 ?_
            refine me_getr X 23 kF_X7_18 (Nat.le_of_ble_eq_true rfl) me_k20 me_f20_4 dX7_extend_151 ?_
            refine me_iload_n X (i := 1) 7 rfl dX7_extend_154 ?_
            refine me_iconst X dX7_extend_155 ic_1 ?_
            refine me_iadd X dX7_extend_156 ?_
            obtain ⟨v8, e11, h⟩ := me_bd h
            refine me_iald X (Nat.le_of_ble_eq_true rfl) me_k23 e11 dX7_extend_157 ?_
            obtain ⟨rfl, rfl⟩ := me_sp h
            exact me_iret X hr hlk dX7_extend_158
          · exact absurd c5 c3
        · exact absurd c4 c3
      · have h := me_ip c3 h
        refine me_aload_n X (i := 0) 0 rfl dX7_extend_21 ?_
        refine me_getr X 9 kF_X7_21 (Nat.le_of_ble_eq_true rfl) me_k20 me_f20_0 dX7_extend_22 ?_
        refine me_goto X 32 (by decide) dX7_extend_25 ?_
        refine me_astore X (i := 4) [(4, .ref (ad 9)), (0, .ref (ad 20)), (1, .int p0), (2, .int p1), (3, .int p2)] (Nat.le_of_ble_eq_true rfl) rfl dX7_extend_32 ?_
        refine me_iload_n X (i := 3) 4 rfl dX7_extend_34 ?_
        refine me_if_ne X 45 (by decide) dX7_extend_35 (fun c6 => ?_) (fun c6 => ?_)
        · exact absurd c3 c6
        · refine me_aload_n X (i := 0) 1 rfl dX7_extend_38 ?_
          refine me_getr X 21 kF_X7_9 (Nat.le_of_ble_eq_true rfl) me_k20 me_f20_2 dX7_extend_39 ?_
          refine me_goto X 49 (by decide) dX7_extend_42 ?_
          refine me_astore X (i := 5) [(5, .ref (ad 21)), (4, .ref (ad 9)), (0, .ref (ad 20)), (1, .int p0), (2, .int p1), (3, .int p2)] (Nat.le_of_ble_eq_true rfl) rfl dX7_extend_49 ?_
          refine me_iload_n X (i := 3) 5 rfl dX7_extend_51 ?_
          refine me_if_ne X 62 (by decide) dX7_extend_52 (fun c7 => ?_) (fun c7 => ?_)
          · exact absurd c3 c7
          · refine me_aload_n X (i := 0) 2 rfl dX7_extend_55 ?_
            refine me_getr X 22 kF_X7_15 (Nat.le_of_ble_eq_true rfl) me_k20 me_f20_3 dX7_extend_56 ?_
            refine me_goto X 66 (by decide) dX7_extend_59 ?_
            refine me_astore X (i := 6) [(6, .ref (ad 22)), (5, .ref (ad 21)), (4, .ref (ad 9)), (0, .ref (ad 20)), (1, .int p0), (2, .int p1), (3, .int p2)] (Nat.le_of_ble_eq_true rfl) rfl dX7_extend_66 ?_
            refine me_aload X (i := 5) 1 rfl dX7_extend_68 ?_
            refine me_iload_n X (i := 1) 4 rfl dX7_extend_70 ?_
            obtain ⟨v9, e12, h⟩ := me_bd h
            refine me_iald X (Nat.le_of_ble_eq_true rfl) me_k21 e12 dX7_extend_71 ?_
            refine me_istore X (i := 7) [(7, .int v9), (6, .ref (ad 22)), (5, .ref (ad 21)), (4, .ref (ad 9)), (0, .ref (ad 20)), (1, .int p0), (2, .int p1), (3, .int p2)] (Nat.le_of_ble_eq_true rfl) rfl dX7_extend_72 ?_
            refine me_iload X (i := 7) 0 rfl dX7_extend_74 ?_
            refine me_aload_n X (i := 0) 4 rfl dX7_extend_76 ?_
            refine me_getr X 23 kF_X7_18 (Nat.le_of_ble_eq_true rfl) me_k20 me_f20_4 dX7_extend_77 ?_
            refine me_iload_n X (i := 1) 5 rfl dX7_extend_80 ?_
            obtain ⟨v10, e13, h⟩ := me_bd h
            refine me_iald X (Nat.le_of_ble_eq_true rfl) me_k23 e13 dX7_extend_81 ?_
            refine me_iadd X dX7_extend_82 ?_
            refine me_istore X (i := 8) [(8, .int (v9 + v10)), (7, .int v9), (6, .ref (ad 22)), (5, .ref (ad 21)), (4, .ref (ad 9)), (0, .ref (ad 20)), (1, .int p0), (2, .int p1), (3, .int p2)] (Nat.le_of_ble_eq_true rfl) rfl dX7_extend_83 ?_
            refine me_aload X (i := 4) 4 rfl dX7_extend_85 ?_
            refine me_iload X (i := 7) 1 rfl dX7_extend_87 ?_
            refine me_iload_n X (i := 2) 7 rfl dX7_extend_89 ?_
            obtain ⟨v11, e14, h⟩ := me_bd h
            refine me_callVi X [.int v9, .int p1] (ctX4_rowWith_9 hn (Nat.le_trans (by decide) hnt) e14) kV_X7_34 rfl rfl (Nat.le_of_ble_eq_true rfl) me_k9 (Nat.le_of_ble_eq_true rfl) (Nat.le_refl _) (Nat.le_of_ble_eq_true rfl) dX7_extend_90 ?_
            refine me_istore X (i := 9) [(9, .int v11), (8, .int (v9 + v10)), (7, .int v9), (6, .ref (ad 22)), (5, .ref (ad 21)), (4, .ref (ad 9)), (0, .ref (ad 20)), (1, .int p0), (2, .int p1), (3, .int p2)] (Nat.le_of_ble_eq_true rfl) rfl dX7_extend_93 ?_
            refine me_aload X (i := 5) 4 rfl dX7_extend_95 ?_
            refine me_iload_n X (i := 1) 7 rfl dX7_extend_97 ?_
            refine me_iconst X dX7_extend_98 ic_1 ?_
            refine me_iadd X dX7_extend_99 ?_
            refine me_iload X (i := 9) 0 rfl dX7_extend_100 ?_
            obtain ⟨M4, e15, h⟩ := me_bd h
            refine me_iast X (Nat.le_of_ble_eq_true rfl) me_k21 e15 dX7_extend_102 ?_
            refine me_aload X (i := 6) 3 rfl dX7_extend_103 ?_
            refine me_iload_n X (i := 1) 7 rfl dX7_extend_105 ?_
            refine me_iconst X dX7_extend_106 ic_1 ?_
            refine me_iadd X dX7_extend_107 ?_
            refine me_aload X (i := 6) 3 rfl dX7_extend_108 ?_
            refine me_iload_n X (i := 1) 7 rfl dX7_extend_110 ?_
            obtain ⟨v12, e16, h⟩ := me_bd h
            refine me_iald X (Nat.le_of_ble_eq_true rfl) me_k22 e16 dX7_extend_111 ?_
            refine me_aload X (i := 4) 5 rfl dX7_extend_112 ?_
            refine me_iload X (i := 8) 1 rfl dX7_extend_114 ?_
            refine me_iload_n X (i := 2) 8 rfl dX7_extend_116 ?_
            obtain ⟨v13, e17, h⟩ := me_bd h
            refine me_callVi X [.int (v9 + v10), .int p1] (ctX4_smallerAhead_9 hn (Nat.le_trans (by decide) hnt) e17) kV_X7_38 rfl rfl (Nat.le_of_ble_eq_true rfl) me_k9 (Nat.le_of_ble_eq_true rfl) (Nat.le_refl _) (Nat.le_of_ble_eq_true rfl) dX7_extend_117 ?_
            refine me_iadd X dX7_extend_120 ?_
            refine me_aload X (i := 4) 5 rfl dX7_extend_121 ?_
            refine me_iload X (i := 7) 2 rfl dX7_extend_123 ?_
            refine me_iload_n X (i := 2) 8 rfl dX7_extend_125 ?_
            obtain ⟨v14, e18, h⟩ := me_bd h
            refine me_callVi X [.int v9, .int p1] (ctX4_smallerAhead_9 hn (Nat.le_trans (by decide) hnt) e18) kV_X7_38 rfl rfl (Nat.le_of_ble_eq_true rfl) me_k9 (Nat.le_of_ble_eq_true rfl) (Nat.le_refl _) (Nat.le_of_ble_eq_true rfl) dX7_extend_126 ?_
            refine me_isub X dX7_extend_129 ?_
            obtain ⟨M5, e19, h⟩ := me_bd h
            refine me_iast X (Nat.le_of_ble_eq_true rfl) me_k22 e19 dX7_extend_130 ?_
            refine me_aload_n X (i := 0) 6 rfl dX7_extend_131 ?_
            refine me_getr X 23 kF_X7_18 (Nat.le_of_ble_eq_true rfl) me_k20 me_f20_4 dX7_extend_132 ?_
            refine me_iload_n X (i := 1) 7 rfl dX7_extend_135 ?_
            refine me_iconst X dX7_extend_136 ic_1 ?_
            refine me_iadd X dX7_extend_137 ?_
            refine me_aload X (i := 4) 5 rfl dX7_extend_138 ?_
            refine me_iload X (i := 8) 1 rfl dX7_extend_140 ?_
            refine me_iload_n X (i := 2) 8 rfl dX7_extend_142 ?_
            obtain ⟨v15, e20, h⟩ := me_bd h
            refine me_callVi X [.int (v9 + v10), .int p1] (ctX4_rowWith_9 hn (Nat.le_trans (by decide) hnt) e20) kV_X7_34 rfl rfl (Nat.le_of_ble_eq_true rfl) me_k9 (Nat.le_of_ble_eq_true rfl) (Nat.le_refl _) (Nat.le_of_ble_eq_true rfl) dX7_extend_143 ?_
            refine me_iload X (i := 9) 0 rfl dX7_extend_146 ?_
            refine me_isub X dX7_extend_148 ?_
            obtain ⟨M6, e21, h⟩ := me_bd h
            refine me_iast X (Nat.le_of_ble_eq_true rfl) me_k23 e21 dX7_extend_149 ?_
            refine me_aload_n X (i := 0) 6 rfl dX7_extend_150 ?_
            refine me_getr X 23 kF_X7_18 (Nat.le_of_ble_eq_true rfl) me_k20 me_f20_4 dX7_extend_151 ?_
            refine me_iload_n X (i := 1) 7 rfl dX7_extend_154 ?_
            refine me_iconst X dX7_extend_155 ic_1 ?_
            refine me_iadd X dX7_extend_156 ?_
            obtain ⟨v16, e22, h⟩ := me_bd h
            refine me_iald X (Nat.le_of_ble_eq_true rfl) me_k23 e22 dX7_extend_157 ?_
            obtain ⟨rfl, rfl⟩ := me_sp h
            exact me_iret X hr hlk dX7_extend_158
    · have h := me_in c2 h
      refine me_iconst X dX7_extend_15 ic_0 ?_
      obtain ⟨rfl, rfl⟩ := me_sp h
      exact me_iret X hr hlk dX7_extend_16
def mX0_push_19_J73 (p1 : Int32) (v1 : Int32) (M4 : me_M) : Option (Int32 × me_M) :=
  ((me_t M4 24 40 (M4.1 19 4) p1).bind fun M5 => some (v1, (me_s M5 19 4 ((M5.1 19 4) + 1))))
def mX0_push_19 (M : me_M) (p0 : Int32) (p1 : Int32) : Option (Int32 × me_M) :=
  (if (M.1 19 4) < 40 then ((mX7_extend_20 M (M.1 19 4) p0 p1).bind fun (v1, M1) => (if v1 = 0 then some (0, M1) else (if p1 = 0 then ((me_t (me_s M1 19 3 ((M1.1 19 3) - 1)) 25 80 ((me_s M1 19 3 ((M1.1 19 3) - 1)).1 19 3) p0).bind fun M3 => (mX0_push_19_J73 p1 v1 M3)) else ((me_t M1 25 80 ((M1.1 19 3) + (M1.1 19 4)) p0).bind fun M2 => (mX0_push_19_J73 p1 v1 M2))))) else some (0, M))
set_option maxRecDepth 100000 in
set_option maxHeartbeats 4000000 in
theorem ctX0_push_19 {l : Launch} {n nt : Nat} (hn : 63 ≤ n) (hnt : 1 ≤ nt) {M : me_M} {p0 : Int32} {p1 : Int32} {r : Int32} {M' : me_M} (h : mX0_push_19 M p0 p1 = some (r, M')) : me_Ct l yX0_push cX0_push 4 (some .int) 4 n nt (fun ad => [.ref (ad 19), .int p0, .int p1]) M (fun _ => some (.int r)) M' := by
  unfold mX0_push_19 at h
  refine me_enter (N0 := 63) RX0 rfl (plainFor_of_name pl_RX0) hn (Nat.le_trans (by decide) hnt) (fun _ => Nat.le_of_ble_eq_true rfl) ?_
  intro p e R s m args below meth c D cA ad tys A X hr hlk
  refine me_sub (L' := [(0, .ref (ad 19)), (1, .int p0), (2, .int p1)]) [0, 1, 2] rfl ?_
  refine me_aload_n X (i := 0) 0 rfl dX0_push_0 ?_
  refine me_geti X kF_X0_31 (Nat.le_of_ble_eq_true rfl) me_k19 me_f19_4 dX0_push_1 ?_
  refine me_bipush X dX0_push_4 ib_40 ?_
  refine me_icmp_lt X 11 (by decide) dX0_push_6 (fun c1 => ?_) (fun c1 => ?_)
  · have h := me_ip c1 h
    refine me_aload_n X (i := 0) 0 rfl dX0_push_11 ?_
    refine me_getr X 20 kF_X0_23 (Nat.le_of_ble_eq_true rfl) me_k19 me_f19_0 dX0_push_12 ?_
    refine me_aload_n X (i := 0) 0 rfl dX0_push_15 ?_
    refine me_geti X kF_X0_31 (Nat.le_of_ble_eq_true rfl) me_k19 me_f19_4 dX0_push_16 ?_
    refine me_iload_n X (i := 1) 1 rfl dX0_push_19 ?_
    refine me_iload_n X (i := 2) 2 rfl dX0_push_20 ?_
    obtain ⟨⟨v1, M1⟩, e1, h⟩ := me_bd h
    refine me_callVi X [.int (M.1 19 4), .int p0, .int p1] (ctX7_extend_20 hn (Nat.le_trans (by decide) hnt) e1) kV_X0_37 rfl rfl (Nat.le_of_ble_eq_true rfl) me_k20 (Nat.le_of_ble_eq_true rfl) (Nat.le_refl _) (Nat.le_of_ble_eq_true rfl) dX0_push_21 ?_
    refine me_istore_n X (i := 3) [(3, .int v1), (0, .ref (ad 19)), (1, .int p0), (2, .int p1)] (Nat.le_of_ble_eq_true rfl) rfl dX0_push_24 ?_
    refine me_iload_n X (i := 3) 0 rfl dX0_push_25 ?_
    refine me_if_ne X 31 (by decide) dX0_push_26 (fun c2 => ?_) (fun c2 => ?_)
    · have h := me_in c2 h
      refine me_iload_n X (i := 2) 3 rfl dX0_push_31 ?_
      have hj73_1 : ∀ (M4 : me_M), mX0_push_19_J73 p1 v1 M4 = some (r, M') → me_W p l e R s m args below meth c 0 0 (MQ below (me_Qc D cA ad n A (some (.int r)) M') args s 0 0 A) D cA ad n 4 A 73 [(0, .ref (ad 19)), (2, .int p1), (3, .int v1)] [] M4 := by
        intro M4 h
        unfold mX0_push_19_J73 at h
        refine me_aload_n X (i := 0) 0 rfl dX0_push_73 ?_
        refine me_getr X 24 kF_X0_9 (Nat.le_of_ble_eq_true rfl) me_k19 me_f19_1 dX0_push_74 ?_
        refine me_aload_n X (i := 0) 0 rfl dX0_push_77 ?_
        refine me_geti X kF_X0_31 (Nat.le_of_ble_eq_true rfl) me_k19 me_f19_4 dX0_push_78 ?_
        refine me_iload_n X (i := 2) 1 rfl dX0_push_81 ?_
        obtain ⟨M5, e4, h⟩ := me_bd h
        refine me_iast X (Nat.le_of_ble_eq_true rfl) me_k24 e4 dX0_push_82 ?_
        refine me_aload_n X (i := 0) 0 rfl dX0_push_83 ?_
        refine me_dup X rfl dX0_push_84 ?_
        refine me_geti X kF_X0_31 (Nat.le_of_ble_eq_true rfl) me_k19 me_f19_4 dX0_push_85 ?_
        refine me_iconst X dX0_push_88 ic_1 ?_
        refine me_iadd X dX0_push_89 ?_
        refine me_puti X kG_X0_31 (Nat.le_of_ble_eq_true rfl) me_k19 me_f19_4 dX0_push_90 ?_
        refine me_iload_n X (i := 3) 2 rfl dX0_push_93 ?_
        obtain ⟨rfl, rfl⟩ := me_sp h
        exact me_iret X hr hlk dX0_push_94
      refine me_if_ne X 58 (by decide) dX0_push_32 (fun c3 => ?_) (fun c3 => ?_)
      · have h := me_in c3 h
        refine me_aload_n X (i := 0) 1 rfl dX0_push_58 ?_
        refine me_getr X 25 kF_X0_15 (Nat.le_of_ble_eq_true rfl) me_k19 me_f19_2 dX0_push_59 ?_
        refine me_aload_n X (i := 0) 1 rfl dX0_push_62 ?_
        refine me_geti X kF_X0_27 (Nat.le_of_ble_eq_true rfl) me_k19 me_f19_3 dX0_push_63 ?_
        refine me_aload_n X (i := 0) 1 rfl dX0_push_66 ?_
        refine me_geti X kF_X0_31 (Nat.le_of_ble_eq_true rfl) me_k19 me_f19_4 dX0_push_67 ?_
        refine me_iadd X dX0_push_70 ?_
        refine me_iload_n X (i := 1) 2 rfl dX0_push_71 ?_
        obtain ⟨M2, e2, h⟩ := me_bd h
        refine me_iast X (Nat.le_of_ble_eq_true rfl) me_k25 e2 dX0_push_72 ?_
        refine me_sub (L' := [(0, .ref (ad 19)), (2, .int p1), (3, .int v1)]) [1, 3, 0] rfl ?_
        exact hj73_1 M2 h
      · have h := me_ip c3 h
        refine me_aload_n X (i := 0) 1 rfl dX0_push_35 ?_
        refine me_dup X rfl dX0_push_36 ?_
        refine me_geti X kF_X0_27 (Nat.le_of_ble_eq_true rfl) me_k19 me_f19_3 dX0_push_37 ?_
        refine me_iconst X dX0_push_40 ic_1 ?_
        refine me_isub X dX0_push_41 ?_
        refine me_puti X kG_X0_27 (Nat.le_of_ble_eq_true rfl) me_k19 me_f19_3 dX0_push_42 ?_
        refine me_aload_n X (i := 0) 1 rfl dX0_push_45 ?_
        refine me_getr X 25 kF_X0_15 (Nat.le_of_ble_eq_true rfl) me_k19 me_f19_2 dX0_push_46 ?_
        refine me_aload_n X (i := 0) 1 rfl dX0_push_49 ?_
        refine me_geti X kF_X0_27 (Nat.le_of_ble_eq_true rfl) me_k19 me_f19_3 dX0_push_50 ?_
        refine me_iload_n X (i := 1) 2 rfl dX0_push_53 ?_
        obtain ⟨M3, e3, h⟩ := me_bd h
        refine me_iast X (Nat.le_of_ble_eq_true rfl) me_k25 e3 dX0_push_54 ?_
        refine me_goto X 73 (by decide) dX0_push_55 ?_
        refine me_sub (L' := [(0, .ref (ad 19)), (2, .int p1), (3, .int v1)]) [1, 3, 0] rfl ?_
        exact hj73_1 M3 h
    · have h := me_ip c2 h
      refine me_iconst X dX0_push_29 ic_0 ?_
      obtain ⟨rfl, rfl⟩ := me_sp h
      exact me_iret X hr hlk dX0_push_30
  · have h := me_in c1 h
    refine me_iconst X dX0_push_9 ic_0 ?_
    obtain ⟨rfl, rfl⟩ := me_sp h
    exact me_iret X hr hlk dX0_push_10
def mX0_size_19 (M : me_M)  : Option Int32 :=
  ((me_r M 23 41 (M.1 19 4)).bind fun v1 => some v1)
set_option maxRecDepth 100000 in
set_option maxHeartbeats 4000000 in
theorem ctX0_size_19 {l : Launch} {n nt : Nat} (hn : 63 ≤ n) (hnt : 1 ≤ nt) {M : me_M} {r : Int32} (h : mX0_size_19 M = some r) : me_Ct l yX0_size cX0_size 1 (some .int) 0 n nt (fun ad => [.ref (ad 19)]) M (fun _ => some (.int r)) M := by
  unfold mX0_size_19 at h
  refine me_enter (N0 := 63) RX0 rfl (plainFor_of_name pl_RX0) hn (Nat.le_trans (by decide) hnt) (fun _ => Nat.le_of_ble_eq_true rfl) ?_
  intro p e R s m args below meth c D cA ad tys A X hr hlk
  refine me_sub (L' := [(0, .ref (ad 19))]) [0] rfl ?_
  refine me_aload_n X (i := 0) 0 rfl dX0_size_0 ?_
  refine me_getr X 20 kF_X0_23 (Nat.le_of_ble_eq_true rfl) me_k19 me_f19_0 dX0_size_1 ?_
  refine me_getr X 23 kF_X0_51 (Nat.le_of_ble_eq_true rfl) me_k20 me_f20_4 dX0_size_4 ?_
  refine me_aload_n X (i := 0) 0 rfl dX0_size_7 ?_
  refine me_geti X kF_X0_31 (Nat.le_of_ble_eq_true rfl) me_k19 me_f19_4 dX0_size_8 ?_
  obtain ⟨v1, e1, h⟩ := me_bd h
  refine me_iald X (Nat.le_of_ble_eq_true rfl) me_k23 e1 dX0_size_11 ?_
  obtain rfl := me_so h
  exact me_iret X hr hlk dX0_size_12
def mX0_pop_19_J41 (M1 : me_M) : Option (Int32 × me_M) :=
  ((mX0_size_19 M1).bind fun v2 => some (v2, M1))
def mX0_pop_19 (M : me_M)  : Option (Int32 × me_M) :=
  (if (M.1 19 4) = 0 then some ((-1), M) else ((me_r (me_s M 19 4 ((M.1 19 4) - 1)) 24 40 ((me_s M 19 4 ((M.1 19 4) - 1)).1 19 4)).bind fun v1 => (if v1 = 0 then (mX0_pop_19_J41 (me_s (me_s M 19 4 ((M.1 19 4) - 1)) 19 3 (((me_s M 19 4 ((M.1 19 4) - 1)).1 19 3) + 1))) else (mX0_pop_19_J41 (me_s M 19 4 ((M.1 19 4) - 1))))))
set_option maxRecDepth 100000 in
set_option maxHeartbeats 4000000 in
theorem ctX0_pop_19 {l : Launch} {n nt : Nat} (hn : 63 ≤ n) (hnt : 1 ≤ nt) {M : me_M} {r : Int32} {M' : me_M} (h : mX0_pop_19 M = some (r, M')) : me_Ct l yX0_pop cX0_pop 1 (some .int) 1 n nt (fun ad => [.ref (ad 19)]) M (fun _ => some (.int r)) M' := by
  unfold mX0_pop_19 at h
  refine me_enter (N0 := 63) RX0 rfl (plainFor_of_name pl_RX0) hn (Nat.le_trans (by decide) hnt) (fun _ => Nat.le_of_ble_eq_true rfl) ?_
  intro p e R s m args below meth c D cA ad tys A X hr hlk
  refine me_sub (L' := [(0, .ref (ad 19))]) [0] rfl ?_
  refine me_aload_n X (i := 0) 0 rfl dX0_pop_0 ?_
  refine me_geti X kF_X0_31 (Nat.le_of_ble_eq_true rfl) me_k19 me_f19_4 dX0_pop_1 ?_
  refine me_if_ne X 9 (by decide) dX0_pop_4 (fun c1 => ?_) (fun c1 => ?_)
  · have h := me_in c1 h
    refine me_aload_n X (i := 0) 0 rfl dX0_pop_9 ?_
    refine me_dup X rfl dX0_pop_10 ?_
    refine me_geti X kF_X0_31 (Nat.le_of_ble_eq_true rfl) me_k19 me_f19_4 dX0_pop_11 ?_
    refine me_iconst X dX0_pop_14 ic_1 ?_
    refine me_isub X dX0_pop_15 ?_
    refine me_puti X kG_X0_31 (Nat.le_of_ble_eq_true rfl) me_k19 me_f19_4 dX0_pop_16 ?_
    refine me_aload_n X (i := 0) 0 rfl dX0_pop_19 ?_
    refine me_getr X 24 kF_X0_9 (Nat.le_of_ble_eq_true rfl) me_k19 me_f19_1 dX0_pop_20 ?_
    refine me_aload_n X (i := 0) 0 rfl dX0_pop_23 ?_
    refine me_geti X kF_X0_31 (Nat.le_of_ble_eq_true rfl) me_k19 me_f19_4 dX0_pop_24 ?_
    obtain ⟨v1, e1, h⟩ := me_bd h
    refine me_iald X (Nat.le_of_ble_eq_true rfl) me_k24 e1 dX0_pop_27 ?_
    have hj41_1 : ∀ (M1 : me_M), mX0_pop_19_J41 M1 = some (r, M') → me_W p l e R s m args below meth c 0 0 (MQ below (me_Qc D cA ad n A (some (.int r)) M') args s 0 0 A) D cA ad n 1 A 41 [(0, .ref (ad 19))] [] M1 := by
      intro M1 h
      unfold mX0_pop_19_J41 at h
      refine me_aload_n X (i := 0) 0 rfl dX0_pop_41 ?_
      obtain ⟨v2, e2, h⟩ := me_bd h
      refine me_callVi X [] (ctX0_size_19 hn (Nat.le_trans (by decide) hnt) e2) kV_X0_41 rfl rfl (Nat.le_of_ble_eq_true rfl) me_k19 (Nat.le_of_ble_eq_true rfl) (Nat.le_refl _) (Nat.le_of_ble_eq_true rfl) dX0_pop_42 ?_
      obtain ⟨rfl, rfl⟩ := me_sp h
      exact me_iret X hr hlk dX0_pop_45
    refine me_if_ne X 41 (by decide) dX0_pop_28 (fun c2 => ?_) (fun c2 => ?_)
    · have h := me_in c2 h
      exact hj41_1 (me_s M 19 4 ((M.1 19 4) - 1)) h
    · have h := me_ip c2 h
      refine me_aload_n X (i := 0) 0 rfl dX0_pop_31 ?_
      refine me_dup X rfl dX0_pop_32 ?_
      refine me_geti X kF_X0_27 (Nat.le_of_ble_eq_true rfl) me_k19 me_f19_3 dX0_pop_33 ?_
      refine me_iconst X dX0_pop_36 ic_1 ?_
      refine me_iadd X dX0_pop_37 ?_
      refine me_puti X kG_X0_27 (Nat.le_of_ble_eq_true rfl) me_k19 me_f19_3 dX0_pop_38 ?_
      exact hj41_1 (me_s (me_s M 19 4 ((M.1 19 4) - 1)) 19 3 (((me_s M 19 4 ((M.1 19 4) - 1)).1 19 3) + 1)) h
  · have h := me_ip c1 h
    refine me_iconst X dX0_pop_7 ic_m1 ?_
    obtain ⟨rfl, rfl⟩ := me_sp h
    exact me_iret X hr hlk dX0_pop_8
def mX0_letterAt_19 (M : me_M) (p0 : Int32) : Option Int32 :=
  ((me_r M 25 80 ((M.1 19 3) + p0)).bind fun v1 => some v1)
set_option maxRecDepth 100000 in
set_option maxHeartbeats 4000000 in
theorem ctX0_letterAt_19 {l : Launch} {n nt : Nat} (hn : 63 ≤ n) (hnt : 1 ≤ nt) {M : me_M} {p0 : Int32} {r : Int32} (h : mX0_letterAt_19 M p0 = some r) : me_Ct l yX0_letterAt cX0_letterAt 2 (some .int) 0 n nt (fun ad => [.ref (ad 19), .int p0]) M (fun _ => some (.int r)) M := by
  unfold mX0_letterAt_19 at h
  refine me_enter (N0 := 63) RX0 rfl (plainFor_of_name pl_RX0) hn (Nat.le_trans (by decide) hnt) (fun _ => Nat.le_of_ble_eq_true rfl) ?_
  intro p e R s m args below meth c D cA ad tys A X hr hlk
  refine me_sub (L' := [(0, .ref (ad 19)), (1, .int p0)]) [0, 1] rfl ?_
  refine me_aload_n X (i := 0) 0 rfl dX0_letterAt_0 ?_
  refine me_getr X 25 kF_X0_15 (Nat.le_of_ble_eq_true rfl) me_k19 me_f19_2 dX0_letterAt_1 ?_
  refine me_aload_n X (i := 0) 0 rfl dX0_letterAt_4 ?_
  refine me_geti X kF_X0_27 (Nat.le_of_ble_eq_true rfl) me_k19 me_f19_3 dX0_letterAt_5 ?_
  refine me_iload_n X (i := 1) 1 rfl dX0_letterAt_8 ?_
  refine me_iadd X dX0_letterAt_9 ?_
  obtain ⟨v1, e1, h⟩ := me_bd h
  refine me_iald X (Nat.le_of_ble_eq_true rfl) me_k25 e1 dX0_letterAt_10 ?_
  obtain rfl := me_so h
  exact me_iret X hr hlk dX0_letterAt_11
def mX0_waysOn_19_J43 (p0 : Int32) (x3_1 : Int32) (M2 : me_M) (x2_2 : Int32) : Option ((Int32 × Int32 × me_M) ⊕ (Int32 × me_M)) :=
  some (.inl (x2_2, (x3_1 + 1), M2))
def mX0_waysOn_19_L15 (p0 : Int32) : (Int32 × Int32 × me_M) → Option ((Int32 × Int32 × me_M) ⊕ (Int32 × me_M))
  | (x2_1, x3_1, M1) => (if 8 ≤ x3_1 then some (.inr (x2_1, M1)) else ((mX7_extend_20 M1 (M1.1 19 4) x3_1 p0).bind fun (v1, M2) => (if v1 ≤ 0 then (mX0_waysOn_19_J43 p0 x3_1 M2 x2_1) else (mX0_waysOn_19_J43 p0 x3_1 M2 (x2_1 ||| (1 <<< (x3_1 &&& 31)))))))
def mX0_waysOn_19 (M : me_M) (p0 : Int32) : Option (Int32 × me_M) :=
  (if (M.1 19 4) < 40 then ((me_l (mX0_waysOn_19_L15 p0) me_fu (0, 0, M)).bind fun (y2_1, M3) => some (y2_1, M3)) else some (0, M))
set_option maxRecDepth 100000 in
set_option maxHeartbeats 4000000 in
theorem ctX0_waysOn_19 {l : Launch} {n nt : Nat} (hn : 63 ≤ n) (hnt : 1 ≤ nt) {M : me_M} {p0 : Int32} {r : Int32} {M' : me_M} (h : mX0_waysOn_19 M p0 = some (r, M')) : me_Ct l yX0_waysOn cX0_waysOn 4 (some .int) 4 n nt (fun ad => [.ref (ad 19), .int p0]) M (fun _ => some (.int r)) M' := by
  unfold mX0_waysOn_19 at h
  refine me_enter (N0 := 63) RX0 rfl (plainFor_of_name pl_RX0) hn (Nat.le_trans (by decide) hnt) (fun _ => Nat.le_of_ble_eq_true rfl) ?_
  intro p e R s m args below meth c D cA ad tys A X hr hlk
  refine me_sub (L' := [(0, .ref (ad 19)), (1, .int p0)]) [0, 1] rfl ?_
  refine me_iconst X dX0_waysOn_0 ic_0 ?_
  refine me_istore_n X (i := 2) [(2, .int 0), (0, .ref (ad 19)), (1, .int p0)] (Nat.le_of_ble_eq_true rfl) rfl dX0_waysOn_1 ?_
  refine me_aload_n X (i := 0) 1 rfl dX0_waysOn_2 ?_
  refine me_geti X kF_X0_31 (Nat.le_of_ble_eq_true rfl) me_k19 me_f19_4 dX0_waysOn_3 ?_
  refine me_bipush X dX0_waysOn_6 ib_40 ?_
  refine me_icmp_lt X 13 (by decide) dX0_waysOn_8 (fun c1 => ?_) (fun c1 => ?_)
  · have h := me_ip c1 h
    refine me_iconst X dX0_waysOn_13 ic_0 ?_
    refine me_istore_n X (i := 3) [(3, .int 0), (2, .int 0), (0, .ref (ad 19)), (1, .int p0)] (Nat.le_of_ble_eq_true rfl) rfl dX0_waysOn_14 ?_
    obtain ⟨⟨y2_1, M3⟩, hq1, h⟩ := me_bd h
    have hx1 : me_W p l e R s m args below meth c 0 0 (MQ below (me_Qc D cA ad n A (some (.int r)) M') args s 0 0 A) D cA ad n 4 A 49 [(2, .int y2_1)] [] M3 := by
      refine me_iload_n X (i := 2) 0 rfl dX0_waysOn_49 ?_
      obtain ⟨rfl, rfl⟩ := me_sp h
      exact me_iret X hr hlk dX0_waysOn_50
    refine me_sub (L' := [(0, .ref (ad 19)), (1, .int p0), (2, .int 0), (3, .int 0)]) [2, 3, 1, 0] rfl ?_
    refine me_l_W (b := (mX0_waysOn_19_L15 p0)) (P := fun w => me_W p l e R s m args below meth c 0 0 (MQ below (me_Qc D cA ad n A (some (.int r)) M') args s 0 0 A) D cA ad n 4 A 15 [(0, .ref (ad 19)), (1, .int p0), (2, .int w.1), (3, .int w.2.1)] [] w.2.2) (r := (y2_1, M3)) ?_ me_fu (0, 0, M) hq1
    rintro ⟨x2_1, x3_1, M1⟩ z1 h hb1 - hr1
    unfold mX0_waysOn_19_L15 at h
    refine me_iload_n X (i := 3) 3 rfl dX0_waysOn_15 ?_
    refine me_bipush X dX0_waysOn_16 ib_8 ?_
    refine me_icmp_ge X 49 (by decide) dX0_waysOn_18 (fun c2 => ?_) (fun c2 => ?_)
    · have h := me_ip c2 h
      obtain rfl := me_so h
      have q := hr1 _ rfl
      refine me_sub (L' := [(2, .int x2_1)]) [2] rfl ?_
      cases q
      exact hx1
    · have h := me_in c2 h
      refine me_aload_n X (i := 0) 0 rfl dX0_waysOn_21 ?_
      refine me_getr X 20 kF_X0_23 (Nat.le_of_ble_eq_true rfl) me_k19 me_f19_0 dX0_waysOn_22 ?_
      refine me_aload_n X (i := 0) 0 rfl dX0_waysOn_25 ?_
      refine me_geti X kF_X0_31 (Nat.le_of_ble_eq_true rfl) me_k19 me_f19_4 dX0_waysOn_26 ?_
      refine me_iload_n X (i := 3) 3 rfl dX0_waysOn_29 ?_
      refine me_iload_n X (i := 1) 1 rfl dX0_waysOn_30 ?_
      obtain ⟨⟨v1, M2⟩, e1, h⟩ := me_bd h
      refine me_callVi X [.int (M1.1 19 4), .int x3_1, .int p0] (ctX7_extend_20 hn (Nat.le_trans (by decide) hnt) e1) kV_X0_37 rfl rfl (Nat.le_of_ble_eq_true rfl) me_k20 (Nat.le_of_ble_eq_true rfl) (Nat.le_refl _) (Nat.le_of_ble_eq_true rfl) dX0_waysOn_31 ?_
      have hj43_1 : ∀ (x2_2 : Int32), mX0_waysOn_19_J43 p0 x3_1 M2 x2_2 = some z1 → me_W p l e R s m args below meth c 0 0 (MQ below (me_Qc D cA ad n A (some (.int r)) M') args s 0 0 A) D cA ad n 4 A 43 [(0, .ref (ad 19)), (1, .int p0), (2, .int x2_2), (3, .int x3_1)] [] M2 := by
        intro x2_2 h
        unfold mX0_waysOn_19_J43 at h
        refine me_iinc X (v := (x3_1 + 1)) 3 rfl (in_1 _) [(3, .int (x3_1 + 1)), (0, .ref (ad 19)), (1, .int p0), (2, .int x2_2)] (Nat.le_of_ble_eq_true rfl) rfl dX0_waysOn_43 ?_
        refine me_goto X 15 (by decide) dX0_waysOn_46 ?_
        obtain rfl := me_so h
        refine me_sub (L' := [(0, .ref (ad 19)), (1, .int p0), (2, .int x2_2), (3, .int (x3_1 + 1))]) [1, 2, 3, 0] rfl ?_
        exact hb1 (x2_2, (x3_1 + 1), M2) rfl
      refine me_if_le X 43 (by decide) dX0_waysOn_34 (fun c3 => ?_) (fun c3 => ?_)
      · have h := me_ip c3 h
        exact hj43_1 x2_1 h
      · have h := me_in c3 h
        refine me_iload_n X (i := 2) 2 rfl dX0_waysOn_37 ?_
        refine me_iconst X dX0_waysOn_38 ic_1 ?_
        refine me_iload_n X (i := 3) 3 rfl dX0_waysOn_39 ?_
        refine me_ishl X dX0_waysOn_40 ?_
        refine me_ior X dX0_waysOn_41 ?_
        refine me_istore_n X (i := 2) [(2, .int (x2_1 ||| (1 <<< (x3_1 &&& 31)))), (0, .ref (ad 19)), (1, .int p0), (3, .int x3_1)] (Nat.le_of_ble_eq_true rfl) rfl dX0_waysOn_42 ?_
        refine me_sub (L' := [(0, .ref (ad 19)), (1, .int p0), (2, .int (x2_1 ||| (1 <<< (x3_1 &&& 31)))), (3, .int x3_1)]) [1, 2, 0, 3] rfl ?_
        exact hj43_1 (x2_1 ||| (1 <<< (x3_1 &&& 31))) h
  · have h := me_in c1 h
    refine me_iload_n X (i := 2) 0 rfl dX0_waysOn_11 ?_
    obtain ⟨rfl, rfl⟩ := me_sp h
    exact me_iret X hr hlk dX0_waysOn_12
def mX0_lowForth_19 (M : me_M)  : Option Int32 :=
  ((me_r M 21 41 (M.1 19 4)).bind fun v1 => some v1)
set_option maxRecDepth 100000 in
set_option maxHeartbeats 4000000 in
theorem ctX0_lowForth_19 {l : Launch} {n nt : Nat} (hn : 63 ≤ n) (hnt : 1 ≤ nt) {M : me_M} {r : Int32} (h : mX0_lowForth_19 M = some r) : me_Ct l yX0_lowForth cX0_lowForth 1 (some .int) 0 n nt (fun ad => [.ref (ad 19)]) M (fun _ => some (.int r)) M := by
  unfold mX0_lowForth_19 at h
  refine me_enter (N0 := 63) RX0 rfl (plainFor_of_name pl_RX0) hn (Nat.le_trans (by decide) hnt) (fun _ => Nat.le_of_ble_eq_true rfl) ?_
  intro p e R s m args below meth c D cA ad tys A X hr hlk
  refine me_sub (L' := [(0, .ref (ad 19))]) [0] rfl ?_
  refine me_aload_n X (i := 0) 0 rfl dX0_lowForth_0 ?_
  refine me_getr X 20 kF_X0_23 (Nat.le_of_ble_eq_true rfl) me_k19 me_f19_0 dX0_lowForth_1 ?_
  refine me_getr X 21 kF_X0_45 (Nat.le_of_ble_eq_true rfl) me_k20 me_f20_2 dX0_lowForth_4 ?_
  refine me_aload_n X (i := 0) 0 rfl dX0_lowForth_7 ?_
  refine me_geti X kF_X0_31 (Nat.le_of_ble_eq_true rfl) me_k19 me_f19_4 dX0_lowForth_8 ?_
  obtain ⟨v1, e1, h⟩ := me_bd h
  refine me_iald X (Nat.le_of_ble_eq_true rfl) me_k21 e1 dX0_lowForth_11 ?_
  obtain rfl := me_so h
  exact me_iret X hr hlk dX0_lowForth_12
def mX0_lowBack_19 (M : me_M)  : Option Int32 :=
  ((me_r M 22 41 (M.1 19 4)).bind fun v1 => some v1)
set_option maxRecDepth 100000 in
set_option maxHeartbeats 4000000 in
theorem ctX0_lowBack_19 {l : Launch} {n nt : Nat} (hn : 63 ≤ n) (hnt : 1 ≤ nt) {M : me_M} {r : Int32} (h : mX0_lowBack_19 M = some r) : me_Ct l yX0_lowBack cX0_lowBack 1 (some .int) 0 n nt (fun ad => [.ref (ad 19)]) M (fun _ => some (.int r)) M := by
  unfold mX0_lowBack_19 at h
  refine me_enter (N0 := 63) RX0 rfl (plainFor_of_name pl_RX0) hn (Nat.le_trans (by decide) hnt) (fun _ => Nat.le_of_ble_eq_true rfl) ?_
  intro p e R s m args below meth c D cA ad tys A X hr hlk
  refine me_sub (L' := [(0, .ref (ad 19))]) [0] rfl ?_
  refine me_aload_n X (i := 0) 0 rfl dX0_lowBack_0 ?_
  refine me_getr X 20 kF_X0_23 (Nat.le_of_ble_eq_true rfl) me_k19 me_f19_0 dX0_lowBack_1 ?_
  refine me_getr X 22 kF_X0_48 (Nat.le_of_ble_eq_true rfl) me_k20 me_f20_3 dX0_lowBack_4 ?_
  refine me_aload_n X (i := 0) 0 rfl dX0_lowBack_7 ?_
  refine me_geti X kF_X0_31 (Nat.le_of_ble_eq_true rfl) me_k19 me_f19_4 dX0_lowBack_8 ?_
  obtain ⟨v1, e1, h⟩ := me_bd h
  refine me_iald X (Nat.le_of_ble_eq_true rfl) me_k22 e1 dX0_lowBack_11 ?_
  obtain rfl := me_so h
  exact me_iret X hr hlk dX0_lowBack_12
def mJ9_min_7cf53 (p0 : Int32) (p1 : Int32) : Option Int32 :=
  (if p1 < p0 then some p1 else some p0)
set_option maxRecDepth 100000 in
set_option maxHeartbeats 4000000 in
theorem ctJ9_min_7cf53 {l : Launch} {n nt : Nat} (hn : 63 ≤ n) (hnt : 1 ≤ nt) {M : me_M} {p0 : Int32} {p1 : Int32} {r : Int32} (h : mJ9_min_7cf53 p0 p1 = some r) : me_Ct l yJ9_min_7cf53 cJ9_min_7cf53 2 (some .int) 0 n nt (fun _ => [.int p0, .int p1]) M (fun _ => some (.int r)) M := by
  unfold mJ9_min_7cf53 at h
  refine me_enter (N0 := 63) RJ9 rfl plf_yJ9_min_7cf53 hn (Nat.le_trans (by decide) hnt) (fun _ => Nat.le_of_ble_eq_true rfl) ?_
  intro p e R s m args below meth c D cA ad tys A X hr hlk
  refine me_sub (L' := [(0, .int p0), (1, .int p1)]) [0, 1] rfl ?_
  refine me_iload_n X (i := 0) 0 rfl dJ9_min_7cf53_0 ?_
  refine me_iload_n X (i := 1) 1 rfl dJ9_min_7cf53_1 ?_
  refine me_icmp_gt X 9 (by decide) dJ9_min_7cf53_2 (fun c1 => ?_) (fun c1 => ?_)
  · have h := me_ip c1 h
    refine me_iload_n X (i := 1) 1 rfl dJ9_min_7cf53_9 ?_
    obtain rfl := me_so h
    exact me_iret X hr hlk dJ9_min_7cf53_10
  · have h := me_in c1 h
    refine me_iload_n X (i := 0) 0 rfl dJ9_min_7cf53_5 ?_
    refine me_goto X 10 (by decide) dJ9_min_7cf53_6 ?_
    obtain rfl := me_so h
    exact me_iret X hr hlk dJ9_min_7cf53_10
def mX2_lettersAlike_26 (M : me_M) (p0 : Int32) : Option Int32 :=
  (if p0 ≤ 0 then some 0 else (if p0 ≤ (M.1 3 5) then ((me_r M 12 241 p0).bind fun v1 => ((me_r M 10 241 p0).bind fun v2 => ((me_r M 6 241 v2).bind fun v3 => ((mJ9_min_7cf53 v1 v3).bind fun v4 => some v4)))) else some 0))
set_option maxRecDepth 100000 in
set_option maxHeartbeats 4000000 in
theorem ctX2_lettersAlike_26 {l : Launch} {n nt : Nat} (hn : 63 ≤ n) (hnt : 1 ≤ nt) {M : me_M} {p0 : Int32} {r : Int32} (h : mX2_lettersAlike_26 M p0 = some r) : me_Ct l yX2_lettersAlike cX2_lettersAlike 2 (some .int) 1 n nt (fun ad => [.ref (ad 26), .int p0]) M (fun _ => some (.int r)) M := by
  unfold mX2_lettersAlike_26 at h
  refine me_enter (N0 := 63) RX2 rfl (plainFor_of_name pl_RX2) hn (Nat.le_trans (by decide) hnt) (fun _ => Nat.le_of_ble_eq_true rfl) ?_
  intro p e R s m args below meth c D cA ad tys A X hr hlk
  refine me_sub (L' := [(0, .ref (ad 26)), (1, .int p0)]) [0, 1] rfl ?_
  refine me_iload_n X (i := 1) 1 rfl dX2_lettersAlike_0 ?_
  refine me_if_le X 15 (by decide) dX2_lettersAlike_1 (fun c1 => ?_) (fun c1 => ?_)
  · have h := me_ip c1 h
    refine me_iconst X dX2_lettersAlike_15 ic_0 ?_
    obtain rfl := me_so h
    exact me_iret X hr hlk dX2_lettersAlike_16
  · have h := me_in c1 h
    refine me_iload_n X (i := 1) 1 rfl dX2_lettersAlike_4 ?_
    refine me_aload_n X (i := 0) 0 rfl dX2_lettersAlike_5 ?_
    refine me_getr X 3 kF_X2_21 (Nat.le_of_ble_eq_true rfl) me_k26 me_f26_0 dX2_lettersAlike_6 ?_
    refine me_geti X kF_X2_29 (Nat.le_of_ble_eq_true rfl) me_k3 me_f3_5 dX2_lettersAlike_9 ?_
    refine me_icmp_le X 17 (by decide) dX2_lettersAlike_12 (fun c2 => ?_) (fun c2 => ?_)
    · have h := me_ip c2 h
      refine me_aload_n X (i := 0) 0 rfl dX2_lettersAlike_17 ?_
      refine me_getr X 9 kF_X2_25 (Nat.le_of_ble_eq_true rfl) me_k26 me_f26_1 dX2_lettersAlike_18 ?_
      refine me_getr X 12 kF_X2_35 (Nat.le_of_ble_eq_true rfl) me_k9 me_f9_3 dX2_lettersAlike_21 ?_
      refine me_iload_n X (i := 1) 1 rfl dX2_lettersAlike_24 ?_
      obtain ⟨v1, e1, h⟩ := me_bd h
      refine me_iald X (Nat.le_of_ble_eq_true rfl) me_k12 e1 dX2_lettersAlike_25 ?_
      refine me_aload_n X (i := 0) 0 rfl dX2_lettersAlike_26 ?_
      refine me_getr X 3 kF_X2_21 (Nat.le_of_ble_eq_true rfl) me_k26 me_f26_0 dX2_lettersAlike_27 ?_
      refine me_getr X 6 kF_X2_40 (Nat.le_of_ble_eq_true rfl) me_k3 me_f3_2 dX2_lettersAlike_30 ?_
      refine me_aload_n X (i := 0) 0 rfl dX2_lettersAlike_33 ?_
      refine me_getr X 9 kF_X2_25 (Nat.le_of_ble_eq_true rfl) me_k26 me_f26_1 dX2_lettersAlike_34 ?_
      refine me_getr X 10 kF_X2_43 (Nat.le_of_ble_eq_true rfl) me_k9 me_f9_1 dX2_lettersAlike_37 ?_
      refine me_iload_n X (i := 1) 1 rfl dX2_lettersAlike_40 ?_
      obtain ⟨v2, e2, h⟩ := me_bd h
      refine me_iald X (Nat.le_of_ble_eq_true rfl) me_k10 e2 dX2_lettersAlike_41 ?_
      obtain ⟨v3, e3, h⟩ := me_bd h
      refine me_iald X (Nat.le_of_ble_eq_true rfl) me_k6 e3 dX2_lettersAlike_42 ?_
      obtain ⟨v4, e4, h⟩ := me_bd h
      refine me_callSi X [.int v1, .int v3] (ctJ9_min_7cf53 hn (Nat.le_trans (by decide) hnt) e4) kS_X2_46 rfl rfl (Nat.le_of_ble_eq_true rfl) (Nat.le_refl _) (Nat.le_of_ble_eq_true rfl) dX2_lettersAlike_43 ?_
      obtain rfl := me_so h
      exact me_iret X hr hlk dX2_lettersAlike_46
    · have h := me_in c2 h
      refine me_iconst X dX2_lettersAlike_15 ic_0 ?_
      obtain rfl := me_so h
      exact me_iret X hr hlk dX2_lettersAlike_16
def mX2_addIfMaximal_26_J52 (p0 : Int32) (p1 : Int32) (p2 : Int32) (M : me_M) (s1 : Int32) : Option me_M :=
  (if s1 = 0 then (if 240 ≤ (M.1 26 5) then some M else ((me_t M 27 240 (M.1 26 5) p0).bind fun M1 => ((me_t M1 28 240 (M1.1 26 5) p1).bind fun M2 => ((me_t M2 29 240 (M2.1 26 5) p2).bind fun M3 => some (me_s M3 26 5 ((M3.1 26 5) + 1)))))) else some M)
def mX2_addIfMaximal_26_J51 (p0 : Int32) (p1 : Int32) (p2 : Int32) (M : me_M)  : Option me_M :=
  (mX2_addIfMaximal_26_J52 p0 p1 p2 M 0)
def mX2_addIfMaximal_26 (M : me_M) (p0 : Int32) (p1 : Int32) (p2 : Int32) : Option me_M :=
  ((mX4_before_9 M p1).bind fun v1 => (if v1 < 2 then (mX2_addIfMaximal_26_J51 p0 p1 p2 M ) else ((mX4_lettersAhead_9 M (p1 + p2) (v1 - 2)).bind fun v2 => ((mX4_lettersAhead_9 M p1 (v1 - 2)).bind fun v3 => (if (v2 - v3) = p2 then (mX2_addIfMaximal_26_J52 p0 p1 p2 M 1) else (mX2_addIfMaximal_26_J51 p0 p1 p2 M ))))))
set_option maxRecDepth 100000 in
set_option maxHeartbeats 4000000 in
theorem ctX2_addIfMaximal_26 {l : Launch} {n nt : Nat} (hn : 63 ≤ n) (hnt : 1 ≤ nt) {M : me_M} {p0 : Int32} {p1 : Int32} {p2 : Int32} {M' : me_M} (h : mX2_addIfMaximal_26 M p0 p1 p2 = some M') : me_Ct l yX2_addIfMaximal cX2_addIfMaximal 6 none 2 n nt (fun ad => [.ref (ad 26), .int p0, .int p1, .int p2]) M (fun _ => none) M' := by
  unfold mX2_addIfMaximal_26 at h
  refine me_enter (N0 := 63) RX2 rfl (plainFor_of_name pl_RX2) hn (Nat.le_trans (by decide) hnt) (fun _ => Nat.le_of_ble_eq_true rfl) ?_
  intro p e R s m args below meth c D cA ad tys A X hr hlk
  refine me_sub (L' := [(0, .ref (ad 26)), (1, .int p0), (2, .int p1), (3, .int p2)]) [0, 1, 2, 3] rfl ?_
  refine me_aload_n X (i := 0) 0 rfl dX2_addIfMaximal_0 ?_
  refine me_getr X 9 kF_X2_25 (Nat.le_of_ble_eq_true rfl) me_k26 me_f26_1 dX2_addIfMaximal_1 ?_
  refine me_iload_n X (i := 2) 2 rfl dX2_addIfMaximal_4 ?_
  obtain ⟨v1, e1, h⟩ := me_bd h
  refine me_callVi X [.int p1] (ctX4_before_9 hn (Nat.le_trans (by decide) hnt) e1) kV_X2_70 rfl rfl (Nat.le_of_ble_eq_true rfl) me_k9 (Nat.le_of_ble_eq_true rfl) (Nat.le_refl _) (Nat.le_of_ble_eq_true rfl) dX2_addIfMaximal_5 ?_
  refine me_istore X (i := 4) [(4, .int v1), (0, .ref (ad 26)), (1, .int p0), (2, .int p1), (3, .int p2)] (Nat.le_of_ble_eq_true rfl) rfl dX2_addIfMaximal_8 ?_
  refine me_iload X (i := 4) 0 rfl dX2_addIfMaximal_10 ?_
  refine me_iconst X dX2_addIfMaximal_12 ic_2 ?_
  have hj52_2 : ∀ (s1 : Int32), mX2_addIfMaximal_26_J52 p0 p1 p2 M s1 = some M' → me_W p l e R s m args below meth c 0 0 (MQ below (me_Qc D cA ad n A none M') args s 0 0 A) D cA ad n 6 A 52 [(0, .ref (ad 26)), (1, .int p0), (2, .int p1), (3, .int p2)] [.int s1] M := by
    intro s1 h
    unfold mX2_addIfMaximal_26_J52 at h
    refine me_istore X (i := 5) [(5, .int s1), (0, .ref (ad 26)), (1, .int p0), (2, .int p1), (3, .int p2)] (Nat.le_of_ble_eq_true rfl) rfl dX2_addIfMaximal_52 ?_
    refine me_iload X (i := 5) 0 rfl dX2_addIfMaximal_54 ?_
    refine me_if_ne X 109 (by decide) dX2_addIfMaximal_56 (fun c3 => ?_) (fun c3 => ?_)
    · have h := me_in c3 h
      obtain rfl := me_so h
      exact me_vret X hr hlk dX2_addIfMaximal_109
    · have h := me_ip c3 h
      refine me_aload_n X (i := 0) 1 rfl dX2_addIfMaximal_59 ?_
      refine me_geti X kF_X2_52 (Nat.le_of_ble_eq_true rfl) me_k26 me_f26_5 dX2_addIfMaximal_60 ?_
      refine me_sipush X dX2_addIfMaximal_63 is_240 ?_
      refine me_icmp_ge X 109 (by decide) dX2_addIfMaximal_66 (fun c4 => ?_) (fun c4 => ?_)
      · have h := me_ip c4 h
        obtain rfl := me_so h
        exact me_vret X hr hlk dX2_addIfMaximal_109
      · have h := me_in c4 h
        refine me_aload_n X (i := 0) 1 rfl dX2_addIfMaximal_69 ?_
        refine me_getr X 27 kF_X2_9 (Nat.le_of_ble_eq_true rfl) me_k26 me_f26_2 dX2_addIfMaximal_70 ?_
        refine me_aload_n X (i := 0) 1 rfl dX2_addIfMaximal_73 ?_
        refine me_geti X kF_X2_52 (Nat.le_of_ble_eq_true rfl) me_k26 me_f26_5 dX2_addIfMaximal_74 ?_
        refine me_iload_n X (i := 1) 2 rfl dX2_addIfMaximal_77 ?_
        obtain ⟨M1, e4, h⟩ := me_bd h
        refine me_iast X (Nat.le_of_ble_eq_true rfl) me_k27 e4 dX2_addIfMaximal_78 ?_
        refine me_aload_n X (i := 0) 1 rfl dX2_addIfMaximal_79 ?_
        refine me_getr X 28 kF_X2_15 (Nat.le_of_ble_eq_true rfl) me_k26 me_f26_3 dX2_addIfMaximal_80 ?_
        refine me_aload_n X (i := 0) 1 rfl dX2_addIfMaximal_83 ?_
        refine me_geti X kF_X2_52 (Nat.le_of_ble_eq_true rfl) me_k26 me_f26_5 dX2_addIfMaximal_84 ?_
        refine me_iload_n X (i := 2) 3 rfl dX2_addIfMaximal_87 ?_
        obtain ⟨M2, e5, h⟩ := me_bd h
        refine me_iast X (Nat.le_of_ble_eq_true rfl) me_k28 e5 dX2_addIfMaximal_88 ?_
        refine me_aload_n X (i := 0) 1 rfl dX2_addIfMaximal_89 ?_
        refine me_getr X 29 kF_X2_18 (Nat.le_of_ble_eq_true rfl) me_k26 me_f26_4 dX2_addIfMaximal_90 ?_
        refine me_aload_n X (i := 0) 1 rfl dX2_addIfMaximal_93 ?_
        refine me_geti X kF_X2_52 (Nat.le_of_ble_eq_true rfl) me_k26 me_f26_5 dX2_addIfMaximal_94 ?_
        refine me_iload_n X (i := 3) 4 rfl dX2_addIfMaximal_97 ?_
        obtain ⟨M3, e6, h⟩ := me_bd h
        refine me_iast X (Nat.le_of_ble_eq_true rfl) me_k29 e6 dX2_addIfMaximal_98 ?_
        refine me_aload_n X (i := 0) 1 rfl dX2_addIfMaximal_99 ?_
        refine me_dup X rfl dX2_addIfMaximal_100 ?_
        refine me_geti X kF_X2_52 (Nat.le_of_ble_eq_true rfl) me_k26 me_f26_5 dX2_addIfMaximal_101 ?_
        refine me_iconst X dX2_addIfMaximal_104 ic_1 ?_
        refine me_iadd X dX2_addIfMaximal_105 ?_
        refine me_puti X kG_X2_52 (Nat.le_of_ble_eq_true rfl) me_k26 me_f26_5 dX2_addIfMaximal_106 ?_
        obtain rfl := me_so h
        exact me_vret X hr hlk dX2_addIfMaximal_109
  have hj51_1 : mX2_addIfMaximal_26_J51 p0 p1 p2 M  = some M' → me_W p l e R s m args below meth c 0 0 (MQ below (me_Qc D cA ad n A none M') args s 0 0 A) D cA ad n 6 A 51 [(0, .ref (ad 26)), (1, .int p0), (2, .int p1), (3, .int p2)] [] M := by
    intro h
    unfold mX2_addIfMaximal_26_J51 at h
    refine me_iconst X dX2_addIfMaximal_51 ic_0 ?_
    exact hj52_2 0 h
  refine me_icmp_lt X 51 (by decide) dX2_addIfMaximal_13 (fun c1 => ?_) (fun c1 => ?_)
  · have h := me_ip c1 h
    refine me_sub (L' := [(0, .ref (ad 26)), (1, .int p0), (2, .int p1), (3, .int p2)]) [1, 2, 3, 4] rfl ?_
    exact hj51_1  h
  · have h := me_in c1 h
    refine me_aload_n X (i := 0) 1 rfl dX2_addIfMaximal_16 ?_
    refine me_getr X 9 kF_X2_25 (Nat.le_of_ble_eq_true rfl) me_k26 me_f26_1 dX2_addIfMaximal_17 ?_
    refine me_iload_n X (i := 2) 3 rfl dX2_addIfMaximal_20 ?_
    refine me_iload_n X (i := 3) 4 rfl dX2_addIfMaximal_21 ?_
    refine me_iadd X dX2_addIfMaximal_22 ?_
    refine me_iload X (i := 4) 0 rfl dX2_addIfMaximal_23 ?_
    refine me_iconst X dX2_addIfMaximal_25 ic_2 ?_
    refine me_isub X dX2_addIfMaximal_26 ?_
    obtain ⟨v2, e2, h⟩ := me_bd h
    refine me_callVi X [.int (p1 + p2), .int (v1 - 2)] (ctX4_lettersAhead_9 hn (Nat.le_trans (by decide) hnt) e2) kV_X2_73 rfl rfl (Nat.le_of_ble_eq_true rfl) me_k9 (Nat.le_of_ble_eq_true rfl) (Nat.le_refl _) (Nat.le_of_ble_eq_true rfl) dX2_addIfMaximal_27 ?_
    refine me_aload_n X (i := 0) 1 rfl dX2_addIfMaximal_30 ?_
    refine me_getr X 9 kF_X2_25 (Nat.le_of_ble_eq_true rfl) me_k26 me_f26_1 dX2_addIfMaximal_31 ?_
    refine me_iload_n X (i := 2) 3 rfl dX2_addIfMaximal_34 ?_
    refine me_iload X (i := 4) 0 rfl dX2_addIfMaximal_35 ?_
    refine me_iconst X dX2_addIfMaximal_37 ic_2 ?_
    refine me_isub X dX2_addIfMaximal_38 ?_
    obtain ⟨v3, e3, h⟩ := me_bd h
    refine me_callVi X [.int p1, .int (v1 - 2)] (ctX4_lettersAhead_9 hn (Nat.le_trans (by decide) hnt) e3) kV_X2_73 rfl rfl (Nat.le_of_ble_eq_true rfl) me_k9 (Nat.le_of_ble_eq_true rfl) (Nat.le_refl _) (Nat.le_of_ble_eq_true rfl) dX2_addIfMaximal_39 ?_
    refine me_isub X dX2_addIfMaximal_42 ?_
    refine me_iload_n X (i := 3) 4 rfl dX2_addIfMaximal_43 ?_
    refine me_icmp_ne X 51 (by decide) dX2_addIfMaximal_44 (fun c2 => ?_) (fun c2 => ?_)
    · have h := me_in c2 h
      refine me_sub (L' := [(0, .ref (ad 26)), (1, .int p0), (2, .int p1), (3, .int p2)]) [1, 2, 3, 4] rfl ?_
      exact hj51_1  h
    · have h := me_ip c2 h
      refine me_iconst X dX2_addIfMaximal_47 ic_1 ?_
      refine me_goto X 52 (by decide) dX2_addIfMaximal_48 ?_
      refine me_sub (L' := [(0, .ref (ad 26)), (1, .int p0), (2, .int p1), (3, .int p2)]) [1, 2, 3, 4] rfl ?_
      exact hj52_2 1 h
def mX2_listFrom_26_J65 (p0 : Int32) (v1 : Int32) (x4_1 : Int32) (x3_2 : Int32) (M3 : me_M) : Option ((Int32 × Int32 × me_M) ⊕ (me_M)) :=
  some (.inl (x3_2, (x4_1 + 1), M3))
def mX2_listFrom_26_L19 (p0 : Int32) (v1 : Int32) : (Int32 × Int32 × me_M) → Option ((Int32 × Int32 × me_M) ⊕ (me_M))
  | (x3_1, x4_1, M1) => (if ((M1.1 3 5) + 1) < x4_1 then some (.inr M1) else (if x3_1 ≤ v1 then some (.inr M1) else ((mX2_lettersAlike_26 M1 x4_1).bind fun v3 => (if x3_1 ≤ v3 then (mX2_listFrom_26_J65 p0 v1 x4_1 x3_1 M1) else ((mX2_addIfMaximal_26 M1 x3_1 p0 (x4_1 - p0)).bind fun M2 => (mX2_listFrom_26_J65 p0 v1 x4_1 v3 M2))))))
def mX2_listFrom_26 (M : me_M) (p0 : Int32) : Option me_M :=
  ((mX2_lettersAlike_26 M p0).bind fun v1 => ((mX2_lettersAlike_26 M (p0 + 1)).bind fun v2 => ((me_l (mX2_listFrom_26_L19 p0 v1) me_fu (v2, (p0 + 1), M)).bind fun M4 => some M4)))
set_option maxRecDepth 100000 in
set_option maxHeartbeats 4000000 in
theorem ctX2_listFrom_26 {l : Launch} {n nt : Nat} (hn : 63 ≤ n) (hnt : 1 ≤ nt) {M : me_M} {p0 : Int32} {M' : me_M} (h : mX2_listFrom_26 M p0 = some M') : me_Ct l yX2_listFrom cX2_listFrom 6 none 3 n nt (fun ad => [.ref (ad 26), .int p0]) M (fun _ => none) M' := by
  unfold mX2_listFrom_26 at h
  refine me_enter (N0 := 63) RX2 rfl (plainFor_of_name pl_RX2) hn (Nat.le_trans (by decide) hnt) (fun _ => Nat.le_of_ble_eq_true rfl) ?_
  intro p e R s m args below meth c D cA ad tys A X hr hlk
  refine me_sub (L' := [(0, .ref (ad 26)), (1, .int p0)]) [0, 1] rfl ?_
  refine me_aload_n X (i := 0) 0 rfl dX2_listFrom_0 ?_
  refine me_iload_n X (i := 1) 1 rfl dX2_listFrom_1 ?_
  obtain ⟨v1, e1, h⟩ := me_bd h
  refine me_callVi X [.int p0] (ctX2_lettersAlike_26 hn (Nat.le_trans (by decide) hnt) e1) kV_X2_62 rfl rfl (Nat.le_of_ble_eq_true rfl) me_k26 (Nat.le_of_ble_eq_true rfl) (Nat.le_refl _) (Nat.le_of_ble_eq_true rfl) dX2_listFrom_2 ?_
  refine me_istore_n X (i := 2) [(2, .int v1), (0, .ref (ad 26)), (1, .int p0)] (Nat.le_of_ble_eq_true rfl) rfl dX2_listFrom_5 ?_
  refine me_aload_n X (i := 0) 1 rfl dX2_listFrom_6 ?_
  refine me_iload_n X (i := 1) 2 rfl dX2_listFrom_7 ?_
  refine me_iconst X dX2_listFrom_8 ic_1 ?_
  refine me_iadd X dX2_listFrom_9 ?_
  obtain ⟨v2, e2, h⟩ := me_bd h
  refine me_callVi X [.int (p0 + 1)] (ctX2_lettersAlike_26 hn (Nat.le_trans (by decide) hnt) e2) kV_X2_62 rfl rfl (Nat.le_of_ble_eq_true rfl) me_k26 (Nat.le_of_ble_eq_true rfl) (Nat.le_refl _) (Nat.le_of_ble_eq_true rfl) dX2_listFrom_10 ?_
  refine me_istore_n X (i := 3) [(3, .int v2), (2, .int v1), (0, .ref (ad 26)), (1, .int p0)] (Nat.le_of_ble_eq_true rfl) rfl dX2_listFrom_13 ?_
  refine me_iload_n X (i := 1) 3 rfl dX2_listFrom_14 ?_
  refine me_iconst X dX2_listFrom_15 ic_1 ?_
  refine me_iadd X dX2_listFrom_16 ?_
  refine me_istore X (i := 4) [(4, .int (p0 + 1)), (3, .int v2), (2, .int v1), (0, .ref (ad 26)), (1, .int p0)] (Nat.le_of_ble_eq_true rfl) rfl dX2_listFrom_17 ?_
  obtain ⟨M4, hq1, h⟩ := me_bd h
  have hx1 : me_W p l e R s m args below meth c 0 0 (MQ below (me_Qc D cA ad n A none M') args s 0 0 A) D cA ad n 6 A 71 [] [] M4 := by
    obtain rfl := me_so h
    exact me_vret X hr hlk dX2_listFrom_71
  refine me_sub (L' := [(0, .ref (ad 26)), (1, .int p0), (2, .int v1), (3, .int v2), (4, .int (p0 + 1))]) [3, 4, 2, 1, 0] rfl ?_
  refine me_l_W (b := (mX2_listFrom_26_L19 p0 v1)) (P := fun w => me_W p l e R s m args below meth c 0 0 (MQ below (me_Qc D cA ad n A none M') args s 0 0 A) D cA ad n 6 A 19 [(0, .ref (ad 26)), (1, .int p0), (2, .int v1), (3, .int w.1), (4, .int w.2.1)] [] w.2.2) (r := M4) ?_ me_fu (v2, (p0 + 1), M) hq1
  rintro ⟨x3_1, x4_1, M1⟩ z1 h hb1 - hr1
  unfold mX2_listFrom_26_L19 at h
  refine me_iload X (i := 4) 4 rfl dX2_listFrom_19 ?_
  refine me_aload_n X (i := 0) 0 rfl dX2_listFrom_21 ?_
  refine me_getr X 3 kF_X2_21 (Nat.le_of_ble_eq_true rfl) me_k26 me_f26_0 dX2_listFrom_22 ?_
  refine me_geti X kF_X2_29 (Nat.le_of_ble_eq_true rfl) me_k3 me_f3_5 dX2_listFrom_25 ?_
  refine me_iconst X dX2_listFrom_28 ic_1 ?_
  refine me_iadd X dX2_listFrom_29 ?_
  refine me_icmp_gt X 71 (by decide) dX2_listFrom_30 (fun c1 => ?_) (fun c1 => ?_)
  · have h := me_ip c1 h
    obtain rfl := me_so h
    have q := hr1 _ rfl
    refine me_sub (L' := []) [] rfl ?_
    cases q
    exact hx1
  · have h := me_in c1 h
    refine me_iload_n X (i := 3) 3 rfl dX2_listFrom_33 ?_
    refine me_iload_n X (i := 2) 2 rfl dX2_listFrom_34 ?_
    refine me_icmp_le X 71 (by decide) dX2_listFrom_35 (fun c2 => ?_) (fun c2 => ?_)
    · have h := me_ip c2 h
      obtain rfl := me_so h
      have q := hr1 _ rfl
      refine me_sub (L' := []) [] rfl ?_
      cases q
      exact hx1
    · have h := me_in c2 h
      refine me_aload_n X (i := 0) 0 rfl dX2_listFrom_38 ?_
      refine me_iload X (i := 4) 4 rfl dX2_listFrom_39 ?_
      obtain ⟨v3, e3, h⟩ := me_bd h
      refine me_callVi X [.int x4_1] (ctX2_lettersAlike_26 hn (Nat.le_trans (by decide) hnt) e3) kV_X2_62 rfl rfl (Nat.le_of_ble_eq_true rfl) me_k26 (Nat.le_of_ble_eq_true rfl) (Nat.le_refl _) (Nat.le_of_ble_eq_true rfl) dX2_listFrom_41 ?_
      refine me_istore X (i := 5) [(5, .int v3), (0, .ref (ad 26)), (1, .int p0), (2, .int v1), (3, .int x3_1), (4, .int x4_1)] (Nat.le_of_ble_eq_true rfl) rfl dX2_listFrom_44 ?_
      refine me_iload X (i := 5) 0 rfl dX2_listFrom_46 ?_
      refine me_iload_n X (i := 3) 4 rfl dX2_listFrom_48 ?_
      have hj65_1 : ∀ (x3_2 : Int32) (M3 : me_M), mX2_listFrom_26_J65 p0 v1 x4_1 x3_2 M3 = some z1 → me_W p l e R s m args below meth c 0 0 (MQ below (me_Qc D cA ad n A none M') args s 0 0 A) D cA ad n 6 A 65 [(0, .ref (ad 26)), (1, .int p0), (2, .int v1), (3, .int x3_2), (4, .int x4_1)] [] M3 := by
        intro x3_2 M3 h
        unfold mX2_listFrom_26_J65 at h
        refine me_iinc X (v := (x4_1 + 1)) 4 rfl (in_1 _) [(4, .int (x4_1 + 1)), (0, .ref (ad 26)), (1, .int p0), (2, .int v1), (3, .int x3_2)] (Nat.le_of_ble_eq_true rfl) rfl dX2_listFrom_65 ?_
        refine me_goto X 19 (by decide) dX2_listFrom_68 ?_
        obtain rfl := me_so h
        refine me_sub (L' := [(0, .ref (ad 26)), (1, .int p0), (2, .int v1), (3, .int x3_2), (4, .int (x4_1 + 1))]) [1, 2, 3, 4, 0] rfl ?_
        exact hb1 (x3_2, (x4_1 + 1), M3) rfl
      refine me_icmp_ge X 65 (by decide) dX2_listFrom_49 (fun c3 => ?_) (fun c3 => ?_)
      · have h := me_ip c3 h
        refine me_sub (L' := [(0, .ref (ad 26)), (1, .int p0), (2, .int v1), (3, .int x3_1), (4, .int x4_1)]) [1, 2, 3, 4, 5] rfl ?_
        exact hj65_1 x3_1 M1 h
      · have h := me_in c3 h
        refine me_aload_n X (i := 0) 1 rfl dX2_listFrom_52 ?_
        refine me_iload_n X (i := 3) 4 rfl dX2_listFrom_53 ?_
        refine me_iload_n X (i := 1) 2 rfl dX2_listFrom_54 ?_
        refine me_iload X (i := 4) 5 rfl dX2_listFrom_55 ?_
        refine me_iload_n X (i := 1) 2 rfl dX2_listFrom_57 ?_
        refine me_isub X dX2_listFrom_58 ?_
        obtain ⟨M2, e4, h⟩ := me_bd h
        refine me_callVv X [.int x3_1, .int p0, .int (x4_1 - p0)] (ctX2_addIfMaximal_26 hn (Nat.le_trans (by decide) hnt) e4) kV_X2_66 rfl rfl (Nat.le_of_ble_eq_true rfl) me_k26 (Nat.le_of_ble_eq_true rfl) (Nat.le_refl _) (Nat.le_of_ble_eq_true rfl) dX2_listFrom_59 ?_
        refine me_iload X (i := 5) 0 rfl dX2_listFrom_62 ?_
        refine me_istore_n X (i := 3) [(3, .int v3), (5, .int v3), (0, .ref (ad 26)), (1, .int p0), (2, .int v1), (4, .int x4_1)] (Nat.le_of_ble_eq_true rfl) rfl dX2_listFrom_64 ?_
        refine me_sub (L' := [(0, .ref (ad 26)), (1, .int p0), (2, .int v1), (3, .int v3), (4, .int x4_1)]) [2, 3, 4, 0, 5] rfl ?_
        exact hj65_1 v3 M2 h
def mX2_exchange_27 (M : me_M) (p0 : Int32) (p1 : Int32) : Option me_M :=
  ((me_r M 27 240 p0).bind fun v1 => ((me_r M 27 240 p1).bind fun v2 => ((me_t M 27 240 p0 v2).bind fun M1 => ((me_t M1 27 240 p1 v1).bind fun M2 => some M2))))
set_option maxRecDepth 100000 in
set_option maxHeartbeats 4000000 in
theorem ctX2_exchange_27 {l : Launch} {n nt : Nat} (hn : 63 ≤ n) (hnt : 1 ≤ nt) {M : me_M} {p0 : Int32} {p1 : Int32} {M' : me_M} (h : mX2_exchange_27 M p0 p1 = some M') : me_Ct l yX2_exchange cX2_exchange 4 none 0 n nt (fun ad => [.ref (ad 27), .int p0, .int p1]) M (fun _ => none) M' := by
  unfold mX2_exchange_27 at h
  refine me_enter (N0 := 63) RX2 rfl (plainFor_of_name pl_RX2) hn (Nat.le_trans (by decide) hnt) (fun _ => Nat.le_of_ble_eq_true rfl) ?_
  intro p e R s m args below meth c D cA ad tys A X hr hlk
  refine me_sub (L' := [(0, .ref (ad 27)), (1, .int p0), (2, .int p1)]) [0, 1, 2] rfl ?_
  refine me_aload_n X (i := 0) 0 rfl dX2_exchange_0 ?_
  refine me_iload_n X (i := 1) 1 rfl dX2_exchange_1 ?_
  obtain ⟨v1, e1, h⟩ := me_bd h
  refine me_iald X (Nat.le_of_ble_eq_true rfl) me_k27 e1 dX2_exchange_2 ?_
  refine me_istore_n X (i := 3) [(3, .int v1), (0, .ref (ad 27)), (1, .int p0), (2, .int p1)] (Nat.le_of_ble_eq_true rfl) rfl dX2_exchange_3 ?_
  refine me_aload_n X (i := 0) 1 rfl dX2_exchange_4 ?_
  refine me_iload_n X (i := 1) 2 rfl dX2_exchange_5 ?_
  refine me_aload_n X (i := 0) 1 rfl dX2_exchange_6 ?_
  refine me_iload_n X (i := 2) 3 rfl dX2_exchange_7 ?_
  obtain ⟨v2, e2, h⟩ := me_bd h
  refine me_iald X (Nat.le_of_ble_eq_true rfl) me_k27 e2 dX2_exchange_8 ?_
  obtain ⟨M1, e3, h⟩ := me_bd h
  refine me_iast X (Nat.le_of_ble_eq_true rfl) me_k27 e3 dX2_exchange_9 ?_
  refine me_aload_n X (i := 0) 1 rfl dX2_exchange_10 ?_
  refine me_iload_n X (i := 2) 3 rfl dX2_exchange_11 ?_
  refine me_iload_n X (i := 3) 0 rfl dX2_exchange_12 ?_
  obtain ⟨M2, e4, h⟩ := me_bd h
  refine me_iast X (Nat.le_of_ble_eq_true rfl) me_k27 e4 dX2_exchange_13 ?_
  obtain rfl := me_so h
  exact me_vret X hr hlk dX2_exchange_14
def mX2_exchange_29 (M : me_M) (p0 : Int32) (p1 : Int32) : Option me_M :=
  ((me_r M 29 240 p0).bind fun v1 => ((me_r M 29 240 p1).bind fun v2 => ((me_t M 29 240 p0 v2).bind fun M1 => ((me_t M1 29 240 p1 v1).bind fun M2 => some M2))))
set_option maxRecDepth 100000 in
set_option maxHeartbeats 4000000 in
theorem ctX2_exchange_29 {l : Launch} {n nt : Nat} (hn : 63 ≤ n) (hnt : 1 ≤ nt) {M : me_M} {p0 : Int32} {p1 : Int32} {M' : me_M} (h : mX2_exchange_29 M p0 p1 = some M') : me_Ct l yX2_exchange cX2_exchange 4 none 0 n nt (fun ad => [.ref (ad 29), .int p0, .int p1]) M (fun _ => none) M' := by
  unfold mX2_exchange_29 at h
  refine me_enter (N0 := 63) RX2 rfl (plainFor_of_name pl_RX2) hn (Nat.le_trans (by decide) hnt) (fun _ => Nat.le_of_ble_eq_true rfl) ?_
  intro p e R s m args below meth c D cA ad tys A X hr hlk
  refine me_sub (L' := [(0, .ref (ad 29)), (1, .int p0), (2, .int p1)]) [0, 1, 2] rfl ?_
  refine me_aload_n X (i := 0) 0 rfl dX2_exchange_0 ?_
  refine me_iload_n X (i := 1) 1 rfl dX2_exchange_1 ?_
  obtain ⟨v1, e1, h⟩ := me_bd h
  refine me_iald X (Nat.le_of_ble_eq_true rfl) me_k29 e1 dX2_exchange_2 ?_
  refine me_istore_n X (i := 3) [(3, .int v1), (0, .ref (ad 29)), (1, .int p0), (2, .int p1)] (Nat.le_of_ble_eq_true rfl) rfl dX2_exchange_3 ?_
  refine me_aload_n X (i := 0) 1 rfl dX2_exchange_4 ?_
  refine me_iload_n X (i := 1) 2 rfl dX2_exchange_5 ?_
  refine me_aload_n X (i := 0) 1 rfl dX2_exchange_6 ?_
  refine me_iload_n X (i := 2) 3 rfl dX2_exchange_7 ?_
  obtain ⟨v2, e2, h⟩ := me_bd h
  refine me_iald X (Nat.le_of_ble_eq_true rfl) me_k29 e2 dX2_exchange_8 ?_
  obtain ⟨M1, e3, h⟩ := me_bd h
  refine me_iast X (Nat.le_of_ble_eq_true rfl) me_k29 e3 dX2_exchange_9 ?_
  refine me_aload_n X (i := 0) 1 rfl dX2_exchange_10 ?_
  refine me_iload_n X (i := 2) 3 rfl dX2_exchange_11 ?_
  refine me_iload_n X (i := 3) 0 rfl dX2_exchange_12 ?_
  obtain ⟨M2, e4, h⟩ := me_bd h
  refine me_iast X (Nat.le_of_ble_eq_true rfl) me_k29 e4 dX2_exchange_13 ?_
  obtain rfl := me_so h
  exact me_vret X hr hlk dX2_exchange_14
def mX2_turnRound_26_L9  : (Int32 × Int32 × me_M) → Option ((Int32 × Int32 × me_M) ⊕ (me_M))
  | (x2_1, x3_1, M1) => (if x3_1 ≤ x2_1 then some (.inr M1) else ((mX2_exchange_27 M1 x2_1 x3_1).bind fun M2 => ((mX2_exchange_29 M2 x2_1 x3_1).bind fun M3 => some (.inl ((x2_1 + 1), (x3_1 + (-1)), M3)))))
def mX2_turnRound_26 (M : me_M) (p0 : Int32) : Option me_M :=
  ((me_l mX2_turnRound_26_L9 me_fu (p0, ((M.1 26 5) - 1), M)).bind fun M4 => some M4)
set_option maxRecDepth 100000 in
set_option maxHeartbeats 4000000 in
theorem ctX2_turnRound_26 {l : Launch} {n nt : Nat} (hn : 63 ≤ n) (hnt : 1 ≤ nt) {M : me_M} {p0 : Int32} {M' : me_M} (h : mX2_turnRound_26 M p0 = some M') : me_Ct l yX2_turnRound cX2_turnRound 4 none 1 n nt (fun ad => [.ref (ad 26), .int p0]) M (fun _ => none) M' := by
  unfold mX2_turnRound_26 at h
  refine me_enter (N0 := 63) RX2 rfl (plainFor_of_name pl_RX2) hn (Nat.le_trans (by decide) hnt) (fun _ => Nat.le_of_ble_eq_true rfl) ?_
  intro p e R s m args below meth c D cA ad tys A X hr hlk
  refine me_sub (L' := [(0, .ref (ad 26)), (1, .int p0)]) [0, 1] rfl ?_
  refine me_iload_n X (i := 1) 1 rfl dX2_turnRound_0 ?_
  refine me_istore_n X (i := 2) [(2, .int p0), (0, .ref (ad 26)), (1, .int p0)] (Nat.le_of_ble_eq_true rfl) rfl dX2_turnRound_1 ?_
  refine me_aload_n X (i := 0) 1 rfl dX2_turnRound_2 ?_
  refine me_geti X kF_X2_52 (Nat.le_of_ble_eq_true rfl) me_k26 me_f26_5 dX2_turnRound_3 ?_
  refine me_iconst X dX2_turnRound_6 ic_1 ?_
  refine me_isub X dX2_turnRound_7 ?_
  refine me_istore_n X (i := 3) [(3, .int ((M.1 26 5) - 1)), (2, .int p0), (0, .ref (ad 26)), (1, .int p0)] (Nat.le_of_ble_eq_true rfl) rfl dX2_turnRound_8 ?_
  obtain ⟨M4, hq1, h⟩ := me_bd h
  have hx1 : me_W p l e R s m args below meth c 0 0 (MQ below (me_Qc D cA ad n A none M') args s 0 0 A) D cA ad n 4 A 41 [] [] M4 := by
    obtain rfl := me_so h
    exact me_vret X hr hlk dX2_turnRound_41
  refine me_sub (L' := [(0, .ref (ad 26)), (2, .int p0), (3, .int ((M.1 26 5) - 1))]) [2, 1, 0] rfl ?_
  refine me_l_W (b := mX2_turnRound_26_L9) (P := fun w => me_W p l e R s m args below meth c 0 0 (MQ below (me_Qc D cA ad n A none M') args s 0 0 A) D cA ad n 4 A 9 [(0, .ref (ad 26)), (2, .int w.1), (3, .int w.2.1)] [] w.2.2) (r := M4) ?_ me_fu (p0, ((M.1 26 5) - 1), M) hq1
  rintro ⟨x2_1, x3_1, M1⟩ z1 h hb1 - hr1
  unfold mX2_turnRound_26_L9 at h
  refine me_iload_n X (i := 3) 2 rfl dX2_turnRound_9 ?_
  refine me_iload_n X (i := 2) 1 rfl dX2_turnRound_10 ?_
  refine me_icmp_le X 41 (by decide) dX2_turnRound_11 (fun c1 => ?_) (fun c1 => ?_)
  · have h := me_ip c1 h
    obtain rfl := me_so h
    have q := hr1 _ rfl
    refine me_sub (L' := []) [] rfl ?_
    cases q
    exact hx1
  · have h := me_in c1 h
    refine me_aload_n X (i := 0) 0 rfl dX2_turnRound_14 ?_
    refine me_getr X 27 kF_X2_9 (Nat.le_of_ble_eq_true rfl) me_k26 me_f26_2 dX2_turnRound_15 ?_
    refine me_iload_n X (i := 2) 1 rfl dX2_turnRound_18 ?_
    refine me_iload_n X (i := 3) 2 rfl dX2_turnRound_19 ?_
    obtain ⟨M2, e1, h⟩ := me_bd h
    refine me_callSv X [.ref (ad 27), .int x2_1, .int x3_1] (ctX2_exchange_27 hn (Nat.le_trans (by decide) hnt) e1) kS_X2_76 rfl rfl (Nat.le_of_ble_eq_true rfl) (Nat.le_refl _) (Nat.le_of_ble_eq_true rfl) dX2_turnRound_20 ?_
    refine me_aload_n X (i := 0) 0 rfl dX2_turnRound_23 ?_
    refine me_getr X 29 kF_X2_18 (Nat.le_of_ble_eq_true rfl) me_k26 me_f26_4 dX2_turnRound_24 ?_
    refine me_iload_n X (i := 2) 1 rfl dX2_turnRound_27 ?_
    refine me_iload_n X (i := 3) 2 rfl dX2_turnRound_28 ?_
    obtain ⟨M3, e2, h⟩ := me_bd h
    refine me_callSv X [.ref (ad 29), .int x2_1, .int x3_1] (ctX2_exchange_29 hn (Nat.le_trans (by decide) hnt) e2) kS_X2_76 rfl rfl (Nat.le_of_ble_eq_true rfl) (Nat.le_refl _) (Nat.le_of_ble_eq_true rfl) dX2_turnRound_29 ?_
    refine me_iinc X (v := (x2_1 + 1)) 1 rfl (in_1 _) [(2, .int (x2_1 + 1)), (0, .ref (ad 26)), (3, .int x3_1)] (Nat.le_of_ble_eq_true rfl) rfl dX2_turnRound_32 ?_
    refine me_iinc X (v := (x3_1 + (-1))) 2 rfl (in_m1 _) [(3, .int (x3_1 + (-1))), (2, .int (x2_1 + 1)), (0, .ref (ad 26))] (Nat.le_of_ble_eq_true rfl) rfl dX2_turnRound_35 ?_
    refine me_goto X 9 (by decide) dX2_turnRound_38 ?_
    obtain rfl := me_so h
    refine me_sub (L' := [(0, .ref (ad 26)), (2, .int (x2_1 + 1)), (3, .int (x3_1 + (-1)))]) [2, 1, 0] rfl ?_
    exact hb1 ((x2_1 + 1), (x3_1 + (-1)), M3) rfl
def mX2_listMaximals_26_L7  : (Int32 × me_M) → Option ((Int32 × me_M) ⊕ (me_M))
  | (x1_1, M1) => (if (M1.1 3 5) ≤ x1_1 then some (.inr M1) else ((mX2_listFrom_26 M1 x1_1).bind fun M2 => ((mX2_turnRound_26 M2 (M1.1 26 5)).bind fun M3 => some (.inl ((x1_1 + 1), M3)))))
def mX2_listMaximals_26 (M : me_M)  : Option me_M :=
  ((me_l mX2_listMaximals_26_L7 me_fu (1, (me_s M 26 5 0))).bind fun M4 => some M4)
set_option maxRecDepth 100000 in
set_option maxHeartbeats 4000000 in
theorem ctX2_listMaximals_26 {l : Launch} {n nt : Nat} (hn : 63 ≤ n) (hnt : 1 ≤ nt) {M : me_M} {M' : me_M} (h : mX2_listMaximals_26 M = some M') : me_Ct l yX2_listMaximals cX2_listMaximals 3 none 4 n nt (fun ad => [.ref (ad 26)]) M (fun _ => none) M' := by
  unfold mX2_listMaximals_26 at h
  refine me_enter (N0 := 63) RX2 rfl (plainFor_of_name pl_RX2) hn (Nat.le_trans (by decide) hnt) (fun _ => Nat.le_of_ble_eq_true rfl) ?_
  intro p e R s m args below meth c D cA ad tys A X hr hlk
  refine me_sub (L' := [(0, .ref (ad 26))]) [0] rfl ?_
  refine me_aload_n X (i := 0) 0 rfl dX2_listMaximals_0 ?_
  refine me_iconst X dX2_listMaximals_1 ic_0 ?_
  refine me_puti X kG_X2_52 (Nat.le_of_ble_eq_true rfl) me_k26 me_f26_5 dX2_listMaximals_2 ?_
  refine me_iconst X dX2_listMaximals_5 ic_1 ?_
  refine me_istore_n X (i := 1) [(1, .int 1), (0, .ref (ad 26))] (Nat.le_of_ble_eq_true rfl) rfl dX2_listMaximals_6 ?_
  obtain ⟨M4, hq1, h⟩ := me_bd h
  have hx1 : me_W p l e R s m args below meth c 0 0 (MQ below (me_Qc D cA ad n A none M') args s 0 0 A) D cA ad n 3 A 39 [] [] M4 := by
    obtain rfl := me_so h
    exact me_vret X hr hlk dX2_listMaximals_39
  refine me_sub (L' := [(0, .ref (ad 26)), (1, .int 1)]) [1, 0] rfl ?_
  refine me_l_W (b := mX2_listMaximals_26_L7) (P := fun w => me_W p l e R s m args below meth c 0 0 (MQ below (me_Qc D cA ad n A none M') args s 0 0 A) D cA ad n 3 A 7 [(0, .ref (ad 26)), (1, .int w.1)] [] w.2) (r := M4) ?_ me_fu (1, (me_s M 26 5 0)) hq1
  rintro ⟨x1_1, M1⟩ z1 h hb1 - hr1
  unfold mX2_listMaximals_26_L7 at h
  refine me_iload_n X (i := 1) 1 rfl dX2_listMaximals_7 ?_
  refine me_aload_n X (i := 0) 0 rfl dX2_listMaximals_8 ?_
  refine me_getr X 3 kF_X2_21 (Nat.le_of_ble_eq_true rfl) me_k26 me_f26_0 dX2_listMaximals_9 ?_
  refine me_geti X kF_X2_29 (Nat.le_of_ble_eq_true rfl) me_k3 me_f3_5 dX2_listMaximals_12 ?_
  refine me_icmp_ge X 39 (by decide) dX2_listMaximals_15 (fun c1 => ?_) (fun c1 => ?_)
  · have h := me_ip c1 h
    obtain rfl := me_so h
    have q := hr1 _ rfl
    refine me_sub (L' := []) [] rfl ?_
    cases q
    exact hx1
  · have h := me_in c1 h
    refine me_aload_n X (i := 0) 0 rfl dX2_listMaximals_18 ?_
    refine me_geti X kF_X2_52 (Nat.le_of_ble_eq_true rfl) me_k26 me_f26_5 dX2_listMaximals_19 ?_
    refine me_istore_n X (i := 2) [(2, .int (M1.1 26 5)), (0, .ref (ad 26)), (1, .int x1_1)] (Nat.le_of_ble_eq_true rfl) rfl dX2_listMaximals_22 ?_
    refine me_aload_n X (i := 0) 1 rfl dX2_listMaximals_23 ?_
    refine me_iload_n X (i := 1) 2 rfl dX2_listMaximals_24 ?_
    obtain ⟨M2, e1, h⟩ := me_bd h
    refine me_callVv X [.int x1_1] (ctX2_listFrom_26 hn (Nat.le_trans (by decide) hnt) e1) kV_X2_55 rfl rfl (Nat.le_of_ble_eq_true rfl) me_k26 (Nat.le_of_ble_eq_true rfl) (Nat.le_refl _) (Nat.le_of_ble_eq_true rfl) dX2_listMaximals_25 ?_
    refine me_aload_n X (i := 0) 1 rfl dX2_listMaximals_28 ?_
    refine me_iload_n X (i := 2) 0 rfl dX2_listMaximals_29 ?_
    obtain ⟨M3, e2, h⟩ := me_bd h
    refine me_callVv X [.int (M1.1 26 5)] (ctX2_turnRound_26 hn (Nat.le_trans (by decide) hnt) e2) kV_X2_59 rfl rfl (Nat.le_of_ble_eq_true rfl) me_k26 (Nat.le_of_ble_eq_true rfl) (Nat.le_refl _) (Nat.le_of_ble_eq_true rfl) dX2_listMaximals_30 ?_
    refine me_iinc X (v := (x1_1 + 1)) 2 rfl (in_1 _) [(1, .int (x1_1 + 1)), (2, .int (M1.1 26 5)), (0, .ref (ad 26))] (Nat.le_of_ble_eq_true rfl) rfl dX2_listMaximals_33 ?_
    refine me_goto X 7 (by decide) dX2_listMaximals_36 ?_
    obtain rfl := me_so h
    refine me_sub (L' := [(0, .ref (ad 26)), (1, .int (x1_1 + 1))]) [2, 0] rfl ?_
    exact hb1 ((x1_1 + 1), M3) rfl
def mX2_countMaximals_26_J39 (p0 : Int32) (p1 : Int32) (x4_1 : Int32) (M : me_M) (x3_2 : Int32) : Option ((Int32 × Int32) ⊕ (Int32)) :=
  some (.inl (x3_2, (x4_1 + 1)))
def mX2_countMaximals_26_L5 (M : me_M) (p0 : Int32) (p1 : Int32) : (Int32 × Int32) → Option ((Int32 × Int32) ⊕ (Int32))
  | (x3_1, x4_1) => (if (M.1 26 5) ≤ x4_1 then some (.inr x3_1) else ((me_r M 27 240 x4_1).bind fun v1 => (if v1 < p0 then (mX2_countMaximals_26_J39 p0 p1 x4_1 M x3_1) else ((me_r M 29 240 x4_1).bind fun v2 => (if v2 < p1 then (mX2_countMaximals_26_J39 p0 p1 x4_1 M x3_1) else (mX2_countMaximals_26_J39 p0 p1 x4_1 M (x3_1 + 1)))))))
def mX2_countMaximals_26 (M : me_M) (p0 : Int32) (p1 : Int32) : Option Int32 :=
  ((me_l (mX2_countMaximals_26_L5 M p0 p1) me_fu (0, 0)).bind fun y3_1 => some y3_1)
set_option maxRecDepth 100000 in
set_option maxHeartbeats 4000000 in
theorem ctX2_countMaximals_26 {l : Launch} {n nt : Nat} (hn : 63 ≤ n) (hnt : 1 ≤ nt) {M : me_M} {p0 : Int32} {p1 : Int32} {r : Int32} (h : mX2_countMaximals_26 M p0 p1 = some r) : me_Ct l yX2_countMaximals cX2_countMaximals 5 (some .int) 0 n nt (fun ad => [.ref (ad 26), .int p0, .int p1]) M (fun _ => some (.int r)) M := by
  unfold mX2_countMaximals_26 at h
  refine me_enter (N0 := 63) RX2 rfl (plainFor_of_name pl_RX2) hn (Nat.le_trans (by decide) hnt) (fun _ => Nat.le_of_ble_eq_true rfl) ?_
  intro p e R s m args below meth c D cA ad tys A X hr hlk
  refine me_sub (L' := [(0, .ref (ad 26)), (1, .int p0), (2, .int p1)]) [0, 1, 2] rfl ?_
  refine me_iconst X dX2_countMaximals_0 ic_0 ?_
  refine me_istore_n X (i := 3) [(3, .int 0), (0, .ref (ad 26)), (1, .int p0), (2, .int p1)] (Nat.le_of_ble_eq_true rfl) rfl dX2_countMaximals_1 ?_
  refine me_iconst X dX2_countMaximals_2 ic_0 ?_
  refine me_istore X (i := 4) [(4, .int 0), (3, .int 0), (0, .ref (ad 26)), (1, .int p0), (2, .int p1)] (Nat.le_of_ble_eq_true rfl) rfl dX2_countMaximals_3 ?_
  obtain ⟨y3_1, hq1, h⟩ := me_bd h
  have hx1 : me_W p l e R s m args below meth c 0 0 (MQ below (me_Qc D cA ad n A (some (.int r)) M) args s 0 0 A) D cA ad n 5 A 45 [(3, .int y3_1)] [] M := by
    refine me_iload_n X (i := 3) 0 rfl dX2_countMaximals_45 ?_
    obtain rfl := me_so h
    exact me_iret X hr hlk dX2_countMaximals_46
  refine me_sub (L' := [(0, .ref (ad 26)), (1, .int p0), (2, .int p1), (3, .int 0), (4, .int 0)]) [2, 3, 4, 1, 0] rfl ?_
  refine me_l_W (b := (mX2_countMaximals_26_L5 M p0 p1)) (P := fun w => me_W p l e R s m args below meth c 0 0 (MQ below (me_Qc D cA ad n A (some (.int r)) M) args s 0 0 A) D cA ad n 5 A 5 [(0, .ref (ad 26)), (1, .int p0), (2, .int p1), (3, .int w.1), (4, .int w.2)] [] M) (r := y3_1) ?_ me_fu (0, 0) hq1
  rintro ⟨x3_1, x4_1⟩ z1 h hb1 - hr1
  unfold mX2_countMaximals_26_L5 at h
  refine me_iload X (i := 4) 4 rfl dX2_countMaximals_5 ?_
  refine me_aload_n X (i := 0) 0 rfl dX2_countMaximals_7 ?_
  refine me_geti X kF_X2_52 (Nat.le_of_ble_eq_true rfl) me_k26 me_f26_5 dX2_countMaximals_8 ?_
  refine me_icmp_ge X 45 (by decide) dX2_countMaximals_11 (fun c1 => ?_) (fun c1 => ?_)
  · have h := me_ip c1 h
    obtain rfl := me_so h
    have q := hr1 _ rfl
    refine me_sub (L' := [(3, .int x3_1)]) [3] rfl ?_
    cases q
    exact hx1
  · have h := me_in c1 h
    refine me_aload_n X (i := 0) 0 rfl dX2_countMaximals_14 ?_
    refine me_getr X 27 kF_X2_9 (Nat.le_of_ble_eq_true rfl) me_k26 me_f26_2 dX2_countMaximals_15 ?_
    refine me_iload X (i := 4) 4 rfl dX2_countMaximals_18 ?_
    obtain ⟨v1, e1, h⟩ := me_bd h
    refine me_iald X (Nat.le_of_ble_eq_true rfl) me_k27 e1 dX2_countMaximals_20 ?_
    refine me_iload_n X (i := 1) 1 rfl dX2_countMaximals_21 ?_
    have hj39_1 : ∀ (x3_2 : Int32), mX2_countMaximals_26_J39 p0 p1 x4_1 M x3_2 = some z1 → me_W p l e R s m args below meth c 0 0 (MQ below (me_Qc D cA ad n A (some (.int r)) M) args s 0 0 A) D cA ad n 5 A 39 [(0, .ref (ad 26)), (1, .int p0), (2, .int p1), (3, .int x3_2), (4, .int x4_1)] [] M := by
      intro x3_2 h
      unfold mX2_countMaximals_26_J39 at h
      refine me_iinc X (v := (x4_1 + 1)) 4 rfl (in_1 _) [(4, .int (x4_1 + 1)), (0, .ref (ad 26)), (1, .int p0), (2, .int p1), (3, .int x3_2)] (Nat.le_of_ble_eq_true rfl) rfl dX2_countMaximals_39 ?_
      refine me_goto X 5 (by decide) dX2_countMaximals_42 ?_
      obtain rfl := me_so h
      refine me_sub (L' := [(0, .ref (ad 26)), (1, .int p0), (2, .int p1), (3, .int x3_2), (4, .int (x4_1 + 1))]) [1, 2, 3, 4, 0] rfl ?_
      exact hb1 (x3_2, (x4_1 + 1)) rfl
    refine me_icmp_lt X 39 (by decide) dX2_countMaximals_22 (fun c2 => ?_) (fun c2 => ?_)
    · have h := me_ip c2 h
      exact hj39_1 x3_1 h
    · have h := me_in c2 h
      refine me_aload_n X (i := 0) 0 rfl dX2_countMaximals_25 ?_
      refine me_getr X 29 kF_X2_18 (Nat.le_of_ble_eq_true rfl) me_k26 me_f26_4 dX2_countMaximals_26 ?_
      refine me_iload X (i := 4) 4 rfl dX2_countMaximals_29 ?_
      obtain ⟨v2, e2, h⟩ := me_bd h
      refine me_iald X (Nat.le_of_ble_eq_true rfl) me_k29 e2 dX2_countMaximals_31 ?_
      refine me_iload_n X (i := 2) 2 rfl dX2_countMaximals_32 ?_
      refine me_icmp_lt X 39 (by decide) dX2_countMaximals_33 (fun c3 => ?_) (fun c3 => ?_)
      · have h := me_ip c3 h
        exact hj39_1 x3_1 h
      · have h := me_in c3 h
        refine me_iinc X (v := (x3_1 + 1)) 3 rfl (in_1 _) [(3, .int (x3_1 + 1)), (0, .ref (ad 26)), (1, .int p0), (2, .int p1), (4, .int x4_1)] (Nat.le_of_ble_eq_true rfl) rfl dX2_countMaximals_36 ?_
        refine me_sub (L' := [(0, .ref (ad 26)), (1, .int p0), (2, .int p1), (3, .int (x3_1 + 1)), (4, .int x4_1)]) [1, 2, 3, 0, 4] rfl ?_
        exact hj39_1 (x3_1 + 1) h
def mX2_indexOfMaximal_26_J49 (p0 : Int32) (p1 : Int32) (p2 : Int32) (x5_1 : Int32) (M : me_M) (x4_2 : Int32) : Option ((Int32 × Int32) ⊕ ((Unit) ⊕ Int32)) :=
  some (.inl (x4_2, (x5_1 + 1)))
def mX2_indexOfMaximal_26_L6 (M : me_M) (p0 : Int32) (p1 : Int32) (p2 : Int32) : (Int32 × Int32) → Option ((Int32 × Int32) ⊕ ((Unit) ⊕ Int32))
  | (x4_1, x5_1) => (if (M.1 26 5) ≤ x5_1 then some (.inr (.inl ())) else ((me_r M 27 240 x5_1).bind fun v1 => (if v1 < p1 then (mX2_indexOfMaximal_26_J49 p0 p1 p2 x5_1 M x4_1) else ((me_r M 29 240 x5_1).bind fun v2 => (if v2 < p2 then (mX2_indexOfMaximal_26_J49 p0 p1 p2 x5_1 M x4_1) else (if x4_1 = p0 then some (.inr (.inr x5_1)) else (mX2_indexOfMaximal_26_J49 p0 p1 p2 x5_1 M (x4_1 + 1))))))))
def mX2_indexOfMaximal_26 (M : me_M) (p0 : Int32) (p1 : Int32) (p2 : Int32) : Option Int32 :=
  ((me_l (mX2_indexOfMaximal_26_L6 M p0 p1 p2) me_fu (0, 0)).bind fun o => Sum.elim (fun _ => some (-1)) (fun res => some res) o)
set_option maxRecDepth 100000 in
set_option maxHeartbeats 4000000 in
theorem ctX2_indexOfMaximal_26 {l : Launch} {n nt : Nat} (hn : 63 ≤ n) (hnt : 1 ≤ nt) {M : me_M} {p0 : Int32} {p1 : Int32} {p2 : Int32} {r : Int32} (h : mX2_indexOfMaximal_26 M p0 p1 p2 = some r) : me_Ct l yX2_indexOfMaximal cX2_indexOfMaximal 6 (some .int) 0 n nt (fun ad => [.ref (ad 26), .int p0, .int p1, .int p2]) M (fun _ => some (.int r)) M := by
  unfold mX2_indexOfMaximal_26 at h
  refine me_enter (N0 := 63) RX2 rfl (plainFor_of_name pl_RX2) hn (Nat.le_trans (by decide) hnt) (fun _ => Nat.le_of_ble_eq_true rfl) ?_
  intro p e R s m args below meth c D cA ad tys A X hr hlk
  refine me_sub (L' := [(0, .ref (ad 26)), (1, .int p0), (2, .int p1), (3, .int p2)]) [0, 1, 2, 3] rfl ?_
  refine me_iconst X dX2_indexOfMaximal_0 ic_0 ?_
  refine me_istore X (i := 4) [(4, .int 0), (0, .ref (ad 26)), (1, .int p0), (2, .int p1), (3, .int p2)] (Nat.le_of_ble_eq_true rfl) rfl dX2_indexOfMaximal_1 ?_
  refine me_iconst X dX2_indexOfMaximal_3 ic_0 ?_
  refine me_istore X (i := 5) [(5, .int 0), (4, .int 0), (0, .ref (ad 26)), (1, .int p0), (2, .int p1), (3, .int p2)] (Nat.le_of_ble_eq_true rfl) rfl dX2_indexOfMaximal_4 ?_
  obtain ⟨o0, hq1l, hq1⟩ := me_bd h
  have hx1 : o0 = .inl () → me_W p l e R s m args below meth c 0 0 (MQ below (me_Qc D cA ad n A (some (.int r)) M) args s 0 0 A) D cA ad n 6 A 55 [] [] M := by
    intro q
    subst q
    have h := me_el hq1
    refine me_iconst X dX2_indexOfMaximal_55 ic_m1 ?_
    obtain rfl := me_so h
    exact me_iret X hr hlk dX2_indexOfMaximal_56
  refine me_sub (L' := [(0, .ref (ad 26)), (1, .int p0), (2, .int p1), (3, .int p2), (4, .int 0), (5, .int 0)]) [2, 3, 4, 5, 1, 0] rfl ?_
  refine me_l_W (b := (mX2_indexOfMaximal_26_L6 M p0 p1 p2)) (P := fun w => me_W p l e R s m args below meth c 0 0 (MQ below (me_Qc D cA ad n A (some (.int r)) M) args s 0 0 A) D cA ad n 6 A 6 [(0, .ref (ad 26)), (1, .int p0), (2, .int p1), (3, .int p2), (4, .int w.1), (5, .int w.2)] [] M) (r := o0) ?_ me_fu (0, 0) hq1l
  rintro ⟨x4_1, x5_1⟩ z1 h hb1 - hr1
  unfold mX2_indexOfMaximal_26_L6 at h
  refine me_iload X (i := 5) 5 rfl dX2_indexOfMaximal_6 ?_
  refine me_aload_n X (i := 0) 0 rfl dX2_indexOfMaximal_8 ?_
  refine me_geti X kF_X2_52 (Nat.le_of_ble_eq_true rfl) me_k26 me_f26_5 dX2_indexOfMaximal_9 ?_
  refine me_icmp_ge X 55 (by decide) dX2_indexOfMaximal_12 (fun c1 => ?_) (fun c1 => ?_)
  · have h := me_ip c1 h
    obtain rfl := me_so h
    have q := hr1 _ rfl
    refine me_sub (L' := []) [] rfl ?_
    subst q
    exact hx1 rfl
  · have h := me_in c1 h
    refine me_aload_n X (i := 0) 0 rfl dX2_indexOfMaximal_15 ?_
    refine me_getr X 27 kF_X2_9 (Nat.le_of_ble_eq_true rfl) me_k26 me_f26_2 dX2_indexOfMaximal_16 ?_
    refine me_iload X (i := 5) 5 rfl dX2_indexOfMaximal_19 ?_
    obtain ⟨v1, e1, h⟩ := me_bd h
    refine me_iald X (Nat.le_of_ble_eq_true rfl) me_k27 e1 dX2_indexOfMaximal_21 ?_
    refine me_iload_n X (i := 2) 2 rfl dX2_indexOfMaximal_22 ?_
    have hj49_1 : ∀ (x4_2 : Int32), mX2_indexOfMaximal_26_J49 p0 p1 p2 x5_1 M x4_2 = some z1 → me_W p l e R s m args below meth c 0 0 (MQ below (me_Qc D cA ad n A (some (.int r)) M) args s 0 0 A) D cA ad n 6 A 49 [(0, .ref (ad 26)), (1, .int p0), (2, .int p1), (3, .int p2), (4, .int x4_2), (5, .int x5_1)] [] M := by
      intro x4_2 h
      unfold mX2_indexOfMaximal_26_J49 at h
      refine me_iinc X (v := (x5_1 + 1)) 5 rfl (in_1 _) [(5, .int (x5_1 + 1)), (0, .ref (ad 26)), (1, .int p0), (2, .int p1), (3, .int p2), (4, .int x4_2)] (Nat.le_of_ble_eq_true rfl) rfl dX2_indexOfMaximal_49 ?_
      refine me_goto X 6 (by decide) dX2_indexOfMaximal_52 ?_
      obtain rfl := me_so h
      refine me_sub (L' := [(0, .ref (ad 26)), (1, .int p0), (2, .int p1), (3, .int p2), (4, .int x4_2), (5, .int (x5_1 + 1))]) [1, 2, 3, 4, 5, 0] rfl ?_
      exact hb1 (x4_2, (x5_1 + 1)) rfl
    refine me_icmp_lt X 49 (by decide) dX2_indexOfMaximal_23 (fun c2 => ?_) (fun c2 => ?_)
    · have h := me_ip c2 h
      exact hj49_1 x4_1 h
    · have h := me_in c2 h
      refine me_aload_n X (i := 0) 0 rfl dX2_indexOfMaximal_26 ?_
      refine me_getr X 29 kF_X2_18 (Nat.le_of_ble_eq_true rfl) me_k26 me_f26_4 dX2_indexOfMaximal_27 ?_
      refine me_iload X (i := 5) 5 rfl dX2_indexOfMaximal_30 ?_
      obtain ⟨v2, e2, h⟩ := me_bd h
      refine me_iald X (Nat.le_of_ble_eq_true rfl) me_k29 e2 dX2_indexOfMaximal_32 ?_
      refine me_iload_n X (i := 3) 3 rfl dX2_indexOfMaximal_33 ?_
      refine me_icmp_lt X 49 (by decide) dX2_indexOfMaximal_34 (fun c3 => ?_) (fun c3 => ?_)
      · have h := me_ip c3 h
        exact hj49_1 x4_1 h
      · have h := me_in c3 h
        refine me_iload X (i := 4) 4 rfl dX2_indexOfMaximal_37 ?_
        refine me_iload_n X (i := 1) 1 rfl dX2_indexOfMaximal_39 ?_
        refine me_icmp_ne X 46 (by decide) dX2_indexOfMaximal_40 (fun c4 => ?_) (fun c4 => ?_)
        · have h := me_in c4 h
          refine me_iinc X (v := (x4_1 + 1)) 4 rfl (in_1 _) [(4, .int (x4_1 + 1)), (0, .ref (ad 26)), (1, .int p0), (2, .int p1), (3, .int p2), (5, .int x5_1)] (Nat.le_of_ble_eq_true rfl) rfl dX2_indexOfMaximal_46 ?_
          refine me_sub (L' := [(0, .ref (ad 26)), (1, .int p0), (2, .int p1), (3, .int p2), (4, .int (x4_1 + 1)), (5, .int x5_1)]) [1, 2, 3, 4, 0, 5] rfl ?_
          exact hj49_1 (x4_1 + 1) h
        · have h := me_ip c4 h
          refine me_iload X (i := 5) 5 rfl dX2_indexOfMaximal_43 ?_
          obtain rfl := me_so h
          have q := hr1 _ rfl
          subst q
          have h : some x5_1 = some r := hq1
          obtain rfl := me_so h
          exact me_iret X hr hlk dX2_indexOfMaximal_45
def mX2_firstPlace_26_L11 (M : me_M) (p0 : Int32) (p1 : Int32) : (Int32 × Int32) → Option ((Int32 × Int32) ⊕ (Int32))
  | (x3_1, x4_1) => (if (p0 + p1) ≤ x4_1 then some (.inr x3_1) else ((me_r M 10 241 x4_1).bind fun v1 => ((mJ9_min_7cf53 x3_1 v1).bind fun v2 => some (.inl (v2, (x4_1 + 1))))))
def mX2_firstPlace_26 (M : me_M) (p0 : Int32) (p1 : Int32) : Option Int32 :=
  ((me_l (mX2_firstPlace_26_L11 M p0 p1) me_fu ((M.1 3 5), p0)).bind fun y3_1 => some y3_1)
set_option maxRecDepth 100000 in
set_option maxHeartbeats 4000000 in
theorem ctX2_firstPlace_26 {l : Launch} {n nt : Nat} (hn : 63 ≤ n) (hnt : 1 ≤ nt) {M : me_M} {p0 : Int32} {p1 : Int32} {r : Int32} (h : mX2_firstPlace_26 M p0 p1 = some r) : me_Ct l yX2_firstPlace cX2_firstPlace 5 (some .int) 1 n nt (fun ad => [.ref (ad 26), .int p0, .int p1]) M (fun _ => some (.int r)) M := by
  unfold mX2_firstPlace_26 at h
  refine me_enter (N0 := 63) RX2 rfl (plainFor_of_name pl_RX2) hn (Nat.le_trans (by decide) hnt) (fun _ => Nat.le_of_ble_eq_true rfl) ?_
  intro p e R s m args below meth c D cA ad tys A X hr hlk
  refine me_sub (L' := [(0, .ref (ad 26)), (1, .int p0), (2, .int p1)]) [0, 1, 2] rfl ?_
  refine me_aload_n X (i := 0) 0 rfl dX2_firstPlace_0 ?_
  refine me_getr X 3 kF_X2_21 (Nat.le_of_ble_eq_true rfl) me_k26 me_f26_0 dX2_firstPlace_1 ?_
  refine me_geti X kF_X2_29 (Nat.le_of_ble_eq_true rfl) me_k3 me_f3_5 dX2_firstPlace_4 ?_
  refine me_istore_n X (i := 3) [(3, .int (M.1 3 5)), (0, .ref (ad 26)), (1, .int p0), (2, .int p1)] (Nat.le_of_ble_eq_true rfl) rfl dX2_firstPlace_7 ?_
  refine me_iload_n X (i := 1) 2 rfl dX2_firstPlace_8 ?_
  refine me_istore X (i := 4) [(4, .int p0), (3, .int (M.1 3 5)), (0, .ref (ad 26)), (1, .int p0), (2, .int p1)] (Nat.le_of_ble_eq_true rfl) rfl dX2_firstPlace_9 ?_
  obtain ⟨y3_1, hq1, h⟩ := me_bd h
  have hx1 : me_W p l e R s m args below meth c 0 0 (MQ below (me_Qc D cA ad n A (some (.int r)) M) args s 0 0 A) D cA ad n 5 A 40 [(3, .int y3_1)] [] M := by
    refine me_iload_n X (i := 3) 0 rfl dX2_firstPlace_40 ?_
    obtain rfl := me_so h
    exact me_iret X hr hlk dX2_firstPlace_41
  refine me_sub (L' := [(0, .ref (ad 26)), (1, .int p0), (2, .int p1), (3, .int (M.1 3 5)), (4, .int p0)]) [2, 3, 4, 1, 0] rfl ?_
  refine me_l_W (b := (mX2_firstPlace_26_L11 M p0 p1)) (P := fun w => me_W p l e R s m args below meth c 0 0 (MQ below (me_Qc D cA ad n A (some (.int r)) M) args s 0 0 A) D cA ad n 5 A 11 [(0, .ref (ad 26)), (1, .int p0), (2, .int p1), (3, .int w.1), (4, .int w.2)] [] M) (r := y3_1) ?_ me_fu ((M.1 3 5), p0) hq1
  rintro ⟨x3_1, x4_1⟩ z1 h hb1 - hr1
  unfold mX2_firstPlace_26_L11 at h
  refine me_iload X (i := 4) 4 rfl dX2_firstPlace_11 ?_
  refine me_iload_n X (i := 1) 1 rfl dX2_firstPlace_13 ?_
  refine me_iload_n X (i := 2) 2 rfl dX2_firstPlace_14 ?_
  refine me_iadd X dX2_firstPlace_15 ?_
  refine me_icmp_ge X 40 (by decide) dX2_firstPlace_16 (fun c1 => ?_) (fun c1 => ?_)
  · have h := me_ip c1 h
    obtain rfl := me_so h
    have q := hr1 _ rfl
    refine me_sub (L' := [(3, .int x3_1)]) [3] rfl ?_
    cases q
    exact hx1
  · have h := me_in c1 h
    refine me_iload_n X (i := 3) 3 rfl dX2_firstPlace_19 ?_
    refine me_aload_n X (i := 0) 0 rfl dX2_firstPlace_20 ?_
    refine me_getr X 9 kF_X2_25 (Nat.le_of_ble_eq_true rfl) me_k26 me_f26_1 dX2_firstPlace_21 ?_
    refine me_getr X 10 kF_X2_43 (Nat.le_of_ble_eq_true rfl) me_k9 me_f9_1 dX2_firstPlace_24 ?_
    refine me_iload X (i := 4) 4 rfl dX2_firstPlace_27 ?_
    obtain ⟨v1, e1, h⟩ := me_bd h
    refine me_iald X (Nat.le_of_ble_eq_true rfl) me_k10 e1 dX2_firstPlace_29 ?_
    obtain ⟨v2, e2, h⟩ := me_bd h
    refine me_callSi X [.int x3_1, .int v1] (ctJ9_min_7cf53 hn (Nat.le_trans (by decide) hnt) e2) kS_X2_46 rfl rfl (Nat.le_of_ble_eq_true rfl) (Nat.le_refl _) (Nat.le_of_ble_eq_true rfl) dX2_firstPlace_30 ?_
    refine me_istore_n X (i := 3) [(3, .int v2), (0, .ref (ad 26)), (1, .int p0), (2, .int p1), (4, .int x4_1)] (Nat.le_of_ble_eq_true rfl) rfl dX2_firstPlace_33 ?_
    refine me_iinc X (v := (x4_1 + 1)) 4 rfl (in_1 _) [(4, .int (x4_1 + 1)), (3, .int v2), (0, .ref (ad 26)), (1, .int p0), (2, .int p1)] (Nat.le_of_ble_eq_true rfl) rfl dX2_firstPlace_34 ?_
    refine me_goto X 11 (by decide) dX2_firstPlace_37 ?_
    obtain rfl := me_so h
    refine me_sub (L' := [(0, .ref (ad 26)), (1, .int p0), (2, .int p1), (3, .int v2), (4, .int (x4_1 + 1))]) [2, 3, 4, 1, 0] rfl ?_
    exact hb1 (v2, (x4_1 + 1)) rfl
def mX2_unlikeStrings_26_J48 (p0 : Int32) (x3_1 : Int32) (M : me_M) (x2_2 : Int32) : Option ((Int32 × Int32) ⊕ (Int32)) :=
  some (.inl (x2_2, (x3_1 + 1)))
def mX2_unlikeStrings_26_L4 (M : me_M) (p0 : Int32) : (Int32 × Int32) → Option ((Int32 × Int32) ⊕ (Int32))
  | (x2_1, x3_1) => (if (M.1 3 5) < x3_1 then some (.inr x2_1) else ((me_r M 10 241 x3_1).bind fun v1 => ((me_r M 6 241 v1).bind fun v2 => (if v2 < p0 then (mX2_unlikeStrings_26_J48 p0 x3_1 M x2_1) else ((mX2_lettersAlike_26 M x3_1).bind fun v3 => (if p0 ≤ v3 then (mX2_unlikeStrings_26_J48 p0 x3_1 M x2_1) else (mX2_unlikeStrings_26_J48 p0 x3_1 M (x2_1 + 1))))))))
def mX2_unlikeStrings_26 (M : me_M) (p0 : Int32) : Option Int32 :=
  ((me_l (mX2_unlikeStrings_26_L4 M p0) me_fu (0, 0)).bind fun y2_1 => some y2_1)
set_option maxRecDepth 100000 in
set_option maxHeartbeats 4000000 in
theorem ctX2_unlikeStrings_26 {l : Launch} {n nt : Nat} (hn : 63 ≤ n) (hnt : 1 ≤ nt) {M : me_M} {p0 : Int32} {r : Int32} (h : mX2_unlikeStrings_26 M p0 = some r) : me_Ct l yX2_unlikeStrings cX2_unlikeStrings 4 (some .int) 2 n nt (fun ad => [.ref (ad 26), .int p0]) M (fun _ => some (.int r)) M := by
  unfold mX2_unlikeStrings_26 at h
  refine me_enter (N0 := 63) RX2 rfl (plainFor_of_name pl_RX2) hn (Nat.le_trans (by decide) hnt) (fun _ => Nat.le_of_ble_eq_true rfl) ?_
  intro p e R s m args below meth c D cA ad tys A X hr hlk
  refine me_sub (L' := [(0, .ref (ad 26)), (1, .int p0)]) [0, 1] rfl ?_
  refine me_iconst X dX2_unlikeStrings_0 ic_0 ?_
  refine me_istore_n X (i := 2) [(2, .int 0), (0, .ref (ad 26)), (1, .int p0)] (Nat.le_of_ble_eq_true rfl) rfl dX2_unlikeStrings_1 ?_
  refine me_iconst X dX2_unlikeStrings_2 ic_0 ?_
  refine me_istore_n X (i := 3) [(3, .int 0), (2, .int 0), (0, .ref (ad 26)), (1, .int p0)] (Nat.le_of_ble_eq_true rfl) rfl dX2_unlikeStrings_3 ?_
  obtain ⟨y2_1, hq1, h⟩ := me_bd h
  have hx1 : me_W p l e R s m args below meth c 0 0 (MQ below (me_Qc D cA ad n A (some (.int r)) M) args s 0 0 A) D cA ad n 4 A 54 [(2, .int y2_1)] [] M := by
    refine me_iload_n X (i := 2) 0 rfl dX2_unlikeStrings_54 ?_
    obtain rfl := me_so h
    exact me_iret X hr hlk dX2_unlikeStrings_55
  refine me_sub (L' := [(0, .ref (ad 26)), (1, .int p0), (2, .int 0), (3, .int 0)]) [2, 3, 1, 0] rfl ?_
  refine me_l_W (b := (mX2_unlikeStrings_26_L4 M p0)) (P := fun w => me_W p l e R s m args below meth c 0 0 (MQ below (me_Qc D cA ad n A (some (.int r)) M) args s 0 0 A) D cA ad n 4 A 4 [(0, .ref (ad 26)), (1, .int p0), (2, .int w.1), (3, .int w.2)] [] M) (r := y2_1) ?_ me_fu (0, 0) hq1
  rintro ⟨x2_1, x3_1⟩ z1 h hb1 - hr1
  unfold mX2_unlikeStrings_26_L4 at h
  refine me_iload_n X (i := 3) 3 rfl dX2_unlikeStrings_4 ?_
  refine me_aload_n X (i := 0) 0 rfl dX2_unlikeStrings_5 ?_
  refine me_getr X 3 kF_X2_21 (Nat.le_of_ble_eq_true rfl) me_k26 me_f26_0 dX2_unlikeStrings_6 ?_
  refine me_geti X kF_X2_29 (Nat.le_of_ble_eq_true rfl) me_k3 me_f3_5 dX2_unlikeStrings_9 ?_
  refine me_icmp_gt X 54 (by decide) dX2_unlikeStrings_12 (fun c1 => ?_) (fun c1 => ?_)
  · have h := me_ip c1 h
    obtain rfl := me_so h
    have q := hr1 _ rfl
    refine me_sub (L' := [(2, .int x2_1)]) [2] rfl ?_
    cases q
    exact hx1
  · have h := me_in c1 h
    refine me_aload_n X (i := 0) 0 rfl dX2_unlikeStrings_15 ?_
    refine me_getr X 3 kF_X2_21 (Nat.le_of_ble_eq_true rfl) me_k26 me_f26_0 dX2_unlikeStrings_16 ?_
    refine me_getr X 6 kF_X2_40 (Nat.le_of_ble_eq_true rfl) me_k3 me_f3_2 dX2_unlikeStrings_19 ?_
    refine me_aload_n X (i := 0) 0 rfl dX2_unlikeStrings_22 ?_
    refine me_getr X 9 kF_X2_25 (Nat.le_of_ble_eq_true rfl) me_k26 me_f26_1 dX2_unlikeStrings_23 ?_
    refine me_getr X 10 kF_X2_43 (Nat.le_of_ble_eq_true rfl) me_k9 me_f9_1 dX2_unlikeStrings_26 ?_
    refine me_iload_n X (i := 3) 3 rfl dX2_unlikeStrings_29 ?_
    obtain ⟨v1, e1, h⟩ := me_bd h
    refine me_iald X (Nat.le_of_ble_eq_true rfl) me_k10 e1 dX2_unlikeStrings_30 ?_
    obtain ⟨v2, e2, h⟩ := me_bd h
    refine me_iald X (Nat.le_of_ble_eq_true rfl) me_k6 e2 dX2_unlikeStrings_31 ?_
    refine me_iload_n X (i := 1) 1 rfl dX2_unlikeStrings_32 ?_
    have hj48_1 : ∀ (x2_2 : Int32), mX2_unlikeStrings_26_J48 p0 x3_1 M x2_2 = some z1 → me_W p l e R s m args below meth c 0 0 (MQ below (me_Qc D cA ad n A (some (.int r)) M) args s 0 0 A) D cA ad n 4 A 48 [(0, .ref (ad 26)), (1, .int p0), (2, .int x2_2), (3, .int x3_1)] [] M := by
      intro x2_2 h
      unfold mX2_unlikeStrings_26_J48 at h
      refine me_iinc X (v := (x3_1 + 1)) 3 rfl (in_1 _) [(3, .int (x3_1 + 1)), (0, .ref (ad 26)), (1, .int p0), (2, .int x2_2)] (Nat.le_of_ble_eq_true rfl) rfl dX2_unlikeStrings_48 ?_
      refine me_goto X 4 (by decide) dX2_unlikeStrings_51 ?_
      obtain rfl := me_so h
      refine me_sub (L' := [(0, .ref (ad 26)), (1, .int p0), (2, .int x2_2), (3, .int (x3_1 + 1))]) [1, 2, 3, 0] rfl ?_
      exact hb1 (x2_2, (x3_1 + 1)) rfl
    refine me_icmp_lt X 48 (by decide) dX2_unlikeStrings_33 (fun c2 => ?_) (fun c2 => ?_)
    · have h := me_ip c2 h
      exact hj48_1 x2_1 h
    · have h := me_in c2 h
      refine me_aload_n X (i := 0) 0 rfl dX2_unlikeStrings_36 ?_
      refine me_iload_n X (i := 3) 3 rfl dX2_unlikeStrings_37 ?_
      obtain ⟨v3, e3, h⟩ := me_bd h
      refine me_callVi X [.int x3_1] (ctX2_lettersAlike_26 hn (Nat.le_trans (by decide) hnt) e3) kV_X2_62 rfl rfl (Nat.le_of_ble_eq_true rfl) me_k26 (Nat.le_of_ble_eq_true rfl) (Nat.le_refl _) (Nat.le_of_ble_eq_true rfl) dX2_unlikeStrings_38 ?_
      refine me_iload_n X (i := 1) 1 rfl dX2_unlikeStrings_41 ?_
      refine me_icmp_ge X 48 (by decide) dX2_unlikeStrings_42 (fun c3 => ?_) (fun c3 => ?_)
      · have h := me_ip c3 h
        exact hj48_1 x2_1 h
      · have h := me_in c3 h
        refine me_iinc X (v := (x2_1 + 1)) 2 rfl (in_1 _) [(2, .int (x2_1 + 1)), (0, .ref (ad 26)), (1, .int p0), (3, .int x3_1)] (Nat.le_of_ble_eq_true rfl) rfl dX2_unlikeStrings_45 ?_
        refine me_sub (L' := [(0, .ref (ad 26)), (1, .int p0), (2, .int (x2_1 + 1)), (3, .int x3_1)]) [1, 2, 0, 3] rfl ?_
        exact hj48_1 (x2_1 + 1) h
def mX2_longest_26_L4 (M : me_M) : (Int32 × Int32) → Option ((Int32 × Int32) ⊕ (Int32))
  | (x1_1, x2_1) => (if (M.1 3 5) < x2_1 then some (.inr x1_1) else ((mX2_lettersAlike_26 M x2_1).bind fun v1 => ((mJ9_max_7cf53 x1_1 v1).bind fun v2 => some (.inl (v2, (x2_1 + 1))))))
def mX2_longest_26 (M : me_M)  : Option Int32 :=
  ((me_l (mX2_longest_26_L4 M) me_fu (0, 1)).bind fun y1_1 => some y1_1)
set_option maxRecDepth 100000 in
set_option maxHeartbeats 4000000 in
theorem ctX2_longest_26 {l : Launch} {n nt : Nat} (hn : 63 ≤ n) (hnt : 1 ≤ nt) {M : me_M} {r : Int32} (h : mX2_longest_26 M = some r) : me_Ct l yX2_longest cX2_longest 3 (some .int) 2 n nt (fun ad => [.ref (ad 26)]) M (fun _ => some (.int r)) M := by
  unfold mX2_longest_26 at h
  refine me_enter (N0 := 63) RX2 rfl (plainFor_of_name pl_RX2) hn (Nat.le_trans (by decide) hnt) (fun _ => Nat.le_of_ble_eq_true rfl) ?_
  intro p e R s m args below meth c D cA ad tys A X hr hlk
  refine me_sub (L' := [(0, .ref (ad 26))]) [0] rfl ?_
  refine me_iconst X dX2_longest_0 ic_0 ?_
  refine me_istore_n X (i := 1) [(1, .int 0), (0, .ref (ad 26))] (Nat.le_of_ble_eq_true rfl) rfl dX2_longest_1 ?_
  refine me_iconst X dX2_longest_2 ic_1 ?_
  refine me_istore_n X (i := 2) [(2, .int 1), (1, .int 0), (0, .ref (ad 26))] (Nat.le_of_ble_eq_true rfl) rfl dX2_longest_3 ?_
  obtain ⟨y1_1, hq1, h⟩ := me_bd h
  have hx1 : me_W p l e R s m args below meth c 0 0 (MQ below (me_Qc D cA ad n A (some (.int r)) M) args s 0 0 A) D cA ad n 3 A 31 [(1, .int y1_1)] [] M := by
    refine me_iload_n X (i := 1) 0 rfl dX2_longest_31 ?_
    obtain rfl := me_so h
    exact me_iret X hr hlk dX2_longest_32
  refine me_sub (L' := [(0, .ref (ad 26)), (1, .int 0), (2, .int 1)]) [2, 1, 0] rfl ?_
  refine me_l_W (b := (mX2_longest_26_L4 M)) (P := fun w => me_W p l e R s m args below meth c 0 0 (MQ below (me_Qc D cA ad n A (some (.int r)) M) args s 0 0 A) D cA ad n 3 A 4 [(0, .ref (ad 26)), (1, .int w.1), (2, .int w.2)] [] M) (r := y1_1) ?_ me_fu (0, 1) hq1
  rintro ⟨x1_1, x2_1⟩ z1 h hb1 - hr1
  unfold mX2_longest_26_L4 at h
  refine me_iload_n X (i := 2) 2 rfl dX2_longest_4 ?_
  refine me_aload_n X (i := 0) 0 rfl dX2_longest_5 ?_
  refine me_getr X 3 kF_X2_21 (Nat.le_of_ble_eq_true rfl) me_k26 me_f26_0 dX2_longest_6 ?_
  refine me_geti X kF_X2_29 (Nat.le_of_ble_eq_true rfl) me_k3 me_f3_5 dX2_longest_9 ?_
  refine me_icmp_gt X 31 (by decide) dX2_longest_12 (fun c1 => ?_) (fun c1 => ?_)
  · have h := me_ip c1 h
    obtain rfl := me_so h
    have q := hr1 _ rfl
    refine me_sub (L' := [(1, .int x1_1)]) [1] rfl ?_
    cases q
    exact hx1
  · have h := me_in c1 h
    refine me_iload_n X (i := 1) 1 rfl dX2_longest_15 ?_
    refine me_aload_n X (i := 0) 0 rfl dX2_longest_16 ?_
    refine me_iload_n X (i := 2) 2 rfl dX2_longest_17 ?_
    obtain ⟨v1, e1, h⟩ := me_bd h
    refine me_callVi X [.int x2_1] (ctX2_lettersAlike_26 hn (Nat.le_trans (by decide) hnt) e1) kV_X2_62 rfl rfl (Nat.le_of_ble_eq_true rfl) me_k26 (Nat.le_of_ble_eq_true rfl) (Nat.le_refl _) (Nat.le_of_ble_eq_true rfl) dX2_longest_18 ?_
    obtain ⟨v2, e2, h⟩ := me_bd h
    refine me_callSi X [.int x1_1, .int v1] (ctJ9_max_7cf53 hn (Nat.le_trans (by decide) hnt) e2) kS_X2_80 rfl rfl (Nat.le_of_ble_eq_true rfl) (Nat.le_refl _) (Nat.le_of_ble_eq_true rfl) dX2_longest_21 ?_
    refine me_istore_n X (i := 1) [(1, .int v2), (0, .ref (ad 26)), (2, .int x2_1)] (Nat.le_of_ble_eq_true rfl) rfl dX2_longest_24 ?_
    refine me_iinc X (v := (x2_1 + 1)) 2 rfl (in_1 _) [(2, .int (x2_1 + 1)), (1, .int v2), (0, .ref (ad 26))] (Nat.le_of_ble_eq_true rfl) rfl dX2_longest_25 ?_
    refine me_goto X 4 (by decide) dX2_longest_28 ?_
    obtain rfl := me_so h
    refine me_sub (L' := [(0, .ref (ad 26)), (1, .int v2), (2, .int (x2_1 + 1))]) [2, 1, 0] rfl ?_
    exact hb1 (v2, (x2_1 + 1)) rfl
def mX2_lettersShared_26 (M : me_M) (p0 : Int32) : Option Int32 :=
  ((me_r M 11 241 p0).bind fun v1 => ((mX2_lettersAlike_26 M v1).bind fun v2 => ((mX2_lettersAlike_26 M (v1 + 1)).bind fun v3 => ((mJ9_max_7cf53 v2 v3).bind fun v4 => some v4))))
set_option maxRecDepth 100000 in
set_option maxHeartbeats 4000000 in
theorem ctX2_lettersShared_26 {l : Launch} {n nt : Nat} (hn : 63 ≤ n) (hnt : 1 ≤ nt) {M : me_M} {p0 : Int32} {r : Int32} (h : mX2_lettersShared_26 M p0 = some r) : me_Ct l yX2_lettersShared cX2_lettersShared 3 (some .int) 2 n nt (fun ad => [.ref (ad 26), .int p0]) M (fun _ => some (.int r)) M := by
  unfold mX2_lettersShared_26 at h
  refine me_enter (N0 := 63) RX2 rfl (plainFor_of_name pl_RX2) hn (Nat.le_trans (by decide) hnt) (fun _ => Nat.le_of_ble_eq_true rfl) ?_
  intro p e R s m args below meth c D cA ad tys A X hr hlk
  refine me_sub (L' := [(0, .ref (ad 26)), (1, .int p0)]) [0, 1] rfl ?_
  refine me_aload_n X (i := 0) 0 rfl dX2_lettersShared_0 ?_
  refine me_getr X 9 kF_X2_25 (Nat.le_of_ble_eq_true rfl) me_k26 me_f26_1 dX2_lettersShared_1 ?_
  refine me_getr X 11 kF_X2_83 (Nat.le_of_ble_eq_true rfl) me_k9 me_f9_2 dX2_lettersShared_4 ?_
  refine me_iload_n X (i := 1) 1 rfl dX2_lettersShared_7 ?_
  obtain ⟨v1, e1, h⟩ := me_bd h
  refine me_iald X (Nat.le_of_ble_eq_true rfl) me_k11 e1 dX2_lettersShared_8 ?_
  refine me_istore_n X (i := 2) [(2, .int v1), (0, .ref (ad 26)), (1, .int p0)] (Nat.le_of_ble_eq_true rfl) rfl dX2_lettersShared_9 ?_
  refine me_aload_n X (i := 0) 1 rfl dX2_lettersShared_10 ?_
  refine me_iload_n X (i := 2) 0 rfl dX2_lettersShared_11 ?_
  obtain ⟨v2, e2, h⟩ := me_bd h
  refine me_callVi X [.int v1] (ctX2_lettersAlike_26 hn (Nat.le_trans (by decide) hnt) e2) kV_X2_62 rfl rfl (Nat.le_of_ble_eq_true rfl) me_k26 (Nat.le_of_ble_eq_true rfl) (Nat.le_refl _) (Nat.le_of_ble_eq_true rfl) dX2_lettersShared_12 ?_
  refine me_aload_n X (i := 0) 1 rfl dX2_lettersShared_15 ?_
  refine me_iload_n X (i := 2) 0 rfl dX2_lettersShared_16 ?_
  refine me_iconst X dX2_lettersShared_17 ic_1 ?_
  refine me_iadd X dX2_lettersShared_18 ?_
  obtain ⟨v3, e3, h⟩ := me_bd h
  refine me_callVi X [.int (v1 + 1)] (ctX2_lettersAlike_26 hn (Nat.le_trans (by decide) hnt) e3) kV_X2_62 rfl rfl (Nat.le_of_ble_eq_true rfl) me_k26 (Nat.le_of_ble_eq_true rfl) (Nat.le_refl _) (Nat.le_of_ble_eq_true rfl) dX2_lettersShared_19 ?_
  obtain ⟨v4, e4, h⟩ := me_bd h
  refine me_callSi X [.int v2, .int v3] (ctJ9_max_7cf53 hn (Nat.le_trans (by decide) hnt) e4) kS_X2_80 rfl rfl (Nat.le_of_ble_eq_true rfl) (Nat.le_refl _) (Nat.le_of_ble_eq_true rfl) dX2_lettersShared_22 ?_
  obtain rfl := me_so h
  exact me_iret X hr hlk dX2_lettersShared_25
def mX2_firstOfRepeat_26_L2 (M : me_M) (p0 : Int32) : (Int32) → Option ((Int32) ⊕ ((Unit) ⊕ Int32))
  | x2_1 => (if (M.1 3 5) ≤ x2_1 then some (.inr (.inl ())) else ((mX2_lettersShared_26 M x2_1).bind fun v1 => (if v1 < p0 then some (.inl (x2_1 + 1)) else some (.inr (.inr x2_1)))))
def mX2_firstOfRepeat_26 (M : me_M) (p0 : Int32) : Option Int32 :=
  ((me_l (mX2_firstOfRepeat_26_L2 M p0) me_fu 0).bind fun o => Sum.elim (fun _ => some (-1)) (fun res => some res) o)
set_option maxRecDepth 100000 in
set_option maxHeartbeats 4000000 in
theorem ctX2_firstOfRepeat_26 {l : Launch} {n nt : Nat} (hn : 63 ≤ n) (hnt : 1 ≤ nt) {M : me_M} {p0 : Int32} {r : Int32} (h : mX2_firstOfRepeat_26 M p0 = some r) : me_Ct l yX2_firstOfRepeat cX2_firstOfRepeat 3 (some .int) 3 n nt (fun ad => [.ref (ad 26), .int p0]) M (fun _ => some (.int r)) M := by
  unfold mX2_firstOfRepeat_26 at h
  refine me_enter (N0 := 63) RX2 rfl (plainFor_of_name pl_RX2) hn (Nat.le_trans (by decide) hnt) (fun _ => Nat.le_of_ble_eq_true rfl) ?_
  intro p e R s m args below meth c D cA ad tys A X hr hlk
  refine me_sub (L' := [(0, .ref (ad 26)), (1, .int p0)]) [0, 1] rfl ?_
  refine me_iconst X dX2_firstOfRepeat_0 ic_0 ?_
  refine me_istore_n X (i := 2) [(2, .int 0), (0, .ref (ad 26)), (1, .int p0)] (Nat.le_of_ble_eq_true rfl) rfl dX2_firstOfRepeat_1 ?_
  obtain ⟨o0, hq1l, hq1⟩ := me_bd h
  have hx1 : o0 = .inl () → me_W p l e R s m args below meth c 0 0 (MQ below (me_Qc D cA ad n A (some (.int r)) M) args s 0 0 A) D cA ad n 3 A 30 [] [] M := by
    intro q
    subst q
    have h := me_el hq1
    refine me_iconst X dX2_firstOfRepeat_30 ic_m1 ?_
    obtain rfl := me_so h
    exact me_iret X hr hlk dX2_firstOfRepeat_31
  refine me_sub (L' := [(0, .ref (ad 26)), (1, .int p0), (2, .int 0)]) [1, 2, 0] rfl ?_
  refine me_l_W (b := (mX2_firstOfRepeat_26_L2 M p0)) (P := fun w => me_W p l e R s m args below meth c 0 0 (MQ below (me_Qc D cA ad n A (some (.int r)) M) args s 0 0 A) D cA ad n 3 A 2 [(0, .ref (ad 26)), (1, .int p0), (2, .int w)] [] M) (r := o0) ?_ me_fu 0 hq1l
  rintro x2_1 z1 h hb1 - hr1
  unfold mX2_firstOfRepeat_26_L2 at h
  refine me_iload_n X (i := 2) 2 rfl dX2_firstOfRepeat_2 ?_
  refine me_aload_n X (i := 0) 0 rfl dX2_firstOfRepeat_3 ?_
  refine me_getr X 3 kF_X2_21 (Nat.le_of_ble_eq_true rfl) me_k26 me_f26_0 dX2_firstOfRepeat_4 ?_
  refine me_geti X kF_X2_29 (Nat.le_of_ble_eq_true rfl) me_k3 me_f3_5 dX2_firstOfRepeat_7 ?_
  refine me_icmp_ge X 30 (by decide) dX2_firstOfRepeat_10 (fun c1 => ?_) (fun c1 => ?_)
  · have h := me_ip c1 h
    obtain rfl := me_so h
    have q := hr1 _ rfl
    refine me_sub (L' := []) [] rfl ?_
    subst q
    exact hx1 rfl
  · have h := me_in c1 h
    refine me_aload_n X (i := 0) 0 rfl dX2_firstOfRepeat_13 ?_
    refine me_iload_n X (i := 2) 2 rfl dX2_firstOfRepeat_14 ?_
    obtain ⟨v1, e1, h⟩ := me_bd h
    refine me_callVi X [.int x2_1] (ctX2_lettersShared_26 hn (Nat.le_trans (by decide) hnt) e1) kV_X2_86 rfl rfl (Nat.le_of_ble_eq_true rfl) me_k26 (Nat.le_of_ble_eq_true rfl) (Nat.le_refl _) (Nat.le_of_ble_eq_true rfl) dX2_firstOfRepeat_15 ?_
    refine me_iload_n X (i := 1) 1 rfl dX2_firstOfRepeat_18 ?_
    refine me_icmp_lt X 24 (by decide) dX2_firstOfRepeat_19 (fun c2 => ?_) (fun c2 => ?_)
    · have h := me_ip c2 h
      refine me_iinc X (v := (x2_1 + 1)) 2 rfl (in_1 _) [(2, .int (x2_1 + 1)), (0, .ref (ad 26)), (1, .int p0)] (Nat.le_of_ble_eq_true rfl) rfl dX2_firstOfRepeat_24 ?_
      refine me_goto X 2 (by decide) dX2_firstOfRepeat_27 ?_
      obtain rfl := me_so h
      refine me_sub (L' := [(0, .ref (ad 26)), (1, .int p0), (2, .int (x2_1 + 1))]) [1, 2, 0] rfl ?_
      exact hb1 (x2_1 + 1) rfl
    · have h := me_in c2 h
      refine me_iload_n X (i := 2) 2 rfl dX2_firstOfRepeat_22 ?_
      obtain rfl := me_so h
      have q := hr1 _ rfl
      subst q
      have h : some x2_1 = some r := hq1
      obtain rfl := me_so h
      exact me_iret X hr hlk dX2_firstOfRepeat_23
def mX2_timesFrom_26_L23 (M : me_M) (p1 : Int32) (v1 : Int32) : (Int32 × Int32) → Option ((Int32 × Int32) ⊕ (Int32))
  | (x4_1, x5_1) => (if x5_1 ≤ 0 then some (.inr x4_1) else ((mX2_lettersAlike_26 M x5_1).bind fun v2 => (if v2 < p1 then some (.inr x4_1) else some (.inl ((x4_1 + 1), (x5_1 + (-1)))))))
def mX2_timesFrom_26_L52 (M : me_M) (p1 : Int32) : (Int32 × Int32) → Option ((Int32 × Int32) ⊕ (Int32))
  | (x4_2, x5_2) => (if (M.1 3 5) < x5_2 then some (.inr x4_2) else ((mX2_lettersAlike_26 M x5_2).bind fun v3 => (if v3 < p1 then some (.inr x4_2) else some (.inl ((x4_2 + 1), (x5_2 + 1))))))
def mX2_timesFrom_26 (M : me_M) (p0 : Int32) (p1 : Int32) : Option Int32 :=
  (if p0 = (-1) then some 0 else ((me_r M 11 241 p0).bind fun v1 => ((me_l (mX2_timesFrom_26_L23 M p1 v1) me_fu (1, v1)).bind fun y4_1 => ((me_l (mX2_timesFrom_26_L52 M p1) me_fu (y4_1, (v1 + 1))).bind fun y4_2 => some y4_2))))
set_option maxRecDepth 100000 in
set_option maxHeartbeats 4000000 in
theorem ctX2_timesFrom_26 {l : Launch} {n nt : Nat} (hn : 63 ≤ n) (hnt : 1 ≤ nt) {M : me_M} {p0 : Int32} {p1 : Int32} {r : Int32} (h : mX2_timesFrom_26 M p0 p1 = some r) : me_Ct l yX2_timesFrom cX2_timesFrom 6 (some .int) 2 n nt (fun ad => [.ref (ad 26), .int p0, .int p1]) M (fun _ => some (.int r)) M := by
  unfold mX2_timesFrom_26 at h
  refine me_enter (N0 := 63) RX2 rfl (plainFor_of_name pl_RX2) hn (Nat.le_trans (by decide) hnt) (fun _ => Nat.le_of_ble_eq_true rfl) ?_
  intro p e R s m args below meth c D cA ad tys A X hr hlk
  refine me_sub (L' := [(0, .ref (ad 26)), (1, .int p0), (2, .int p1)]) [0, 1, 2] rfl ?_
  refine me_iload_n X (i := 1) 1 rfl dX2_timesFrom_0 ?_
  refine me_iconst X dX2_timesFrom_1 ic_m1 ?_
  refine me_icmp_ne X 7 (by decide) dX2_timesFrom_2 (fun c1 => ?_) (fun c1 => ?_)
  · have h := me_in c1 h
    refine me_aload_n X (i := 0) 0 rfl dX2_timesFrom_7 ?_
    refine me_getr X 9 kF_X2_25 (Nat.le_of_ble_eq_true rfl) me_k26 me_f26_1 dX2_timesFrom_8 ?_
    refine me_getr X 11 kF_X2_83 (Nat.le_of_ble_eq_true rfl) me_k9 me_f9_2 dX2_timesFrom_11 ?_
    refine me_iload_n X (i := 1) 1 rfl dX2_timesFrom_14 ?_
    obtain ⟨v1, e1, h⟩ := me_bd h
    refine me_iald X (Nat.le_of_ble_eq_true rfl) me_k11 e1 dX2_timesFrom_15 ?_
    refine me_istore_n X (i := 3) [(3, .int v1), (0, .ref (ad 26)), (1, .int p0), (2, .int p1)] (Nat.le_of_ble_eq_true rfl) rfl dX2_timesFrom_16 ?_
    refine me_iconst X dX2_timesFrom_17 ic_1 ?_
    refine me_istore X (i := 4) [(4, .int 1), (3, .int v1), (0, .ref (ad 26)), (1, .int p0), (2, .int p1)] (Nat.le_of_ble_eq_true rfl) rfl dX2_timesFrom_18 ?_
    refine me_iload_n X (i := 3) 1 rfl dX2_timesFrom_20 ?_
    refine me_istore X (i := 5) [(5, .int v1), (4, .int 1), (3, .int v1), (0, .ref (ad 26)), (1, .int p0), (2, .int p1)] (Nat.le_of_ble_eq_true rfl) rfl dX2_timesFrom_21 ?_
    obtain ⟨y4_1, hq1, h⟩ := me_bd h
    have hx1 : me_W p l e R s m args below meth c 0 0 (MQ below (me_Qc D cA ad n A (some (.int r)) M) args s 0 0 A) D cA ad n 6 A 47 [(0, .ref (ad 26)), (2, .int p1), (3, .int v1), (4, .int y4_1)] [] M := by
      refine me_iload_n X (i := 3) 2 rfl dX2_timesFrom_47 ?_
      refine me_iconst X dX2_timesFrom_48 ic_1 ?_
      refine me_iadd X dX2_timesFrom_49 ?_
      refine me_istore X (i := 5) [(5, .int (v1 + 1)), (0, .ref (ad 26)), (2, .int p1), (3, .int v1), (4, .int y4_1)] (Nat.le_of_ble_eq_true rfl) rfl dX2_timesFrom_50 ?_
      obtain ⟨y4_2, hq2, h⟩ := me_bd h
      have hx2 : me_W p l e R s m args below meth c 0 0 (MQ below (me_Qc D cA ad n A (some (.int r)) M) args s 0 0 A) D cA ad n 6 A 83 [(4, .int y4_2)] [] M := by
        refine me_iload X (i := 4) 0 rfl dX2_timesFrom_83 ?_
        obtain rfl := me_so h
        exact me_iret X hr hlk dX2_timesFrom_85
      refine me_sub (L' := [(0, .ref (ad 26)), (2, .int p1), (4, .int y4_1), (5, .int (v1 + 1))]) [1, 2, 4, 0] rfl ?_
      refine me_l_W (b := (mX2_timesFrom_26_L52 M p1)) (P := fun w => me_W p l e R s m args below meth c 0 0 (MQ below (me_Qc D cA ad n A (some (.int r)) M) args s 0 0 A) D cA ad n 6 A 52 [(0, .ref (ad 26)), (2, .int p1), (4, .int w.1), (5, .int w.2)] [] M) (r := y4_2) ?_ me_fu (y4_1, (v1 + 1)) hq2
      rintro ⟨x4_2, x5_2⟩ z2 h hb2 - hr2
      unfold mX2_timesFrom_26_L52 at h
      refine me_iload X (i := 5) 3 rfl dX2_timesFrom_52 ?_
      refine me_aload_n X (i := 0) 0 rfl dX2_timesFrom_54 ?_
      refine me_getr X 3 kF_X2_21 (Nat.le_of_ble_eq_true rfl) me_k26 me_f26_0 dX2_timesFrom_55 ?_
      refine me_geti X kF_X2_29 (Nat.le_of_ble_eq_true rfl) me_k3 me_f3_5 dX2_timesFrom_58 ?_
      refine me_icmp_gt X 83 (by decide) dX2_timesFrom_61 (fun c4 => ?_) (fun c4 => ?_)
      · have h := me_ip c4 h
        obtain rfl := me_so h
        have q := hr2 _ rfl
        refine me_sub (L' := [(4, .int x4_2)]) [2] rfl ?_
        cases q
        exact hx2
      · have h := me_in c4 h
        refine me_aload_n X (i := 0) 0 rfl dX2_timesFrom_64 ?_
        refine me_iload X (i := 5) 3 rfl dX2_timesFrom_65 ?_
        obtain ⟨v3, e3, h⟩ := me_bd h
        refine me_callVi X [.int x5_2] (ctX2_lettersAlike_26 hn (Nat.le_trans (by decide) hnt) e3) kV_X2_62 rfl rfl (Nat.le_of_ble_eq_true rfl) me_k26 (Nat.le_of_ble_eq_true rfl) (Nat.le_refl _) (Nat.le_of_ble_eq_true rfl) dX2_timesFrom_67 ?_
        refine me_iload_n X (i := 2) 1 rfl dX2_timesFrom_70 ?_
        refine me_icmp_lt X 83 (by decide) dX2_timesFrom_71 (fun c5 => ?_) (fun c5 => ?_)
        · have h := me_ip c5 h
          obtain rfl := me_so h
          have q := hr2 _ rfl
          refine me_sub (L' := [(4, .int x4_2)]) [2] rfl ?_
          cases q
          exact hx2
        · have h := me_in c5 h
          refine me_iinc X (v := (x4_2 + 1)) 2 rfl (in_1 _) [(4, .int (x4_2 + 1)), (0, .ref (ad 26)), (2, .int p1), (5, .int x5_2)] (Nat.le_of_ble_eq_true rfl) rfl dX2_timesFrom_74 ?_
          refine me_iinc X (v := (x5_2 + 1)) 3 rfl (in_1 _) [(5, .int (x5_2 + 1)), (4, .int (x4_2 + 1)), (0, .ref (ad 26)), (2, .int p1)] (Nat.le_of_ble_eq_true rfl) rfl dX2_timesFrom_77 ?_
          refine me_goto X 52 (by decide) dX2_timesFrom_80 ?_
          obtain rfl := me_so h
          refine me_sub (L' := [(0, .ref (ad 26)), (2, .int p1), (4, .int (x4_2 + 1)), (5, .int (x5_2 + 1))]) [2, 3, 1, 0] rfl ?_
          exact hb2 ((x4_2 + 1), (x5_2 + 1)) rfl
    refine me_sub (L' := [(0, .ref (ad 26)), (2, .int p1), (3, .int v1), (4, .int 1), (5, .int v1)]) [3, 5, 2, 1, 0] rfl ?_
    refine me_l_W (b := (mX2_timesFrom_26_L23 M p1 v1)) (P := fun w => me_W p l e R s m args below meth c 0 0 (MQ below (me_Qc D cA ad n A (some (.int r)) M) args s 0 0 A) D cA ad n 6 A 23 [(0, .ref (ad 26)), (2, .int p1), (3, .int v1), (4, .int w.1), (5, .int w.2)] [] M) (r := y4_1) ?_ me_fu (1, v1) hq1
    rintro ⟨x4_1, x5_1⟩ z1 h hb1 - hr1
    unfold mX2_timesFrom_26_L23 at h
    refine me_iload X (i := 5) 4 rfl dX2_timesFrom_23 ?_
    refine me_if_le X 47 (by decide) dX2_timesFrom_25 (fun c2 => ?_) (fun c2 => ?_)
    · have h := me_ip c2 h
      obtain rfl := me_so h
      have q := hr1 _ rfl
      refine me_sub (L' := [(0, .ref (ad 26)), (2, .int p1), (3, .int v1), (4, .int x4_1)]) [0, 1, 2, 3] rfl ?_
      cases q
      exact hx1
    · have h := me_in c2 h
      refine me_aload_n X (i := 0) 0 rfl dX2_timesFrom_28 ?_
      refine me_iload X (i := 5) 4 rfl dX2_timesFrom_29 ?_
      obtain ⟨v2, e2, h⟩ := me_bd h
      refine me_callVi X [.int x5_1] (ctX2_lettersAlike_26 hn (Nat.le_trans (by decide) hnt) e2) kV_X2_62 rfl rfl (Nat.le_of_ble_eq_true rfl) me_k26 (Nat.le_of_ble_eq_true rfl) (Nat.le_refl _) (Nat.le_of_ble_eq_true rfl) dX2_timesFrom_31 ?_
      refine me_iload_n X (i := 2) 1 rfl dX2_timesFrom_34 ?_
      refine me_icmp_lt X 47 (by decide) dX2_timesFrom_35 (fun c3 => ?_) (fun c3 => ?_)
      · have h := me_ip c3 h
        obtain rfl := me_so h
        have q := hr1 _ rfl
        refine me_sub (L' := [(0, .ref (ad 26)), (2, .int p1), (3, .int v1), (4, .int x4_1)]) [0, 1, 2, 3] rfl ?_
        cases q
        exact hx1
      · have h := me_in c3 h
        refine me_iinc X (v := (x4_1 + 1)) 3 rfl (in_1 _) [(4, .int (x4_1 + 1)), (0, .ref (ad 26)), (2, .int p1), (3, .int v1), (5, .int x5_1)] (Nat.le_of_ble_eq_true rfl) rfl dX2_timesFrom_38 ?_
        refine me_iinc X (v := (x5_1 + (-1))) 4 rfl (in_m1 _) [(5, .int (x5_1 + (-1))), (4, .int (x4_1 + 1)), (0, .ref (ad 26)), (2, .int p1), (3, .int v1)] (Nat.le_of_ble_eq_true rfl) rfl dX2_timesFrom_41 ?_
        refine me_goto X 23 (by decide) dX2_timesFrom_44 ?_
        obtain rfl := me_so h
        refine me_sub (L' := [(0, .ref (ad 26)), (2, .int p1), (3, .int v1), (4, .int (x4_1 + 1)), (5, .int (x5_1 + (-1)))]) [2, 3, 4, 1, 0] rfl ?_
        exact hb1 ((x4_1 + 1), (x5_1 + (-1))) rfl
  · have h := me_ip c1 h
    refine me_iconst X dX2_timesFrom_5 ic_0 ?_
    obtain rfl := me_so h
    exact me_iret X hr hlk dX2_timesFrom_6
def mX2_lettersAlone_26 (M : me_M) (p0 : Int32) : Option Int32 :=
  ((mX2_lettersShared_26 M p0).bind fun v1 => ((me_r M 6 241 p0).bind fun v2 => (if v2 < (v1 + 1) then some (-1) else some (v1 + 1))))
set_option maxRecDepth 100000 in
set_option maxHeartbeats 4000000 in
theorem ctX2_lettersAlone_26 {l : Launch} {n nt : Nat} (hn : 63 ≤ n) (hnt : 1 ≤ nt) {M : me_M} {p0 : Int32} {r : Int32} (h : mX2_lettersAlone_26 M p0 = some r) : me_Ct l yX2_lettersAlone cX2_lettersAlone 3 (some .int) 3 n nt (fun ad => [.ref (ad 26), .int p0]) M (fun _ => some (.int r)) M := by
  unfold mX2_lettersAlone_26 at h
  refine me_enter (N0 := 63) RX2 rfl (plainFor_of_name pl_RX2) hn (Nat.le_trans (by decide) hnt) (fun _ => Nat.le_of_ble_eq_true rfl) ?_
  intro p e R s m args below meth c D cA ad tys A X hr hlk
  refine me_sub (L' := [(0, .ref (ad 26)), (1, .int p0)]) [0, 1] rfl ?_
  refine me_aload_n X (i := 0) 0 rfl dX2_lettersAlone_0 ?_
  refine me_iload_n X (i := 1) 1 rfl dX2_lettersAlone_1 ?_
  obtain ⟨v1, e1, h⟩ := me_bd h
  refine me_callVi X [.int p0] (ctX2_lettersShared_26 hn (Nat.le_trans (by decide) hnt) e1) kV_X2_86 rfl rfl (Nat.le_of_ble_eq_true rfl) me_k26 (Nat.le_of_ble_eq_true rfl) (Nat.le_refl _) (Nat.le_of_ble_eq_true rfl) dX2_lettersAlone_2 ?_
  refine me_iconst X dX2_lettersAlone_5 ic_1 ?_
  refine me_iadd X dX2_lettersAlone_6 ?_
  refine me_istore_n X (i := 2) [(2, .int (v1 + 1)), (0, .ref (ad 26)), (1, .int p0)] (Nat.le_of_ble_eq_true rfl) rfl dX2_lettersAlone_7 ?_
  refine me_iload_n X (i := 2) 0 rfl dX2_lettersAlone_8 ?_
  refine me_aload_n X (i := 0) 1 rfl dX2_lettersAlone_9 ?_
  refine me_getr X 3 kF_X2_21 (Nat.le_of_ble_eq_true rfl) me_k26 me_f26_0 dX2_lettersAlone_10 ?_
  refine me_getr X 6 kF_X2_40 (Nat.le_of_ble_eq_true rfl) me_k3 me_f3_2 dX2_lettersAlone_13 ?_
  refine me_iload_n X (i := 1) 2 rfl dX2_lettersAlone_16 ?_
  obtain ⟨v2, e2, h⟩ := me_bd h
  refine me_iald X (Nat.le_of_ble_eq_true rfl) me_k6 e2 dX2_lettersAlone_17 ?_
  refine me_icmp_gt X 25 (by decide) dX2_lettersAlone_18 (fun c1 => ?_) (fun c1 => ?_)
  · have h := me_ip c1 h
    refine me_iconst X dX2_lettersAlone_25 ic_m1 ?_
    obtain rfl := me_so h
    exact me_iret X hr hlk dX2_lettersAlone_26
  · have h := me_in c1 h
    refine me_iload_n X (i := 2) 0 rfl dX2_lettersAlone_21 ?_
    refine me_goto X 26 (by decide) dX2_lettersAlone_22 ?_
    obtain rfl := me_so h
    exact me_iret X hr hlk dX2_lettersAlone_26
def mX2_lettersAround_26_J32 (M : me_M)  : Option Int32 :=
  some (-1)
def mX2_lettersAround_26 (M : me_M) (p0 : Int32) (p1 : Int32) : Option Int32 :=
  ((mX2_lettersAlone_26 M p0).bind fun v1 => (if v1 = (-1) then (mX2_lettersAround_26_J32 M ) else ((me_r M 6 241 p0).bind fun v2 => (if ((p1 - p0) + 1) ≤ v2 then ((mJ9_max_7cf53 v1 ((p1 - p0) + 1)).bind fun v3 => some v3) else (mX2_lettersAround_26_J32 M )))))
set_option maxRecDepth 100000 in
set_option maxHeartbeats 4000000 in
theorem ctX2_lettersAround_26 {l : Launch} {n nt : Nat} (hn : 63 ≤ n) (hnt : 1 ≤ nt) {M : me_M} {p0 : Int32} {p1 : Int32} {r : Int32} (h : mX2_lettersAround_26 M p0 p1 = some r) : me_Ct l yX2_lettersAround cX2_lettersAround 5 (some .int) 4 n nt (fun ad => [.ref (ad 26), .int p0, .int p1]) M (fun _ => some (.int r)) M := by
  unfold mX2_lettersAround_26 at h
  refine me_enter (N0 := 63) RX2 rfl (plainFor_of_name pl_RX2) hn (Nat.le_trans (by decide) hnt) (fun _ => Nat.le_of_ble_eq_true rfl) ?_
  intro p e R s m args below meth c D cA ad tys A X hr hlk
  refine me_sub (L' := [(0, .ref (ad 26)), (1, .int p0), (2, .int p1)]) [0, 1, 2] rfl ?_
  refine me_aload_n X (i := 0) 0 rfl dX2_lettersAround_0 ?_
  refine me_iload_n X (i := 1) 1 rfl dX2_lettersAround_1 ?_
  obtain ⟨v1, e1, h⟩ := me_bd h
  refine me_callVi X [.int p0] (ctX2_lettersAlone_26 hn (Nat.le_trans (by decide) hnt) e1) kV_X2_89 rfl rfl (Nat.le_of_ble_eq_true rfl) me_k26 (Nat.le_of_ble_eq_true rfl) (Nat.le_refl _) (Nat.le_of_ble_eq_true rfl) dX2_lettersAround_2 ?_
  refine me_istore_n X (i := 3) [(3, .int v1), (0, .ref (ad 26)), (1, .int p0), (2, .int p1)] (Nat.le_of_ble_eq_true rfl) rfl dX2_lettersAround_5 ?_
  refine me_iload_n X (i := 2) 3 rfl dX2_lettersAround_6 ?_
  refine me_iload_n X (i := 1) 2 rfl dX2_lettersAround_7 ?_
  refine me_isub X dX2_lettersAround_8 ?_
  refine me_iconst X dX2_lettersAround_9 ic_1 ?_
  refine me_iadd X dX2_lettersAround_10 ?_
  refine me_istore X (i := 4) [(4, .int ((p1 - p0) + 1)), (3, .int v1), (0, .ref (ad 26)), (1, .int p0), (2, .int p1)] (Nat.le_of_ble_eq_true rfl) rfl dX2_lettersAround_11 ?_
  refine me_iload_n X (i := 3) 1 rfl dX2_lettersAround_13 ?_
  refine me_iconst X dX2_lettersAround_14 ic_m1 ?_
  have hj32_1 : mX2_lettersAround_26_J32 M  = some r → me_W p l e R s m args below meth c 0 0 (MQ below (me_Qc D cA ad n A (some (.int r)) M) args s 0 0 A) D cA ad n 5 A 32 [] [] M := by
    intro h
    unfold mX2_lettersAround_26_J32 at h
    refine me_iconst X dX2_lettersAround_32 ic_m1 ?_
    refine me_goto X 42 (by decide) dX2_lettersAround_33 ?_
    obtain rfl := me_so h
    exact me_iret X hr hlk dX2_lettersAround_42
  refine me_icmp_eq X 32 (by decide) dX2_lettersAround_15 (fun c1 => ?_) (fun c1 => ?_)
  · have h := me_ip c1 h
    refine me_sub (L' := []) [] rfl ?_
    exact hj32_1  h
  · have h := me_in c1 h
    refine me_iload X (i := 4) 0 rfl dX2_lettersAround_18 ?_
    refine me_aload_n X (i := 0) 2 rfl dX2_lettersAround_20 ?_
    refine me_getr X 3 kF_X2_21 (Nat.le_of_ble_eq_true rfl) me_k26 me_f26_0 dX2_lettersAround_21 ?_
    refine me_getr X 6 kF_X2_40 (Nat.le_of_ble_eq_true rfl) me_k3 me_f3_2 dX2_lettersAround_24 ?_
    refine me_iload_n X (i := 1) 3 rfl dX2_lettersAround_27 ?_
    obtain ⟨v2, e2, h⟩ := me_bd h
    refine me_iald X (Nat.le_of_ble_eq_true rfl) me_k6 e2 dX2_lettersAround_28 ?_
    refine me_icmp_le X 36 (by decide) dX2_lettersAround_29 (fun c2 => ?_) (fun c2 => ?_)
    · have h := me_ip c2 h
      refine me_iload_n X (i := 3) 1 rfl dX2_lettersAround_36 ?_
      refine me_iload X (i := 4) 0 rfl dX2_lettersAround_37 ?_
      obtain ⟨v3, e3, h⟩ := me_bd h
      refine me_callSi X [.int v1, .int ((p1 - p0) + 1)] (ctJ9_max_7cf53 hn (Nat.le_trans (by decide) hnt) e3) kS_X2_80 rfl rfl (Nat.le_of_ble_eq_true rfl) (Nat.le_refl _) (Nat.le_of_ble_eq_true rfl) dX2_lettersAround_39 ?_
      obtain rfl := me_so h
      exact me_iret X hr hlk dX2_lettersAround_42
    · have h := me_in c2 h
      refine me_sub (L' := []) [] rfl ?_
      exact hj32_1  h
def mX2_startAround_26_J42 (p0 : Int32) (x4_1 : Int32) (M : me_M) (x2_2 : Int32) (x3_2 : Int32) : Option ((Int32 × Int32 × Int32) ⊕ (Int32)) :=
  some (.inl (x2_2, x3_2, (x4_1 + 1)))
def mX2_startAround_26_L9 (M : me_M) (p0 : Int32) : (Int32 × Int32 × Int32) → Option ((Int32 × Int32 × Int32) ⊕ (Int32))
  | (x2_1, x3_1, x4_1) => (if p0 < x4_1 then some (.inr x2_1) else ((mX2_lettersAround_26 M x4_1 p0).bind fun v1 => (if v1 = (-1) then (mX2_startAround_26_J42 p0 x4_1 M x2_1 x3_1) else (if x3_1 ≤ v1 then (mX2_startAround_26_J42 p0 x4_1 M x2_1 x3_1) else (mX2_startAround_26_J42 p0 x4_1 M x4_1 v1)))))
def mX2_startAround_26 (M : me_M) (p0 : Int32) : Option Int32 :=
  ((me_l (mX2_startAround_26_L9 M p0) me_fu ((-1), 241, 0)).bind fun y2_1 => some y2_1)
set_option maxRecDepth 100000 in
set_option maxHeartbeats 4000000 in
theorem ctX2_startAround_26 {l : Launch} {n nt : Nat} (hn : 63 ≤ n) (hnt : 1 ≤ nt) {M : me_M} {p0 : Int32} {r : Int32} (h : mX2_startAround_26 M p0 = some r) : me_Ct l yX2_startAround cX2_startAround 6 (some .int) 5 n nt (fun ad => [.ref (ad 26), .int p0]) M (fun _ => some (.int r)) M := by
  unfold mX2_startAround_26 at h
  refine me_enter (N0 := 63) RX2 rfl (plainFor_of_name pl_RX2) hn (Nat.le_trans (by decide) hnt) (fun _ => Nat.le_of_ble_eq_true rfl) ?_
  intro p e R s m args below meth c D cA ad tys A X hr hlk
  refine me_sub (L' := [(0, .ref (ad 26)), (1, .int p0)]) [0, 1] rfl ?_
  refine me_iconst X dX2_startAround_0 ic_m1 ?_
  refine me_istore_n X (i := 2) [(2, .int (-1)), (0, .ref (ad 26)), (1, .int p0)] (Nat.le_of_ble_eq_true rfl) rfl dX2_startAround_1 ?_
  refine me_sipush X dX2_startAround_2 is_241 ?_
  refine me_istore_n X (i := 3) [(3, .int 241), (2, .int (-1)), (0, .ref (ad 26)), (1, .int p0)] (Nat.le_of_ble_eq_true rfl) rfl dX2_startAround_5 ?_
  refine me_iconst X dX2_startAround_6 ic_0 ?_
  refine me_istore X (i := 4) [(4, .int 0), (3, .int 241), (2, .int (-1)), (0, .ref (ad 26)), (1, .int p0)] (Nat.le_of_ble_eq_true rfl) rfl dX2_startAround_7 ?_
  obtain ⟨y2_1, hq1, h⟩ := me_bd h
  have hx1 : me_W p l e R s m args below meth c 0 0 (MQ below (me_Qc D cA ad n A (some (.int r)) M) args s 0 0 A) D cA ad n 6 A 48 [(2, .int y2_1)] [] M := by
    refine me_iload_n X (i := 2) 0 rfl dX2_startAround_48 ?_
    obtain rfl := me_so h
    exact me_iret X hr hlk dX2_startAround_49
  refine me_sub (L' := [(0, .ref (ad 26)), (1, .int p0), (2, .int (-1)), (3, .int 241), (4, .int 0)]) [3, 4, 2, 1, 0] rfl ?_
  refine me_l_W (b := (mX2_startAround_26_L9 M p0)) (P := fun w => me_W p l e R s m args below meth c 0 0 (MQ below (me_Qc D cA ad n A (some (.int r)) M) args s 0 0 A) D cA ad n 6 A 9 [(0, .ref (ad 26)), (1, .int p0), (2, .int w.1), (3, .int w.2.1), (4, .int w.2.2)] [] M) (r := y2_1) ?_ me_fu ((-1), 241, 0) hq1
  rintro ⟨x2_1, x3_1, x4_1⟩ z1 h hb1 - hr1
  unfold mX2_startAround_26_L9 at h
  refine me_iload X (i := 4) 4 rfl dX2_startAround_9 ?_
  refine me_iload_n X (i := 1) 1 rfl dX2_startAround_11 ?_
  refine me_icmp_gt X 48 (by decide) dX2_startAround_12 (fun c1 => ?_) (fun c1 => ?_)
  · have h := me_ip c1 h
    obtain rfl := me_so h
    have q := hr1 _ rfl
    refine me_sub (L' := [(2, .int x2_1)]) [2] rfl ?_
    cases q
    exact hx1
  · have h := me_in c1 h
    refine me_aload_n X (i := 0) 0 rfl dX2_startAround_15 ?_
    refine me_iload X (i := 4) 4 rfl dX2_startAround_16 ?_
    refine me_iload_n X (i := 1) 1 rfl dX2_startAround_18 ?_
    obtain ⟨v1, e1, h⟩ := me_bd h
    refine me_callVi X [.int x4_1, .int p0] (ctX2_lettersAround_26 hn (Nat.le_trans (by decide) hnt) e1) kV_X2_92 rfl rfl (Nat.le_of_ble_eq_true rfl) me_k26 (Nat.le_of_ble_eq_true rfl) (Nat.le_refl _) (Nat.le_of_ble_eq_true rfl) dX2_startAround_19 ?_
    refine me_istore X (i := 5) [(5, .int v1), (0, .ref (ad 26)), (1, .int p0), (2, .int x2_1), (3, .int x3_1), (4, .int x4_1)] (Nat.le_of_ble_eq_true rfl) rfl dX2_startAround_22 ?_
    refine me_iload X (i := 5) 0 rfl dX2_startAround_24 ?_
    refine me_iconst X dX2_startAround_26 ic_m1 ?_
    have hj42_1 : ∀ (x2_2 : Int32) (x3_2 : Int32), mX2_startAround_26_J42 p0 x4_1 M x2_2 x3_2 = some z1 → me_W p l e R s m args below meth c 0 0 (MQ below (me_Qc D cA ad n A (some (.int r)) M) args s 0 0 A) D cA ad n 6 A 42 [(0, .ref (ad 26)), (1, .int p0), (2, .int x2_2), (3, .int x3_2), (4, .int x4_1)] [] M := by
      intro x2_2 x3_2 h
      unfold mX2_startAround_26_J42 at h
      refine me_iinc X (v := (x4_1 + 1)) 4 rfl (in_1 _) [(4, .int (x4_1 + 1)), (0, .ref (ad 26)), (1, .int p0), (2, .int x2_2), (3, .int x3_2)] (Nat.le_of_ble_eq_true rfl) rfl dX2_startAround_42 ?_
      refine me_goto X 9 (by decide) dX2_startAround_45 ?_
      obtain rfl := me_so h
      refine me_sub (L' := [(0, .ref (ad 26)), (1, .int p0), (2, .int x2_2), (3, .int x3_2), (4, .int (x4_1 + 1))]) [1, 2, 3, 4, 0] rfl ?_
      exact hb1 (x2_2, x3_2, (x4_1 + 1)) rfl
    refine me_icmp_eq X 42 (by decide) dX2_startAround_27 (fun c2 => ?_) (fun c2 => ?_)
    · have h := me_ip c2 h
      refine me_sub (L' := [(0, .ref (ad 26)), (1, .int p0), (2, .int x2_1), (3, .int x3_1), (4, .int x4_1)]) [1, 2, 3, 4, 5] rfl ?_
      exact hj42_1 x2_1 x3_1 h
    · have h := me_in c2 h
      refine me_iload X (i := 5) 0 rfl dX2_startAround_30 ?_
      refine me_iload_n X (i := 3) 4 rfl dX2_startAround_32 ?_
      refine me_icmp_ge X 42 (by decide) dX2_startAround_33 (fun c3 => ?_) (fun c3 => ?_)
      · have h := me_ip c3 h
        refine me_sub (L' := [(0, .ref (ad 26)), (1, .int p0), (2, .int x2_1), (3, .int x3_1), (4, .int x4_1)]) [1, 2, 3, 4, 5] rfl ?_
        exact hj42_1 x2_1 x3_1 h
      · have h := me_in c3 h
        refine me_iload X (i := 5) 0 rfl dX2_startAround_36 ?_
        refine me_istore_n X (i := 3) [(3, .int v1), (5, .int v1), (0, .ref (ad 26)), (1, .int p0), (2, .int x2_1), (4, .int x4_1)] (Nat.le_of_ble_eq_true rfl) rfl dX2_startAround_38 ?_
        refine me_iload X (i := 4) 5 rfl dX2_startAround_39 ?_
        refine me_istore_n X (i := 2) [(2, .int x4_1), (3, .int v1), (5, .int v1), (0, .ref (ad 26)), (1, .int p0), (4, .int x4_1)] (Nat.le_of_ble_eq_true rfl) rfl dX2_startAround_41 ?_
        refine me_sub (L' := [(0, .ref (ad 26)), (1, .int p0), (2, .int x4_1), (3, .int v1), (4, .int x4_1)]) [3, 4, 0, 1, 5] rfl ?_
        exact hj42_1 x4_1 v1 h
def mX8_beginReading_30_L2  : (Int32 × me_M) → Option ((Int32 × me_M) ⊕ (me_M))
  | (x1_1, M1) => (if (M1.1 3 5) < x1_1 then some (.inr M1) else ((me_t M1 31 241 x1_1 0).bind fun M2 => some (.inl ((x1_1 + 1), M2))))
def mX8_beginReading_30 (M : me_M)  : Option me_M :=
  ((me_l mX8_beginReading_30_L2 me_fu (0, M)).bind fun M3 => some M3)
set_option maxRecDepth 100000 in
set_option maxHeartbeats 4000000 in
theorem ctX8_beginReading_30 {l : Launch} {n nt : Nat} (hn : 63 ≤ n) (hnt : 1 ≤ nt) {M : me_M} {M' : me_M} (h : mX8_beginReading_30 M = some M') : me_Ct l yX8_beginReading cX8_beginReading 2 none 0 n nt (fun ad => [.ref (ad 30)]) M (fun _ => none) M' := by
  unfold mX8_beginReading_30 at h
  refine me_enter (N0 := 63) RX8 rfl (plainFor_of_name pl_RX8) hn (Nat.le_trans (by decide) hnt) (fun _ => Nat.le_of_ble_eq_true rfl) ?_
  intro p e R s m args below meth c D cA ad tys A X hr hlk
  refine me_sub (L' := [(0, .ref (ad 30))]) [0] rfl ?_
  refine me_iconst X dX8_beginReading_0 ic_0 ?_
  refine me_istore_n X (i := 1) [(1, .int 0), (0, .ref (ad 30))] (Nat.le_of_ble_eq_true rfl) rfl dX8_beginReading_1 ?_
  obtain ⟨M3, hq1, h⟩ := me_bd h
  have hx1 : me_W p l e R s m args below meth c 0 0 (MQ below (me_Qc D cA ad n A none M') args s 0 0 A) D cA ad n 2 A 26 [] [] M3 := by
    obtain rfl := me_so h
    exact me_vret X hr hlk dX8_beginReading_26
  refine me_sub (L' := [(0, .ref (ad 30)), (1, .int 0)]) [1, 0] rfl ?_
  refine me_l_W (b := mX8_beginReading_30_L2) (P := fun w => me_W p l e R s m args below meth c 0 0 (MQ below (me_Qc D cA ad n A none M') args s 0 0 A) D cA ad n 2 A 2 [(0, .ref (ad 30)), (1, .int w.1)] [] w.2) (r := M3) ?_ me_fu (0, M) hq1
  rintro ⟨x1_1, M1⟩ z1 h hb1 - hr1
  unfold mX8_beginReading_30_L2 at h
  refine me_iload_n X (i := 1) 1 rfl dX8_beginReading_2 ?_
  refine me_aload_n X (i := 0) 0 rfl dX8_beginReading_3 ?_
  refine me_getr X 3 kF_X8_27 (Nat.le_of_ble_eq_true rfl) me_k30 me_f30_0 dX8_beginReading_4 ?_
  refine me_geti X kF_X8_31 (Nat.le_of_ble_eq_true rfl) me_k3 me_f3_5 dX8_beginReading_7 ?_
  refine me_icmp_gt X 26 (by decide) dX8_beginReading_10 (fun c1 => ?_) (fun c1 => ?_)
  · have h := me_ip c1 h
    obtain rfl := me_so h
    have q := hr1 _ rfl
    refine me_sub (L' := []) [] rfl ?_
    cases q
    exact hx1
  · have h := me_in c1 h
    refine me_aload_n X (i := 0) 0 rfl dX8_beginReading_13 ?_
    refine me_getr X 31 kF_X8_9 (Nat.le_of_ble_eq_true rfl) me_k30 me_f30_1 dX8_beginReading_14 ?_
    refine me_iload_n X (i := 1) 1 rfl dX8_beginReading_17 ?_
    refine me_iconst X dX8_beginReading_18 ic_0 ?_
    obtain ⟨M2, e1, h⟩ := me_bd h
    refine me_iast X (Nat.le_of_ble_eq_true rfl) me_k31 e1 dX8_beginReading_19 ?_
    refine me_iinc X (v := (x1_1 + 1)) 1 rfl (in_1 _) [(1, .int (x1_1 + 1)), (0, .ref (ad 30))] (Nat.le_of_ble_eq_true rfl) rfl dX8_beginReading_20 ?_
    refine me_goto X 2 (by decide) dX8_beginReading_23 ?_
    obtain rfl := me_so h
    refine me_sub (L' := [(0, .ref (ad 30)), (1, .int (x1_1 + 1))]) [1, 0] rfl ?_
    exact hb1 ((x1_1 + 1), M2) rfl
def mX8_readAhead_30_J45 (p0 : Int32) (x2_1 : Int32) (M1 : me_M) (s1 : Int32) : Option ((Int32 × me_M) ⊕ (me_M)) :=
  ((me_t M1 31 241 x2_1 s1).bind fun M2 => some (.inl ((x2_1 + 1), M2)))
def mX8_readAhead_30_L2 (p0 : Int32) : (Int32 × me_M) → Option ((Int32 × me_M) ⊕ (me_M))
  | (x2_1, M1) => (if (M1.1 3 5) ≤ x2_1 then some (.inr M1) else ((me_r M1 4 241 x2_1).bind fun v1 => (if v1 = p0 then ((me_r M1 31 241 (x2_1 + 1)).bind fun v2 => (mX8_readAhead_30_J45 p0 x2_1 M1 (v2 + 1))) else (mX8_readAhead_30_J45 p0 x2_1 M1 0))))
def mX8_readAhead_30 (M : me_M) (p0 : Int32) : Option me_M :=
  ((me_l (mX8_readAhead_30_L2 p0) me_fu (0, M)).bind fun M3 => some M3)
set_option maxRecDepth 100000 in
set_option maxHeartbeats 4000000 in
theorem ctX8_readAhead_30 {l : Launch} {n nt : Nat} (hn : 63 ≤ n) (hnt : 1 ≤ nt) {M : me_M} {p0 : Int32} {M' : me_M} (h : mX8_readAhead_30 M p0 = some M') : me_Ct l yX8_readAhead cX8_readAhead 3 none 0 n nt (fun ad => [.ref (ad 30), .int p0]) M (fun _ => none) M' := by
  unfold mX8_readAhead_30 at h
  refine me_enter (N0 := 63) RX8 rfl (plainFor_of_name pl_RX8) hn (Nat.le_trans (by decide) hnt) (fun _ => Nat.le_of_ble_eq_true rfl) ?_
  intro p e R s m args below meth c D cA ad tys A X hr hlk
  refine me_sub (L' := [(0, .ref (ad 30)), (1, .int p0)]) [0, 1] rfl ?_
  refine me_iconst X dX8_readAhead_0 ic_0 ?_
  refine me_istore_n X (i := 2) [(2, .int 0), (0, .ref (ad 30)), (1, .int p0)] (Nat.le_of_ble_eq_true rfl) rfl dX8_readAhead_1 ?_
  obtain ⟨M3, hq1, h⟩ := me_bd h
  have hx1 : me_W p l e R s m args below meth c 0 0 (MQ below (me_Qc D cA ad n A none M') args s 0 0 A) D cA ad n 3 A 52 [] [] M3 := by
    obtain rfl := me_so h
    exact me_vret X hr hlk dX8_readAhead_52
  refine me_sub (L' := [(0, .ref (ad 30)), (1, .int p0), (2, .int 0)]) [1, 2, 0] rfl ?_
  refine me_l_W (b := (mX8_readAhead_30_L2 p0)) (P := fun w => me_W p l e R s m args below meth c 0 0 (MQ below (me_Qc D cA ad n A none M') args s 0 0 A) D cA ad n 3 A 2 [(0, .ref (ad 30)), (1, .int p0), (2, .int w.1)] [] w.2) (r := M3) ?_ me_fu (0, M) hq1
  rintro ⟨x2_1, M1⟩ z1 h hb1 - hr1
  unfold mX8_readAhead_30_L2 at h
  refine me_iload_n X (i := 2) 2 rfl dX8_readAhead_2 ?_
  refine me_aload_n X (i := 0) 0 rfl dX8_readAhead_3 ?_
  refine me_getr X 3 kF_X8_27 (Nat.le_of_ble_eq_true rfl) me_k30 me_f30_0 dX8_readAhead_4 ?_
  refine me_geti X kF_X8_31 (Nat.le_of_ble_eq_true rfl) me_k3 me_f3_5 dX8_readAhead_7 ?_
  refine me_icmp_ge X 52 (by decide) dX8_readAhead_10 (fun c1 => ?_) (fun c1 => ?_)
  · have h := me_ip c1 h
    obtain rfl := me_so h
    have q := hr1 _ rfl
    refine me_sub (L' := []) [] rfl ?_
    cases q
    exact hx1
  · have h := me_in c1 h
    refine me_aload_n X (i := 0) 0 rfl dX8_readAhead_13 ?_
    refine me_getr X 31 kF_X8_9 (Nat.le_of_ble_eq_true rfl) me_k30 me_f30_1 dX8_readAhead_14 ?_
    refine me_iload_n X (i := 2) 2 rfl dX8_readAhead_17 ?_
    refine me_aload_n X (i := 0) 0 rfl dX8_readAhead_18 ?_
    refine me_getr X 3 kF_X8_27 (Nat.le_of_ble_eq_true rfl) me_k30 me_f30_0 dX8_readAhead_19 ?_
    refine me_getr X 4 kF_X8_37 (Nat.le_of_ble_eq_true rfl) me_k3 me_f3_0 dX8_readAhead_22 ?_
    refine me_iload_n X (i := 2) 2 rfl dX8_readAhead_25 ?_
    obtain ⟨v1, e1, h⟩ := me_bd h
    refine me_iald X (Nat.le_of_ble_eq_true rfl) me_k4 e1 dX8_readAhead_26 ?_
    refine me_iload_n X (i := 1) 1 rfl dX8_readAhead_27 ?_
    have hj45_1 : ∀ (s1 : Int32), mX8_readAhead_30_J45 p0 x2_1 M1 s1 = some z1 → me_W p l e R s m args below meth c 0 0 (MQ below (me_Qc D cA ad n A none M') args s 0 0 A) D cA ad n 3 A 45 [(0, .ref (ad 30)), (1, .int p0), (2, .int x2_1)] [.int s1, .int x2_1, .ref (ad 31)] M1 := by
      intro s1 h
      unfold mX8_readAhead_30_J45 at h
      obtain ⟨M2, e3, h⟩ := me_bd h
      refine me_iast X (Nat.le_of_ble_eq_true rfl) me_k31 e3 dX8_readAhead_45 ?_
      refine me_iinc X (v := (x2_1 + 1)) 2 rfl (in_1 _) [(2, .int (x2_1 + 1)), (0, .ref (ad 30)), (1, .int p0)] (Nat.le_of_ble_eq_true rfl) rfl dX8_readAhead_46 ?_
      refine me_goto X 2 (by decide) dX8_readAhead_49 ?_
      obtain rfl := me_so h
      refine me_sub (L' := [(0, .ref (ad 30)), (1, .int p0), (2, .int (x2_1 + 1))]) [1, 2, 0] rfl ?_
      exact hb1 ((x2_1 + 1), M2) rfl
    refine me_icmp_ne X 44 (by decide) dX8_readAhead_28 (fun c2 => ?_) (fun c2 => ?_)
    · have h := me_in c2 h
      refine me_iconst X dX8_readAhead_44 ic_0 ?_
      exact hj45_1 0 h
    · have h := me_ip c2 h
      refine me_aload_n X (i := 0) 0 rfl dX8_readAhead_31 ?_
      refine me_getr X 31 kF_X8_9 (Nat.le_of_ble_eq_true rfl) me_k30 me_f30_1 dX8_readAhead_32 ?_
      refine me_iload_n X (i := 2) 2 rfl dX8_readAhead_35 ?_
      refine me_iconst X dX8_readAhead_36 ic_1 ?_
      refine me_iadd X dX8_readAhead_37 ?_
      obtain ⟨v2, e2, h⟩ := me_bd h
      refine me_iald X (Nat.le_of_ble_eq_true rfl) me_k31 e2 dX8_readAhead_38 ?_
      refine me_iconst X dX8_readAhead_39 ic_1 ?_
      refine me_iadd X dX8_readAhead_40 ?_
      refine me_goto X 45 (by decide) dX8_readAhead_41 ?_
      exact hj45_1 (v2 + 1) h
def mX8_noteLongest_30_J100 (p0 : Int32) (x2_1 : Int32) (M10 : me_M) : Option ((Int32 × me_M) ⊕ (me_M)) :=
  some (.inl ((x2_1 + 1), M10))
def mX8_noteLongest_30_J75 (p0 : Int32) (x2_1 : Int32) (M8 : me_M) : Option ((Int32 × me_M) ⊕ (me_M)) :=
  ((me_r M8 31 241 x2_1).bind fun v4 => ((me_r M8 33 240 p0).bind fun v5 => (if v4 = v5 then ((me_r M8 34 240 p0).bind fun v6 => ((me_t M8 34 240 p0 (v6 + 1)).bind fun M9 => (mX8_noteLongest_30_J100 p0 x2_1 M9))) else (mX8_noteLongest_30_J100 p0 x2_1 M8))))
def mX8_noteLongest_30_L23 (p0 : Int32) : (Int32 × me_M) → Option ((Int32 × me_M) ⊕ (me_M))
  | (x2_1, M4) => (if (M4.1 3 5) ≤ x2_1 then some (.inr M4) else ((me_r M4 31 241 x2_1).bind fun v1 => ((me_r M4 33 240 p0).bind fun v2 => (if v1 ≤ v2 then (mX8_noteLongest_30_J75 p0 x2_1 M4) else ((me_r M4 31 241 x2_1).bind fun v3 => ((me_t M4 33 240 p0 v3).bind fun M5 => ((me_t M5 34 240 p0 0).bind fun M6 => ((me_t M6 35 240 p0 x2_1).bind fun M7 => (mX8_noteLongest_30_J75 p0 x2_1 M7)))))))))
def mX8_noteLongest_30 (M : me_M) (p0 : Int32) : Option me_M :=
  ((me_t M 33 240 p0 0).bind fun M1 => ((me_t M1 34 240 p0 0).bind fun M2 => ((me_t M2 35 240 p0 (-1)).bind fun M3 => ((me_l (mX8_noteLongest_30_L23 p0) me_fu (0, M3)).bind fun M11 => some M11))))
set_option maxRecDepth 100000 in
set_option maxHeartbeats 4000000 in
theorem ctX8_noteLongest_30 {l : Launch} {n nt : Nat} (hn : 63 ≤ n) (hnt : 1 ≤ nt) {M : me_M} {p0 : Int32} {M' : me_M} (h : mX8_noteLongest_30 M p0 = some M') : me_Ct l yX8_noteLongest cX8_noteLongest 3 none 0 n nt (fun ad => [.ref (ad 30), .int p0]) M (fun _ => none) M' := by
  unfold mX8_noteLongest_30 at h
  refine me_enter (N0 := 63) RX8 rfl (plainFor_of_name pl_RX8) hn (Nat.le_trans (by decide) hnt) (fun _ => Nat.le_of_ble_eq_true rfl) ?_
  intro p e R s m args below meth c D cA ad tys A X hr hlk
  refine me_sub (L' := [(0, .ref (ad 30)), (1, .int p0)]) [0, 1] rfl ?_
  refine me_aload_n X (i := 0) 0 rfl dX8_noteLongest_0 ?_
  refine me_getr X 33 kF_X8_18 (Nat.le_of_ble_eq_true rfl) me_k30 me_f30_3 dX8_noteLongest_1 ?_
  refine me_iload_n X (i := 1) 1 rfl dX8_noteLongest_4 ?_
  refine me_iconst X dX8_noteLongest_5 ic_0 ?_
  obtain ⟨M1, e1, h⟩ := me_bd h
  refine me_iast X (Nat.le_of_ble_eq_true rfl) me_k33 e1 dX8_noteLongest_6 ?_
  refine me_aload_n X (i := 0) 0 rfl dX8_noteLongest_7 ?_
  refine me_getr X 34 kF_X8_21 (Nat.le_of_ble_eq_true rfl) me_k30 me_f30_4 dX8_noteLongest_8 ?_
  refine me_iload_n X (i := 1) 1 rfl dX8_noteLongest_11 ?_
  refine me_iconst X dX8_noteLongest_12 ic_0 ?_
  obtain ⟨M2, e2, h⟩ := me_bd h
  refine me_iast X (Nat.le_of_ble_eq_true rfl) me_k34 e2 dX8_noteLongest_13 ?_
  refine me_aload_n X (i := 0) 0 rfl dX8_noteLongest_14 ?_
  refine me_getr X 35 kF_X8_24 (Nat.le_of_ble_eq_true rfl) me_k30 me_f30_5 dX8_noteLongest_15 ?_
  refine me_iload_n X (i := 1) 1 rfl dX8_noteLongest_18 ?_
  refine me_iconst X dX8_noteLongest_19 ic_m1 ?_
  obtain ⟨M3, e3, h⟩ := me_bd h
  refine me_iast X (Nat.le_of_ble_eq_true rfl) me_k35 e3 dX8_noteLongest_20 ?_
  refine me_iconst X dX8_noteLongest_21 ic_0 ?_
  refine me_istore_n X (i := 2) [(2, .int 0), (0, .ref (ad 30)), (1, .int p0)] (Nat.le_of_ble_eq_true rfl) rfl dX8_noteLongest_22 ?_
  obtain ⟨M11, hq1, h⟩ := me_bd h
  have hx1 : me_W p l e R s m args below meth c 0 0 (MQ below (me_Qc D cA ad n A none M') args s 0 0 A) D cA ad n 3 A 106 [] [] M11 := by
    obtain rfl := me_so h
    exact me_vret X hr hlk dX8_noteLongest_106
  refine me_sub (L' := [(0, .ref (ad 30)), (1, .int p0), (2, .int 0)]) [1, 2, 0] rfl ?_
  refine me_l_W (b := (mX8_noteLongest_30_L23 p0)) (P := fun w => me_W p l e R s m args below meth c 0 0 (MQ below (me_Qc D cA ad n A none M') args s 0 0 A) D cA ad n 3 A 23 [(0, .ref (ad 30)), (1, .int p0), (2, .int w.1)] [] w.2) (r := M11) ?_ me_fu (0, M3) hq1
  rintro ⟨x2_1, M4⟩ z1 h hb1 - hr1
  unfold mX8_noteLongest_30_L23 at h
  refine me_iload_n X (i := 2) 2 rfl dX8_noteLongest_23 ?_
  refine me_aload_n X (i := 0) 0 rfl dX8_noteLongest_24 ?_
  refine me_getr X 3 kF_X8_27 (Nat.le_of_ble_eq_true rfl) me_k30 me_f30_0 dX8_noteLongest_25 ?_
  refine me_geti X kF_X8_31 (Nat.le_of_ble_eq_true rfl) me_k3 me_f3_5 dX8_noteLongest_28 ?_
  refine me_icmp_ge X 106 (by decide) dX8_noteLongest_31 (fun c1 => ?_) (fun c1 => ?_)
  · have h := me_ip c1 h
    obtain rfl := me_so h
    have q := hr1 _ rfl
    refine me_sub (L' := []) [] rfl ?_
    cases q
    exact hx1
  · have h := me_in c1 h
    refine me_aload_n X (i := 0) 0 rfl dX8_noteLongest_34 ?_
    refine me_getr X 31 kF_X8_9 (Nat.le_of_ble_eq_true rfl) me_k30 me_f30_1 dX8_noteLongest_35 ?_
    refine me_iload_n X (i := 2) 2 rfl dX8_noteLongest_38 ?_
    obtain ⟨v1, e4, h⟩ := me_bd h
    refine me_iald X (Nat.le_of_ble_eq_true rfl) me_k31 e4 dX8_noteLongest_39 ?_
    refine me_aload_n X (i := 0) 0 rfl dX8_noteLongest_40 ?_
    refine me_getr X 33 kF_X8_18 (Nat.le_of_ble_eq_true rfl) me_k30 me_f30_3 dX8_noteLongest_41 ?_
    refine me_iload_n X (i := 1) 1 rfl dX8_noteLongest_44 ?_
    obtain ⟨v2, e5, h⟩ := me_bd h
    refine me_iald X (Nat.le_of_ble_eq_true rfl) me_k33 e5 dX8_noteLongest_45 ?_
    have hj75_1 : ∀ (M8 : me_M), mX8_noteLongest_30_J75 p0 x2_1 M8 = some z1 → me_W p l e R s m args below meth c 0 0 (MQ below (me_Qc D cA ad n A none M') args s 0 0 A) D cA ad n 3 A 75 [(0, .ref (ad 30)), (1, .int p0), (2, .int x2_1)] [] M8 := by
      intro M8 h
      unfold mX8_noteLongest_30_J75 at h
      refine me_aload_n X (i := 0) 0 rfl dX8_noteLongest_75 ?_
      refine me_getr X 31 kF_X8_9 (Nat.le_of_ble_eq_true rfl) me_k30 me_f30_1 dX8_noteLongest_76 ?_
      refine me_iload_n X (i := 2) 2 rfl dX8_noteLongest_79 ?_
      obtain ⟨v4, e10, h⟩ := me_bd h
      refine me_iald X (Nat.le_of_ble_eq_true rfl) me_k31 e10 dX8_noteLongest_80 ?_
      refine me_aload_n X (i := 0) 0 rfl dX8_noteLongest_81 ?_
      refine me_getr X 33 kF_X8_18 (Nat.le_of_ble_eq_true rfl) me_k30 me_f30_3 dX8_noteLongest_82 ?_
      refine me_iload_n X (i := 1) 1 rfl dX8_noteLongest_85 ?_
      obtain ⟨v5, e11, h⟩ := me_bd h
      refine me_iald X (Nat.le_of_ble_eq_true rfl) me_k33 e11 dX8_noteLongest_86 ?_
      have hj100_2 : ∀ (M10 : me_M), mX8_noteLongest_30_J100 p0 x2_1 M10 = some z1 → me_W p l e R s m args below meth c 0 0 (MQ below (me_Qc D cA ad n A none M') args s 0 0 A) D cA ad n 3 A 100 [(0, .ref (ad 30)), (1, .int p0), (2, .int x2_1)] [] M10 := by
        intro M10 h
        unfold mX8_noteLongest_30_J100 at h
        refine me_iinc X (v := (x2_1 + 1)) 2 rfl (in_1 _) [(2, .int (x2_1 + 1)), (0, .ref (ad 30)), (1, .int p0)] (Nat.le_of_ble_eq_true rfl) rfl dX8_noteLongest_100 ?_
        refine me_goto X 23 (by decide) dX8_noteLongest_103 ?_
        obtain rfl := me_so h
        refine me_sub (L' := [(0, .ref (ad 30)), (1, .int p0), (2, .int (x2_1 + 1))]) [1, 2, 0] rfl ?_
        exact hb1 ((x2_1 + 1), M10) rfl
      refine me_icmp_ne X 100 (by decide) dX8_noteLongest_87 (fun c3 => ?_) (fun c3 => ?_)
      · have h := me_in c3 h
        exact hj100_2 M8 h
      · have h := me_ip c3 h
        refine me_aload_n X (i := 0) 0 rfl dX8_noteLongest_90 ?_
        refine me_getr X 34 kF_X8_21 (Nat.le_of_ble_eq_true rfl) me_k30 me_f30_4 dX8_noteLongest_91 ?_
        refine me_iload_n X (i := 1) 1 rfl dX8_noteLongest_94 ?_
        refine me_dup2 X rfl rfl dX8_noteLongest_95 ?_
        obtain ⟨v6, e12, h⟩ := me_bd h
        refine me_iald X (Nat.le_of_ble_eq_true rfl) me_k34 e12 dX8_noteLongest_96 ?_
        refine me_iconst X dX8_noteLongest_97 ic_1 ?_
        refine me_iadd X dX8_noteLongest_98 ?_
        obtain ⟨M9, e13, h⟩ := me_bd h
        refine me_iast X (Nat.le_of_ble_eq_true rfl) me_k34 e13 dX8_noteLongest_99 ?_
        exact hj100_2 M9 h
    refine me_icmp_le X 75 (by decide) dX8_noteLongest_46 (fun c2 => ?_) (fun c2 => ?_)
    · have h := me_ip c2 h
      exact hj75_1 M4 h
    · have h := me_in c2 h
      refine me_aload_n X (i := 0) 0 rfl dX8_noteLongest_49 ?_
      refine me_getr X 33 kF_X8_18 (Nat.le_of_ble_eq_true rfl) me_k30 me_f30_3 dX8_noteLongest_50 ?_
      refine me_iload_n X (i := 1) 1 rfl dX8_noteLongest_53 ?_
      refine me_aload_n X (i := 0) 0 rfl dX8_noteLongest_54 ?_
      refine me_getr X 31 kF_X8_9 (Nat.le_of_ble_eq_true rfl) me_k30 me_f30_1 dX8_noteLongest_55 ?_
      refine me_iload_n X (i := 2) 2 rfl dX8_noteLongest_58 ?_
      obtain ⟨v3, e6, h⟩ := me_bd h
      refine me_iald X (Nat.le_of_ble_eq_true rfl) me_k31 e6 dX8_noteLongest_59 ?_
      obtain ⟨M5, e7, h⟩ := me_bd h
      refine me_iast X (Nat.le_of_ble_eq_true rfl) me_k33 e7 dX8_noteLongest_60 ?_
      refine me_aload_n X (i := 0) 0 rfl dX8_noteLongest_61 ?_
      refine me_getr X 34 kF_X8_21 (Nat.le_of_ble_eq_true rfl) me_k30 me_f30_4 dX8_noteLongest_62 ?_
      refine me_iload_n X (i := 1) 1 rfl dX8_noteLongest_65 ?_
      refine me_iconst X dX8_noteLongest_66 ic_0 ?_
      obtain ⟨M6, e8, h⟩ := me_bd h
      refine me_iast X (Nat.le_of_ble_eq_true rfl) me_k34 e8 dX8_noteLongest_67 ?_
      refine me_aload_n X (i := 0) 0 rfl dX8_noteLongest_68 ?_
      refine me_getr X 35 kF_X8_24 (Nat.le_of_ble_eq_true rfl) me_k30 me_f30_5 dX8_noteLongest_69 ?_
      refine me_iload_n X (i := 1) 1 rfl dX8_noteLongest_72 ?_
      refine me_iload_n X (i := 2) 2 rfl dX8_noteLongest_73 ?_
      obtain ⟨M7, e9, h⟩ := me_bd h
      refine me_iast X (Nat.le_of_ble_eq_true rfl) me_k35 e9 dX8_noteLongest_74 ?_
      exact hj75_1 M7 h
def mX8_compare_30_1_L8  : (Int32 × me_M) → Option ((Int32 × me_M) ⊕ (me_M))
  | (x3_1, M2) => (if x3_1 < 0 then some (.inr M2) else ((mX9_letterAt_1 M2 x3_1).bind fun v2 => ((mX8_readAhead_30 M2 (v2 + 2)).bind fun M3 => ((mX8_noteLongest_30 M3 x3_1).bind fun M4 => some (.inl ((x3_1 + (-1)), M4))))))
def mX8_compare_30_1 (M : me_M) (p0 : Int32) : Option me_M :=
  ((mX8_beginReading_30 M).bind fun M1 => ((me_l mX8_compare_30_1_L8 me_fu ((p0 - 1), M1)).bind fun M5 => some M5))
set_option maxRecDepth 100000 in
set_option maxHeartbeats 4000000 in
theorem ctX8_compare_30_1 {l : Launch} {n nt : Nat} (hn : 63 ≤ n) (hnt : 1 ≤ nt) {M : me_M} {p0 : Int32} {M' : me_M} (h : mX8_compare_30_1 M p0 = some M') : me_Ct l yX8_compare cX8_compare 4 none 1 n nt (fun ad => [.ref (ad 30), .ref (ad 1), .int p0]) M (fun _ => none) M' := by
  unfold mX8_compare_30_1 at h
  refine me_enter (N0 := 63) RX8 rfl (plainFor_of_name pl_RX8) hn (Nat.le_trans (by decide) hnt) (fun _ => Nat.le_of_ble_eq_true rfl) ?_
  intro p e R s m args below meth c D cA ad tys A X hr hlk
  refine me_sub (L' := [(0, .ref (ad 30)), (1, .ref (ad 1)), (2, .int p0)]) [0, 1, 2] rfl ?_
  refine me_aload_n X (i := 0) 0 rfl dX8_compare_0 ?_
  obtain ⟨M1, e1, h⟩ := me_bd h
  refine me_callVv X [] (ctX8_beginReading_30 hn (Nat.le_trans (by decide) hnt) e1) kV_X8_40 rfl rfl (Nat.le_of_ble_eq_true rfl) me_k30 (Nat.le_of_ble_eq_true rfl) (Nat.le_refl _) (Nat.le_of_ble_eq_true rfl) dX8_compare_1 ?_
  refine me_iload_n X (i := 2) 2 rfl dX8_compare_4 ?_
  refine me_iconst X dX8_compare_5 ic_1 ?_
  refine me_isub X dX8_compare_6 ?_
  refine me_istore_n X (i := 3) [(3, .int (p0 - 1)), (0, .ref (ad 30)), (1, .ref (ad 1)), (2, .int p0)] (Nat.le_of_ble_eq_true rfl) rfl dX8_compare_7 ?_
  obtain ⟨M5, hq1, h⟩ := me_bd h
  have hx1 : me_W p l e R s m args below meth c 0 0 (MQ below (me_Qc D cA ad n A none M') args s 0 0 A) D cA ad n 4 A 34 [] [] M5 := by
    obtain rfl := me_so h
    exact me_vret X hr hlk dX8_compare_34
  refine me_sub (L' := [(0, .ref (ad 30)), (1, .ref (ad 1)), (3, .int (p0 - 1))]) [1, 2, 0] rfl ?_
  refine me_l_W (b := mX8_compare_30_1_L8) (P := fun w => me_W p l e R s m args below meth c 0 0 (MQ below (me_Qc D cA ad n A none M') args s 0 0 A) D cA ad n 4 A 8 [(0, .ref (ad 30)), (1, .ref (ad 1)), (3, .int w.1)] [] w.2) (r := M5) ?_ me_fu ((p0 - 1), M1) hq1
  rintro ⟨x3_1, M2⟩ z1 h hb1 - hr1
  unfold mX8_compare_30_1_L8 at h
  refine me_iload_n X (i := 3) 2 rfl dX8_compare_8 ?_
  refine me_if_lt X 34 (by decide) dX8_compare_9 (fun c1 => ?_) (fun c1 => ?_)
  · have h := me_ip c1 h
    obtain rfl := me_so h
    have q := hr1 _ rfl
    refine me_sub (L' := []) [] rfl ?_
    cases q
    exact hx1
  · have h := me_in c1 h
    refine me_aload_n X (i := 0) 0 rfl dX8_compare_12 ?_
    refine me_aload_n X (i := 1) 1 rfl dX8_compare_13 ?_
    refine me_iload_n X (i := 3) 2 rfl dX8_compare_14 ?_
    obtain ⟨v2, e2, h⟩ := me_bd h
    refine me_callVi X [.int x3_1] (ctX9_letterAt_1 hn (Nat.le_trans (by decide) hnt) e2) kV_X8_43 rfl rfl (Nat.le_of_ble_eq_true rfl) me_k1 (Nat.le_of_ble_eq_true rfl) (Nat.le_refl _) (Nat.le_of_ble_eq_true rfl) dX8_compare_15 ?_
    refine me_iconst X dX8_compare_18 ic_2 ?_
    refine me_iadd X dX8_compare_19 ?_
    obtain ⟨M3, e3, h⟩ := me_bd h
    refine me_callVv X [.int (v2 + 2)] (ctX8_readAhead_30 hn (Nat.le_trans (by decide) hnt) e3) kV_X8_49 rfl rfl (Nat.le_of_ble_eq_true rfl) me_k30 (Nat.le_of_ble_eq_true rfl) (Nat.le_refl _) (Nat.le_of_ble_eq_true rfl) dX8_compare_20 ?_
    refine me_aload_n X (i := 0) 0 rfl dX8_compare_23 ?_
    refine me_iload_n X (i := 3) 2 rfl dX8_compare_24 ?_
    obtain ⟨M4, e4, h⟩ := me_bd h
    refine me_callVv X [.int x3_1] (ctX8_noteLongest_30 hn (Nat.le_trans (by decide) hnt) e4) kV_X8_53 rfl rfl (Nat.le_of_ble_eq_true rfl) me_k30 (Nat.le_of_ble_eq_true rfl) (Nat.le_refl _) (Nat.le_of_ble_eq_true rfl) dX8_compare_25 ?_
    refine me_iinc X (v := (x3_1 + (-1))) 2 rfl (in_m1 _) [(3, .int (x3_1 + (-1))), (0, .ref (ad 30)), (1, .ref (ad 1))] (Nat.le_of_ble_eq_true rfl) rfl dX8_compare_28 ?_
    refine me_goto X 8 (by decide) dX8_compare_31 ?_
    obtain rfl := me_so h
    refine me_sub (L' := [(0, .ref (ad 30)), (1, .ref (ad 1)), (3, .int (x3_1 + (-1)))]) [1, 2, 0] rfl ?_
    exact hb1 ((x3_1 + (-1)), M4) rfl
def mX8_keepMatches_30_J114 (p0 : Int32) (p1 : Int32) (x4_1 : Int32) (x5_1 : Int32) (M6 : me_M) : Option ((Int32 × Int32 × me_M) ⊕ (me_M)) :=
  some (.inl (x5_1, (x4_1 + 1), M6))
def mX8_keepMatches_30_L10 (p0 : Int32) (p1 : Int32) : (Int32 × Int32 × me_M) → Option ((Int32 × Int32 × me_M) ⊕ (me_M))
  | (x3_1, x4_1, M1) => (if p0 ≤ x4_1 then some (.inr M1) else ((me_r M1 33 240 x4_1).bind fun v1 => (if (x4_1 + v1) ≤ x3_1 then (mX8_keepMatches_30_J114 p0 p1 x4_1 (x4_1 + v1) M1) else ((me_r M1 33 240 x4_1).bind fun v2 => (if v2 < p1 then (mX8_keepMatches_30_J114 p0 p1 x4_1 (x4_1 + v1) M1) else ((me_t M1 32 240 (M1.1 30 6) x4_1).bind fun M2 => ((me_r M2 33 240 x4_1).bind fun v3 => ((me_t M2 33 240 (M2.1 30 6) v3).bind fun M3 => ((me_r M3 34 240 x4_1).bind fun v4 => ((me_t M3 34 240 (M3.1 30 6) v4).bind fun M4 => ((me_r M4 35 240 x4_1).bind fun v5 => ((me_t M4 35 240 (M4.1 30 6) v5).bind fun M5 => (mX8_keepMatches_30_J114 p0 p1 x4_1 (x4_1 + v1) (me_s M5 30 6 ((M5.1 30 6) + 1)))))))))))))))
def mX8_keepMatches_30 (M : me_M) (p0 : Int32) (p1 : Int32) : Option me_M :=
  ((me_l (mX8_keepMatches_30_L10 p0 p1) me_fu (0, 0, (me_s M 30 6 0))).bind fun M7 => some M7)
set_option maxRecDepth 100000 in
set_option maxHeartbeats 4000000 in
theorem ctX8_keepMatches_30 {l : Launch} {n nt : Nat} (hn : 63 ≤ n) (hnt : 1 ≤ nt) {M : me_M} {p0 : Int32} {p1 : Int32} {M' : me_M} (h : mX8_keepMatches_30 M p0 p1 = some M') : me_Ct l yX8_keepMatches cX8_keepMatches 6 none 0 n nt (fun ad => [.ref (ad 30), .int p0, .int p1]) M (fun _ => none) M' := by
  unfold mX8_keepMatches_30 at h
  refine me_enter (N0 := 63) RX8 rfl (plainFor_of_name pl_RX8) hn (Nat.le_trans (by decide) hnt) (fun _ => Nat.le_of_ble_eq_true rfl) ?_
  intro p e R s m args below meth c D cA ad tys A X hr hlk
  refine me_sub (L' := [(0, .ref (ad 30)), (1, .int p0), (2, .int p1)]) [0, 1, 2] rfl ?_
  refine me_aload_n X (i := 0) 0 rfl dX8_keepMatches_0 ?_
  refine me_iconst X dX8_keepMatches_1 ic_0 ?_
  refine me_puti X kG_X8_56 (Nat.le_of_ble_eq_true rfl) me_k30 me_f30_6 dX8_keepMatches_2 ?_
  refine me_iconst X dX8_keepMatches_5 ic_0 ?_
  refine me_istore_n X (i := 3) [(3, .int 0), (0, .ref (ad 30)), (1, .int p0), (2, .int p1)] (Nat.le_of_ble_eq_true rfl) rfl dX8_keepMatches_6 ?_
  refine me_iconst X dX8_keepMatches_7 ic_0 ?_
  refine me_istore X (i := 4) [(4, .int 0), (3, .int 0), (0, .ref (ad 30)), (1, .int p0), (2, .int p1)] (Nat.le_of_ble_eq_true rfl) rfl dX8_keepMatches_8 ?_
  obtain ⟨M7, hq1, h⟩ := me_bd h
  have hx1 : me_W p l e R s m args below meth c 0 0 (MQ below (me_Qc D cA ad n A none M') args s 0 0 A) D cA ad n 6 A 123 [] [] M7 := by
    obtain rfl := me_so h
    exact me_vret X hr hlk dX8_keepMatches_123
  refine me_sub (L' := [(0, .ref (ad 30)), (1, .int p0), (2, .int p1), (3, .int 0), (4, .int 0)]) [2, 3, 4, 1, 0] rfl ?_
  refine me_l_W (b := (mX8_keepMatches_30_L10 p0 p1)) (P := fun w => me_W p l e R s m args below meth c 0 0 (MQ below (me_Qc D cA ad n A none M') args s 0 0 A) D cA ad n 6 A 10 [(0, .ref (ad 30)), (1, .int p0), (2, .int p1), (3, .int w.1), (4, .int w.2.1)] [] w.2.2) (r := M7) ?_ me_fu (0, 0, (me_s M 30 6 0)) hq1
  rintro ⟨x3_1, x4_1, M1⟩ z1 h hb1 - hr1
  unfold mX8_keepMatches_30_L10 at h
  refine me_iload X (i := 4) 4 rfl dX8_keepMatches_10 ?_
  refine me_iload_n X (i := 1) 1 rfl dX8_keepMatches_12 ?_
  refine me_icmp_ge X 123 (by decide) dX8_keepMatches_13 (fun c1 => ?_) (fun c1 => ?_)
  · have h := me_ip c1 h
    obtain rfl := me_so h
    have q := hr1 _ rfl
    refine me_sub (L' := []) [] rfl ?_
    cases q
    exact hx1
  · have h := me_in c1 h
    refine me_iload X (i := 4) 4 rfl dX8_keepMatches_16 ?_
    refine me_aload_n X (i := 0) 0 rfl dX8_keepMatches_18 ?_
    refine me_getr X 33 kF_X8_18 (Nat.le_of_ble_eq_true rfl) me_k30 me_f30_3 dX8_keepMatches_19 ?_
    refine me_iload X (i := 4) 4 rfl dX8_keepMatches_22 ?_
    obtain ⟨v1, e1, h⟩ := me_bd h
    refine me_iald X (Nat.le_of_ble_eq_true rfl) me_k33 e1 dX8_keepMatches_24 ?_
    refine me_iadd X dX8_keepMatches_25 ?_
    refine me_istore X (i := 5) [(5, .int (x4_1 + v1)), (0, .ref (ad 30)), (1, .int p0), (2, .int p1), (3, .int x3_1), (4, .int x4_1)] (Nat.le_of_ble_eq_true rfl) rfl dX8_keepMatches_26 ?_
    refine me_iload X (i := 5) 0 rfl dX8_keepMatches_28 ?_
    refine me_iload_n X (i := 3) 4 rfl dX8_keepMatches_30 ?_
    have hj114_1 : ∀ (x5_1 : Int32) (M6 : me_M), mX8_keepMatches_30_J114 p0 p1 x4_1 x5_1 M6 = some z1 → me_W p l e R s m args below meth c 0 0 (MQ below (me_Qc D cA ad n A none M') args s 0 0 A) D cA ad n 6 A 114 [(0, .ref (ad 30)), (1, .int p0), (2, .int p1), (4, .int x4_1), (5, .int x5_1)] [] M6 := by
      intro x5_1 M6 h
      unfold mX8_keepMatches_30_J114 at h
      refine me_iload X (i := 5) 4 rfl dX8_keepMatches_114 ?_
      refine me_istore_n X (i := 3) [(3, .int x5_1), (0, .ref (ad 30)), (1, .int p0), (2, .int p1), (4, .int x4_1), (5, .int x5_1)] (Nat.le_of_ble_eq_true rfl) rfl dX8_keepMatches_116 ?_
      refine me_iinc X (v := (x4_1 + 1)) 4 rfl (in_1 _) [(4, .int (x4_1 + 1)), (3, .int x5_1), (0, .ref (ad 30)), (1, .int p0), (2, .int p1), (5, .int x5_1)] (Nat.le_of_ble_eq_true rfl) rfl dX8_keepMatches_117 ?_
      refine me_goto X 10 (by decide) dX8_keepMatches_120 ?_
      obtain rfl := me_so h
      refine me_sub (L' := [(0, .ref (ad 30)), (1, .int p0), (2, .int p1), (3, .int x5_1), (4, .int (x4_1 + 1))]) [2, 3, 4, 1, 0] rfl ?_
      exact hb1 (x5_1, (x4_1 + 1), M6) rfl
    refine me_icmp_le X 114 (by decide) dX8_keepMatches_31 (fun c2 => ?_) (fun c2 => ?_)
    · have h := me_ip c2 h
      refine me_sub (L' := [(0, .ref (ad 30)), (1, .int p0), (2, .int p1), (4, .int x4_1), (5, .int (x4_1 + v1))]) [1, 2, 3, 5, 0] rfl ?_
      exact hj114_1 (x4_1 + v1) M1 h
    · have h := me_in c2 h
      refine me_aload_n X (i := 0) 1 rfl dX8_keepMatches_34 ?_
      refine me_getr X 33 kF_X8_18 (Nat.le_of_ble_eq_true rfl) me_k30 me_f30_3 dX8_keepMatches_35 ?_
      refine me_iload X (i := 4) 5 rfl dX8_keepMatches_38 ?_
      obtain ⟨v2, e2, h⟩ := me_bd h
      refine me_iald X (Nat.le_of_ble_eq_true rfl) me_k33 e2 dX8_keepMatches_40 ?_
      refine me_iload_n X (i := 2) 3 rfl dX8_keepMatches_41 ?_
      refine me_icmp_lt X 114 (by decide) dX8_keepMatches_42 (fun c3 => ?_) (fun c3 => ?_)
      · have h := me_ip c3 h
        refine me_sub (L' := [(0, .ref (ad 30)), (1, .int p0), (2, .int p1), (4, .int x4_1), (5, .int (x4_1 + v1))]) [1, 2, 3, 5, 0] rfl ?_
        exact hj114_1 (x4_1 + v1) M1 h
      · have h := me_in c3 h
        refine me_aload_n X (i := 0) 1 rfl dX8_keepMatches_45 ?_
        refine me_getr X 32 kF_X8_15 (Nat.le_of_ble_eq_true rfl) me_k30 me_f30_2 dX8_keepMatches_46 ?_
        refine me_aload_n X (i := 0) 1 rfl dX8_keepMatches_49 ?_
        refine me_geti X kF_X8_56 (Nat.le_of_ble_eq_true rfl) me_k30 me_f30_6 dX8_keepMatches_50 ?_
        refine me_iload X (i := 4) 5 rfl dX8_keepMatches_53 ?_
        obtain ⟨M2, e3, h⟩ := me_bd h
        refine me_iast X (Nat.le_of_ble_eq_true rfl) me_k32 e3 dX8_keepMatches_55 ?_
        refine me_aload_n X (i := 0) 1 rfl dX8_keepMatches_56 ?_
        refine me_getr X 33 kF_X8_18 (Nat.le_of_ble_eq_true rfl) me_k30 me_f30_3 dX8_keepMatches_57 ?_
        refine me_aload_n X (i := 0) 1 rfl dX8_keepMatches_60 ?_
        refine me_geti X kF_X8_56 (Nat.le_of_ble_eq_true rfl) me_k30 me_f30_6 dX8_keepMatches_61 ?_
        refine me_aload_n X (i := 0) 1 rfl dX8_keepMatches_64 ?_
        refine me_getr X 33 kF_X8_18 (Nat.le_of_ble_eq_true rfl) me_k30 me_f30_3 dX8_keepMatches_65 ?_
        refine me_iload X (i := 4) 5 rfl dX8_keepMatches_68 ?_
        obtain ⟨v3, e4, h⟩ := me_bd h
        refine me_iald X (Nat.le_of_ble_eq_true rfl) me_k33 e4 dX8_keepMatches_70 ?_
        obtain ⟨M3, e5, h⟩ := me_bd h
        refine me_iast X (Nat.le_of_ble_eq_true rfl) me_k33 e5 dX8_keepMatches_71 ?_
        refine me_aload_n X (i := 0) 1 rfl dX8_keepMatches_72 ?_
        refine me_getr X 34 kF_X8_21 (Nat.le_of_ble_eq_true rfl) me_k30 me_f30_4 dX8_keepMatches_73 ?_
        refine me_aload_n X (i := 0) 1 rfl dX8_keepMatches_76 ?_
        refine me_geti X kF_X8_56 (Nat.le_of_ble_eq_true rfl) me_k30 me_f30_6 dX8_keepMatches_77 ?_
        refine me_aload_n X (i := 0) 1 rfl dX8_keepMatches_80 ?_
        refine me_getr X 34 kF_X8_21 (Nat.le_of_ble_eq_true rfl) me_k30 me_f30_4 dX8_keepMatches_81 ?_
        refine me_iload X (i := 4) 5 rfl dX8_keepMatches_84 ?_
        obtain ⟨v4, e6, h⟩ := me_bd h
        refine me_iald X (Nat.le_of_ble_eq_true rfl) me_k34 e6 dX8_keepMatches_86 ?_
        obtain ⟨M4, e7, h⟩ := me_bd h
        refine me_iast X (Nat.le_of_ble_eq_true rfl) me_k34 e7 dX8_keepMatches_87 ?_
        refine me_aload_n X (i := 0) 1 rfl dX8_keepMatches_88 ?_
        refine me_getr X 35 kF_X8_24 (Nat.le_of_ble_eq_true rfl) me_k30 me_f30_5 dX8_keepMatches_89 ?_
        refine me_aload_n X (i := 0) 1 rfl dX8_keepMatches_92 ?_
        refine me_geti X kF_X8_56 (Nat.le_of_ble_eq_true rfl) me_k30 me_f30_6 dX8_keepMatches_93 ?_
        refine me_aload_n X (i := 0) 1 rfl dX8_keepMatches_96 ?_
        refine me_getr X 35 kF_X8_24 (Nat.le_of_ble_eq_true rfl) me_k30 me_f30_5 dX8_keepMatches_97 ?_
        refine me_iload X (i := 4) 5 rfl dX8_keepMatches_100 ?_
        obtain ⟨v5, e8, h⟩ := me_bd h
        refine me_iald X (Nat.le_of_ble_eq_true rfl) me_k35 e8 dX8_keepMatches_102 ?_
        obtain ⟨M5, e9, h⟩ := me_bd h
        refine me_iast X (Nat.le_of_ble_eq_true rfl) me_k35 e9 dX8_keepMatches_103 ?_
        refine me_aload_n X (i := 0) 1 rfl dX8_keepMatches_104 ?_
        refine me_dup X rfl dX8_keepMatches_105 ?_
        refine me_geti X kF_X8_56 (Nat.le_of_ble_eq_true rfl) me_k30 me_f30_6 dX8_keepMatches_106 ?_
        refine me_iconst X dX8_keepMatches_109 ic_1 ?_
        refine me_iadd X dX8_keepMatches_110 ?_
        refine me_puti X kG_X8_56 (Nat.le_of_ble_eq_true rfl) me_k30 me_f30_6 dX8_keepMatches_111 ?_
        refine me_sub (L' := [(0, .ref (ad 30)), (1, .int p0), (2, .int p1), (4, .int x4_1), (5, .int (x4_1 + v1))]) [1, 2, 3, 5, 0] rfl ?_
        exact hj114_1 (x4_1 + v1) (me_s M5 30 6 ((M5.1 30 6) + 1)) h
