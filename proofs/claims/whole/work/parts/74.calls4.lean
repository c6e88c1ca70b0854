/-! ===== calls: count, print, letter, step, status, fault, clear ===== -/
theorem me_o1 {M : me_M} {k : Nat} {x : Int64} : (me_o M k x).1 = M.1 := rfl
theorem scq {T : Nat → Nat} {n r s : Nat} : sc T n r (s + 1) = sc T n r s + ct (fun i => decide (bf T (pa T n i) = s)) r := ct_add r (fun i _ => by
  by_cases a : bf T (pa T n i) < s
  · rw [decide_eq_true a, decide_eq_true (by omega), decide_eq_false (by omega)]; rfl
  · by_cases b : bf T (pa T n i) = s
    · rw [decide_eq_false a, decide_eq_true (by omega), decide_eq_true b]; rfl
    · rw [decide_eq_false a, decide_eq_false (by omega), decide_eq_false b]; rfl)
theorem byt_eq {s c : Nat} (hs : s < 10) (hc : c < 8) : byt s = 97 + c ↔ s = c + 2 := by
  unfold byt
  by_cases h0 : s = 0
  · rw [if_pos h0]; omega
  · rw [if_neg h0]
    by_cases h1 : s = 1
    · rw [if_pos h1]; omega
    · rw [if_neg h1]; omega
theorem qr_count {T : Nat → Nat} {n m : Nat} {W X : Nat → Nat} {t : Nat} {F : Nat → Nat} {S P : Nat} {D : Nat → Nat → Nat → Nat} {M : me_M} (h : Inv M) (ha : vA T n m W X t F S P D M) (a0 a1 a2 : Int32) (hb0 : iB a0 (nI 0) (nI 1) = true) (hb1 : iB a1 (nI 0) (nI (n + 1)) = true) (hb2 : iB a2 (nI 97) (nI 104) = true) : aQ (hL_count M a0 a1 a2) (fun M1 => mX12_count_63 M1 a0 a1 a2) := by
  have hT := ha.1.1
  have c1 := ha.1.2.1.1.1.1
  have hn := hT.2.2.2
  obtain ⟨b, -, hb, rfl⟩ := iB_n hb0 (by omega) (by omega)
  obtain ⟨r, -, hr, rfl⟩ := iB_n hb1 (by omega) (by omega)
  obtain ⟨c', hc1, hc2, rfl⟩ := iB_n hb2 (by omega) (by omega)
  obtain ⟨c, rfl⟩ : ∃ c, c' = 97 + c := ⟨c' - 97, by omega⟩
  have hU := sd9 (b := b) hT
  have hs := cx_side (b := b) ha.1.2.1 (by omega)
  have hse : sc (sd T n b) n r (c + 3) = sc (sd T n b) n r (c + 2) + ct (fun i => decide (bf (sd T n b) (pa (sd T n b) n i) = c + 2)) r := scq (s := c + 2)
  have hv : sc (sd T n b) n r (c + 3) - sc (sd T n b) n r (c + 2) = ct (fun i => decide (bf (sd T n b) (pa (sd T n b) n i) = c + 2)) r := by omega
  refine aQ.p (v := nI (ct (fun i => decide (bf (sd T n b) (pa (sd T n b) n i) = c + 2)) r)) (G := fun M0 => nX12_count M0 (nI b) (nI r) (nI (97 + c))) (fun M1 => zX12_count M1 _ _ _) h ha ?_ (fun M0 h0 hz hf => ?_)
  · have hj2 : b = 0 ∨ b = 1 := by omega
    rcases hj2 with rfl | rfl
    · have eC : (9 + 5 * 0 = 9) = True := by decide
      have hl := g_lettersAhead (o := 9) (sg := 4) (pl := 10) (ro := 11) (al := 12) (sm := 13) (c := c) hU.2.1 hn hs.2.2.2 hr (by omega)
      rw [hv] at hl
      simp (disch := omega) only [↓reduceIte, ↓needEb, ↓needAb, ↓needSb, ↓needE0l, ↓needE1l, ↓needA0l, ↓needA1l, ↓needS0l, ↓needS1l, ↓bnd c_isWhat, ↓bnd c_isSide, ↓bnd c_isLetter, ↓bnd c_isLength, ↓bnd c_isOften, ↓bnd r_in, ↓bnd r_isLetter, bI_t, bI_f, Bool.false_eq_true, Option.bind_none, Option.none_or, Option.some_or, xAN, xNA, xSA, Option.bind_some, if_true, if_false, Sum.elim_inl, Sum.elim_inr, li0, li1, li2, li3, li4, li5, li6, li7, li8, li9, li10, li12, li16, li20, li24, li25, li31, li32, li40, li41, li42, li48, li57, li59, li97, li104, li105, li124, li126, li240, li241, nI_add, nI_subc, nI_subm, nI_mulc, nI_nm, pu_r, pu_t, pu_a, pu_le_t, pu_le_f, pu_lt_t, pu_lt_f, pu_eq_t, pu_eq_f, nm_eq, nm_eq2, nm_lt, nm_lt2, nm_le, nm_le2, nm_ss, nm_sp, pu_ss, pu_snq, pu_neq, eq_self, and_true, true_and, and_false, false_and, or_true, true_or, or_false, false_or, not_true_eq_false, not_false_eq_true, hL_count, mX11_count_0, mX11_count_0_J29, mX11_count_0_J30, c1, c_rng2, hb0, hb1, hb2, ↓bnd (c_rowsOf (M := M) (b := 0) (by omega)), eC, eX4_lettersAhead_9, show 97 + c - 97 = c by omega, hl]
    · have eC : (9 + 5 * 1 = 9) = False := by decide
      have eD : (9 + 5 * 1 = 14) = True := by decide
      have hl := g_lettersAhead (o := 14) (sg := 5) (pl := 15) (ro := 16) (al := 17) (sm := 18) (c := c) hU.2.1 hn hs.2.2.2 hr (by omega)
      rw [hv] at hl
      simp (disch := omega) only [↓reduceIte, ↓needEb, ↓needAb, ↓needSb, ↓needE0l, ↓needE1l, ↓needA0l, ↓needA1l, ↓needS0l, ↓needS1l, ↓bnd c_isWhat, ↓bnd c_isSide, ↓bnd c_isLetter, ↓bnd c_isLength, ↓bnd c_isOften, ↓bnd r_in, ↓bnd r_isLetter, bI_t, bI_f, Bool.false_eq_true, Option.bind_none, Option.none_or, Option.some_or, xAN, xNA, xSA, Option.bind_some, if_true, if_false, Sum.elim_inl, Sum.elim_inr, li0, li1, li2, li3, li4, li5, li6, li7, li8, li9, li10, li12, li16, li20, li24, li25, li31, li32, li40, li41, li42, li48, li57, li59, li97, li104, li105, li124, li126, li240, li241, nI_add, nI_subc, nI_subm, nI_mulc, nI_nm, pu_r, pu_t, pu_a, pu_le_t, pu_le_f, pu_lt_t, pu_lt_f, pu_eq_t, pu_eq_f, nm_eq, nm_eq2, nm_lt, nm_lt2, nm_le, nm_le2, nm_ss, nm_sp, pu_ss, pu_snq, pu_neq, eq_self, and_true, true_and, and_false, false_and, or_true, true_or, or_false, false_or, not_true_eq_false, not_false_eq_true, hL_count, mX11_count_0, mX11_count_0_J29, mX11_count_0_J30, c1, c_rng2, hb0, hb1, hb2, ↓bnd (c_rowsOf (M := M) (b := 1) (by omega)), eC, eD, eX4_lettersAhead_14, show 97 + c - 97 = c by omega, hl]
  · have hl : me_l (mX12_count_63_L71 M0 (nI b) (nI r) (nI (97 + c))) me_fu (nI 0, nI 0) = some (nI (ct (fun i => decide (bf (sd T n b) (pa (sd T n b) n i) = c + 2)) r)) := by
      refine lp_to (fun x => (nI (ct (fun i => decide (bf (sd T n b) (pa (sd T n b) n i) = c + 2)) x), nI x)) (a := 0) (N := r) (by omega) (by omega) (fun x _ hx => ?_) ?_
      · simp only [mX12_count_63_L71, mX12_count_63_J98]
        have h1 := bf_lt (p := pa (sd T n b) n x) hU.2.1
        have h2 := byt_lt h1
        have h3 := r_before hT h0.1.2.2.1 (show b < 2 by omega) (show x ≤ n by omega)
        have h4 := byt_eq (c := c) h1 (by omega)
        by_cases e : bf (sd T n b) (pa (sd T n b) n x) = c + 2
        · have h5 := h4.mpr e
          simp (disch := omega) only [Option.bind_some, if_true, if_false, Sum.elim_inl, Sum.elim_inr, li0, li1, li2, li3, li4, li5, li6, li7, li8, li9, li10, li12, li16, li20, li24, li25, li31, li32, li40, li41, li42, li48, li57, li59, li97, li104, li105, li124, li126, li240, li241, nI_add, nI_subc, nI_subm, nI_mulc, nI_nm, pu_r, pu_t, pu_a, pu_le_t, pu_le_f, pu_lt_t, pu_lt_f, pu_eq_t, pu_eq_f, nm_eq, nm_eq2, nm_lt, nm_lt2, nm_le, nm_le2, nm_ss, nm_sp, pu_ss, pu_snq, pu_neq, eq_self, and_true, true_and, and_false, false_and, or_true, true_or, or_false, false_or, not_true_eq_false, not_false_eq_true, h3, r_byteOf, ct_s, decide_eq_true e]
        · have h5 : ¬ byt (bf (sd T n b) (pa (sd T n b) n x)) = 97 + c := fun z => e (h4.mp z)
          simp (disch := omega) only [Option.bind_some, if_true, if_false, Sum.elim_inl, Sum.elim_inr, li0, li1, li2, li3, li4, li5, li6, li7, li8, li9, li10, li12, li16, li20, li24, li25, li31, li32, li40, li41, li42, li48, li57, li59, li97, li104, li105, li124, li126, li240, li241, nI_add, nI_subc, nI_subm, nI_mulc, nI_nm, pu_r, pu_t, pu_a, pu_le_t, pu_le_f, pu_lt_t, pu_lt_f, pu_eq_t, pu_eq_f, nm_eq, nm_eq2, nm_lt, nm_lt2, nm_le, nm_le2, nm_ss, nm_sp, pu_ss, pu_snq, pu_neq, eq_self, and_true, true_and, and_false, false_and, or_true, true_or, or_false, false_or, not_true_eq_false, not_false_eq_true, h3, r_byteOf, ct_s, decide_eq_false e, Bool.false_eq_true, Nat.add_zero]
      · simp only [mX12_count_63_L71]
        simp (disch := omega) only [Option.bind_some, if_true, if_false, Sum.elim_inl, Sum.elim_inr, li0, li1, li2, li3, li4, li5, li6, li7, li8, li9, li10, li12, li16, li20, li24, li25, li31, li32, li40, li41, li42, li48, li57, li59, li97, li104, li105, li124, li126, li240, li241, nI_add, nI_subc, nI_subm, nI_mulc, nI_nm, pu_r, pu_t, pu_a, pu_le_t, pu_le_f, pu_lt_t, pu_lt_f, pu_eq_t, pu_eq_f, nm_eq, nm_eq2, nm_lt, nm_lt2, nm_le, nm_le2, nm_ss, nm_sp, pu_ss, pu_snq, pu_neq, eq_self, and_true, true_and, and_false, false_and, or_true, true_or, or_false, false_or, not_true_eq_false, not_false_eq_true]
    simp (disch := omega) only [↓reduceIte, ↓needEb, ↓needAb, ↓needSb, ↓needE0l, ↓needE1l, ↓needA0l, ↓needA1l, ↓needS0l, ↓needS1l, ↓bnd c_isWhat, ↓bnd c_isSide, ↓bnd c_isLetter, ↓bnd c_isLength, ↓bnd c_isOften, ↓bnd r_in, ↓bnd r_isLetter, bI_t, bI_f, Bool.false_eq_true, Option.bind_none, Option.none_or, Option.some_or, xAN, xNA, xSA, Option.bind_some, if_true, if_false, Sum.elim_inl, Sum.elim_inr, li0, li1, li2, li3, li4, li5, li6, li7, li8, li9, li10, li12, li16, li20, li24, li25, li31, li32, li40, li41, li42, li48, li57, li59, li97, li104, li105, li124, li126, li240, li241, nI_add, nI_subc, nI_subm, nI_mulc, nI_nm, pu_r, pu_t, pu_a, pu_le_t, pu_le_f, pu_lt_t, pu_lt_f, pu_eq_t, pu_eq_f, nm_eq, nm_eq2, nm_lt, nm_lt2, nm_le, nm_le2, nm_ss, nm_sp, pu_ss, pu_snq, pu_neq, eq_self, and_true, true_and, and_false, false_and, or_true, true_or, or_false, false_or, not_true_eq_false, not_false_eq_true, nX12_count, mX12_count_63_J29, mX12_count_63_J34, mX12_count_63_J55, h0.1.2.2.1.1.1, hb0, hb1, hb2, ↓bnd (r_bad0l hz), hl]
theorem q_count {M : me_M} (h : Inv M) (a0 : Int32) (a1 : Int32) (a2 : Int32) : aQ (hL_count M a0 a1 a2) (fun M1 => mX12_count_63 M1 a0 a1 a2) := by
  obtain ⟨T, n, m, W, X, t, F, S, P, D, ha⟩ := h.vA
  have hT := ha.1.1
  have hx := ha.1.2.1
  have c1 := hx.1.1.1
  have hn := hT.2.2.2
  have h9 := hT.2.1
  have hp1 := ha.2.2.1.2.1
  have ht := ha.2.2.1.1
  have hm4 := ha.2.1.1.2.2.1
  have hm40 := ha.2.1.1.1
  cases hb0 : iB a0 (nI 0) (nI 1) with
  | false =>
    refine aQ.t 0 1 (G := fun M0 => nX12_count M0 a0 a1 a2) (fun M1 => zX12_count M1 a0 a1 a2) h ha (by omega) (by omega) (by omega) ?_ (fun M0 h0 hz hf => ?_)
    · simp (disch := omega) only [↓reduceIte, ↓needEb, ↓needAb, ↓needSb, ↓needE0l, ↓needE1l, ↓needA0l, ↓needA1l, ↓needS0l, ↓needS1l, ↓bnd c_isWhat, ↓bnd c_isSide, ↓bnd c_isLetter, ↓bnd c_isLength, ↓bnd c_isOften, ↓bnd r_in, ↓bnd r_isLetter, bI_t, bI_f, Bool.false_eq_true, Option.bind_none, Option.none_or, Option.some_or, xAN, xNA, xSA, Option.bind_some, if_true, if_false, Sum.elim_inl, Sum.elim_inr, li0, li1, li2, li3, li4, li5, li6, li7, li8, li9, li10, li12, li16, li20, li24, li25, li31, li32, li40, li41, li42, li48, li57, li59, li97, li104, li105, li124, li126, li240, li241, nI_add, nI_subc, nI_subm, nI_mulc, nI_nm, pu_r, pu_t, pu_a, pu_le_t, pu_le_f, pu_lt_t, pu_lt_f, pu_eq_t, pu_eq_f, nm_eq, nm_eq2, nm_lt, nm_lt2, nm_le, nm_le2, nm_ss, nm_sp, pu_ss, pu_snq, pu_neq, eq_self, and_true, true_and, and_false, false_and, or_true, true_or, or_false, false_or, not_true_eq_false, not_false_eq_true, mX11_count_0_J30, mX11_count_0_J29, mX11_count_0, tX11_count_0_J30, tX11_count_0_J29, tX11_count_0, hL_count, c1, c_rng2, hb0]
    · simp (disch := omega) only [↓reduceIte, ↓needEb, ↓needAb, ↓needSb, ↓needE0l, ↓needE1l, ↓needA0l, ↓needA1l, ↓needS0l, ↓needS1l, ↓bnd c_isWhat, ↓bnd c_isSide, ↓bnd c_isLetter, ↓bnd c_isLength, ↓bnd c_isOften, ↓bnd r_in, ↓bnd r_isLetter, bI_t, bI_f, Bool.false_eq_true, Option.bind_none, Option.none_or, Option.some_or, xAN, xNA, xSA, Option.bind_some, if_true, if_false, Sum.elim_inl, Sum.elim_inr, li0, li1, li2, li3, li4, li5, li6, li7, li8, li9, li10, li12, li16, li20, li24, li25, li31, li32, li40, li41, li42, li48, li57, li59, li97, li104, li105, li124, li126, li240, li241, nI_add, nI_subc, nI_subm, nI_mulc, nI_nm, pu_r, pu_t, pu_a, pu_le_t, pu_le_f, pu_lt_t, pu_lt_f, pu_eq_t, pu_eq_f, nm_eq, nm_eq2, nm_lt, nm_lt2, nm_le, nm_le2, nm_ss, nm_sp, pu_ss, pu_snq, pu_neq, eq_self, and_true, true_and, and_false, false_and, or_true, true_or, or_false, false_or, not_true_eq_false, not_false_eq_true, nX12_count, mX12_count_63_J98, mX12_count_63_J55, mX12_count_63_J34, mX12_count_63_J29, h0.1.2.2.1.1.1, hb0, ↓bnd (r_bad0l hz), ↓bnd (r_bad10 hz), ↓bnd (r_bad11 hz), ↓bnd (r_bad21 hz), ↓bnd (r_bad22 hz)]
  | true =>
    cases hb1 : iB a1 (nI 0) (nI (n + 1)) with
    | false =>
      refine aQ.t 0 1 (G := fun M0 => nX12_count M0 a0 a1 a2) (fun M1 => zX12_count M1 a0 a1 a2) h ha (by omega) (by omega) (by omega) ?_ (fun M0 h0 hz hf => ?_)
      · simp (disch := omega) only [↓reduceIte, ↓needEb, ↓needAb, ↓needSb, ↓needE0l, ↓needE1l, ↓needA0l, ↓needA1l, ↓needS0l, ↓needS1l, ↓bnd c_isWhat, ↓bnd c_isSide, ↓bnd c_isLetter, ↓bnd c_isLength, ↓bnd c_isOften, ↓bnd r_in, ↓bnd r_isLetter, bI_t, bI_f, Bool.false_eq_true, Option.bind_none, Option.none_or, Option.some_or, xAN, xNA, xSA, Option.bind_some, if_true, if_false, Sum.elim_inl, Sum.elim_inr, li0, li1, li2, li3, li4, li5, li6, li7, li8, li9, li10, li12, li16, li20, li24, li25, li31, li32, li40, li41, li42, li48, li57, li59, li97, li104, li105, li124, li126, li240, li241, nI_add, nI_subc, nI_subm, nI_mulc, nI_nm, pu_r, pu_t, pu_a, pu_le_t, pu_le_f, pu_lt_t, pu_lt_f, pu_eq_t, pu_eq_f, nm_eq, nm_eq2, nm_lt, nm_lt2, nm_le, nm_le2, nm_ss, nm_sp, pu_ss, pu_snq, pu_neq, eq_self, and_true, true_and, and_false, false_and, or_true, true_or, or_false, false_or, not_true_eq_false, not_false_eq_true, mX11_count_0_J30, mX11_count_0_J29, mX11_count_0, tX11_count_0_J30, tX11_count_0_J29, tX11_count_0, hL_count, c1, c_rng2, hb0, hb1]
      · simp (disch := omega) only [↓reduceIte, ↓needEb, ↓needAb, ↓needSb, ↓needE0l, ↓needE1l, ↓needA0l, ↓needA1l, ↓needS0l, ↓needS1l, ↓bnd c_isWhat, ↓bnd c_isSide, ↓bnd c_isLetter, ↓bnd c_isLength, ↓bnd c_isOften, ↓bnd r_in, ↓bnd r_isLetter, bI_t, bI_f, Bool.false_eq_true, Option.bind_none, Option.none_or, Option.some_or, xAN, xNA, xSA, Option.bind_some, if_true, if_false, Sum.elim_inl, Sum.elim_inr, li0, li1, li2, li3, li4, li5, li6, li7, li8, li9, li10, li12, li16, li20, li24, li25, li31, li32, li40, li41, li42, li48, li57, li59, li97, li104, li105, li124, li126, li240, li241, nI_add, nI_subc, nI_subm, nI_mulc, nI_nm, pu_r, pu_t, pu_a, pu_le_t, pu_le_f, pu_lt_t, pu_lt_f, pu_eq_t, pu_eq_f, nm_eq, nm_eq2, nm_lt, nm_lt2, nm_le, nm_le2, nm_ss, nm_sp, pu_ss, pu_snq, pu_neq, eq_self, and_true, true_and, and_false, false_and, or_true, true_or, or_false, false_or, not_true_eq_false, not_false_eq_true, nX12_count, mX12_count_63_J98, mX12_count_63_J55, mX12_count_63_J34, mX12_count_63_J29, h0.1.2.2.1.1.1, hb0, hb1, ↓bnd (r_bad0l hz), ↓bnd (r_bad10 hz), ↓bnd (r_bad11 hz), ↓bnd (r_bad21 hz), ↓bnd (r_bad22 hz)]
    | true =>
      cases hb2 : iB a2 (nI 97) (nI 104) with
      | false =>
        refine aQ.t 1 2 (G := fun M0 => nX12_count M0 a0 a1 a2) (fun M1 => zX12_count M1 a0 a1 a2) h ha (by omega) (by omega) (by omega) ?_ (fun M0 h0 hz hf => ?_)
        · simp (disch := omega) only [↓reduceIte, ↓needEb, ↓needAb, ↓needSb, ↓needE0l, ↓needE1l, ↓needA0l, ↓needA1l, ↓needS0l, ↓needS1l, ↓bnd c_isWhat, ↓bnd c_isSide, ↓bnd c_isLetter, ↓bnd c_isLength, ↓bnd c_isOften, ↓bnd r_in, ↓bnd r_isLetter, bI_t, bI_f, Bool.false_eq_true, Option.bind_none, Option.none_or, Option.some_or, xAN, xNA, xSA, Option.bind_some, if_true, if_false, Sum.elim_inl, Sum.elim_inr, li0, li1, li2, li3, li4, li5, li6, li7, li8, li9, li10, li12, li16, li20, li24, li25, li31, li32, li40, li41, li42, li48, li57, li59, li97, li104, li105, li124, li126, li240, li241, nI_add, nI_subc, nI_subm, nI_mulc, nI_nm, pu_r, pu_t, pu_a, pu_le_t, pu_le_f, pu_lt_t, pu_lt_f, pu_eq_t, pu_eq_f, nm_eq, nm_eq2, nm_lt, nm_lt2, nm_le, nm_le2, nm_ss, nm_sp, pu_ss, pu_snq, pu_neq, eq_self, and_true, true_and, and_false, false_and, or_true, true_or, or_false, false_or, not_true_eq_false, not_false_eq_true, mX11_count_0_J30, mX11_count_0_J29, mX11_count_0, tX11_count_0_J30, tX11_count_0_J29, tX11_count_0, hL_count, c1, c_rng2, hb0, hb1, hb2]
        · simp (disch := omega) only [↓reduceIte, ↓needEb, ↓needAb, ↓needSb, ↓needE0l, ↓needE1l, ↓needA0l, ↓needA1l, ↓needS0l, ↓needS1l, ↓bnd c_isWhat, ↓bnd c_isSide, ↓bnd c_isLetter, ↓bnd c_isLength, ↓bnd c_isOften, ↓bnd r_in, ↓bnd r_isLetter, bI_t, bI_f, Bool.false_eq_true, Option.bind_none, Option.none_or, Option.some_or, xAN, xNA, xSA, Option.bind_some, if_true, if_false, Sum.elim_inl, Sum.elim_inr, li0, li1, li2, li3, li4, li5, li6, li7, li8, li9, li10, li12, li16, li20, li24, li25, li31, li32, li40, li41, li42, li48, li57, li59, li97, li104, li105, li124, li126, li240, li241, nI_add, nI_subc, nI_subm, nI_mulc, nI_nm, pu_r, pu_t, pu_a, pu_le_t, pu_le_f, pu_lt_t, pu_lt_f, pu_eq_t, pu_eq_f, nm_eq, nm_eq2, nm_lt, nm_lt2, nm_le, nm_le2, nm_ss, nm_sp, pu_ss, pu_snq, pu_neq, eq_self, and_true, true_and, and_false, false_and, or_true, true_or, or_false, false_or, not_true_eq_false, not_false_eq_true, nX12_count, mX12_count_63_J98, mX12_count_63_J55, mX12_count_63_J34, mX12_count_63_J29, h0.1.2.2.1.1.1, hb0, hb1, hb2, ↓bnd (r_bad0l hz), ↓bnd (r_bad10 hz), ↓bnd (r_bad11 hz), ↓bnd (r_bad21 hz), ↓bnd (r_bad22 hz)]
      | true =>
        exact qr_count h ha a0 a1 a2 hb0 hb1 hb2
def aQL (h : Option (Int32 × me_M)) (g : me_M → Option (Int64 × me_M)) : Prop := ∃ r M1, h = some (r, M1) ∧ ∃ v M2, g M1 = some (v, M2) ∧ M2.1 63 0 = r ∧ (r = 0 → M2.2.2 0 = v) ∧ Inv M2
theorem aQL.en {h : Option (Int32 × me_M)} {g : me_M → Option (Int64 × me_M)} (q : aQL h g) : ∃ M', (h.bind fun (v2, M1) => ((g M1).bind fun (v4, M2) => ((mX12_thrown_63 M2).bind fun v5 => (if v5 = v2 then (if v2 = 0 then (if (lg_cmp (M2.2.2 0) v4) = 0 then some M2 else none) else some M2) else none)))) = some M' ∧ Inv M' := by
  obtain ⟨r, M1, rfl, v, M2, h2, h3, h4, h5⟩ := q
  refine ⟨M2, ?_, h5⟩
  simp only [Option.bind_some, h2, mX12_thrown_63, h3, if_true]
  by_cases e : r = 0
  · rw [if_pos e, h4 e, lg_self, if_pos rfl]
  · rw [if_neg e]
def prs (f : Nat → Nat) : Nat → Int64
  | 0 => 0
  | x + 1 => 31 * prs f x + (nI (f x)).toInt64
theorem q_print {M : me_M} (h : Inv M) (a0 : Int32) : aQL (hL_print M a0) (fun M1 => mX12_print_63 M1 a0) := by
  obtain ⟨T, n, m, W, X, t, F, S, P, D, ha⟩ := h.vA
  have hT := ha.1.1
  have c1 := ha.1.2.1.1.1.1
  have hn := hT.2.2.2
  cases hb0 : iB a0 (nI 0) (nI 1) with
  | false =>
    have hz : vA T n m W X t F S P D (me_s (me_s M 0 13 (M.1 0 13 + 1)) 63 0 (nI 0)) := ha.z ((fr.s (by omega)).st (by omega))
    have e0 : (me_s (me_s M 0 13 (M.1 0 13 + nI 1)) 63 0 (nI 0)).1 63 0 = nI 0 := pu_ss
    refine ⟨nI 1, me_s M 0 13 (M.1 0 13 + 1), ?_, 0, me_s (me_s (me_s (me_s M 0 13 (M.1 0 13 + 1)) 63 0 (nI 0)) 63 0 (nI 1)) 64 0 (M.1 64 0 + 1), ?_, ?_, fun e => ?_, h.thr (k := 0) (by omega)⟩
    · simp (disch := omega) only [↓reduceIte, ↓needEb, ↓needAb, ↓needSb, ↓needE0l, ↓needE1l, ↓needA0l, ↓needA1l, ↓needS0l, ↓needS1l, ↓bnd c_isWhat, ↓bnd c_isSide, ↓bnd c_isLetter, ↓bnd c_isLength, ↓bnd c_isOften, ↓bnd r_in, ↓bnd r_isLetter, bI_t, bI_f, Bool.false_eq_true, Option.bind_none, Option.none_or, Option.some_or, xAN, xNA, xSA, Option.bind_some, if_true, if_false, Sum.elim_inl, Sum.elim_inr, li0, li1, li2, li3, li4, li5, li6, li7, li8, li9, li10, li12, li16, li20, li24, li25, li31, li32, li40, li41, li42, li48, li57, li59, li97, li104, li105, li124, li126, li240, li241, nI_add, nI_subc, nI_subm, nI_mulc, nI_nm, pu_r, pu_t, pu_a, pu_le_t, pu_le_f, pu_lt_t, pu_lt_f, pu_eq_t, pu_eq_f, nm_eq, nm_eq2, nm_lt, nm_lt2, nm_le, nm_le2, nm_ss, nm_sp, pu_ss, pu_snq, pu_neq, eq_self, and_true, true_and, and_false, false_and, or_true, true_or, or_false, false_or, not_true_eq_false, not_false_eq_true, hL_print, mX11_print_0, tX11_print_0, hb0]
    · show mX12_print_63 (me_s M 0 13 (M.1 0 13 + 1)) a0 = _
      rw [zX12_print]
      simp (disch := omega) only [↓reduceIte, ↓needEb, ↓needAb, ↓needSb, ↓needE0l, ↓needE1l, ↓needA0l, ↓needA1l, ↓needS0l, ↓needS1l, ↓bnd c_isWhat, ↓bnd c_isSide, ↓bnd c_isLetter, ↓bnd c_isLength, ↓bnd c_isOften, ↓bnd r_in, ↓bnd r_isLetter, bI_t, bI_f, Bool.false_eq_true, Option.bind_none, Option.none_or, Option.some_or, xAN, xNA, xSA, Option.bind_some, if_true, if_false, Sum.elim_inl, Sum.elim_inr, li0, li1, li2, li3, li4, li5, li6, li7, li8, li9, li10, li12, li16, li20, li24, li25, li31, li32, li40, li41, li42, li48, li57, li59, li97, li104, li105, li124, li126, li240, li241, nI_add, nI_subc, nI_subm, nI_mulc, nI_nm, pu_r, pu_t, pu_a, pu_le_t, pu_le_f, pu_lt_t, pu_lt_f, pu_eq_t, pu_eq_f, nm_eq, nm_eq2, nm_lt, nm_lt2, nm_le, nm_le2, nm_ss, nm_sp, pu_ss, pu_snq, pu_neq, eq_self, and_true, true_and, and_false, false_and, or_true, true_or, or_false, false_or, not_true_eq_false, not_false_eq_true, nX12_print, mX12_print_63_J20, hb0, r_bad1 e0]
    · simp (disch := omega) only [Option.bind_some, if_true, if_false, Sum.elim_inl, Sum.elim_inr, li0, li1, li2, li3, li4, li5, li6, li7, li8, li9, li10, li12, li16, li20, li24, li25, li31, li32, li40, li41, li42, li48, li57, li59, li97, li104, li105, li124, li126, li240, li241, nI_add, nI_subc, nI_subm, nI_mulc, nI_nm, pu_r, pu_t, pu_a, pu_le_t, pu_le_f, pu_lt_t, pu_lt_f, pu_eq_t, pu_eq_f, nm_eq, nm_eq2, nm_lt, nm_lt2, nm_le, nm_le2, nm_ss, nm_sp, pu_ss, pu_snq, pu_neq, eq_self, and_true, true_and, and_false, false_and, or_true, true_or, or_false, false_or, not_true_eq_false, not_false_eq_true]
    · rw [li0] at e
      simp (disch := omega) only [Option.bind_some, if_true, if_false, Sum.elim_inl, Sum.elim_inr, li0, li1, li2, li3, li4, li5, li6, li7, li8, li9, li10, li12, li16, li20, li24, li25, li31, li32, li40, li41, li42, li48, li57, li59, li97, li104, li105, li124, li126, li240, li241, nI_add, nI_subc, nI_subm, nI_mulc, nI_nm, pu_r, pu_t, pu_a, pu_le_t, pu_le_f, pu_lt_t, pu_lt_f, pu_eq_t, pu_eq_f, nm_eq, nm_eq2, nm_lt, nm_lt2, nm_le, nm_le2, nm_ss, nm_sp, pu_ss, pu_snq, pu_neq, eq_self, and_true, true_and, and_false, false_and, or_true, true_or, or_false, false_or, not_true_eq_false, not_false_eq_true] at e
  | true =>
    obtain ⟨b, -, hb, rfl⟩ := iB_n hb0 (by omega) (by omega)
    have hU := sd9 (b := b) hT
    have hv : ∀ f : Nat → Nat, f = (fun x => byt (bf (sd T n b) (pa (sd T n b) n x))) → ∃ r M1, hL_print M (nI b) = some (r, M1) ∧ ∃ v M2, mX12_print_63 M1 (nI b) = some (v, M2) ∧ M2.1 63 0 = r ∧ (r = 0 → M2.2.2 0 = v) ∧ Inv M2 := fun f hf => by
      have hz : vA T n m W X t F S P D (me_s (me_o M 0 (prs f (n + 1))) 63 0 (nI 0)) := vA.z (M := me_o M 0 (prs f (n + 1))) ha (fr.s (by omega))
      refine ⟨0, me_o M 0 (prs f (n + 1)), ?_, prs f (n + 1), me_s (me_o M 0 (prs f (n + 1))) 63 0 (nI 0), ?_, ?_, fun _ => rfl, Inv.go (M := me_o M 0 (prs f (n + 1))) h.o (fr.s (S := scr) (by unfold scr; omega))⟩
      · have hj2 : b = 0 ∨ b = 1 := by omega
        rcases hj2 with rfl | rfl
        · have eC : (9 + 5 * 0 = 9) = True := by decide
          have hl : me_l (mX11_print_0_L19 M) me_fu (0, nI 0) = some (prs f (n + 1)) := by
            refine lp_to (fun x => (prs f x, nI x)) (a := 0) (N := n + 1) (by omega) (by omega) (fun x _ hx => ?_) ?_
            · simp only [mX11_print_0_L19]
              have h1 := bf_lt (p := pa (sd T n 0) n x) hU.2.1
              have h3 := (c_before (b := 0) hT ha.1.2.1 (by omega) (show x ≤ n by omega)).1 rfl
              simp (disch := omega) only [Option.bind_some, if_true, if_false, Sum.elim_inl, Sum.elim_inr, li0, li1, li2, li3, li4, li5, li6, li7, li8, li9, li10, li12, li16, li20, li24, li25, li31, li32, li40, li41, li42, li48, li57, li59, li97, li104, li105, li124, li126, li240, li241, nI_add, nI_subc, nI_subm, nI_mulc, nI_nm, pu_r, pu_t, pu_a, pu_le_t, pu_le_f, pu_lt_t, pu_lt_f, pu_eq_t, pu_eq_f, nm_eq, nm_eq2, nm_lt, nm_lt2, nm_le, nm_le2, nm_ss, nm_sp, pu_ss, pu_snq, pu_neq, eq_self, and_true, true_and, and_false, false_and, or_true, true_or, or_false, false_or, not_true_eq_false, not_false_eq_true, c1, h3, c_byteOf, prs, hf]
            · simp only [mX11_print_0_L19]
              simp (disch := omega) only [Option.bind_some, if_true, if_false, Sum.elim_inl, Sum.elim_inr, li0, li1, li2, li3, li4, li5, li6, li7, li8, li9, li10, li12, li16, li20, li24, li25, li31, li32, li40, li41, li42, li48, li57, li59, li97, li104, li105, li124, li126, li240, li241, nI_add, nI_subc, nI_subm, nI_mulc, nI_nm, pu_r, pu_t, pu_a, pu_le_t, pu_le_f, pu_lt_t, pu_lt_f, pu_eq_t, pu_eq_f, nm_eq, nm_eq2, nm_lt, nm_lt2, nm_le, nm_le2, nm_ss, nm_sp, pu_ss, pu_snq, pu_neq, eq_self, and_true, true_and, and_false, false_and, or_true, true_or, or_false, false_or, not_true_eq_false, not_false_eq_true, c1]
          simp (disch := omega) only [↓reduceIte, ↓needEb, ↓needAb, ↓needSb, ↓needE0l, ↓needE1l, ↓needA0l, ↓needA1l, ↓needS0l, ↓needS1l, ↓bnd c_isWhat, ↓bnd c_isSide, ↓bnd c_isLetter, ↓bnd c_isLength, ↓bnd c_isOften, ↓bnd r_in, ↓bnd r_isLetter, bI_t, bI_f, Bool.false_eq_true, Option.bind_none, Option.none_or, Option.some_or, xAN, xNA, xSA, Option.bind_some, if_true, if_false, Sum.elim_inl, Sum.elim_inr, li0, li1, li2, li3, li4, li5, li6, li7, li8, li9, li10, li12, li16, li20, li24, li25, li31, li32, li40, li41, li42, li48, li57, li59, li97, li104, li105, li124, li126, li240, li241, nI_add, nI_subc, nI_subm, nI_mulc, nI_nm, pu_r, pu_t, pu_a, pu_le_t, pu_le_f, pu_lt_t, pu_lt_f, pu_eq_t, pu_eq_f, nm_eq, nm_eq2, nm_lt, nm_lt2, nm_le, nm_le2, nm_ss, nm_sp, pu_ss, pu_snq, pu_neq, eq_self, and_true, true_and, and_false, false_and, or_true, true_or, or_false, false_or, not_true_eq_false, not_false_eq_true, hL_print, mX11_print_0, hb0, ↓bnd (c_rowsOf (M := M) (b := 0) (by omega)), eC, hl]
        · have eC : (9 + 5 * 1 = 9) = False := by decide
          have eD : (9 + 5 * 1 = 14) = True := by decide
          have hl : me_l (mX11_print_0_L19_1 M) me_fu (0, nI 0) = some (prs f (n + 1)) := by
            refine lp_to (fun x => (prs f x, nI x)) (a := 0) (N := n + 1) (by omega) (by omega) (fun x _ hx => ?_) ?_
            · simp only [mX11_print_0_L19_1]
              have h1 := bf_lt (p := pa (sd T n 1) n x) hU.2.1
              have h3 := (c_before (b := 1) hT ha.1.2.1 (by omega) (show x ≤ n by omega)).2 rfl
              simp (disch := omega) only [Option.bind_some, if_true, if_false, Sum.elim_inl, Sum.elim_inr, li0, li1, li2, li3, li4, li5, li6, li7, li8, li9, li10, li12, li16, li20, li24, li25, li31, li32, li40, li41, li42, li48, li57, li59, li97, li104, li105, li124, li126, li240, li241, nI_add, nI_subc, nI_subm, nI_mulc, nI_nm, pu_r, pu_t, pu_a, pu_le_t, pu_le_f, pu_lt_t, pu_lt_f, pu_eq_t, pu_eq_f, nm_eq, nm_eq2, nm_lt, nm_lt2, nm_le, nm_le2, nm_ss, nm_sp, pu_ss, pu_snq, pu_neq, eq_self, and_true, true_and, and_false, false_and, or_true, true_or, or_false, false_or, not_true_eq_false, not_false_eq_true, c1, h3, c_byteOf, prs, hf]
            · simp only [mX11_print_0_L19_1]
              simp (disch := omega) only [Option.bind_some, if_true, if_false, Sum.elim_inl, Sum.elim_inr, li0, li1, li2, li3, li4, li5, li6, li7, li8, li9, li10, li12, li16, li20, li24, li25, li31, li32, li40, li41, li42, li48, li57, li59, li97, li104, li105, li124, li126, li240, li241, nI_add, nI_subc, nI_subm, nI_mulc, nI_nm, pu_r, pu_t, pu_a, pu_le_t, pu_le_f, pu_lt_t, pu_lt_f, pu_eq_t, pu_eq_f, nm_eq, nm_eq2, nm_lt, nm_lt2, nm_le, nm_le2, nm_ss, nm_sp, pu_ss, pu_snq, pu_neq, eq_self, and_true, true_and, and_false, false_and, or_true, true_or, or_false, false_or, not_true_eq_false, not_false_eq_true, c1]
          simp (disch := omega) only [↓reduceIte, ↓needEb, ↓needAb, ↓needSb, ↓needE0l, ↓needE1l, ↓needA0l, ↓needA1l, ↓needS0l, ↓needS1l, ↓bnd c_isWhat, ↓bnd c_isSide, ↓bnd c_isLetter, ↓bnd c_isLength, ↓bnd c_isOften, ↓bnd r_in, ↓bnd r_isLetter, bI_t, bI_f, Bool.false_eq_true, Option.bind_none, Option.none_or, Option.some_or, xAN, xNA, xSA, Option.bind_some, if_true, if_false, Sum.elim_inl, Sum.elim_inr, li0, li1, li2, li3, li4, li5, li6, li7, li8, li9, li10, li12, li16, li20, li24, li25, li31, li32, li40, li41, li42, li48, li57, li59, li97, li104, li105, li124, li126, li240, li241, nI_add, nI_subc, nI_subm, nI_mulc, nI_nm, pu_r, pu_t, pu_a, pu_le_t, pu_le_f, pu_lt_t, pu_lt_f, pu_eq_t, pu_eq_f, nm_eq, nm_eq2, nm_lt, nm_lt2, nm_le, nm_le2, nm_ss, nm_sp, pu_ss, pu_snq, pu_neq, eq_self, and_true, true_and, and_false, false_and, or_true, true_or, or_false, false_or, not_true_eq_false, not_false_eq_true, hL_print, mX11_print_0, hb0, ↓bnd (c_rowsOf (M := M) (b := 1) (by omega)), eC, eD, hl]
      · rw [zX12_print, li0]
        have e0 : (me_s (me_o M 0 (prs f (n + 1))) 63 0 (nI 0)).1 63 0 = nI 0 := pu_ss
        have hl : me_l (mX12_print_63_L35 (me_s (me_o M 0 (prs f (n + 1))) 63 0 (nI 0)) (nI b)) me_fu (0, nI 0) = some (prs f (n + 1)) := by
          refine lp_to (fun x => (prs f x, nI x)) (a := 0) (N := n + 1) (by omega) (by omega) (fun x _ hx => ?_) ?_
          · simp only [mX12_print_63_L35]
            have h1 := bf_lt (p := pa (sd T n b) n x) hU.2.1
            have h3 := r_before hT hz.1.2.2.1 (show b < 2 by omega) (show x ≤ n by omega)
            have h4 := hz.1.2.2.1.1.1
            rw [h4, h3]
            simp (disch := omega) only [Option.bind_some, if_true, if_false, Sum.elim_inl, Sum.elim_inr, li0, li1, li2, li3, li4, li5, li6, li7, li8, li9, li10, li12, li16, li20, li24, li25, li31, li32, li40, li41, li42, li48, li57, li59, li97, li104, li105, li124, li126, li240, li241, nI_add, nI_subc, nI_subm, nI_mulc, nI_nm, pu_r, pu_t, pu_a, pu_le_t, pu_le_f, pu_lt_t, pu_lt_f, pu_eq_t, pu_eq_f, nm_eq, nm_eq2, nm_lt, nm_lt2, nm_le, nm_le2, nm_ss, nm_sp, pu_ss, pu_snq, pu_neq, eq_self, and_true, true_and, and_false, false_and, or_true, true_or, or_false, false_or, not_true_eq_false, not_false_eq_true, r_byteOf, prs, hf]
          · simp only [mX12_print_63_L35]
            have h4 := hz.1.2.2.1.1.1
            rw [h4]
            simp (disch := omega) only [Option.bind_some, if_true, if_false, Sum.elim_inl, Sum.elim_inr, li0, li1, li2, li3, li4, li5, li6, li7, li8, li9, li10, li12, li16, li20, li24, li25, li31, li32, li40, li41, li42, li48, li57, li59, li97, li104, li105, li124, li126, li240, li241, nI_add, nI_subc, nI_subm, nI_mulc, nI_nm, pu_r, pu_t, pu_a, pu_le_t, pu_le_f, pu_lt_t, pu_lt_f, pu_eq_t, pu_eq_f, nm_eq, nm_eq2, nm_lt, nm_lt2, nm_le, nm_le2, nm_ss, nm_sp, pu_ss, pu_snq, pu_neq, eq_self, and_true, true_and, and_false, false_and, or_true, true_or, or_false, false_or, not_true_eq_false, not_false_eq_true]
        simp (disch := omega) only [↓reduceIte, ↓needEb, ↓needAb, ↓needSb, ↓needE0l, ↓needE1l, ↓needA0l, ↓needA1l, ↓needS0l, ↓needS1l, ↓bnd c_isWhat, ↓bnd c_isSide, ↓bnd c_isLetter, ↓bnd c_isLength, ↓bnd c_isOften, ↓bnd r_in, ↓bnd r_isLetter, bI_t, bI_f, Bool.false_eq_true, Option.bind_none, Option.none_or, Option.some_or, xAN, xNA, xSA, Option.bind_some, if_true, if_false, Sum.elim_inl, Sum.elim_inr, li0, li1, li2, li3, li4, li5, li6, li7, li8, li9, li10, li12, li16, li20, li24, li25, li31, li32, li40, li41, li42, li48, li57, li59, li97, li104, li105, li124, li126, li240, li241, nI_add, nI_subc, nI_subm, nI_mulc, nI_nm, pu_r, pu_t, pu_a, pu_le_t, pu_le_f, pu_lt_t, pu_lt_f, pu_eq_t, pu_eq_f, nm_eq, nm_eq2, nm_lt, nm_lt2, nm_le, nm_le2, nm_ss, nm_sp, pu_ss, pu_snq, pu_neq, eq_self, and_true, true_and, and_false, false_and, or_true, true_or, or_false, false_or, not_true_eq_false, not_false_eq_true, nX12_print, mX12_print_63_J20, hb0, ↓bnd (r_bad0l e0), hl]
      · rw [pu_ss, nI_0]
    exact hv _ rfl
theorem qr_letter {T : Nat → Nat} {n m : Nat} {W X : Nat → Nat} {t : Nat} {F : Nat → Nat} {S P : Nat} {D : Nat → Nat → Nat → Nat} {M : me_M} (h : Inv M) (ha : vA T n m W X t F S P D M) (a0 : Int32) (hb0 : iB a0 (nI 0) (dn m) = true) : aQ (hL_letter M a0) (fun M1 => mX12_letter_63 M1 a0) := by
  obtain ⟨h1, h2, h3, h4, h5, h6⟩ := ha.2.1.1
  obtain ⟨k, hk, rfl⟩ := iB_d hb0 (by omega)
  have hw := fW_b W m h1
  have hq : ∀ M0, vA T n m W X t F S P D M0 → M0.1 75 (fW W m + 2 + k) = nI (wn W X m k) ∧ 2 ≤ wn W X m k ∧ wn W X m k < 10 := fun M0 h0 => h0.2.1.2.1.2.2.2 k hk
  have hq1 := (hq M ha).2
  have hq2 : X (fW W m + k) = wn W X m k := rfl
  refine aQ.p (v := nI (byt (wn W X m k))) (G := fun M0 => nX12_letter M0 (nI k)) (fun M1 => zX12_letter M1 _) h ha ?_ (fun M0 h0 hz hf => ?_)
  · have h5k := h5 k hk
    have hbt : wn W X m k - 2 + 97 = byt (wn W X m k) := by
      unfold byt
      rw [if_neg (by omega), if_neg (by omega)]
      omega
    rw [hq2] at h5k
    simp (disch := omega) only [↓reduceIte, ↓needEb, ↓needAb, ↓needSb, ↓needE0l, ↓needE1l, ↓needA0l, ↓needA1l, ↓needS0l, ↓needS1l, ↓bnd c_isWhat, ↓bnd c_isSide, ↓bnd c_isLetter, ↓bnd c_isLength, ↓bnd c_isOften, ↓bnd r_in, ↓bnd r_isLetter, bI_t, bI_f, Bool.false_eq_true, Option.bind_none, Option.none_or, Option.some_or, xAN, xNA, xSA, Option.bind_some, if_true, if_false, Sum.elim_inl, Sum.elim_inr, li0, li1, li2, li3, li4, li5, li6, li7, li8, li9, li10, li12, li16, li20, li24, li25, li31, li32, li40, li41, li42, li48, li57, li59, li97, li104, li105, li124, li126, li240, li241, nI_add, nI_subc, nI_subm, nI_mulc, nI_nm, pu_r, pu_t, pu_a, pu_le_t, pu_le_f, pu_lt_t, pu_lt_f, pu_eq_t, pu_eq_f, nm_eq, nm_eq2, nm_lt, nm_lt2, nm_le, nm_le2, nm_ss, nm_sp, pu_ss, pu_snq, pu_neq, eq_self, and_true, true_and, and_false, false_and, or_true, true_or, or_false, false_or, not_true_eq_false, not_false_eq_true, hL_letter, mX11_letter_0, mX11_letter_0_J20, mX11_letter_0_J21, h3, c_rng, hb0, mX0_letterAt_19, h4, h5k, hbt]
  · have h7 := (hq M0 h0).1
    simp (disch := omega) only [↓reduceIte, ↓needEb, ↓needAb, ↓needSb, ↓needE0l, ↓needE1l, ↓needA0l, ↓needA1l, ↓needS0l, ↓needS1l, ↓bnd c_isWhat, ↓bnd c_isSide, ↓bnd c_isLetter, ↓bnd c_isLength, ↓bnd c_isOften, ↓bnd r_in, ↓bnd r_isLetter, bI_t, bI_f, Bool.false_eq_true, Option.bind_none, Option.none_or, Option.some_or, xAN, xNA, xSA, Option.bind_some, if_true, if_false, Sum.elim_inl, Sum.elim_inr, li0, li1, li2, li3, li4, li5, li6, li7, li8, li9, li10, li12, li16, li20, li24, li25, li31, li32, li40, li41, li42, li48, li57, li59, li97, li104, li105, li124, li126, li240, li241, nI_add, nI_mulc, nI_nm, pu_r, pu_t, pu_a, pu_le_t, pu_le_f, pu_lt_t, pu_lt_f, pu_eq_t, pu_eq_f, nm_eq, nm_eq2, nm_lt, nm_lt2, nm_le, nm_le2, nm_ss, nm_sp, pu_ss, pu_snq, pu_neq, eq_self, and_true, true_and, and_false, false_and, or_true, true_or, or_false, false_or, not_true_eq_false, not_false_eq_true, nX12_letter, mX12_letter_63_J25, r_letters h0.2.1.2.1, dn_m, hb0, ↓bnd (r_bad0l hz), h0.2.1.2.1.1, h7, r_byteOf]
theorem q_letter {M : me_M} (h : Inv M) (a0 : Int32) : aQ (hL_letter M a0) (fun M1 => mX12_letter_63 M1 a0) := by
  obtain ⟨T, n, m, W, X, t, F, S, P, D, ha⟩ := h.vA
  have hT := ha.1.1
  have hx := ha.1.2.1
  have c1 := hx.1.1.1
  have hn := hT.2.2.2
  have h9 := hT.2.1
  have hp1 := ha.2.2.1.2.1
  have ht := ha.2.2.1.1
  have hm4 := ha.2.1.1.2.2.1
  have hm40 := ha.2.1.1.1
  cases hb0 : iB a0 (nI 0) (dn m) with
  | false =>
    refine aQ.t 0 1 (G := fun M0 => nX12_letter M0 a0) (fun M1 => zX12_letter M1 a0) h ha (by omega) (by omega) (by omega) ?_ (fun M0 h0 hz hf => ?_)
    · simp (disch := omega) only [↓reduceIte, ↓needEb, ↓needAb, ↓needSb, ↓needE0l, ↓needE1l, ↓needA0l, ↓needA1l, ↓needS0l, ↓needS1l, ↓bnd c_isWhat, ↓bnd c_isSide, ↓bnd c_isLetter, ↓bnd c_isLength, ↓bnd c_isOften, ↓bnd r_in, ↓bnd r_isLetter, bI_t, bI_f, Bool.false_eq_true, Option.bind_none, Option.none_or, Option.some_or, xAN, xNA, xSA, Option.bind_some, if_true, if_false, Sum.elim_inl, Sum.elim_inr, li0, li1, li2, li3, li4, li5, li6, li7, li8, li9, li10, li12, li16, li20, li24, li25, li31, li32, li40, li41, li42, li48, li57, li59, li97, li104, li105, li124, li126, li240, li241, nI_add, nI_subc, nI_subm, nI_mulc, nI_nm, pu_r, pu_t, pu_a, pu_le_t, pu_le_f, pu_lt_t, pu_lt_f, pu_eq_t, pu_eq_f, nm_eq, nm_eq2, nm_lt, nm_lt2, nm_le, nm_le2, nm_ss, nm_sp, pu_ss, pu_snq, pu_neq, eq_self, and_true, true_and, and_false, false_and, or_true, true_or, or_false, false_or, not_true_eq_false, not_false_eq_true, mX11_letter_0_J21, mX11_letter_0_J20, mX11_letter_0, tX11_letter_0_J21, tX11_letter_0_J20, tX11_letter_0, hL_letter, hm4, c_rng, needE1, hb0]
    · simp (disch := omega) only [↓reduceIte, ↓needEb, ↓needAb, ↓needSb, ↓needE0l, ↓needE1l, ↓needA0l, ↓needA1l, ↓needS0l, ↓needS1l, ↓bnd c_isWhat, ↓bnd c_isSide, ↓bnd c_isLetter, ↓bnd c_isLength, ↓bnd c_isOften, ↓bnd r_in, ↓bnd r_isLetter, bI_t, bI_f, Bool.false_eq_true, Option.bind_none, Option.none_or, Option.some_or, xAN, xNA, xSA, Option.bind_some, if_true, if_false, Sum.elim_inl, Sum.elim_inr, li0, li1, li2, li3, li4, li5, li6, li7, li8, li9, li10, li12, li16, li20, li24, li25, li31, li32, li40, li41, li42, li48, li57, li59, li97, li104, li105, li124, li126, li240, li241, nI_add, nI_mulc, nI_nm, pu_r, pu_t, pu_a, pu_le_t, pu_le_f, pu_lt_t, pu_lt_f, pu_eq_t, pu_eq_f, nm_eq, nm_eq2, nm_lt, nm_lt2, nm_le, nm_le2, nm_ss, nm_sp, pu_ss, pu_snq, pu_neq, eq_self, and_true, true_and, and_false, false_and, or_true, true_or, or_false, false_or, not_true_eq_false, not_false_eq_true, nX12_letter, mX12_letter_63_J25, r_letters h0.2.1.2.1, dn_m, hb0, ↓bnd (r_bad0l hz), ↓bnd (r_bad10 hz), ↓bnd (r_bad11 hz), ↓bnd (r_bad21 hz), ↓bnd (r_bad22 hz)]
  | true =>
    exact qr_letter h ha a0 hb0
theorem qr_step {T : Nat → Nat} {n m : Nat} {W X : Nat → Nat} {t : Nat} {F : Nat → Nat} {S P : Nat} {D : Nat → Nat → Nat → Nat} {M : me_M} (h : Inv M) (ha : vA T n m W X t F S P D M) (a0 : Int32) (hb0 : iB a0 (nI 1) (nI 16) = true) : aQ (hL_step M a0) (fun M1 => mX12_step_63 M1 a0) := by
  obtain ⟨j, j1, j2, rfl⟩ := iB_n hb0 (by omega) (by omega)
  obtain ⟨v, v1, v2, v3, v4⟩ := ha.2.2.2.1.2
  refine aQ.c (M1 := me_s M 0 12 (nI j)) (v := nI v) (M2 := me_s (me_s (me_o (me_s M 0 12 (nI j)) 0 (nI v).toInt64) 63 0 (nI 0)) 63 6 (nI j)) (G := fun M0 => nX12_step M0 (nI j)) (fun M1 => zX12_step M1 _) ?_ ?_ ?_ rfl ?_
  · simp (disch := omega) only [↓reduceIte, ↓needEb, ↓needAb, ↓needSb, ↓needE0l, ↓needE1l, ↓needA0l, ↓needA1l, ↓needS0l, ↓needS1l, ↓bnd c_isWhat, ↓bnd c_isSide, ↓bnd c_isLetter, ↓bnd c_isLength, ↓bnd c_isOften, ↓bnd r_in, ↓bnd r_isLetter, bI_t, bI_f, Bool.false_eq_true, Option.bind_none, Option.none_or, Option.some_or, xAN, xNA, xSA, Option.bind_some, if_true, if_false, Sum.elim_inl, Sum.elim_inr, li0, li1, li2, li3, li4, li5, li6, li7, li8, li9, li10, li12, li16, li20, li24, li25, li31, li32, li40, li41, li42, li48, li57, li59, li97, li104, li105, li124, li126, li240, li241, nI_add, nI_subc, nI_subm, nI_mulc, nI_nm, pu_r, pu_t, pu_a, pu_le_t, pu_le_f, pu_lt_t, pu_lt_f, pu_eq_t, pu_eq_f, nm_eq, nm_eq2, nm_lt, nm_lt2, nm_le, nm_le2, nm_ss, nm_sp, pu_ss, pu_snq, pu_neq, eq_self, and_true, true_and, and_false, false_and, or_true, true_or, or_false, false_or, not_true_eq_false, not_false_eq_true, hL_step, mX11_step_0, mX11_step_0_J16, mX11_step_0_J17, c_rng2, hb0, v3]
  · have e0 : (me_s (me_o (me_s M 0 12 (nI j)) 0 (nI v).toInt64) 63 0 (nI 0)).1 63 0 = nI 0 := pu_ss
    have e1 : (me_s (me_o (me_s M 0 12 (nI j)) 0 (nI v).toInt64) 63 0 (nI 0)).1 63 6 = nI v := by
      rw [pu_sn (by decide)]
      show (me_s M 0 12 (nI j)).1 63 6 = nI v
      rw [me_s_ne (by decide)]
      exact v4
    simp (disch := omega) only [↓reduceIte, ↓needEb, ↓needAb, ↓needSb, ↓needE0l, ↓needE1l, ↓needA0l, ↓needA1l, ↓needS0l, ↓needS1l, ↓bnd c_isWhat, ↓bnd c_isSide, ↓bnd c_isLetter, ↓bnd c_isLength, ↓bnd c_isOften, ↓bnd r_in, ↓bnd r_isLetter, bI_t, bI_f, Bool.false_eq_true, Option.bind_none, Option.none_or, Option.some_or, xAN, xNA, xSA, Option.bind_some, if_true, if_false, Sum.elim_inl, Sum.elim_inr, li0, li1, li2, li3, li4, li5, li6, li7, li8, li9, li10, li12, li16, li20, li24, li25, li31, li32, li40, li41, li42, li48, li57, li59, li97, li104, li105, li124, li126, li240, li241, nI_add, nI_subc, nI_subm, nI_mulc, nI_nm, pu_r, pu_t, pu_a, pu_le_t, pu_le_f, pu_lt_t, pu_lt_f, pu_eq_t, pu_eq_f, nm_eq, nm_eq2, nm_lt, nm_lt2, nm_le, nm_le2, nm_ss, nm_sp, pu_ss, pu_snq, pu_neq, eq_self, and_true, true_and, and_false, false_and, or_true, true_or, or_false, false_or, not_true_eq_false, not_false_eq_true, nX12_step, mX12_step_63_J21, hb0, ↓bnd (r_bad0l e0), me_o1, v4]
  · rw [pu_sn (by decide), pu_ss]
  · obtain ⟨T, n, m, W, X, t, F, S, P, D, g1, g2, g3, ⟨k1, k2, k3, k4, k5⟩, g5, g6, g7⟩ := h
    have hx : fr (fun b k => (b = 0 ∧ k = 12) ∨ (b = 63 ∧ (k = 0 ∨ k = 6))) M (me_s (me_s (me_s M 0 12 (nI j)) 63 0 (nI 0)) 63 6 (nI j)) := ((fr.s (by omega)).st (by omega)).st (by omega)
    show Inv (me_s (me_s (me_s M 0 12 (nI j)) 63 0 (nI 0)) 63 6 (nI j))
    refine ⟨T, n, m, W, X, t, F, S, P, D, g1.fr hx ?_ ?_ ?_ ?_, g2.fr hx ?_ ?_ ?_ ?_ ?_, g3.fr hx ?_ ?_ ?_ ?_, ⟨?_, ?_, ?_, ?_, j, j1, j2, ?_, ?_⟩, g5.fr hx ?_ ?_ ?_ ?_ ?_ ?_, g6.fr hx ?_ ?_ ?_, g7.fr hx ?_ ?_ ?_ ?_⟩
    case refine_14 => simp (disch := omega) only [Option.bind_some, if_true, if_false, Sum.elim_inl, Sum.elim_inr, li0, li1, li2, li3, li4, li5, li6, li7, li8, li9, li10, li12, li16, li20, li24, li25, li31, li32, li40, li41, li42, li48, li57, li59, li97, li104, li105, li124, li126, li240, li241, nI_add, nI_subc, nI_subm, nI_mulc, nI_nm, pu_r, pu_t, pu_a, pu_le_t, pu_le_f, pu_lt_t, pu_lt_f, pu_eq_t, pu_eq_f, nm_eq, nm_eq2, nm_lt, nm_lt2, nm_le, nm_le2, nm_ss, nm_sp, pu_ss, pu_snq, pu_neq, eq_self, and_true, true_and, and_false, false_and, or_true, true_or, or_false, false_or, not_true_eq_false, not_false_eq_true, k1]
    case refine_15 => simp (disch := omega) only [Option.bind_some, if_true, if_false, Sum.elim_inl, Sum.elim_inr, li0, li1, li2, li3, li4, li5, li6, li7, li8, li9, li10, li12, li16, li20, li24, li25, li31, li32, li40, li41, li42, li48, li57, li59, li97, li104, li105, li124, li126, li240, li241, nI_add, nI_subc, nI_subm, nI_mulc, nI_nm, pu_r, pu_t, pu_a, pu_le_t, pu_le_f, pu_lt_t, pu_lt_f, pu_eq_t, pu_eq_f, nm_eq, nm_eq2, nm_lt, nm_lt2, nm_le, nm_le2, nm_ss, nm_sp, pu_ss, pu_snq, pu_neq, eq_self, and_true, true_and, and_false, false_and, or_true, true_or, or_false, false_or, not_true_eq_false, not_false_eq_true, k2]
    case refine_16 => simp (disch := omega) only [Option.bind_some, if_true, if_false, Sum.elim_inl, Sum.elim_inr, li0, li1, li2, li3, li4, li5, li6, li7, li8, li9, li10, li12, li16, li20, li24, li25, li31, li32, li40, li41, li42, li48, li57, li59, li97, li104, li105, li124, li126, li240, li241, nI_add, nI_subc, nI_subm, nI_mulc, nI_nm, pu_r, pu_t, pu_a, pu_le_t, pu_le_f, pu_lt_t, pu_lt_f, pu_eq_t, pu_eq_f, nm_eq, nm_eq2, nm_lt, nm_lt2, nm_le, nm_le2, nm_ss, nm_sp, pu_ss, pu_snq, pu_neq, eq_self, and_true, true_and, and_false, false_and, or_true, true_or, or_false, false_or, not_true_eq_false, not_false_eq_true, k3]
    case refine_17 => simp (disch := omega) only [Option.bind_some, if_true, if_false, Sum.elim_inl, Sum.elim_inr, li0, li1, li2, li3, li4, li5, li6, li7, li8, li9, li10, li12, li16, li20, li24, li25, li31, li32, li40, li41, li42, li48, li57, li59, li97, li104, li105, li124, li126, li240, li241, nI_add, nI_subc, nI_subm, nI_mulc, nI_nm, pu_r, pu_t, pu_a, pu_le_t, pu_le_f, pu_lt_t, pu_lt_f, pu_eq_t, pu_eq_f, nm_eq, nm_eq2, nm_lt, nm_lt2, nm_le, nm_le2, nm_ss, nm_sp, pu_ss, pu_snq, pu_neq, eq_self, and_true, true_and, and_false, false_and, or_true, true_or, or_false, false_or, not_true_eq_false, not_false_eq_true, k4]
    case refine_18 => simp (disch := omega) only [Option.bind_some, if_true, if_false, Sum.elim_inl, Sum.elim_inr, li0, li1, li2, li3, li4, li5, li6, li7, li8, li9, li10, li12, li16, li20, li24, li25, li31, li32, li40, li41, li42, li48, li57, li59, li97, li104, li105, li124, li126, li240, li241, nI_add, nI_subc, nI_subm, nI_mulc, nI_nm, pu_r, pu_t, pu_a, pu_le_t, pu_le_f, pu_lt_t, pu_lt_f, pu_eq_t, pu_eq_f, nm_eq, nm_eq2, nm_lt, nm_lt2, nm_le, nm_le2, nm_ss, nm_sp, pu_ss, pu_snq, pu_neq, eq_self, and_true, true_and, and_false, false_and, or_true, true_or, or_false, false_or, not_true_eq_false, not_false_eq_true]
    case refine_19 => simp (disch := omega) only [Option.bind_some, if_true, if_false, Sum.elim_inl, Sum.elim_inr, li0, li1, li2, li3, li4, li5, li6, li7, li8, li9, li10, li12, li16, li20, li24, li25, li31, li32, li40, li41, li42, li48, li57, li59, li97, li104, li105, li124, li126, li240, li241, nI_add, nI_subc, nI_subm, nI_mulc, nI_nm, pu_r, pu_t, pu_a, pu_le_t, pu_le_f, pu_lt_t, pu_lt_f, pu_eq_t, pu_eq_f, nm_eq, nm_eq2, nm_lt, nm_lt2, nm_le, nm_le2, nm_ss, nm_sp, pu_ss, pu_snq, pu_neq, eq_self, and_true, true_and, and_false, false_and, or_true, true_or, or_false, false_or, not_true_eq_false, not_false_eq_true]
    all_goals (intros; omega)
theorem q_step {M : me_M} (h : Inv M) (a0 : Int32) : aQ (hL_step M a0) (fun M1 => mX12_step_63 M1 a0) := by
  obtain ⟨T, n, m, W, X, t, F, S, P, D, ha⟩ := h.vA
  have hT := ha.1.1
  have hx := ha.1.2.1
  have c1 := hx.1.1.1
  have hn := hT.2.2.2
  have h9 := hT.2.1
  have hp1 := ha.2.2.1.2.1
  have ht := ha.2.2.1.1
  have hm4 := ha.2.1.1.2.2.1
  have hm40 := ha.2.1.1.1
  cases hb0 : iB a0 (nI 1) (nI 16) with
  | false =>
    refine aQ.t 1 1 (G := fun M0 => nX12_step M0 a0) (fun M1 => zX12_step M1 a0) h ha (by omega) (by omega) (by omega) ?_ (fun M0 h0 hz hf => ?_)
    · simp (disch := omega) only [↓reduceIte, ↓needEb, ↓needAb, ↓needSb, ↓needE0l, ↓needE1l, ↓needA0l, ↓needA1l, ↓needS0l, ↓needS1l, ↓bnd c_isWhat, ↓bnd c_isSide, ↓bnd c_isLetter, ↓bnd c_isLength, ↓bnd c_isOften, ↓bnd r_in, ↓bnd r_isLetter, bI_t, bI_f, Bool.false_eq_true, Option.bind_none, Option.none_or, Option.some_or, xAN, xNA, xSA, Option.bind_some, if_true, if_false, Sum.elim_inl, Sum.elim_inr, li0, li1, li2, li3, li4, li5, li6, li7, li8, li9, li10, li12, li16, li20, li24, li25, li31, li32, li40, li41, li42, li48, li57, li59, li97, li104, li105, li124, li126, li240, li241, nI_add, nI_subc, nI_subm, nI_mulc, nI_nm, pu_r, pu_t, pu_a, pu_le_t, pu_le_f, pu_lt_t, pu_lt_f, pu_eq_t, pu_eq_f, nm_eq, nm_eq2, nm_lt, nm_lt2, nm_le, nm_le2, nm_ss, nm_sp, pu_ss, pu_snq, pu_neq, eq_self, and_true, true_and, and_false, false_and, or_true, true_or, or_false, false_or, not_true_eq_false, not_false_eq_true, mX11_step_0_J17, mX11_step_0_J16, mX11_step_0, tX11_step_0_J17, tX11_step_0_J16, tX11_step_0, hL_step, c_rng2, hb0]
    · simp (disch := omega) only [↓reduceIte, ↓needEb, ↓needAb, ↓needSb, ↓needE0l, ↓needE1l, ↓needA0l, ↓needA1l, ↓needS0l, ↓needS1l, ↓bnd c_isWhat, ↓bnd c_isSide, ↓bnd c_isLetter, ↓bnd c_isLength, ↓bnd c_isOften, ↓bnd r_in, ↓bnd r_isLetter, bI_t, bI_f, Bool.false_eq_true, Option.bind_none, Option.none_or, Option.some_or, xAN, xNA, xSA, Option.bind_some, if_true, if_false, Sum.elim_inl, Sum.elim_inr, li0, li1, li2, li3, li4, li5, li6, li7, li8, li9, li10, li12, li16, li20, li24, li25, li31, li32, li40, li41, li42, li48, li57, li59, li97, li104, li105, li124, li126, li240, li241, nI_add, nI_subc, nI_subm, nI_mulc, nI_nm, pu_r, pu_t, pu_a, pu_le_t, pu_le_f, pu_lt_t, pu_lt_f, pu_eq_t, pu_eq_f, nm_eq, nm_eq2, nm_lt, nm_lt2, nm_le, nm_le2, nm_ss, nm_sp, pu_ss, pu_snq, pu_neq, eq_self, and_true, true_and, and_false, false_and, or_true, true_or, or_false, false_or, not_true_eq_false, not_false_eq_true, nX12_step, mX12_step_63_J21, hb0, ↓bnd (r_bad0l hz), ↓bnd (r_bad10 hz), ↓bnd (r_bad11 hz), ↓bnd (r_bad21 hz), ↓bnd (r_bad22 hz)]
  | true =>
    exact qr_step h ha a0 hb0
