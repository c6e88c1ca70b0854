/-! ===== call: search, its pieces ===== -/
theorem c_takeP {t so : Nat} {F : Nat → Nat} {M : me_M} (h : vP t F M) (hs : so ≤ t) (h24 : so ≤ 24) (hF : ∀ k, k < so → 97 ≤ F k ∧ F k ≤ 104) : ∃ M', mX3_takePattern_47_1 M (nI so) = some M' ∧ fr (fun b k => (b = 47 ∧ k = 5) ∨ b = 48) M M' ∧ M'.1 47 5 = nI so ∧ ∀ i, i < so → M'.1 48 i = nI (F i - 97) := by
  have hmin : min so 24 = so := by omega
  obtain ⟨r, e, hr⟩ := lp_up (b := mX3_takePattern_47_1_L12) (fun x st => ∃ Mx, st = (nI x, Mx) ∧ fr (fun b _ => b = 48) (me_s M 47 5 (nI so)) Mx ∧ ∀ p, p < x → Mx.1 48 p = nI (F p - 97)) (fun r => fr (fun b _ => b = 48) (me_s M 47 5 (nI so)) r ∧ ∀ p, p < so → r.1 48 p = nI (F p - 97)) (a := 0) (N := so) (by omega) (by omega) (fun x st _ hx hst => by
    obtain ⟨Mx, rfl, hf, hI⟩ := hst
    left
    obtain ⟨f1, f2, -⟩ := h.2.2.2 x (by omega)
    obtain ⟨v1, v2⟩ := hF x hx
    have h2x : Mx.1 2 x = nI (F x) := by rw [hf.2 _ _ (by omega), me_s_ne (by decide)]; exact f2
    have h5x : Mx.1 47 5 = nI so := by rw [hf.2 _ _ (by omega)]; exact pu_ss
    refine ⟨(nI (x + 1), me_s Mx 48 x (nI (F x - 97))), ?_, _, rfl, hf.st (by omega), fun p hp => ?_⟩
    · simp only [mX3_takePattern_47_1_L12, mX9_letterAt_1]
      simp (disch := omega) only [Option.bind_some, if_true, if_false, Sum.elim_inl, Sum.elim_inr, li0, li1, li2, li3, li4, li5, li6, li7, li8, li9, li10, li12, li16, li20, li24, li25, li31, li32, li40, li41, li42, li48, li57, li59, li97, li104, li105, li124, li126, li240, li241, nI_add, nI_subc, nI_subm, nI_mulc, nI_nm, pu_r, pu_t, pu_a, pu_le_t, pu_le_f, pu_lt_t, pu_lt_f, pu_eq_t, pu_eq_f, nm_eq, nm_eq2, nm_lt, nm_lt2, nm_le, nm_le2, nm_ss, nm_sp, pu_ss, pu_snq, pu_neq, eq_self, and_true, true_and, and_false, false_and, or_true, true_or, or_false, false_or, not_true_eq_false, not_false_eq_true, h5x, h2x]
    · by_cases c : p = x
      · rw [c, pu_ss]
      · rw [pu_sn c]; exact hI p (by omega)) (fun st hst => by
    obtain ⟨Mx, rfl, hf, hI⟩ := hst
    have h5x : Mx.1 47 5 = nI so := by rw [hf.2 _ _ (by omega)]; exact pu_ss
    refine ⟨Mx, ?_, hf, hI⟩
    simp only [mX3_takePattern_47_1_L12]
    simp (disch := omega) only [Option.bind_some, if_true, if_false, Sum.elim_inl, Sum.elim_inr, li0, li1, li2, li3, li4, li5, li6, li7, li8, li9, li10, li12, li16, li20, li24, li25, li31, li32, li40, li41, li42, li48, li57, li59, li97, li104, li105, li124, li126, li240, li241, nI_add, nI_subc, nI_subm, nI_mulc, nI_nm, pu_r, pu_t, pu_a, pu_le_t, pu_le_f, pu_lt_t, pu_lt_f, pu_eq_t, pu_eq_f, nm_eq, nm_eq2, nm_lt, nm_lt2, nm_le, nm_le2, nm_ss, nm_sp, pu_ss, pu_snq, pu_neq, eq_self, and_true, true_and, and_false, false_and, or_true, true_or, or_false, false_or, not_true_eq_false, not_false_eq_true, h5x]) (s0 := (nI 0, me_s M 47 5 (nI so))) ⟨_, rfl, fr.rf, fun p hp => absurd hp (Nat.not_lt_zero _)⟩
  refine ⟨r, ?_, (fr.s (by omega)).tr (hr.1.up (fun b k h => by omega)), ?_, hr.2⟩
  · unfold mX3_takePattern_47_1
    rw [li24, c_min (by omega) (by omega), hmin, Option.bind_some, li0, e, Option.bind_some]
  · rw [hr.1.2 _ _ (by omega)]; exact pu_ss
theorem c_gather {n : Nat} {O E : Nat → Nat} {M : me_M} (hn : n ≤ 240) (hac : accC n O E M) (hO : ∀ p, p ≤ n → O p ≤ 8) : ∃ M', mX3_gather_47_36 M (nI n) = some M' ∧ fr (fun b k => (b = 47 ∧ (k = 4 ∨ (6 ≤ k ∧ k ≤ 8))) ∨ (49 ≤ b ∧ b ≤ 51)) M M' ∧ M'.1 47 4 = nI 1 ∧ M'.1 47 7 = M.1 36 11 ∧ M'.1 47 8 = M.1 36 10 ∧ M'.1 47 6 = nI (ct (fun p => decide (0 < O p)) (n + 1)) ∧ ∀ p, p < n + 1 → 0 < O p → M'.1 49 (ct (fun p => decide (0 < O p)) p) = nI p ∧ M'.1 50 (ct (fun p => decide (0 < O p)) p) = nI (E p) ∧ M'.1 51 (ct (fun p => decide (0 < O p)) p) = nI (O p) := by
  obtain ⟨N, hN⟩ : ∃ N, N = me_s (me_s (me_s (me_s M 47 4 (nI 1)) 47 7 (M.1 36 11)) 47 8 (M.1 36 10)) 47 6 (nI 0) := ⟨_, rfl⟩
  have fN : fr (fun b k => b = 47 ∧ (k = 4 ∨ (6 ≤ k ∧ k ≤ 8))) M N := by
    rw [hN]; exact (((fr.s (by omega)).st (by omega)).st (by omega)).st (by omega)
  have n4 : N.1 47 4 = nI 1 := by rw [hN]; simp (disch := omega) only [Option.bind_some, if_true, if_false, Sum.elim_inl, Sum.elim_inr, li0, li1, li2, li3, li4, li5, li6, li7, li8, li9, li10, li12, li16, li20, li24, li25, li31, li32, li40, li41, li42, li48, li57, li59, li97, li104, li105, li124, li126, li240, li241, nI_add, nI_subc, nI_subm, nI_mulc, nI_nm, pu_r, pu_t, pu_a, pu_le_t, pu_le_f, pu_lt_t, pu_lt_f, pu_eq_t, pu_eq_f, nm_eq, nm_eq2, nm_lt, nm_lt2, nm_le, nm_le2, nm_ss, nm_sp, pu_ss, pu_snq, pu_neq, eq_self, and_true, true_and, and_false, false_and, or_true, true_or, or_false, false_or, not_true_eq_false, not_false_eq_true]
  have n7 : N.1 47 7 = M.1 36 11 := by rw [hN]; simp (disch := omega) only [Option.bind_some, if_true, if_false, Sum.elim_inl, Sum.elim_inr, li0, li1, li2, li3, li4, li5, li6, li7, li8, li9, li10, li12, li16, li20, li24, li25, li31, li32, li40, li41, li42, li48, li57, li59, li97, li104, li105, li124, li126, li240, li241, nI_add, nI_subc, nI_subm, nI_mulc, nI_nm, pu_r, pu_t, pu_a, pu_le_t, pu_le_f, pu_lt_t, pu_lt_f, pu_eq_t, pu_eq_f, nm_eq, nm_eq2, nm_lt, nm_lt2, nm_le, nm_le2, nm_ss, nm_sp, pu_ss, pu_snq, pu_neq, eq_self, and_true, true_and, and_false, false_and, or_true, true_or, or_false, false_or, not_true_eq_false, not_false_eq_true]
  have n8 : N.1 47 8 = M.1 36 10 := by rw [hN]; simp (disch := omega) only [Option.bind_some, if_true, if_false, Sum.elim_inl, Sum.elim_inr, li0, li1, li2, li3, li4, li5, li6, li7, li8, li9, li10, li12, li16, li20, li24, li25, li31, li32, li40, li41, li42, li48, li57, li59, li97, li104, li105, li124, li126, li240, li241, nI_add, nI_subc, nI_subm, nI_mulc, nI_nm, pu_r, pu_t, pu_a, pu_le_t, pu_le_f, pu_lt_t, pu_lt_f, pu_eq_t, pu_eq_f, nm_eq, nm_eq2, nm_lt, nm_lt2, nm_le, nm_le2, nm_ss, nm_sp, pu_ss, pu_snq, pu_neq, eq_self, and_true, true_and, and_false, false_and, or_true, true_or, or_false, false_or, not_true_eq_false, not_false_eq_true]
  have n6 : N.1 47 6 = nI 0 := by rw [hN]; simp (disch := omega) only [Option.bind_some, if_true, if_false, Sum.elim_inl, Sum.elim_inr, li0, li1, li2, li3, li4, li5, li6, li7, li8, li9, li10, li12, li16, li20, li24, li25, li31, li32, li40, li41, li42, li48, li57, li59, li97, li104, li105, li124, li126, li240, li241, nI_add, nI_subc, nI_subm, nI_mulc, nI_nm, pu_r, pu_t, pu_a, pu_le_t, pu_le_f, pu_lt_t, pu_lt_f, pu_eq_t, pu_eq_f, nm_eq, nm_eq2, nm_lt, nm_lt2, nm_le, nm_le2, nm_ss, nm_sp, pu_ss, pu_snq, pu_neq, eq_self, and_true, true_and, and_false, false_and, or_true, true_or, or_false, false_or, not_true_eq_false, not_false_eq_true]
  obtain ⟨r, e, hr1, hr2, hr3⟩ := lp_up (b := mX3_gather_47_36_L28 (nI n)) (fun x st => ∃ Mx, st = (nI x, Mx) ∧ fr (fun b k => (b = 47 ∧ k = 6) ∨ (49 ≤ b ∧ b ≤ 51)) N Mx ∧ Mx.1 47 6 = nI (ct (fun p => decide (0 < O p)) x) ∧ ∀ p, p < x → 0 < O p → Mx.1 49 (ct (fun p => decide (0 < O p)) p) = nI p ∧ Mx.1 50 (ct (fun p => decide (0 < O p)) p) = nI (E p) ∧ Mx.1 51 (ct (fun p => decide (0 < O p)) p) = nI (O p)) (fun r => fr (fun b k => (b = 47 ∧ k = 6) ∨ (49 ≤ b ∧ b ≤ 51)) N r ∧ r.1 47 6 = nI (ct (fun p => decide (0 < O p)) (n + 1)) ∧ ∀ p, p < n + 1 → 0 < O p → r.1 49 (ct (fun p => decide (0 < O p)) p) = nI p ∧ r.1 50 (ct (fun p => decide (0 < O p)) p) = nI (E p) ∧ r.1 51 (ct (fun p => decide (0 < O p)) p) = nI (O p)) (a := 0) (N := n + 1) (by omega) (by omega) (fun x st _ hx hst => by
    obtain ⟨Mx, rfl, hf, h6, hI⟩ := hst
    left
    have h45 : Mx.1 45 x = nI (O x) := by rw [hf.2 _ _ (by omega), fN.2 _ _ (by omega)]; exact (hac x (by omega)).1
    have hk := ct_le (fun p => decide (0 < O p)) x
    have hox := hO x (by omega)
    have hs := ct_s (fun p => decide (0 < O p)) x
    by_cases c : 0 < O x
    · have h46 : Mx.1 46 x = nI (E x) := by rw [hf.2 _ _ (by omega), fN.2 _ _ (by omega)]; exact ((hac x (by omega)).2 c).1
      have hs1 : ct (fun p => decide (0 < O p)) (x + 1) = ct (fun p => decide (0 < O p)) x + 1 := by rw [hs, decide_eq_true c]; rfl
      refine ⟨(nI (x + 1), me_s (me_s (me_s (me_s Mx 49 (ct (fun p => decide (0 < O p)) x) (nI x)) 50 (ct (fun p => decide (0 < O p)) x) (nI (E x))) 51 (ct (fun p => decide (0 < O p)) x) (nI (O x))) 47 6 (nI (ct (fun p => decide (0 < O p)) x + 1))), ?_, _, rfl, (((hf.st (by omega)).st (by omega)).st (by omega)).st (by omega), ?_, fun p hp hop => ?_⟩
      · simp only [mX3_gather_47_36_L28, mX3_gather_47_36_J92]
        generalize ct (fun p => decide (0 < O p)) x = k at *
        simp (disch := omega) only [Option.bind_some, if_true, if_false, Sum.elim_inl, Sum.elim_inr, li0, li1, li2, li3, li4, li5, li6, li7, li8, li9, li10, li12, li16, li20, li24, li25, li31, li32, li40, li41, li42, li48, li57, li59, li97, li104, li105, li124, li126, li240, li241, nI_add, nI_subc, nI_subm, nI_mulc, nI_nm, pu_r, pu_t, pu_a, pu_le_t, pu_le_f, pu_lt_t, pu_lt_f, pu_eq_t, pu_eq_f, nm_eq, nm_eq2, nm_lt, nm_lt2, nm_le, nm_le2, nm_ss, nm_sp, pu_ss, pu_snq, pu_neq, eq_self, and_true, true_and, and_false, false_and, or_true, true_or, or_false, false_or, not_true_eq_false, not_false_eq_true, h45, h46, h6]
      · rw [hs1]; exact pu_ss
      · by_cases z : p = x
        · rw [z]
          generalize ct (fun p => decide (0 < O p)) x = k at *
          simp (disch := omega) only [Option.bind_some, if_true, if_false, Sum.elim_inl, Sum.elim_inr, li0, li1, li2, li3, li4, li5, li6, li7, li8, li9, li10, li12, li16, li20, li24, li25, li31, li32, li40, li41, li42, li48, li57, li59, li97, li104, li105, li124, li126, li240, li241, nI_add, nI_subc, nI_subm, nI_mulc, nI_nm, pu_r, pu_t, pu_a, pu_le_t, pu_le_f, pu_lt_t, pu_lt_f, pu_eq_t, pu_eq_f, nm_eq, nm_eq2, nm_lt, nm_lt2, nm_le, nm_le2, nm_ss, nm_sp, pu_ss, pu_snq, pu_neq, eq_self, and_true, true_and, and_false, false_and, or_true, true_or, or_false, false_or, not_true_eq_false, not_false_eq_true]
        · have hlt : ct (fun p => decide (0 < O p)) p < ct (fun p => decide (0 < O p)) x := by
            have q1 : ct (fun p => decide (0 < O p)) (p + 1) = ct (fun p => decide (0 < O p)) p + 1 := by rw [ct_s, decide_eq_true hop]; rfl
            have q2 : ct (fun p => decide (0 < O p)) (p + 1) ≤ ct (fun p => decide (0 < O p)) x := ct_mono' _ (by omega)
            omega
          have := hI p (by omega) hop
          generalize ct (fun p => decide (0 < O p)) x = k at *
          generalize ct (fun p => decide (0 < O p)) p = j at *
          simp (disch := omega) only [Option.bind_some, if_true, if_false, Sum.elim_inl, Sum.elim_inr, li0, li1, li2, li3, li4, li5, li6, li7, li8, li9, li10, li12, li16, li20, li24, li25, li31, li32, li40, li41, li42, li48, li57, li59, li97, li104, li105, li124, li126, li240, li241, nI_add, nI_subc, nI_subm, nI_mulc, nI_nm, pu_r, pu_t, pu_a, pu_le_t, pu_le_f, pu_lt_t, pu_lt_f, pu_eq_t, pu_eq_f, nm_eq, nm_eq2, nm_lt, nm_lt2, nm_le, nm_le2, nm_ss, nm_sp, pu_ss, pu_snq, pu_neq, eq_self, and_true, true_and, and_false, false_and, or_true, true_or, or_false, false_or, not_true_eq_false, not_false_eq_true, this]
    · have hs1 : ct (fun p => decide (0 < O p)) (x + 1) = ct (fun p => decide (0 < O p)) x := by rw [hs, decide_eq_false c]; rfl
      refine ⟨(nI (x + 1), Mx), ?_, _, rfl, hf, by rw [hs1]; exact h6, fun p hp hop => ?_⟩
      · simp only [mX3_gather_47_36_L28, mX3_gather_47_36_J92]
        simp (disch := omega) only [Option.bind_some, if_true, if_false, Sum.elim_inl, Sum.elim_inr, li0, li1, li2, li3, li4, li5, li6, li7, li8, li9, li10, li12, li16, li20, li24, li25, li31, li32, li40, li41, li42, li48, li57, li59, li97, li104, li105, li124, li126, li240, li241, nI_add, nI_subc, nI_subm, nI_mulc, nI_nm, pu_r, pu_t, pu_a, pu_le_t, pu_le_f, pu_lt_t, pu_lt_f, pu_eq_t, pu_eq_f, nm_eq, nm_eq2, nm_lt, nm_lt2, nm_le, nm_le2, nm_ss, nm_sp, pu_ss, pu_snq, pu_neq, eq_self, and_true, true_and, and_false, false_and, or_true, true_or, or_false, false_or, not_true_eq_false, not_false_eq_true, h45]
      · by_cases z : p = x
        · rw [z] at hop; exact absurd hop c
        · exact hI p (by omega) hop) (fun st hst => by
    obtain ⟨Mx, rfl, hf, h6, hI⟩ := hst
    refine ⟨Mx, ?_, hf, h6, hI⟩
    simp only [mX3_gather_47_36_L28]
    simp (disch := omega) only [Option.bind_some, if_true, if_false, Sum.elim_inl, Sum.elim_inr, li0, li1, li2, li3, li4, li5, li6, li7, li8, li9, li10, li12, li16, li20, li24, li25, li31, li32, li40, li41, li42, li48, li57, li59, li97, li104, li105, li124, li126, li240, li241, nI_add, nI_subc, nI_subm, nI_mulc, nI_nm, pu_r, pu_t, pu_a, pu_le_t, pu_le_f, pu_lt_t, pu_lt_f, pu_eq_t, pu_eq_f, nm_eq, nm_eq2, nm_lt, nm_lt2, nm_le, nm_le2, nm_ss, nm_sp, pu_ss, pu_snq, pu_neq, eq_self, and_true, true_and, and_false, false_and, or_true, true_or, or_false, false_or, not_true_eq_false, not_false_eq_true]) (s0 := (nI 0, N)) ⟨_, rfl, fr.rf, n6, fun p hp => absurd hp (Nat.not_lt_zero _)⟩
  refine ⟨r, ?_, (fN.up (fun b k h => by omega)).tr (hr1.up (fun b k h => by omega)), ?_, ?_, ?_, hr2, hr3⟩
  · have h1 : me_s (me_s (me_s (me_s M 47 4 1) 47 7 ((me_s M 47 4 1).1 36 11)) 47 8 ((me_s (me_s M 47 4 1) 47 7 ((me_s M 47 4 1).1 36 11)).1 36 10)) 47 6 0 = N := by
      rw [hN]; simp (disch := omega) only [Option.bind_some, if_true, if_false, Sum.elim_inl, Sum.elim_inr, li0, li1, li2, li3, li4, li5, li6, li7, li8, li9, li10, li12, li16, li20, li24, li25, li31, li32, li40, li41, li42, li48, li57, li59, li97, li104, li105, li124, li126, li240, li241, nI_add, nI_subc, nI_subm, nI_mulc, nI_nm, pu_r, pu_t, pu_a, pu_le_t, pu_le_f, pu_lt_t, pu_lt_f, pu_eq_t, pu_eq_f, nm_eq, nm_eq2, nm_lt, nm_lt2, nm_le, nm_le2, nm_ss, nm_sp, pu_ss, pu_snq, pu_neq, eq_self, and_true, true_and, and_false, false_and, or_true, true_or, or_false, false_or, not_true_eq_false, not_false_eq_true]
    unfold mX3_gather_47_36
    rw [h1, li0, e, Option.bind_some]
  · rw [hr1.2 _ _ (by omega)]; exact n4
  · rw [hr1.2 _ _ (by omega)]; exact n7
  · rw [hr1.2 _ _ (by omega)]; exact n8
theorem r_pattern {so : Nat} {F : Nat → Nat} {M : me_M} (h24 : so ≤ 24) (h65 : ∀ i, i < so → M.1 65 i = nI (F i)) (hF : ∀ k, k < so → 97 ≤ F k ∧ F k ≤ 104) : ∃ M', me_l (mX12_search_63_L69 (nI so)) me_fu (nI 0, M) = some M' ∧ fr (fun b _ => b = 81) M M' ∧ ∀ i, i < so → M'.1 81 i = nI (F i - 95) :=
  lp_up (b := mX12_search_63_L69 (nI so)) (fun x st => ∃ Mx, st = (nI x, Mx) ∧ fr (fun b _ => b = 81) M Mx ∧ ∀ p, p < x → Mx.1 81 p = nI (F p - 95)) (fun r => fr (fun b _ => b = 81) M r ∧ ∀ p, p < so → r.1 81 p = nI (F p - 95)) (a := 0) (N := so) (by omega) (by omega) (fun x st _ hx hst => by
    obtain ⟨Mx, rfl, hf, hI⟩ := hst
    left
    obtain ⟨v1, v2⟩ := hF x hx
    have h2x : Mx.1 65 x = nI (F x) := by rw [hf.2 _ _ (by omega)]; exact h65 x hx
    refine ⟨(nI (x + 1), me_s Mx 81 x (nI (F x - 95))), ?_, _, rfl, hf.st (by omega), fun p hp => ?_⟩
    · simp only [mX12_search_63_L69]
      simp (disch := omega) only [Option.bind_some, if_true, if_false, Sum.elim_inl, Sum.elim_inr, li0, li1, li2, li3, li4, li5, li6, li7, li8, li9, li10, li12, li16, li20, li24, li25, li31, li32, li40, li41, li42, li48, li57, li59, li97, li104, li105, li124, li126, li240, li241, nI_add, nI_subc, nI_subm, nI_mulc, nI_nm, pu_r, pu_t, pu_a, pu_le_t, pu_le_f, pu_lt_t, pu_lt_f, pu_eq_t, pu_eq_f, nm_eq, nm_eq2, nm_lt, nm_lt2, nm_le, nm_le2, nm_ss, nm_sp, pu_ss, pu_snq, pu_neq, eq_self, and_true, true_and, and_false, false_and, or_true, true_or, or_false, false_or, not_true_eq_false, not_false_eq_true, h2x, show F x - 97 + 2 = F x - 95 by omega]
    · by_cases c : p = x
      · rw [c, pu_ss]
      · rw [pu_sn c]; exact hI p (by omega)) (fun st hst => by
    obtain ⟨Mx, rfl, hf, hI⟩ := hst
    refine ⟨Mx, ?_, hf, hI⟩
    simp only [mX12_search_63_L69]
    simp (disch := omega) only [Option.bind_some, if_true, if_false, Sum.elim_inl, Sum.elim_inr, li0, li1, li2, li3, li4, li5, li6, li7, li8, li9, li10, li12, li16, li20, li24, li25, li31, li32, li40, li41, li42, li48, li57, li59, li97, li104, li105, li124, li126, li240, li241, nI_add, nI_subc, nI_subm, nI_mulc, nI_nm, pu_r, pu_t, pu_a, pu_le_t, pu_le_f, pu_lt_t, pu_lt_f, pu_eq_t, pu_eq_f, nm_eq, nm_eq2, nm_lt, nm_lt2, nm_le, nm_le2, nm_ss, nm_sp, pu_ss, pu_snq, pu_neq, eq_self, and_true, true_and, and_false, false_and, or_true, true_or, or_false, false_or, not_true_eq_false, not_false_eq_true]) (s0 := (nI 0, M)) ⟨_, rfl, fr.rf, fun p hp => absurd hp (Nat.not_lt_zero _)⟩
theorem r_wipe {n : Nat} {M : me_M} (hn : n ≤ 240) (h5 : M.1 63 5 = nI n) : ∃ M', me_l mX12_search_63_L99 me_fu (nI 0, M) = some M' ∧ fr (fun b _ => b = 79 ∨ b = 80) M M' ∧ ∀ i, i < n + 1 → M'.1 79 i = nI 0 :=
  lp_up (b := mX12_search_63_L99) (fun x st => ∃ Mx, st = (nI x, Mx) ∧ fr (fun b _ => b = 79 ∨ b = 80) M Mx ∧ ∀ p, p < x → Mx.1 79 p = nI 0) (fun r => fr (fun b _ => b = 79 ∨ b = 80) M r ∧ ∀ p, p < n + 1 → r.1 79 p = nI 0) (a := 0) (N := n + 1) (by omega) (by omega) (fun x st _ hx hst => by
    obtain ⟨Mx, rfl, hf, hI⟩ := hst
    left
    have h5x : Mx.1 63 5 = nI n := by rw [hf.2 _ _ (by omega)]; exact h5
    refine ⟨(nI (x + 1), me_s (me_s Mx 79 x (nI 0)) 80 x (nI 0)), ?_, _, rfl, (hf.st (by omega)).st (by omega), fun p hp => ?_⟩
    · simp only [mX12_search_63_L99]
      simp (disch := omega) only [Option.bind_some, if_true, if_false, Sum.elim_inl, Sum.elim_inr, li0, li1, li2, li3, li4, li5, li6, li7, li8, li9, li10, li12, li16, li20, li24, li25, li31, li32, li40, li41, li42, li48, li57, li59, li97, li104, li105, li124, li126, li240, li241, nI_add, nI_subc, nI_subm, nI_mulc, nI_nm, pu_r, pu_t, pu_a, pu_le_t, pu_le_f, pu_lt_t, pu_lt_f, pu_eq_t, pu_eq_f, nm_eq, nm_eq2, nm_lt, nm_lt2, nm_le, nm_le2, nm_ss, nm_sp, pu_ss, pu_snq, pu_neq, eq_self, and_true, true_and, and_false, false_and, or_true, true_or, or_false, false_or, not_true_eq_false, not_false_eq_true, h5x]
    · rw [me_s_ne (by decide)]
      by_cases c : p = x
      · rw [c, pu_ss]
      · rw [pu_sn c]; exact hI p (by omega)) (fun st hst => by
    obtain ⟨Mx, rfl, hf, hI⟩ := hst
    have h5x : Mx.1 63 5 = nI n := by rw [hf.2 _ _ (by omega)]; exact h5
    refine ⟨Mx, ?_, hf, hI⟩
    simp only [mX12_search_63_L99]
    simp (disch := omega) only [Option.bind_some, if_true, if_false, Sum.elim_inl, Sum.elim_inr, li0, li1, li2, li3, li4, li5, li6, li7, li8, li9, li10, li12, li16, li20, li24, li25, li31, li32, li40, li41, li42, li48, li57, li59, li97, li104, li105, li124, li126, li240, li241, nI_add, nI_subc, nI_subm, nI_mulc, nI_nm, pu_r, pu_t, pu_a, pu_le_t, pu_le_f, pu_lt_t, pu_lt_f, pu_eq_t, pu_eq_f, nm_eq, nm_eq2, nm_lt, nm_lt2, nm_le, nm_le2, nm_ss, nm_sp, pu_ss, pu_snq, pu_neq, eq_self, and_true, true_and, and_false, false_and, or_true, true_or, or_false, false_or, not_true_eq_false, not_false_eq_true, h5x]) (s0 := (nI 0, M)) ⟨_, rfl, fr.rf, fun p hp => absurd hp (Nat.not_lt_zero _)⟩
theorem s_l77 {S P x L : Nat} {D : Nat → Nat → Nat → Nat} {M : me_M} (hvs : vS S P D M) : ∃ ob od le mo sh, (53 ≤ ob ∧ 53 ≤ od ∧ 53 ≤ le ∧ 53 ≤ mo) ∧ sch ob od le mo S P D M ∧ ∀ Mx, fr (fun b k => (b = 36 ∧ 9 ≤ k) ∨ (38 ≤ b ∧ b ≤ 46)) M Mx → ∀ x, x ≤ 8 → mX11_search_0_L77 (nI L) (nI x, Mx) = if S ≤ x then some (.inr Mx) else (gX1_run ob od le mo sh Mx (nI x) (nI L)).bind fun M4 => some (.inl (nI (x + 1), M4)) := by
  have hS8 := hvs.2.1
  rcases plan_sch hvs with ⟨p53, p58, hsc⟩ | ⟨p53, p58, hsc⟩
  · refine ⟨53, 54, 55, 56, 57, by omega, hsc, fun Mx hf x hx => ?_⟩
    have q53 : (Mx.2.1 0 = 53) = True := by rw [hf.id]; exact p53
    have h4 : Mx.1 53 4 = nI S := by rw [hf.2 _ _ (by omega)]; exact hsc.1
    rw [← run53]
    simp only [mX11_search_0_L77, q53, if_true, h4]
    by_cases c : S ≤ x
    · rw [if_pos c, if_pos (nI_le c (by omega))]
    · rw [if_neg c, if_neg (fun z => c ((nI_leI (by omega) (by omega)).mp z)), li1, nI_add]
  · refine ⟨58, 59, 60, 61, 62, by omega, hsc, fun Mx hf x hx => ?_⟩
    have q53 : (Mx.2.1 0 = 53) = False := by rw [hf.id]; exact p53
    have q58 : (Mx.2.1 0 = 58) = True := by rw [hf.id]; exact p58
    have h4 : Mx.1 58 4 = nI S := by rw [hf.2 _ _ (by omega)]; exact hsc.1
    rw [← run58]
    simp only [mX11_search_0_L77, q53, q58, if_true, if_false, h4]
    by_cases c : S ≤ x
    · rw [if_pos c, if_pos (nI_le c (by omega))]
    · rw [if_neg c, if_neg (fun z => c ((nI_leI (by omega) (by omega)).mp z)), li1, nI_add]
/-- all searches, run by both -/
theorem runs9 {ob od le mo sh S P L n : Nat} {T G : Nat → Nat} {D : Nat → Nat → Nat → Nat} {M M' : me_M} (hT : tx9 T n) (hd : 53 ≤ ob ∧ 53 ≤ od ∧ 53 ≤ le ∧ 53 ≤ mo) (hcx : cx T n M) (hsch : sch ob od le mo S P D M) (hL1 : P ≤ L) (hL : L ≤ 24) (hG : ∀ i, i < L → 2 ≤ G i ∧ G i < 10 ∧ M.1 48 i = nI (G i - 2) ∧ M'.1 81 i = nI (G i)) (hv : rS S P D M') (hrx : rx T n M') (h20 : M'.1 63 20 = nI L) (h37 : M'.1 63 37 = nI 0) (htr : M.1 36 10 = M'.1 63 35) (hfo : M.1 36 11 = M'.1 63 36) (hac : accC n (fun _ => 0) (fun _ => 0) M) (har : accR n (fun _ => 0) (fun _ => 0) M') (hl : ∀ Mx, fr (fun b k => (b = 36 ∧ 9 ≤ k) ∨ (38 ≤ b ∧ b ≤ 46)) M Mx → ∀ x, x ≤ 8 → mX11_search_0_L77 (nI L) (nI x, Mx) = if S ≤ x then some (.inr Mx) else (gX1_run ob od le mo sh Mx (nI x) (nI L)).bind fun M4 => some (.inl (nI (x + 1), M4))) : ∃ M1 M1', me_l (mX11_search_0_L77 (nI L)) me_fu (nI 0, M) = some M1 ∧ me_l mX12_search_63_L149 me_fu (nI 0, M') = some M1' ∧ ∃ O E, fr (fun b k => (b = 36 ∧ 9 ≤ k) ∨ (38 ≤ b ∧ b ≤ 46)) M M1 ∧ fr (fun b k => (b = 63 ∧ (k = 35 ∨ k = 36)) ∨ b = 79 ∨ b = 80 ∨ (83 ≤ b ∧ b ≤ 86) ∨ (158 ≤ b ∧ b ≤ 182)) M' M1' ∧ M1.1 36 10 = M1'.1 63 35 ∧ M1.1 36 11 = M1'.1 63 36 ∧ accC n O E M1 ∧ accR n O E M1' ∧ ∀ p, p ≤ n → O p ≤ 8 ∧ (0 < O p → p + L ≤ n) := by
  have hS := hv.1
  exact lp_up2 (b := mX11_search_0_L77 (nI L)) (b' := mX12_search_63_L149) (fun x st st' => ∃ Mx Mx' O E, st = (nI x, Mx) ∧ st' = (nI x, Mx') ∧ fr (fun b k => (b = 36 ∧ 9 ≤ k) ∨ (38 ≤ b ∧ b ≤ 46)) M Mx ∧ fr (fun b k => (b = 63 ∧ (k = 35 ∨ k = 36)) ∨ b = 79 ∨ b = 80 ∨ (83 ≤ b ∧ b ≤ 86) ∨ (158 ≤ b ∧ b ≤ 182)) M' Mx' ∧ Mx.1 36 10 = Mx'.1 63 35 ∧ Mx.1 36 11 = Mx'.1 63 36 ∧ accC n O E Mx ∧ accR n O E Mx' ∧ ∀ p, p ≤ n → O p ≤ x ∧ (0 < O p → p + L ≤ n)) (fun Mx Mx' => ∃ O E, fr (fun b k => (b = 36 ∧ 9 ≤ k) ∨ (38 ≤ b ∧ b ≤ 46)) M Mx ∧ fr (fun b k => (b = 63 ∧ (k = 35 ∨ k = 36)) ∨ b = 79 ∨ b = 80 ∨ (83 ≤ b ∧ b ≤ 86) ∨ (158 ≤ b ∧ b ≤ 182)) M' Mx' ∧ Mx.1 36 10 = Mx'.1 63 35 ∧ Mx.1 36 11 = Mx'.1 63 36 ∧ accC n O E Mx ∧ accR n O E Mx' ∧ ∀ p, p ≤ n → O p ≤ 8 ∧ (0 < O p → p + L ≤ n)) (N := S) (by omega) (fun x st st' hx hst => by
    obtain ⟨Mx, Mx', O, E, rfl, rfl, hf, hf', htx, hfx, hax, hrx', hox⟩ := hst
    have hvx : rS S P D Mx' := by
      obtain ⟨a1, a2, a3, a4, a5, a6, a7⟩ := hv
      exact ⟨a1, a2, a3, a4, by rw [hf'.2 _ _ (by omega)]; exact a5, by rw [hf'.2 _ _ (by omega)]; exact a6, fun s w k b1 b2 b3 => by rw [hf'.2 _ _ (by omega)]; exact a7 s w k b1 b2 b3⟩
    obtain ⟨M2, M2', O1, E1, r1, r2, r3, r4, r5, r6, r7, r8, -, r9, r10⟩ := run9 (ob := ob) (od := od) (le := le) (mo := mo) (sh := sh) (G := G) (O := O) (E := E) (th := 0) (M := Mx) (M' := Mx') (s := x) (L := L) hT hx (by omega) hd (hcx.fr hf (fun b k _ _ => by omega)) (hsch.fr hf (by omega) (by omega) (fun k => by omega) (fun k => by omega) (fun k => by omega)) hL1 hL (fun i hi => by
      obtain ⟨q1, q2, q3, q4⟩ := hG i hi
      exact ⟨q1, q2, by rw [hf.2 _ _ (by omega)]; exact q3, by rw [hf'.2 _ _ (by omega)]; exact q4⟩) hvx (hrx.fr hf' (by omega) (fun k => by omega)) (by rw [hf'.2 _ _ (by omega)]; exact h20) (by rw [hf'.2 _ _ (by omega)]; exact h37) htx hfx hax (fun _ => hrx') (fun p hp => by have := (hox p hp).1; omega)
    have h77 := hvx.2.2.2.2.1
    refine ⟨(nI (x + 1), M2), (nI (x + 1), M2'), ?_, ?_, M2, M2', O1, E1, rfl, rfl, hf.tr r3, hf'.tr r4, r5, r6, r7, r8 rfl, fun p hp => ?_⟩
    · rw [hl Mx hf x (by omega), if_neg (by omega), r1, Option.bind_some]
    · simp only [mX12_search_63_L149]
      simp (disch := omega) only [Option.bind_some, if_true, if_false, Sum.elim_inl, Sum.elim_inr, li0, li1, li2, li3, li4, li5, li6, li7, li8, li9, li10, li12, li16, li20, li24, li25, li31, li32, li40, li41, li42, li48, li57, li59, li97, li104, li105, li124, li126, li240, li241, nI_add, nI_subc, nI_subm, nI_mulc, nI_nm, pu_r, pu_t, pu_a, pu_le_t, pu_le_f, pu_lt_t, pu_lt_f, pu_eq_t, pu_eq_f, nm_eq, nm_eq2, nm_lt, nm_lt2, nm_le, nm_le2, nm_ss, nm_sp, pu_ss, pu_snq, pu_neq, eq_self, and_true, true_and, and_false, false_and, or_true, true_or, or_false, false_or, not_true_eq_false, not_false_eq_true, h77, r2]
    · have a1 := hox p hp
      have a2 := r9 p hp
      refine ⟨by omega, fun h0 => ?_⟩
      by_cases z : O1 p = O p
      · exact a1.2 (by omega)
      · exact r10 p hp z) (fun st st' hst => by
    obtain ⟨Mx, Mx', O, E, rfl, rfl, hf, hf', htx, hfx, hax, hrx', hox⟩ := hst
    have h77 : Mx'.1 77 0 = nI S := by rw [hf'.2 _ _ (by omega)]; exact hv.2.2.2.2.1
    refine ⟨Mx, Mx', ?_, ?_, O, E, hf, hf', htx, hfx, hax, hrx', fun p hp => ⟨by have := (hox p hp).1; omega, (hox p hp).2⟩⟩
    · rw [hl Mx hf S (by omega), if_pos (Nat.le_refl _)]
    · simp only [mX12_search_63_L149]
      simp (disch := omega) only [Option.bind_some, if_true, if_false, Sum.elim_inl, Sum.elim_inr, li0, li1, li2, li3, li4, li5, li6, li7, li8, li9, li10, li12, li16, li20, li24, li25, li31, li32, li40, li41, li42, li48, li57, li59, li97, li104, li105, li124, li126, li240, li241, nI_add, nI_subc, nI_subm, nI_mulc, nI_nm, pu_r, pu_t, pu_a, pu_le_t, pu_le_f, pu_lt_t, pu_lt_f, pu_eq_t, pu_eq_f, nm_eq, nm_eq2, nm_lt, nm_lt2, nm_le, nm_le2, nm_ss, nm_sp, pu_ss, pu_snq, pu_neq, eq_self, and_true, true_and, and_false, false_and, or_true, true_or, or_false, false_or, not_true_eq_false, not_false_eq_true, h77]) (s0 := (nI 0, M)) (s0' := (nI 0, M')) ⟨M, M', _, _, rfl, rfl, fr.rf, fr.rf, htr, hfo, hac, har, fun p _ => ⟨Nat.le_refl _, fun z => absurd z (Nat.lt_irrefl _)⟩⟩
