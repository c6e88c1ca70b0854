/-! ===== call: matches, the reference ===== -/
theorem r_fits {T : Nat → Nat} {n : Nat} {Q : Nat → Nat} {so i p : Nat} {M : me_M} (hT : tx9 T n) (hM : rx T n M) (hs : so ≤ 240) (hi : i < so) (hp : p < n) (hQ : ∀ k, k < so → M.1 87 k = nI (Q k)) (hQ9 : ∀ k, k < so → Q k < 300) : mX12_fits_63 M (nI i) (nI p) (nI so) = some (nI (fta T n Q so (so - i) p)) := by
  have hn := hT.2.2.2
  obtain ⟨c1, c2⟩ := hM
  obtain ⟨h1, h2⟩ := fta_spec (T := T) (n := n) (Q := Q) (so := so) (so - i) p (by omega)
  rw [show so - (so - i) = i by omega] at h1 h2
  have hb := fta_b (T := T) (n := n) (Q := Q) (so := so) (so - i) p
  have hl : me_l (mX12_fits_63_L3 M (nI i) (nI p) (nI so)) me_fu (nI 0) = some (nI (fta T n Q so (so - i) p)) := by
    refine lp_to (fun x => nI x) (a := 0) (N := fta T n Q so (so - i) p) (by omega) (by omega) (fun x _ hx => ?_) ?_
    · obtain ⟨a1, a2, a3⟩ := h1 x hx
      have a4 := hQ (i + x) a1
      have a5 := hQ9 (i + x) a1
      simp only [mX12_fits_63_L3]
      simp (disch := omega) only [Option.bind_some, if_true, if_false, Sum.elim_inl, Sum.elim_inr, li0, li1, li2, li3, li4, li5, li6, li7, li8, li9, li10, li12, li16, li20, li24, li25, li31, li32, li40, li41, li42, li48, li57, li59, li97, li104, li105, li124, li126, li240, li241, nI_add, nI_subc, nI_subm, nI_mulc, nI_nm, pu_r, pu_t, pu_a, pu_le_t, pu_le_f, pu_lt_t, pu_lt_f, pu_eq_t, pu_eq_f, nm_eq, nm_eq2, nm_lt, nm_lt2, nm_le, nm_le2, nm_ss, nm_sp, pu_ss, pu_snq, pu_neq, eq_self, and_true, true_and, and_false, false_and, or_true, true_or, or_false, false_or, not_true_eq_false, not_false_eq_true, c1, c2, a3, a4]
    · simp only [mX12_fits_63_L3]
      generalize fta T n Q so (so - i) p = N at *
      by_cases a : i + N < so
      · by_cases b : p + N < n
        · have c : ¬ T (p + N) = Q (i + N) := fun z => h2 ⟨a, b, z⟩
          have a4 := hQ (i + N) a
          have a5 := hQ9 (i + N) a
          have a6 := hT.2.1 (p + N)
          simp (disch := omega) only [Option.bind_some, if_true, if_false, Sum.elim_inl, Sum.elim_inr, li0, li1, li2, li3, li4, li5, li6, li7, li8, li9, li10, li12, li16, li20, li24, li25, li31, li32, li40, li41, li42, li48, li57, li59, li97, li104, li105, li124, li126, li240, li241, nI_add, nI_subc, nI_subm, nI_mulc, nI_nm, pu_r, pu_t, pu_a, pu_le_t, pu_le_f, pu_lt_t, pu_lt_f, pu_eq_t, pu_eq_f, nm_eq, nm_eq2, nm_lt, nm_lt2, nm_le, nm_le2, nm_ss, nm_sp, pu_ss, pu_snq, pu_neq, eq_self, and_true, true_and, and_false, false_and, or_true, true_or, or_false, false_or, not_true_eq_false, not_false_eq_true, c1, c2, a4]
        · simp (disch := omega) only [Option.bind_some, if_true, if_false, Sum.elim_inl, Sum.elim_inr, li0, li1, li2, li3, li4, li5, li6, li7, li8, li9, li10, li12, li16, li20, li24, li25, li31, li32, li40, li41, li42, li48, li57, li59, li97, li104, li105, li124, li126, li240, li241, nI_add, nI_subc, nI_subm, nI_mulc, nI_nm, pu_r, pu_t, pu_a, pu_le_t, pu_le_f, pu_lt_t, pu_lt_f, pu_eq_t, pu_eq_f, nm_eq, nm_eq2, nm_lt, nm_lt2, nm_le, nm_le2, nm_ss, nm_sp, pu_ss, pu_snq, pu_neq, eq_self, and_true, true_and, and_false, false_and, or_true, true_or, or_false, false_or, not_true_eq_false, not_false_eq_true, c1]
      · simp (disch := omega) only [Option.bind_some, if_true, if_false, Sum.elim_inl, Sum.elim_inr, li0, li1, li2, li3, li4, li5, li6, li7, li8, li9, li10, li12, li16, li20, li24, li25, li31, li32, li40, li41, li42, li48, li57, li59, li97, li104, li105, li124, li126, li240, li241, nI_add, nI_subc, nI_subm, nI_mulc, nI_nm, pu_r, pu_t, pu_a, pu_le_t, pu_le_f, pu_lt_t, pu_lt_f, pu_eq_t, pu_eq_f, nm_eq, nm_eq2, nm_lt, nm_lt2, nm_le, nm_le2, nm_ss, nm_sp, pu_ss, pu_snq, pu_neq, eq_self, and_true, true_and, and_false, false_and, or_true, true_or, or_false, false_or, not_true_eq_false, not_false_eq_true]
  unfold mX12_fits_63
  simp (disch := omega) only [Option.bind_some, if_true, if_false, Sum.elim_inl, Sum.elim_inr, li0, li1, li2, li3, li4, li5, li6, li7, li8, li9, li10, li12, li16, li20, li24, li25, li31, li32, li40, li41, li42, li48, li57, li59, li97, li104, li105, li124, li126, li240, li241, nI_add, nI_subc, nI_subm, nI_mulc, nI_nm, pu_r, pu_t, pu_a, pu_le_t, pu_le_f, pu_lt_t, pu_lt_f, pu_eq_t, pu_eq_f, nm_eq, nm_eq2, nm_lt, nm_lt2, nm_le, nm_le2, nm_ss, nm_sp, pu_ss, pu_snq, pu_neq, eq_self, and_true, true_and, and_false, false_and, or_true, true_or, or_false, false_or, not_true_eq_false, not_false_eq_true, hl]
theorem ct_ge9 {P : Nat → Bool} {j n : Nat} (h : j ≤ n) : ct P j ≤ ct P n := ct_mono' P h
theorem r_laysMatch {T : Nat → Nat} {n : Nat} {Q : Nat → Nat} {so i k : Nat} {M : me_M} (hT : tx9 T n) (hM : rx T n M) (hs : so ≤ 240) (hi : i < so) (hk : k < 240) (hQ : ∀ k, k < so → M.1 87 k = nI (Q k)) (hQ9 : ∀ k, k < so → Q k < 300) (h38 : M.1 63 38 = nI k) (h88 : M.1 88 i = nI (len9 T n Q so i)) (hpos : 0 < len9 T n Q so i) : ∃ M', mX12_laysMatch_63 M (nI i) (nI so) = some M' ∧ fr (fun b j => (b = 63 ∧ j = 38) ∨ b = 184 + k) M M' ∧ M'.1 63 38 = nI (k + 1) ∧ ent (fta T n Q so (so - i)) n i (M'.1 (184 + k) 0) (M'.1 (184 + k) 1) (M'.1 (184 + k) 2) (M'.1 (184 + k) 3) := by
  have hn := hT.2.2.2
  have b1 := len9_b (T := T) (n := n) (Q := Q) (so := so) (i := i)
  generalize hR : fta T n Q so (so - i) = R at *
  have hlen : len9 T n Q so i = mx R n := by unfold len9; rw [hR]
  rw [hlen] at h88 hpos b1
  have hRb : ∀ p, R p ≤ so := fun p => by rw [← hR]; have := fta_b (T := T) (n := n) (Q := Q) (so := so) (so - i) p; omega
  obtain ⟨r, e, hr⟩ := lp_down (b := mX12_laysMatch_63_L39 (nI i) (nI so) (184 + k)) (fun j s => ∃ Mx, s = (dn j, Mx) ∧ fr (fun b _ => b = 184 + k) M Mx ∧ j ≤ n ∧ Mx.1 (184 + k) 0 = nI i ∧ Mx.1 (184 + k) 1 = nI (mx R n) ∧ Mx.1 (184 + k) 2 = nI (ct (fun p => decide (mx R n ≤ R p)) n - ct (fun p => decide (mx R n ≤ R p)) j) ∧ ∃ v, Mx.1 (184 + k) 3 = dn v ∧ ((v = 0 ∧ ∀ p, j ≤ p → p < n → ¬ mx R n ≤ R p) ∨ (j < v ∧ v ≤ n ∧ mx R n ≤ R (v - 1) ∧ ∀ p, j ≤ p → p < v - 1 → ¬ mx R n ≤ R p))) (fun r => fr (fun b _ => b = 184 + k) M r ∧ ent R n i (r.1 (184 + k) 0) (r.1 (184 + k) 1) (r.1 (184 + k) 2) (r.1 (184 + k) 3)) (N := n) (by omega) (fun j s hj hs => by
    obtain ⟨Mx, rfl, hf, hjn, x0, x1, x2, v, x3, hv⟩ := hs
    left
    have hMx : rx T n Mx := ⟨by rw [hf.2 _ _ (by omega)]; exact hM.1, fun p hp => by rw [hf.2 _ _ (by omega)]; exact hM.2 p hp⟩
    have hft := r_fits hT hMx hs hi hj (fun k hk => by rw [hf.2 _ _ (by omega)]; exact hQ k hk) hQ9
    rw [hR] at hft
    have h88x : Mx.1 88 i = nI (mx R n) := by rw [hf.2 _ _ (by omega)]; exact h88
    have b2 := hRb j
    have q1 : ct (fun p => decide (mx R n ≤ R p)) (j + 1) ≤ ct (fun p => decide (mx R n ≤ R p)) n := ct_ge9 (by omega)
    have q2 := ct_s (fun p => decide (mx R n ≤ R p)) j
    by_cases c : mx R n ≤ R j
    · rw [decide_eq_true c, if_pos rfl] at q2
      refine ⟨(dn j, me_s (me_s Mx (184 + k) 2 (nI (ct (fun p => decide (mx R n ≤ R p)) n - ct (fun p => decide (mx R n ≤ R p)) j))) (184 + k) 3 (nI j)), ?_, _, rfl, (hf.st (by omega)).st (by omega), by omega, ?_, ?_, ?_, j + 1, ?_, Or.inr ⟨by omega, by omega, c, fun p p1 p2 => by omega⟩⟩
      · simp only [mX12_laysMatch_63_L39, mX12_laysMatch_63_J76]
        simp (disch := omega) only [Option.bind_some, if_true, if_false, Sum.elim_inl, Sum.elim_inr, li0, li1, li2, li3, li4, li5, li6, li7, li8, li9, li10, li12, li16, li20, li24, li25, li31, li32, li40, li41, li42, li48, li57, li59, li97, li104, li105, li124, li126, li240, li241, nI_add, nI_subc, nI_subm, nI_mulc, pu_r, pu_t, pu_a, pu_le_t, pu_le_f, pu_lt_t, pu_lt_f, pu_eq_t, pu_eq_f, nm_eq, nm_eq2, nm_lt, nm_lt2, nm_le, nm_le2, nm_ss, nm_sp, pu_ss, pu_snq, pu_neq, eq_self, and_true, true_and, and_false, false_and, or_true, true_or, or_false, false_or, not_true_eq_false, not_false_eq_true, dn_s, hft, h88x, x2, show ct (fun p => decide (mx R n ≤ R p)) n - ct (fun p => decide (mx R n ≤ R p)) (j + 1) + 1 = ct (fun p => decide (mx R n ≤ R p)) n - ct (fun p => decide (mx R n ≤ R p)) j by omega, dn_p]
      · simp (disch := omega) only [Option.bind_some, if_true, if_false, Sum.elim_inl, Sum.elim_inr, li0, li1, li2, li3, li4, li5, li6, li7, li8, li9, li10, li12, li16, li20, li24, li25, li31, li32, li40, li41, li42, li48, li57, li59, li97, li104, li105, li124, li126, li240, li241, nI_add, nI_subc, nI_subm, nI_mulc, nI_nm, pu_r, pu_t, pu_a, pu_le_t, pu_le_f, pu_lt_t, pu_lt_f, pu_eq_t, pu_eq_f, nm_eq, nm_eq2, nm_lt, nm_lt2, nm_le, nm_le2, nm_ss, nm_sp, pu_ss, pu_snq, pu_neq, eq_self, and_true, true_and, and_false, false_and, or_true, true_or, or_false, false_or, not_true_eq_false, not_false_eq_true, x0]
      · simp (disch := omega) only [Option.bind_some, if_true, if_false, Sum.elim_inl, Sum.elim_inr, li0, li1, li2, li3, li4, li5, li6, li7, li8, li9, li10, li12, li16, li20, li24, li25, li31, li32, li40, li41, li42, li48, li57, li59, li97, li104, li105, li124, li126, li240, li241, nI_add, nI_subc, nI_subm, nI_mulc, nI_nm, pu_r, pu_t, pu_a, pu_le_t, pu_le_f, pu_lt_t, pu_lt_f, pu_eq_t, pu_eq_f, nm_eq, nm_eq2, nm_lt, nm_lt2, nm_le, nm_le2, nm_ss, nm_sp, pu_ss, pu_snq, pu_neq, eq_self, and_true, true_and, and_false, false_and, or_true, true_or, or_false, false_or, not_true_eq_false, not_false_eq_true, x1]
      · simp (disch := omega) only [Option.bind_some, if_true, if_false, Sum.elim_inl, Sum.elim_inr, li0, li1, li2, li3, li4, li5, li6, li7, li8, li9, li10, li12, li16, li20, li24, li25, li31, li32, li40, li41, li42, li48, li57, li59, li97, li104, li105, li124, li126, li240, li241, nI_add, nI_subc, nI_subm, nI_mulc, nI_nm, pu_r, pu_t, pu_a, pu_le_t, pu_le_f, pu_lt_t, pu_lt_f, pu_eq_t, pu_eq_f, nm_eq, nm_eq2, nm_lt, nm_lt2, nm_le, nm_le2, nm_ss, nm_sp, pu_ss, pu_snq, pu_neq, eq_self, and_true, true_and, and_false, false_and, or_true, true_or, or_false, false_or, not_true_eq_false, not_false_eq_true]
      · simp (disch := omega) only [Option.bind_some, if_true, if_false, Sum.elim_inl, Sum.elim_inr, li0, li1, li2, li3, li4, li5, li6, li7, li8, li9, li10, li12, li16, li20, li24, li25, li31, li32, li40, li41, li42, li48, li57, li59, li97, li104, li105, li124, li126, li240, li241, nI_add, nI_subc, nI_subm, nI_mulc, nI_nm, pu_r, pu_t, pu_a, pu_le_t, pu_le_f, pu_lt_t, pu_lt_f, pu_eq_t, pu_eq_f, nm_eq, nm_eq2, nm_lt, nm_lt2, nm_le, nm_le2, nm_ss, nm_sp, pu_ss, pu_snq, pu_neq, eq_self, and_true, true_and, and_false, false_and, or_true, true_or, or_false, false_or, not_true_eq_false, not_false_eq_true, dn_s]
    · have q3 : ct (fun p => decide (mx R n ≤ R p)) (j + 1) = ct (fun p => decide (mx R n ≤ R p)) j := by rw [ct_s, decide_eq_false c]; rfl
      refine ⟨(dn j, Mx), ?_, Mx, rfl, hf, by omega, x0, x1, by rw [← q3]; exact x2, v, x3, ?_⟩
      · simp only [mX12_laysMatch_63_L39, mX12_laysMatch_63_J76]
        simp (disch := omega) only [Option.bind_some, if_true, if_false, Sum.elim_inl, Sum.elim_inr, li0, li1, li2, li3, li4, li5, li6, li7, li8, li9, li10, li12, li16, li20, li24, li25, li31, li32, li40, li41, li42, li48, li57, li59, li97, li104, li105, li124, li126, li240, li241, nI_add, nI_subc, nI_subm, nI_mulc, pu_r, pu_t, pu_a, pu_le_t, pu_le_f, pu_lt_t, pu_lt_f, pu_eq_t, pu_eq_f, nm_eq, nm_eq2, nm_lt, nm_lt2, nm_le, nm_le2, nm_ss, nm_sp, pu_ss, pu_snq, pu_neq, eq_self, and_true, true_and, and_false, false_and, or_true, true_or, or_false, false_or, not_true_eq_false, not_false_eq_true, dn_s, hft, h88x, dn_p]
      · rcases hv with ⟨v1, v2⟩ | ⟨v1, v2, v3, v4⟩
        · refine Or.inl ⟨v1, fun p p1 p2 => ?_⟩
          by_cases z : p = j
          · rw [z]; exact c
          · exact v2 p (by omega) p2
        · refine Or.inr ⟨by omega, v2, v3, fun p p1 p2 => ?_⟩
          by_cases z : p = j
          · rw [z]; exact c
          · exact v4 p (by omega) p2) (fun s hs => by
    obtain ⟨Mx, rfl, hf, -, x0, x1, x2, v, x3, hv⟩ := hs
    refine ⟨Mx, ?_, hf, x0, x1, ?_, ?_⟩
    · simp only [mX12_laysMatch_63_L39]
      simp (disch := omega) only [Option.bind_some, if_true, if_false, Sum.elim_inl, Sum.elim_inr, li0, li1, li2, li3, li4, li5, li6, li7, li8, li9, li10, li12, li16, li20, li24, li25, li31, li32, li40, li41, li42, li48, li57, li59, li97, li104, li105, li124, li126, li240, li241, nI_add, nI_subc, nI_subm, nI_mulc, nI_nm, pu_r, pu_t, pu_a, pu_le_t, pu_le_f, pu_lt_t, pu_lt_f, pu_eq_t, pu_eq_f, nm_eq, nm_eq2, nm_lt, nm_lt2, nm_le, nm_le2, nm_ss, nm_sp, pu_ss, pu_snq, pu_neq, eq_self, and_true, true_and, and_false, false_and, or_true, true_or, or_false, false_or, not_true_eq_false, not_false_eq_true, dn_0]
    · rw [x2]
      congr 1
      have : ct (fun p => decide (mx R n ≤ R p)) 0 = 0 := rfl
      rw [this, Nat.sub_zero]
      refine ct_congr n (fun p hp => ?_)
      have := mx_ge (f := R) hp
      rw [Bool.eq_iff_iff, decide_eq_true_eq, decide_eq_true_eq]
      omega
    · obtain ⟨q, q1, q2, q3, q4⟩ := (fi_ok (g := R) n).2 hpos
      rw [x3, q1]
      congr 1
      rcases hv with ⟨v1, v2⟩ | ⟨v1, v2, v3, v4⟩
      · exact absurd (show mx R n ≤ R q by omega) (v2 q (Nat.zero_le _) q2)
      · rcases Nat.lt_or_ge q (v - 1) with z | z
        · exact absurd (show mx R n ≤ R q by omega) (v4 q (Nat.zero_le _) z)
        · rcases Nat.lt_or_ge (v - 1) q with y | y
          · have := q4 (v - 1) y; omega
          · omega) (s0 := (dn n, me_s (me_s (me_s (me_s M (184 + k) 0 (nI i)) (184 + k) 1 (nI (mx R n))) (184 + k) 2 (nI 0)) (184 + k) 3 (-nI 1))) ⟨_, rfl, (((fr.s (by omega)).st (by omega)).st (by omega)).st (by omega), Nat.le_refl _, by simp (disch := omega) only [Option.bind_some, if_true, if_false, Sum.elim_inl, Sum.elim_inr, li0, li1, li2, li3, li4, li5, li6, li7, li8, li9, li10, li12, li16, li20, li24, li25, li31, li32, li40, li41, li42, li48, li57, li59, li97, li104, li105, li124, li126, li240, li241, nI_add, nI_subc, nI_subm, nI_mulc, nI_nm, pu_r, pu_t, pu_a, pu_le_t, pu_le_f, pu_lt_t, pu_lt_f, pu_eq_t, pu_eq_f, nm_eq, nm_eq2, nm_lt, nm_lt2, nm_le, nm_le2, nm_ss, nm_sp, pu_ss, pu_snq, pu_neq, eq_self, and_true, true_and, and_false, false_and, or_true, true_or, or_false, false_or, not_true_eq_false, not_false_eq_true], by simp (disch := omega) only [Option.bind_some, if_true, if_false, Sum.elim_inl, Sum.elim_inr, li0, li1, li2, li3, li4, li5, li6, li7, li8, li9, li10, li12, li16, li20, li24, li25, li31, li32, li40, li41, li42, li48, li57, li59, li97, li104, li105, li124, li126, li240, li241, nI_add, nI_subc, nI_subm, nI_mulc, nI_nm, pu_r, pu_t, pu_a, pu_le_t, pu_le_f, pu_lt_t, pu_lt_f, pu_eq_t, pu_eq_f, nm_eq, nm_eq2, nm_lt, nm_lt2, nm_le, nm_le2, nm_ss, nm_sp, pu_ss, pu_snq, pu_neq, eq_self, and_true, true_and, and_false, false_and, or_true, true_or, or_false, false_or, not_true_eq_false, not_false_eq_true], by simp (disch := omega) only [Option.bind_some, if_true, if_false, Sum.elim_inl, Sum.elim_inr, li0, li1, li2, li3, li4, li5, li6, li7, li8, li9, li10, li12, li16, li20, li24, li25, li31, li32, li40, li41, li42, li48, li57, li59, li97, li104, li105, li124, li126, li240, li241, nI_add, nI_subc, nI_subm, nI_mulc, nI_nm, pu_r, pu_t, pu_a, pu_le_t, pu_le_f, pu_lt_t, pu_lt_f, pu_eq_t, pu_eq_f, nm_eq, nm_eq2, nm_lt, nm_lt2, nm_le, nm_le2, nm_ss, nm_sp, pu_ss, pu_snq, pu_neq, eq_self, and_true, true_and, and_false, false_and, or_true, true_or, or_false, false_or, not_true_eq_false, not_false_eq_true, Nat.sub_self], 0, by simp (disch := omega) only [Option.bind_some, if_true, if_false, Sum.elim_inl, Sum.elim_inr, li0, li1, li2, li3, li4, li5, li6, li7, li8, li9, li10, li12, li16, li20, li24, li25, li31, li32, li40, li41, li42, li48, li57, li59, li97, li104, li105, li124, li126, li240, li241, nI_add, nI_subc, nI_subm, nI_mulc, nI_nm, pu_r, pu_t, pu_a, pu_le_t, pu_le_f, pu_lt_t, pu_lt_f, pu_eq_t, pu_eq_f, nm_eq, nm_eq2, nm_lt, nm_lt2, nm_le, nm_le2, nm_ss, nm_sp, pu_ss, pu_snq, pu_neq, eq_self, and_true, true_and, and_false, false_and, or_true, true_or, or_false, false_or, not_true_eq_false, not_false_eq_true, dn_0], Or.inl ⟨rfl, fun p p1 p2 => by omega⟩⟩
  obtain ⟨hf, hE⟩ := hr
  have e38 : r.1 63 38 = nI k := by rw [hf.2 _ _ (by omega)]; exact h38
  refine ⟨me_s r 63 38 (nI (k + 1)), ?_, (hf.up (fun b k h => by omega)).st (by omega), pu_ss, ?_⟩
  · have h635 : M.1 63 5 = nI n := hM.1
    have e2 : me_l (mX12_laysMatch_63_L39 (nI i) (nI so) (184 + k)) me_fu (nI (n - 1), me_s (me_s (me_s (me_s M (184 + k) 0 (nI i)) (184 + k) 1 (nI (mx R n))) (184 + k) 2 (nI 0)) (184 + k) 3 (-nI 1)) = some r := by
      rw [← dn_s (n - 1), show n - 1 + 1 = n by have := hT.2.2.1; omega]; exact e
    unfold mX12_laysMatch_63
    have := hT.2.2.1
    simp (disch := omega) only [Option.bind_some, if_true, if_false, Sum.elim_inl, Sum.elim_inr, li0, li1, li2, li3, li4, li5, li6, li7, li8, li9, li10, li12, li16, li20, li24, li25, li31, li32, li40, li41, li42, li48, li57, li59, li97, li104, li105, li124, li126, li240, li241, nI_add, nI_subc, nI_subm, nI_mulc, nI_nm, pu_r, pu_t, pu_a, pu_le_t, pu_le_f, pu_lt_t, pu_lt_f, pu_eq_t, pu_eq_f, nm_eq, nm_eq2, nm_lt, nm_lt2, nm_le, nm_le2, nm_ss, nm_sp, pu_ss, pu_snq, pu_neq, eq_self, and_true, true_and, and_false, false_and, or_true, true_or, or_false, false_or, not_true_eq_false, not_false_eq_true, h38, h88, h635, e2, e38]
  · rw [me_s_ne (by omega)]
    exact hE
theorem r_matches {T F : Nat → Nat} {n t so least : Nat} {M : me_M} (hT : tx9 T n) (hM : rx T n M) (hp : ∀ k, k < so → F k < 256 ∧ M.1 65 k = nI (F k)) (hs : so ≤ 240) (hs1 : 1 ≤ so) (hl : 1 ≤ least) (hl2 : least ≤ 240) (hF : ∀ k, k < so → 97 ≤ F k ∧ F k ≤ 104) : ∃ M', ((me_l (mX12_matches_63_L64 (nI so) (nI least)) me_fu (nI 0, me_s (me_s M 63 2 (nI 0)) 63 38 (nI 0))).bind fun M6 => ((me_l (mX12_matches_63_L94 (nI so) (nI least)) me_fu (nI 0, M6)).bind fun M12 => ((me_l (mX12_matches_63_L155 (nI so) (nI least)) me_fu (nI 0, M12)).bind fun M16 => some ((M16.1 63 38), M16)))) = some (nI (ct (kept T n (qf F 0) so least) so), M') ∧ fr (fun b j => (b = 63 ∧ (j = 2 ∨ j = 38)) ∨ b = 87 ∨ b = 88 ∨ (184 ≤ b ∧ b ≤ 423)) M M' ∧ M'.1 63 2 = nI 0 ∧ M'.1 63 38 = nI (ct (kept T n (qf F 0) so least) so) ∧ ∀ i, i < so → kept T n (qf F 0) so least i = true → ent (fta T n (qf F 0) so (so - i)) n i (M'.1 (184 + ct (kept T n (qf F 0) so least) i) 0) (M'.1 (184 + ct (kept T n (qf F 0) so least) i) 1) (M'.1 (184 + ct (kept T n (qf F 0) so least) i) 2) (M'.1 (184 + ct (kept T n (qf F 0) so least) i) 3) := by
  have hn := hT.2.2.2
  have hQ9 : ∀ k, k < so → qf F 0 k < 300 := fun k hk => by
    have := hF k hk
    show F (0 + k) - 95 < 300
    rw [Nat.zero_add]; omega
  obtain ⟨M6, e6, f6, g6⟩ := lp_up (b := mX12_matches_63_L64 (nI so) (nI least)) (fun x s => ∃ Mx, s = (nI x, Mx) ∧ fr (fun b _ => b = 87) (me_s (me_s M 63 2 (nI 0)) 63 38 (nI 0)) Mx ∧ ∀ k, k < x → Mx.1 87 k = nI (qf F 0 k)) (fun r => fr (fun b _ => b = 87) (me_s (me_s M 63 2 (nI 0)) 63 38 (nI 0)) r ∧ ∀ k, k < so → r.1 87 k = nI (qf F 0 k)) (a := 0) (N := so) (by omega) (by omega) (fun x s _ hx hs => by
    obtain ⟨Mx, rfl, hf, hI⟩ := hs
    left
    obtain ⟨f1, f2⟩ := hp x hx
    obtain ⟨v1, v2⟩ := hF x hx
    have f3 : Mx.1 65 x = nI (F x) := by rw [hf.2 _ _ (by omega)]; simp (disch := omega) only [Option.bind_some, if_true, if_false, Sum.elim_inl, Sum.elim_inr, li0, li1, li2, li3, li4, li5, li6, li7, li8, li9, li10, li12, li16, li20, li24, li25, li31, li32, li40, li41, li42, li48, li57, li59, li97, li104, li105, li124, li126, li240, li241, nI_add, nI_subc, nI_subm, nI_mulc, nI_nm, pu_r, pu_t, pu_a, pu_le_t, pu_le_f, pu_lt_t, pu_lt_f, pu_eq_t, pu_eq_f, nm_eq, nm_eq2, nm_lt, nm_lt2, nm_le, nm_le2, nm_ss, nm_sp, pu_ss, pu_snq, pu_neq, eq_self, and_true, true_and, and_false, false_and, or_true, true_or, or_false, false_or, not_true_eq_false, not_false_eq_true, f2]
    have eq : qf F 0 x = F x - 95 := by show F (0 + x) - 95 = _; rw [Nat.zero_add]
    refine ⟨(nI (x + 1), me_s Mx 87 x (nI (qf F 0 x))), ?_, _, rfl, hf.st (by omega), fun k hk => ?_⟩
    · simp only [mX12_matches_63_L64]
      simp (disch := omega) only [Option.bind_some, if_true, if_false, Sum.elim_inl, Sum.elim_inr, li0, li1, li2, li3, li4, li5, li6, li7, li8, li9, li10, li12, li16, li20, li24, li25, li31, li32, li40, li41, li42, li48, li57, li59, li97, li104, li105, li124, li126, li240, li241, nI_add, nI_subc, nI_subm, nI_mulc, nI_nm, pu_r, pu_t, pu_a, pu_le_t, pu_le_f, pu_lt_t, pu_lt_f, pu_eq_t, pu_eq_f, nm_eq, nm_eq2, nm_lt, nm_lt2, nm_le, nm_le2, nm_ss, nm_sp, pu_ss, pu_snq, pu_neq, eq_self, and_true, true_and, and_false, false_and, or_true, true_or, or_false, false_or, not_true_eq_false, not_false_eq_true, f3, show F x - 97 + 2 = qf F 0 x by omega]
    · by_cases c : k = x
      · rw [c, pu_ss]
      · rw [pu_sn c]; exact hI k (by omega)) (fun s hs => by
    obtain ⟨Mx, rfl, hf, hI⟩ := hs
    refine ⟨Mx, ?_, hf, hI⟩
    simp only [mX12_matches_63_L64]
    simp (disch := omega) only [Option.bind_some, if_true, if_false, Sum.elim_inl, Sum.elim_inr, li0, li1, li2, li3, li4, li5, li6, li7, li8, li9, li10, li12, li16, li20, li24, li25, li31, li32, li40, li41, li42, li48, li57, li59, li97, li104, li105, li124, li126, li240, li241, nI_add, nI_subc, nI_subm, nI_mulc, nI_nm, pu_r, pu_t, pu_a, pu_le_t, pu_le_f, pu_lt_t, pu_lt_f, pu_eq_t, pu_eq_f, nm_eq, nm_eq2, nm_lt, nm_lt2, nm_le, nm_le2, nm_ss, nm_sp, pu_ss, pu_snq, pu_neq, eq_self, and_true, true_and, and_false, false_and, or_true, true_or, or_false, false_or, not_true_eq_false, not_false_eq_true]) (s0 := (nI 0, me_s (me_s M 63 2 (nI 0)) 63 38 (nI 0))) ⟨_, rfl, fr.rf, fun k hk => absurd hk (Nat.not_lt_zero _)⟩
  have f06 : fr (fun b j => (b = 63 ∧ (j = 2 ∨ j = 38)) ∨ b = 87) M M6 := ((fr.s (by omega)).st (by omega)).tr (f6.up (fun b k h => by omega))
  have hM6 : ∀ Mx, fr (fun b j => (b = 63 ∧ (j = 2 ∨ j = 38)) ∨ b = 88 ∨ (184 ≤ b ∧ b ≤ 423)) M6 Mx → rx T n Mx ∧ ∀ k, k < so → Mx.1 87 k = nI (qf F 0 k) := fun Mx hf => ⟨⟨by rw [hf.2 _ _ (by omega), f06.2 _ _ (by omega)]; exact hM.1, fun p hp => by rw [hf.2 _ _ (by omega), f06.2 _ _ (by omega)]; exact hM.2 p hp⟩, fun k hk => by rw [hf.2 _ _ (by omega)]; exact g6 k hk⟩
  have e263 : M6.1 63 2 = nI 0 := by rw [f6.2 _ _ (by omega)]; simp (disch := omega) only [Option.bind_some, if_true, if_false, Sum.elim_inl, Sum.elim_inr, li0, li1, li2, li3, li4, li5, li6, li7, li8, li9, li10, li12, li16, li20, li24, li25, li31, li32, li40, li41, li42, li48, li57, li59, li97, li104, li105, li124, li126, li240, li241, nI_add, nI_subc, nI_subm, nI_mulc, nI_nm, pu_r, pu_t, pu_a, pu_le_t, pu_le_f, pu_lt_t, pu_lt_f, pu_eq_t, pu_eq_f, nm_eq, nm_eq2, nm_lt, nm_lt2, nm_le, nm_le2, nm_ss, nm_sp, pu_ss, pu_snq, pu_neq, eq_self, and_true, true_and, and_false, false_and, or_true, true_or, or_false, false_or, not_true_eq_false, not_false_eq_true]
  have e3863 : M6.1 63 38 = nI 0 := by rw [f6.2 _ _ (by omega)]; simp (disch := omega) only [Option.bind_some, if_true, if_false, Sum.elim_inl, Sum.elim_inr, li0, li1, li2, li3, li4, li5, li6, li7, li8, li9, li10, li12, li16, li20, li24, li25, li31, li32, li40, li41, li42, li48, li57, li59, li97, li104, li105, li124, li126, li240, li241, nI_add, nI_subc, nI_subm, nI_mulc, nI_nm, pu_r, pu_t, pu_a, pu_le_t, pu_le_f, pu_lt_t, pu_lt_f, pu_eq_t, pu_eq_f, nm_eq, nm_eq2, nm_lt, nm_lt2, nm_le, nm_le2, nm_ss, nm_sp, pu_ss, pu_snq, pu_neq, eq_self, and_true, true_and, and_false, false_and, or_true, true_or, or_false, false_or, not_true_eq_false, not_false_eq_true]
  obtain ⟨M12, e12, f12, g12⟩ := lp_up (b := mX12_matches_63_L94 (nI so) (nI least)) (fun x s => ∃ Mx, s = (nI x, Mx) ∧ fr (fun b _ => b = 88) M6 Mx ∧ ∀ i, i < x → Mx.1 88 i = nI (len9 T n (qf F 0) so i)) (fun r => fr (fun b _ => b = 88) M6 r ∧ ∀ i, i < so → r.1 88 i = nI (len9 T n (qf F 0) so i)) (a := 0) (N := so) (by omega) (by omega) (fun x s _ hx hs => by
    obtain ⟨Mx, rfl, hf, hI⟩ := hs
    left
    obtain ⟨M11, e11, f11, g11⟩ := lp_up (b := mX12_matches_63_L109 (nI so) (nI least) (nI x)) (fun y s => ∃ My, s = (nI y, My) ∧ fr (fun b j => b = 88 ∧ j = x) Mx My ∧ My.1 88 x = nI (mx (fta T n (qf F 0) so (so - x)) y)) (fun r => fr (fun b j => b = 88 ∧ j = x) Mx r ∧ r.1 88 x = nI (len9 T n (qf F 0) so x)) (a := 0) (N := n) (by omega) (by omega) (fun y s _ hy hs => by
      obtain ⟨My, rfl, hfy, hy88⟩ := hs
      left
      obtain ⟨hrx, hq⟩ := hM6 My ((hf.tr (hfy.up (fun b k h => by omega))).up (fun b k h => by omega))
      have hft := r_fits hT hrx hs hx hy hq hQ9
      have b1 := fta_b (T := T) (n := n) (Q := qf F 0) (so := so) (so - x) y
      have b2 : mx (fta T n (qf F 0) so (so - x)) y ≤ so := mx_le (fun j _ => by have := fta_b (T := T) (n := n) (Q := qf F 0) (so := so) (so - x) j; omega)
      refine ⟨(nI (y + 1), me_s My 88 x (nI (mx (fta T n (qf F 0) so (so - x)) (y + 1)))), ?_, _, rfl, hfy.st (by omega), pu_ss⟩
      simp only [mX12_matches_63_L109]
      simp (disch := omega) only [Option.bind_some, if_true, if_false, Sum.elim_inl, Sum.elim_inr, li0, li1, li2, li3, li4, li5, li6, li7, li8, li9, li10, li12, li16, li20, li24, li25, li31, li32, li40, li41, li42, li48, li57, li59, li97, li104, li105, li124, li126, li240, li241, nI_add, nI_subc, nI_subm, nI_mulc, nI_nm, pu_r, pu_t, pu_a, pu_le_t, pu_le_f, pu_lt_t, pu_lt_f, pu_eq_t, pu_eq_f, nm_eq, nm_eq2, nm_lt, nm_lt2, nm_le, nm_le2, nm_ss, nm_sp, pu_ss, pu_snq, pu_neq, eq_self, and_true, true_and, and_false, false_and, or_true, true_or, or_false, false_or, not_true_eq_false, not_false_eq_true, hrx.1, hy88, hft, r_more, mx_s]) (fun s hs => by
      obtain ⟨My, rfl, hfy, hy88⟩ := hs
      obtain ⟨hrx, hq⟩ := hM6 My ((hf.tr (hfy.up (fun b k h => by omega))).up (fun b k h => by omega))
      refine ⟨My, ?_, hfy, hy88⟩
      simp only [mX12_matches_63_L109]
      simp (disch := omega) only [Option.bind_some, if_true, if_false, Sum.elim_inl, Sum.elim_inr, li0, li1, li2, li3, li4, li5, li6, li7, li8, li9, li10, li12, li16, li20, li24, li25, li31, li32, li40, li41, li42, li48, li57, li59, li97, li104, li105, li124, li126, li240, li241, nI_add, nI_subc, nI_subm, nI_mulc, nI_nm, pu_r, pu_t, pu_a, pu_le_t, pu_le_f, pu_lt_t, pu_lt_f, pu_eq_t, pu_eq_f, nm_eq, nm_eq2, nm_lt, nm_lt2, nm_le, nm_le2, nm_ss, nm_sp, pu_ss, pu_snq, pu_neq, eq_self, and_true, true_and, and_false, false_and, or_true, true_or, or_false, false_or, not_true_eq_false, not_false_eq_true, hrx.1]) (s0 := (nI 0, me_s Mx 88 x (nI 0))) ⟨_, rfl, fr.s (by omega), pu_ss⟩
    refine ⟨(nI (x + 1), M11), ?_, M11, rfl, hf.tr (f11.up (fun b k h => by omega)), fun i hi => ?_⟩
    · simp only [mX12_matches_63_L94]
      simp (disch := omega) only [Option.bind_some, if_true, if_false, Sum.elim_inl, Sum.elim_inr, li0, li1, li2, li3, li4, li5, li6, li7, li8, li9, li10, li12, li16, li20, li24, li25, li31, li32, li40, li41, li42, li48, li57, li59, li97, li104, li105, li124, li126, li240, li241, nI_add, nI_subc, nI_subm, nI_mulc, nI_nm, pu_r, pu_t, pu_a, pu_le_t, pu_le_f, pu_lt_t, pu_lt_f, pu_eq_t, pu_eq_f, nm_eq, nm_eq2, nm_lt, nm_lt2, nm_le, nm_le2, nm_ss, nm_sp, pu_ss, pu_snq, pu_neq, eq_self, and_true, true_and, and_false, false_and, or_true, true_or, or_false, false_or, not_true_eq_false, not_false_eq_true, e11]
    · by_cases c : i = x
      · rw [c]; exact g11
      · rw [f11.2 _ _ (by omega)]; exact hI i (by omega)) (fun s hs => by
    obtain ⟨Mx, rfl, hf, hI⟩ := hs
    refine ⟨Mx, ?_, hf, hI⟩
    simp only [mX12_matches_63_L94]
    simp (disch := omega) only [Option.bind_some, if_true, if_false, Sum.elim_inl, Sum.elim_inr, li0, li1, li2, li3, li4, li5, li6, li7, li8, li9, li10, li12, li16, li20, li24, li25, li31, li32, li40, li41, li42, li48, li57, li59, li97, li104, li105, li124, li126, li240, li241, nI_add, nI_subc, nI_subm, nI_mulc, nI_nm, pu_r, pu_t, pu_a, pu_le_t, pu_le_f, pu_lt_t, pu_lt_f, pu_eq_t, pu_eq_f, nm_eq, nm_eq2, nm_lt, nm_lt2, nm_le, nm_le2, nm_ss, nm_sp, pu_ss, pu_snq, pu_neq, eq_self, and_true, true_and, and_false, false_and, or_true, true_or, or_false, false_or, not_true_eq_false, not_false_eq_true]) (s0 := (nI 0, M6)) ⟨_, rfl, fr.rf, fun k hk => absurd hk (Nat.not_lt_zero _)⟩
  obtain ⟨M16, e16, f16, g16, h16⟩ := lp_up (b := mX12_matches_63_L155 (nI so) (nI least)) (fun x s => ∃ Mx, s = (nI x, Mx) ∧ fr (fun b j => (b = 63 ∧ j = 38) ∨ (184 ≤ b ∧ b ≤ 423)) M12 Mx ∧ Mx.1 63 38 = nI (ct (kept T n (qf F 0) so least) x) ∧ ∀ i, i < x → kept T n (qf F 0) so least i = true → ent (fta T n (qf F 0) so (so - i)) n i (Mx.1 (184 + ct (kept T n (qf F 0) so least) i) 0) (Mx.1 (184 + ct (kept T n (qf F 0) so least) i) 1) (Mx.1 (184 + ct (kept T n (qf F 0) so least) i) 2) (Mx.1 (184 + ct (kept T n (qf F 0) so least) i) 3)) (fun r => fr (fun b j => (b = 63 ∧ j = 38) ∨ (184 ≤ b ∧ b ≤ 423)) M12 r ∧ r.1 63 38 = nI (ct (kept T n (qf F 0) so least) so) ∧ ∀ i, i < so → kept T n (qf F 0) so least i = true → ent (fta T n (qf F 0) so (so - i)) n i (r.1 (184 + ct (kept T n (qf F 0) so least) i) 0) (r.1 (184 + ct (kept T n (qf F 0) so least) i) 1) (r.1 (184 + ct (kept T n (qf F 0) so least) i) 2) (r.1 (184 + ct (kept T n (qf F 0) so least) i) 3)) (a := 0) (N := so) (by omega) (by omega) (fun x s _ hx hs => by
    obtain ⟨Mx, rfl, hf, h38, hI⟩ := hs
    left
    obtain ⟨hrx, hq⟩ := hM6 Mx ((f12.up (fun b k h => by omega)).tr (hf.up (fun b k h => by omega)))
    have b1 := len9_b (T := T) (n := n) (Q := qf F 0) (so := so) (i := x)
    have b2 := len9_b (T := T) (n := n) (Q := qf F 0) (so := so) (i := x - 1)
    have b3 := ct_le (kept T n (qf F 0) so least) x
    have h88 : Mx.1 88 x = nI (len9 T n (qf F 0) so x) := by rw [hf.2 _ _ (by omega)]; exact g12 x hx
    by_cases c : least ≤ len9 T n (qf F 0) so x ∧ (x = 0 ∨ len9 T n (qf F 0) so (x - 1) ≤ len9 T n (qf F 0) so x)
    · have hk : kept T n (qf F 0) so least x = true := decide_eq_true c
      have eK : ct (kept T n (qf F 0) so least) (x + 1) = ct (kept T n (qf F 0) so least) x + 1 := by rw [ct_s, hk]; rfl
      obtain ⟨M14, e14, f14, g14, h14⟩ := r_laysMatch (k := ct (kept T n (qf F 0) so least) x) hT hrx hs hx (by omega) hq hQ9 h38 h88 (by omega)
      refine ⟨(nI (x + 1), M14), ?_, M14, rfl, hf.tr (f14.up (fun b k h => by omega)), by rw [eK]; exact g14, fun i hi hki => ?_⟩
      · simp only [mX12_matches_63_L155, mX12_matches_63_J197, mX12_matches_63_J191]
        by_cases z : x = 0
        · simp (disch := omega) only [Option.bind_some, if_true, if_false, Sum.elim_inl, Sum.elim_inr, li0, li1, li2, li3, li4, li5, li6, li7, li8, li9, li10, li12, li16, li20, li24, li25, li31, li32, li40, li41, li42, li48, li57, li59, li97, li104, li105, li124, li126, li240, li241, nI_add, nI_subc, nI_subm, nI_mulc, nI_nm, pu_r, pu_t, pu_a, pu_le_t, pu_le_f, pu_lt_t, pu_lt_f, pu_eq_t, pu_eq_f, nm_eq, nm_eq2, nm_lt, nm_lt2, nm_le, nm_le2, nm_ss, nm_sp, pu_ss, pu_snq, pu_neq, eq_self, and_true, true_and, and_false, false_and, or_true, true_or, or_false, false_or, not_true_eq_false, not_false_eq_true, h88, e14]
        · have h88' : Mx.1 88 (x - 1) = nI (len9 T n (qf F 0) so (x - 1)) := by rw [hf.2 _ _ (by omega)]; exact g12 (x - 1) (by omega)
          have : len9 T n (qf F 0) so (x - 1) ≤ len9 T n (qf F 0) so x := by omega
          simp (disch := omega) only [Option.bind_some, if_true, if_false, Sum.elim_inl, Sum.elim_inr, li0, li1, li2, li3, li4, li5, li6, li7, li8, li9, li10, li12, li16, li20, li24, li25, li31, li32, li40, li41, li42, li48, li57, li59, li97, li104, li105, li124, li126, li240, li241, nI_add, nI_subc, nI_subm, nI_mulc, nI_nm, pu_r, pu_t, pu_a, pu_le_t, pu_le_f, pu_lt_t, pu_lt_f, pu_eq_t, pu_eq_f, nm_eq, nm_eq2, nm_lt, nm_lt2, nm_le, nm_le2, nm_ss, nm_sp, pu_ss, pu_snq, pu_neq, eq_self, and_true, true_and, and_false, false_and, or_true, true_or, or_false, false_or, not_true_eq_false, not_false_eq_true, h88, h88', e14]
      · by_cases z : i = x
        · rw [z]; exact h14
        · have hki2 : ct (kept T n (qf F 0) so least) i < ct (kept T n (qf F 0) so least) x := by
            have q1 : ct (kept T n (qf F 0) so least) (i + 1) = ct (kept T n (qf F 0) so least) i + 1 := by rw [ct_s, hki]; rfl
            have q2 : ct (kept T n (qf F 0) so least) (i + 1) ≤ ct (kept T n (qf F 0) so least) x := ct_mono' _ (by omega)
            omega
          rw [f14.2 _ 0 (by omega), f14.2 _ 1 (by omega), f14.2 _ 2 (by omega), f14.2 _ 3 (by omega)]
          exact hI i (by omega) hki
    · have hk : kept T n (qf F 0) so least x = false := decide_eq_false c
      have eK : ct (kept T n (qf F 0) so least) (x + 1) = ct (kept T n (qf F 0) so least) x := by rw [ct_s, hk]; rfl
      refine ⟨(nI (x + 1), Mx), ?_, Mx, rfl, hf, by rw [eK]; exact h38, fun i hi hki => ?_⟩
      · simp only [mX12_matches_63_L155, mX12_matches_63_J197, mX12_matches_63_J191]
        by_cases z : len9 T n (qf F 0) so x < least
        · simp (disch := omega) only [Option.bind_some, if_true, if_false, Sum.elim_inl, Sum.elim_inr, li0, li1, li2, li3, li4, li5, li6, li7, li8, li9, li10, li12, li16, li20, li24, li25, li31, li32, li40, li41, li42, li48, li57, li59, li97, li104, li105, li124, li126, li240, li241, nI_add, nI_subc, nI_subm, nI_mulc, nI_nm, pu_r, pu_t, pu_a, pu_le_t, pu_le_f, pu_lt_t, pu_lt_f, pu_eq_t, pu_eq_f, nm_eq, nm_eq2, nm_lt, nm_lt2, nm_le, nm_le2, nm_ss, nm_sp, pu_ss, pu_snq, pu_neq, eq_self, and_true, true_and, and_false, false_and, or_true, true_or, or_false, false_or, not_true_eq_false, not_false_eq_true, h88]
        · have z2 : ¬ x = 0 := fun q => c ⟨by omega, Or.inl q⟩
          have z3 : ¬ len9 T n (qf F 0) so (x - 1) ≤ len9 T n (qf F 0) so x := fun q => c ⟨by omega, Or.inr q⟩
          have h88' : Mx.1 88 (x - 1) = nI (len9 T n (qf F 0) so (x - 1)) := by rw [hf.2 _ _ (by omega)]; exact g12 (x - 1) (by omega)
          simp (disch := omega) only [Option.bind_some, if_true, if_false, Sum.elim_inl, Sum.elim_inr, li0, li1, li2, li3, li4, li5, li6, li7, li8, li9, li10, li12, li16, li20, li24, li25, li31, li32, li40, li41, li42, li48, li57, li59, li97, li104, li105, li124, li126, li240, li241, nI_add, nI_subc, nI_subm, nI_mulc, nI_nm, pu_r, pu_t, pu_a, pu_le_t, pu_le_f, pu_lt_t, pu_lt_f, pu_eq_t, pu_eq_f, nm_eq, nm_eq2, nm_lt, nm_lt2, nm_le, nm_le2, nm_ss, nm_sp, pu_ss, pu_snq, pu_neq, eq_self, and_true, true_and, and_false, false_and, or_true, true_or, or_false, false_or, not_true_eq_false, not_false_eq_true, h88, h88']
      · by_cases z : i = x
        · rw [z, hk] at hki; cases hki
        · exact hI i (by omega) hki) (fun s hs => by
    obtain ⟨Mx, rfl, hf, h38, hI⟩ := hs
    refine ⟨Mx, ?_, hf, h38, hI⟩
    simp only [mX12_matches_63_L155]
    simp (disch := omega) only [Option.bind_some, if_true, if_false, Sum.elim_inl, Sum.elim_inr, li0, li1, li2, li3, li4, li5, li6, li7, li8, li9, li10, li12, li16, li20, li24, li25, li31, li32, li40, li41, li42, li48, li57, li59, li97, li104, li105, li124, li126, li240, li241, nI_add, nI_subc, nI_subm, nI_mulc, nI_nm, pu_r, pu_t, pu_a, pu_le_t, pu_le_f, pu_lt_t, pu_lt_f, pu_eq_t, pu_eq_f, nm_eq, nm_eq2, nm_lt, nm_lt2, nm_le, nm_le2, nm_ss, nm_sp, pu_ss, pu_snq, pu_neq, eq_self, and_true, true_and, and_false, false_and, or_true, true_or, or_false, false_or, not_true_eq_false, not_false_eq_true]) (s0 := (nI 0, M12)) ⟨_, rfl, fr.rf, by rw [f12.2 _ _ (by omega), e3863]; rfl, fun k hk => absurd hk (Nat.not_lt_zero _)⟩
  refine ⟨M16, ?_, (f06.up (fun b k h => by omega)).tr ((f12.up (fun b k h => by omega)).tr (f16.up (fun b k h => by omega))), ?_, g16, h16⟩
  · rw [e6, Option.bind_some, e12, Option.bind_some, e16, Option.bind_some, g16]
  · rw [f16.2 _ _ (by omega), f12.2 _ _ (by omega)]; exact e263
theorem inv_mat {T : Nat → Nat} {n m : Nat} {W X : Nat → Nat} {t : Nat} {F : Nat → Nat} {S P : Nat} {D : Nat → Nat → Nat → Nat} {M M' : me_M} (h : Inv M) (ha : vA T n m W X t F S P D M) (hx : fr (fun b k => (30 ≤ b ∧ b ≤ 35) ∨ (b = 1 ∧ k = 1) ∨ (b = 63 ∧ (k = 0 ∨ k = 2 ∨ k = 38)) ∨ b = 87 ∨ b = 88 ∨ (184 ≤ b ∧ b ≤ 423)) M M') (hp1 : M'.1 1 1 = nI 0) (hp2 : M'.1 63 2 = nI 0) (hm : vM M') : Inv M' := by
  obtain ⟨-, -, -, -, -, -, -, -, -, -, -, -, -, k4, -, -, -⟩ := h
  obtain ⟨h1, h2, h3, -, h5, h6, h7⟩ := ha
  refine ⟨T, n, m, W, X, 0, F, S, P, D, h1.fr hx ?_ ?_ ?_ ?_, h2.fr hx ?_ ?_ ?_ ?_ ?_, ⟨Nat.zero_le _, hp1, hp2, fun i hi => absurd hi (Nat.not_lt_zero _)⟩, k4.fr hx ?_ ?_ ?_ ?_ ?_, h5.fr hx ?_ ?_ ?_ ?_ ?_ ?_, h6.fr hx ?_ ?_ ?_, hm⟩ <;> intros <;> omega
theorem nI_ne1 : (nI 1 = nI 0) = False := eq_false (by decide)
theorem qr_matches2 {T : Nat → Nat} {n m : Nat} {W X : Nat → Nat} {t : Nat} {F : Nat → Nat} {S P : Nat} {D : Nat → Nat → Nat → Nat} {M : me_M} (h : Inv M) (ha : vA T n m W X t F S P D M) (a0 a1 : Int32) (hb0 : iB a0 (nI 1) (nI t) = true) (hb1 : iB a1 (nI 1) (nI 240) = true) : aQ (hL_matches M a0 a1) (fun M1 => mX12_matches_63 M1 a0 a1) := by
  have hT := ha.1.1
  have hn := hT.2.2.2
  have hvp := ha.2.2.1
  have ht := hvp.1
  have hp1 := hvp.2.1
  obtain ⟨so, s1, s2, rfl⟩ := iB_n hb0 (by omega) (by omega)
  obtain ⟨least, l1, l2, rfl⟩ := iB_n hb1 (by omega) (by omega)
  have e1 := c_lettersAlone hvp s2
  cases hal : al9 F so with
  | false =>
    rw [hal, bI_f] at e1
    refine aQ.t 1 1 (G := fun M0 => nX12_matches M0 (nI so) (nI least)) (fun M1 => zX12_matches M1 _ _) h ha (by omega) (by omega) (by omega) ?_ (fun M0 h0 hz hf => ?_)
    · simp (disch := omega) only [↓reduceIte, ↓needEb, ↓needAb, ↓needSb, ↓needE0l, ↓needE1l, ↓needA0l, ↓needA1l, ↓needS0l, ↓needS1l, ↓bnd c_isWhat, ↓bnd c_isSide, ↓bnd c_isLetter, ↓bnd c_isLength, ↓bnd c_isOften, ↓bnd r_in, ↓bnd r_isLetter, bI_t, bI_f, Bool.false_eq_true, Option.bind_none, Option.none_or, Option.some_or, xAN, xNA, xSA, Option.bind_some, if_true, if_false, Sum.elim_inl, Sum.elim_inr, li0, li1, li2, li3, li4, li5, li6, li7, li8, li9, li10, li12, li16, li20, li24, li25, li31, li32, li40, li41, li42, li48, li57, li59, li97, li104, li105, li124, li126, li240, li241, nI_add, nI_subc, nI_subm, nI_mulc, nI_nm, pu_r, pu_t, pu_a, pu_le_t, pu_le_f, pu_lt_t, pu_lt_f, pu_eq_t, pu_eq_f, nm_eq, nm_eq2, nm_lt, nm_lt2, nm_le, nm_le2, nm_ss, nm_sp, pu_ss, pu_snq, pu_neq, eq_self, and_true, true_and, and_false, false_and, or_true, true_or, or_false, false_or, not_true_eq_false, not_false_eq_true, hL_matches, mX11_matches_0, mX11_matches_0_J34, mX11_matches_0_J35, tX11_matches_0, tX11_matches_0_J34, tX11_matches_0_J35, ↓bnd (c_holds hp1), hb0, hb1, e1]
    · have e2 := r_areLetters h0.2.2.1 s2
      rw [hal, bI_f] at e2
      simp (disch := omega) only [↓reduceIte, ↓needEb, ↓needAb, ↓needSb, ↓needE0l, ↓needE1l, ↓needA0l, ↓needA1l, ↓needS0l, ↓needS1l, ↓bnd c_isWhat, ↓bnd c_isSide, ↓bnd c_isLetter, ↓bnd c_isLength, ↓bnd c_isOften, ↓bnd r_in, ↓bnd r_isLetter, bI_t, bI_f, Bool.false_eq_true, Option.bind_none, Option.none_or, Option.some_or, xAN, xNA, xSA, Option.bind_some, if_true, if_false, Sum.elim_inl, Sum.elim_inr, li0, li1, li2, li3, li4, li5, li6, li7, li8, li9, li10, li12, li16, li20, li24, li25, li31, li32, li40, li41, li42, li48, li57, li59, li97, li104, li105, li124, li126, li240, li241, nI_add, nI_subc, nI_subm, nI_mulc, nI_nm, pu_r, pu_t, pu_a, pu_le_t, pu_le_f, pu_lt_t, pu_lt_f, pu_eq_t, pu_eq_f, nm_eq, nm_eq2, nm_lt, nm_lt2, nm_le, nm_le2, nm_ss, nm_sp, pu_ss, pu_snq, pu_neq, eq_self, and_true, true_and, and_false, false_and, or_true, true_or, or_false, false_or, not_true_eq_false, not_false_eq_true, nX12_matches, mX12_matches_63_J37, mX12_matches_63_J42, h0.2.2.1.2.2.1, hb0, hb1, e2, ↓bnd (r_bad11 hz)]
  | true =>
    rw [hal, bI_t] at e1
    have hF : ∀ k, k < so → 97 ≤ F k ∧ F k ≤ 104 := of_decide_eq_true hal
    obtain ⟨Ma, ea, fa, ga⟩ := c_compare hT ha.1.2.1.1.1 hvp s2 s1 hF
    obtain ⟨Mb, eb, fb, gb, hb⟩ := c_keep (T := T) (Q := qf F 0) (so := so) hn (by omega) l1 l2 ga
    have bK := ct_le (kept T n (qf F 0) so least) so
    generalize hx : (nI (ct (kept T n (qf F 0) so least) so)).toInt64 = x
    have hab : vA T n m W X t F S P D (me_o M 0 x) := ha
    have hIb : Inv (me_o M 0 x) := h.o
    have f1 : fr (fun b k => (30 ≤ b ∧ b ≤ 35) ∨ (b = 1 ∧ k = 1)) (me_o M 0 x) (me_o (me_s Mb 1 1 (nI 0)) 0 x) := fr.o (((fa.up (fun b k h => by omega)).tr (fb.up (fun b k h => by omega))).st (by omega))
    have hzf : fr (fun b k => (30 ≤ b ∧ b ≤ 35) ∨ (b = 1 ∧ k = 1) ∨ (b = 63 ∧ k = 0)) (me_o M 0 x) (me_s (me_o (me_s Mb 1 1 (nI 0)) 0 x) 63 0 (nI 0)) := (f1.up (fun b k h => by omega)).st (by omega)
    have hry := hab.1.2.2.1.fr hzf (by omega) (fun b k _ _ => by omega)
    obtain ⟨Mc, ec, fc, pc, gc, hc⟩ := r_matches (t := t) (F := F) (so := so) (least := least) (M := me_s (me_o (me_s Mb 1 1 (nI 0)) 0 x) 63 0 (nI 0)) hT hry.1 (fun k hk => ⟨(hvp.2.2.2 k (by omega)).1, by rw [hzf.2 _ _ (by omega)]; exact (hvp.2.2.2 k (by omega)).2.2⟩) (by omega) s1 l1 l2 hF
    have e0 : (me_s (me_o (me_s Mb 1 1 (nI 0)) 0 x) 63 0 (nI 0)).1 63 0 = nI 0 := pu_ss
    refine aQ.c (M1 := me_s Mb 1 1 (nI 0)) (v := nI (ct (kept T n (qf F 0) so least) so)) (M2 := Mc) (G := fun M0 => nX12_matches M0 (nI so) (nI least)) (fun M1 => zX12_matches M1 _ _) ?_ ?_ ?_ ?_ ?_
    · simp (disch := omega) only [↓reduceIte, ↓needEb, ↓needAb, ↓needSb, ↓needE0l, ↓needE1l, ↓needA0l, ↓needA1l, ↓needS0l, ↓needS1l, ↓bnd c_isWhat, ↓bnd c_isSide, ↓bnd c_isLetter, ↓bnd c_isLength, ↓bnd c_isOften, ↓bnd r_in, ↓bnd r_isLetter, bI_t, bI_f, Bool.false_eq_true, Option.bind_none, Option.none_or, Option.some_or, xAN, xNA, xSA, Option.bind_some, if_true, if_false, Sum.elim_inl, Sum.elim_inr, li0, li1, li2, li3, li4, li5, li6, li7, li8, li9, li10, li12, li16, li20, li24, li25, li31, li32, li40, li41, li42, li48, li57, li59, li97, li104, li105, li124, li126, li240, li241, nI_add, nI_subc, nI_subm, nI_mulc, nI_nm, pu_r, pu_t, pu_a, pu_le_t, pu_le_f, pu_lt_t, pu_lt_f, pu_eq_t, pu_eq_f, nm_eq, nm_eq2, nm_lt, nm_lt2, nm_le, nm_le2, nm_ss, nm_sp, pu_ss, pu_snq, pu_neq, eq_self, and_true, true_and, and_false, false_and, or_true, true_or, or_false, false_or, not_true_eq_false, not_false_eq_true, hL_matches, mX11_matches_0, mX11_matches_0_J34, mX11_matches_0_J35, ↓bnd (c_holds hp1), hb0, hb1, e1, ea, eb, gb]
    · rw [hx]
      have hvz : vP t F (me_s (me_o M 0 x) 63 0 (nI 0)) := vP.fr (M := me_o M 0 x) (S := fun b k => b = 63 ∧ k = 0) hab.2.2.1 (fr.s (by omega)) (by omega) (by omega) (fun k => by omega) (fun k => by omega)
      have e2 : mX12_areLetters_63 (me_s (me_o (me_s Mb 1 1 (nI 0)) 0 x) 63 0 (nI 0)) (nI so) = some (nI 1) := by
        have hvq : vP t F (me_s (me_s (me_o (me_s Mb 1 1 (nI 0)) 0 x) 63 0 (nI 0)) 1 1 (nI t)) := ⟨hvp.1, pu_ss, by rw [me_s_ne (by decide), hzf.2 _ _ (by omega)]; exact hvp.2.2.1, fun i hi => ⟨(hvp.2.2.2 i hi).1, by rw [me_s_ne (by decide), hzf.2 _ _ (by omega)]; exact (hvp.2.2.2 i hi).2.1, by rw [me_s_ne (by decide), hzf.2 _ _ (by omega)]; exact (hvp.2.2.2 i hi).2.2⟩⟩
        have := r_areLetters hvq s2
        rw [hal, bI_t] at this
        exact this
      have e3 : (me_s (me_o (me_s Mb 1 1 (nI 0)) 0 x) 63 0 (nI 0)).1 63 2 = nI t := by rw [hzf.2 _ _ (by omega)]; exact hvp.2.2.1
      simp only [nX12_matches, mX12_matches_63_J37, mX12_matches_63_J42, e3, r_in, li0, li1, li240, Option.bind_some, hb0, hb1, e2, bI_t, r_bad0 e0, ec, nI_ne1, if_false, if_true]
    · rw [fc.2 _ _ (by omega)]; exact e0
    · rw [hx, fc.1]; rfl
    · refine inv_mat hIb hab ((hzf.up (fun b k h => by omega)).tr (fc.up (fun b k h => by omega))) ?_ pc ⟨ct (kept T n (qf F 0) so least) so, by omega, ?_, gc, fun k hk => ?_⟩
      · rw [fc.2 _ _ (by omega)]
        simp (disch := omega) only [Option.bind_some, if_true, if_false, Sum.elim_inl, Sum.elim_inr, li0, li1, li2, li3, li4, li5, li6, li7, li8, li9, li10, li12, li16, li20, li24, li25, li31, li32, li40, li41, li42, li48, li57, li59, li97, li104, li105, li124, li126, li240, li241, nI_add, nI_subc, nI_subm, nI_mulc, nI_nm, pu_r, pu_t, pu_a, pu_le_t, pu_le_f, pu_lt_t, pu_lt_f, pu_eq_t, pu_eq_f, nm_eq, nm_eq2, nm_lt, nm_lt2, nm_le, nm_le2, nm_ss, nm_sp, pu_ss, pu_snq, pu_neq, eq_self, and_true, true_and, and_false, false_and, or_true, true_or, or_false, false_or, not_true_eq_false, not_false_eq_true, me_o1]
      · rw [fc.2 _ _ (by omega)]
        simp (disch := omega) only [Option.bind_some, if_true, if_false, Sum.elim_inl, Sum.elim_inr, li0, li1, li2, li3, li4, li5, li6, li7, li8, li9, li10, li12, li16, li20, li24, li25, li31, li32, li40, li41, li42, li48, li57, li59, li97, li104, li105, li124, li126, li240, li241, nI_add, nI_subc, nI_subm, nI_mulc, nI_nm, pu_r, pu_t, pu_a, pu_le_t, pu_le_f, pu_lt_t, pu_lt_f, pu_eq_t, pu_eq_f, nm_eq, nm_eq2, nm_lt, nm_lt2, nm_le, nm_le2, nm_ss, nm_sp, pu_ss, pu_snq, pu_neq, eq_self, and_true, true_and, and_false, false_and, or_true, true_or, or_false, false_or, not_true_eq_false, not_false_eq_true, me_o1, gb]
      · obtain ⟨i, i1, i2, rfl⟩ := ct_at so k hk
        obtain ⟨a1, a2, a3, a4⟩ := hb i i1 i2
        obtain ⟨c1, c2, c3, c4⟩ := hc i i1 i2
        rw [c1, c2, c3, c4, fc.2 _ _ (by omega), fc.2 _ _ (by omega), fc.2 _ _ (by omega), fc.2 _ _ (by omega)]
        simp (disch := omega) only [Option.bind_some, if_true, if_false, Sum.elim_inl, Sum.elim_inr, li0, li1, li2, li3, li4, li5, li6, li7, li8, li9, li10, li12, li16, li20, li24, li25, li31, li32, li40, li41, li42, li48, li57, li59, li97, li104, li105, li124, li126, li240, li241, nI_add, nI_subc, nI_subm, nI_mulc, nI_nm, pu_r, pu_t, pu_a, pu_le_t, pu_le_f, pu_lt_t, pu_lt_f, pu_eq_t, pu_eq_f, nm_eq, nm_eq2, nm_lt, nm_lt2, nm_le, nm_le2, nm_ss, nm_sp, pu_ss, pu_snq, pu_neq, eq_self, and_true, true_and, and_false, false_and, or_true, true_or, or_false, false_or, not_true_eq_false, not_false_eq_true, me_o1]
        exact ⟨a1, a2, a3, a4⟩
theorem qr_matches {T : Nat → Nat} {n m : Nat} {W X : Nat → Nat} {t : Nat} {F : Nat → Nat} {S P : Nat} {D : Nat → Nat → Nat → Nat} {M : me_M} (h : Inv M) (ha : vA T n m W X t F S P D M) (a0 a1 : Int32) (hb0 : iB a0 (nI 1) (nI t) = true) : aQ (hL_matches M a0 a1) (fun M1 => mX12_matches_63 M1 a0 a1) := by
  cases hb1 : iB a1 (nI 1) (nI 240) with
  | true => exact qr_matches2 h ha a0 a1 hb0 hb1
  | false =>
    have hvp := ha.2.2.1
    have ht := hvp.1
    have hp1 := hvp.2.1
    obtain ⟨so, s1, s2, rfl⟩ := iB_n hb0 (by omega) (by omega)
    refine aQ.t 1 1 (G := fun M0 => nX12_matches M0 (nI so) a1) (fun M1 => zX12_matches M1 _ _) h ha (by omega) (by omega) (by omega) ?_ (fun M0 h0 hz hf => ?_)
    · simp (disch := omega) only [↓reduceIte, ↓needEb, ↓needAb, ↓needSb, ↓needE0l, ↓needE1l, ↓needA0l, ↓needA1l, ↓needS0l, ↓needS1l, ↓bnd c_isWhat, ↓bnd c_isSide, ↓bnd c_isLetter, ↓bnd c_isLength, ↓bnd c_isOften, ↓bnd r_in, ↓bnd r_isLetter, bI_t, bI_f, Bool.false_eq_true, Option.bind_none, Option.none_or, Option.some_or, xAN, xNA, xSA, Option.bind_some, if_true, if_false, Sum.elim_inl, Sum.elim_inr, li0, li1, li2, li3, li4, li5, li6, li7, li8, li9, li10, li12, li16, li20, li24, li25, li31, li32, li40, li41, li42, li48, li57, li59, li97, li104, li105, li124, li126, li240, li241, nI_add, nI_subc, nI_subm, nI_mulc, nI_nm, pu_r, pu_t, pu_a, pu_le_t, pu_le_f, pu_lt_t, pu_lt_f, pu_eq_t, pu_eq_f, nm_eq, nm_eq2, nm_lt, nm_lt2, nm_le, nm_le2, nm_ss, nm_sp, pu_ss, pu_snq, pu_neq, eq_self, and_true, true_and, and_false, false_and, or_true, true_or, or_false, false_or, not_true_eq_false, not_false_eq_true, hL_matches, mX11_matches_0, mX11_matches_0_J34, mX11_matches_0_J35, tX11_matches_0, tX11_matches_0_J34, tX11_matches_0_J35, ↓bnd (c_holds hp1), hb0, hb1]
    · have e2 := r_areLetters h0.2.2.1 s2
      cases hal : al9 F so with
      | false =>
        rw [hal, bI_f] at e2
        simp (disch := omega) only [↓reduceIte, ↓needEb, ↓needAb, ↓needSb, ↓needE0l, ↓needE1l, ↓needA0l, ↓needA1l, ↓needS0l, ↓needS1l, ↓bnd c_isWhat, ↓bnd c_isSide, ↓bnd c_isLetter, ↓bnd c_isLength, ↓bnd c_isOften, ↓bnd r_in, ↓bnd r_isLetter, bI_t, bI_f, Bool.false_eq_true, Option.bind_none, Option.none_or, Option.some_or, xAN, xNA, xSA, Option.bind_some, if_true, if_false, Sum.elim_inl, Sum.elim_inr, li0, li1, li2, li3, li4, li5, li6, li7, li8, li9, li10, li12, li16, li20, li24, li25, li31, li32, li40, li41, li42, li48, li57, li59, li97, li104, li105, li124, li126, li240, li241, nI_add, nI_subc, nI_subm, nI_mulc, nI_nm, pu_r, pu_t, pu_a, pu_le_t, pu_le_f, pu_lt_t, pu_lt_f, pu_eq_t, pu_eq_f, nm_eq, nm_eq2, nm_lt, nm_lt2, nm_le, nm_le2, nm_ss, nm_sp, pu_ss, pu_snq, pu_neq, eq_self, and_true, true_and, and_false, false_and, or_true, true_or, or_false, false_or, not_true_eq_false, not_false_eq_true, nX12_matches, mX12_matches_63_J37, mX12_matches_63_J42, h0.2.2.1.2.2.1, hb0, hb1, e2, ↓bnd (r_bad11 hz)]
      | true =>
        rw [hal, bI_t] at e2
        simp (disch := omega) only [↓reduceIte, ↓needEb, ↓needAb, ↓needSb, ↓needE0l, ↓needE1l, ↓needA0l, ↓needA1l, ↓needS0l, ↓needS1l, ↓bnd c_isWhat, ↓bnd c_isSide, ↓bnd c_isLetter, ↓bnd c_isLength, ↓bnd c_isOften, ↓bnd r_in, ↓bnd r_isLetter, bI_t, bI_f, Bool.false_eq_true, Option.bind_none, Option.none_or, Option.some_or, xAN, xNA, xSA, Option.bind_some, if_true, if_false, Sum.elim_inl, Sum.elim_inr, li0, li1, li2, li3, li4, li5, li6, li7, li8, li9, li10, li12, li16, li20, li24, li25, li31, li32, li40, li41, li42, li48, li57, li59, li97, li104, li105, li124, li126, li240, li241, nI_add, nI_subc, nI_subm, nI_mulc, nI_nm, pu_r, pu_t, pu_a, pu_le_t, pu_le_f, pu_lt_t, pu_lt_f, pu_eq_t, pu_eq_f, nm_eq, nm_eq2, nm_lt, nm_lt2, nm_le, nm_le2, nm_ss, nm_sp, pu_ss, pu_snq, pu_neq, eq_self, and_true, true_and, and_false, false_and, or_true, true_or, or_false, false_or, not_true_eq_false, not_false_eq_true, nX12_matches, mX12_matches_63_J37, mX12_matches_63_J42, h0.2.2.1.2.2.1, hb0, hb1, e2, ↓bnd (r_bad11 hz)]
theorem q_matches {M : me_M} (h : Inv M) (a0 : Int32) (a1 : Int32) : aQ (hL_matches M a0 a1) (fun M1 => mX12_matches_63 M1 a0 a1) := by
  obtain ⟨T, n, m, W, X, t, F, S, P, D, ha⟩ := h.vA
  have hT := ha.1.1
  have hx := ha.1.2.1
  have c1 := hx.1.1.1
  have hn := hT.2.2.2
  have h9 := hT.2.1
  have hp1 := ha.2.2.1.2.1
  have ht := ha.2.2.1.1
  have hm4 := ha.2.1.1.2.2.1
  have hm40 := ha.2.1.1.1
  cases hb0 : iB a0 (nI 1) (nI t) with
  | false =>
    refine aQ.t 1 1 (G := fun M0 => nX12_matches M0 a0 a1) (fun M1 => zX12_matches M1 a0 a1) h ha (by omega) (by omega) (by omega) ?_ (fun M0 h0 hz hf => ?_)
    · simp (disch := omega) only [↓reduceIte, ↓needEb, ↓needAb, ↓needSb, ↓needE0l, ↓needE1l, ↓needA0l, ↓needA1l, ↓needS0l, ↓needS1l, ↓bnd c_isWhat, ↓bnd c_isSide, ↓bnd c_isLetter, ↓bnd c_isLength, ↓bnd c_isOften, ↓bnd r_in, ↓bnd r_isLetter, bI_t, bI_f, Bool.false_eq_true, Option.bind_none, Option.none_or, Option.some_or, xAN, xNA, xSA, Option.bind_some, if_true, if_false, Sum.elim_inl, Sum.elim_inr, li0, li1, li2, li3, li4, li5, li6, li7, li8, li9, li10, li12, li16, li20, li24, li25, li31, li32, li40, li41, li42, li48, li57, li59, li97, li104, li105, li124, li126, li240, li241, nI_add, nI_subc, nI_subm, nI_mulc, nI_nm, pu_r, pu_t, pu_a, pu_le_t, pu_le_f, pu_lt_t, pu_lt_f, pu_eq_t, pu_eq_f, nm_eq, nm_eq2, nm_lt, nm_lt2, nm_le, nm_le2, nm_ss, nm_sp, pu_ss, pu_snq, pu_neq, eq_self, and_true, true_and, and_false, false_and, or_true, true_or, or_false, false_or, not_true_eq_false, not_false_eq_true, mX11_matches_0_J35, mX11_matches_0_J34, mX11_matches_0, tX11_matches_0_J35, tX11_matches_0_J34, tX11_matches_0, hL_matches, ↓bnd (c_holds hp1), hb0]
    · simp (disch := omega) only [↓reduceIte, ↓needEb, ↓needAb, ↓needSb, ↓needE0l, ↓needE1l, ↓needA0l, ↓needA1l, ↓needS0l, ↓needS1l, ↓bnd c_isWhat, ↓bnd c_isSide, ↓bnd c_isLetter, ↓bnd c_isLength, ↓bnd c_isOften, ↓bnd r_in, ↓bnd r_isLetter, bI_t, bI_f, Bool.false_eq_true, Option.bind_none, Option.none_or, Option.some_or, xAN, xNA, xSA, Option.bind_some, if_true, if_false, Sum.elim_inl, Sum.elim_inr, li0, li1, li2, li3, li4, li5, li6, li7, li8, li9, li10, li12, li16, li20, li24, li25, li31, li32, li40, li41, li42, li48, li57, li59, li97, li104, li105, li124, li126, li240, li241, nI_add, nI_subc, nI_subm, nI_mulc, nI_nm, pu_r, pu_t, pu_a, pu_le_t, pu_le_f, pu_lt_t, pu_lt_f, pu_eq_t, pu_eq_f, nm_eq, nm_eq2, nm_lt, nm_lt2, nm_le, nm_le2, nm_ss, nm_sp, pu_ss, pu_snq, pu_neq, eq_self, and_true, true_and, and_false, false_and, or_true, true_or, or_false, false_or, not_true_eq_false, not_false_eq_true, nX12_matches, mX12_matches_63_J197, mX12_matches_63_J191, mX12_matches_63_J42, mX12_matches_63_J37, h0.2.2.1.2.2.1, hb0, ↓bnd (r_bad0l hz), ↓bnd (r_bad10 hz), ↓bnd (r_bad11 hz), ↓bnd (r_bad21 hz), ↓bnd (r_bad22 hz)]
  | true =>
    exact qr_matches h ha a0 a1 hb0
