/-! ===== call: matches ===== -/
def nw (T : Nat → Nat) (n s : Nat) (R : Nat → Nat) : Nat → Nat := fun p => if p < n ∧ T p = s then R (p + 1) + 1 else 0
theorem g_begin {T : Nat → Nat} {n : Nat} {M : me_M} (hn : n ≤ 240) (h3 : M.1 3 5 = nI n) : ∃ M', mX8_beginReading_30 M = some M' ∧ fr (fun b _ => b = 31) M M' ∧ ∀ p, p ≤ n → M'.1 31 p = nI 0 := by
  obtain ⟨r, e, hr⟩ := lp_up (b := mX8_beginReading_30_L2) (fun x s => ∃ Mx, s = (nI x, Mx) ∧ fr (fun b _ => b = 31) M Mx ∧ ∀ p, p < x → Mx.1 31 p = nI 0) (fun r => fr (fun b _ => b = 31) M r ∧ ∀ p, p < n + 1 → r.1 31 p = nI 0) (a := 0) (N := n + 1) (by omega) (by omega) (fun x s _ hx hs => by
    obtain ⟨Mx, rfl, hf, hI⟩ := hs
    have h35 : Mx.1 3 5 = nI n := by rw [hf.2 _ _ (by omega)]; exact h3
    left
    refine ⟨(nI (x + 1), me_s Mx 31 x (nI 0)), ?_, me_s Mx 31 x (nI 0), rfl, hf.st (by omega), fun p hp => ?_⟩
    · simp only [mX8_beginReading_30_L2]
      simp (disch := omega) only [Option.bind_some, if_true, if_false, Sum.elim_inl, Sum.elim_inr, li0, li1, li2, li3, li4, li5, li6, li7, li8, li9, li10, li12, li16, li20, li24, li25, li31, li32, li40, li41, li42, li48, li57, li59, li97, li104, li105, li124, li126, li240, li241, nI_add, nI_subc, nI_subm, nI_mulc, nI_nm, pu_r, pu_t, pu_a, pu_le_t, pu_le_f, pu_lt_t, pu_lt_f, pu_eq_t, pu_eq_f, nm_eq, nm_eq2, nm_lt, nm_lt2, nm_le, nm_le2, nm_ss, nm_sp, pu_ss, pu_snq, pu_neq, eq_self, and_true, true_and, and_false, false_and, or_true, true_or, or_false, false_or, not_true_eq_false, not_false_eq_true, h35]
    · by_cases c : p = x
      · rw [c, pu_ss]
      · rw [pu_sn c]; exact hI p (by omega)) (fun s hs => by
    obtain ⟨Mx, rfl, hf, hI⟩ := hs
    have h35 : Mx.1 3 5 = nI n := by rw [hf.2 _ _ (by omega)]; exact h3
    refine ⟨Mx, ?_, hf, hI⟩
    simp only [mX8_beginReading_30_L2]
    simp (disch := omega) only [Option.bind_some, if_true, if_false, Sum.elim_inl, Sum.elim_inr, li0, li1, li2, li3, li4, li5, li6, li7, li8, li9, li10, li12, li16, li20, li24, li25, li31, li32, li40, li41, li42, li48, li57, li59, li97, li104, li105, li124, li126, li240, li241, nI_add, nI_subc, nI_subm, nI_mulc, nI_nm, pu_r, pu_t, pu_a, pu_le_t, pu_le_f, pu_lt_t, pu_lt_f, pu_eq_t, pu_eq_f, nm_eq, nm_eq2, nm_lt, nm_lt2, nm_le, nm_le2, nm_ss, nm_sp, pu_ss, pu_snq, pu_neq, eq_self, and_true, true_and, and_false, false_and, or_true, true_or, or_false, false_or, not_true_eq_false, not_false_eq_true, h35]) (s0 := (nI 0, M)) ⟨M, rfl, fr.rf, fun p hp => absurd hp (Nat.not_lt_zero _)⟩
  refine ⟨r, ?_, hr.1, fun p hp => hr.2 p (by omega)⟩
  unfold mX8_beginReading_30
  simp (disch := omega) only [Option.bind_some, if_true, if_false, Sum.elim_inl, Sum.elim_inr, li0, li1, li2, li3, li4, li5, li6, li7, li8, li9, li10, li12, li16, li20, li24, li25, li31, li32, li40, li41, li42, li48, li57, li59, li97, li104, li105, li124, li126, li240, li241, nI_add, nI_subc, nI_subm, nI_mulc, nI_nm, pu_r, pu_t, pu_a, pu_le_t, pu_le_f, pu_lt_t, pu_lt_f, pu_eq_t, pu_eq_f, nm_eq, nm_eq2, nm_lt, nm_lt2, nm_le, nm_le2, nm_ss, nm_sp, pu_ss, pu_snq, pu_neq, eq_self, and_true, true_and, and_false, false_and, or_true, true_or, or_false, false_or, not_true_eq_false, not_false_eq_true, e]
theorem g_read {T R : Nat → Nat} {n s : Nat} {M : me_M} (hT : tx9 T n) (hs9 : s < 300) (hM : rw_at 3 4 T n M) (hR : ∀ p, p ≤ n → M.1 31 p = nI (R p)) (hRn : R n = 0) : ∃ M', mX8_readAhead_30 M (nI s) = some M' ∧ fr (fun b _ => b = 31) M M' ∧ ∀ p, p ≤ n → M'.1 31 p = nI (nw T n s R p) := by
  have hn := hT.2.2.2
  obtain ⟨r, e, hr⟩ := lp_up (b := mX8_readAhead_30_L2 (nI s)) (fun x st => ∃ Mx, st = (nI x, Mx) ∧ fr (fun b _ => b = 31) M Mx ∧ (∀ p, p < x → Mx.1 31 p = nI (nw T n s R p)) ∧ ∀ p, x ≤ p → p ≤ n → Mx.1 31 p = nI (R p)) (fun r => fr (fun b _ => b = 31) M r ∧ ∀ p, p ≤ n → r.1 31 p = nI (nw T n s R p)) (a := 0) (N := n) (by omega) (by omega) (fun x st _ hx hs => by
    obtain ⟨Mx, rfl, hf, hI, hJ⟩ := hs
    obtain ⟨h35, h4⟩ := hM.fr hf (by omega) (fun k => by omega)
    have hTx := hT.2.1 x
    have hJ1 := hJ (x + 1) (by omega) (by omega)
    left
    refine ⟨(nI (x + 1), me_s Mx 31 x (nI (nw T n s R x))), ?_, me_s Mx 31 x (nI (nw T n s R x)), rfl, hf.st (by omega), fun p hp => ?_, fun p h1 h2 => ?_⟩
    · simp only [mX8_readAhead_30_L2, mX8_readAhead_30_J45]
      by_cases c : T x = s
      · have e1 : nw T n s R x = R (x + 1) + 1 := if_pos ⟨hx, c⟩
        simp (disch := omega) only [Option.bind_some, if_true, if_false, Sum.elim_inl, Sum.elim_inr, li0, li1, li2, li3, li4, li5, li6, li7, li8, li9, li10, li12, li16, li20, li24, li25, li31, li32, li40, li41, li42, li48, li57, li59, li97, li104, li105, li124, li126, li240, li241, nI_add, nI_subc, nI_subm, nI_mulc, nI_nm, pu_r, pu_t, pu_a, pu_le_t, pu_le_f, pu_lt_t, pu_lt_f, pu_eq_t, pu_eq_f, nm_eq, nm_eq2, nm_lt, nm_lt2, nm_le, nm_le2, nm_ss, nm_sp, pu_ss, pu_snq, pu_neq, eq_self, and_true, true_and, and_false, false_and, or_true, true_or, or_false, false_or, not_true_eq_false, not_false_eq_true, h35, h4, hJ1, e1]
      · have e1 : nw T n s R x = 0 := if_neg (fun z => c z.2)
        simp (disch := omega) only [Option.bind_some, if_true, if_false, Sum.elim_inl, Sum.elim_inr, li0, li1, li2, li3, li4, li5, li6, li7, li8, li9, li10, li12, li16, li20, li24, li25, li31, li32, li40, li41, li42, li48, li57, li59, li97, li104, li105, li124, li126, li240, li241, nI_add, nI_subc, nI_subm, nI_mulc, nI_nm, pu_r, pu_t, pu_a, pu_le_t, pu_le_f, pu_lt_t, pu_lt_f, pu_eq_t, pu_eq_f, nm_eq, nm_eq2, nm_lt, nm_lt2, nm_le, nm_le2, nm_ss, nm_sp, pu_ss, pu_snq, pu_neq, eq_self, and_true, true_and, and_false, false_and, or_true, true_or, or_false, false_or, not_true_eq_false, not_false_eq_true, h35, h4, e1]
    · by_cases c : p = x
      · rw [c, pu_ss]
      · rw [pu_sn c]; exact hI p (by omega)
    · rw [pu_sn (by omega)]; exact hJ p (by omega) h2) (fun st hs => by
    obtain ⟨Mx, rfl, hf, hI, hJ⟩ := hs
    obtain ⟨h35, h4⟩ := hM.fr hf (by omega) (fun k => by omega)
    refine ⟨Mx, ?_, hf, fun p hp => ?_⟩
    · simp only [mX8_readAhead_30_L2]
      simp (disch := omega) only [Option.bind_some, if_true, if_false, Sum.elim_inl, Sum.elim_inr, li0, li1, li2, li3, li4, li5, li6, li7, li8, li9, li10, li12, li16, li20, li24, li25, li31, li32, li40, li41, li42, li48, li57, li59, li97, li104, li105, li124, li126, li240, li241, nI_add, nI_subc, nI_subm, nI_mulc, nI_nm, pu_r, pu_t, pu_a, pu_le_t, pu_le_f, pu_lt_t, pu_lt_f, pu_eq_t, pu_eq_f, nm_eq, nm_eq2, nm_lt, nm_lt2, nm_le, nm_le2, nm_ss, nm_sp, pu_ss, pu_snq, pu_neq, eq_self, and_true, true_and, and_false, false_and, or_true, true_or, or_false, false_or, not_true_eq_false, not_false_eq_true, h35]
    · by_cases c : p = n
      · rw [c, hJ n (by omega) (by omega), hRn, show nw T n s R n = 0 from if_neg (by omega)]
      · exact hI p (by omega)) (s0 := (nI 0, M)) ⟨M, rfl, fr.rf, fun p hp => absurd hp (Nat.not_lt_zero _), fun p _ hp => hR p hp⟩
  refine ⟨r, ?_, hr.1, hr.2⟩
  unfold mX8_readAhead_30
  simp (disch := omega) only [Option.bind_some, if_true, if_false, Sum.elim_inl, Sum.elim_inr, li0, li1, li2, li3, li4, li5, li6, li7, li8, li9, li10, li12, li16, li20, li24, li25, li31, li32, li40, li41, li42, li48, li57, li59, li97, li104, li105, li124, li126, li240, li241, nI_add, nI_subc, nI_subm, nI_mulc, nI_nm, pu_r, pu_t, pu_a, pu_le_t, pu_le_f, pu_lt_t, pu_lt_f, pu_eq_t, pu_eq_f, nm_eq, nm_eq2, nm_lt, nm_lt2, nm_le, nm_le2, nm_ss, nm_sp, pu_ss, pu_snq, pu_neq, eq_self, and_true, true_and, and_false, false_and, or_true, true_or, or_false, false_or, not_true_eq_false, not_false_eq_true, e]
theorem g_note {R : Nat → Nat} {n i : Nat} {M : me_M} (hn : n ≤ 240) (hi : i < 240) (h3 : M.1 3 5 = nI n) (hR : ∀ p, p ≤ n → M.1 31 p = nI (R p)) (hRb : ∀ p, p ≤ n → R p ≤ 1000) : ∃ M', mX8_noteLongest_30 M (nI i) = some M' ∧ fr (fun b k => (33 ≤ b ∧ b ≤ 35) ∧ k = i) M M' ∧ M'.1 33 i = nI (mx R n) ∧ M'.1 34 i = nI (ct (fun p => decide (R p = mx R n)) n) ∧ M'.1 35 i = dn (fi R n) := by
  obtain ⟨r, e, hr⟩ := lp_up (b := mX8_noteLongest_30_L23 (nI i)) (fun x st => ∃ Mx, st = (nI x, Mx) ∧ fr (fun b k => (33 ≤ b ∧ b ≤ 35) ∧ k = i) M Mx ∧ Mx.1 33 i = nI (mx R x) ∧ Mx.1 34 i = nI (ct (fun p => decide (R p = mx R x)) x) ∧ Mx.1 35 i = dn (fi R x)) (fun r => fr (fun b k => (33 ≤ b ∧ b ≤ 35) ∧ k = i) M r ∧ r.1 33 i = nI (mx R n) ∧ r.1 34 i = nI (ct (fun p => decide (R p = mx R n)) n) ∧ r.1 35 i = dn (fi R n)) (a := 0) (N := n) (by omega) (by omega) (fun x st _ hx hs => by
    obtain ⟨Mx, rfl, hf, h33, h34, h35⟩ := hs
    have c1 : Mx.1 3 5 = nI n := by rw [hf.2 _ _ (by omega)]; exact h3
    have c2 : Mx.1 31 x = nI (R x) := by rw [hf.2 _ _ (by omega)]; exact hR x (by omega)
    have b1 := hRb x (by omega)
    have b2 : mx R x ≤ 1000 := mx_le (fun j hj => hRb j (by omega))
    have b3 := ct_le (fun p => decide (R p = mx R x)) x
    left
    by_cases c : mx R x < R x
    · have e1 : mx R (x + 1) = R x := by rw [mx_s]; omega
      have e2 : ct (fun p => decide (R p = R x)) (x + 1) = 1 := ct_one x (x + 1) (fun p hp hq => by
        have hq := of_decide_eq_true hq
        by_cases z : p = x
        · exact z
        · have := mx_ge (f := R) (show p < x by omega); omega) (by omega) (decide_eq_true rfl)
      have e3 : fi R (x + 1) = x + 1 := if_pos c
      refine ⟨(nI (x + 1), me_s (me_s (me_s (me_s Mx 33 i (nI (R x))) 34 i (nI 0)) 35 i (nI x)) 34 i (nI 1)), ?_, _, rfl, (((hf.st (by omega)).st (by omega)).st (by omega)).st (by omega), ?_, ?_, ?_⟩
      · simp only [mX8_noteLongest_30_L23, mX8_noteLongest_30_J75, mX8_noteLongest_30_J100]
        simp (disch := omega) only [Option.bind_some, if_true, if_false, Sum.elim_inl, Sum.elim_inr, li0, li1, li2, li3, li4, li5, li6, li7, li8, li9, li10, li12, li16, li20, li24, li25, li31, li32, li40, li41, li42, li48, li57, li59, li97, li104, li105, li124, li126, li240, li241, nI_add, nI_subc, nI_subm, nI_mulc, nI_nm, pu_r, pu_t, pu_a, pu_le_t, pu_le_f, pu_lt_t, pu_lt_f, pu_eq_t, pu_eq_f, nm_eq, nm_eq2, nm_lt, nm_lt2, nm_le, nm_le2, nm_ss, nm_sp, pu_ss, pu_snq, pu_neq, eq_self, and_true, true_and, and_false, false_and, or_true, true_or, or_false, false_or, not_true_eq_false, not_false_eq_true, c1, c2, h33]
      · rw [e1]; simp (disch := omega) only [Option.bind_some, if_true, if_false, Sum.elim_inl, Sum.elim_inr, li0, li1, li2, li3, li4, li5, li6, li7, li8, li9, li10, li12, li16, li20, li24, li25, li31, li32, li40, li41, li42, li48, li57, li59, li97, li104, li105, li124, li126, li240, li241, nI_add, nI_subc, nI_subm, nI_mulc, nI_nm, pu_r, pu_t, pu_a, pu_le_t, pu_le_f, pu_lt_t, pu_lt_f, pu_eq_t, pu_eq_f, nm_eq, nm_eq2, nm_lt, nm_lt2, nm_le, nm_le2, nm_ss, nm_sp, pu_ss, pu_snq, pu_neq, eq_self, and_true, true_and, and_false, false_and, or_true, true_or, or_false, false_or, not_true_eq_false, not_false_eq_true]
      · rw [e1, e2, pu_ss]
      · rw [e3, dn_s]; simp (disch := omega) only [Option.bind_some, if_true, if_false, Sum.elim_inl, Sum.elim_inr, li0, li1, li2, li3, li4, li5, li6, li7, li8, li9, li10, li12, li16, li20, li24, li25, li31, li32, li40, li41, li42, li48, li57, li59, li97, li104, li105, li124, li126, li240, li241, nI_add, nI_subc, nI_subm, nI_mulc, nI_nm, pu_r, pu_t, pu_a, pu_le_t, pu_le_f, pu_lt_t, pu_lt_f, pu_eq_t, pu_eq_f, nm_eq, nm_eq2, nm_lt, nm_lt2, nm_le, nm_le2, nm_ss, nm_sp, pu_ss, pu_snq, pu_neq, eq_self, and_true, true_and, and_false, false_and, or_true, true_or, or_false, false_or, not_true_eq_false, not_false_eq_true]
    · have e1 : mx R (x + 1) = mx R x := by rw [mx_s]; omega
      have e3 : fi R (x + 1) = fi R x := if_neg c
      by_cases d : R x = mx R x
      · refine ⟨(nI (x + 1), me_s Mx 34 i (nI (ct (fun p => decide (R p = mx R x)) x + 1))), ?_, _, rfl, hf.st (by omega), ?_, ?_, ?_⟩
        · simp only [mX8_noteLongest_30_L23, mX8_noteLongest_30_J75, mX8_noteLongest_30_J100]
          simp (disch := omega) only [Option.bind_some, if_true, if_false, Sum.elim_inl, Sum.elim_inr, li0, li1, li2, li3, li4, li5, li6, li7, li8, li9, li10, li12, li16, li20, li24, li25, li31, li32, li40, li41, li42, li48, li57, li59, li97, li104, li105, li124, li126, li240, li241, nI_add, nI_subc, nI_subm, nI_mulc, nI_nm, pu_r, pu_t, pu_a, pu_le_t, pu_le_f, pu_lt_t, pu_lt_f, pu_eq_t, pu_eq_f, nm_eq, nm_eq2, nm_lt, nm_lt2, nm_le, nm_le2, nm_ss, nm_sp, pu_ss, pu_snq, pu_neq, eq_self, and_true, true_and, and_false, false_and, or_true, true_or, or_false, false_or, not_true_eq_false, not_false_eq_true, c1, c2, h33, h34]
        · rw [e1, me_s_ne (by decide)]; exact h33
        · rw [e1, pu_ss, ct_s, decide_eq_true d, if_pos rfl]
        · rw [e3, me_s_ne (by decide)]; exact h35
      · refine ⟨(nI (x + 1), Mx), ?_, _, rfl, hf, ?_, ?_, ?_⟩
        · simp only [mX8_noteLongest_30_L23, mX8_noteLongest_30_J75, mX8_noteLongest_30_J100]
          simp (disch := omega) only [Option.bind_some, if_true, if_false, Sum.elim_inl, Sum.elim_inr, li0, li1, li2, li3, li4, li5, li6, li7, li8, li9, li10, li12, li16, li20, li24, li25, li31, li32, li40, li41, li42, li48, li57, li59, li97, li104, li105, li124, li126, li240, li241, nI_add, nI_subc, nI_subm, nI_mulc, nI_nm, pu_r, pu_t, pu_a, pu_le_t, pu_le_f, pu_lt_t, pu_lt_f, pu_eq_t, pu_eq_f, nm_eq, nm_eq2, nm_lt, nm_lt2, nm_le, nm_le2, nm_ss, nm_sp, pu_ss, pu_snq, pu_neq, eq_self, and_true, true_and, and_false, false_and, or_true, true_or, or_false, false_or, not_true_eq_false, not_false_eq_true, c1, c2, h33]
        · rw [e1]; exact h33
        · rw [e1, ct_s, decide_eq_false d, if_neg (by decide)]; exact h34
        · rw [e3]; exact h35) (fun st hs => by
    obtain ⟨Mx, rfl, hf, h33, h34, h35⟩ := hs
    have c1 : Mx.1 3 5 = nI n := by rw [hf.2 _ _ (by omega)]; exact h3
    refine ⟨Mx, ?_, hf, h33, h34, h35⟩
    simp only [mX8_noteLongest_30_L23]
    simp (disch := omega) only [Option.bind_some, if_true, if_false, Sum.elim_inl, Sum.elim_inr, li0, li1, li2, li3, li4, li5, li6, li7, li8, li9, li10, li12, li16, li20, li24, li25, li31, li32, li40, li41, li42, li48, li57, li59, li97, li104, li105, li124, li126, li240, li241, nI_add, nI_subc, nI_subm, nI_mulc, nI_nm, pu_r, pu_t, pu_a, pu_le_t, pu_le_f, pu_lt_t, pu_lt_f, pu_eq_t, pu_eq_f, nm_eq, nm_eq2, nm_lt, nm_lt2, nm_le, nm_le2, nm_ss, nm_sp, pu_ss, pu_snq, pu_neq, eq_self, and_true, true_and, and_false, false_and, or_true, true_or, or_false, false_or, not_true_eq_false, not_false_eq_true, c1]) (s0 := (nI 0, me_s (me_s (me_s M 33 i (nI 0)) 34 i (nI 0)) 35 i (-nI 1))) ⟨_, rfl, ((fr.s (by omega)).st (by omega)).st (by omega), by simp (disch := omega) only [Option.bind_some, if_true, if_false, Sum.elim_inl, Sum.elim_inr, li0, li1, li2, li3, li4, li5, li6, li7, li8, li9, li10, li12, li16, li20, li24, li25, li31, li32, li40, li41, li42, li48, li57, li59, li97, li104, li105, li124, li126, li240, li241, nI_add, nI_subc, nI_subm, nI_mulc, nI_nm, pu_r, pu_t, pu_a, pu_le_t, pu_le_f, pu_lt_t, pu_lt_f, pu_eq_t, pu_eq_f, nm_eq, nm_eq2, nm_lt, nm_lt2, nm_le, nm_le2, nm_ss, nm_sp, pu_ss, pu_snq, pu_neq, eq_self, and_true, true_and, and_false, false_and, or_true, true_or, or_false, false_or, not_true_eq_false, not_false_eq_true]; rfl, by simp (disch := omega) only [Option.bind_some, if_true, if_false, Sum.elim_inl, Sum.elim_inr, li0, li1, li2, li3, li4, li5, li6, li7, li8, li9, li10, li12, li16, li20, li24, li25, li31, li32, li40, li41, li42, li48, li57, li59, li97, li104, li105, li124, li126, li240, li241, nI_add, nI_subc, nI_subm, nI_mulc, nI_nm, pu_r, pu_t, pu_a, pu_le_t, pu_le_f, pu_lt_t, pu_lt_f, pu_eq_t, pu_eq_f, nm_eq, nm_eq2, nm_lt, nm_lt2, nm_le, nm_le2, nm_ss, nm_sp, pu_ss, pu_snq, pu_neq, eq_self, and_true, true_and, and_false, false_and, or_true, true_or, or_false, false_or, not_true_eq_false, not_false_eq_true]; rfl, by simp (disch := omega) only [Option.bind_some, if_true, if_false, Sum.elim_inl, Sum.elim_inr, li0, li1, li2, li3, li4, li5, li6, li7, li8, li9, li10, li12, li16, li20, li24, li25, li31, li32, li40, li41, li42, li48, li57, li59, li97, li104, li105, li124, li126, li240, li241, nI_add, nI_subc, nI_subm, nI_mulc, nI_nm, pu_r, pu_t, pu_a, pu_le_t, pu_le_f, pu_lt_t, pu_lt_f, pu_eq_t, pu_eq_f, nm_eq, nm_eq2, nm_lt, nm_lt2, nm_le, nm_le2, nm_ss, nm_sp, pu_ss, pu_snq, pu_neq, eq_self, and_true, true_and, and_false, false_and, or_true, true_or, or_false, false_or, not_true_eq_false, not_false_eq_true]; rfl⟩
  refine ⟨r, ?_, hr⟩
  unfold mX8_noteLongest_30
  simp (disch := omega) only [Option.bind_some, if_true, if_false, Sum.elim_inl, Sum.elim_inr, li0, li1, li2, li3, li4, li5, li6, li7, li8, li9, li10, li12, li16, li20, li24, li25, li31, li32, li40, li41, li42, li48, li57, li59, li97, li104, li105, li124, li126, li240, li241, nI_add, nI_subc, nI_subm, nI_mulc, nI_nm, pu_r, pu_t, pu_a, pu_le_t, pu_le_f, pu_lt_t, pu_lt_f, pu_eq_t, pu_eq_f, nm_eq, nm_eq2, nm_lt, nm_lt2, nm_le, nm_le2, nm_ss, nm_sp, pu_ss, pu_snq, pu_neq, eq_self, and_true, true_and, and_false, false_and, or_true, true_or, or_false, false_or, not_true_eq_false, not_false_eq_true, e]
/-- how many letters of a row, the last d of them, stand at a place -/
def fta (T : Nat → Nat) (n : Nat) (Q : Nat → Nat) (so : Nat) : Nat → Nat → Nat
  | 0 => fun _ => 0
  | d + 1 => nw T n (Q (so - (d + 1))) (fta T n Q so d)
theorem fta_n {T : Nat → Nat} {n : Nat} {Q : Nat → Nat} {so : Nat} : ∀ d, fta T n Q so d n = 0
  | 0 => rfl
  | d + 1 => if_neg (by omega)
theorem fta_b {T : Nat → Nat} {n : Nat} {Q : Nat → Nat} {so : Nat} : ∀ d p, fta T n Q so d p ≤ d
  | 0, p => Nat.le_refl _
  | d + 1, p => by
    show (if p < n ∧ T p = Q (so - (d + 1)) then fta T n Q so d (p + 1) + 1 else 0) ≤ d + 1
    have := fta_b (T := T) (n := n) (Q := Q) (so := so) d (p + 1)
    split <;> omega
theorem fta_spec {T : Nat → Nat} {n : Nat} {Q : Nat → Nat} {so : Nat} : ∀ d p, d ≤ so → (∀ x, x < fta T n Q so d p → so - d + x < so ∧ p + x < n ∧ T (p + x) = Q (so - d + x)) ∧ ¬ (so - d + fta T n Q so d p < so ∧ p + fta T n Q so d p < n ∧ T (p + fta T n Q so d p) = Q (so - d + fta T n Q so d p))
  | 0, p, h => ⟨fun x hx => absurd hx (Nat.not_lt_zero _), fun z => by have : fta T n Q so 0 p = 0 := rfl; omega⟩
  | d + 1, p, h => by
    obtain ⟨h1, h2⟩ := fta_spec (T := T) (n := n) (Q := Q) (so := so) d (p + 1) (by omega)
    by_cases c : p < n ∧ T p = Q (so - (d + 1))
    · have e : fta T n Q so (d + 1) p = fta T n Q so d (p + 1) + 1 := if_pos c
      rw [e]
      have es : ∀ x, so - (d + 1) + (x + 1) = so - d + x := fun x => by omega
      have ep : ∀ x, p + (x + 1) = p + 1 + x := fun x => by omega
      refine ⟨fun x hx => ?_, fun z => ?_⟩
      · match x with
        | 0 => exact ⟨by omega, c.1, c.2⟩
        | x + 1 =>
          rw [es, ep]
          exact h1 x (by omega)
      · rw [es, ep (fta T n Q so d (p + 1))] at z
        exact h2 z
    · have e : fta T n Q so (d + 1) p = 0 := if_neg c
      rw [e]
      exact ⟨fun x hx => absurd hx (Nat.not_lt_zero _), fun z => c ⟨z.2.1, z.2.2⟩⟩
/-- what a match that begins at i is -/
def ent (R : Nat → Nat) (n i : Nat) (a b c d : Int32) : Prop := a = nI i ∧ b = nI (mx R n) ∧ c = nI (ct (fun p => decide (R p = mx R n)) n) ∧ d = dn (fi R n)
def len9 (T : Nat → Nat) (n : Nat) (Q : Nat → Nat) (so i : Nat) : Nat := mx (fta T n Q so (so - i)) n
def kept (T : Nat → Nat) (n : Nat) (Q : Nat → Nat) (so least i : Nat) : Bool := decide (least ≤ len9 T n Q so i ∧ (i = 0 ∨ len9 T n Q so (i - 1) ≤ len9 T n Q so i))
theorem len9_b {T : Nat → Nat} {n : Nat} {Q : Nat → Nat} {so i : Nat} : len9 T n Q so i ≤ so - i := mx_le (fun _ _ => fta_b _ _)
theorem c_compare {T F : Nat → Nat} {n t so : Nat} {M : me_M} (hT : tx9 T n) (hM : rw_at 3 4 T n M) (hp : vP t F M) (hs : so ≤ t) (hs1 : 1 ≤ so) (hF : ∀ k, k < so → 97 ≤ F k ∧ F k ≤ 104) : ∃ M', mX8_compare_30_1 M (nI so) = some M' ∧ fr (fun b _ => b = 31 ∨ (33 ≤ b ∧ b ≤ 35)) M M' ∧ ∀ i, i < so → ent (fta T n (qf F 0) so (so - i)) n i (nI i) (M'.1 33 i) (M'.1 34 i) (M'.1 35 i) := by
  have hn := hT.2.2.2
  have ht := hp.1
  obtain ⟨M1, e1, f1, g1⟩ := g_begin (T := T) hn hM.1
  obtain ⟨r, e, hr⟩ := lp_down (b := mX8_compare_30_1_L8) (fun j s => ∃ Mx, s = (dn j, Mx) ∧ fr (fun b _ => b = 31 ∨ (33 ≤ b ∧ b ≤ 35)) M Mx ∧ (∀ p, p ≤ n → Mx.1 31 p = nI (fta T n (qf F 0) so (so - j) p)) ∧ ∀ i, j ≤ i → i < so → ent (fta T n (qf F 0) so (so - i)) n i (nI i) (Mx.1 33 i) (Mx.1 34 i) (Mx.1 35 i)) (fun r => fr (fun b _ => b = 31 ∨ (33 ≤ b ∧ b ≤ 35)) M r ∧ ∀ i, i < so → ent (fta T n (qf F 0) so (so - i)) n i (nI i) (r.1 33 i) (r.1 34 i) (r.1 35 i)) (N := so) (by omega) (fun j s hj hs => by
    obtain ⟨Mx, rfl, hf, h31, hI⟩ := hs
    left
    obtain ⟨w1, w2, -⟩ := hp.2.2.2 j (by omega)
    obtain ⟨v1, v2⟩ := hF j hj
    have w3 : Mx.1 2 j = nI (F j) := by rw [hf.2 _ _ (by omega)]; exact w2
    obtain ⟨M2, e2, f2, g2⟩ := g_read (s := F j - 95) hT (by omega) (hM.fr hf (by omega) (fun k => by omega)) h31 (fta_n _)
    have eR : nw T n (F j - 95) (fta T n (qf F 0) so (so - (j + 1))) = fta T n (qf F 0) so (so - j) := by
      rw [show so - j = so - (j + 1) + 1 by omega]
      show _ = nw T n (qf F 0 (so - (so - (j + 1) + 1))) _
      rw [show so - (so - (j + 1) + 1) = j by omega]
      show _ = nw T n (F (0 + j) - 95) _
      rw [Nat.zero_add]
    rw [eR] at g2
    have f12 := hf.tr (f2.up (fun b k h => by omega))
    obtain ⟨M3, e3, f3, q1, q2, q3⟩ := g_note (i := j) hn (by omega) (hM.fr f12 (by omega) (fun k => by omega)).1 g2 (fun p _ => by have := fta_b (T := T) (n := n) (Q := qf F 0) (so := so) (so - j) p; omega)
    refine ⟨(dn j, M3), ?_, M3, rfl, f12.tr (f3.up (fun b k h => by omega)), fun p hp => ?_, fun i i1 i2 => ?_⟩
    · simp only [mX8_compare_30_1_L8, mX9_letterAt_1]
      simp (disch := omega) only [Option.bind_some, if_true, if_false, Sum.elim_inl, Sum.elim_inr, li0, li1, li2, li3, li4, li5, li6, li7, li8, li9, li10, li12, li16, li20, li24, li25, li31, li32, li40, li41, li42, li48, li57, li59, li97, li104, li105, li124, li126, li240, li241, nI_add, nI_subc, nI_subm, nI_mulc, pu_r, pu_t, pu_a, pu_le_t, pu_le_f, pu_lt_t, pu_lt_f, pu_eq_t, pu_eq_f, nm_eq, nm_eq2, nm_lt, nm_lt2, nm_le, nm_le2, nm_ss, nm_sp, pu_ss, pu_snq, pu_neq, eq_self, and_true, true_and, and_false, false_and, or_true, true_or, or_false, false_or, not_true_eq_false, not_false_eq_true, dn_s, w3, show F j - 97 + 2 = F j - 95 by omega, e2, e3, dn_p]
    · rw [f3.2 _ _ (by omega)]; exact g2 p hp
    · by_cases c : i = j
      · rw [c, q1, q2, q3]; exact ⟨rfl, rfl, rfl, rfl⟩
      · rw [f3.2 33 i (by omega), f3.2 34 i (by omega), f3.2 35 i (by omega), f2.2 33 i (by omega), f2.2 34 i (by omega), f2.2 35 i (by omega)]
        exact hI i (by omega) i2) (fun s hs => by
    obtain ⟨Mx, rfl, hf, h31, hI⟩ := hs
    refine ⟨Mx, ?_, hf, fun i hi => hI i (Nat.zero_le _) hi⟩
    simp only [mX8_compare_30_1_L8]
    simp (disch := omega) only [Option.bind_some, if_true, if_false, Sum.elim_inl, Sum.elim_inr, li0, li1, li2, li3, li4, li5, li6, li7, li8, li9, li10, li12, li16, li20, li24, li25, li31, li32, li40, li41, li42, li48, li57, li59, li97, li104, li105, li124, li126, li240, li241, nI_add, nI_subc, nI_subm, nI_mulc, nI_nm, pu_r, pu_t, pu_a, pu_le_t, pu_le_f, pu_lt_t, pu_lt_f, pu_eq_t, pu_eq_f, nm_eq, nm_eq2, nm_lt, nm_lt2, nm_le, nm_le2, nm_ss, nm_sp, pu_ss, pu_snq, pu_neq, eq_self, and_true, true_and, and_false, false_and, or_true, true_or, or_false, false_or, not_true_eq_false, not_false_eq_true, dn_0]) (s0 := (dn so, M1)) ⟨M1, rfl, f1.up (fun b k h => by omega), fun p hp => by rw [g1 p hp, Nat.sub_self]; rfl, fun i i1 i2 => by omega⟩
  refine ⟨r, ?_, hr⟩
  unfold mX8_compare_30_1
  rw [e1, Option.bind_some, li1, dn_m, e]
  rfl
theorem c_keep {T : Nat → Nat} {n : Nat} {Q : Nat → Nat} {so least : Nat} {M : me_M} (hn : n ≤ 240) (hs : so ≤ 240) (hl : 1 ≤ least) (hl2 : least ≤ 240) (hE : ∀ i, i < so → ent (fta T n Q so (so - i)) n i (nI i) (M.1 33 i) (M.1 34 i) (M.1 35 i)) : ∃ M', mX8_keepMatches_30 M (nI so) (nI least) = some M' ∧ fr (fun b k => (b = 30 ∧ k = 6) ∨ (32 ≤ b ∧ b ≤ 35)) M M' ∧ M'.1 30 6 = nI (ct (kept T n Q so least) so) ∧ ∀ i, i < so → kept T n Q so least i = true → ent (fta T n Q so (so - i)) n i (M'.1 32 (ct (kept T n Q so least) i)) (M'.1 33 (ct (kept T n Q so least) i)) (M'.1 34 (ct (kept T n Q so least) i)) (M'.1 35 (ct (kept T n Q so least) i)) := by
  obtain ⟨r, e, hr⟩ := lp_up (b := mX8_keepMatches_30_L10 (nI so) (nI least)) (fun x s => ∃ Mx, s = (nI (if x = 0 then 0 else x - 1 + len9 T n Q so (x - 1)), nI x, Mx) ∧ fr (fun b k => (b = 30 ∧ k = 6) ∨ (32 ≤ b ∧ b ≤ 35)) M Mx ∧ Mx.1 30 6 = nI (ct (kept T n Q so least) x) ∧ (∀ i, i < x → kept T n Q so least i = true → ent (fta T n Q so (so - i)) n i (Mx.1 32 (ct (kept T n Q so least) i)) (Mx.1 33 (ct (kept T n Q so least) i)) (Mx.1 34 (ct (kept T n Q so least) i)) (Mx.1 35 (ct (kept T n Q so least) i))) ∧ ∀ i, x ≤ i → i < so → ent (fta T n Q so (so - i)) n i (nI i) (Mx.1 33 i) (Mx.1 34 i) (Mx.1 35 i)) (fun r => fr (fun b k => (b = 30 ∧ k = 6) ∨ (32 ≤ b ∧ b ≤ 35)) M r ∧ r.1 30 6 = nI (ct (kept T n Q so least) so) ∧ ∀ i, i < so → kept T n Q so least i = true → ent (fta T n Q so (so - i)) n i (r.1 32 (ct (kept T n Q so least) i)) (r.1 33 (ct (kept T n Q so least) i)) (r.1 34 (ct (kept T n Q so least) i)) (r.1 35 (ct (kept T n Q so least) i))) (a := 0) (N := so) (by omega) (by omega) (fun x s _ hx hs => by
    obtain ⟨Mx, rfl, hf, h6, hI, hJ⟩ := hs
    obtain ⟨-, j33, j34, j35⟩ := hJ x (Nat.le_refl _) hx
    have j33 : Mx.1 33 x = nI (len9 T n Q so x) := j33
    have b1 := len9_b (T := T) (n := n) (Q := Q) (so := so) (i := x)
    have b2 := len9_b (T := T) (n := n) (Q := Q) (so := so) (i := x - 1)
    have b3 := ct_le (kept T n Q so least) x
    have b4 : (if x = 0 then 0 else x - 1 + len9 T n Q so (x - 1)) ≤ 1000 := by split <;> omega
    have eN : (if x + 1 = 0 then 0 else x + 1 - 1 + len9 T n Q so (x + 1 - 1)) = x + len9 T n Q so x := by rw [if_neg (by omega), Nat.add_sub_cancel]
    left
    by_cases c : least ≤ len9 T n Q so x ∧ (x = 0 ∨ len9 T n Q so (x - 1) ≤ len9 T n Q so x)
    · have hk : kept T n Q so least x = true := decide_eq_true c
      have hlt : (if x = 0 then 0 else x - 1 + len9 T n Q so (x - 1)) < x + len9 T n Q so x := by
        by_cases z : x = 0
        · rw [if_pos z]; omega
        · rw [if_neg z]; omega
      have eK : ct (kept T n Q so least) (x + 1) = ct (kept T n Q so least) x + 1 := by rw [ct_s, hk]; rfl
      refine ⟨(nI (x + len9 T n Q so x), nI (x + 1), me_s (me_s (me_s (me_s (me_s Mx 32 (ct (kept T n Q so least) x) (nI x)) 33 (ct (kept T n Q so least) x) (Mx.1 33 x)) 34 (ct (kept T n Q so least) x) (Mx.1 34 x)) 35 (ct (kept T n Q so least) x) (Mx.1 35 x)) 30 6 (nI (ct (kept T n Q so least) x + 1))), ?_, _, by rw [eN], ((((hf.st (by omega)).st (by omega)).st (by omega)).st (by omega)).st (by omega), ?_, fun i hi hki => ?_, fun i i1 i2 => ?_⟩
      · simp only [mX8_keepMatches_30_L10, mX8_keepMatches_30_J114]
        generalize (if x = 0 then 0 else x - 1 + len9 T n Q so (x - 1)) = y at *
        simp (disch := omega) only [Option.bind_some, if_true, if_false, Sum.elim_inl, Sum.elim_inr, li0, li1, li2, li3, li4, li5, li6, li7, li8, li9, li10, li12, li16, li20, li24, li25, li31, li32, li40, li41, li42, li48, li57, li59, li97, li104, li105, li124, li126, li240, li241, nI_add, nI_subc, nI_subm, nI_mulc, nI_nm, pu_r, pu_t, pu_a, pu_le_t, pu_le_f, pu_lt_t, pu_lt_f, pu_eq_t, pu_eq_f, nm_eq, nm_eq2, nm_lt, nm_lt2, nm_le, nm_le2, nm_ss, nm_sp, pu_ss, pu_snq, pu_neq, eq_self, and_true, true_and, and_false, false_and, or_true, true_or, or_false, false_or, not_true_eq_false, not_false_eq_true, j33, h6]
      · rw [eK, pu_ss]
      · by_cases z : i = x
        · subst z
          have := hJ i (Nat.le_refl _) hx
          refine ⟨?_, ?_, ?_, ?_⟩
          · simp (disch := omega) only [Option.bind_some, if_true, if_false, Sum.elim_inl, Sum.elim_inr, li0, li1, li2, li3, li4, li5, li6, li7, li8, li9, li10, li12, li16, li20, li24, li25, li31, li32, li40, li41, li42, li48, li57, li59, li97, li104, li105, li124, li126, li240, li241, nI_add, nI_subc, nI_subm, nI_mulc, nI_nm, pu_r, pu_t, pu_a, pu_le_t, pu_le_f, pu_lt_t, pu_lt_f, pu_eq_t, pu_eq_f, nm_eq, nm_eq2, nm_lt, nm_lt2, nm_le, nm_le2, nm_ss, nm_sp, pu_ss, pu_snq, pu_neq, eq_self, and_true, true_and, and_false, false_and, or_true, true_or, or_false, false_or, not_true_eq_false, not_false_eq_true]
          · simp (disch := omega) only [Option.bind_some, if_true, if_false, Sum.elim_inl, Sum.elim_inr, li0, li1, li2, li3, li4, li5, li6, li7, li8, li9, li10, li12, li16, li20, li24, li25, li31, li32, li40, li41, li42, li48, li57, li59, li97, li104, li105, li124, li126, li240, li241, nI_add, nI_subc, nI_subm, nI_mulc, nI_nm, pu_r, pu_t, pu_a, pu_le_t, pu_le_f, pu_lt_t, pu_lt_f, pu_eq_t, pu_eq_f, nm_eq, nm_eq2, nm_lt, nm_lt2, nm_le, nm_le2, nm_ss, nm_sp, pu_ss, pu_snq, pu_neq, eq_self, and_true, true_and, and_false, false_and, or_true, true_or, or_false, false_or, not_true_eq_false, not_false_eq_true]; exact this.2.1
          · simp (disch := omega) only [Option.bind_some, if_true, if_false, Sum.elim_inl, Sum.elim_inr, li0, li1, li2, li3, li4, li5, li6, li7, li8, li9, li10, li12, li16, li20, li24, li25, li31, li32, li40, li41, li42, li48, li57, li59, li97, li104, li105, li124, li126, li240, li241, nI_add, nI_subc, nI_subm, nI_mulc, nI_nm, pu_r, pu_t, pu_a, pu_le_t, pu_le_f, pu_lt_t, pu_lt_f, pu_eq_t, pu_eq_f, nm_eq, nm_eq2, nm_lt, nm_lt2, nm_le, nm_le2, nm_ss, nm_sp, pu_ss, pu_snq, pu_neq, eq_self, and_true, true_and, and_false, false_and, or_true, true_or, or_false, false_or, not_true_eq_false, not_false_eq_true]; exact this.2.2.1
          · simp (disch := omega) only [Option.bind_some, if_true, if_false, Sum.elim_inl, Sum.elim_inr, li0, li1, li2, li3, li4, li5, li6, li7, li8, li9, li10, li12, li16, li20, li24, li25, li31, li32, li40, li41, li42, li48, li57, li59, li97, li104, li105, li124, li126, li240, li241, nI_add, nI_subc, nI_subm, nI_mulc, nI_nm, pu_r, pu_t, pu_a, pu_le_t, pu_le_f, pu_lt_t, pu_lt_f, pu_eq_t, pu_eq_f, nm_eq, nm_eq2, nm_lt, nm_lt2, nm_le, nm_le2, nm_ss, nm_sp, pu_ss, pu_snq, pu_neq, eq_self, and_true, true_and, and_false, false_and, or_true, true_or, or_false, false_or, not_true_eq_false, not_false_eq_true]; exact this.2.2.2
        · have hki2 : ct (kept T n Q so least) i < ct (kept T n Q so least) x := by
            have q1 : ct (kept T n Q so least) (i + 1) = ct (kept T n Q so least) i + 1 := by rw [ct_s, hki]; rfl
            have q2 : ct (kept T n Q so least) (i + 1) ≤ ct (kept T n Q so least) x := ct_mono' _ (by omega)
            omega
          have := hI i (by omega) hki
          simp (disch := omega) only [Option.bind_some, if_true, if_false, Sum.elim_inl, Sum.elim_inr, li0, li1, li2, li3, li4, li5, li6, li7, li8, li9, li10, li12, li16, li20, li24, li25, li31, li32, li40, li41, li42, li48, li57, li59, li97, li104, li105, li124, li126, li240, li241, nI_add, nI_subc, nI_subm, nI_mulc, nI_nm, pu_r, pu_t, pu_a, pu_le_t, pu_le_f, pu_lt_t, pu_lt_f, pu_eq_t, pu_eq_f, nm_eq, nm_eq2, nm_lt, nm_lt2, nm_le, nm_le2, nm_ss, nm_sp, pu_ss, pu_snq, pu_neq, eq_self, and_true, true_and, and_false, false_and, or_true, true_or, or_false, false_or, not_true_eq_false, not_false_eq_true]
          exact this
      · have := hJ i (by omega) i2
        simp (disch := omega) only [Option.bind_some, if_true, if_false, Sum.elim_inl, Sum.elim_inr, li0, li1, li2, li3, li4, li5, li6, li7, li8, li9, li10, li12, li16, li20, li24, li25, li31, li32, li40, li41, li42, li48, li57, li59, li97, li104, li105, li124, li126, li240, li241, nI_add, nI_subc, nI_subm, nI_mulc, nI_nm, pu_r, pu_t, pu_a, pu_le_t, pu_le_f, pu_lt_t, pu_lt_f, pu_eq_t, pu_eq_f, nm_eq, nm_eq2, nm_lt, nm_lt2, nm_le, nm_le2, nm_ss, nm_sp, pu_ss, pu_snq, pu_neq, eq_self, and_true, true_and, and_false, false_and, or_true, true_or, or_false, false_or, not_true_eq_false, not_false_eq_true]
        exact this
    · have hk : kept T n Q so least x = false := decide_eq_false c
      have eK : ct (kept T n Q so least) (x + 1) = ct (kept T n Q so least) x := by rw [ct_s, hk]; rfl
      refine ⟨(nI (x + len9 T n Q so x), nI (x + 1), Mx), ?_, Mx, by rw [eN], hf, by rw [eK]; exact h6, fun i hi hki => ?_, fun i i1 i2 => hJ i (by omega) i2⟩
      · simp only [mX8_keepMatches_30_L10, mX8_keepMatches_30_J114]
        by_cases z : x + len9 T n Q so x ≤ (if x = 0 then 0 else x - 1 + len9 T n Q so (x - 1))
        · generalize (if x = 0 then 0 else x - 1 + len9 T n Q so (x - 1)) = y at *
          simp (disch := omega) only [Option.bind_some, if_true, if_false, Sum.elim_inl, Sum.elim_inr, li0, li1, li2, li3, li4, li5, li6, li7, li8, li9, li10, li12, li16, li20, li24, li25, li31, li32, li40, li41, li42, li48, li57, li59, li97, li104, li105, li124, li126, li240, li241, nI_add, nI_subc, nI_subm, nI_mulc, nI_nm, pu_r, pu_t, pu_a, pu_le_t, pu_le_f, pu_lt_t, pu_lt_f, pu_eq_t, pu_eq_f, nm_eq, nm_eq2, nm_lt, nm_lt2, nm_le, nm_le2, nm_ss, nm_sp, pu_ss, pu_snq, pu_neq, eq_self, and_true, true_and, and_false, false_and, or_true, true_or, or_false, false_or, not_true_eq_false, not_false_eq_true, j33]
        · have hlt : len9 T n Q so x < least := by
            by_cases z2 : x = 0
            · rw [if_pos z2] at z
              have : ¬ least ≤ len9 T n Q so x := fun q => c ⟨q, Or.inl z2⟩
              omega
            · rw [if_neg z2] at z
              have : ¬ least ≤ len9 T n Q so x := fun q => c ⟨q, Or.inr (by omega)⟩
              omega
          generalize (if x = 0 then 0 else x - 1 + len9 T n Q so (x - 1)) = y at *
          simp (disch := omega) only [Option.bind_some, if_true, if_false, Sum.elim_inl, Sum.elim_inr, li0, li1, li2, li3, li4, li5, li6, li7, li8, li9, li10, li12, li16, li20, li24, li25, li31, li32, li40, li41, li42, li48, li57, li59, li97, li104, li105, li124, li126, li240, li241, nI_add, nI_subc, nI_subm, nI_mulc, nI_nm, pu_r, pu_t, pu_a, pu_le_t, pu_le_f, pu_lt_t, pu_lt_f, pu_eq_t, pu_eq_f, nm_eq, nm_eq2, nm_lt, nm_lt2, nm_le, nm_le2, nm_ss, nm_sp, pu_ss, pu_snq, pu_neq, eq_self, and_true, true_and, and_false, false_and, or_true, true_or, or_false, false_or, not_true_eq_false, not_false_eq_true, j33]
      · by_cases z : i = x
        · rw [z, hk] at hki; cases hki
        · exact hI i (by omega) hki) (fun s hs => by
    obtain ⟨Mx, rfl, hf, h6, hI, hJ⟩ := hs
    refine ⟨Mx, ?_, hf, h6, hI⟩
    simp only [mX8_keepMatches_30_L10]
    simp (disch := omega) only [Option.bind_some, if_true, if_false, Sum.elim_inl, Sum.elim_inr, li0, li1, li2, li3, li4, li5, li6, li7, li8, li9, li10, li12, li16, li20, li24, li25, li31, li32, li40, li41, li42, li48, li57, li59, li97, li104, li105, li124, li126, li240, li241, nI_add, nI_subc, nI_subm, nI_mulc, nI_nm, pu_r, pu_t, pu_a, pu_le_t, pu_le_f, pu_lt_t, pu_lt_f, pu_eq_t, pu_eq_f, nm_eq, nm_eq2, nm_lt, nm_lt2, nm_le, nm_le2, nm_ss, nm_sp, pu_ss, pu_snq, pu_neq, eq_self, and_true, true_and, and_false, false_and, or_true, true_or, or_false, false_or, not_true_eq_false, not_false_eq_true]) (s0 := (nI 0, nI 0, me_s M 30 6 (nI 0))) ⟨_, rfl, fr.s (by omega), pu_ss, fun i hi => absurd hi (Nat.not_lt_zero _), fun i _ hi => by
      have := hE i hi
      simp (disch := omega) only [Option.bind_some, if_true, if_false, Sum.elim_inl, Sum.elim_inr, li0, li1, li2, li3, li4, li5, li6, li7, li8, li9, li10, li12, li16, li20, li24, li25, li31, li32, li40, li41, li42, li48, li57, li59, li97, li104, li105, li124, li126, li240, li241, nI_add, nI_subc, nI_subm, nI_mulc, nI_nm, pu_r, pu_t, pu_a, pu_le_t, pu_le_f, pu_lt_t, pu_lt_f, pu_eq_t, pu_eq_f, nm_eq, nm_eq2, nm_lt, nm_lt2, nm_le, nm_le2, nm_ss, nm_sp, pu_ss, pu_snq, pu_neq, eq_self, and_true, true_and, and_false, false_and, or_true, true_or, or_false, false_or, not_true_eq_false, not_false_eq_true]
      exact this⟩
  refine ⟨r, ?_, hr⟩
  unfold mX8_keepMatches_30
  simp (disch := omega) only [Option.bind_some, if_true, if_false, Sum.elim_inl, Sum.elim_inr, li0, li1, li2, li3, li4, li5, li6, li7, li8, li9, li10, li12, li16, li20, li24, li25, li31, li32, li40, li41, li42, li48, li57, li59, li97, li104, li105, li124, li126, li240, li241, nI_add, nI_subc, nI_subm, nI_mulc, nI_nm, pu_r, pu_t, pu_a, pu_le_t, pu_le_f, pu_lt_t, pu_lt_f, pu_eq_t, pu_eq_f, nm_eq, nm_eq2, nm_lt, nm_lt2, nm_le, nm_le2, nm_ss, nm_sp, pu_ss, pu_snq, pu_neq, eq_self, and_true, true_and, and_false, false_and, or_true, true_or, or_false, false_or, not_true_eq_false, not_false_eq_true, e]
