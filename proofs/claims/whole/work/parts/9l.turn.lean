/-! ===== call: scheme; gaps, and what the reference does after a fault ===== -/
theorem c_gap1 {F : Nat → Nat} {so q q' : Nat} {M : me_M} (ht : cT F so M) (hq : cQ none q M) (hb : q ≤ 1000) (h32 : bz9 F so q = 32) (hs : skR F so q q') : ∃ M1, mX6_readGap_52 M = some (nI 1, M1) ∧ fr (fun b k => b = 52 ∧ k = 2) M M1 ∧ cQ none q' M1 := by
  obtain ⟨q3, q4, q2⟩ := hq
  obtain ⟨M1, e1, f1, g1⟩ := c_skip ht hb q2 hs
  have hib := c_isByte (ch := 32) ht hb q2 (by omega)
  rw [decide_eq_true h32, bI_t] at hib
  refine ⟨M1, ?_, f1, by rw [f1.2 _ _ (by omega)]; exact q3, by rw [f1.2 _ _ (by omega)]; exact q4, g1⟩
  unfold mX6_readGap_52
  simp (disch := omega) only [Option.bind_some, if_true, if_false, Sum.elim_inl, Sum.elim_inr, li0, li1, li2, li3, li4, li5, li6, li7, li8, li9, li10, li12, li16, li20, li24, li25, li31, li32, li40, li41, li42, li48, li57, li59, li97, li104, li105, li124, li126, li240, li241, nI_add, nI_subc, nI_subm, nI_mulc, nI_nm, pu_r, pu_t, pu_a, pu_le_t, pu_le_f, pu_lt_t, pu_lt_f, pu_eq_t, pu_eq_f, nm_eq, nm_eq2, nm_lt, nm_lt2, nm_le, nm_le2, nm_ss, nm_sp, pu_ss, pu_snq, pu_neq, eq_self, and_true, true_and, and_false, false_and, or_true, true_or, or_false, false_or, not_true_eq_false, not_false_eq_true, hib, e1]
theorem c_gap0 {F : Nat → Nat} {so q : Nat} {M : me_M} (ht : cT F so M) (hq : cQ none q M) (hb : q ≤ 240) (h32 : bz9 F so q ≠ 32) : ∃ M1, mX6_readGap_52 M = some (nI 0, M1) ∧ fr (fun b k => b = 52 ∧ 2 ≤ k ∧ k ≤ 4) M M1 ∧ cQ (some (1, q)) 0 M1 := by
  obtain ⟨q3, q4, q2⟩ := hq
  have hib := c_isByte (ch := 32) ht (by omega) q2 (by omega)
  rw [decide_eq_false h32, bI_f] at hib
  refine ⟨_, ?_, (fr.s (by omega)).st (by omega), cQ_fail q2 (by omega) (by omega) hb⟩
  unfold mX6_readGap_52
  simp (disch := omega) only [Option.bind_some, if_true, if_false, Sum.elim_inl, Sum.elim_inr, li0, li1, li2, li3, li4, li5, li6, li7, li8, li9, li10, li12, li16, li20, li24, li25, li31, li32, li40, li41, li42, li48, li57, li59, li97, li104, li105, li124, li126, li240, li241, nI_add, nI_subc, nI_subm, nI_mulc, nI_nm, pu_r, pu_t, pu_a, pu_le_t, pu_le_f, pu_lt_t, pu_lt_f, pu_eq_t, pu_eq_f, nm_eq, nm_eq2, nm_lt, nm_lt2, nm_le, nm_le2, nm_ss, nm_sp, pu_ss, pu_snq, pu_neq, eq_self, and_true, true_and, and_false, false_and, or_true, true_or, or_false, false_or, not_true_eq_false, not_false_eq_true, hib, c_fail]
theorem c_semi1 {F : Nat → Nat} {so q q' : Nat} {M : me_M} (ht : cT F so M) (hq : cQ none q M) (hb : q ≤ 240) (hs : skR F so q q') (h59 : bz9 F so q' = 59) : ∃ M1, mX6_readSemicolon_52 M = some (nI 1, M1) ∧ fr (fun b k => b = 52 ∧ k = 2) M M1 ∧ cQ none (q' + 1) M1 := by
  obtain ⟨q3, q4, q2⟩ := hq
  have hso := ht.1
  have hq' := hs.2.1
  obtain ⟨M1, e1, f1, g1⟩ := c_skip ht (by omega) q2 hs
  have ht1 : cT F so M1 := ht.fr f1 (by omega) (fun k => by omega)
  have hib := c_isByte (ch := 59) ht1 (p := q') (by omega) g1 (by omega)
  rw [decide_eq_true h59, bI_t] at hib
  refine ⟨me_s M1 52 2 (nI (q' + 1)), ?_, f1.st (by omega), by rw [pu_sn (by decide), f1.2 _ _ (by omega)]; exact q3, by rw [pu_sn (by decide), f1.2 _ _ (by omega)]; exact q4, pu_ss⟩
  unfold mX6_readSemicolon_52
  simp (disch := omega) only [Option.bind_some, if_true, if_false, Sum.elim_inl, Sum.elim_inr, li0, li1, li2, li3, li4, li5, li6, li7, li8, li9, li10, li12, li16, li20, li24, li25, li31, li32, li40, li41, li42, li48, li57, li59, li97, li104, li105, li124, li126, li240, li241, nI_add, nI_subc, nI_subm, nI_mulc, nI_nm, pu_r, pu_t, pu_a, pu_le_t, pu_le_f, pu_lt_t, pu_lt_f, pu_eq_t, pu_eq_f, nm_eq, nm_eq2, nm_lt, nm_lt2, nm_le, nm_le2, nm_ss, nm_sp, pu_ss, pu_snq, pu_neq, eq_self, and_true, true_and, and_false, false_and, or_true, true_or, or_false, false_or, not_true_eq_false, not_false_eq_true, e1, hib, g1]
theorem c_semi0 {F : Nat → Nat} {so q q' : Nat} {M : me_M} (ht : cT F so M) (hq : cQ none q M) (hb : q ≤ 240) (hs : skR F so q q') (h59 : bz9 F so q' ≠ 59) : ∃ M1, mX6_readSemicolon_52 M = some (nI 0, M1) ∧ fr (fun b k => b = 52 ∧ 2 ≤ k ∧ k ≤ 4) M M1 ∧ cQ (some (1, q')) 0 M1 := by
  obtain ⟨q3, q4, q2⟩ := hq
  have hso := ht.1
  have hq' := hs.2.1
  obtain ⟨M1, e1, f1, g1⟩ := c_skip ht (by omega) q2 hs
  have ht1 : cT F so M1 := ht.fr f1 (by omega) (fun k => by omega)
  have hib := c_isByte (ch := 59) ht1 (p := q') (by omega) g1 (by omega)
  rw [decide_eq_false h59, bI_f] at hib
  refine ⟨_, ?_, ((f1.up (fun b k h => by omega)).st (by omega)).st (by omega), cQ_fail g1 (by omega) (by omega) (by omega)⟩
  unfold mX6_readSemicolon_52
  simp (disch := omega) only [Option.bind_some, if_true, if_false, Sum.elim_inl, Sum.elim_inr, li0, li1, li2, li3, li4, li5, li6, li7, li8, li9, li10, li12, li16, li20, li24, li25, li31, li32, li40, li41, li42, li48, li57, li59, li97, li104, li105, li124, li126, li240, li241, nI_add, nI_subc, nI_subm, nI_mulc, nI_nm, pu_r, pu_t, pu_a, pu_le_t, pu_le_f, pu_lt_t, pu_lt_f, pu_eq_t, pu_eq_f, nm_eq, nm_eq2, nm_lt, nm_lt2, nm_le, nm_le2, nm_ss, nm_sp, pu_ss, pu_snq, pu_neq, eq_self, and_true, true_and, and_false, false_and, or_true, true_or, or_false, false_or, not_true_eq_false, not_false_eq_true, e1, hib, c_fail]
/-- a faulted reference goes on, and nothing but its cursor moves -/
theorem r_turnF {F : Nat → Nat} {so a1 w p kd pl : Nat} {M : me_M} (ht : rT F so M) (hq : rQ (some (kd, pl)) p M) (hw : w < 3) : ∃ M1, mX12_readsSearch_63_L31 a1 (nI w, M) = some (.inl (nI (w + 1), M1)) ∧ fr (fun b k => b = 63 ∧ k = 25) M M1 ∧ rQ (some (kd, pl)) p M1 := by
  obtain ⟨q26, q27, k1, k2, q, hqb, q25⟩ := hq
  have hso := ht.1
  have hF : ∀ i, i < so → F i < 256 := fun i hi => (ht.2.2 i hi).1
  obtain ⟨q', hs⟩ := sk_ex F so (so - q) q rfl
  have hq' := hs.2.1
  obtain ⟨M1, e1, f1, g1⟩ := r_skip ht (by omega) q25 hs
  have h26 : M1.1 63 26 = nI kd := by rw [f1.2 _ _ (by omega)]; exact q26
  have hh := r_here ht (by omega) q25
  have hfi := r_fine1 h26 k1 k2
  have hwr := fun a b => r_wrong1 (a := a) (b := b) q26 k1 k2
  refine ⟨M1, ?_, f1, h26, by rw [f1.2 _ _ (by omega)]; exact q27, k1, k2, q', by omega, g1⟩
  simp only [mX12_readsSearch_63_L31, mX12_readsSearch_63_J54, mX12_readsSearch_63_J71]
  by_cases z : hv F so q = nI 32
  · simp (disch := omega) only [Option.bind_some, if_true, if_false, Sum.elim_inl, Sum.elim_inr, li0, li1, li2, li3, li4, li5, li6, li7, li8, li9, li10, li12, li16, li20, li24, li25, li31, li32, li40, li41, li42, li48, li57, li59, li97, li104, li105, li124, li126, li240, li241, nI_add, nI_subc, nI_subm, nI_mulc, nI_nm, pu_r, pu_t, pu_a, pu_le_t, pu_le_f, pu_lt_t, pu_lt_f, pu_eq_t, pu_eq_f, nm_eq, nm_eq2, nm_lt, nm_lt2, nm_le, nm_le2, nm_ss, nm_sp, pu_ss, pu_snq, pu_neq, eq_self, and_true, true_and, and_false, false_and, or_true, true_or, or_false, false_or, not_true_eq_false, not_false_eq_true, hh, z, e1, hfi]
  · simp (disch := omega) only [Option.bind_some, if_true, if_false, Sum.elim_inl, Sum.elim_inr, li0, li1, li2, li3, li4, li5, li6, li7, li8, li9, li10, li12, li16, li20, li24, li25, li31, li32, li40, li41, li42, li48, li57, li59, li97, li104, li105, li124, li126, li240, li241, nI_add, nI_subc, nI_subm, nI_mulc, nI_nm, pu_r, pu_t, pu_a, pu_le_t, pu_le_f, pu_lt_t, pu_lt_f, pu_eq_t, pu_eq_f, nm_eq, nm_eq2, nm_lt, nm_lt2, nm_le, nm_le2, nm_ss, nm_sp, pu_ss, pu_snq, pu_neq, eq_self, and_true, true_and, and_false, false_and, or_true, true_or, or_false, false_or, not_true_eq_false, not_false_eq_true, hh, z, hwr, e1, hfi]
theorem r_tailF {F : Nat → Nat} {so p kd pl : Nat} {M : me_M} (ht : rT F so M) (hq : rQ (some (kd, pl)) p M) : ∃ M1, ((mX12_blanks_63 M).bind fun M11 => ((mX12_here_63 M11).bind fun v9 => (if v9 = 59 then (mX12_readsSearch_63_J99 M11) else ((mX12_wrong_63 M11 1 (M11.1 63 25)).bind fun M12 => (mX12_readsSearch_63_J99 M12))))) = some M1 ∧ fr (fun b k => b = 63 ∧ k = 25) M M1 ∧ M1.1 63 26 = nI kd ∧ M1.1 63 27 = nI pl ∧ ∃ q, q ≤ 301 ∧ M1.1 63 25 = nI q := by
  obtain ⟨q26, q27, k1, k2, q, hqb, q25⟩ := hq
  have hso := ht.1
  have hF : ∀ i, i < so → F i < 256 := fun i hi => (ht.2.2 i hi).1
  obtain ⟨q', hs⟩ := sk_ex F so (so - q) q rfl
  have hq' := hs.2.1
  obtain ⟨M1, e1, f1, g1⟩ := r_skip ht (by omega) q25 hs
  have ht1 : rT F so M1 := ht.fr f1 (by omega) (fun k => by omega)
  have h26 : M1.1 63 26 = nI kd := by rw [f1.2 _ _ (by omega)]; exact q26
  have hh := r_here ht1 (p := q') (by omega) g1
  have hwr := fun a b => r_wrong1 (a := a) (b := b) h26 k1 k2
  refine ⟨me_s M1 63 25 (nI (q' + 1)), ?_, f1.st (by omega), by rw [pu_sn (by decide)]; exact h26, by rw [pu_sn (by decide), f1.2 _ _ (by omega)]; exact q27, q' + 1, by omega, pu_ss⟩
  simp only [mX12_readsSearch_63_J99]
  by_cases z : hv F so q' = nI 59
  · simp (disch := omega) only [Option.bind_some, if_true, if_false, Sum.elim_inl, Sum.elim_inr, li0, li1, li2, li3, li4, li5, li6, li7, li8, li9, li10, li12, li16, li20, li24, li25, li31, li32, li40, li41, li42, li48, li57, li59, li97, li104, li105, li124, li126, li240, li241, nI_add, nI_subc, nI_subm, nI_mulc, nI_nm, pu_r, pu_t, pu_a, pu_le_t, pu_le_f, pu_lt_t, pu_lt_f, pu_eq_t, pu_eq_f, nm_eq, nm_eq2, nm_lt, nm_lt2, nm_le, nm_le2, nm_ss, nm_sp, pu_ss, pu_snq, pu_neq, eq_self, and_true, true_and, and_false, false_and, or_true, true_or, or_false, false_or, not_true_eq_false, not_false_eq_true, e1, hh, z, g1]
  · simp (disch := omega) only [Option.bind_some, if_true, if_false, Sum.elim_inl, Sum.elim_inr, li0, li1, li2, li3, li4, li5, li6, li7, li8, li9, li10, li12, li16, li20, li24, li25, li31, li32, li40, li41, li42, li48, li57, li59, li97, li104, li105, li124, li126, li240, li241, nI_add, nI_subc, nI_subm, nI_mulc, nI_nm, pu_r, pu_t, pu_a, pu_le_t, pu_le_f, pu_lt_t, pu_lt_f, pu_eq_t, pu_eq_f, nm_eq, nm_eq2, nm_lt, nm_lt2, nm_le, nm_le2, nm_ss, nm_sp, pu_ss, pu_snq, pu_neq, eq_self, and_true, true_and, and_false, false_and, or_true, true_or, or_false, false_or, not_true_eq_false, not_false_eq_true, e1, hh, z, hwr, g1]
theorem r_tail {F : Nat → Nat} {so p q : Nat} {M : me_M} (ht : rT F so M) (hq : rQ none p M) (hp : p ≤ 240) (hs : skR F so p q) : ∃ M1, ((mX12_blanks_63 M).bind fun M11 => ((mX12_here_63 M11).bind fun v9 => (if v9 = 59 then (mX12_readsSearch_63_J99 M11) else ((mX12_wrong_63 M11 1 (M11.1 63 25)).bind fun M12 => (mX12_readsSearch_63_J99 M12))))) = some M1 ∧ fr (fun b k => b = 63 ∧ 25 ≤ k ∧ k ≤ 27) M M1 ∧ (bz9 F so q = 59 → rQ none (q + 1) M1) ∧ (bz9 F so q ≠ 59 → M1.1 63 26 = nI 1 ∧ M1.1 63 27 = nI q ∧ ∃ q, q ≤ 301 ∧ M1.1 63 25 = nI q) := by
  obtain ⟨q26, q27, q25⟩ := hq
  have hso := ht.1
  have hF : ∀ i, i < so → F i < 256 := fun i hi => (ht.2.2 i hi).1
  have hq' := hs.2.1
  obtain ⟨M1, e1, f1, g1⟩ := r_skip ht (by omega) q25 hs
  have ht1 : rT F so M1 := ht.fr f1 (by omega) (fun k => by omega)
  have h26 : M1.1 63 26 = nI 0 := by rw [f1.2 _ _ (by omega)]; exact q26
  have h27 : M1.1 63 27 = -nI 1 := by rw [f1.2 _ _ (by omega)]; exact q27
  have hh := r_here ht1 (p := q) (by omega) g1
  have he := hv_eq (F := F) (so := so) (p := q) (c := 59) hF (by omega)
  simp only [mX12_readsSearch_63_J99]
  by_cases z : bz9 F so q = 59
  · have z2 : hv F so q = nI 59 := he.mpr z
    refine ⟨me_s M1 63 25 (nI (q + 1)), ?_, (f1.up (fun b k h => by omega)).st (by omega), fun _ => ⟨by rw [pu_sn (by decide)]; exact h26, by rw [pu_sn (by decide)]; exact h27, pu_ss⟩, fun y => absurd z y⟩
    simp (disch := omega) only [Option.bind_some, if_true, if_false, Sum.elim_inl, Sum.elim_inr, li0, li1, li2, li3, li4, li5, li6, li7, li8, li9, li10, li12, li16, li20, li24, li25, li31, li32, li40, li41, li42, li48, li57, li59, li97, li104, li105, li124, li126, li240, li241, nI_add, nI_subc, nI_subm, nI_mulc, nI_nm, pu_r, pu_t, pu_a, pu_le_t, pu_le_f, pu_lt_t, pu_lt_f, pu_eq_t, pu_eq_f, nm_eq, nm_eq2, nm_lt, nm_lt2, nm_le, nm_le2, nm_ss, nm_sp, pu_ss, pu_snq, pu_neq, eq_self, and_true, true_and, and_false, false_and, or_true, true_or, or_false, false_or, not_true_eq_false, not_false_eq_true, e1, hh, z2, g1]
  · have z2 : ¬ hv F so q = nI 59 := fun y => z (he.mp y)
    refine ⟨me_s (me_s (me_s M1 63 26 (nI 1)) 63 27 (nI q)) 63 25 (nI (q + 1)), ?_, (((f1.up (fun b k h => by omega)).st (by omega)).st (by omega)).st (by omega), fun y => absurd y z, fun _ => ⟨by simp (disch := omega) only [Option.bind_some, if_true, if_false, Sum.elim_inl, Sum.elim_inr, li0, li1, li2, li3, li4, li5, li6, li7, li8, li9, li10, li12, li16, li20, li24, li25, li31, li32, li40, li41, li42, li48, li57, li59, li97, li104, li105, li124, li126, li240, li241, nI_add, nI_subc, nI_subm, nI_mulc, nI_nm, pu_r, pu_t, pu_a, pu_le_t, pu_le_f, pu_lt_t, pu_lt_f, pu_eq_t, pu_eq_f, nm_eq, nm_eq2, nm_lt, nm_lt2, nm_le, nm_le2, nm_ss, nm_sp, pu_ss, pu_snq, pu_neq, eq_self, and_true, true_and, and_false, false_and, or_true, true_or, or_false, false_or, not_true_eq_false, not_false_eq_true], by simp (disch := omega) only [Option.bind_some, if_true, if_false, Sum.elim_inl, Sum.elim_inr, li0, li1, li2, li3, li4, li5, li6, li7, li8, li9, li10, li12, li16, li20, li24, li25, li31, li32, li40, li41, li42, li48, li57, li59, li97, li104, li105, li124, li126, li240, li241, nI_add, nI_subc, nI_subm, nI_mulc, nI_nm, pu_r, pu_t, pu_a, pu_le_t, pu_le_f, pu_lt_t, pu_lt_f, pu_eq_t, pu_eq_f, nm_eq, nm_eq2, nm_lt, nm_lt2, nm_le, nm_le2, nm_ss, nm_sp, pu_ss, pu_snq, pu_neq, eq_self, and_true, true_and, and_false, false_and, or_true, true_or, or_false, false_or, not_true_eq_false, not_false_eq_true], q + 1, by omega, pu_ss⟩⟩
    simp (disch := omega) only [Option.bind_some, if_true, if_false, Sum.elim_inl, Sum.elim_inr, li0, li1, li2, li3, li4, li5, li6, li7, li8, li9, li10, li12, li16, li20, li24, li25, li31, li32, li40, li41, li42, li48, li57, li59, li97, li104, li105, li124, li126, li240, li241, nI_add, nI_subc, nI_subm, nI_mulc, nI_nm, pu_r, pu_t, pu_a, pu_le_t, pu_le_f, pu_lt_t, pu_lt_f, pu_eq_t, pu_eq_f, nm_eq, nm_eq2, nm_lt, nm_lt2, nm_le, nm_le2, nm_ss, nm_sp, pu_ss, pu_snq, pu_neq, eq_self, and_true, true_and, and_false, false_and, or_true, true_or, or_false, false_or, not_true_eq_false, not_false_eq_true, e1, hh, z2, g1, r_wrong0 h26]
theorem r_turn0 {F : Nat → Nat} {so a1 w p : Nat} {M : me_M} (ht : rT F so M) (hq : rQ none p M) (hp : p ≤ 240) (hw : w < 3) (h32 : bz9 F so p ≠ 32) : ∃ M1, mX12_readsSearch_63_L31 a1 (nI w, M) = some (.inl (nI (w + 1), M1)) ∧ fr (fun b k => b = 63 ∧ 25 ≤ k ∧ k ≤ 27) M M1 ∧ rQ (some (1, p)) p M1 := by
  obtain ⟨q26, q27, q25⟩ := hq
  have hso := ht.1
  have hF : ∀ i, i < so → F i < 256 := fun i hi => (ht.2.2 i hi).1
  have hh := r_here ht (by omega) q25
  have z2 : ¬ hv F so p = nI 32 := fun y => h32 ((hv_eq (c := 32) hF (by omega)).mp y)
  have fw : fr (fun b k => b = 63 ∧ 25 ≤ k ∧ k ≤ 27) M (me_s (me_s M 63 26 (nI 1)) 63 27 (nI p)) := (fr.s (by omega)).st (by omega)
  have w26 : (me_s (me_s M 63 26 (nI 1)) 63 27 (nI p)).1 63 26 = nI 1 := by simp (disch := omega) only [Option.bind_some, if_true, if_false, Sum.elim_inl, Sum.elim_inr, li0, li1, li2, li3, li4, li5, li6, li7, li8, li9, li10, li12, li16, li20, li24, li25, li31, li32, li40, li41, li42, li48, li57, li59, li97, li104, li105, li124, li126, li240, li241, nI_add, nI_subc, nI_subm, nI_mulc, nI_nm, pu_r, pu_t, pu_a, pu_le_t, pu_le_f, pu_lt_t, pu_lt_f, pu_eq_t, pu_eq_f, nm_eq, nm_eq2, nm_lt, nm_lt2, nm_le, nm_le2, nm_ss, nm_sp, pu_ss, pu_snq, pu_neq, eq_self, and_true, true_and, and_false, false_and, or_true, true_or, or_false, false_or, not_true_eq_false, not_false_eq_true]
  have w27 : (me_s (me_s M 63 26 (nI 1)) 63 27 (nI p)).1 63 27 = nI p := by simp (disch := omega) only [Option.bind_some, if_true, if_false, Sum.elim_inl, Sum.elim_inr, li0, li1, li2, li3, li4, li5, li6, li7, li8, li9, li10, li12, li16, li20, li24, li25, li31, li32, li40, li41, li42, li48, li57, li59, li97, li104, li105, li124, li126, li240, li241, nI_add, nI_subc, nI_subm, nI_mulc, nI_nm, pu_r, pu_t, pu_a, pu_le_t, pu_le_f, pu_lt_t, pu_lt_f, pu_eq_t, pu_eq_f, nm_eq, nm_eq2, nm_lt, nm_lt2, nm_le, nm_le2, nm_ss, nm_sp, pu_ss, pu_snq, pu_neq, eq_self, and_true, true_and, and_false, false_and, or_true, true_or, or_false, false_or, not_true_eq_false, not_false_eq_true]
  have w25 : (me_s (me_s M 63 26 (nI 1)) 63 27 (nI p)).1 63 25 = nI p := by rw [pu_sn (by decide), pu_sn (by decide)]; exact q25
  have hwr := fun b => r_wrong0 (a := nI 1) (b := b) q26
  have htw : rT F so (me_s (me_s M 63 26 (nI 1)) 63 27 (nI p)) := ht.fr fw (by omega) (fun k => by omega)
  generalize hN : me_s (me_s M 63 26 (nI 1)) 63 27 (nI p) = N at *
  obtain ⟨M1, e1, f1, g1⟩ := r_skip htw (by omega) w25 ⟨Nat.le_refl _, Or.inl rfl, fun i a b => by omega, h32⟩
  have h26 : M1.1 63 26 = nI 1 := by rw [f1.2 _ _ (by omega)]; exact w26
  have hfi := r_fine1 h26 (by omega) (by omega)
  refine ⟨M1, ?_, fw.tr (f1.up (fun b k h => by omega)), h26, by rw [f1.2 _ _ (by omega)]; exact w27, by omega, by omega, p, by omega, g1⟩
  simp only [mX12_readsSearch_63_L31, mX12_readsSearch_63_J54, mX12_readsSearch_63_J71]
  simp (disch := omega) only [Option.bind_some, if_true, if_false, Sum.elim_inl, Sum.elim_inr, li0, li1, li2, li3, li4, li5, li6, li7, li8, li9, li10, li12, li16, li20, li24, li25, li31, li32, li40, li41, li42, li48, li57, li59, li97, li104, li105, li124, li126, li240, li241, nI_add, nI_subc, nI_subm, nI_mulc, nI_nm, pu_r, pu_t, pu_a, pu_le_t, pu_le_f, pu_lt_t, pu_lt_f, pu_eq_t, pu_eq_f, nm_eq, nm_eq2, nm_lt, nm_lt2, nm_le, nm_le2, nm_ss, nm_sp, pu_ss, pu_snq, pu_neq, eq_self, and_true, true_and, and_false, false_and, or_true, true_or, or_false, false_or, not_true_eq_false, not_false_eq_true, hh, z2, q25, hwr, hN, e1, hfi]
theorem r_turn1 {w c P p q so : Nat} {F L : Nat → Nat} {M : me_M} {o : Option (Nat × Nat)} (hw : w < 3) (hc : c < 8) (hP1 : 1 ≤ P) (hP5 : P ≤ 5) (ht : rT F so M) (hq : rQ none p M) (hp : p ≤ so) (h32 : bz9 F so p = 32) (hs : skR F so p q) (h78 : M.1 78 1 = nI P) (hL : w = 2 → ∀ k, k < P → M.1 (133 + 3 * c + 1) k = nI (L k) ∧ L k ≤ 4) (hrow : rowR (okw w (dd9 F so q) L P) 1 F so q P o) : ∃ M1, mX12_readsSearch_63_L31 (101 + c) (nI w, M) = some (.inl (nI (w + 1), M1)) ∧ fr (fun b k => (b = 63 ∧ 25 ≤ k ∧ k ≤ 27) ∨ b = 133 + 3 * c + w) M M1 ∧ rQ o (q + P) M1 ∧ (o = none → ∀ k, k < P → M1.1 (133 + 3 * c + w) k = nI (dd9 F so q k)) := by
  obtain ⟨q26, q27, q25⟩ := hq
  have hso := ht.1
  have hF : ∀ i, i < so → F i < 256 := fun i hi => (ht.2.2 i hi).1
  have hh := r_here ht (by omega) q25
  have z2 : hv F so p = nI 32 := (hv_eq (c := 32) hF (by omega)).mpr h32
  have hq' := hs.2.1
  obtain ⟨M0, e0, f0, g0⟩ := r_skip ht (by omega) q25 hs
  have h26 : M0.1 63 26 = nI 0 := by rw [f0.2 _ _ (by omega)]; exact q26
  obtain ⟨M1, e1, f1, g1, k1⟩ := r_row (L := L) (M := M0) hw hc hP1 hP5 (ht.fr f0 (by omega) (fun k => by omega)) ⟨h26, by rw [f0.2 _ _ (by omega)]; exact q27, g0⟩ (by omega) (by rw [f0.2 _ _ (by omega)]; exact h78) (fun z k hk => by rw [f0.2 _ _ (by omega)]; exact hL z k hk) hrow
  refine ⟨M1, ?_, (f0.up (fun b k h => by omega)).tr f1, g1, k1⟩
  simp only [mX12_readsSearch_63_L31, mX12_readsSearch_63_J54, mX12_readsSearch_63_J71]
  simp (disch := omega) only [Option.bind_some, if_true, if_false, Sum.elim_inl, Sum.elim_inr, li0, li1, li2, li3, li4, li5, li6, li7, li8, li9, li10, li12, li16, li20, li24, li25, li31, li32, li40, li41, li42, li48, li57, li59, li97, li104, li105, li124, li126, li240, li241, nI_add, nI_subc, nI_subm, nI_mulc, nI_nm, pu_r, pu_t, pu_a, pu_le_t, pu_le_f, pu_lt_t, pu_lt_f, pu_eq_t, pu_eq_f, nm_eq, nm_eq2, nm_lt, nm_lt2, nm_le, nm_le2, nm_ss, nm_sp, pu_ss, pu_snq, pu_neq, eq_self, and_true, true_and, and_false, false_and, or_true, true_or, or_false, false_or, not_true_eq_false, not_false_eq_true, hh, z2, e0, r_fine0 h26, e1]
