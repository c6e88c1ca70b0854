/-! ===== call: scheme; the reference keeps what it has read ===== -/
theorem r_copy {S P : Nat} {D : Nat → Nat → Nat → Nat} {M : me_M} (hS : S ≤ 8) (hP : P ≤ 5) (h77 : M.1 77 0 = nI S) (h78 : M.1 78 0 = nI P) (hD : ∀ s w k, s < S → w < 3 → k < P → M.1 (133 + 3 * s + w) k = nI (D s w k)) : ∃ M1, me_l mX12_scheme_63_L229 me_fu (nI 0, M) = some M1 ∧ fr (fun b _ => 109 ≤ b ∧ b ≤ 132) M M1 ∧ ∀ s w k, s < S → w < 3 → k < P → M1.1 (109 + 3 * s + w) k = nI (D s w k) :=
  lp_up (b := mX12_scheme_63_L229) (fun x st => ∃ Mx, st = (nI x, Mx) ∧ fr (fun b _ => 109 ≤ b ∧ b ≤ 132) M Mx ∧ ∀ s w k, s < x → w < 3 → k < P → Mx.1 (109 + 3 * s + w) k = nI (D s w k)) (fun r => fr (fun b _ => 109 ≤ b ∧ b ≤ 132) M r ∧ ∀ s w k, s < S → w < 3 → k < P → r.1 (109 + 3 * s + w) k = nI (D s w k)) (a := 0) (N := S) (by omega) (by omega) (fun x st _ hx hst => by
    obtain ⟨Mx, rfl, hf, hI⟩ := hst
    left
    obtain ⟨M2, e2, f2, g2⟩ := lp_up (b := mX12_scheme_63_L241 (nI x)) (fun y st => ∃ My, st = (nI y, My) ∧ fr (fun b _ => 109 + 3 * x ≤ b ∧ b ≤ 109 + 3 * x + 2) Mx My ∧ ∀ w k, w < y → k < P → My.1 (109 + 3 * x + w) k = nI (D x w k)) (fun r => fr (fun b _ => 109 + 3 * x ≤ b ∧ b ≤ 109 + 3 * x + 2) Mx r ∧ ∀ w k, w < 3 → k < P → r.1 (109 + 3 * x + w) k = nI (D x w k)) (a := 0) (N := 3) (by omega) (by omega) (fun y st _ hy hst => by
      obtain ⟨My, rfl, hfy, hIy⟩ := hst
      left
      obtain ⟨M3, e3, f3, g3⟩ := lp_up (b := mX12_scheme_63_L249 (nI x) (nI y)) (fun z st => ∃ Mz, st = (nI z, Mz) ∧ fr (fun b _ => b = 109 + 3 * x + y) My Mz ∧ ∀ k, k < z → Mz.1 (109 + 3 * x + y) k = nI (D x y k)) (fun r => fr (fun b _ => b = 109 + 3 * x + y) My r ∧ ∀ k, k < P → r.1 (109 + 3 * x + y) k = nI (D x y k)) (a := 0) (N := P) (by omega) (by omega) (fun z st _ hz hst => by
        obtain ⟨Mz, rfl, hfz, hIz⟩ := hst
        left
        have k78 : Mz.1 78 0 = nI P := by rw [hfz.2 _ _ (by omega), hfy.2 _ _ (by omega), hf.2 _ _ (by omega)]; exact h78
        have hv : Mz.1 (133 + 3 * x + y) z = nI (D x y z) := by rw [hfz.2 _ _ (by omega), hfy.2 _ _ (by omega), hf.2 _ _ (by omega)]; exact hD x y z hx hy hz
        have i1 : 109 + 3 * (93 + x - 93) = 109 + 3 * x := by omega
        have i2 : 109 + 3 * (101 + x - 93) = 133 + 3 * x := by omega
        refine ⟨(nI (z + 1), me_s Mz (109 + 3 * x + y) z (nI (D x y z))), ?_, _, rfl, hfz.st (by omega), fun k hk => ?_⟩
        · simp only [mX12_scheme_63_L249]
          simp (disch := omega) only [Option.bind_some, if_true, if_false, Sum.elim_inl, Sum.elim_inr, li0, li1, li2, li3, li4, li5, li6, li7, li8, li9, li10, li12, li16, li20, li24, li25, li31, li32, li40, li41, li42, li48, li57, li59, li97, li104, li105, li124, li126, li240, li241, nI_add, nI_subc, nI_subm, nI_mulc, nI_nm, pu_r, pu_t, pu_a, pu_le_t, pu_le_f, pu_lt_t, pu_lt_f, pu_eq_t, pu_eq_f, nm_eq, nm_eq2, nm_lt, nm_lt2, nm_le, nm_le2, nm_ss, nm_sp, pu_ss, pu_snq, pu_neq, eq_self, and_true, true_and, and_false, false_and, or_true, true_or, or_false, false_or, not_true_eq_false, not_false_eq_true, k78, i1, i2, hv]
        · by_cases q : k = z
          · rw [q, pu_ss]
          · rw [pu_sn q]; exact hIz k (by omega)) (fun st hst => by
        obtain ⟨Mz, rfl, hfz, hIz⟩ := hst
        have k78 : Mz.1 78 0 = nI P := by rw [hfz.2 _ _ (by omega), hfy.2 _ _ (by omega), hf.2 _ _ (by omega)]; exact h78
        refine ⟨Mz, ?_, hfz, hIz⟩
        simp only [mX12_scheme_63_L249]
        simp (disch := omega) only [Option.bind_some, if_true, if_false, Sum.elim_inl, Sum.elim_inr, li0, li1, li2, li3, li4, li5, li6, li7, li8, li9, li10, li12, li16, li20, li24, li25, li31, li32, li40, li41, li42, li48, li57, li59, li97, li104, li105, li124, li126, li240, li241, nI_add, nI_subc, nI_subm, nI_mulc, nI_nm, pu_r, pu_t, pu_a, pu_le_t, pu_le_f, pu_lt_t, pu_lt_f, pu_eq_t, pu_eq_f, nm_eq, nm_eq2, nm_lt, nm_lt2, nm_le, nm_le2, nm_ss, nm_sp, pu_ss, pu_snq, pu_neq, eq_self, and_true, true_and, and_false, false_and, or_true, true_or, or_false, false_or, not_true_eq_false, not_false_eq_true, k78]) (s0 := (nI 0, My)) ⟨My, rfl, fr.rf, fun k hk => absurd hk (Nat.not_lt_zero _)⟩
      refine ⟨(nI (y + 1), M3), ?_, M3, rfl, hfy.tr (f3.up (fun b k h => by omega)), fun w k hw hk => ?_⟩
      · simp only [mX12_scheme_63_L241]
        simp (disch := omega) only [Option.bind_some, if_true, if_false, Sum.elim_inl, Sum.elim_inr, li0, li1, li2, li3, li4, li5, li6, li7, li8, li9, li10, li12, li16, li20, li24, li25, li31, li32, li40, li41, li42, li48, li57, li59, li97, li104, li105, li124, li126, li240, li241, nI_add, nI_subc, nI_subm, nI_mulc, nI_nm, pu_r, pu_t, pu_a, pu_le_t, pu_le_f, pu_lt_t, pu_lt_f, pu_eq_t, pu_eq_f, nm_eq, nm_eq2, nm_lt, nm_lt2, nm_le, nm_le2, nm_ss, nm_sp, pu_ss, pu_snq, pu_neq, eq_self, and_true, true_and, and_false, false_and, or_true, true_or, or_false, false_or, not_true_eq_false, not_false_eq_true, e3]
      · by_cases q : w = y
        · rw [q]; exact g3 k hk
        · rw [f3.2 _ _ (by omega)]; exact hIy w k (by omega) hk) (fun st hst => by
      obtain ⟨My, rfl, hfy, hIy⟩ := hst
      refine ⟨My, ?_, hfy, hIy⟩
      simp only [mX12_scheme_63_L241]
      simp (disch := omega) only [Option.bind_some, if_true, if_false, Sum.elim_inl, Sum.elim_inr, li0, li1, li2, li3, li4, li5, li6, li7, li8, li9, li10, li12, li16, li20, li24, li25, li31, li32, li40, li41, li42, li48, li57, li59, li97, li104, li105, li124, li126, li240, li241, nI_add, nI_subc, nI_subm, nI_mulc, nI_nm, pu_r, pu_t, pu_a, pu_le_t, pu_le_f, pu_lt_t, pu_lt_f, pu_eq_t, pu_eq_f, nm_eq, nm_eq2, nm_lt, nm_lt2, nm_le, nm_le2, nm_ss, nm_sp, pu_ss, pu_snq, pu_neq, eq_self, and_true, true_and, and_false, false_and, or_true, true_or, or_false, false_or, not_true_eq_false, not_false_eq_true]) (s0 := (nI 0, Mx)) ⟨Mx, rfl, fr.rf, fun w k hw => absurd hw (Nat.not_lt_zero _)⟩
    have k77 : Mx.1 77 0 = nI S := by rw [hf.2 _ _ (by omega)]; exact h77
    refine ⟨(nI (x + 1), M2), ?_, M2, rfl, hf.tr (f2.up (fun b k h => by omega)), fun s w k hs hw hk => ?_⟩
    · simp only [mX12_scheme_63_L229]
      simp (disch := omega) only [Option.bind_some, if_true, if_false, Sum.elim_inl, Sum.elim_inr, li0, li1, li2, li3, li4, li5, li6, li7, li8, li9, li10, li12, li16, li20, li24, li25, li31, li32, li40, li41, li42, li48, li57, li59, li97, li104, li105, li124, li126, li240, li241, nI_add, nI_subc, nI_subm, nI_mulc, nI_nm, pu_r, pu_t, pu_a, pu_le_t, pu_le_f, pu_lt_t, pu_lt_f, pu_eq_t, pu_eq_f, nm_eq, nm_eq2, nm_lt, nm_lt2, nm_le, nm_le2, nm_ss, nm_sp, pu_ss, pu_snq, pu_neq, eq_self, and_true, true_and, and_false, false_and, or_true, true_or, or_false, false_or, not_true_eq_false, not_false_eq_true, k77, e2]
    · by_cases q : s = x
      · rw [q]; exact g2 w k hw hk
      · rw [f2.2 _ _ (by omega)]; exact hI s w k (by omega) hw hk) (fun st hst => by
    obtain ⟨Mx, rfl, hf, hI⟩ := hst
    have k77 : Mx.1 77 0 = nI S := by rw [hf.2 _ _ (by omega)]; exact h77
    refine ⟨Mx, ?_, hf, hI⟩
    simp only [mX12_scheme_63_L229]
    simp (disch := omega) only [Option.bind_some, if_true, if_false, Sum.elim_inl, Sum.elim_inr, li0, li1, li2, li3, li4, li5, li6, li7, li8, li9, li10, li12, li16, li20, li24, li25, li31, li32, li40, li41, li42, li48, li57, li59, li97, li104, li105, li124, li126, li240, li241, nI_add, nI_subc, nI_subm, nI_mulc, nI_nm, pu_r, pu_t, pu_a, pu_le_t, pu_le_f, pu_lt_t, pu_lt_f, pu_eq_t, pu_eq_f, nm_eq, nm_eq2, nm_lt, nm_lt2, nm_le, nm_le2, nm_ss, nm_sp, pu_ss, pu_snq, pu_neq, eq_self, and_true, true_and, and_false, false_and, or_true, true_or, or_false, false_or, not_true_eq_false, not_false_eq_true, k77]) (s0 := (nI 0, M)) ⟨M, rfl, fr.rf, fun s w k hs => absurd hs (Nat.not_lt_zero _)⟩
