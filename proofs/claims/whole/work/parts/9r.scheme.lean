/-! ===== call: scheme ===== -/
theorem c_schemeF {t so kd ob : Nat} {M M1 : me_M} (hp1 : M.1 1 1 = nI t) (hb0 : iB (nI so) (nI 1) (nI t) = true) (hk1 : 1 ≤ kd) (hk3 : kd ≤ 3) (hsp : (M.2.1 1 = 53 ∧ ob = 53 ∧ gX6_read 53 54 55 56 57 M (nI so) = some M1) ∨ (M.2.1 1 = 58 ∧ ob = 58 ∧ gX6_read 58 59 60 61 62 M (nI so) = some M1)) (h3 : M1.1 52 3 = nI kd) : hL_scheme M (nI so) = some (0, me_o (me_s M1 1 1 (nI 0)) 0 (nI kd - nI 10).toInt64) := by
  have hc := c_holds (a := nI so) hp1
  rw [hb0, bI_t] at hc
  have h3' : (me_s M1 1 1 0).1 52 3 = nI kd := by rw [me_s_ne (by decide)]; exact h3
  have h30 : ¬ nI kd = 0 := fun z => by rw [li0] at z; have := (nI_eq (by omega) (by omega)).mp z; omega
  have hm : mX11_scheme_0 M (nI so) = some (nI kd - nI 10, me_s M1 1 1 (nI 0)) := by
    unfold mX11_scheme_0
    rw [hc, Option.bind_some]
    have hna : mX11_needArgument_0 (nI 1) = some () := needA1
    rcases hsp with ⟨h1, -, h2⟩ | ⟨h1, -, h2⟩
    · rw [← eX6_read_52_53] at h2
      rw [hna, Option.bind_some, if_pos h1, h2, Option.bind_some, h3', if_neg h30, li0]
      rfl
    · rw [← eX6_read_52_58] at h2
      rw [hna, Option.bind_some, if_neg (by rw [h1]; decide), if_pos h1, h2, Option.bind_some, h3', if_neg h30, li0]
      rfl
  unfold hL_scheme
  rw [hm]
  rfl
theorem c_schemeS {t so ob op : Nat} {M M1 : me_M} (hp1 : M.1 1 1 = nI t) (hb0 : iB (nI so) (nI 1) (nI t) = true) (hsp : (M.2.1 0 = 58 ∧ M.2.1 1 = 53 ∧ ob = 53 ∧ op = 58 ∧ gX6_read 53 54 55 56 57 M (nI so) = some M1) ∨ (M.2.1 0 = 53 ∧ M.2.1 1 = 58 ∧ ob = 58 ∧ op = 53 ∧ gX6_read 58 59 60 61 62 M (nI so) = some M1)) (h2 : M1.2 = M.2) (h3 : M1.1 52 3 = nI 0) : hL_scheme M (nI so) = some (0, me_o (me_p (me_p (me_s M1 1 1 (nI 0)) 0 ob) 1 op) 0 (M1.1 ob 4).toInt64) := by
  have hc := c_holds (a := nI so) hp1
  rw [hb0, bI_t] at hc
  have h3' : (me_s M1 1 1 0).1 52 3 = 0 := by rw [me_s_ne (by decide), h3, li0]
  have hna : mX11_needArgument_0 (nI 1) = some () := needA1
  have hm : mX11_scheme_0 M (nI so) = some (M1.1 ob 4, me_p (me_p (me_s M1 1 1 (nI 0)) 0 ob) 1 op) := by
    unfold mX11_scheme_0
    rw [hc, Option.bind_some]
    rcases hsp with ⟨h0, h1, rfl, rfl, hr⟩ | ⟨h0, h1, rfl, rfl, hr⟩
    · rw [← eX6_read_52_53] at hr
      have i0 : (me_s M1 1 1 0).2.1 0 = 58 := by show M1.2.1 0 = 58; rw [h2]; exact h0
      have i1 : (me_s M1 1 1 0).2.1 1 = 53 := by show M1.2.1 1 = 53; rw [h2]; exact h1
      rw [hna, Option.bind_some, if_pos h1, hr, Option.bind_some, h3', if_pos rfl, if_neg (by rw [i0]; decide), if_pos i0, if_pos i1, if_pos (show (me_p (me_p (me_s M1 1 1 0) 0 53) 1 58).2.1 0 = 53 from rfl), li0]
      rfl
    · rw [← eX6_read_52_58] at hr
      have i0 : (me_s M1 1 1 0).2.1 0 = 53 := by show M1.2.1 0 = 53; rw [h2]; exact h0
      have i1 : (me_s M1 1 1 0).2.1 1 = 58 := by show M1.2.1 1 = 58; rw [h2]; exact h1
      rw [hna, Option.bind_some, if_neg (by rw [h1]; decide), if_pos h1, hr, Option.bind_some, h3', if_pos rfl, if_pos i0, if_neg (by rw [i1]; decide), if_pos i1, if_neg (show ¬ (me_p (me_p (me_s M1 1 1 0) 0 58) 1 53).2.1 0 = 53 from fun z => absurd (show (58 : Nat) = 53 from z) (by decide)), if_pos (show (me_p (me_p (me_s M1 1 1 0) 0 58) 1 53).2.1 0 = 58 from rfl), li0]
      rfl
  unfold hL_scheme
  rw [hm]
  rfl
theorem r_schemeJ {t so : Nat} {N N6 : me_M} (hb0 : iB (nI so) (nI 1) (nI t) = true) (e0 : N.1 63 0 = nI 0) (h2 : N.1 63 2 = nI t) (hJ : ∀ J : me_M → Option (Int32 × me_M), ((mX12_blanks_63 (me_s (me_s (me_s (me_s (me_s (me_s N 63 24 (nI so)) 63 2 (nI 0)) 63 25 (nI 0)) 63 26 (nI 0)) 63 27 (-nI 1)) 77 1 (nI 0))).bind fun M4 => ((mX12_here_63 M4).bind fun v4 => (if v4 = -nI 1 then ((mX12_wrong_63 M4 (nI 1) (M4.1 63 25)).bind fun M5 => (J M5)) else (J M4)))) = J N6) : nX12_scheme N (nI so) = mX12_scheme_63_J86 N6 := by
  have hbd : mX12_bad_63 N (nI 0) (nI 1) (nI 1) = some (nI 0, N) := r_bad0 e0
  have h := hJ mX12_scheme_63_J86
  unfold nX12_scheme mX12_scheme_63_J23
  generalize mX12_scheme_63_J86 = J at *
  rw [h2]
  simp only [r_in, li0, li1, hb0, bI_t, Option.bind_some, if_neg nI_n10, hbd, if_true]
  rw [show me_t (me_s (me_s (me_s (me_s (me_s N 63 24 (nI so)) 63 2 (nI 0)) 63 25 (nI 0)) 63 26 (nI 0)) 63 27 (-nI 1)) 77 2 (nI 1) (nI 0) = some (me_s (me_s (me_s (me_s (me_s (me_s N 63 24 (nI so)) 63 2 (nI 0)) 63 25 (nI 0)) 63 26 (nI 0)) 63 27 (-nI 1)) 77 1 (nI 0)) from pu_t (by omega) (by omega), Option.bind_some]
  exact h
theorem r_schemeF {kd : Nat} {N6 N14 : me_M} (e : me_l mX12_scheme_63_L86 me_fu N6 = some N14) (h26 : N14.1 63 26 = nI kd) (hk1 : 1 ≤ kd) (hk3 : kd ≤ 3) : mX12_scheme_63_J86 N6 = some (nI kd - nI 10, me_s N14 63 3 (N14.1 63 27)) := by
  have w26 : (me_s N14 63 3 (N14.1 63 27)).1 63 26 = nI kd := by rw [pu_sn (by decide)]; exact h26
  unfold mX12_scheme_63_J86
  rw [e, Option.bind_some, r_fine1 w26 hk1 hk3, Option.bind_some, li0, if_pos rfl, w26]
  rfl
theorem r_schemeS {S P : Nat} {D : Nat → Nat → Nat → Nat} {N6 N14 : me_M} (hS : S ≤ 8) (hP : P ≤ 5) (e : me_l mX12_scheme_63_L86 me_fu N6 = some N14) (h26 : N14.1 63 26 = nI 0) (h77 : N14.1 77 1 = nI S) (h78 : N14.1 78 1 = nI P) (hD : ∀ s w k, s < S → w < 3 → k < P → N14.1 (133 + 3 * s + w) k = nI (D s w k)) : ∃ M1, mX12_scheme_63_J86 N6 = some (nI S, M1) ∧ fr (fun b k => (b = 63 ∧ k = 3) ∨ ((b = 77 ∨ b = 78) ∧ k = 0) ∨ (109 ≤ b ∧ b ≤ 132)) N14 M1 ∧ M1.1 63 3 = N14.1 63 27 ∧ M1.1 77 0 = nI S ∧ M1.1 78 0 = nI P ∧ ∀ s w k, s < S → w < 3 → k < P → M1.1 (109 + 3 * s + w) k = nI (D s w k) := by
  have f1 : fr (fun b k => (b = 63 ∧ k = 3) ∨ ((b = 77 ∨ b = 78) ∧ k = 0)) N14 (me_s (me_s (me_s N14 63 3 (N14.1 63 27)) 77 0 (nI S)) 78 0 (nI P)) := ((fr.s (by omega)).st (by omega)).st (by omega)
  obtain ⟨M1, e1, g1, k1⟩ := r_copy (S := S) (P := P) (D := D) (M := me_s (me_s (me_s N14 63 3 (N14.1 63 27)) 77 0 (nI S)) 78 0 (nI P)) hS hP (by simp (disch := omega) only [Option.bind_some, if_true, if_false, Sum.elim_inl, Sum.elim_inr, li0, li1, li2, li3, li4, li5, li6, li7, li8, li9, li10, li12, li16, li20, li24, li25, li31, li32, li40, li41, li42, li48, li57, li59, li97, li104, li105, li124, li126, li240, li241, nI_add, nI_subc, nI_subm, nI_mulc, nI_nm, pu_r, pu_t, pu_a, pu_le_t, pu_le_f, pu_lt_t, pu_lt_f, pu_eq_t, pu_eq_f, nm_eq, nm_eq2, nm_lt, nm_lt2, nm_le, nm_le2, nm_ss, nm_sp, pu_ss, pu_snq, pu_neq, eq_self, and_true, true_and, and_false, false_and, or_true, true_or, or_false, false_or, not_true_eq_false, not_false_eq_true]) (by simp (disch := omega) only [Option.bind_some, if_true, if_false, Sum.elim_inl, Sum.elim_inr, li0, li1, li2, li3, li4, li5, li6, li7, li8, li9, li10, li12, li16, li20, li24, li25, li31, li32, li40, li41, li42, li48, li57, li59, li97, li104, li105, li124, li126, li240, li241, nI_add, nI_subc, nI_subm, nI_mulc, nI_nm, pu_r, pu_t, pu_a, pu_le_t, pu_le_f, pu_lt_t, pu_lt_f, pu_eq_t, pu_eq_f, nm_eq, nm_eq2, nm_lt, nm_lt2, nm_le, nm_le2, nm_ss, nm_sp, pu_ss, pu_snq, pu_neq, eq_self, and_true, true_and, and_false, false_and, or_true, true_or, or_false, false_or, not_true_eq_false, not_false_eq_true]) (fun s w k a b c => by rw [f1.2 _ _ (by omega)]; exact hD s w k a b c)
  have w26 : (me_s N14 63 3 (N14.1 63 27)).1 63 26 = nI 0 := by rw [pu_sn (by decide)]; exact h26
  have w77 : M1.1 77 0 = nI S := by rw [g1.2 _ _ (by omega)]; simp (disch := omega) only [Option.bind_some, if_true, if_false, Sum.elim_inl, Sum.elim_inr, li0, li1, li2, li3, li4, li5, li6, li7, li8, li9, li10, li12, li16, li20, li24, li25, li31, li32, li40, li41, li42, li48, li57, li59, li97, li104, li105, li124, li126, li240, li241, nI_add, nI_subc, nI_subm, nI_mulc, nI_nm, pu_r, pu_t, pu_a, pu_le_t, pu_le_f, pu_lt_t, pu_lt_f, pu_eq_t, pu_eq_f, nm_eq, nm_eq2, nm_lt, nm_lt2, nm_le, nm_le2, nm_ss, nm_sp, pu_ss, pu_snq, pu_neq, eq_self, and_true, true_and, and_false, false_and, or_true, true_or, or_false, false_or, not_true_eq_false, not_false_eq_true]
  refine ⟨M1, ?_, (f1.up (fun b k h => by omega)).tr (g1.up (fun b k h => by omega)), by rw [g1.2 _ _ (by omega)]; simp (disch := omega) only [Option.bind_some, if_true, if_false, Sum.elim_inl, Sum.elim_inr, li0, li1, li2, li3, li4, li5, li6, li7, li8, li9, li10, li12, li16, li20, li24, li25, li31, li32, li40, li41, li42, li48, li57, li59, li97, li104, li105, li124, li126, li240, li241, nI_add, nI_subc, nI_subm, nI_mulc, nI_nm, pu_r, pu_t, pu_a, pu_le_t, pu_le_f, pu_lt_t, pu_lt_f, pu_eq_t, pu_eq_f, nm_eq, nm_eq2, nm_lt, nm_lt2, nm_le, nm_le2, nm_ss, nm_sp, pu_ss, pu_snq, pu_neq, eq_self, and_true, true_and, and_false, false_and, or_true, true_or, or_false, false_or, not_true_eq_false, not_false_eq_true], w77, by rw [g1.2 _ _ (by omega)]; simp (disch := omega) only [Option.bind_some, if_true, if_false, Sum.elim_inl, Sum.elim_inr, li0, li1, li2, li3, li4, li5, li6, li7, li8, li9, li10, li12, li16, li20, li24, li25, li31, li32, li40, li41, li42, li48, li57, li59, li97, li104, li105, li124, li126, li240, li241, nI_add, nI_subc, nI_subm, nI_mulc, nI_nm, pu_r, pu_t, pu_a, pu_le_t, pu_le_f, pu_lt_t, pu_lt_f, pu_eq_t, pu_eq_f, nm_eq, nm_eq2, nm_lt, nm_lt2, nm_le, nm_le2, nm_ss, nm_sp, pu_ss, pu_snq, pu_neq, eq_self, and_true, true_and, and_false, false_and, or_true, true_or, or_false, false_or, not_true_eq_false, not_false_eq_true], k1⟩
  unfold mX12_scheme_63_J86
  rw [e]
  simp (disch := omega) only [Option.bind_some, if_true, if_false, Sum.elim_inl, Sum.elim_inr, li0, li1, li2, li3, li4, li5, li6, li7, li8, li9, li10, li12, li16, li20, li24, li25, li31, li32, li40, li41, li42, li48, li57, li59, li97, li104, li105, li124, li126, li240, li241, nI_add, nI_subc, nI_subm, nI_mulc, nI_nm, pu_r, pu_t, pu_a, pu_le_t, pu_le_f, pu_lt_t, pu_lt_f, pu_eq_t, pu_eq_f, nm_eq, nm_eq2, nm_lt, nm_lt2, nm_le, nm_le2, nm_ss, nm_sp, pu_ss, pu_snq, pu_neq, eq_self, and_true, true_and, and_false, false_and, or_true, true_or, or_false, false_or, not_true_eq_false, not_false_eq_true, r_fine0 w26, h77, h78, e1, w77]
