/-! ===== calls: what class and reference share, but for the refusals' counters ===== -/
def vA (T : Nat → Nat) (n m : Nat) (W X : Nat → Nat) (t : Nat) (F : Nat → Nat) (S P : Nat) (D : Nat → Nat → Nat → Nat) (M : me_M) : Prop := vT T n M ∧ vC T n m W X M ∧ vP t F M ∧ (M.1 52 4 = M.1 63 3 ∧ ∃ v, 1 ≤ v ∧ v ≤ 16 ∧ M.1 0 12 = nI v ∧ M.1 63 6 = nI v) ∧ vS S P D M ∧ vR n M ∧ vM M
theorem Inv.vA {M : me_M} (h : Inv M) : ∃ T n m W X t F S P D, vA T n m W X t F S P D M := by
  obtain ⟨T, n, m, W, X, t, F, S, P, D, h1, h2, h3, h4, h5, h6, h7⟩ := h
  exact ⟨T, n, m, W, X, t, F, S, P, D, h1, h2, h3, h4.2.2.2, h5, h6, h7⟩
theorem vA.z {T : Nat → Nat} {n m : Nat} {W X : Nat → Nat} {t : Nat} {F : Nat → Nat} {S P : Nat} {D : Nat → Nat → Nat → Nat} {M M' : me_M} (h : vA T n m W X t F S P D M) (hx : fr (fun b k => (b = 0 ∧ 13 ≤ k) ∨ (b = 63 ∧ k = 0)) M M') : vA T n m W X t F S P D M' := by
  obtain ⟨h1, h2, h3, ⟨h4, v, a1, a2, a3, a4⟩, h5, h6, h7⟩ := h
  refine ⟨h1.fr hx ?_ ?_ ?_ ?_, h2.fr hx ?_ ?_ ?_ ?_ ?_, h3.fr hx ?_ ?_ ?_ ?_, ⟨?_, v, a1, a2, ?_, ?_⟩, h5.fr hx ?_ ?_ ?_ ?_ ?_ ?_, h6.fr hx ?_ ?_ ?_, h7.fr hx ?_ ?_ ?_ ?_⟩
  case refine_14 => rw [hx.2 _ _ (by omega), hx.2 _ _ (by omega)]; exact h4
  case refine_15 => rw [hx.2 _ _ (by omega)]; exact a3
  case refine_16 => rw [hx.2 _ _ (by omega)]; exact a4
  all_goals (intros; omega)
/-- a question: nothing changes -/
theorem aQ.p {hL : Option (Int32 × me_M)} {g G : me_M → Option (Int32 × me_M)} {T : Nat → Nat} {n m : Nat} {W X : Nat → Nat} {t : Nat} {F : Nat → Nat} {S P : Nat} {D : Nat → Nat → Nat → Nat} {M : me_M} {v : Int32} (hg : ∀ M1, g M1 = G (me_s M1 63 0 0)) (hI : Inv M) (ha : vA T n m W X t F S P D M) (h1 : hL = some (0, me_o M 0 v.toInt64)) (h2 : ∀ M0, vA T n m W X t F S P D M0 → M0.1 63 0 = nI 0 → (∀ b k, b ≠ 63 ∨ k ≠ 0 → M0.1 b k = M.1 b k) → G M0 = some (v, M0)) : aQ hL g := by
  have hz : vA T n m W X t F S P D (me_s (me_o M 0 v.toInt64) 63 0 0) := vA.z (M := me_o M 0 v.toInt64) ha (fr.s (by omega))
  exact aQ.ret (M1 := M) (M2 := me_s (me_o M 0 v.toInt64) 63 0 0) h1 (by rw [hg]; exact h2 _ hz (by rw [pu_ss, nI_0]) (fun b k hbk => (fr.s (S := fun b k => b = 63 ∧ k = 0) (M := me_o M 0 v.toInt64) (by omega)).2 b k (by omega))) (by rw [pu_ss, nI_0]) rfl (Inv.go (M := me_o M 0 v.toInt64) hI.o (fr.s (S := scr) (by unfold scr; omega)))
/-- a refusal -/
theorem aQ.t {hL : Option (Int32 × me_M)} {g G : me_M → Option (Int32 × me_M)} {T : Nat → Nat} {n m : Nat} {W X : Nat → Nat} {t : Nat} {F : Nat → Nat} {S P : Nat} {D : Nat → Nat → Nat → Nat} {M : me_M} (k w : Nat) (hg : ∀ M1, g M1 = G (me_s M1 63 0 0)) (hI : Inv M) (ha : vA T n m W X t F S P D M) (hk : k < 3) (hw : 0 < w) (hw2 : w < 100) (h1 : hL = some (nI w, me_s M 0 (13 + k) (M.1 0 (13 + k) + nI 1))) (h2 : ∀ M0, vA T n m W X t F S P D M0 → M0.1 63 0 = nI 0 → (∀ b k, b ≠ 0 → b ≠ 63 ∨ k ≠ 0 → M0.1 b k = M.1 b k) → G M0 = some (nI 0, me_s (me_s M0 63 0 (nI w)) 64 k (M0.1 64 k + nI 1))) : aQ hL g := by
  have hz : vA T n m W X t F S P D (me_s (me_s M 0 (13 + k) (M.1 0 (13 + k) + nI 1)) 63 0 (nI 0)) := ha.z ((fr.s (by omega)).st (by omega))
  rw [← li1] at h1
  refine aQ.thr (z := nI 0) hI hk hw hw2 h1 ?_
  rw [hg, li0, li1, h2 _ hz pu_ss (fun b j h3 h4 => ((fr.s (S := fun b k => (b = 0) ∨ (b = 63 ∧ k = 0)) (by omega)).st (by omega)).2 b j (by omega))]
  have e : (me_s (me_s M 0 (13 + k) (M.1 0 (13 + k) + nI 1)) 63 0 (nI 0)).1 64 k = M.1 64 k := by simp (disch := omega) only [Option.bind_some, if_true, if_false, Sum.elim_inl, Sum.elim_inr, li0, li1, li2, li3, li4, li5, li6, li7, li8, li9, li10, li12, li16, li20, li24, li25, li31, li32, li40, li41, li42, li48, li57, li59, li97, li104, li105, li124, li126, li240, li241, nI_add, nI_subc, nI_subm, nI_mulc, nI_nm, pu_r, pu_t, pu_a, pu_le_t, pu_le_f, pu_lt_t, pu_lt_f, pu_eq_t, pu_eq_f, nm_eq, nm_eq2, nm_lt, nm_lt2, nm_le, nm_le2, nm_ss, nm_sp, pu_ss, pu_snq, pu_neq, eq_self, and_true, true_and, and_false, false_and, or_true, true_or, or_false, false_or, not_true_eq_false, not_false_eq_true]
  rw [e]
/-- a call that changes something: the state after it is told -/
theorem aQ.c {hL : Option (Int32 × me_M)} {g G : me_M → Option (Int32 × me_M)} {M1 M2 : me_M} {v : Int32} (hg : ∀ M1, g M1 = G (me_s M1 63 0 0)) (h1 : hL = some (0, me_o M1 0 v.toInt64)) (h2 : G (me_s (me_o M1 0 v.toInt64) 63 0 (nI 0)) = some (v, M2)) (h3 : M2.1 63 0 = nI 0) (h4 : M2.2 = (me_o M1 0 v.toInt64).2) (h5 : Inv M2) : aQ hL g := aQ.ret h1 (by rw [hg, li0]; exact h2) h3 h4 h5
def byt (s : Nat) : Nat := if s = 0 then 0 else if s = 1 then 124 else s + 95
theorem c_byteOf {s : Nat} (h : s < 10) : mX11_byteOf (nI s) = some (nI (byt s)) := by
  unfold mX11_byteOf byt
  by_cases h0 : s = 0
  · simp (disch := omega) only [Option.bind_some, if_true, if_false, Sum.elim_inl, Sum.elim_inr, li0, li1, li2, li3, li4, li5, li6, li7, li8, li9, li10, li12, li16, li20, li24, li25, li31, li32, li40, li41, li42, li48, li57, li59, li97, li104, li105, li124, li126, li240, li241, nI_add, nI_subc, nI_subm, nI_mulc, nI_nm, pu_r, pu_t, pu_a, pu_le_t, pu_le_f, pu_lt_t, pu_lt_f, pu_eq_t, pu_eq_f, nm_eq, nm_eq2, nm_lt, nm_lt2, nm_le, nm_le2, nm_ss, nm_sp, pu_ss, pu_snq, pu_neq, eq_self, and_true, true_and, and_false, false_and, or_true, true_or, or_false, false_or, not_true_eq_false, not_false_eq_true, h0]
  · by_cases h1 : s = 1
    · simp (disch := omega) only [Option.bind_some, if_true, if_false, Sum.elim_inl, Sum.elim_inr, li0, li1, li2, li3, li4, li5, li6, li7, li8, li9, li10, li12, li16, li20, li24, li25, li31, li32, li40, li41, li42, li48, li57, li59, li97, li104, li105, li124, li126, li240, li241, nI_add, nI_subc, nI_subm, nI_mulc, nI_nm, pu_r, pu_t, pu_a, pu_le_t, pu_le_f, pu_lt_t, pu_lt_f, pu_eq_t, pu_eq_f, nm_eq, nm_eq2, nm_lt, nm_lt2, nm_le, nm_le2, nm_ss, nm_sp, pu_ss, pu_snq, pu_neq, eq_self, and_true, true_and, and_false, false_and, or_true, true_or, or_false, false_or, not_true_eq_false, not_false_eq_true, h1]
      rfl
    · rw [if_neg h0, if_neg h1]
      simp (disch := omega) only [Option.bind_some, if_true, if_false, Sum.elim_inl, Sum.elim_inr, li0, li1, li2, li3, li4, li5, li6, li7, li8, li9, li10, li12, li16, li20, li24, li25, li31, li32, li40, li41, li42, li48, li57, li59, li97, li104, li105, li124, li126, li240, li241, nI_add, nI_subc, nI_subm, nI_mulc, nI_nm, pu_r, pu_t, pu_a, pu_le_t, pu_le_f, pu_lt_t, pu_lt_f, pu_eq_t, pu_eq_f, nm_eq, nm_eq2, nm_lt, nm_lt2, nm_le, nm_le2, nm_ss, nm_sp, pu_ss, pu_snq, pu_neq, eq_self, and_true, true_and, and_false, false_and, or_true, true_or, or_false, false_or, not_true_eq_false, not_false_eq_true, show s - 2 + 97 = s + 95 by omega]
theorem r_byteOf {s : Nat} (h : s < 10) : mX12_byteOf (nI s) = some (nI (byt s)) := by
  unfold mX12_byteOf byt
  by_cases h0 : s = 0
  · simp (disch := omega) only [Option.bind_some, if_true, if_false, Sum.elim_inl, Sum.elim_inr, li0, li1, li2, li3, li4, li5, li6, li7, li8, li9, li10, li12, li16, li20, li24, li25, li31, li32, li40, li41, li42, li48, li57, li59, li97, li104, li105, li124, li126, li240, li241, nI_add, nI_subc, nI_subm, nI_mulc, nI_nm, pu_r, pu_t, pu_a, pu_le_t, pu_le_f, pu_lt_t, pu_lt_f, pu_eq_t, pu_eq_f, nm_eq, nm_eq2, nm_lt, nm_lt2, nm_le, nm_le2, nm_ss, nm_sp, pu_ss, pu_snq, pu_neq, eq_self, and_true, true_and, and_false, false_and, or_true, true_or, or_false, false_or, not_true_eq_false, not_false_eq_true, h0]
  · by_cases h1 : s = 1
    · simp (disch := omega) only [Option.bind_some, if_true, if_false, Sum.elim_inl, Sum.elim_inr, li0, li1, li2, li3, li4, li5, li6, li7, li8, li9, li10, li12, li16, li20, li24, li25, li31, li32, li40, li41, li42, li48, li57, li59, li97, li104, li105, li124, li126, li240, li241, nI_add, nI_subc, nI_subm, nI_mulc, nI_nm, pu_r, pu_t, pu_a, pu_le_t, pu_le_f, pu_lt_t, pu_lt_f, pu_eq_t, pu_eq_f, nm_eq, nm_eq2, nm_lt, nm_lt2, nm_le, nm_le2, nm_ss, nm_sp, pu_ss, pu_snq, pu_neq, eq_self, and_true, true_and, and_false, false_and, or_true, true_or, or_false, false_or, not_true_eq_false, not_false_eq_true, h1]
      rfl
    · rw [if_neg h0, if_neg h1]
      simp (disch := omega) only [Option.bind_some, if_true, if_false, Sum.elim_inl, Sum.elim_inr, li0, li1, li2, li3, li4, li5, li6, li7, li8, li9, li10, li12, li16, li20, li24, li25, li31, li32, li40, li41, li42, li48, li57, li59, li97, li104, li105, li124, li126, li240, li241, nI_add, nI_subc, nI_subm, nI_mulc, nI_nm, pu_r, pu_t, pu_a, pu_le_t, pu_le_f, pu_lt_t, pu_lt_f, pu_eq_t, pu_eq_f, nm_eq, nm_eq2, nm_lt, nm_lt2, nm_le, nm_le2, nm_ss, nm_sp, pu_ss, pu_snq, pu_neq, eq_self, and_true, true_and, and_false, false_and, or_true, true_or, or_false, false_or, not_true_eq_false, not_false_eq_true, show 97 + s - 2 = s + 95 by omega]
theorem q_sign {M : me_M} (h : Inv M) (a : Int32) : aQ (hL_sign M a) (fun M1 => mX12_sign_63 M1 a) := by
  obtain ⟨T, n, m, W, X, t, F, S, P, D, ha⟩ := h.vA
  have c1 := ha.1.2.1.1.1.1
  have c2 := ha.1.2.1.1.1.2
  have hn := ha.1.1.2.2.2
  have h9 := ha.1.1.2.1
  cases hb : iB a (nI 0) (nI n) with
  | false =>
    refine aQ.t 0 1 (G := fun M0 => nX12_sign M0 a) (fun M1 => zX12_sign M1 a) h ha (by omega) (by omega) (by omega) ?_ (fun M0 h0 hz hf => ?_)
    · unfold hL_sign mX11_sign_0 tX11_sign_0
      simp (disch := omega) only [Option.bind_some, if_true, if_false, Sum.elim_inl, Sum.elim_inr, li0, li1, li2, li3, li4, li5, li6, li7, li8, li9, li10, li12, li16, li20, li24, li25, li31, li32, li40, li41, li42, li48, li57, li59, li97, li104, li105, li124, li126, li240, li241, nI_add, nI_subc, nI_subm, nI_mulc, nI_nm, pu_r, pu_t, pu_a, pu_le_t, pu_le_f, pu_lt_t, pu_lt_f, pu_eq_t, pu_eq_f, nm_eq, nm_eq2, nm_lt, nm_lt2, nm_le, nm_le2, nm_ss, nm_sp, pu_ss, pu_snq, pu_neq, eq_self, and_true, true_and, and_false, false_and, or_true, true_or, or_false, false_or, not_true_eq_false, not_false_eq_true, c_isPlace c1, hb, bI_f, needE0, Option.bind_none, Option.none_or]
    · simp only [nX12_sign, mX12_sign_63_J19]
      simp (disch := omega) only [Option.bind_some, if_true, if_false, Sum.elim_inl, Sum.elim_inr, li0, li1, li2, li3, li4, li5, li6, li7, li8, li9, li10, li12, li16, li20, li24, li25, li31, li32, li40, li41, li42, li48, li57, li59, li97, li104, li105, li124, li126, li240, li241, nI_add, nI_subc, nI_subm, nI_mulc, nI_nm, pu_r, pu_t, pu_a, pu_le_t, pu_le_f, pu_lt_t, pu_lt_f, pu_eq_t, pu_eq_f, nm_eq, nm_eq2, nm_lt, nm_lt2, nm_le, nm_le2, nm_ss, nm_sp, pu_ss, pu_snq, pu_neq, eq_self, and_true, true_and, and_false, false_and, or_true, true_or, or_false, false_or, not_true_eq_false, not_false_eq_true, r_isPlace h0.1.2.2.1.1.1, hb, bI_f, r_bad1 hz]
  | true =>
    obtain ⟨j, -, hj, rfl⟩ := iB_n hb (by omega) (by omega)
    have := h9 j
    refine aQ.p (v := nI (byt (T j))) (G := fun M0 => nX12_sign M0 (nI j)) (fun M1 => zX12_sign M1 (nI j)) h ha ?_ (fun M0 h0 hz hf => ?_)
    · unfold hL_sign mX11_sign_0
      simp (disch := omega) only [Option.bind_some, if_true, if_false, Sum.elim_inl, Sum.elim_inr, li0, li1, li2, li3, li4, li5, li6, li7, li8, li9, li10, li12, li16, li20, li24, li25, li31, li32, li40, li41, li42, li48, li57, li59, li97, li104, li105, li124, li126, li240, li241, nI_add, nI_subc, nI_subm, nI_mulc, nI_nm, pu_r, pu_t, pu_a, pu_le_t, pu_le_f, pu_lt_t, pu_lt_f, pu_eq_t, pu_eq_f, nm_eq, nm_eq2, nm_lt, nm_lt2, nm_le, nm_le2, nm_ss, nm_sp, pu_ss, pu_snq, pu_neq, eq_self, and_true, true_and, and_false, false_and, or_true, true_or, or_false, false_or, not_true_eq_false, not_false_eq_true, c_isPlace c1, hb, bI_t, needE1, c2, c_byteOf, Option.some_or]
    · simp only [nX12_sign, mX12_sign_63_J19]
      have r2 := h0.1.2.2.1.1.2
      simp (disch := omega) only [Option.bind_some, if_true, if_false, Sum.elim_inl, Sum.elim_inr, li0, li1, li2, li3, li4, li5, li6, li7, li8, li9, li10, li12, li16, li20, li24, li25, li31, li32, li40, li41, li42, li48, li57, li59, li97, li104, li105, li124, li126, li240, li241, nI_add, nI_subc, nI_subm, nI_mulc, nI_nm, pu_r, pu_t, pu_a, pu_le_t, pu_le_f, pu_lt_t, pu_lt_f, pu_eq_t, pu_eq_f, nm_eq, nm_eq2, nm_lt, nm_lt2, nm_le, nm_le2, nm_ss, nm_sp, pu_ss, pu_snq, pu_neq, eq_self, and_true, true_and, and_false, false_and, or_true, true_or, or_false, false_or, not_true_eq_false, not_false_eq_true, r_isPlace h0.1.2.2.1.1.1, hb, bI_t, r_bad0 hz, r2, r_byteOf]
