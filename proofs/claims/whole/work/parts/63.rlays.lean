/-! ===== the reference lays its rows ===== -/
def sd (T : Nat → Nat) (n b : Nat) : Nat → Nat := if b = 0 then T else rv T n
theorem sd9 {T : Nat → Nat} {n b : Nat} (hT : tx9 T n) : tx9 (sd T n b) n := by
  unfold sd
  split
  · exact hT
  · exact rv9 hT
/-- the reference's text and rows stand -/
def ry (T : Nat → Nat) (n : Nat) (M : me_M) : Prop := rx T n M ∧ ∀ b, b < 2 → (∀ i, i ≤ n → M.1 (67 + b) i = nI (sd T n b i)) ∧ ∀ p, p ≤ n → M.1 (70 + b) (rk (sd T n b) n p) = nI p ∧ M.1 (73 + b) p = nI (rk (sd T n b) n p)
theorem ry.fr {T : Nat → Nat} {n : Nat} {S : Nat → Nat → Prop} {M M' : me_M} (h : ry T n M) (hx : fr S M M') (h0 : ¬ S 63 5) (hs : ∀ b k, 67 ≤ b → b ≤ 74 → ¬ S b k) : ry T n M' := by
  obtain ⟨⟨h1, h2⟩, h3⟩ := h
  refine ⟨⟨?_, fun i hi => ?_⟩, fun b hb => ⟨fun i hi => ?_, fun p hp => ⟨?_, ?_⟩⟩⟩
  · rw [hx.2 _ _ h0]; exact h1
  · rw [hx.2 _ _ (hs _ _ (by omega) (by omega))]; exact h2 i hi
  · rw [hx.2 _ _ (hs _ _ (by omega) (by omega))]; exact (h3 b hb).1 i hi
  · rw [hx.2 _ _ (hs _ _ (by omega) (by omega))]; exact ((h3 b hb).2 p hp).1
  · rw [hx.2 _ _ (hs _ _ (by omega) (by omega))]; exact ((h3 b hb).2 p hp).2
theorem r_mirror {T : Nat → Nat} {n : Nat} {M0 : me_M} (hn : n ≤ 240) (h0 : M0.1 63 5 = nI n) (h1 : ∀ i, i < n → M0.1 67 i = nI (T i)) : ∃ M', me_l mX12_laysRows_63_L14 me_fu (nI 0, M0) = some M' ∧ fr (fun b _ => b = 68) M0 M' ∧ ∀ i, i < n → M'.1 68 i = nI (rv T n i) := by
  refine lp_up (fun x st => st.1 = nI x ∧ fr (fun b _ => b = 68) M0 st.2 ∧ ∀ i, i < x → st.2.1 68 i = nI (rv T n i)) _ (a := 0) (N := n) (by omega) (by omega) (fun x st _ hx hI => ?_) (fun st hI => ?_) ⟨rfl, fr.rf, fun i h => absurd h (Nat.not_lt_zero _)⟩
  · obtain ⟨x1, M⟩ := st
    obtain ⟨hx1, hf, hb⟩ := hI
    have hx1 : x1 = nI x := hx1
    subst hx1
    have hf : fr (fun b _ => b = 68) M0 M := hf
    have hb : ∀ i, i < x → M.1 68 i = nI (rv T n i) := hb
    have e1 : M.1 63 5 = nI n := by rw [hf.2 _ _ (by omega)]; exact h0
    have e2 : M.1 67 (n - 1 - x) = nI (T (n - 1 - x)) := by rw [hf.2 _ _ (by omega)]; exact h1 _ (by omega)
    left
    simp only [mX12_laysRows_63_L14]
    simp (disch := omega) only [Option.bind_some, if_true, if_false, Sum.elim_inl, Sum.elim_inr, li0, li1, li2, li3, li4, li5, li6, li7, li8, li9, li10, li12, li16, li20, li24, li25, li31, li32, li40, li41, li42, li48, li57, li59, li97, li104, li105, li124, li126, li240, li241, nI_add, nI_subc, nI_subm, nI_mulc, nI_nm, pu_r, pu_t, pu_a, pu_le_t, pu_le_f, pu_lt_t, pu_lt_f, pu_eq_t, pu_eq_f, nm_eq, nm_eq2, nm_lt, nm_lt2, nm_le, nm_le2, nm_ss, nm_sp, pu_ss, pu_snq, pu_neq, eq_self, and_true, true_and, and_false, false_and, or_true, true_or, or_false, false_or, not_true_eq_false, not_false_eq_true, e1, e2]
    refine ⟨_, rfl, rfl, hf.tr (fr.s rfl), fun i hi => ?_⟩
    show (me_s M 68 x _).1 68 i = _
    by_cases e : i = x
    · subst e
      rw [pu_ss]
      unfold rv
      rw [if_pos (by omega)]
    · rw [pu_sn e]; exact hb i (by omega)
  · obtain ⟨x1, M⟩ := st
    obtain ⟨hx1, hf, hb⟩ := hI
    have hx1 : x1 = nI n := hx1
    subst hx1
    have e1 : M.1 63 5 = nI n := by rw [hf.2 _ _ (by omega)]; exact h0
    simp only [mX12_laysRows_63_L14]
    simp (disch := omega) only [Option.bind_some, if_true, if_false, Sum.elim_inl, Sum.elim_inr, li0, li1, li2, li3, li4, li5, li6, li7, li8, li9, li10, li12, li16, li20, li24, li25, li31, li32, li40, li41, li42, li48, li57, li59, li97, li104, li105, li124, li126, li240, li241, nI_add, nI_subc, nI_subm, nI_mulc, nI_nm, pu_r, pu_t, pu_a, pu_le_t, pu_le_f, pu_lt_t, pu_lt_f, pu_eq_t, pu_eq_f, nm_eq, nm_eq2, nm_lt, nm_lt2, nm_le, nm_le2, nm_ss, nm_sp, pu_ss, pu_snq, pu_neq, eq_self, and_true, true_and, and_false, false_and, or_true, true_or, or_false, false_or, not_true_eq_false, not_false_eq_true, e1]
    exact ⟨_, rfl, hf, hb⟩
theorem r_lays {T : Nat → Nat} {n : Nat} {M0 : me_M} (hT : tx9 T n) (h0 : M0.1 63 5 = nI n) (h1 : ∀ i, i < n → M0.1 67 i = nI (T i)) : ∃ M', mX12_laysRows_63 M0 = some M' ∧ fr (fun b k => 67 ≤ b ∧ b ≤ 74) M0 M' ∧ ry T n M' := by
  have hn := hT.2.2.2
  have hT9' : ∀ b i, sd T n b i < 2 ^ 31 := fun b i => by have := (sd9 (b := b) hT).2.1 i; omega
  have a1 : (me_s M0 67 n (nI 0)).1 63 5 = nI n := by rw [me_s_ne (by decide)]; exact h0
  have a2 : ∀ i, i ≤ n → (me_s M0 67 n (nI 0)).1 67 i = nI (T i) := fun i hi => by
    by_cases e : i = n
    · subst e; rw [pu_ss, hT.1.1]
    · rw [pu_sn e]; exact h1 i (by omega)
  obtain ⟨M1, e1, f1, g1⟩ := r_mirror (T := T) hn a1 (fun i hi => a2 i (by omega))
  have f1 : fr (fun b k => b = 68) (me_s M0 67 n (nI 0)) M1 := f1
  have b1 : M1.1 63 5 = nI n := by rw [f1.2 _ _ (by omega)]; exact a1
  have f2 : fr (fun b k => b = 68) (me_s M0 67 n (nI 0)) (me_s M1 68 n (nI 0)) := f1.tr (fr.s rfl)
  have b2 : ∀ b, b < 2 → rt_at b (sd T n b) n (me_s M1 68 n (nI 0)) := fun b hb => ⟨by rw [f2.2 _ _ (by omega)]; exact a1, fun i hi => by
    by_cases e : b = 0
    · subst e
      rw [f2.2 _ _ (by omega)]
      exact a2 i hi
    · have e : b = 1 := by omega
      subst e
      show (me_s M1 68 n (nI 0)).1 68 i = nI (rv T n i)
      by_cases e2 : i = n
      · subst e2; rw [pu_ss]; unfold rv; rw [if_neg (Nat.lt_irrefl _)]
      · rw [pu_sn e2]; exact g1 i (by omega)⟩
  obtain ⟨M2, e2, f3, g2⟩ := lp_up (b := mX12_laysRows_63_L65) (fun x st => st.1 = nI x ∧ fr (fun b _ => 70 ≤ b ∧ b ≤ 74) (me_s M1 68 n (nI 0)) st.2 ∧ ∀ b, b < x → ∀ p, p ≤ n → st.2.1 (70 + b) (rk (sd T n b) n p) = nI p ∧ st.2.1 (73 + b) p = nI (rk (sd T n b) n p)) (fun r => fr (fun b _ => 70 ≤ b ∧ b ≤ 74) (me_s M1 68 n (nI 0)) r ∧ ∀ b, b < 2 → ∀ p, p ≤ n → r.1 (70 + b) (rk (sd T n b) n p) = nI p ∧ r.1 (73 + b) p = nI (rk (sd T n b) n p)) (a := 0) (N := 2) (by omega) (by omega) (fun x st _ hx hI => by
    obtain ⟨x1, M⟩ := st
    obtain ⟨hx1, hf, hb⟩ := hI
    have hx1 : x1 = nI x := hx1
    subst hx1
    have hf : fr (fun b _ => 70 ≤ b ∧ b ≤ 74) (me_s M1 68 n (nI 0)) M := hf
    have hb : ∀ b, b < x → ∀ p, p ≤ n → M.1 (70 + b) (rk (sd T n b) n p) = nI p ∧ M.1 (73 + b) p = nI (rk (sd T n b) n p) := hb
    have r0 : rt_at x (sd T n x) n M := ⟨by rw [hf.2 _ _ (by omega)]; exact (b2 x hx).1, fun i hi => by rw [hf.2 _ _ (by omega)]; exact (b2 x hx).2 i hi⟩
    obtain ⟨M3, e3, x3, g3⟩ := r_sort_out hx (sd9 hT).1 (hT9' x) hn r0
    have r3 : rt_at x (sd T n x) n M3 := r0.go x3 (by simp; omega) (by simp)
    have k3 : ∀ p, p ≤ n → M3.1 (70 + x) (rk (sd T n x) n p) = nI p := fun p hp => by
      have := g3 p (by omega)
      rw [rb_all] at this
      exact this
    obtain ⟨M4, e4, x4, g4⟩ := r_rowAt hx (sd9 hT).1 hn r3 k3
    left
    simp only [mX12_laysRows_63_L65]
    simp (disch := omega) only [Option.bind_some, if_true, if_false, Sum.elim_inl, Sum.elim_inr, li0, li1, li2, li3, li4, li5, li6, li7, li8, li9, li10, li12, li16, li20, li24, li25, li31, li32, li40, li41, li42, li48, li57, li59, li97, li104, li105, li124, li126, li240, li241, nI_add, nI_subc, nI_subm, nI_mulc, nI_nm, pu_r, pu_t, pu_a, pu_le_t, pu_le_f, pu_lt_t, pu_lt_f, pu_eq_t, pu_eq_f, nm_eq, nm_eq2, nm_lt, nm_lt2, nm_le, nm_le2, nm_ss, nm_sp, pu_ss, pu_snq, pu_neq, eq_self, and_true, true_and, and_false, false_and, or_true, true_or, or_false, false_or, not_true_eq_false, not_false_eq_true, e3, e4]
    have f3 : fr (fun b _ => b = 70 + x) M M3 := x3.fr (fun b hb k => by simp only [List.mem_cons, List.mem_nil_iff, or_false] at hb; omega)
    have f4 : fr (fun b _ => b = 73 + x) M3 M4 := x4.fr (fun b hb k => by simp only [List.mem_cons, List.mem_nil_iff, or_false] at hb; omega)
    refine ⟨_, rfl, rfl, (hf.tr (f3.up (fun b k h => by omega))).tr (f4.up (fun b k h => by omega)), fun b hbx p hp => ?_⟩
    show M4.1 (70 + b) (rk (sd T n b) n p) = nI p ∧ M4.1 (73 + b) p = nI (rk (sd T n b) n p)
    by_cases e : b = x
    · subst e
      exact ⟨by rw [f4.2 _ _ (by omega)]; exact k3 p hp, g4 p hp⟩
    · rw [f4.2 _ _ (by omega), f4.2 _ _ (by omega), f3.2 _ _ (by omega), f3.2 _ _ (by omega)]
      exact hb b (by omega) p hp) (fun st hI => by
    obtain ⟨x1, M⟩ := st
    obtain ⟨hx1, hf, hb⟩ := hI
    have hx1 : x1 = nI 2 := hx1
    subst hx1
    simp only [mX12_laysRows_63_L65]
    simp (disch := omega) only [Option.bind_some, if_true, if_false, Sum.elim_inl, Sum.elim_inr, li0, li1, li2, li3, li4, li5, li6, li7, li8, li9, li10, li12, li16, li20, li24, li25, li31, li32, li40, li41, li42, li48, li57, li59, li97, li104, li105, li124, li126, li240, li241, nI_add, nI_subc, nI_subm, nI_mulc, nI_nm, pu_r, pu_t, pu_a, pu_le_t, pu_le_f, pu_lt_t, pu_lt_f, pu_eq_t, pu_eq_f, nm_eq, nm_eq2, nm_lt, nm_lt2, nm_le, nm_le2, nm_ss, nm_sp, pu_ss, pu_snq, pu_neq, eq_self, and_true, true_and, and_false, false_and, or_true, true_or, or_false, false_or, not_true_eq_false, not_false_eq_true]
    exact ⟨_, rfl, hf, hb⟩) (s0 := (nI 0, me_s M1 68 n (nI 0))) ⟨rfl, fr.rf, fun b h => absurd h (Nat.not_lt_zero _)⟩
  refine ⟨M2, ?_, ((fr.s (show 67 ≤ 67 ∧ 67 ≤ 74 by omega)).tr (f2.up (fun b k h => by omega))).tr (f3.up (fun b k h => by omega)), ⟨?_, fun i hi => ?_⟩, fun b hb => ⟨fun i hi => ?_, g2 b hb⟩⟩
  · unfold mX12_laysRows_63
    simp (disch := omega) only [Option.bind_some, if_true, if_false, Sum.elim_inl, Sum.elim_inr, li0, li1, li2, li3, li4, li5, li6, li7, li8, li9, li10, li12, li16, li20, li24, li25, li31, li32, li40, li41, li42, li48, li57, li59, li97, li104, li105, li124, li126, li240, li241, nI_add, nI_subc, nI_subm, nI_mulc, nI_nm, pu_r, pu_t, pu_a, pu_le_t, pu_le_f, pu_lt_t, pu_lt_f, pu_eq_t, pu_eq_f, nm_eq, nm_eq2, nm_lt, nm_lt2, nm_le, nm_le2, nm_ss, nm_sp, pu_ss, pu_snq, pu_neq, eq_self, and_true, true_and, and_false, false_and, or_true, true_or, or_false, false_or, not_true_eq_false, not_false_eq_true, h0, e1, b1, e2]
  · rw [f3.2 _ _ (by omega), f2.2 _ _ (by omega)]; exact a1
  · rw [f3.2 _ _ (by omega), f2.2 _ _ (by omega)]; exact a2 i hi
  · rw [f3.2 _ _ (by omega)]; exact (b2 b hb).2 i hi
