/-! ===== a search's plan ===== -/
/-- where a part begins -/
def fr9 (L P p : Nat) : Nat := p * L / P
def ln9 (L P : Nat) (d : Nat → Nat → Nat) (i : Nat) : Nat := fr9 L P (d 0 i + 1) - fr9 L P (d 0 i)
def cs9 (L P : Nat) (d : Nat → Nat → Nat) (i : Nat) : Nat := sm9 (ln9 L P d) i
theorem cs9_s {L P : Nat} {d : Nat → Nat → Nat} {i : Nat} : cs9 L P d (i + 1) = cs9 L P d i + ln9 L P d i := rfl
theorem fr9_m {L P a b : Nat} (h : a ≤ b) : fr9 L P a ≤ fr9 L P b := Nat.div_le_div_right (Nat.mul_le_mul_right _ h)
theorem fr9_s {L P p : Nat} (hP : 0 < P) (h : P ≤ L) : fr9 L P p + 1 ≤ fr9 L P (p + 1) := by
  unfold fr9
  rw [← Nat.add_div_right _ hP]
  refine Nat.div_le_div_right ?_
  rw [Nat.add_mul]; omega
theorem fr9_P {L P : Nat} (hP : 0 < P) : fr9 L P P = L := by
  unfold fr9
  rw [Nat.mul_comm]
  exact Nat.mul_div_cancel _ hP
theorem fr9_0 {L P : Nat} : fr9 L P 0 = 0 := by unfold fr9; rw [Nat.zero_mul, Nat.zero_div]
theorem itv_ok {P L : Nat} {d : Nat → Nat → Nat} (h : okd P d) : ∀ i, 1 ≤ i → i ≤ P → ∃ a b, a ≤ d 0 0 ∧ d 0 0 ≤ b ∧ b + 1 = a + i ∧ b < P ∧ (∀ j, j < i → a ≤ d 0 j ∧ d 0 j ≤ b) ∧ (∀ x, a ≤ x → x ≤ b → ∃ j, j < i ∧ d 0 j = x) ∧ cs9 L P d i = fr9 L P (b + 1) - fr9 L P a
  | 0, h1, _ => absurd h1 (by omega)
  | 1, _, h2 => by
    refine ⟨d 0 0, d 0 0, Nat.le_refl _, Nat.le_refl _, rfl, h.1 0 (by omega), fun j hj => ?_, fun x h1 h2 => ⟨0, by omega, by omega⟩, ?_⟩
    · rw [show j = 0 by omega]; omega
    · show 0 + ln9 L P d 0 = _
      unfold ln9; omega
  | i + 2, _, h2 => by
    obtain ⟨a, b, a1, a2, a3, a4, a5, a6, a7⟩ := itv_ok (L := L) h (i + 1) (by omega) (by omega)
    obtain ⟨j, j1, j2⟩ := h.2.2.1 (i + 1) (by omega) (by omega)
    have hy := h.1 (i + 1) (by omega)
    have hne : ¬ (a ≤ d 0 (i + 1) ∧ d 0 (i + 1) ≤ b) := fun z => by
      obtain ⟨q, q1, q2⟩ := a6 _ z.1 z.2
      exact h.2.1 q (i + 1) q1 (by omega) q2
    have hj := a5 j j1
    have hcs : cs9 L P d (i + 1 + 1) = cs9 L P d (i + 1) + (fr9 L P (d 0 (i + 1) + 1) - fr9 L P (d 0 (i + 1))) := rfl
    have m1 : fr9 L P a ≤ fr9 L P (b + 1) := fr9_m (by omega)
    have m2 : fr9 L P (d 0 (i + 1)) ≤ fr9 L P (d 0 (i + 1) + 1) := fr9_m (by omega)
    rcases j2 with j2 | j2
    · have hya : d 0 (i + 1) + 1 = a := by omega
      refine ⟨d 0 (i + 1), b, by omega, a2, by omega, a4, fun q hq => ?_, fun x h1 h2 => ?_, ?_⟩
      · by_cases e : q = i + 1
        · rw [e]; omega
        · have := a5 q (by omega); omega
      · by_cases e : x = d 0 (i + 1)
        · exact ⟨i + 1, by omega, e.symm⟩
        · obtain ⟨q, q1, q2⟩ := a6 x (by omega) h2
          exact ⟨q, by omega, q2⟩
      · rw [hcs, a7, hya]; rw [hya] at m2; omega
    · have hyb : d 0 (i + 1) = b + 1 := by omega
      refine ⟨a, b + 1, a1, by omega, by omega, by omega, fun q hq => ?_, fun x h1 h2 => ?_, ?_⟩
      · by_cases e : q = i + 1
        · rw [e]; omega
        · have := a5 q (by omega); omega
      · by_cases e : x = d 0 (i + 1)
        · exact ⟨i + 1, by omega, e.symm⟩
        · obtain ⟨q, q1, q2⟩ := a6 x h1 (by omega)
          exact ⟨q, by omega, q2⟩
      · rw [hcs, a7, hyb]; rw [hyb] at m2; omega
theorem cs9_P {P L : Nat} {d : Nat → Nat → Nat} (h : okd P d) (hP : 1 ≤ P) : cs9 L P d P = L := by
  obtain ⟨a, b, a1, a2, a3, a4, a5, a6, a7⟩ := itv_ok (L := L) h P hP (Nat.le_refl _)
  rw [a7, show a = 0 by omega, show b + 1 = P by omega, fr9_P hP, fr9_0, Nat.sub_zero]
theorem cs9_m {P L : Nat} {d : Nat → Nat → Nat} {i j : Nat} (h : i ≤ j) : cs9 L P d i ≤ cs9 L P d j := by
  induction j with
  | zero => rw [show i = 0 by omega]; exact Nat.le_refl _
  | succ j ih =>
    by_cases e : i = j + 1
    · rw [e]; exact Nat.le_refl _
    · have := ih (by omega)
      rw [cs9_s]; omega
theorem cs9_at {P L : Nat} {d : Nat → Nat → Nat} {t : Nat} : ∀ R, t < cs9 L P d R → ∃ i e, i < R ∧ e < ln9 L P d i ∧ t = cs9 L P d i + e
  | 0, h => absurd h (Nat.not_lt_zero _)
  | R + 1, h => by
    by_cases c : t < cs9 L P d R
    · obtain ⟨i, e, h1, h2, h3⟩ := cs9_at R c
      exact ⟨i, e, by omega, h2, h3⟩
    · rw [cs9_s] at h
      exact ⟨R, t - cs9 L P d R, by omega, by omega, by omega⟩
/-- which letter of the pattern is the e-th of the i-th part -/
def ps9 (L P : Nat) (d : Nat → Nat → Nat) (i e : Nat) : Nat := if d 0 i < d 0 0 then fr9 L P (d 0 i + 1) - 1 - e else fr9 L P (d 0 i) + e
def sd9' (d : Nat → Nat → Nat) (i : Nat) : Nat := if d 0 i < d 0 0 then 0 else 1
theorem ps9_lt {P L : Nat} {d : Nat → Nat → Nat} {i e : Nat} (h : okd P d) (hP : 1 ≤ P) (hi : i < P) (he : e < ln9 L P d i) : ps9 L P d i e < L := by
  have h1 : fr9 L P (d 0 i + 1) ≤ fr9 L P P := fr9_m (by have := h.1 i hi; omega)
  rw [fr9_P hP] at h1
  unfold ln9 at he
  unfold ps9
  split <;> omega
/-- the class's plan: entries of the first steps -/
def eC (L P : Nat) (d : Nat → Nat → Nat) (G : Nat → Nat) (i e : Nat) (M : me_M) : Prop := M.1 41 (cs9 L P d i + e) = nI (G (ps9 L P d i e) - 2) ∧ M.1 42 (cs9 L P d i + e) = nI (sd9' d i) ∧ M.1 43 (cs9 L P d i + e) = nI (if e + 1 = ln9 L P d i then d 1 i else 0) ∧ M.1 44 (cs9 L P d i + e) = nI (d 2 i)
theorem c_planLetter {k : Nat} {a b c : Int32} {M : me_M} (h9 : M.1 36 9 = nI k) (hk : k < 24) : mX1_planLetter_36 M a b c = some (me_s (me_s (me_s (me_s (me_s M 41 k a) 42 k b) 43 k (nI 0)) 44 k c) 36 9 (nI (k + 1))) := by
  unfold mX1_planLetter_36
  simp (disch := omega) only [Option.bind_some, if_true, if_false, Sum.elim_inl, Sum.elim_inr, li0, li1, li2, li3, li4, li5, li6, li7, li8, li9, li10, li12, li16, li20, li24, li25, li31, li32, li40, li41, li42, li48, li57, li59, li97, li104, li105, li124, li126, li240, li241, nI_add, nI_subc, nI_subm, nI_mulc, nI_nm, pu_r, pu_t, pu_a, pu_le_t, pu_le_f, pu_lt_t, pu_lt_f, pu_eq_t, pu_eq_f, nm_eq, nm_eq2, nm_lt, nm_lt2, nm_le, nm_le2, nm_ss, nm_sp, pu_ss, pu_snq, pu_neq, eq_self, and_true, true_and, and_false, false_and, or_true, true_or, or_false, false_or, not_true_eq_false, not_false_eq_true, h9]
theorem c_planR {k a ln L : Nat} {c : Int32} {G : Nat → Nat} {M : me_M} (h9 : M.1 36 9 = nI k) (hk : k + ln ≤ 24) (ha : a + ln ≤ L) (hL : L ≤ 24) (hG : ∀ i, i < L → M.1 48 i = nI (G i - 2)) : ∃ M', mX1_planRightwards_36_48 M (nI a) (nI (a + ln)) c = some M' ∧ fr (fun b j => (b = 36 ∧ j = 9) ∨ ((41 ≤ b ∧ b ≤ 44) ∧ k ≤ j ∧ j < k + ln)) M M' ∧ M'.1 36 9 = nI (k + ln) ∧ ∀ e, e < ln → M'.1 41 (k + e) = nI (G (a + e) - 2) ∧ M'.1 42 (k + e) = nI 1 ∧ M'.1 43 (k + e) = nI 0 ∧ M'.1 44 (k + e) = c := by
  obtain ⟨r, e, hr⟩ := lp_up (b := mX1_planRightwards_36_48_L3 (nI (a + ln)) c) (fun x st => ∃ Mx, st = (nI (a + x), Mx) ∧ fr (fun b j => (b = 36 ∧ j = 9) ∨ ((41 ≤ b ∧ b ≤ 44) ∧ k ≤ j ∧ j < k + ln)) M Mx ∧ Mx.1 36 9 = nI (k + x) ∧ ∀ e, e < x → Mx.1 41 (k + e) = nI (G (a + e) - 2) ∧ Mx.1 42 (k + e) = nI 1 ∧ Mx.1 43 (k + e) = nI 0 ∧ Mx.1 44 (k + e) = c) (fun r => fr (fun b j => (b = 36 ∧ j = 9) ∨ ((41 ≤ b ∧ b ≤ 44) ∧ k ≤ j ∧ j < k + ln)) M r ∧ r.1 36 9 = nI (k + ln) ∧ ∀ e, e < ln → r.1 41 (k + e) = nI (G (a + e) - 2) ∧ r.1 42 (k + e) = nI 1 ∧ r.1 43 (k + e) = nI 0 ∧ r.1 44 (k + e) = c) (a := 0) (N := ln) (by omega) (by omega) (fun x st _ hx hst => by
    obtain ⟨Mx, rfl, hf, h9x, hI⟩ := hst
    left
    have h48 : Mx.1 48 (a + x) = nI (G (a + x) - 2) := by rw [hf.2 _ _ (by omega)]; exact hG _ (by omega)
    have hpl := c_planLetter (a := nI (G (a + x) - 2)) (b := nI 1) (c := c) h9x (by omega)
    refine ⟨(nI (a + (x + 1)), me_s (me_s (me_s (me_s (me_s Mx 41 (k + x) (nI (G (a + x) - 2))) 42 (k + x) (nI 1)) 43 (k + x) (nI 0)) 44 (k + x) c) 36 9 (nI (k + x + 1))), ?_, _, rfl, ((((hf.st (by omega)).st (by omega)).st (by omega)).st (by omega)).st (by omega), by rw [pu_ss]; rfl, fun e he => ?_⟩
    · simp only [mX1_planRightwards_36_48_L3]
      simp (disch := omega) only [Option.bind_some, if_true, if_false, Sum.elim_inl, Sum.elim_inr, li0, li1, li2, li3, li4, li5, li6, li7, li8, li9, li10, li12, li16, li20, li24, li25, li31, li32, li40, li41, li42, li48, li57, li59, li97, li104, li105, li124, li126, li240, li241, nI_add, nI_subc, nI_subm, nI_mulc, nI_nm, pu_r, pu_t, pu_a, pu_le_t, pu_le_f, pu_lt_t, pu_lt_f, pu_eq_t, pu_eq_f, nm_eq, nm_eq2, nm_lt, nm_lt2, nm_le, nm_le2, nm_ss, nm_sp, pu_ss, pu_snq, pu_neq, eq_self, and_true, true_and, and_false, false_and, or_true, true_or, or_false, false_or, not_true_eq_false, not_false_eq_true, h48, hpl, show a + x + 1 = a + (x + 1) by omega]
    · by_cases z : e = x
      · subst z
        exact ⟨by simp (disch := omega) only [Option.bind_some, if_true, if_false, Sum.elim_inl, Sum.elim_inr, li0, li1, li2, li3, li4, li5, li6, li7, li8, li9, li10, li12, li16, li20, li24, li25, li31, li32, li40, li41, li42, li48, li57, li59, li97, li104, li105, li124, li126, li240, li241, nI_add, nI_subc, nI_subm, nI_mulc, nI_nm, pu_r, pu_t, pu_a, pu_le_t, pu_le_f, pu_lt_t, pu_lt_f, pu_eq_t, pu_eq_f, nm_eq, nm_eq2, nm_lt, nm_lt2, nm_le, nm_le2, nm_ss, nm_sp, pu_ss, pu_snq, pu_neq, eq_self, and_true, true_and, and_false, false_and, or_true, true_or, or_false, false_or, not_true_eq_false, not_false_eq_true], by simp (disch := omega) only [Option.bind_some, if_true, if_false, Sum.elim_inl, Sum.elim_inr, li0, li1, li2, li3, li4, li5, li6, li7, li8, li9, li10, li12, li16, li20, li24, li25, li31, li32, li40, li41, li42, li48, li57, li59, li97, li104, li105, li124, li126, li240, li241, nI_add, nI_subc, nI_subm, nI_mulc, nI_nm, pu_r, pu_t, pu_a, pu_le_t, pu_le_f, pu_lt_t, pu_lt_f, pu_eq_t, pu_eq_f, nm_eq, nm_eq2, nm_lt, nm_lt2, nm_le, nm_le2, nm_ss, nm_sp, pu_ss, pu_snq, pu_neq, eq_self, and_true, true_and, and_false, false_and, or_true, true_or, or_false, false_or, not_true_eq_false, not_false_eq_true], by simp (disch := omega) only [Option.bind_some, if_true, if_false, Sum.elim_inl, Sum.elim_inr, li0, li1, li2, li3, li4, li5, li6, li7, li8, li9, li10, li12, li16, li20, li24, li25, li31, li32, li40, li41, li42, li48, li57, li59, li97, li104, li105, li124, li126, li240, li241, nI_add, nI_subc, nI_subm, nI_mulc, nI_nm, pu_r, pu_t, pu_a, pu_le_t, pu_le_f, pu_lt_t, pu_lt_f, pu_eq_t, pu_eq_f, nm_eq, nm_eq2, nm_lt, nm_lt2, nm_le, nm_le2, nm_ss, nm_sp, pu_ss, pu_snq, pu_neq, eq_self, and_true, true_and, and_false, false_and, or_true, true_or, or_false, false_or, not_true_eq_false, not_false_eq_true], by simp (disch := omega) only [Option.bind_some, if_true, if_false, Sum.elim_inl, Sum.elim_inr, li0, li1, li2, li3, li4, li5, li6, li7, li8, li9, li10, li12, li16, li20, li24, li25, li31, li32, li40, li41, li42, li48, li57, li59, li97, li104, li105, li124, li126, li240, li241, nI_add, nI_subc, nI_subm, nI_mulc, nI_nm, pu_r, pu_t, pu_a, pu_le_t, pu_le_f, pu_lt_t, pu_lt_f, pu_eq_t, pu_eq_f, nm_eq, nm_eq2, nm_lt, nm_lt2, nm_le, nm_le2, nm_ss, nm_sp, pu_ss, pu_snq, pu_neq, eq_self, and_true, true_and, and_false, false_and, or_true, true_or, or_false, false_or, not_true_eq_false, not_false_eq_true]⟩
      · have := hI e (by omega)
        simp (disch := omega) only [Option.bind_some, if_true, if_false, Sum.elim_inl, Sum.elim_inr, li0, li1, li2, li3, li4, li5, li6, li7, li8, li9, li10, li12, li16, li20, li24, li25, li31, li32, li40, li41, li42, li48, li57, li59, li97, li104, li105, li124, li126, li240, li241, nI_add, nI_subc, nI_subm, nI_mulc, nI_nm, pu_r, pu_t, pu_a, pu_le_t, pu_le_f, pu_lt_t, pu_lt_f, pu_eq_t, pu_eq_f, nm_eq, nm_eq2, nm_lt, nm_lt2, nm_le, nm_le2, nm_ss, nm_sp, pu_ss, pu_snq, pu_neq, eq_self, and_true, true_and, and_false, false_and, or_true, true_or, or_false, false_or, not_true_eq_false, not_false_eq_true]
        exact this) (fun st hst => by
    obtain ⟨Mx, rfl, hf, h9x, hI⟩ := hst
    refine ⟨Mx, ?_, hf, h9x, hI⟩
    simp only [mX1_planRightwards_36_48_L3]
    simp (disch := omega) only [Option.bind_some, if_true, if_false, Sum.elim_inl, Sum.elim_inr, li0, li1, li2, li3, li4, li5, li6, li7, li8, li9, li10, li12, li16, li20, li24, li25, li31, li32, li40, li41, li42, li48, li57, li59, li97, li104, li105, li124, li126, li240, li241, nI_add, nI_subc, nI_subm, nI_mulc, nI_nm, pu_r, pu_t, pu_a, pu_le_t, pu_le_f, pu_lt_t, pu_lt_f, pu_eq_t, pu_eq_f, nm_eq, nm_eq2, nm_lt, nm_lt2, nm_le, nm_le2, nm_ss, nm_sp, pu_ss, pu_snq, pu_neq, eq_self, and_true, true_and, and_false, false_and, or_true, true_or, or_false, false_or, not_true_eq_false, not_false_eq_true]) (s0 := (nI a, M)) ⟨M, rfl, fr.rf, h9, fun e he => absurd he (Nat.not_lt_zero _)⟩
  refine ⟨r, ?_, hr⟩
  unfold mX1_planRightwards_36_48
  simp (disch := omega) only [Option.bind_some, if_true, if_false, Sum.elim_inl, Sum.elim_inr, li0, li1, li2, li3, li4, li5, li6, li7, li8, li9, li10, li12, li16, li20, li24, li25, li31, li32, li40, li41, li42, li48, li57, li59, li97, li104, li105, li124, li126, li240, li241, nI_add, nI_subc, nI_subm, nI_mulc, nI_nm, pu_r, pu_t, pu_a, pu_le_t, pu_le_f, pu_lt_t, pu_lt_f, pu_eq_t, pu_eq_f, nm_eq, nm_eq2, nm_lt, nm_lt2, nm_le, nm_le2, nm_ss, nm_sp, pu_ss, pu_snq, pu_neq, eq_self, and_true, true_and, and_false, false_and, or_true, true_or, or_false, false_or, not_true_eq_false, not_false_eq_true, e]
theorem c_planL {k a ln L : Nat} {c : Int32} {G : Nat → Nat} {M : me_M} (h9 : M.1 36 9 = nI k) (hk : k + ln ≤ 24) (ha : a + ln ≤ L) (hL : L ≤ 24) (hG : ∀ i, i < L → M.1 48 i = nI (G i - 2)) : ∃ M', mX1_planLeftwards_36_48 M (nI a) (nI (a + ln)) c = some M' ∧ fr (fun b j => (b = 36 ∧ j = 9) ∨ ((41 ≤ b ∧ b ≤ 44) ∧ k ≤ j ∧ j < k + ln)) M M' ∧ M'.1 36 9 = nI (k + ln) ∧ ∀ e, e < ln → M'.1 41 (k + e) = nI (G (a + ln - 1 - e) - 2) ∧ M'.1 42 (k + e) = nI 0 ∧ M'.1 43 (k + e) = nI 0 ∧ M'.1 44 (k + e) = c := by
  obtain ⟨r, e, hr⟩ := lp_up (b := mX1_planLeftwards_36_48_L5 (nI a) c) (fun x st => ∃ Mx, st = (dn (a + ln - x), Mx) ∧ fr (fun b j => (b = 36 ∧ j = 9) ∨ ((41 ≤ b ∧ b ≤ 44) ∧ k ≤ j ∧ j < k + ln)) M Mx ∧ Mx.1 36 9 = nI (k + x) ∧ ∀ e, e < x → Mx.1 41 (k + e) = nI (G (a + ln - 1 - e) - 2) ∧ Mx.1 42 (k + e) = nI 0 ∧ Mx.1 43 (k + e) = nI 0 ∧ Mx.1 44 (k + e) = c) (fun r => fr (fun b j => (b = 36 ∧ j = 9) ∨ ((41 ≤ b ∧ b ≤ 44) ∧ k ≤ j ∧ j < k + ln)) M r ∧ r.1 36 9 = nI (k + ln) ∧ ∀ e, e < ln → r.1 41 (k + e) = nI (G (a + ln - 1 - e) - 2) ∧ r.1 42 (k + e) = nI 0 ∧ r.1 43 (k + e) = nI 0 ∧ r.1 44 (k + e) = c) (a := 0) (N := ln) (by omega) (by omega) (fun x st _ hx hst => by
    obtain ⟨Mx, rfl, hf, h9x, hI⟩ := hst
    left
    have hdn : dn (a + ln - x) = nI (a + ln - 1 - x) := by rw [show a + ln - x = a + ln - 1 - x + 1 by omega, dn_s]
    have h48 : Mx.1 48 (a + ln - 1 - x) = nI (G (a + ln - 1 - x) - 2) := by rw [hf.2 _ _ (by omega)]; exact hG _ (by omega)
    have hpl := c_planLetter (a := nI (G (a + ln - 1 - x) - 2)) (b := nI 0) (c := c) h9x (by omega)
    refine ⟨(dn (a + ln - (x + 1)), me_s (me_s (me_s (me_s (me_s Mx 41 (k + x) (nI (G (a + ln - 1 - x) - 2))) 42 (k + x) (nI 0)) 43 (k + x) (nI 0)) 44 (k + x) c) 36 9 (nI (k + x + 1))), ?_, _, rfl, ((((hf.st (by omega)).st (by omega)).st (by omega)).st (by omega)).st (by omega), by rw [pu_ss]; rfl, fun e he => ?_⟩
    · simp only [mX1_planLeftwards_36_48_L5]
      rw [hdn]
      simp (disch := omega) only [Option.bind_some, if_true, if_false, Sum.elim_inl, Sum.elim_inr, li0, li1, li2, li3, li4, li5, li6, li7, li8, li9, li10, li12, li16, li20, li24, li25, li31, li32, li40, li41, li42, li48, li57, li59, li97, li104, li105, li124, li126, li240, li241, nI_add, nI_subc, nI_subm, nI_mulc, pu_r, pu_t, pu_a, pu_le_t, pu_le_f, pu_lt_t, pu_lt_f, pu_eq_t, pu_eq_f, nm_eq, nm_eq2, nm_lt, nm_lt2, nm_le, nm_le2, nm_ss, nm_sp, pu_ss, pu_snq, pu_neq, eq_self, and_true, true_and, and_false, false_and, or_true, true_or, or_false, false_or, not_true_eq_false, not_false_eq_true, h48, hpl, dn_p, show a + ln - (x + 1) = a + ln - 1 - x by omega]
    · by_cases z : e = x
      · subst z
        exact ⟨by simp (disch := omega) only [Option.bind_some, if_true, if_false, Sum.elim_inl, Sum.elim_inr, li0, li1, li2, li3, li4, li5, li6, li7, li8, li9, li10, li12, li16, li20, li24, li25, li31, li32, li40, li41, li42, li48, li57, li59, li97, li104, li105, li124, li126, li240, li241, nI_add, nI_subc, nI_subm, nI_mulc, nI_nm, pu_r, pu_t, pu_a, pu_le_t, pu_le_f, pu_lt_t, pu_lt_f, pu_eq_t, pu_eq_f, nm_eq, nm_eq2, nm_lt, nm_lt2, nm_le, nm_le2, nm_ss, nm_sp, pu_ss, pu_snq, pu_neq, eq_self, and_true, true_and, and_false, false_and, or_true, true_or, or_false, false_or, not_true_eq_false, not_false_eq_true], by simp (disch := omega) only [Option.bind_some, if_true, if_false, Sum.elim_inl, Sum.elim_inr, li0, li1, li2, li3, li4, li5, li6, li7, li8, li9, li10, li12, li16, li20, li24, li25, li31, li32, li40, li41, li42, li48, li57, li59, li97, li104, li105, li124, li126, li240, li241, nI_add, nI_subc, nI_subm, nI_mulc, nI_nm, pu_r, pu_t, pu_a, pu_le_t, pu_le_f, pu_lt_t, pu_lt_f, pu_eq_t, pu_eq_f, nm_eq, nm_eq2, nm_lt, nm_lt2, nm_le, nm_le2, nm_ss, nm_sp, pu_ss, pu_snq, pu_neq, eq_self, and_true, true_and, and_false, false_and, or_true, true_or, or_false, false_or, not_true_eq_false, not_false_eq_true], by simp (disch := omega) only [Option.bind_some, if_true, if_false, Sum.elim_inl, Sum.elim_inr, li0, li1, li2, li3, li4, li5, li6, li7, li8, li9, li10, li12, li16, li20, li24, li25, li31, li32, li40, li41, li42, li48, li57, li59, li97, li104, li105, li124, li126, li240, li241, nI_add, nI_subc, nI_subm, nI_mulc, nI_nm, pu_r, pu_t, pu_a, pu_le_t, pu_le_f, pu_lt_t, pu_lt_f, pu_eq_t, pu_eq_f, nm_eq, nm_eq2, nm_lt, nm_lt2, nm_le, nm_le2, nm_ss, nm_sp, pu_ss, pu_snq, pu_neq, eq_self, and_true, true_and, and_false, false_and, or_true, true_or, or_false, false_or, not_true_eq_false, not_false_eq_true], by simp (disch := omega) only [Option.bind_some, if_true, if_false, Sum.elim_inl, Sum.elim_inr, li0, li1, li2, li3, li4, li5, li6, li7, li8, li9, li10, li12, li16, li20, li24, li25, li31, li32, li40, li41, li42, li48, li57, li59, li97, li104, li105, li124, li126, li240, li241, nI_add, nI_subc, nI_subm, nI_mulc, nI_nm, pu_r, pu_t, pu_a, pu_le_t, pu_le_f, pu_lt_t, pu_lt_f, pu_eq_t, pu_eq_f, nm_eq, nm_eq2, nm_lt, nm_lt2, nm_le, nm_le2, nm_ss, nm_sp, pu_ss, pu_snq, pu_neq, eq_self, and_true, true_and, and_false, false_and, or_true, true_or, or_false, false_or, not_true_eq_false, not_false_eq_true]⟩
      · have := hI e (by omega)
        simp (disch := omega) only [Option.bind_some, if_true, if_false, Sum.elim_inl, Sum.elim_inr, li0, li1, li2, li3, li4, li5, li6, li7, li8, li9, li10, li12, li16, li20, li24, li25, li31, li32, li40, li41, li42, li48, li57, li59, li97, li104, li105, li124, li126, li240, li241, nI_add, nI_subc, nI_subm, nI_mulc, nI_nm, pu_r, pu_t, pu_a, pu_le_t, pu_le_f, pu_lt_t, pu_lt_f, pu_eq_t, pu_eq_f, nm_eq, nm_eq2, nm_lt, nm_lt2, nm_le, nm_le2, nm_ss, nm_sp, pu_ss, pu_snq, pu_neq, eq_self, and_true, true_and, and_false, false_and, or_true, true_or, or_false, false_or, not_true_eq_false, not_false_eq_true]
        exact this) (fun st hst => by
    obtain ⟨Mx, rfl, hf, h9x, hI⟩ := hst
    refine ⟨Mx, ?_, hf, h9x, hI⟩
    simp only [mX1_planLeftwards_36_48_L5]
    rw [show a + ln - ln = a by omega]
    rcases a with _ | a
    · simp (disch := omega) only [Option.bind_some, if_true, if_false, Sum.elim_inl, Sum.elim_inr, li0, li1, li2, li3, li4, li5, li6, li7, li8, li9, li10, li12, li16, li20, li24, li25, li31, li32, li40, li41, li42, li48, li57, li59, li97, li104, li105, li124, li126, li240, li241, nI_add, nI_subc, nI_subm, nI_mulc, nI_nm, pu_r, pu_t, pu_a, pu_le_t, pu_le_f, pu_lt_t, pu_lt_f, pu_eq_t, pu_eq_f, nm_eq, nm_eq2, nm_lt, nm_lt2, nm_le, nm_le2, nm_ss, nm_sp, pu_ss, pu_snq, pu_neq, eq_self, and_true, true_and, and_false, false_and, or_true, true_or, or_false, false_or, not_true_eq_false, not_false_eq_true, dn_0]
    · simp (disch := omega) only [Option.bind_some, if_true, if_false, Sum.elim_inl, Sum.elim_inr, li0, li1, li2, li3, li4, li5, li6, li7, li8, li9, li10, li12, li16, li20, li24, li25, li31, li32, li40, li41, li42, li48, li57, li59, li97, li104, li105, li124, li126, li240, li241, nI_add, nI_subc, nI_subm, nI_mulc, nI_nm, pu_r, pu_t, pu_a, pu_le_t, pu_le_f, pu_lt_t, pu_lt_f, pu_eq_t, pu_eq_f, nm_eq, nm_eq2, nm_lt, nm_lt2, nm_le, nm_le2, nm_ss, nm_sp, pu_ss, pu_snq, pu_neq, eq_self, and_true, true_and, and_false, false_and, or_true, true_or, or_false, false_or, not_true_eq_false, not_false_eq_true, dn_s]) (s0 := (dn (a + ln), M)) ⟨M, rfl, fr.rf, h9, fun e he => absurd he (Nat.not_lt_zero _)⟩
  refine ⟨r, ?_, hr⟩
  unfold mX1_planLeftwards_36_48
  rw [li1, dn_m, e]
  rfl
theorem c_plan {ob od le mo sh S P s L : Nat} {D : Nat → Nat → Nat → Nat} {G : Nat → Nat} {M : me_M} (hS : S ≤ 8) (hP1 : 1 ≤ P) (hP5 : P ≤ 5) (hs : s < S) (hok : okd P (D s)) (hM : sch ob od le mo S P D M) (hd : 53 ≤ ob ∧ 53 ≤ od ∧ 53 ≤ le ∧ 53 ≤ mo) (hL1 : P ≤ L) (hL : L ≤ 24) (hG : ∀ i, i < L → M.1 48 i = nI (G i - 2)) (h9 : M.1 36 9 = nI 0) : ∃ M', me_l (gX1_run_L22 ob od le mo sh (nI L) (nI (s * 5))) me_fu (nI 0, M) = some M' ∧ fr (fun b j => (b = 36 ∧ j = 9) ∨ (41 ≤ b ∧ b ≤ 44)) M M' ∧ M'.1 36 9 = nI L ∧ ∀ i e, i < P → e < ln9 L P (D s) i → eC L P (D s) G i e M' := by
  obtain ⟨d1, d2, d3, d4⟩ := hd
  have hcP := cs9_P (L := L) hok hP1
  obtain ⟨r, e, hr⟩ := lp_up (b := gX1_run_L22 ob od le mo sh (nI L) (nI (s * 5))) (fun x st => ∃ Mx, st = (nI x, Mx) ∧ fr (fun b j => (b = 36 ∧ j = 9) ∨ (41 ≤ b ∧ b ≤ 44)) M Mx ∧ Mx.1 36 9 = nI (cs9 L P (D s) x) ∧ ∀ i e, i < x → e < ln9 L P (D s) i → eC L P (D s) G i e Mx) (fun r => fr (fun b j => (b = 36 ∧ j = 9) ∨ (41 ≤ b ∧ b ≤ 44)) M r ∧ r.1 36 9 = nI L ∧ ∀ i e, i < P → e < ln9 L P (D s) i → eC L P (D s) G i e r) (a := 0) (N := P) (by omega) (by omega) (fun x st _ hx hst => by
    obtain ⟨Mx, rfl, hf, h9x, hI⟩ := hst
    left
    have hsx := hM.fr hf (by omega) (by omega) (fun k => by omega) (fun k => by omega) (fun k => by omega)
    have hGx : ∀ i, i < L → Mx.1 48 i = nI (G i - 2) := fun i hi => by rw [hf.2 _ _ (by omega)]; exact hG i hi
    have q0 := hsx.2.2.1 s x hs hx
    have q00 := hsx.2.2.1 s 0 hs (by omega)
    rw [Nat.add_zero] at q00
    have q1 := hsx.2.2.2.1 s x hs hx
    have q2 := hsx.2.2.2.2 s x hs hx
    have h5 := hsx.2.1
    have o1 := hok.1 x hx
    have o0 := hok.1 0 (by omega)
    have hcx : cs9 L P (D s) (x + 1) ≤ cs9 L P (D s) P := cs9_m (by omega)
    have hcs : cs9 L P (D s) (x + 1) = cs9 L P (D s) x + ln9 L P (D s) x := cs9_s
    have hf1 := fr9_s (L := L) (P := P) (p := D s 0 x) hP1 hL1
    have hf2 : fr9 L P (D s 0 x + 1) ≤ fr9 L P P := fr9_m (by omega)
    rw [fr9_P hP1] at hf2
    have hln : ln9 L P (D s) x = fr9 L P (D s 0 x + 1) - fr9 L P (D s 0 x) := rfl
    have hdv1 : me_dv (nI (D s 0 x * L)) (nI P) = some (nI (fr9 L P (D s 0 x))) := pu_dv (by have : D s 0 x * L ≤ 5 * 24 := Nat.mul_le_mul (by omega) hL; omega) (by omega) (by omega)
    have hdv2 : me_dv (nI ((D s 0 x + 1) * L)) (nI P) = some (nI (fr9 L P (D s 0 x + 1))) := pu_dv (by have : (D s 0 x + 1) * L ≤ 6 * 24 := Nat.mul_le_mul (by omega) hL; omega) (by omega) (by omega)
    have hend : ∀ M3, fr (fun b j => (b = 36 ∧ j = 9) ∨ ((41 ≤ b ∧ b ≤ 44) ∧ cs9 L P (D s) x ≤ j ∧ j < cs9 L P (D s) x + ln9 L P (D s) x)) Mx M3 → M3.1 36 9 = nI (cs9 L P (D s) x + ln9 L P (D s) x) → (∀ e, e < ln9 L P (D s) x → M3.1 41 (cs9 L P (D s) x + e) = nI (G (ps9 L P (D s) x e) - 2) ∧ M3.1 42 (cs9 L P (D s) x + e) = nI (sd9' (D s) x) ∧ M3.1 43 (cs9 L P (D s) x + e) = nI 0 ∧ M3.1 44 (cs9 L P (D s) x + e) = nI (D s 2 x)) → ∃ s', gX1_run_J122 ob od le mo sh (nI L) (nI (s * 5)) (nI x) M3 = some (.inl s') ∧ ∃ M4, s' = (nI (x + 1), M4) ∧ fr (fun b j => (b = 36 ∧ j = 9) ∨ (41 ≤ b ∧ b ≤ 44)) M M4 ∧ M4.1 36 9 = nI (cs9 L P (D s) (x + 1)) ∧ ∀ i e, i < x + 1 → e < ln9 L P (D s) i → eC L P (D s) G i e M4 := fun M3 f3 g3 k3 => by
      have q13 : M3.1 le (s * 5 + x) = nI (D s 1 x) := by rw [f3.2 _ _ (by omega)]; exact q1
      refine ⟨(nI (x + 1), me_s M3 43 (cs9 L P (D s) x + ln9 L P (D s) x - 1) (nI (D s 1 x))), ?_, _, rfl, (hf.tr (f3.up (fun b k h => by omega))).st (by omega), by rw [me_s_ne (by decide), hcs]; exact g3, fun i e hi he => ?_⟩
      · simp only [gX1_run_J122, gX1_run_J150]
        simp (disch := omega) only [Option.bind_some, if_true, if_false, Sum.elim_inl, Sum.elim_inr, li0, li1, li2, li3, li4, li5, li6, li7, li8, li9, li10, li12, li16, li20, li24, li25, li31, li32, li40, li41, li42, li48, li57, li59, li97, li104, li105, li124, li126, li240, li241, nI_add, nI_subc, nI_subm, nI_mulc, nI_nm, pu_r, pu_t, pu_a, pu_le_t, pu_le_f, pu_lt_t, pu_lt_f, pu_eq_t, pu_eq_f, nm_eq, nm_eq2, nm_lt, nm_lt2, nm_le, nm_le2, nm_ss, nm_sp, pu_ss, pu_snq, pu_neq, eq_self, and_true, true_and, and_false, false_and, or_true, true_or, or_false, false_or, not_true_eq_false, not_false_eq_true, g3, q13]
      · by_cases z : i = x
        · subst z
          obtain ⟨z1, z2, z3, z4⟩ := k3 e he
          refine ⟨by rw [me_s_ne (by decide)]; exact z1, by rw [me_s_ne (by decide)]; exact z2, ?_, by rw [me_s_ne (by decide)]; exact z4⟩
          by_cases y : e + 1 = ln9 L P (D s) i
          · rw [if_pos y, show cs9 L P (D s) i + e = cs9 L P (D s) i + ln9 L P (D s) i - 1 by omega, pu_ss]
          · rw [if_neg y, pu_sn (by omega)]; exact z3
        · have hib : cs9 L P (D s) i + e < cs9 L P (D s) x := by
            have h1 : cs9 L P (D s) (i + 1) ≤ cs9 L P (D s) x := cs9_m (by omega)
            rw [cs9_s] at h1
            omega
          obtain ⟨z1, z2, z3, z4⟩ := hI i e (by omega) he
          unfold eC
          rw [me_s_ne (show (41 : Nat) ≠ 43 by decide), me_s_ne (show (42 : Nat) ≠ 43 by decide), me_s_ne (show (44 : Nat) ≠ 43 by decide), pu_sn (by omega), f3.2 41 _ (by omega), f3.2 42 _ (by omega), f3.2 43 _ (by omega), f3.2 44 _ (by omega)]
          exact ⟨z1, z2, z3, z4⟩
    by_cases c : D s 0 x < D s 0 0
    · obtain ⟨M3, e3, f3, g3, k3⟩ := c_planL (k := cs9 L P (D s) x) (a := fr9 L P (D s 0 x)) (ln := ln9 L P (D s) x) (L := L) (c := nI (D s 2 x)) (G := G) h9x (by omega) (by omega) hL hGx
      rw [show fr9 L P (D s 0 x) + ln9 L P (D s) x = fr9 L P (D s 0 x + 1) by omega] at e3 k3
      obtain ⟨s', e4, M4, h4⟩ := hend M3 f3 g3 (fun e he => by
        have := k3 e he
        unfold ps9 sd9'
        rw [if_pos c, if_pos c]
        exact this)
      refine ⟨s', ?_, M4, h4⟩
      simp only [gX1_run_L22]
      simp (disch := omega) only [Option.bind_some, if_true, if_false, Sum.elim_inl, Sum.elim_inr, li0, li1, li2, li3, li4, li5, li6, li7, li8, li9, li10, li12, li16, li20, li24, li25, li31, li32, li40, li41, li42, li48, li57, li59, li97, li104, li105, li124, li126, li240, li241, nI_add, nI_subc, nI_subm, nI_mulc, nI_nm, pu_r, pu_t, pu_a, pu_le_t, pu_le_f, pu_lt_t, pu_lt_f, pu_eq_t, pu_eq_f, nm_eq, nm_eq2, nm_lt, nm_lt2, nm_le, nm_le2, nm_ss, nm_sp, pu_ss, pu_snq, pu_neq, eq_self, and_true, true_and, and_false, false_and, or_true, true_or, or_false, false_or, not_true_eq_false, not_false_eq_true, h5, q0, q00, q2, hdv1, hdv2, e3, e4]
    · obtain ⟨M3, e3, f3, g3, k3⟩ := c_planR (k := cs9 L P (D s) x) (a := fr9 L P (D s 0 x)) (ln := ln9 L P (D s) x) (L := L) (c := nI (D s 2 x)) (G := G) h9x (by omega) (by omega) hL hGx
      rw [show fr9 L P (D s 0 x) + ln9 L P (D s) x = fr9 L P (D s 0 x + 1) by omega] at e3
      obtain ⟨s', e4, M4, h4⟩ := hend M3 f3 g3 (fun e he => by
        have := k3 e he
        unfold ps9 sd9'
        rw [if_neg c, if_neg c]
        exact this)
      refine ⟨s', ?_, M4, h4⟩
      simp only [gX1_run_L22]
      simp (disch := omega) only [Option.bind_some, if_true, if_false, Sum.elim_inl, Sum.elim_inr, li0, li1, li2, li3, li4, li5, li6, li7, li8, li9, li10, li12, li16, li20, li24, li25, li31, li32, li40, li41, li42, li48, li57, li59, li97, li104, li105, li124, li126, li240, li241, nI_add, nI_subc, nI_subm, nI_mulc, nI_nm, pu_r, pu_t, pu_a, pu_le_t, pu_le_f, pu_lt_t, pu_lt_f, pu_eq_t, pu_eq_f, nm_eq, nm_eq2, nm_lt, nm_lt2, nm_le, nm_le2, nm_ss, nm_sp, pu_ss, pu_snq, pu_neq, eq_self, and_true, true_and, and_false, false_and, or_true, true_or, or_false, false_or, not_true_eq_false, not_false_eq_true, h5, q0, q00, q2, hdv1, hdv2, e3, e4]) (fun st hst => by
    obtain ⟨Mx, rfl, hf, h9x, hI⟩ := hst
    have hsx := hM.fr hf (by omega) (by omega) (fun k => by omega) (fun k => by omega) (fun k => by omega)
    refine ⟨Mx, ?_, hf, by rw [← hcP]; exact h9x, hI⟩
    simp only [gX1_run_L22]
    simp (disch := omega) only [Option.bind_some, if_true, if_false, Sum.elim_inl, Sum.elim_inr, li0, li1, li2, li3, li4, li5, li6, li7, li8, li9, li10, li12, li16, li20, li24, li25, li31, li32, li40, li41, li42, li48, li57, li59, li97, li104, li105, li124, li126, li240, li241, nI_add, nI_subc, nI_subm, nI_mulc, nI_nm, pu_r, pu_t, pu_a, pu_le_t, pu_le_f, pu_lt_t, pu_lt_f, pu_eq_t, pu_eq_f, nm_eq, nm_eq2, nm_lt, nm_lt2, nm_le, nm_le2, nm_ss, nm_sp, pu_ss, pu_snq, pu_neq, eq_self, and_true, true_and, and_false, false_and, or_true, true_or, or_false, false_or, not_true_eq_false, not_false_eq_true, hsx.2.1]) (s0 := (nI 0, M)) ⟨M, rfl, fr.rf, h9, fun i e hi => absurd hi (Nat.not_lt_zero _)⟩
  exact ⟨r, e, hr⟩
