/-! ===== a search's plan, the reference ===== -/
def eR (L P : Nat) (d : Nat → Nat → Nat) (i e : Nat) (M : me_M) : Prop := M.1 83 (cs9 L P d i + e) = nI (ps9 L P d i e) ∧ M.1 84 (cs9 L P d i + e) = nI (sd9' d i) ∧ M.1 85 (cs9 L P d i + e) = nI i ∧ M.1 86 (cs9 L P d i + e) = nI (if e + 1 = ln9 L P d i then 1 else 0)
theorem min_left {P : Nat} {d : Nat → Nat → Nat} {i a : Nat} (h : okd P d) (hi1 : 1 ≤ i) (hi : i < P) (h1 : ∀ j, j < i → a ≤ d 0 j) (h2 : ∃ j, j < i ∧ d 0 j = a) : d 0 i < a ↔ d 0 i < d 0 0 := by
  obtain ⟨a', b', a1, a2, a3, a4, a5, a6, -⟩ := itv_ok (L := 0) h i hi1 (by omega)
  have ha0 := h1 0 (by omega)
  refine ⟨fun z => by omega, fun z => ?_⟩
  rcases Nat.lt_or_ge (d 0 i) a with y | y
  · exact y
  · exfalso
    obtain ⟨j, j1, j2⟩ := h2
    have hj := a5 j j1
    obtain ⟨q, q1, q2⟩ := a6 (d 0 i) (by omega) (by omega)
    exact h.2.1 q i q1 hi q2
theorem r_turn {L P k i : Nat} {d : Nat → Nat → Nat} {p0 x3 v1 x5 : Int32} {M : me_M} (hP1 : 1 ≤ P) (hL : L ≤ 24) (hk : k + ln9 L P d i ≤ 24) (hb : fr9 L P (d 0 i + 1) ≤ L) : ∃ M', me_l (mX12_laysTurns_63_L85 p0 x3 v1 x5 (nI i) (nI (d 0 i)) (nI (fr9 L P (d 0 i))) (nI (fr9 L P (d 0 i + 1))) (bI (decide (d 0 i < d 0 0)))) me_fu (nI k, nI 0, M) = some (nI (k + ln9 L P d i), M') ∧ fr (fun b j => (83 ≤ b ∧ b ≤ 86) ∧ k ≤ j) M M' ∧ ∀ e, e < ln9 L P d i → M'.1 83 (k + e) = nI (ps9 L P d i e) ∧ M'.1 84 (k + e) = nI (sd9' d i) ∧ M'.1 85 (k + e) = nI i ∧ M'.1 86 (k + e) = nI (if e + 1 = ln9 L P d i then 1 else 0) := by
  have hm : fr9 L P (d 0 i) ≤ fr9 L P (d 0 i + 1) := fr9_m (by omega)
  have hln : ln9 L P d i = fr9 L P (d 0 i + 1) - fr9 L P (d 0 i) := rfl
  obtain ⟨r, e, M', rfl, h1, h2⟩ := lp_up (b := mX12_laysTurns_63_L85 p0 x3 v1 x5 (nI i) (nI (d 0 i)) (nI (fr9 L P (d 0 i))) (nI (fr9 L P (d 0 i + 1))) (bI (decide (d 0 i < d 0 0)))) (fun x st => ∃ Mx, st = (nI (k + x), nI x, Mx) ∧ fr (fun b j => (83 ≤ b ∧ b ≤ 86) ∧ k ≤ j) M Mx ∧ ∀ e, e < x → Mx.1 83 (k + e) = nI (ps9 L P d i e) ∧ Mx.1 84 (k + e) = nI (sd9' d i) ∧ Mx.1 85 (k + e) = nI i ∧ Mx.1 86 (k + e) = nI (if e + 1 = ln9 L P d i then 1 else 0)) (fun r => ∃ Mx, r = (nI (k + ln9 L P d i), Mx) ∧ fr (fun b j => (83 ≤ b ∧ b ≤ 86) ∧ k ≤ j) M Mx ∧ ∀ e, e < ln9 L P d i → Mx.1 83 (k + e) = nI (ps9 L P d i e) ∧ Mx.1 84 (k + e) = nI (sd9' d i) ∧ Mx.1 85 (k + e) = nI i ∧ Mx.1 86 (k + e) = nI (if e + 1 = ln9 L P d i then 1 else 0)) (a := 0) (N := ln9 L P d i) (by omega) (by omega) (fun x st _ hx hst => by
    obtain ⟨Mx, rfl, hf, hI⟩ := hst
    left
    refine ⟨(nI (k + (x + 1)), nI (x + 1), me_s (me_s (me_s (me_s Mx 83 (k + x) (nI (ps9 L P d i x))) 84 (k + x) (nI (sd9' d i))) 85 (k + x) (nI i)) 86 (k + x) (nI (if x + 1 = ln9 L P d i then 1 else 0))), ?_, _, rfl, (((hf.st (by omega)).st (by omega)).st (by omega)).st (by omega), fun e he => ?_⟩
    · simp only [mX12_laysTurns_63_L85, mX12_laysTurns_63_J120, mX12_laysTurns_63_J136, mX12_laysTurns_63_J167]
      unfold ps9 sd9'
      by_cases c : d 0 i < d 0 0
      · by_cases y : x + 1 = ln9 L P d i
        · simp (disch := omega) only [Option.bind_some, if_true, if_false, Sum.elim_inl, Sum.elim_inr, li0, li1, li2, li3, li4, li5, li6, li7, li8, li9, li10, li12, li16, li20, li24, li25, li31, li32, li40, li41, li42, li48, li57, li59, li97, li104, li105, li124, li126, li240, li241, nI_add, nI_subc, nI_subm, nI_mulc, nI_nm, pu_r, pu_t, pu_a, pu_le_t, pu_le_f, pu_lt_t, pu_lt_f, pu_eq_t, pu_eq_f, nm_eq, nm_eq2, nm_lt, nm_lt2, nm_le, nm_le2, nm_ss, nm_sp, pu_ss, pu_snq, pu_neq, eq_self, and_true, true_and, and_false, false_and, or_true, true_or, or_false, false_or, not_true_eq_false, not_false_eq_true, decide_eq_true c, bI_t, if_pos c, if_pos y, show k + x + 1 = k + (x + 1) by omega]
        · simp (disch := omega) only [Option.bind_some, if_true, if_false, Sum.elim_inl, Sum.elim_inr, li0, li1, li2, li3, li4, li5, li6, li7, li8, li9, li10, li12, li16, li20, li24, li25, li31, li32, li40, li41, li42, li48, li57, li59, li97, li104, li105, li124, li126, li240, li241, nI_add, nI_subc, nI_subm, nI_mulc, nI_nm, pu_r, pu_t, pu_a, pu_le_t, pu_le_f, pu_lt_t, pu_lt_f, pu_eq_t, pu_eq_f, nm_eq, nm_eq2, nm_lt, nm_lt2, nm_le, nm_le2, nm_ss, nm_sp, pu_ss, pu_snq, pu_neq, eq_self, and_true, true_and, and_false, false_and, or_true, true_or, or_false, false_or, not_true_eq_false, not_false_eq_true, decide_eq_true c, bI_t, if_pos c, if_neg y, show k + x + 1 = k + (x + 1) by omega]
      · by_cases y : x + 1 = ln9 L P d i
        · simp (disch := omega) only [Option.bind_some, if_true, if_false, Sum.elim_inl, Sum.elim_inr, li0, li1, li2, li3, li4, li5, li6, li7, li8, li9, li10, li12, li16, li20, li24, li25, li31, li32, li40, li41, li42, li48, li57, li59, li97, li104, li105, li124, li126, li240, li241, nI_add, nI_subc, nI_subm, nI_mulc, nI_nm, pu_r, pu_t, pu_a, pu_le_t, pu_le_f, pu_lt_t, pu_lt_f, pu_eq_t, pu_eq_f, nm_eq, nm_eq2, nm_lt, nm_lt2, nm_le, nm_le2, nm_ss, nm_sp, pu_ss, pu_snq, pu_neq, eq_self, and_true, true_and, and_false, false_and, or_true, true_or, or_false, false_or, not_true_eq_false, not_false_eq_true, decide_eq_false c, bI_f, if_neg c, if_pos y, show k + x + 1 = k + (x + 1) by omega]
        · simp (disch := omega) only [Option.bind_some, if_true, if_false, Sum.elim_inl, Sum.elim_inr, li0, li1, li2, li3, li4, li5, li6, li7, li8, li9, li10, li12, li16, li20, li24, li25, li31, li32, li40, li41, li42, li48, li57, li59, li97, li104, li105, li124, li126, li240, li241, nI_add, nI_subc, nI_subm, nI_mulc, nI_nm, pu_r, pu_t, pu_a, pu_le_t, pu_le_f, pu_lt_t, pu_lt_f, pu_eq_t, pu_eq_f, nm_eq, nm_eq2, nm_lt, nm_lt2, nm_le, nm_le2, nm_ss, nm_sp, pu_ss, pu_snq, pu_neq, eq_self, and_true, true_and, and_false, false_and, or_true, true_or, or_false, false_or, not_true_eq_false, not_false_eq_true, decide_eq_false c, bI_f, if_neg c, if_neg y, show k + x + 1 = k + (x + 1) by omega]
    · by_cases z : e = x
      · subst z
        exact ⟨by simp (disch := omega) only [Option.bind_some, if_true, if_false, Sum.elim_inl, Sum.elim_inr, li0, li1, li2, li3, li4, li5, li6, li7, li8, li9, li10, li12, li16, li20, li24, li25, li31, li32, li40, li41, li42, li48, li57, li59, li97, li104, li105, li124, li126, li240, li241, nI_add, nI_subc, nI_subm, nI_mulc, nI_nm, pu_r, pu_t, pu_a, pu_le_t, pu_le_f, pu_lt_t, pu_lt_f, pu_eq_t, pu_eq_f, nm_eq, nm_eq2, nm_lt, nm_lt2, nm_le, nm_le2, nm_ss, nm_sp, pu_ss, pu_snq, pu_neq, eq_self, and_true, true_and, and_false, false_and, or_true, true_or, or_false, false_or, not_true_eq_false, not_false_eq_true], by simp (disch := omega) only [Option.bind_some, if_true, if_false, Sum.elim_inl, Sum.elim_inr, li0, li1, li2, li3, li4, li5, li6, li7, li8, li9, li10, li12, li16, li20, li24, li25, li31, li32, li40, li41, li42, li48, li57, li59, li97, li104, li105, li124, li126, li240, li241, nI_add, nI_subc, nI_subm, nI_mulc, nI_nm, pu_r, pu_t, pu_a, pu_le_t, pu_le_f, pu_lt_t, pu_lt_f, pu_eq_t, pu_eq_f, nm_eq, nm_eq2, nm_lt, nm_lt2, nm_le, nm_le2, nm_ss, nm_sp, pu_ss, pu_snq, pu_neq, eq_self, and_true, true_and, and_false, false_and, or_true, true_or, or_false, false_or, not_true_eq_false, not_false_eq_true], by simp (disch := omega) only [Option.bind_some, if_true, if_false, Sum.elim_inl, Sum.elim_inr, li0, li1, li2, li3, li4, li5, li6, li7, li8, li9, li10, li12, li16, li20, li24, li25, li31, li32, li40, li41, li42, li48, li57, li59, li97, li104, li105, li124, li126, li240, li241, nI_add, nI_subc, nI_subm, nI_mulc, nI_nm, pu_r, pu_t, pu_a, pu_le_t, pu_le_f, pu_lt_t, pu_lt_f, pu_eq_t, pu_eq_f, nm_eq, nm_eq2, nm_lt, nm_lt2, nm_le, nm_le2, nm_ss, nm_sp, pu_ss, pu_snq, pu_neq, eq_self, and_true, true_and, and_false, false_and, or_true, true_or, or_false, false_or, not_true_eq_false, not_false_eq_true], by simp (disch := omega) only [Option.bind_some, if_true, if_false, Sum.elim_inl, Sum.elim_inr, li0, li1, li2, li3, li4, li5, li6, li7, li8, li9, li10, li12, li16, li20, li24, li25, li31, li32, li40, li41, li42, li48, li57, li59, li97, li104, li105, li124, li126, li240, li241, nI_add, nI_subc, nI_subm, nI_mulc, nI_nm, pu_r, pu_t, pu_a, pu_le_t, pu_le_f, pu_lt_t, pu_lt_f, pu_eq_t, pu_eq_f, nm_eq, nm_eq2, nm_lt, nm_lt2, nm_le, nm_le2, nm_ss, nm_sp, pu_ss, pu_snq, pu_neq, eq_self, and_true, true_and, and_false, false_and, or_true, true_or, or_false, false_or, not_true_eq_false, not_false_eq_true]⟩
      · have := hI e (by omega)
        simp (disch := omega) only [Option.bind_some, if_true, if_false, Sum.elim_inl, Sum.elim_inr, li0, li1, li2, li3, li4, li5, li6, li7, li8, li9, li10, li12, li16, li20, li24, li25, li31, li32, li40, li41, li42, li48, li57, li59, li97, li104, li105, li124, li126, li240, li241, nI_add, nI_subc, nI_subm, nI_mulc, nI_nm, pu_r, pu_t, pu_a, pu_le_t, pu_le_f, pu_lt_t, pu_lt_f, pu_eq_t, pu_eq_f, nm_eq, nm_eq2, nm_lt, nm_lt2, nm_le, nm_le2, nm_ss, nm_sp, pu_ss, pu_snq, pu_neq, eq_self, and_true, true_and, and_false, false_and, or_true, true_or, or_false, false_or, not_true_eq_false, not_false_eq_true]
        exact this) (fun st hst => by
    obtain ⟨Mx, rfl, hf, hI⟩ := hst
    refine ⟨_, ?_, Mx, rfl, hf, hI⟩
    simp only [mX12_laysTurns_63_L85]
    simp (disch := omega) only [Option.bind_some, if_true, if_false, Sum.elim_inl, Sum.elim_inr, li0, li1, li2, li3, li4, li5, li6, li7, li8, li9, li10, li12, li16, li20, li24, li25, li31, li32, li40, li41, li42, li48, li57, li59, li97, li104, li105, li124, li126, li240, li241, nI_add, nI_subc, nI_subm, nI_mulc, nI_nm, pu_r, pu_t, pu_a, pu_le_t, pu_le_f, pu_lt_t, pu_lt_f, pu_eq_t, pu_eq_f, nm_eq, nm_eq2, nm_lt, nm_lt2, nm_le, nm_le2, nm_ss, nm_sp, pu_ss, pu_snq, pu_neq, eq_self, and_true, true_and, and_false, false_and, or_true, true_or, or_false, false_or, not_true_eq_false, not_false_eq_true]) (s0 := (nI k, nI 0, M)) ⟨M, rfl, fr.rf, fun e he => absurd he (Nat.not_lt_zero _)⟩
  exact ⟨M', e, h1, h2⟩
theorem r_plan {S P s L : Nat} {D : Nat → Nat → Nat → Nat} {M : me_M} (hv : rS S P D M) (hs : s < S) (hL1 : P ≤ L) (hL : L ≤ 24) (h20 : M.1 63 20 = nI L) : ∃ M', mX12_laysTurns_63 M (nI s) = some M' ∧ fr (fun b _ => 83 ≤ b ∧ b ≤ 86) M M' ∧ ∀ i e, i < P → e < ln9 L P (D s) i → eR L P (D s) i e M' := by
  have hS := hv.1
  have hP1 := hv.2.1
  have hP5 := hv.2.2.1
  have hok := hv.2.2.2.1 s hs
  have hcP := cs9_P (L := L) hok hP1
  obtain ⟨r, e, hr⟩ := lp_up (b := mX12_laysTurns_63_L21 (nI s) (nI L) (nI P)) (fun x st => ∃ Mx q, st = (nI (cs9 L P (D s) x), q, nI x, Mx) ∧ fr (fun b _ => 83 ≤ b ∧ b ≤ 86) M Mx ∧ (x ≠ 0 → ∃ a, q = nI a ∧ (∀ j, j < x → a ≤ D s 0 j) ∧ ∃ j, j < x ∧ D s 0 j = a) ∧ ∀ i e, i < x → e < ln9 L P (D s) i → eR L P (D s) i e Mx) (fun r => fr (fun b _ => 83 ≤ b ∧ b ≤ 86) M r ∧ ∀ i e, i < P → e < ln9 L P (D s) i → eR L P (D s) i e r) (a := 0) (N := P) (by omega) (by omega) (fun x st _ hx hst => by
    obtain ⟨Mx, q, rfl, hf, hq, hI⟩ := hst
    left
    have hvx := hv.fr hf (by omega) (by omega) (fun b k _ _ => by omega)
    have q0 := hvx.2.2.2.2.2.2 s 0 x hs (by omega) hx
    have o1 := hok.1 x hx
    have hcx : cs9 L P (D s) (x + 1) ≤ cs9 L P (D s) P := cs9_m (by omega)
    have hcs : cs9 L P (D s) (x + 1) = cs9 L P (D s) x + ln9 L P (D s) x := cs9_s
    have hf2 : fr9 L P (D s 0 x + 1) ≤ fr9 L P P := fr9_m (by omega)
    rw [fr9_P hP1] at hf2
    have hdv1 : me_dv (nI (D s 0 x * L)) (nI P) = some (nI (fr9 L P (D s 0 x))) := pu_dv (by have : D s 0 x * L ≤ 5 * 24 := Nat.mul_le_mul (by omega) hL; omega) (by omega) (by omega)
    have hdv2 : me_dv (nI ((D s 0 x + 1) * L)) (nI P) = some (nI (fr9 L P (D s 0 x + 1))) := pu_dv (by have : (D s 0 x + 1) * L ≤ 6 * 24 := Nat.mul_le_mul (by omega) hL; omega) (by omega) (by omega)
    obtain ⟨M7, e7, f7, g7⟩ := r_turn (L := L) (P := P) (k := cs9 L P (D s) x) (i := x) (d := D s) (p0 := nI s) (x3 := nI L) (v1 := nI P) (x5 := q) (M := Mx) hP1 hL (by omega) hf2
    have hI7 : ∀ i e, i < x + 1 → e < ln9 L P (D s) i → eR L P (D s) i e M7 := fun i e hi he => by
      by_cases z : i = x
      · subst z; exact g7 e he
      · have hib : cs9 L P (D s) i + e < cs9 L P (D s) x := by
          have h1 : cs9 L P (D s) (i + 1) ≤ cs9 L P (D s) x := cs9_m (by omega)
          rw [cs9_s] at h1
          omega
        unfold eR
        rw [f7.2 83 _ (by omega), f7.2 84 _ (by omega), f7.2 85 _ (by omega), f7.2 86 _ (by omega)]
        exact hI i e (by omega) he
    have hf7 := hf.tr (f7.up (fun b k h => by omega) : fr (fun b _ => 83 ≤ b ∧ b ≤ 86) Mx M7)
    by_cases z : x = 0
    · subst z
      rw [decide_eq_false (Nat.lt_irrefl _), bI_f] at e7
      refine ⟨(nI (cs9 L P (D s) 1), nI (D s 0 0), nI 1, M7), ?_, M7, nI (D s 0 0), rfl, hf7, fun _ => ⟨D s 0 0, rfl, fun j hj => by rw [show j = 0 by omega]; exact Nat.le_refl _, 0, by omega, rfl⟩, hI7⟩
      simp only [mX12_laysTurns_63_L21, mX12_laysTurns_63_J79, mX12_laysTurns_63_J80, mX12_laysTurns_63_J187, mX12_laysTurns_63_J194]
      simp (disch := omega) only [Option.bind_some, if_true, if_false, Sum.elim_inl, Sum.elim_inr, li0, li1, li2, li3, li4, li5, li6, li7, li8, li9, li10, li12, li16, li20, li24, li25, li31, li32, li40, li41, li42, li48, li57, li59, li97, li104, li105, li124, li126, li240, li241, nI_add, nI_subc, nI_subm, nI_mulc, nI_nm, pu_r, pu_t, pu_a, pu_le_t, pu_le_f, pu_lt_t, pu_lt_f, pu_eq_t, pu_eq_f, nm_eq, nm_eq2, nm_lt, nm_lt2, nm_le, nm_le2, nm_ss, nm_sp, pu_ss, pu_snq, pu_neq, eq_self, and_true, true_and, and_false, false_and, or_true, true_or, or_false, false_or, not_true_eq_false, not_false_eq_true, Nat.add_sub_cancel_left, q0, hdv1, hdv2, e7, hcs]
    · obtain ⟨a, rfl, ha1, ha2⟩ := hq z
      have hml := min_left hok (show 1 ≤ x by omega) hx ha1 ha2
      have hab : a < 5 := by obtain ⟨j, j1, j2⟩ := ha2; have := hok.1 j (by omega); omega
      by_cases c : D s 0 x < D s 0 0
      · have ca := hml.mpr c
        rw [decide_eq_true c, bI_t] at e7
        refine ⟨(nI (cs9 L P (D s) (x + 1)), nI (D s 0 x), nI (x + 1), M7), ?_, M7, nI (D s 0 x), rfl, hf7, fun _ => ⟨D s 0 x, rfl, fun j hj => ?_, x, by omega, rfl⟩, hI7⟩
        · simp only [mX12_laysTurns_63_L21, mX12_laysTurns_63_J79, mX12_laysTurns_63_J80, mX12_laysTurns_63_J187, mX12_laysTurns_63_J194]
          simp (disch := omega) only [Option.bind_some, if_true, if_false, Sum.elim_inl, Sum.elim_inr, li0, li1, li2, li3, li4, li5, li6, li7, li8, li9, li10, li12, li16, li20, li24, li25, li31, li32, li40, li41, li42, li48, li57, li59, li97, li104, li105, li124, li126, li240, li241, nI_add, nI_subc, nI_subm, nI_mulc, nI_nm, pu_r, pu_t, pu_a, pu_le_t, pu_le_f, pu_lt_t, pu_lt_f, pu_eq_t, pu_eq_f, nm_eq, nm_eq2, nm_lt, nm_lt2, nm_le, nm_le2, nm_ss, nm_sp, pu_ss, pu_snq, pu_neq, eq_self, and_true, true_and, and_false, false_and, or_true, true_or, or_false, false_or, not_true_eq_false, not_false_eq_true, Nat.add_sub_cancel_left, q0, hdv1, hdv2, e7, hcs]
        · by_cases y : j = x
          · rw [y]; exact Nat.le_refl _
          · have := ha1 j (by omega); omega
      · have ca : ¬ D s 0 x < a := fun y => c (hml.mp y)
        rw [decide_eq_false c, bI_f] at e7
        refine ⟨(nI (cs9 L P (D s) (x + 1)), nI a, nI (x + 1), M7), ?_, M7, nI a, rfl, hf7, fun _ => ⟨a, rfl, fun j hj => ?_, ?_⟩, hI7⟩
        · simp only [mX12_laysTurns_63_L21, mX12_laysTurns_63_J79, mX12_laysTurns_63_J80, mX12_laysTurns_63_J187, mX12_laysTurns_63_J194]
          simp (disch := omega) only [Option.bind_some, if_true, if_false, Sum.elim_inl, Sum.elim_inr, li0, li1, li2, li3, li4, li5, li6, li7, li8, li9, li10, li12, li16, li20, li24, li25, li31, li32, li40, li41, li42, li48, li57, li59, li97, li104, li105, li124, li126, li240, li241, nI_add, nI_subc, nI_subm, nI_mulc, nI_nm, pu_r, pu_t, pu_a, pu_le_t, pu_le_f, pu_lt_t, pu_lt_f, pu_eq_t, pu_eq_f, nm_eq, nm_eq2, nm_lt, nm_lt2, nm_le, nm_le2, nm_ss, nm_sp, pu_ss, pu_snq, pu_neq, eq_self, and_true, true_and, and_false, false_and, or_true, true_or, or_false, false_or, not_true_eq_false, not_false_eq_true, Nat.add_sub_cancel_left, q0, hdv1, hdv2, e7, hcs]
        · by_cases y : j = x
          · rw [y]; omega
          · exact ha1 j (by omega)
        · obtain ⟨j, j1, j2⟩ := ha2
          exact ⟨j, by omega, j2⟩) (fun st hst => by
    obtain ⟨Mx, q, rfl, hf, hq, hI⟩ := hst
    refine ⟨Mx, ?_, hf, hI⟩
    simp only [mX12_laysTurns_63_L21]
    simp (disch := omega) only [Option.bind_some, if_true, if_false, Sum.elim_inl, Sum.elim_inr, li0, li1, li2, li3, li4, li5, li6, li7, li8, li9, li10, li12, li16, li20, li24, li25, li31, li32, li40, li41, li42, li48, li57, li59, li97, li104, li105, li124, li126, li240, li241, nI_add, nI_subc, nI_subm, nI_mulc, nI_nm, pu_r, pu_t, pu_a, pu_le_t, pu_le_f, pu_lt_t, pu_lt_f, pu_eq_t, pu_eq_f, nm_eq, nm_eq2, nm_lt, nm_lt2, nm_le, nm_le2, nm_ss, nm_sp, pu_ss, pu_snq, pu_neq, eq_self, and_true, true_and, and_false, false_and, or_true, true_or, or_false, false_or, not_true_eq_false, not_false_eq_true]) (s0 := (nI 0, -nI 1, nI 0, M)) ⟨M, -nI 1, rfl, fr.rf, fun z => absurd rfl z, fun i e hi => absurd hi (Nat.not_lt_zero _)⟩
  refine ⟨r, ?_, hr⟩
  unfold mX12_laysTurns_63 mX12_laysTurns_63_K21
  simp (disch := omega) only [Option.bind_some, if_true, if_false, Sum.elim_inl, Sum.elim_inr, li0, li1, li2, li3, li4, li5, li6, li7, li8, li9, li10, li12, li16, li20, li24, li25, li31, li32, li40, li41, li42, li48, li57, li59, li97, li104, li105, li124, li126, li240, li241, nI_add, nI_subc, nI_subm, nI_mulc, nI_nm, pu_r, pu_t, pu_a, pu_le_t, pu_le_f, pu_lt_t, pu_lt_f, pu_eq_t, pu_eq_f, nm_eq, nm_eq2, nm_lt, nm_lt2, nm_le, nm_le2, nm_ss, nm_sp, pu_ss, pu_snq, pu_neq, eq_self, and_true, true_and, and_false, false_and, or_true, true_or, or_false, false_or, not_true_eq_false, not_false_eq_true, hv.2.2.2.2.2.1, h20, e]
