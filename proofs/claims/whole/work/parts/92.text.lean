/-! ===== call: text ===== -/
/-- the tape's bytes as a text -/
def tT (F : Nat → Nat) (so : Nat) : Nat → Nat := fun i => if i < so then (if F i = 124 then 1 else F i - 95) else 0
theorem tT_in {F : Nat → Nat} {so i : Nat} (h : i < so) : tT F so i = if F i = 124 then 1 else F i - 95 := if_pos h
theorem tT_9 {F : Nat → Nat} {so : Nat} (h1 : 1 ≤ so) (h2 : so ≤ 240) (h : ∀ k, k < so → tk F so k = true) : tx9 (tT F so) so := by
  have hk : ∀ i, i < so → 0 < (if F i = 124 then 1 else F i - 95) ∧ (if F i = 124 then 1 else F i - 95) < 10 := fun i hi => by
    have := of_decide_eq_true (h i hi)
    by_cases c : F i = 124
    · rw [if_pos c]; omega
    · rw [if_neg c]; omega
  refine ⟨⟨if_neg (Nat.lt_irrefl _), fun i hi => ?_⟩, fun i => ?_, h1, h2⟩
  · rw [tT_in hi]; exact (hk i hi).1
  · by_cases c : i < so
    · rw [tT_in c]; exact (hk i c).2
    · rw [show tT F so i = 0 from if_neg c]; omega
theorem c_take {t so : Nat} {F : Nat → Nat} {M : me_M} (h : vP t F M) (hs : so ≤ t) (hk : ∀ k, k < so → tk F so k = true) : ∃ M', mX10_take_3_1 M (nI so) = some M' ∧ fr (fun b k => b = 4 ∨ (b = 3 ∧ k = 5)) M M' ∧ rw_at 3 4 (tT F so) so M' := by
  obtain ⟨h1, h2, h3, h4⟩ := h
  obtain ⟨r, e, hr⟩ := lp_up (b := mX10_take_3_1_L2 (nI so)) (fun x s => ∃ Mx, s = (nI x, Mx) ∧ fr (fun b _ => b = 4) M Mx ∧ ∀ k, k < x → Mx.1 4 k = nI (tT F so k)) (fun r => fr (fun b _ => b = 4) M r ∧ ∀ k, k < so → r.1 4 k = nI (tT F so k)) (a := 0) (N := so) (by omega) (by omega) (fun x s _ hx hs => by
    obtain ⟨Mx, rfl, hf, hI⟩ := hs
    left
    obtain ⟨f1, f2, -⟩ := h4 x (by omega)
    have f3 : Mx.1 2 x = nI (F x) := by rw [hf.2 _ _ (by omega)]; exact f2
    have hkx := of_decide_eq_true (hk x hx)
    refine ⟨(nI (x + 1), me_s Mx 4 x (nI (tT F so x))), ?_, _, rfl, hf.st (by omega), fun k hk9 => ?_⟩
    · simp only [mX10_take_3_1_L2, mX10_take_3_1_J38]
      rw [tT_in hx]
      by_cases c : F x = 124
      · simp (disch := omega) only [Option.bind_some, if_true, if_false, Sum.elim_inl, Sum.elim_inr, li0, li1, li2, li3, li4, li5, li6, li7, li8, li9, li10, li12, li16, li20, li24, li25, li31, li32, li40, li41, li42, li48, li57, li59, li97, li104, li105, li124, li126, li240, li241, nI_add, nI_subc, nI_subm, nI_mulc, nI_nm, pu_r, pu_t, pu_a, pu_le_t, pu_le_f, pu_lt_t, pu_lt_f, pu_eq_t, pu_eq_f, nm_eq, nm_eq2, nm_lt, nm_lt2, nm_le, nm_le2, nm_ss, nm_sp, pu_ss, pu_snq, pu_neq, eq_self, and_true, true_and, and_false, false_and, or_true, true_or, or_false, false_or, not_true_eq_false, not_false_eq_true, f3, c]
      · simp (disch := omega) only [Option.bind_some, if_true, if_false, Sum.elim_inl, Sum.elim_inr, li0, li1, li2, li3, li4, li5, li6, li7, li8, li9, li10, li12, li16, li20, li24, li25, li31, li32, li40, li41, li42, li48, li57, li59, li97, li104, li105, li124, li126, li240, li241, nI_add, nI_subc, nI_subm, nI_mulc, nI_nm, pu_r, pu_t, pu_a, pu_le_t, pu_le_f, pu_lt_t, pu_lt_f, pu_eq_t, pu_eq_f, nm_eq, nm_eq2, nm_lt, nm_lt2, nm_le, nm_le2, nm_ss, nm_sp, pu_ss, pu_snq, pu_neq, eq_self, and_true, true_and, and_false, false_and, or_true, true_or, or_false, false_or, not_true_eq_false, not_false_eq_true, f3, if_neg c, show F x - 97 + 2 = F x - 95 by omega]
    · by_cases c : k = x
      · rw [c, pu_ss]
      · rw [pu_sn c]; exact hI k (by omega)) (fun s hs => by
    obtain ⟨Mx, rfl, hf, hI⟩ := hs
    refine ⟨Mx, ?_, hf, hI⟩
    simp only [mX10_take_3_1_L2]
    simp (disch := omega) only [Option.bind_some, if_true, if_false, Sum.elim_inl, Sum.elim_inr, li0, li1, li2, li3, li4, li5, li6, li7, li8, li9, li10, li12, li16, li20, li24, li25, li31, li32, li40, li41, li42, li48, li57, li59, li97, li104, li105, li124, li126, li240, li241, nI_add, nI_subc, nI_subm, nI_mulc, nI_nm, pu_r, pu_t, pu_a, pu_le_t, pu_le_f, pu_lt_t, pu_lt_f, pu_eq_t, pu_eq_f, nm_eq, nm_eq2, nm_lt, nm_lt2, nm_le, nm_le2, nm_ss, nm_sp, pu_ss, pu_snq, pu_neq, eq_self, and_true, true_and, and_false, false_and, or_true, true_or, or_false, false_or, not_true_eq_false, not_false_eq_true]) (s0 := (nI 0, M)) ⟨M, rfl, fr.rf, fun k hk => absurd hk (Nat.not_lt_zero _)⟩
  refine ⟨me_s (me_s r 4 so (nI 0)) 3 5 (nI so), ?_, ((hr.1.up (fun b k h => by omega)).st (by omega)).st (by omega), pu_ss, fun i hi => ?_⟩
  · unfold mX10_take_3_1
    simp (disch := omega) only [Option.bind_some, if_true, if_false, Sum.elim_inl, Sum.elim_inr, li0, li1, li2, li3, li4, li5, li6, li7, li8, li9, li10, li12, li16, li20, li24, li25, li31, li32, li40, li41, li42, li48, li57, li59, li97, li104, li105, li124, li126, li240, li241, nI_add, nI_subc, nI_subm, nI_mulc, nI_nm, pu_r, pu_t, pu_a, pu_le_t, pu_le_f, pu_lt_t, pu_lt_f, pu_eq_t, pu_eq_f, nm_eq, nm_eq2, nm_lt, nm_lt2, nm_le, nm_le2, nm_ss, nm_sp, pu_ss, pu_snq, pu_neq, eq_self, and_true, true_and, and_false, false_and, or_true, true_or, or_false, false_or, not_true_eq_false, not_false_eq_true, e]
  · rw [me_s_ne (by decide)]
    by_cases c : i = so
    · rw [c, pu_ss, show tT F so so = 0 from if_neg (Nat.lt_irrefl _)]
    · rw [pu_sn c]; exact hr.2 i (by omega)
theorem c_index {T : Nat → Nat} {n : Nat} {M : me_M} (hT : tx9 T n) (hM : rw_at 3 4 T n M) (hz1 : ∀ c, c < 8 → M.1 13 c = 0) (hz2 : ∀ c, c < 8 → M.1 18 c = 0) : ∃ M', mX11_index_0 M = some M' ∧ fr (fun b k => (b = 3 ∧ (k = 6 ∨ k = 7)) ∨ (5 ≤ b ∧ b ≤ 18) ∨ (b = 19 ∧ (k = 3 ∨ k = 4)) ∨ (21 ≤ b ∧ b ≤ 23) ∨ (b = 26 ∧ k = 5) ∨ (27 ≤ b ∧ b ≤ 29)) M M' ∧ cx T n M' ∧ mls T n M' ∧ ∀ W X, cu T n 0 W X M' := by
  obtain ⟨M3, e3, f3, g3⟩ := g_index0 hT hM hz1 hz2
  obtain ⟨M4, e4, f4, g4⟩ := c_listMax hT g3
  have g34 : cx T n M4 := g3.fr f4 (fun b k _ _ => by omega)
  obtain ⟨M5, e5, f5, g5⟩ := c_empty (T := T) hT.2.2.2 g34.2.1.1.1
  have e : mX11_index_0 M = (((mX10_survey_3 M).bind fun M1 => ((mX4_arrange_9 M1 (M1.1 3 5)).bind fun M2 => mX4_arrange_14 M2 (M2.1 3 5))).bind fun M3 => ((mX2_listMaximals_26 M3).bind fun M4 => ((mX0_empty_19 M4).bind fun M5 => some M5))) := by
    unfold mX11_index_0
    simp only [Option.bind_assoc]
  refine ⟨M5, ?_, (f3.up (fun b k h => by omega)).tr ((f4.up (fun b k h => by omega)).tr (f5.up (fun b k h => by omega))), g34.fr f5 (fun b k _ _ => by omega), g4.fr f5 (fun b k _ _ => by omega), g5⟩
  rw [e, e3, Option.bind_some, e4, Option.bind_some, e5, Option.bind_some]
theorem rw_sm0 {sm n : Nat} {T : Nat → Nat} {M : me_M} (h : rw_sm sm T n M) : ∀ c, c < 8 → M.1 sm c = 0 := fun c hc => by
  have := h 0 c (by omega) hc
  rw [show 0 * 8 + c = c by omega, show sc T n 0 (c + 2) = 0 from rfl, nI_0] at this
  exact this
theorem r_takeT {t so : Nat} {F : Nat → Nat} {M : me_M} (ht : t ≤ 240) (h4 : ∀ i, i < t → F i < 256 ∧ M.1 65 i = nI (F i)) (hs : so ≤ t) (h5 : M.1 63 5 = nI so) (hk : ∀ k, k < so → tk F so k = true) : ∃ M', me_l mX12_text_63_L60 me_fu (nI 0, M) = some M' ∧ fr (fun b _ => b = 67) M M' ∧ ∀ k, k < so → M'.1 67 k = nI (tT F so k) := by
  obtain ⟨r, e, hr⟩ := lp_up (b := mX12_text_63_L60) (fun x s => ∃ Mx, s = (nI x, Mx) ∧ fr (fun b _ => b = 67) M Mx ∧ ∀ k, k < x → Mx.1 67 k = nI (tT F so k)) (fun r => fr (fun b _ => b = 67) M r ∧ ∀ k, k < so → r.1 67 k = nI (tT F so k)) (a := 0) (N := so) (by omega) (by omega) (fun x s _ hx hs => by
    obtain ⟨Mx, rfl, hf, hI⟩ := hs
    left
    obtain ⟨f1, f2⟩ := h4 x (by omega)
    have f3 : Mx.1 65 x = nI (F x) := by rw [hf.2 _ _ (by omega)]; exact f2
    have h5x : Mx.1 63 5 = nI so := by rw [hf.2 _ _ (by omega)]; exact h5
    have hkx := of_decide_eq_true (hk x hx)
    refine ⟨(nI (x + 1), me_s Mx 67 x (nI (tT F so x))), ?_, _, rfl, hf.st (by omega), fun k hk9 => ?_⟩
    · simp only [mX12_text_63_L60, mX12_text_63_J101]
      rw [tT_in hx]
      by_cases c : F x = 124
      · simp (disch := omega) only [Option.bind_some, if_true, if_false, Sum.elim_inl, Sum.elim_inr, li0, li1, li2, li3, li4, li5, li6, li7, li8, li9, li10, li12, li16, li20, li24, li25, li31, li32, li40, li41, li42, li48, li57, li59, li97, li104, li105, li124, li126, li240, li241, nI_add, nI_subc, nI_subm, nI_mulc, nI_nm, pu_r, pu_t, pu_a, pu_le_t, pu_le_f, pu_lt_t, pu_lt_f, pu_eq_t, pu_eq_f, nm_eq, nm_eq2, nm_lt, nm_lt2, nm_le, nm_le2, nm_ss, nm_sp, pu_ss, pu_snq, pu_neq, eq_self, and_true, true_and, and_false, false_and, or_true, true_or, or_false, false_or, not_true_eq_false, not_false_eq_true, h5x, f3, c]
      · simp (disch := omega) only [Option.bind_some, if_true, if_false, Sum.elim_inl, Sum.elim_inr, li0, li1, li2, li3, li4, li5, li6, li7, li8, li9, li10, li12, li16, li20, li24, li25, li31, li32, li40, li41, li42, li48, li57, li59, li97, li104, li105, li124, li126, li240, li241, nI_add, nI_subc, nI_subm, nI_mulc, nI_nm, pu_r, pu_t, pu_a, pu_le_t, pu_le_f, pu_lt_t, pu_lt_f, pu_eq_t, pu_eq_f, nm_eq, nm_eq2, nm_lt, nm_lt2, nm_le, nm_le2, nm_ss, nm_sp, pu_ss, pu_snq, pu_neq, eq_self, and_true, true_and, and_false, false_and, or_true, true_or, or_false, false_or, not_true_eq_false, not_false_eq_true, h5x, f3, if_neg c, show F x - 97 + 2 = F x - 95 by omega]
    · by_cases c : k = x
      · rw [c, pu_ss]
      · rw [pu_sn c]; exact hI k (by omega)) (fun s hs => by
    obtain ⟨Mx, rfl, hf, hI⟩ := hs
    have h5x : Mx.1 63 5 = nI so := by rw [hf.2 _ _ (by omega)]; exact h5
    refine ⟨Mx, ?_, hf, hI⟩
    simp only [mX12_text_63_L60]
    simp (disch := omega) only [Option.bind_some, if_true, if_false, Sum.elim_inl, Sum.elim_inr, li0, li1, li2, li3, li4, li5, li6, li7, li8, li9, li10, li12, li16, li20, li24, li25, li31, li32, li40, li41, li42, li48, li57, li59, li97, li104, li105, li124, li126, li240, li241, nI_add, nI_subc, nI_subm, nI_mulc, nI_nm, pu_r, pu_t, pu_a, pu_le_t, pu_le_f, pu_lt_t, pu_lt_f, pu_eq_t, pu_eq_f, nm_eq, nm_eq2, nm_lt, nm_lt2, nm_le, nm_le2, nm_ss, nm_sp, pu_ss, pu_snq, pu_neq, eq_self, and_true, true_and, and_false, false_and, or_true, true_or, or_false, false_or, not_true_eq_false, not_false_eq_true, h5x]) (s0 := (nI 0, M)) ⟨M, rfl, fr.rf, fun k hk => absurd hk (Nat.not_lt_zero _)⟩
  exact ⟨r, e, hr⟩
theorem wr_same {F : Nat → Nat} {so v w : Nat} (h1 : (v = 0 ∧ ∀ k, k < so → tk F so k = true) ∨ (0 < v ∧ v ≤ so ∧ tk F so (v - 1) = false ∧ ∀ k, k < v - 1 → tk F so k = true)) (h2 : (w = 0 ∧ ∀ k, k < so → tk F so k = true) ∨ (0 < w ∧ w ≤ so ∧ tk F so (w - 1) = false ∧ ∀ k, k < w - 1 → tk F so k = true)) : v = w := by
  rcases h1 with ⟨a, b⟩ | ⟨a1, a2, a3, a4⟩
  · rcases h2 with ⟨c, d⟩ | ⟨c1, c2, c3, c4⟩
    · omega
    · rw [b (w - 1) (by omega)] at c3; cases c3
  · rcases h2 with ⟨c, d⟩ | ⟨c1, c2, c3, c4⟩
    · rw [d (v - 1) (by omega)] at a3; cases a3
    · rcases Nat.lt_or_ge (v - 1) (w - 1) with z | z
      · rw [c4 _ z] at a3; cases a3
      · rcases Nat.lt_or_ge (w - 1) (v - 1) with y | y
        · rw [a4 _ y] at c3; cases c3
        · omega
theorem qr_text {T : Nat → Nat} {n m : Nat} {W X : Nat → Nat} {t : Nat} {F : Nat → Nat} {S P : Nat} {D : Nat → Nat → Nat → Nat} {M : me_M} (h : Inv M) (ha : vA T n m W X t F S P D M) (a0 : Int32) (hb0 : iB a0 (nI 1) (nI t) = true) : aQ (hL_text M a0) (fun M1 => mX12_text_63 M1 a0) := by
  have hvp := ha.2.2.1
  have ht := hvp.1
  have hp1 := hvp.2.1
  obtain ⟨so, s1, s2, rfl⟩ := iB_n hb0 (by omega) (by omega)
  obtain ⟨v, ev, hv⟩ := c_wrong hvp s2
  by_cases hv0 : v = 0
  · subst hv0
    rw [dn_0] at ev
    have hall : ∀ k, k < so → tk F so k = true := by
      rcases hv with ⟨_, b⟩ | ⟨a1, _⟩
      · exact b
      · omega
    have hT := tT_9 s1 (by omega) hall
    obtain ⟨Ma, ea, fa, ga⟩ := c_take hvp s2 hall
    obtain ⟨Mb, eb, fb, gb, kb, ub⟩ := c_index hT ga (fun c hc => by rw [fa.2 _ _ (by omega)]; exact rw_sm0 ha.1.2.1.2.1.2.2.2 c hc) (fun c hc => by rw [fa.2 _ _ (by omega)]; exact rw_sm0 ha.1.2.1.2.2.2.2.2 c hc)
    have fab : fr (fun b k => (3 ≤ b ∧ b ≤ 29) ∨ (b = 47 ∧ k = 4) ∨ (b = 30 ∧ k = 6) ∨ (b = 1 ∧ k = 1)) M (me_s (me_s (me_s Mb 47 4 (nI 0)) 30 6 (nI 0)) 1 1 (nI 0)) := ((((fa.up (fun b k h => by omega)).tr (fb.up (fun b k h => by omega))).st (by omega)).st (by omega)).st (by omega)
    have fbc : fr (fun b k => (b = 47 ∧ k = 4) ∨ (b = 30 ∧ k = 6) ∨ (b = 1 ∧ k = 1)) Mb (me_s (me_s (me_s Mb 47 4 (nI 0)) 30 6 (nI 0)) 1 1 (nI 0)) := ((fr.s (by omega)).st (by omega)).st (by omega)
    generalize hx : (nI 0).toInt64 = x
    generalize hMc : me_s (me_s (me_s Mb 47 4 (nI 0)) 30 6 (nI 0)) 1 1 (nI 0) = Mc at fab fbc
    have hc47 : Mc.1 47 4 = nI 0 := by rw [← hMc]; simp (disch := omega) only [Option.bind_some, if_true, if_false, Sum.elim_inl, Sum.elim_inr, li0, li1, li2, li3, li4, li5, li6, li7, li8, li9, li10, li12, li16, li20, li24, li25, li31, li32, li40, li41, li42, li48, li57, li59, li97, li104, li105, li124, li126, li240, li241, nI_add, nI_subc, nI_subm, nI_mulc, nI_nm, pu_r, pu_t, pu_a, pu_le_t, pu_le_f, pu_lt_t, pu_lt_f, pu_eq_t, pu_eq_f, nm_eq, nm_eq2, nm_lt, nm_lt2, nm_le, nm_le2, nm_ss, nm_sp, pu_ss, pu_snq, pu_neq, eq_self, and_true, true_and, and_false, false_and, or_true, true_or, or_false, false_or, not_true_eq_false, not_false_eq_true]
    have hc30 : Mc.1 30 6 = nI 0 := by rw [← hMc]; simp (disch := omega) only [Option.bind_some, if_true, if_false, Sum.elim_inl, Sum.elim_inr, li0, li1, li2, li3, li4, li5, li6, li7, li8, li9, li10, li12, li16, li20, li24, li25, li31, li32, li40, li41, li42, li48, li57, li59, li97, li104, li105, li124, li126, li240, li241, nI_add, nI_subc, nI_subm, nI_mulc, nI_nm, pu_r, pu_t, pu_a, pu_le_t, pu_le_f, pu_lt_t, pu_lt_f, pu_eq_t, pu_eq_f, nm_eq, nm_eq2, nm_lt, nm_lt2, nm_le, nm_le2, nm_ss, nm_sp, pu_ss, pu_snq, pu_neq, eq_self, and_true, true_and, and_false, false_and, or_true, true_or, or_false, false_or, not_true_eq_false, not_false_eq_true]
    have hc11 : Mc.1 1 1 = nI 0 := by rw [← hMc]; simp (disch := omega) only [Option.bind_some, if_true, if_false, Sum.elim_inl, Sum.elim_inr, li0, li1, li2, li3, li4, li5, li6, li7, li8, li9, li10, li12, li16, li20, li24, li25, li31, li32, li40, li41, li42, li48, li57, li59, li97, li104, li105, li124, li126, li240, li241, nI_add, nI_subc, nI_subm, nI_mulc, nI_nm, pu_r, pu_t, pu_a, pu_le_t, pu_le_f, pu_lt_t, pu_lt_f, pu_eq_t, pu_eq_f, nm_eq, nm_eq2, nm_lt, nm_lt2, nm_le, nm_le2, nm_ss, nm_sp, pu_ss, pu_snq, pu_neq, eq_self, and_true, true_and, and_false, false_and, or_true, true_or, or_false, false_or, not_true_eq_false, not_false_eq_true]
    have hab : vA T n m W X t F S P D (me_o M 0 x) := ha
    have hIb : Inv (me_o M 0 x) := h.o
    have hzf : fr (fun b k => (3 ≤ b ∧ b ≤ 29) ∨ (b = 47 ∧ k = 4) ∨ (b = 30 ∧ k = 6) ∨ (b = 1 ∧ k = 1) ∨ (b = 63 ∧ k = 0)) (me_o M 0 x) (me_s (me_o Mc 0 x) 63 0 (nI 0)) := (fab.o.up (fun b k h => by omega)).st (by omega)
    have e0 : (me_s (me_o Mc 0 x) 63 0 (nI 0)).1 63 0 = nI 0 := pu_ss
    have e2 : (me_s (me_o Mc 0 x) 63 0 (nI 0)).1 63 2 = nI t := by rw [hzf.2 _ _ (by omega)]; exact hvp.2.2.1
    have h65 : ∀ i, i < t → F i < 256 ∧ (me_s (me_s (me_o Mc 0 x) 63 0 (nI 0)) 63 2 (nI 0)).1 65 i = nI (F i) := fun i hi => ⟨(hvp.2.2.2 i hi).1, by rw [me_s_ne (by decide), hzf.2 _ _ (by omega)]; exact (hvp.2.2.2 i hi).2.2⟩
    obtain ⟨w, ew, hw⟩ := r_wrong (M := me_s (me_s (me_o Mc 0 x) 63 0 (nI 0)) 63 2 (nI 0)) ht h65 s2
    have hw0 := wr_same hv hw
    subst hw0
    rw [dn_0] at ew
    obtain ⟨M5, e5, f5, g5⟩ := r_takeT (M := me_s (me_s (me_s (me_o Mc 0 x) 63 0 (nI 0)) 63 2 (nI 0)) 63 5 (nI so)) ht (fun i hi => ⟨(h65 i hi).1, by rw [me_s_ne (by decide)]; exact (h65 i hi).2⟩) s2 pu_ss hall
    have h5n : M5.1 63 5 = nI so := by rw [f5.2 _ _ (by omega)]; exact pu_ss
    obtain ⟨M6, e6, f6, g6⟩ := r_lays hT h5n g5
    have f16 : fr (fun b k => (b = 63 ∧ (k = 2 ∨ k = 5)) ∨ (67 ≤ b ∧ b ≤ 74)) (me_s (me_o Mc 0 x) 63 0 (nI 0)) M6 := ((fr.s (by omega)).st (by omega)).tr ((f5.up (fun b k h => by omega)).tr (f6.up (fun b k h => by omega)))
    have f17 : fr (fun b k => (b = 63 ∧ (k = 2 ∨ k = 5 ∨ k = 10 ∨ k = 11 ∨ k = 17 ∨ k = 38)) ∨ (67 ≤ b ∧ b ≤ 74)) (me_s (me_o Mc 0 x) 63 0 (nI 0)) (me_s (me_s (me_s (me_s M6 63 10 (nI 42)) 63 11 (nI 42)) 63 17 (nI 0)) 63 38 (nI 0)) := ((((f16.up (fun b k h => by omega)).st (by omega)).st (by omega)).st (by omega)).st (by omega)
    have f67 : fr (fun b k => b = 63 ∧ (k = 10 ∨ k = 11 ∨ k = 17 ∨ k = 38)) M6 (me_s (me_s (me_s (me_s M6 63 10 (nI 42)) 63 11 (nI 42)) 63 17 (nI 0)) 63 38 (nI 0)) := (((fr.s (by omega)).st (by omega)).st (by omega)).st (by omega)
    have h62 : M6.1 63 2 = nI 0 := by rw [f6.2 _ _ (by omega), f5.2 _ _ (by omega), pu_sn (by decide)]; exact pu_ss
    refine aQ.c (M1 := Mc) (v := nI 0) (M2 := me_s (me_s (me_s (me_s M6 63 10 (nI 42)) 63 11 (nI 42)) 63 17 (nI 0)) 63 38 (nI 0)) (G := fun M0 => nX12_text M0 (nI so)) (fun M1 => zX12_text M1 _) ?_ ?_ ?_ ?_ ?_
    · simp (disch := omega) only [↓reduceIte, ↓needEb, ↓needAb, ↓needSb, ↓needE0l, ↓needE1l, ↓needA0l, ↓needA1l, ↓needS0l, ↓needS1l, ↓bnd c_isWhat, ↓bnd c_isSide, ↓bnd c_isLetter, ↓bnd c_isLength, ↓bnd c_isOften, ↓bnd r_in, ↓bnd r_isLetter, bI_t, bI_f, Bool.false_eq_true, Option.bind_none, Option.none_or, Option.some_or, xAN, xNA, xSA, Option.bind_some, if_true, if_false, Sum.elim_inl, Sum.elim_inr, li0, li1, li2, li3, li4, li5, li6, li7, li8, li9, li10, li12, li16, li20, li24, li25, li31, li32, li40, li41, li42, li48, li57, li59, li97, li104, li105, li124, li126, li240, li241, nI_add, nI_subc, nI_subm, nI_mulc, nI_nm, pu_r, pu_t, pu_a, pu_le_t, pu_le_f, pu_lt_t, pu_lt_f, pu_eq_t, pu_eq_f, nm_eq, nm_eq2, nm_lt, nm_lt2, nm_le, nm_le2, nm_ss, nm_sp, pu_ss, pu_snq, pu_neq, eq_self, and_true, true_and, and_false, false_and, or_true, true_or, or_false, false_or, not_true_eq_false, not_false_eq_true, hL_text, mX11_text_0, mX11_text_0_J58, ↓bnd (c_holds hp1), hb0, ev, ea, eb, hMc]
    · rw [hx]
      simp only [nX12_text, mX12_text_63_J23, e2, r_in, li0, li1, li42, Option.bind_some, hb0, bI_t, r_bad0 e0, nI_ne1, if_false, if_true, ew, e5, e6]
    · rw [f17.2 _ _ (by omega)]; exact e0
    · rw [hx, f17.1]; rfl
    · generalize hMd : me_s (me_s (me_s (me_s M6 63 10 (nI 42)) 63 11 (nI 42)) 63 17 (nI 0)) 63 38 (nI 0) = Md at f17 f67
      have hd10 : Md.1 63 10 = nI 42 := by rw [← hMd]; simp (disch := omega) only [Option.bind_some, if_true, if_false, Sum.elim_inl, Sum.elim_inr, li0, li1, li2, li3, li4, li5, li6, li7, li8, li9, li10, li12, li16, li20, li24, li25, li31, li32, li40, li41, li42, li48, li57, li59, li97, li104, li105, li124, li126, li240, li241, nI_add, nI_subc, nI_subm, nI_mulc, nI_nm, pu_r, pu_t, pu_a, pu_le_t, pu_le_f, pu_lt_t, pu_lt_f, pu_eq_t, pu_eq_f, nm_eq, nm_eq2, nm_lt, nm_lt2, nm_le, nm_le2, nm_ss, nm_sp, pu_ss, pu_snq, pu_neq, eq_self, and_true, true_and, and_false, false_and, or_true, true_or, or_false, false_or, not_true_eq_false, not_false_eq_true]
      have hd11 : Md.1 63 11 = nI 42 := by rw [← hMd]; simp (disch := omega) only [Option.bind_some, if_true, if_false, Sum.elim_inl, Sum.elim_inr, li0, li1, li2, li3, li4, li5, li6, li7, li8, li9, li10, li12, li16, li20, li24, li25, li31, li32, li40, li41, li42, li48, li57, li59, li97, li104, li105, li124, li126, li240, li241, nI_add, nI_subc, nI_subm, nI_mulc, nI_nm, pu_r, pu_t, pu_a, pu_le_t, pu_le_f, pu_lt_t, pu_lt_f, pu_eq_t, pu_eq_f, nm_eq, nm_eq2, nm_lt, nm_lt2, nm_le, nm_le2, nm_ss, nm_sp, pu_ss, pu_snq, pu_neq, eq_self, and_true, true_and, and_false, false_and, or_true, true_or, or_false, false_or, not_true_eq_false, not_false_eq_true]
      have hd17 : Md.1 63 17 = nI 0 := by rw [← hMd]; simp (disch := omega) only [Option.bind_some, if_true, if_false, Sum.elim_inl, Sum.elim_inr, li0, li1, li2, li3, li4, li5, li6, li7, li8, li9, li10, li12, li16, li20, li24, li25, li31, li32, li40, li41, li42, li48, li57, li59, li97, li104, li105, li124, li126, li240, li241, nI_add, nI_subc, nI_subm, nI_mulc, nI_nm, pu_r, pu_t, pu_a, pu_le_t, pu_le_f, pu_lt_t, pu_lt_f, pu_eq_t, pu_eq_f, nm_eq, nm_eq2, nm_lt, nm_lt2, nm_le, nm_le2, nm_ss, nm_sp, pu_ss, pu_snq, pu_neq, eq_self, and_true, true_and, and_false, false_and, or_true, true_or, or_false, false_or, not_true_eq_false, not_false_eq_true]
      have hd38 : Md.1 63 38 = nI 0 := by rw [← hMd]; simp (disch := omega) only [Option.bind_some, if_true, if_false, Sum.elim_inl, Sum.elim_inr, li0, li1, li2, li3, li4, li5, li6, li7, li8, li9, li10, li12, li16, li20, li24, li25, li31, li32, li40, li41, li42, li48, li57, li59, li97, li104, li105, li124, li126, li240, li241, nI_add, nI_subc, nI_subm, nI_mulc, nI_nm, pu_r, pu_t, pu_a, pu_le_t, pu_le_f, pu_lt_t, pu_lt_f, pu_eq_t, pu_eq_f, nm_eq, nm_eq2, nm_lt, nm_lt2, nm_le, nm_le2, nm_ss, nm_sp, pu_ss, pu_snq, pu_neq, eq_self, and_true, true_and, and_false, false_and, or_true, true_or, or_false, false_or, not_true_eq_false, not_false_eq_true]
      have hd2 : Md.1 63 2 = nI 0 := by rw [f67.2 _ _ (by omega)]; exact h62
      have f0d : fr (fun b k => (3 ≤ b ∧ b ≤ 29) ∨ (b = 47 ∧ k = 4) ∨ (b = 30 ∧ k = 6) ∨ (b = 1 ∧ k = 1) ∨ (b = 63 ∧ (k = 0 ∨ k = 2 ∨ k = 5 ∨ k = 10 ∨ k = 11 ∨ k = 17 ∨ k = 38)) ∨ (67 ≤ b ∧ b ≤ 74)) (me_o M 0 x) Md := (hzf.up (fun b k h => by omega)).tr (f17.up (fun b k h => by omega))
      have fcd : fr (fun b k => (b = 63 ∧ (k = 0 ∨ k = 2 ∨ k = 5 ∨ k = 10 ∨ k = 11 ∨ k = 17 ∨ k = 38)) ∨ (67 ≤ b ∧ b ≤ 74)) (me_o Mc 0 x) Md := (fr.s (by omega)).tr (f17.up (fun b k h => by omega))
      have fbd : fr (fun b k => (b = 47 ∧ k = 4) ∨ (b = 30 ∧ k = 6) ∨ (b = 1 ∧ k = 1) ∨ (b = 63 ∧ (k = 0 ∨ k = 2 ∨ k = 5 ∨ k = 10 ∨ k = 11 ∨ k = 17 ∨ k = 38)) ∨ (67 ≤ b ∧ b ≤ 74)) (me_o Mb 0 x) Md := (fbc.o.up (fun b k h => by omega)).tr (fcd.up (fun b k h => by omega))
      obtain ⟨-, -, -, -, -, -, -, -, -, -, -, -, -, k4, -, -, -⟩ := hIb
      obtain ⟨-, -, -, -, h5, -, -⟩ := hab
      have gbo : cx (tT F so) so (me_o Mb 0 x) := gb
      have kbo : mls (tT F so) so (me_o Mb 0 x) := kb
      have ubo : cu (tT F so) so 0 W X (me_o Mb 0 x) := ub W X
      refine ⟨tT F so, so, 0, W, X, 0, F, S, P, D, ⟨hT, gbo.fr fbd (fun b k _ _ => by omega), g6.fr f67 (by omega) (fun b k _ _ => by omega), kbo.fr fbd (fun b k _ _ => by omega)⟩, ⟨ubo.fr fbd (fun b k _ _ => by omega), ru_0 hd10 hd11⟩, ⟨Nat.zero_le _, by rw [fcd.2 _ _ (by omega)]; exact hc11, hd2, fun i hi => absurd hi (Nat.not_lt_zero _)⟩, k4.fr f0d ?_ ?_ ?_ ?_ ?_, h5.fr f0d ?_ ?_ ?_ ?_ ?_ ?_, Or.inl ⟨by rw [fcd.2 _ _ (by omega)]; exact hc47, hd17⟩, ⟨0, Nat.zero_le _, by rw [fcd.2 _ _ (by omega)]; exact hc30, hd38, fun k hk => absurd hk (Nat.not_lt_zero _)⟩⟩ <;> intros <;> omega
  · obtain ⟨u, hu⟩ : ∃ u, v = u + 1 := ⟨v - 1, by omega⟩
    rw [hu, dn_s] at ev
    have hub : u < so := by rcases hv with ⟨z, _⟩ | ⟨_, z, _⟩ <;> omega
    have nu : (nI u = -nI 1) = False := nm_eq (by omega)
    generalize hx : (-nI 1 - nI u).toInt64 = x
    have hab : vA T n m W X t F S P D (me_o M 0 x) := ha
    have hIb : Inv (me_o M 0 x) := h.o
    have hzf : fr (fun b k => (b = 1 ∧ k = 1) ∨ (b = 63 ∧ k = 0)) (me_o M 0 x) (me_s (me_o (me_s M 1 1 (nI 0)) 0 x) 63 0 (nI 0)) := ((fr.s (S := fun b k => (b = 1 ∧ k = 1) ∨ (b = 63 ∧ k = 0)) (M := M) (by omega)).o).st (by omega)
    have e0 : (me_s (me_o (me_s M 1 1 (nI 0)) 0 x) 63 0 (nI 0)).1 63 0 = nI 0 := pu_ss
    have e2 : (me_s (me_o (me_s M 1 1 (nI 0)) 0 x) 63 0 (nI 0)).1 63 2 = nI t := by rw [hzf.2 _ _ (by omega)]; exact hvp.2.2.1
    obtain ⟨w, ew, hw⟩ := r_wrong (M := me_s (me_s (me_o (me_s M 1 1 (nI 0)) 0 x) 63 0 (nI 0)) 63 2 (nI 0)) (F := F) ht (fun i hi => ⟨(hvp.2.2.2 i hi).1, by rw [me_s_ne (by decide), hzf.2 _ _ (by omega)]; exact (hvp.2.2.2 i hi).2.2⟩) s2
    have hw0 := wr_same hv hw
    rw [← hw0, hu, dn_s] at ew
    refine aQ.c (M1 := me_s M 1 1 (nI 0)) (v := -nI 1 - nI u) (M2 := me_s (me_s (me_o (me_s M 1 1 (nI 0)) 0 x) 63 0 (nI 0)) 63 2 (nI 0)) (G := fun M0 => nX12_text M0 (nI so)) (fun M1 => zX12_text M1 _) ?_ ?_ ?_ ?_ ?_
    · simp (disch := omega) only [↓reduceIte, ↓needEb, ↓needAb, ↓needSb, ↓needE0l, ↓needE1l, ↓needA0l, ↓needA1l, ↓needS0l, ↓needS1l, ↓bnd c_isWhat, ↓bnd c_isSide, ↓bnd c_isLetter, ↓bnd c_isLength, ↓bnd c_isOften, ↓bnd r_in, ↓bnd r_isLetter, bI_t, bI_f, Bool.false_eq_true, Option.bind_none, Option.none_or, Option.some_or, xAN, xNA, xSA, Option.bind_some, if_true, if_false, Sum.elim_inl, Sum.elim_inr, li0, li1, li2, li3, li4, li5, li6, li7, li8, li9, li10, li12, li16, li20, li24, li25, li31, li32, li40, li41, li42, li48, li57, li59, li97, li104, li105, li124, li126, li240, li241, nI_add, nI_subc, nI_subm, nI_mulc, nI_nm, pu_r, pu_t, pu_a, pu_le_t, pu_le_f, pu_lt_t, pu_lt_f, pu_eq_t, pu_eq_f, nm_eq, nm_eq2, nm_lt, nm_lt2, nm_le, nm_le2, nm_ss, nm_sp, pu_ss, pu_snq, pu_neq, eq_self, and_true, true_and, and_false, false_and, or_true, true_or, or_false, false_or, not_true_eq_false, not_false_eq_true, hL_text, mX11_text_0, mX11_text_0_J58, ↓bnd (c_holds hp1), hb0, ev, nu]
    · rw [hx]
      simp only [nX12_text, mX12_text_63_J23, e2, r_in, li0, li1, li42, Option.bind_some, hb0, bI_t, r_bad0 e0, nI_ne1, if_false, if_true, ew, nu]
    · rw [pu_sn (by decide)]; exact e0
    · rw [hx]; rfl
    · refine inv_tape (t' := 0) (F' := F) hIb hab ((hzf.up (fun b k h => by omega)).st (by omega)) ⟨Nat.zero_le _, ?_, pu_ss, fun i hi => absurd hi (Nat.not_lt_zero _)⟩
      rw [me_s_ne (by decide), me_s_ne (by decide)]
      show (me_s M 1 1 (nI 0)).1 1 1 = nI 0
      exact pu_ss
theorem q_text {M : me_M} (h : Inv M) (a0 : Int32) : aQ (hL_text M a0) (fun M1 => mX12_text_63 M1 a0) := by
  obtain ⟨T, n, m, W, X, t, F, S, P, D, ha⟩ := h.vA
  have hT := ha.1.1
  have hx := ha.1.2.1
  have c1 := hx.1.1.1
  have hn := hT.2.2.2
  have h9 := hT.2.1
  have hp1 := ha.2.2.1.2.1
  have ht := ha.2.2.1.1
  have hm4 := ha.2.1.1.2.2.1
  have hm40 := ha.2.1.1.1
  cases hb0 : iB a0 (nI 1) (nI t) with
  | false =>
    refine aQ.t 1 1 (G := fun M0 => nX12_text M0 a0) (fun M1 => zX12_text M1 a0) h ha (by omega) (by omega) (by omega) ?_ (fun M0 h0 hz hf => ?_)
    · simp (disch := omega) only [↓reduceIte, ↓needEb, ↓needAb, ↓needSb, ↓needE0l, ↓needE1l, ↓needA0l, ↓needA1l, ↓needS0l, ↓needS1l, ↓bnd c_isWhat, ↓bnd c_isSide, ↓bnd c_isLetter, ↓bnd c_isLength, ↓bnd c_isOften, ↓bnd r_in, ↓bnd r_isLetter, bI_t, bI_f, Bool.false_eq_true, Option.bind_none, Option.none_or, Option.some_or, xAN, xNA, xSA, Option.bind_some, if_true, if_false, Sum.elim_inl, Sum.elim_inr, li0, li1, li2, li3, li4, li5, li6, li7, li8, li9, li10, li12, li16, li20, li24, li25, li31, li32, li40, li41, li42, li48, li57, li59, li97, li104, li105, li124, li126, li240, li241, nI_add, nI_subc, nI_subm, nI_mulc, nI_nm, pu_r, pu_t, pu_a, pu_le_t, pu_le_f, pu_lt_t, pu_lt_f, pu_eq_t, pu_eq_f, nm_eq, nm_eq2, nm_lt, nm_lt2, nm_le, nm_le2, nm_ss, nm_sp, pu_ss, pu_snq, pu_neq, eq_self, and_true, true_and, and_false, false_and, or_true, true_or, or_false, false_or, not_true_eq_false, not_false_eq_true, mX11_text_0_J58, mX11_text_0, tX11_text_0, hL_text, ↓bnd (c_holds hp1), hb0]
    · simp (disch := omega) only [↓reduceIte, ↓needEb, ↓needAb, ↓needSb, ↓needE0l, ↓needE1l, ↓needA0l, ↓needA1l, ↓needS0l, ↓needS1l, ↓bnd c_isWhat, ↓bnd c_isSide, ↓bnd c_isLetter, ↓bnd c_isLength, ↓bnd c_isOften, ↓bnd r_in, ↓bnd r_isLetter, bI_t, bI_f, Bool.false_eq_true, Option.bind_none, Option.none_or, Option.some_or, xAN, xNA, xSA, Option.bind_some, if_true, if_false, Sum.elim_inl, Sum.elim_inr, li0, li1, li2, li3, li4, li5, li6, li7, li8, li9, li10, li12, li16, li20, li24, li25, li31, li32, li40, li41, li42, li48, li57, li59, li97, li104, li105, li124, li126, li240, li241, nI_add, nI_subc, nI_subm, nI_mulc, nI_nm, pu_r, pu_t, pu_a, pu_le_t, pu_le_f, pu_lt_t, pu_lt_f, pu_eq_t, pu_eq_f, nm_eq, nm_eq2, nm_lt, nm_lt2, nm_le, nm_le2, nm_ss, nm_sp, pu_ss, pu_snq, pu_neq, eq_self, and_true, true_and, and_false, false_and, or_true, true_or, or_false, false_or, not_true_eq_false, not_false_eq_true, nX12_text, mX12_text_63_J101, mX12_text_63_J23, h0.2.2.1.2.2.1, hb0, ↓bnd (r_bad0l hz), ↓bnd (r_bad10 hz), ↓bnd (r_bad11 hz), ↓bnd (r_bad21 hz), ↓bnd (r_bad22 hz)]
  | true =>
    exact qr_text h ha a0 hb0
