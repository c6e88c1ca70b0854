/-! ===== call: search ===== -/
theorem inv_res {T : Nat → Nat} {n m : Nat} {W X : Nat → Nat} {t : Nat} {F : Nat → Nat} {S P : Nat} {D : Nat → Nat → Nat → Nat} {M M' : me_M} (h : Inv M) (ha : vA T n m W X t F S P D M) (hx : fr (fun b k => (b = 1 ∧ k = 1) ∨ (36 ≤ b ∧ b ≤ 51) ∨ (b = 63 ∧ (k = 0 ∨ k = 2 ∨ (17 ≤ k ∧ k ≤ 20) ∨ (35 ≤ k ∧ k ≤ 37))) ∨ (79 ≤ b ∧ b ≤ 81) ∨ (83 ≤ b ∧ b ≤ 86) ∨ (158 ≤ b ∧ b ≤ 182)) M M') (hp1 : M'.1 1 1 = nI 0) (hp2 : M'.1 63 2 = nI 0) (hr : vR n M') : Inv M' := by
  obtain ⟨-, -, -, -, -, -, -, -, -, -, -, -, -, k4, -, -, -⟩ := h
  obtain ⟨h1, h2, h3, -, h5, h6, h7⟩ := ha
  refine ⟨T, n, m, W, X, 0, F, S, P, D, h1.fr hx ?_ ?_ ?_ ?_, h2.fr hx ?_ ?_ ?_ ?_ ?_, ⟨Nat.zero_le _, hp1, hp2, fun i hi => absurd hi (Nat.not_lt_zero _)⟩, k4.fr hx ?_ ?_ ?_ ?_ ?_, h5.fr hx ?_ ?_ ?_ ?_ ?_ ?_, hr, h7.fr hx ?_ ?_ ?_ ?_⟩ <;> intros <;> omega
theorem r_prep {so n : Nat} {F : Nat → Nat} {N : me_M} (hn : n ≤ 240) (h24 : so ≤ 24) (h5 : N.1 63 5 = nI n) (h65 : ∀ i, i < so → N.1 65 i = nI (F i)) (hF : ∀ k, k < so → 97 ≤ F k ∧ F k ≤ 104) : ∃ N6 N10 N11, me_l (mX12_search_63_L69 (nI so)) me_fu (nI 0, me_s (me_s N 63 2 (nI 0)) 63 20 (nI so)) = some N6 ∧ me_l mX12_search_63_L99 me_fu (nI 0, N6) = some N10 ∧ N11 = me_s (me_s (me_s (me_s N10 63 17 (nI 1)) 63 37 (nI 0)) 63 35 (nI 0)) 63 36 (nI 0) ∧ fr (fun b k => (b = 63 ∧ (k = 2 ∨ k = 17 ∨ k = 20 ∨ (35 ≤ k ∧ k ≤ 37))) ∨ (79 ≤ b ∧ b ≤ 81)) N N11 ∧ N11.1 63 2 = nI 0 ∧ N11.1 63 20 = nI so ∧ N11.1 63 17 = nI 1 ∧ N11.1 63 37 = nI 0 ∧ N11.1 63 35 = nI 0 ∧ N11.1 63 36 = nI 0 ∧ (∀ i, i < so → N11.1 81 i = nI (F i - 95)) ∧ accR n (fun _ => 0) (fun _ => 0) N11 := by
  have f1 : fr (fun b k => b = 63 ∧ (k = 2 ∨ k = 20)) N (me_s (me_s N 63 2 (nI 0)) 63 20 (nI so)) := (fr.s (by omega)).st (by omega)
  obtain ⟨N6, e6, f6, g6⟩ := r_pattern (so := so) (F := F) (M := me_s (me_s N 63 2 (nI 0)) 63 20 (nI so)) h24 (fun i hi => by rw [f1.2 _ _ (by omega)]; exact h65 i hi) hF
  obtain ⟨N10, e10, f10, g10⟩ := r_wipe (n := n) (M := N6) hn (by rw [f6.2 _ _ (by omega), f1.2 _ _ (by omega)]; exact h5)
  have f2 : fr (fun b k => b = 63 ∧ (k = 17 ∨ (35 ≤ k ∧ k ≤ 37))) N10 (me_s (me_s (me_s (me_s N10 63 17 (nI 1)) 63 37 (nI 0)) 63 35 (nI 0)) 63 36 (nI 0)) := (((fr.s (by omega)).st (by omega)).st (by omega)).st (by omega)
  refine ⟨N6, N10, _, e6, e10, rfl, (f1.up (fun b k h => by omega)).tr ((f6.up (fun b k h => by omega)).tr ((f10.up (fun b k h => by omega)).tr (f2.up (fun b k h => by omega)))), ?_, ?_, ?_, ?_, ?_, ?_, fun i hi => ?_, fun p hp => ⟨?_, fun z => absurd z (Nat.lt_irrefl _)⟩⟩
  · rw [f2.2 _ _ (by omega), f10.2 _ _ (by omega), f6.2 _ _ (by omega)]; simp (disch := omega) only [Option.bind_some, if_true, if_false, Sum.elim_inl, Sum.elim_inr, li0, li1, li2, li3, li4, li5, li6, li7, li8, li9, li10, li12, li16, li20, li24, li25, li31, li32, li40, li41, li42, li48, li57, li59, li97, li104, li105, li124, li126, li240, li241, nI_add, nI_subc, nI_subm, nI_mulc, nI_nm, pu_r, pu_t, pu_a, pu_le_t, pu_le_f, pu_lt_t, pu_lt_f, pu_eq_t, pu_eq_f, nm_eq, nm_eq2, nm_lt, nm_lt2, nm_le, nm_le2, nm_ss, nm_sp, pu_ss, pu_snq, pu_neq, eq_self, and_true, true_and, and_false, false_and, or_true, true_or, or_false, false_or, not_true_eq_false, not_false_eq_true]
  · rw [f2.2 _ _ (by omega), f10.2 _ _ (by omega), f6.2 _ _ (by omega)]; simp (disch := omega) only [Option.bind_some, if_true, if_false, Sum.elim_inl, Sum.elim_inr, li0, li1, li2, li3, li4, li5, li6, li7, li8, li9, li10, li12, li16, li20, li24, li25, li31, li32, li40, li41, li42, li48, li57, li59, li97, li104, li105, li124, li126, li240, li241, nI_add, nI_subc, nI_subm, nI_mulc, nI_nm, pu_r, pu_t, pu_a, pu_le_t, pu_le_f, pu_lt_t, pu_lt_f, pu_eq_t, pu_eq_f, nm_eq, nm_eq2, nm_lt, nm_lt2, nm_le, nm_le2, nm_ss, nm_sp, pu_ss, pu_snq, pu_neq, eq_self, and_true, true_and, and_false, false_and, or_true, true_or, or_false, false_or, not_true_eq_false, not_false_eq_true]
  · simp (disch := omega) only [Option.bind_some, if_true, if_false, Sum.elim_inl, Sum.elim_inr, li0, li1, li2, li3, li4, li5, li6, li7, li8, li9, li10, li12, li16, li20, li24, li25, li31, li32, li40, li41, li42, li48, li57, li59, li97, li104, li105, li124, li126, li240, li241, nI_add, nI_subc, nI_subm, nI_mulc, nI_nm, pu_r, pu_t, pu_a, pu_le_t, pu_le_f, pu_lt_t, pu_lt_f, pu_eq_t, pu_eq_f, nm_eq, nm_eq2, nm_lt, nm_lt2, nm_le, nm_le2, nm_ss, nm_sp, pu_ss, pu_snq, pu_neq, eq_self, and_true, true_and, and_false, false_and, or_true, true_or, or_false, false_or, not_true_eq_false, not_false_eq_true]
  · simp (disch := omega) only [Option.bind_some, if_true, if_false, Sum.elim_inl, Sum.elim_inr, li0, li1, li2, li3, li4, li5, li6, li7, li8, li9, li10, li12, li16, li20, li24, li25, li31, li32, li40, li41, li42, li48, li57, li59, li97, li104, li105, li124, li126, li240, li241, nI_add, nI_subc, nI_subm, nI_mulc, nI_nm, pu_r, pu_t, pu_a, pu_le_t, pu_le_f, pu_lt_t, pu_lt_f, pu_eq_t, pu_eq_f, nm_eq, nm_eq2, nm_lt, nm_lt2, nm_le, nm_le2, nm_ss, nm_sp, pu_ss, pu_snq, pu_neq, eq_self, and_true, true_and, and_false, false_and, or_true, true_or, or_false, false_or, not_true_eq_false, not_false_eq_true]
  · simp (disch := omega) only [Option.bind_some, if_true, if_false, Sum.elim_inl, Sum.elim_inr, li0, li1, li2, li3, li4, li5, li6, li7, li8, li9, li10, li12, li16, li20, li24, li25, li31, li32, li40, li41, li42, li48, li57, li59, li97, li104, li105, li124, li126, li240, li241, nI_add, nI_subc, nI_subm, nI_mulc, nI_nm, pu_r, pu_t, pu_a, pu_le_t, pu_le_f, pu_lt_t, pu_lt_f, pu_eq_t, pu_eq_f, nm_eq, nm_eq2, nm_lt, nm_lt2, nm_le, nm_le2, nm_ss, nm_sp, pu_ss, pu_snq, pu_neq, eq_self, and_true, true_and, and_false, false_and, or_true, true_or, or_false, false_or, not_true_eq_false, not_false_eq_true]
  · simp (disch := omega) only [Option.bind_some, if_true, if_false, Sum.elim_inl, Sum.elim_inr, li0, li1, li2, li3, li4, li5, li6, li7, li8, li9, li10, li12, li16, li20, li24, li25, li31, li32, li40, li41, li42, li48, li57, li59, li97, li104, li105, li124, li126, li240, li241, nI_add, nI_subc, nI_subm, nI_mulc, nI_nm, pu_r, pu_t, pu_a, pu_le_t, pu_le_f, pu_lt_t, pu_lt_f, pu_eq_t, pu_eq_f, nm_eq, nm_eq2, nm_lt, nm_lt2, nm_le, nm_le2, nm_ss, nm_sp, pu_ss, pu_snq, pu_neq, eq_self, and_true, true_and, and_false, false_and, or_true, true_or, or_false, false_or, not_true_eq_false, not_false_eq_true]
  · rw [f2.2 _ _ (by omega), f10.2 _ _ (by omega)]; exact g6 i hi
  · rw [f2.2 _ _ (by omega)]; exact g10 p (by omega)
theorem nI_n10 : ¬ nI 1 = nI 0 := by decide
theorem r_search {so n t P : Nat} {O : Nat → Nat} {N N6 N10 N11 N13 : me_M} (hn : n ≤ 240) (hP : P ≤ so) (h24 : so ≤ 24) (hb0 : iB (nI so) (nI 1) (nI t) = true) (e0 : N.1 63 0 = nI 0) (h2 : N.1 63 2 = nI t) (h78 : N.1 78 0 = nI P) (ea : mX12_areLetters_63 N (nI so) = some (nI 1)) (e6 : me_l (mX12_search_63_L69 (nI so)) me_fu (nI 0, me_s (me_s N 63 2 (nI 0)) 63 20 (nI so)) = some N6) (e10 : me_l mX12_search_63_L99 me_fu (nI 0, N6) = some N10) (h11 : N11 = me_s (me_s (me_s (me_s N10 63 17 (nI 1)) 63 37 (nI 0)) 63 35 (nI 0)) 63 36 (nI 0)) (e13 : me_l mX12_search_63_L149 me_fu (nI 0, N11) = some N13) (h5 : N13.1 63 5 = nI n) (hO : ∀ p, p ≤ n → O p ≤ 8 ∧ N13.1 79 p = nI (O p)) : nX12_search N (nI so) = some (nI (ct (fun p => decide (0 < O p)) n), me_s (me_s N13 63 18 (N13.1 63 35)) 63 19 (N13.1 63 36)) := by
  have hpl := r_places (M := me_s (me_s N13 63 18 (N13.1 63 35)) 63 19 (N13.1 63 36)) hn (by rw [pu_sn (by decide), pu_sn (by decide)]; exact h5) (fun p hp => ⟨(hO p hp).1, by rw [me_s_ne (by decide), me_s_ne (by decide)]; exact (hO p hp).2⟩)
  have h36 : (me_s N13 63 18 (N13.1 63 35)).1 63 36 = N13.1 63 36 := pu_sn (by decide)
  have hbd : mX12_bad_63 N (nI 0) 1 1 = some (nI 0, N) := r_bad0 e0
  have hJ : mX12_search_63_J47 (nI so) (nI 0) N = some (nI (ct (fun p => decide (0 < O p)) n), me_s (me_s N13 63 18 (N13.1 63 35)) 63 19 (N13.1 63 36)) := by
    rw [← li0] at e6 e10 h11 e13
    rw [← li1] at h11
    unfold mX12_search_63_J47
    rw [hbd, Option.bind_some]
    show (if nI 0 = 0 then _ else _) = _
    rw [if_pos li0.symm, e6, Option.bind_some, e10, Option.bind_some, ← h11, e13, Option.bind_some, h36, hpl, Option.bind_some]
  unfold nX12_search
  rw [h2]
  generalize mX12_search_63_J42 (nI so) N = j42
  rw [li1, r_in, hb0, bI_t, Option.bind_some, li0, if_neg nI_n10, show me_r N 78 2 (nI 0) = some (nI P) by rw [← h78]; exact pu_r (by omega) (by omega), Option.bind_some, if_neg (fun z => by have := (nI_ltI (by omega) (by omega)).mp z; omega), li24, if_neg (fun z => by have := (nI_ltI (by omega) (by omega)).mp z; omega), ea, Option.bind_some, if_neg nI_n10]
  exact hJ
theorem c_search {S P so n t : Nat} {D : Nat → Nat → Nat → Nat} {M Ma Mb Mc Md : me_M} (hvs : vS S P D M) (h24 : so ≤ 24) (hPL : P ≤ so) (hp1 : M.1 1 1 = nI t) (hb0 : iB (nI so) (nI 1) (nI t) = true) (e1 : mX9_lettersAlone_1 M (nI so) = some (nI 1)) (ea : mX3_takePattern_47_1 M (nI so) = some Ma) (eb : mX1_forget_36 (me_s Ma 1 1 (nI 0)) = some Mb) (ec : me_l (mX11_search_0_L77 (nI so)) me_fu (nI 0, Mb) = some Mc) (h35 : Mc.1 3 5 = nI n) (ed : mX3_gather_47_36 Mc (nI n) = some Md) : hL_search M (nI so) = some (0, me_o Md 0 (Md.1 47 6).toInt64) := by
  have h1 : mX11_search_0_J45 (nI so) M 1 = some (Md.1 47 6, Md) := by
    unfold mX11_search_0_J45
    simp (disch := omega) only [↓reduceIte, ↓needEb, ↓needAb, ↓needSb, ↓needE0l, ↓needE1l, ↓needA0l, ↓needA1l, ↓needS0l, ↓needS1l, ↓bnd c_isWhat, ↓bnd c_isSide, ↓bnd c_isLetter, ↓bnd c_isLength, ↓bnd c_isOften, ↓bnd r_in, ↓bnd r_isLetter, bI_t, bI_f, Bool.false_eq_true, Option.bind_none, Option.none_or, Option.some_or, xAN, xNA, xSA, Option.bind_some, if_true, if_false, Sum.elim_inl, Sum.elim_inr, li0, li1, li2, li3, li4, li5, li6, li7, li8, li9, li10, li12, li16, li20, li24, li25, li31, li32, li40, li41, li42, li48, li57, li59, li97, li104, li105, li124, li126, li240, li241, nI_add, nI_subc, nI_subm, nI_mulc, nI_nm, pu_r, pu_t, pu_a, pu_le_t, pu_le_f, pu_lt_t, pu_lt_f, pu_eq_t, pu_eq_f, nm_eq, nm_eq2, nm_lt, nm_lt2, nm_le, nm_le2, nm_ss, nm_sp, pu_ss, pu_snq, pu_neq, eq_self, and_true, true_and, and_false, false_and, or_true, true_or, or_false, false_or, not_true_eq_false, not_false_eq_true, ea, eb, ec, h35, ed]
  have hc := c_holds (a := nI so) hp1
  rw [hb0, bI_t] at hc
  have hP5 := hvs.2.2.2.1
  have h2 : mX11_search_0 M (nI so) = some (Md.1 47 6, Md) := by
    unfold mX11_search_0
    rw [hc, Option.bind_some, li0, if_neg nI_n10]
    rcases plan_sch hvs with ⟨p53, p58, hsc⟩ | ⟨p53, p58, hsc⟩
    · simp only [p53, if_true, hsc.2.1, li24]
      rw [if_neg (fun z => by have := (nI_ltI (by omega) (by omega)).mp z; omega), if_neg (fun z => by have := (nI_ltI (by omega) (by omega)).mp z; omega), e1, Option.bind_some, if_neg nI_n10]
      exact h1
    · simp only [p53, p58, if_true, if_false, hsc.2.1, li24]
      rw [if_neg (fun z => by have := (nI_ltI (by omega) (by omega)).mp z; omega), if_neg (fun z => by have := (nI_ltI (by omega) (by omega)).mp z; omega), e1, Option.bind_some, if_neg nI_n10]
      exact h1
  unfold hL_search
  rw [h2]
  rfl
theorem qr_search {T : Nat → Nat} {n m : Nat} {W X : Nat → Nat} {t : Nat} {F : Nat → Nat} {S P : Nat} {D : Nat → Nat → Nat → Nat} {M : me_M} (h : Inv M) (ha : vA T n m W X t F S P D M) (a0 : Int32) (hb0 : iB a0 (nI 1) (nI t) = true) : aQ (hL_search M a0) (fun M1 => mX12_search_63 M1 a0) := by
  have hT := ha.1.1
  have hn := hT.2.2.2
  have hvp := ha.2.2.1
  have ht := hvp.1
  have hp1 := hvp.2.1
  have hvs := ha.2.2.2.2.1
  have hS8 := hvs.2.1
  have hP1 := hvs.2.2.1
  have hP5 := hvs.2.2.2.1
  obtain ⟨so, s1, s2, rfl⟩ := iB_n hb0 (by omega) (by omega)
  have e1 := c_lettersAlone hvp s2
  by_cases hok : (P ≤ so ∧ so ≤ 24) ∧ al9 F so = true
  · obtain ⟨⟨hPL, h24⟩, hal⟩ := hok
    rw [hal, bI_t] at e1
    have hF : ∀ k, k < so → 97 ≤ F k ∧ F k ≤ 104 := of_decide_eq_true hal
    obtain ⟨Ma, ea, fa, ga5, ga48⟩ := c_takeP hvp s2 h24 hF
    obtain ⟨Mb, eb, fb, gb10, gb11, gb45⟩ := c_forget (M := me_s Ma 1 1 (nI 0))
    have f0b : fr (fun b k => (b = 1 ∧ k = 1) ∨ (b = 36 ∧ (k = 10 ∨ k = 11)) ∨ b = 45 ∨ (b = 47 ∧ k = 5) ∨ b = 48) M Mb := ((fa.up (fun b k h => by omega)).st (by omega)).tr (fb.up (fun b k h => by omega))
    have hac0 : accC n (fun _ => 0) (fun _ => 0) Mb := fun p hp => ⟨gb45 p (by omega), fun z => absurd z (Nat.lt_irrefl _)⟩
    have hcxb : cx T n Mb := ha.1.2.1.fr f0b (fun b k _ _ => by omega)
    have hvsb : vS S P D Mb := hvs.fr f0b (fun b k _ _ => by omega) (fun b k _ => by omega) (fun b k _ _ => by omega) (by omega) (by omega) (by omega)
    obtain ⟨ob, od, le, mo, sh, hd, hsch, hl⟩ := s_l77 (x := 0) (L := so) hvsb
    have g48 : ∀ i, i < so → Mb.1 48 i = nI (F i - 95 - 2) := fun i hi => by
      have := hF i hi
      rw [fb.2 _ _ (by omega), me_s_ne (by decide), ga48 i hi, show F i - 95 - 2 = F i - 97 by omega]
    -- both run, over any memory that holds the reference's part as M does
    have hruns : ∀ N : me_M, (∀ b k, 63 ≤ b → ¬ (b = 63 ∧ k = 0) → N.1 b k = M.1 b k) → ∃ N6 N10 N11 Mc N13 O E, me_l (mX12_search_63_L69 (nI so)) me_fu (nI 0, me_s (me_s N 63 2 (nI 0)) 63 20 (nI so)) = some N6 ∧ me_l mX12_search_63_L99 me_fu (nI 0, N6) = some N10 ∧ N11 = me_s (me_s (me_s (me_s N10 63 17 (nI 1)) 63 37 (nI 0)) 63 35 (nI 0)) 63 36 (nI 0) ∧ me_l (mX11_search_0_L77 (nI so)) me_fu (nI 0, Mb) = some Mc ∧ me_l mX12_search_63_L149 me_fu (nI 0, N11) = some N13 ∧ fr (fun b k => (b = 36 ∧ 9 ≤ k) ∨ (38 ≤ b ∧ b ≤ 46)) Mb Mc ∧ fr (fun b k => (b = 63 ∧ (k = 2 ∨ k = 17 ∨ k = 20 ∨ (35 ≤ k ∧ k ≤ 37))) ∨ (79 ≤ b ∧ b ≤ 81) ∨ (83 ≤ b ∧ b ≤ 86) ∨ (158 ≤ b ∧ b ≤ 182)) N N13 ∧ N13.1 63 2 = nI 0 ∧ N13.1 63 20 = nI so ∧ N13.1 63 17 = nI 1 ∧ (∀ i, i < so → N13.1 81 i = nI (F i - 95)) ∧ Mc.1 36 10 = N13.1 63 35 ∧ Mc.1 36 11 = N13.1 63 36 ∧ accC n O E Mc ∧ accR n O E N13 ∧ ∀ p, p ≤ n → O p ≤ 8 ∧ (0 < O p → p + so ≤ n) := fun N hN => by
      obtain ⟨N6, N10, N11, x6, x10, x11, fx, y2, y20, y17, y37, y35, y36, y81, yac⟩ := r_prep (so := so) (F := F) (n := n) (N := N) hn h24 (by rw [hN _ _ (by omega) (by omega)]; exact ha.1.2.2.1.1.1) (fun i hi => by rw [hN _ _ (by omega) (by omega)]; exact (hvp.2.2.2 i (by omega)).2.2) hF
      have hvN : rS S P D N11 := by
        obtain ⟨a1, a2, a3, a4, a5, a6, a7⟩ := hvs.rS
        exact ⟨a1, a2, a3, a4, by rw [fx.2 _ _ (by omega), hN _ _ (by omega) (by omega)]; exact a5, by rw [fx.2 _ _ (by omega), hN _ _ (by omega) (by omega)]; exact a6, fun s w k b1 b2 b3 => by rw [fx.2 _ _ (by omega), hN _ _ (by omega) (by omega)]; exact a7 s w k b1 b2 b3⟩
      have hrN : rx T n N11 := ⟨by rw [fx.2 _ _ (by omega), hN _ _ (by omega) (by omega)]; exact ha.1.2.2.1.1.1, fun i hi => by rw [fx.2 _ _ (by omega), hN _ _ (by omega) (by omega)]; exact ha.1.2.2.1.1.2 i hi⟩
      obtain ⟨Mc, N13, z1, z2, O, E, z3, z4, z5, z6, z7, z8, z9⟩ := runs9 (ob := ob) (od := od) (le := le) (mo := mo) (sh := sh) (G := fun i => F i - 95) (M := Mb) (M' := N11) (L := so) hT hd hcxb hsch hPL h24 (fun i hi => ⟨by have := hF i hi; omega, by have := hF i hi; omega, g48 i hi, y81 i hi⟩) hvN hrN y20 y37 (by rw [gb10, y35]) (by rw [gb11, y36]) hac0 yac hl
      exact ⟨N6, N10, N11, Mc, N13, O, E, x6, x10, x11, z1, z2, z3, (fx.up (fun b k h => by omega)).tr (z4.up (fun b k h => by omega)), by rw [z4.2 _ _ (by omega)]; exact y2, by rw [z4.2 _ _ (by omega)]; exact y20, by rw [z4.2 _ _ (by omega)]; exact y17, fun i hi => by rw [z4.2 _ _ (by omega)]; exact y81 i hi, z5, z6, z7, z8, z9⟩
    obtain ⟨-, -, -, Mc, -, O0, E0, -, -, -, c1, -, c2, -, -, -, -, -, -, -, c3, -, c4⟩ := hruns M (fun b k _ _ => rfl)
    obtain ⟨Md, ed, fd, d4, d7, d8, d6, dI⟩ := c_gather hn c3 (fun p hp => (c4 p hp).1)
    have f0c : fr (fun b k => (b = 1 ∧ k = 1) ∨ (36 ≤ b ∧ b ≤ 51)) M Mc := (f0b.up (fun b k h => by omega)).tr (c2.up (fun b k h => by omega))
    have f0d : fr (fun b k => (b = 1 ∧ k = 1) ∨ (36 ≤ b ∧ b ≤ 51)) M Md := f0c.tr (fd.up (fun b k h => by omega))
    have hcl := c_search hvs h24 hPL hp1 hb0 e1 ea eb c1 (by rw [f0c.2 _ _ (by omega)]; exact ha.1.2.1.1.1.1) ed
    generalize hx : (Md.1 47 6).toInt64 = x at hcl
    have fz : fr (fun b k => (b = 1 ∧ k = 1) ∨ (36 ≤ b ∧ b ≤ 51) ∨ (b = 63 ∧ k = 0)) (me_o M 0 x) (me_s (me_o Md 0 x) 63 0 (nI 0)) := (f0d.o.up (fun b k h => by omega)).st (by omega)
    obtain ⟨N6, N10, N11, Mc2, N13, O, E, x6, x10, x11, z1, z2, -, zf, w2, w20, w17, w81, z5, z6, z7, z8, z9⟩ := hruns (me_s (me_o Md 0 x) 63 0 (nI 0)) (fun b k h1 h2 => fz.2 b k (by omega))
    have hMM : Mc2 = Mc := by rw [z1] at c1; exact Option.some.inj c1
    rw [hMM] at z5 z6 z7
    obtain ⟨Md2, ed2, -, -, -, -, d6, dI⟩ := c_gather hn z7 (fun p hp => (z9 p hp).1)
    have hMd : Md2 = Md := by rw [ed2] at ed; exact Option.some.inj ed
    rw [hMd] at d6 dI
    have hOn : ¬ 0 < O n := fun z => by have := (z9 n (Nat.le_refl _)).2 z; omega
    have hcn : ct (fun p => decide (0 < O p)) (n + 1) = ct (fun p => decide (0 < O p)) n := by rw [ct_s, decide_eq_false hOn]; rfl
    rw [hcn] at d6
    have e0 : (me_s (me_o Md 0 x) 63 0 (nI 0)).1 63 0 = nI 0 := pu_ss
    have hvq : vP t F (me_s (me_s (me_o Md 0 x) 63 0 (nI 0)) 1 1 (nI t)) := ⟨hvp.1, pu_ss, by rw [me_s_ne (by decide), fz.2 _ _ (by omega)]; exact hvp.2.2.1, fun i hi => ⟨(hvp.2.2.2 i hi).1, by rw [me_s_ne (by decide), fz.2 _ _ (by omega)]; exact (hvp.2.2.2 i hi).2.1, by rw [me_s_ne (by decide), fz.2 _ _ (by omega)]; exact (hvp.2.2.2 i hi).2.2⟩⟩
    have e2 : mX12_areLetters_63 (me_s (me_o Md 0 x) 63 0 (nI 0)) (nI so) = some (nI 1) := by
      have := r_areLetters hvq s2
      rw [hal, bI_t] at this
      exact this
    have hrs := r_search (O := O) hn hPL h24 hb0 e0 (by rw [fz.2 _ _ (by omega)]; exact hvp.2.2.1) (by rw [fz.2 _ _ (by omega)]; exact (vS_ref hvs).2) e2 x6 x10 x11 z2 (by rw [zf.2 _ _ (by omega), fz.2 _ _ (by omega)]; exact ha.1.2.2.1.1.1) (fun p hp => ⟨(z9 p hp).1, (z8 p hp).1⟩)
    have f19 : fr (fun b k => b = 63 ∧ (k = 18 ∨ k = 19)) N13 (me_s (me_s N13 63 18 (N13.1 63 35)) 63 19 (N13.1 63 36)) := (fr.s (by omega)).st (by omega)
    have fmd : fr (fun b k => 63 ≤ b) (me_o Md 0 x) (me_s (me_s N13 63 18 (N13.1 63 35)) 63 19 (N13.1 63 36)) := (fr.s (by omega)).tr ((zf.up (fun b k h => by omega)).tr (f19.up (fun b k h => by omega)))
    have g18 : (me_s (me_s N13 63 18 (N13.1 63 35)) 63 19 (N13.1 63 36)).1 63 18 = N13.1 63 35 := by simp (disch := omega) only [Option.bind_some, if_true, if_false, Sum.elim_inl, Sum.elim_inr, li0, li1, li2, li3, li4, li5, li6, li7, li8, li9, li10, li12, li16, li20, li24, li25, li31, li32, li40, li41, li42, li48, li57, li59, li97, li104, li105, li124, li126, li240, li241, nI_add, nI_subc, nI_subm, nI_mulc, nI_nm, pu_r, pu_t, pu_a, pu_le_t, pu_le_f, pu_lt_t, pu_lt_f, pu_eq_t, pu_eq_f, nm_eq, nm_eq2, nm_lt, nm_lt2, nm_le, nm_le2, nm_ss, nm_sp, pu_ss, pu_snq, pu_neq, eq_self, and_true, true_and, and_false, false_and, or_true, true_or, or_false, false_or, not_true_eq_false, not_false_eq_true]
    have g19 : (me_s (me_s N13 63 18 (N13.1 63 35)) 63 19 (N13.1 63 36)).1 63 19 = N13.1 63 36 := pu_ss
    have fall : fr (fun b k => (b = 1 ∧ k = 1) ∨ (36 ≤ b ∧ b ≤ 51) ∨ (b = 63 ∧ (k = 0 ∨ k = 2 ∨ (17 ≤ k ∧ k ≤ 20) ∨ (35 ≤ k ∧ k ≤ 37))) ∨ (79 ≤ b ∧ b ≤ 81) ∨ (83 ≤ b ∧ b ≤ 86) ∨ (158 ≤ b ∧ b ≤ 182)) (me_o M 0 x) (me_s (me_s N13 63 18 (N13.1 63 35)) 63 19 (N13.1 63 36)) := (fz.up (fun b k h => by omega)).tr ((zf.up (fun b k h => by omega)).tr (f19.up (fun b k h => by omega)))
    have fbd : fr (fun b k => b = 36 ∨ (38 ≤ b ∧ b ≤ 46) ∨ (b = 47 ∧ (k = 4 ∨ (6 ≤ k ∧ k ≤ 8))) ∨ (49 ≤ b ∧ b ≤ 51)) Mb Md := (c2.up (fun b k h => by omega)).tr (fd.up (fun b k h => by omega))
    generalize hfin : me_s (me_s N13 63 18 (N13.1 63 35)) 63 19 (N13.1 63 36) = Mz at *
    have hcls : ∀ b k, b < 63 → Mz.1 b k = Md.1 b k := fun b k hb => by rw [fmd.2 b k (by omega)]; rfl
    refine aQ.c (M1 := Md) (v := Md.1 47 6) (M2 := Mz) (G := fun M0 => nX12_search M0 (nI so)) (fun M1 => zX12_search M1 _) (by rw [hx]; exact hcl) ?_ ?_ ?_ ?_
    · rw [hx, d6]; exact hrs
    · rw [f19.2 _ _ (by omega), zf.2 _ _ (by omega)]; exact e0
    · rw [hx]; exact fmd.1
    · refine inv_res (M := me_o M 0 x) h.o ha fall ?_ ?_ (Or.inr ⟨?_, ?_, so, fun i => F i - 95, O, E, by omega, h24, ?_, ?_, fun i hi => ⟨by have := hF i hi; show 2 ≤ F i - 95; omega, by have := hF i hi; show F i - 95 < 10; omega, ?_, ?_⟩, ?_, ?_, fun p hp => ⟨(z9 p hp).1, ?_, fun h0 => ⟨(z9 p hp).2 h0, ?_, ((z8 p hp).2 h0).2⟩⟩, ?_, fun p hp h0 => ?_⟩)
      · rw [hcls _ _ (by omega), fbd.2 _ _ (by omega), fb.2 _ _ (by omega)]; exact pu_ss
      · rw [f19.2 _ _ (by omega)]; exact w2
      · rw [hcls _ _ (by omega)]; exact d4
      · rw [f19.2 _ _ (by omega)]; exact w17
      · rw [hcls _ _ (by omega), fbd.2 _ _ (by omega), fb.2 _ _ (by omega), me_s_ne (by decide)]; exact ga5
      · rw [f19.2 _ _ (by omega)]; exact w20
      · rw [hcls _ _ (by omega), fbd.2 _ _ (by omega)]; exact g48 i hi
      · rw [f19.2 _ _ (by omega)]; exact w81 i hi
      · rw [hcls _ _ (by omega), d7, z6, g19]
      · rw [hcls _ _ (by omega), d8, z5, g18]
      · rw [f19.2 _ _ (by omega)]; exact (z8 p hp).1
      · rw [f19.2 _ _ (by omega)]; exact ((z8 p hp).2 h0).1
      · rw [hcls _ _ (by omega)]; exact d6
      · rw [hcls _ _ (by omega), hcls _ _ (by omega), hcls _ _ (by omega)]; exact dI p (by omega) h0
  · refine aQ.t 1 1 (G := fun M0 => nX12_search M0 (nI so)) (fun M1 => zX12_search M1 _) h ha (by omega) (by omega) (by omega) ?_ (fun M0 h0 hz hf => ?_)
    · by_cases c1 : so < P
      · rcases plan_sch hvs with ⟨p53, p58, hsc⟩ | ⟨p53, p58, hsc⟩
        · have h5 := hsc.2.1
          simp (disch := omega) only [↓reduceIte, ↓needEb, ↓needAb, ↓needSb, ↓needE0l, ↓needE1l, ↓needA0l, ↓needA1l, ↓needS0l, ↓needS1l, ↓bnd c_isWhat, ↓bnd c_isSide, ↓bnd c_isLetter, ↓bnd c_isLength, ↓bnd c_isOften, ↓bnd r_in, ↓bnd r_isLetter, bI_t, bI_f, Bool.false_eq_true, Option.bind_none, Option.none_or, Option.some_or, xAN, xNA, xSA, Option.bind_some, if_true, if_false, Sum.elim_inl, Sum.elim_inr, li0, li1, li2, li3, li4, li5, li6, li7, li8, li9, li10, li12, li16, li20, li24, li25, li31, li32, li40, li41, li42, li48, li57, li59, li97, li104, li105, li124, li126, li240, li241, nI_add, nI_subc, nI_subm, nI_mulc, nI_nm, pu_r, pu_t, pu_a, pu_le_t, pu_le_f, pu_lt_t, pu_lt_f, pu_eq_t, pu_eq_f, nm_eq, nm_eq2, nm_lt, nm_lt2, nm_le, nm_le2, nm_ss, nm_sp, pu_ss, pu_snq, pu_neq, eq_self, and_true, true_and, and_false, false_and, or_true, true_or, or_false, false_or, not_true_eq_false, not_false_eq_true, hL_search, mX11_search_0, mX11_search_0_J44, mX11_search_0_J45, tX11_search_0, tX11_search_0_J44, tX11_search_0_J45, ↓bnd (c_holds hp1), hb0, p53, h5]
        · have h5 := hsc.2.1
          simp (disch := omega) only [↓reduceIte, ↓needEb, ↓needAb, ↓needSb, ↓needE0l, ↓needE1l, ↓needA0l, ↓needA1l, ↓needS0l, ↓needS1l, ↓bnd c_isWhat, ↓bnd c_isSide, ↓bnd c_isLetter, ↓bnd c_isLength, ↓bnd c_isOften, ↓bnd r_in, ↓bnd r_isLetter, bI_t, bI_f, Bool.false_eq_true, Option.bind_none, Option.none_or, Option.some_or, xAN, xNA, xSA, Option.bind_some, if_true, if_false, Sum.elim_inl, Sum.elim_inr, li0, li1, li2, li3, li4, li5, li6, li7, li8, li9, li10, li12, li16, li20, li24, li25, li31, li32, li40, li41, li42, li48, li57, li59, li97, li104, li105, li124, li126, li240, li241, nI_add, nI_subc, nI_subm, nI_mulc, nI_nm, pu_r, pu_t, pu_a, pu_le_t, pu_le_f, pu_lt_t, pu_lt_f, pu_eq_t, pu_eq_f, nm_eq, nm_eq2, nm_lt, nm_lt2, nm_le, nm_le2, nm_ss, nm_sp, pu_ss, pu_snq, pu_neq, eq_self, and_true, true_and, and_false, false_and, or_true, true_or, or_false, false_or, not_true_eq_false, not_false_eq_true, hL_search, mX11_search_0, mX11_search_0_J44, mX11_search_0_J45, tX11_search_0, tX11_search_0_J44, tX11_search_0_J45, ↓bnd (c_holds hp1), hb0, p53, p58, h5]
      · by_cases c2 : 24 < so
        · rcases plan_sch hvs with ⟨p53, p58, hsc⟩ | ⟨p53, p58, hsc⟩
          · have h5 := hsc.2.1
            simp (disch := omega) only [↓reduceIte, ↓needEb, ↓needAb, ↓needSb, ↓needE0l, ↓needE1l, ↓needA0l, ↓needA1l, ↓needS0l, ↓needS1l, ↓bnd c_isWhat, ↓bnd c_isSide, ↓bnd c_isLetter, ↓bnd c_isLength, ↓bnd c_isOften, ↓bnd r_in, ↓bnd r_isLetter, bI_t, bI_f, Bool.false_eq_true, Option.bind_none, Option.none_or, Option.some_or, xAN, xNA, xSA, Option.bind_some, if_true, if_false, Sum.elim_inl, Sum.elim_inr, li0, li1, li2, li3, li4, li5, li6, li7, li8, li9, li10, li12, li16, li20, li24, li25, li31, li32, li40, li41, li42, li48, li57, li59, li97, li104, li105, li124, li126, li240, li241, nI_add, nI_subc, nI_subm, nI_mulc, nI_nm, pu_r, pu_t, pu_a, pu_le_t, pu_le_f, pu_lt_t, pu_lt_f, pu_eq_t, pu_eq_f, nm_eq, nm_eq2, nm_lt, nm_lt2, nm_le, nm_le2, nm_ss, nm_sp, pu_ss, pu_snq, pu_neq, eq_self, and_true, true_and, and_false, false_and, or_true, true_or, or_false, false_or, not_true_eq_false, not_false_eq_true, hL_search, mX11_search_0, mX11_search_0_J44, mX11_search_0_J45, tX11_search_0, tX11_search_0_J44, tX11_search_0_J45, ↓bnd (c_holds hp1), hb0, p53, h5]
          · have h5 := hsc.2.1
            simp (disch := omega) only [↓reduceIte, ↓needEb, ↓needAb, ↓needSb, ↓needE0l, ↓needE1l, ↓needA0l, ↓needA1l, ↓needS0l, ↓needS1l, ↓bnd c_isWhat, ↓bnd c_isSide, ↓bnd c_isLetter, ↓bnd c_isLength, ↓bnd c_isOften, ↓bnd r_in, ↓bnd r_isLetter, bI_t, bI_f, Bool.false_eq_true, Option.bind_none, Option.none_or, Option.some_or, xAN, xNA, xSA, Option.bind_some, if_true, if_false, Sum.elim_inl, Sum.elim_inr, li0, li1, li2, li3, li4, li5, li6, li7, li8, li9, li10, li12, li16, li20, li24, li25, li31, li32, li40, li41, li42, li48, li57, li59, li97, li104, li105, li124, li126, li240, li241, nI_add, nI_subc, nI_subm, nI_mulc, nI_nm, pu_r, pu_t, pu_a, pu_le_t, pu_le_f, pu_lt_t, pu_lt_f, pu_eq_t, pu_eq_f, nm_eq, nm_eq2, nm_lt, nm_lt2, nm_le, nm_le2, nm_ss, nm_sp, pu_ss, pu_snq, pu_neq, eq_self, and_true, true_and, and_false, false_and, or_true, true_or, or_false, false_or, not_true_eq_false, not_false_eq_true, hL_search, mX11_search_0, mX11_search_0_J44, mX11_search_0_J45, tX11_search_0, tX11_search_0_J44, tX11_search_0_J45, ↓bnd (c_holds hp1), hb0, p53, p58, h5]
        · have hal : al9 F so = false := by
            cases z : al9 F so with
            | false => rfl
            | true => exact absurd ⟨⟨by omega, by omega⟩, z⟩ hok
          rw [hal, bI_f] at e1
          rcases plan_sch hvs with ⟨p53, p58, hsc⟩ | ⟨p53, p58, hsc⟩
          · have h5 := hsc.2.1
            simp (disch := omega) only [↓reduceIte, ↓needEb, ↓needAb, ↓needSb, ↓needE0l, ↓needE1l, ↓needA0l, ↓needA1l, ↓needS0l, ↓needS1l, ↓bnd c_isWhat, ↓bnd c_isSide, ↓bnd c_isLetter, ↓bnd c_isLength, ↓bnd c_isOften, ↓bnd r_in, ↓bnd r_isLetter, bI_t, bI_f, Bool.false_eq_true, Option.bind_none, Option.none_or, Option.some_or, xAN, xNA, xSA, Option.bind_some, if_true, if_false, Sum.elim_inl, Sum.elim_inr, li0, li1, li2, li3, li4, li5, li6, li7, li8, li9, li10, li12, li16, li20, li24, li25, li31, li32, li40, li41, li42, li48, li57, li59, li97, li104, li105, li124, li126, li240, li241, nI_add, nI_subc, nI_subm, nI_mulc, nI_nm, pu_r, pu_t, pu_a, pu_le_t, pu_le_f, pu_lt_t, pu_lt_f, pu_eq_t, pu_eq_f, nm_eq, nm_eq2, nm_lt, nm_lt2, nm_le, nm_le2, nm_ss, nm_sp, pu_ss, pu_snq, pu_neq, eq_self, and_true, true_and, and_false, false_and, or_true, true_or, or_false, false_or, not_true_eq_false, not_false_eq_true, hL_search, mX11_search_0, mX11_search_0_J44, mX11_search_0_J45, tX11_search_0, tX11_search_0_J44, tX11_search_0_J45, ↓bnd (c_holds hp1), hb0, p53, h5, e1]
          · have h5 := hsc.2.1
            simp (disch := omega) only [↓reduceIte, ↓needEb, ↓needAb, ↓needSb, ↓needE0l, ↓needE1l, ↓needA0l, ↓needA1l, ↓needS0l, ↓needS1l, ↓bnd c_isWhat, ↓bnd c_isSide, ↓bnd c_isLetter, ↓bnd c_isLength, ↓bnd c_isOften, ↓bnd r_in, ↓bnd r_isLetter, bI_t, bI_f, Bool.false_eq_true, Option.bind_none, Option.none_or, Option.some_or, xAN, xNA, xSA, Option.bind_some, if_true, if_false, Sum.elim_inl, Sum.elim_inr, li0, li1, li2, li3, li4, li5, li6, li7, li8, li9, li10, li12, li16, li20, li24, li25, li31, li32, li40, li41, li42, li48, li57, li59, li97, li104, li105, li124, li126, li240, li241, nI_add, nI_subc, nI_subm, nI_mulc, nI_nm, pu_r, pu_t, pu_a, pu_le_t, pu_le_f, pu_lt_t, pu_lt_f, pu_eq_t, pu_eq_f, nm_eq, nm_eq2, nm_lt, nm_lt2, nm_le, nm_le2, nm_ss, nm_sp, pu_ss, pu_snq, pu_neq, eq_self, and_true, true_and, and_false, false_and, or_true, true_or, or_false, false_or, not_true_eq_false, not_false_eq_true, hL_search, mX11_search_0, mX11_search_0_J44, mX11_search_0_J45, tX11_search_0, tX11_search_0_J44, tX11_search_0_J45, ↓bnd (c_holds hp1), hb0, p53, p58, h5, e1]
    · obtain ⟨hr77, hr78⟩ := vS_ref h0.2.2.2.2.1
      by_cases c1 : so < P
      · simp (disch := omega) only [↓reduceIte, ↓needEb, ↓needAb, ↓needSb, ↓needE0l, ↓needE1l, ↓needA0l, ↓needA1l, ↓needS0l, ↓needS1l, ↓bnd c_isWhat, ↓bnd c_isSide, ↓bnd c_isLetter, ↓bnd c_isLength, ↓bnd c_isOften, ↓bnd r_in, ↓bnd r_isLetter, bI_t, bI_f, Bool.false_eq_true, Option.bind_none, Option.none_or, Option.some_or, xAN, xNA, xSA, Option.bind_some, if_true, if_false, Sum.elim_inl, Sum.elim_inr, li0, li1, li2, li3, li4, li5, li6, li7, li8, li9, li10, li12, li16, li20, li24, li25, li31, li32, li40, li41, li42, li48, li57, li59, li97, li104, li105, li124, li126, li240, li241, nI_add, nI_subc, nI_subm, nI_mulc, nI_nm, pu_r, pu_t, pu_a, pu_le_t, pu_le_f, pu_lt_t, pu_lt_f, pu_eq_t, pu_eq_f, nm_eq, nm_eq2, nm_lt, nm_lt2, nm_le, nm_le2, nm_ss, nm_sp, pu_ss, pu_snq, pu_neq, eq_self, and_true, true_and, and_false, false_and, or_true, true_or, or_false, false_or, not_true_eq_false, not_false_eq_true, nX12_search, mX12_search_63_J42, mX12_search_63_J47, h0.2.2.1.2.2.1, hb0, hr78, ↓bnd (r_bad11 hz)]
      · by_cases c2 : 24 < so
        · simp (disch := omega) only [↓reduceIte, ↓needEb, ↓needAb, ↓needSb, ↓needE0l, ↓needE1l, ↓needA0l, ↓needA1l, ↓needS0l, ↓needS1l, ↓bnd c_isWhat, ↓bnd c_isSide, ↓bnd c_isLetter, ↓bnd c_isLength, ↓bnd c_isOften, ↓bnd r_in, ↓bnd r_isLetter, bI_t, bI_f, Bool.false_eq_true, Option.bind_none, Option.none_or, Option.some_or, xAN, xNA, xSA, Option.bind_some, if_true, if_false, Sum.elim_inl, Sum.elim_inr, li0, li1, li2, li3, li4, li5, li6, li7, li8, li9, li10, li12, li16, li20, li24, li25, li31, li32, li40, li41, li42, li48, li57, li59, li97, li104, li105, li124, li126, li240, li241, nI_add, nI_subc, nI_subm, nI_mulc, nI_nm, pu_r, pu_t, pu_a, pu_le_t, pu_le_f, pu_lt_t, pu_lt_f, pu_eq_t, pu_eq_f, nm_eq, nm_eq2, nm_lt, nm_lt2, nm_le, nm_le2, nm_ss, nm_sp, pu_ss, pu_snq, pu_neq, eq_self, and_true, true_and, and_false, false_and, or_true, true_or, or_false, false_or, not_true_eq_false, not_false_eq_true, nX12_search, mX12_search_63_J42, mX12_search_63_J47, h0.2.2.1.2.2.1, hb0, hr78, ↓bnd (r_bad11 hz)]
        · have hal : al9 F so = false := by
            cases z : al9 F so with
            | false => rfl
            | true => exact absurd ⟨⟨by omega, by omega⟩, z⟩ hok
          have e2 := r_areLetters h0.2.2.1 s2
          rw [hal, bI_f] at e2
          simp (disch := omega) only [↓reduceIte, ↓needEb, ↓needAb, ↓needSb, ↓needE0l, ↓needE1l, ↓needA0l, ↓needA1l, ↓needS0l, ↓needS1l, ↓bnd c_isWhat, ↓bnd c_isSide, ↓bnd c_isLetter, ↓bnd c_isLength, ↓bnd c_isOften, ↓bnd r_in, ↓bnd r_isLetter, bI_t, bI_f, Bool.false_eq_true, Option.bind_none, Option.none_or, Option.some_or, xAN, xNA, xSA, Option.bind_some, if_true, if_false, Sum.elim_inl, Sum.elim_inr, li0, li1, li2, li3, li4, li5, li6, li7, li8, li9, li10, li12, li16, li20, li24, li25, li31, li32, li40, li41, li42, li48, li57, li59, li97, li104, li105, li124, li126, li240, li241, nI_add, nI_subc, nI_subm, nI_mulc, nI_nm, pu_r, pu_t, pu_a, pu_le_t, pu_le_f, pu_lt_t, pu_lt_f, pu_eq_t, pu_eq_f, nm_eq, nm_eq2, nm_lt, nm_lt2, nm_le, nm_le2, nm_ss, nm_sp, pu_ss, pu_snq, pu_neq, eq_self, and_true, true_and, and_false, false_and, or_true, true_or, or_false, false_or, not_true_eq_false, not_false_eq_true, nX12_search, mX12_search_63_J42, mX12_search_63_J47, h0.2.2.1.2.2.1, hb0, hr78, e2, ↓bnd (r_bad11 hz)]
theorem q_search {M : me_M} (h : Inv M) (a0 : Int32) : aQ (hL_search M a0) (fun M1 => mX12_search_63 M1 a0) := by
  obtain ⟨T, n, m, W, X, t, F, S, P, D, ha⟩ := h.vA
  have hT := ha.1.1
  have hx := ha.1.2.1
  have c1 := hx.1.1.1
  have hn := hT.2.2.2
  have h9 := hT.2.1
  have hp1 := ha.2.2.1.2.1
  have ht := ha.2.2.1.1
  have hm4 := ha.2.1.1.2.2.1
  have hm40 := ha.2.1.1.1
  cases hb0 : iB a0 (nI 1) (nI t) with
  | false =>
    refine aQ.t 1 1 (G := fun M0 => nX12_search M0 a0) (fun M1 => zX12_search M1 a0) h ha (by omega) (by omega) (by omega) ?_ (fun M0 h0 hz hf => ?_)
    · simp (disch := omega) only [↓reduceIte, ↓needEb, ↓needAb, ↓needSb, ↓needE0l, ↓needE1l, ↓needA0l, ↓needA1l, ↓needS0l, ↓needS1l, ↓bnd c_isWhat, ↓bnd c_isSide, ↓bnd c_isLetter, ↓bnd c_isLength, ↓bnd c_isOften, ↓bnd r_in, ↓bnd r_isLetter, bI_t, bI_f, Bool.false_eq_true, Option.bind_none, Option.none_or, Option.some_or, xAN, xNA, xSA, Option.bind_some, if_true, if_false, Sum.elim_inl, Sum.elim_inr, li0, li1, li2, li3, li4, li5, li6, li7, li8, li9, li10, li12, li16, li20, li24, li25, li31, li32, li40, li41, li42, li48, li57, li59, li97, li104, li105, li124, li126, li240, li241, nI_add, nI_subc, nI_subm, nI_mulc, nI_nm, pu_r, pu_t, pu_a, pu_le_t, pu_le_f, pu_lt_t, pu_lt_f, pu_eq_t, pu_eq_f, nm_eq, nm_eq2, nm_lt, nm_lt2, nm_le, nm_le2, nm_ss, nm_sp, pu_ss, pu_snq, pu_neq, eq_self, and_true, true_and, and_false, false_and, or_true, true_or, or_false, false_or, not_true_eq_false, not_false_eq_true, mX11_search_0_J45, mX11_search_0_J44, mX11_search_0, tX11_search_0_J45, tX11_search_0_J44, tX11_search_0, hL_search, ↓bnd (c_holds hp1), hb0]
    · simp (disch := omega) only [↓reduceIte, ↓needEb, ↓needAb, ↓needSb, ↓needE0l, ↓needE1l, ↓needA0l, ↓needA1l, ↓needS0l, ↓needS1l, ↓bnd c_isWhat, ↓bnd c_isSide, ↓bnd c_isLetter, ↓bnd c_isLength, ↓bnd c_isOften, ↓bnd r_in, ↓bnd r_isLetter, bI_t, bI_f, Bool.false_eq_true, Option.bind_none, Option.none_or, Option.some_or, xAN, xNA, xSA, Option.bind_some, if_true, if_false, Sum.elim_inl, Sum.elim_inr, li0, li1, li2, li3, li4, li5, li6, li7, li8, li9, li10, li12, li16, li20, li24, li25, li31, li32, li40, li41, li42, li48, li57, li59, li97, li104, li105, li124, li126, li240, li241, nI_add, nI_subc, nI_subm, nI_mulc, nI_nm, pu_r, pu_t, pu_a, pu_le_t, pu_le_f, pu_lt_t, pu_lt_f, pu_eq_t, pu_eq_f, nm_eq, nm_eq2, nm_lt, nm_lt2, nm_le, nm_le2, nm_ss, nm_sp, pu_ss, pu_snq, pu_neq, eq_self, and_true, true_and, and_false, false_and, or_true, true_or, or_false, false_or, not_true_eq_false, not_false_eq_true, nX12_search, mX12_search_63_J47, mX12_search_63_J42, h0.2.2.1.2.2.1, hb0, ↓bnd (r_bad0l hz), ↓bnd (r_bad10 hz), ↓bnd (r_bad11 hz), ↓bnd (r_bad21 hz), ↓bnd (r_bad22 hz)]
  | true =>
    exact qr_search h ha a0 hb0
