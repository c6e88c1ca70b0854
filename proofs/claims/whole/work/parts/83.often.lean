/-! ===== calls: often, match ===== -/
theorem iB_nI {a lo hi : Nat} (ha : a < 2 ^ 31) (hl : lo < 2 ^ 31) (hh : hi < 2 ^ 31) : iB (nI a) (nI lo) (nI hi) = decide (lo ≤ a ∧ a ≤ hi) := by
  unfold iB
  rw [Bool.eq_iff_iff, Bool.and_eq_true, decide_eq_true_eq, decide_eq_true_eq, decide_eq_true_eq, nI_leI hl ha, nI_leI ha hh]
/-- the first so bytes are letters alone -/
def al9 (F : Nat → Nat) (so : Nat) : Bool := decide (∀ k, k < so → 97 ≤ F k ∧ F k ≤ 104)
theorem c_lettersAlone {t so : Nat} {F : Nat → Nat} {M : me_M} (h : vP t F M) (hs : so ≤ t) : mX9_lettersAlone_1 M (nI so) = some (bI (al9 F so)) := by
  obtain ⟨h1, h2, h3, h4⟩ := h
  obtain ⟨r, e, hr⟩ := lp_up (b := mX9_lettersAlone_1_L2 M (nI so)) (fun x s => s = nI x ∧ ∀ k, k < x → 97 ≤ F k ∧ F k ≤ 104) (fun r => (r = .inl () ∧ al9 F so = true) ∨ (r = .inr (nI 0) ∧ al9 F so = false)) (a := 0) (N := so) (by omega) (by omega) (fun x s _ hx hs => by
    obtain ⟨rfl, hI⟩ := hs
    obtain ⟨f1, f2, f3⟩ := h4 x (by omega)
    simp only [mX9_lettersAlone_1_L2]
    by_cases c : 97 ≤ F x ∧ F x ≤ 104
    · left
      refine ⟨nI (x + 1), ?_, rfl, all_s.mpr ⟨hI, c⟩⟩
      have hb : iB (nI (F x)) (nI 97) (nI 104) = true := by rw [iB_nI (by omega) (by omega) (by omega)]; exact decide_eq_true c
      simp (disch := omega) only [Option.bind_some, if_true, if_false, Sum.elim_inl, Sum.elim_inr, li0, li1, li2, li3, li4, li5, li6, li7, li8, li9, li10, li12, li16, li20, li24, li25, li31, li32, li40, li41, li42, li48, li57, li59, li97, li104, li105, li124, li126, li240, li241, nI_add, nI_subc, nI_subm, nI_mulc, nI_nm, pu_r, pu_t, pu_a, pu_le_t, pu_le_f, pu_lt_t, pu_lt_f, pu_eq_t, pu_eq_f, nm_eq, nm_eq2, nm_lt, nm_lt2, nm_le, nm_le2, nm_ss, nm_sp, pu_ss, pu_snq, pu_neq, eq_self, and_true, true_and, and_false, false_and, or_true, true_or, or_false, false_or, not_true_eq_false, not_false_eq_true, f2, c_isLetter, hb, bI_t]
    · right
      refine ⟨.inr (nI 0), ?_, Or.inr ⟨rfl, decide_eq_false (fun z => c (z x hx))⟩⟩
      have hb : iB (nI (F x)) (nI 97) (nI 104) = false := by rw [iB_nI (by omega) (by omega) (by omega)]; exact decide_eq_false c
      simp (disch := omega) only [Option.bind_some, if_true, if_false, Sum.elim_inl, Sum.elim_inr, li0, li1, li2, li3, li4, li5, li6, li7, li8, li9, li10, li12, li16, li20, li24, li25, li31, li32, li40, li41, li42, li48, li57, li59, li97, li104, li105, li124, li126, li240, li241, nI_add, nI_subc, nI_subm, nI_mulc, nI_nm, pu_r, pu_t, pu_a, pu_le_t, pu_le_f, pu_lt_t, pu_lt_f, pu_eq_t, pu_eq_f, nm_eq, nm_eq2, nm_lt, nm_lt2, nm_le, nm_le2, nm_ss, nm_sp, pu_ss, pu_snq, pu_neq, eq_self, and_true, true_and, and_false, false_and, or_true, true_or, or_false, false_or, not_true_eq_false, not_false_eq_true, f2, c_isLetter, hb, bI_f]) (fun s hs => by
    obtain ⟨rfl, hI⟩ := hs
    refine ⟨.inl (), ?_, Or.inl ⟨rfl, decide_eq_true hI⟩⟩
    simp only [mX9_lettersAlone_1_L2]
    simp (disch := omega) only [Option.bind_some, if_true, if_false, Sum.elim_inl, Sum.elim_inr, li0, li1, li2, li3, li4, li5, li6, li7, li8, li9, li10, li12, li16, li20, li24, li25, li31, li32, li40, li41, li42, li48, li57, li59, li97, li104, li105, li124, li126, li240, li241, nI_add, nI_subc, nI_subm, nI_mulc, nI_nm, pu_r, pu_t, pu_a, pu_le_t, pu_le_f, pu_lt_t, pu_lt_f, pu_eq_t, pu_eq_f, nm_eq, nm_eq2, nm_lt, nm_lt2, nm_le, nm_le2, nm_ss, nm_sp, pu_ss, pu_snq, pu_neq, eq_self, and_true, true_and, and_false, false_and, or_true, true_or, or_false, false_or, not_true_eq_false, not_false_eq_true]) (s0 := nI 0) ⟨rfl, fun k hk => absurd hk (Nat.not_lt_zero _)⟩
  unfold mX9_lettersAlone_1
  rcases hr with ⟨rfl, hr⟩ | ⟨rfl, hr⟩
  · simp (disch := omega) only [Option.bind_some, if_true, if_false, Sum.elim_inl, Sum.elim_inr, li0, li1, li2, li3, li4, li5, li6, li7, li8, li9, li10, li12, li16, li20, li24, li25, li31, li32, li40, li41, li42, li48, li57, li59, li97, li104, li105, li124, li126, li240, li241, nI_add, nI_subc, nI_subm, nI_mulc, nI_nm, pu_r, pu_t, pu_a, pu_le_t, pu_le_f, pu_lt_t, pu_lt_f, pu_eq_t, pu_eq_f, nm_eq, nm_eq2, nm_lt, nm_lt2, nm_le, nm_le2, nm_ss, nm_sp, pu_ss, pu_snq, pu_neq, eq_self, and_true, true_and, and_false, false_and, or_true, true_or, or_false, false_or, not_true_eq_false, not_false_eq_true, e, hr, bI_t]
  · simp (disch := omega) only [Option.bind_some, if_true, if_false, Sum.elim_inl, Sum.elim_inr, li0, li1, li2, li3, li4, li5, li6, li7, li8, li9, li10, li12, li16, li20, li24, li25, li31, li32, li40, li41, li42, li48, li57, li59, li97, li104, li105, li124, li126, li240, li241, nI_add, nI_subc, nI_subm, nI_mulc, nI_nm, pu_r, pu_t, pu_a, pu_le_t, pu_le_f, pu_lt_t, pu_lt_f, pu_eq_t, pu_eq_f, nm_eq, nm_eq2, nm_lt, nm_lt2, nm_le, nm_le2, nm_ss, nm_sp, pu_ss, pu_snq, pu_neq, eq_self, and_true, true_and, and_false, false_and, or_true, true_or, or_false, false_or, not_true_eq_false, not_false_eq_true, e, hr, bI_f]
theorem r_areLetters {t so : Nat} {F : Nat → Nat} {M : me_M} (h : vP t F M) (hs : so ≤ t) : mX12_areLetters_63 M (nI so) = some (bI (al9 F so)) := by
  obtain ⟨h1, h2, h3, h4⟩ := h
  obtain ⟨r, e, hr⟩ := lp_up (b := mX12_areLetters_63_L2 M (nI so)) (fun x s => s = nI x ∧ ∀ k, k < x → 97 ≤ F k ∧ F k ≤ 104) (fun r => (r = .inl () ∧ al9 F so = true) ∨ (r = .inr (nI 0) ∧ al9 F so = false)) (a := 0) (N := so) (by omega) (by omega) (fun x s _ hx hs => by
    obtain ⟨rfl, hI⟩ := hs
    obtain ⟨f1, f2, f3⟩ := h4 x (by omega)
    simp only [mX12_areLetters_63_L2]
    by_cases c : 97 ≤ F x ∧ F x ≤ 104
    · left
      refine ⟨nI (x + 1), ?_, rfl, all_s.mpr ⟨hI, c⟩⟩
      have hb : iB (nI (F x)) (nI 97) (nI 104) = true := by rw [iB_nI (by omega) (by omega) (by omega)]; exact decide_eq_true c
      simp (disch := omega) only [Option.bind_some, if_true, if_false, Sum.elim_inl, Sum.elim_inr, li0, li1, li2, li3, li4, li5, li6, li7, li8, li9, li10, li12, li16, li20, li24, li25, li31, li32, li40, li41, li42, li48, li57, li59, li97, li104, li105, li124, li126, li240, li241, nI_add, nI_subc, nI_subm, nI_mulc, nI_nm, pu_r, pu_t, pu_a, pu_le_t, pu_le_f, pu_lt_t, pu_lt_f, pu_eq_t, pu_eq_f, nm_eq, nm_eq2, nm_lt, nm_lt2, nm_le, nm_le2, nm_ss, nm_sp, pu_ss, pu_snq, pu_neq, eq_self, and_true, true_and, and_false, false_and, or_true, true_or, or_false, false_or, not_true_eq_false, not_false_eq_true, f3, r_isLetter, hb, bI_t]
    · right
      refine ⟨.inr (nI 0), ?_, Or.inr ⟨rfl, decide_eq_false (fun z => c (z x hx))⟩⟩
      have hb : iB (nI (F x)) (nI 97) (nI 104) = false := by rw [iB_nI (by omega) (by omega) (by omega)]; exact decide_eq_false c
      simp (disch := omega) only [Option.bind_some, if_true, if_false, Sum.elim_inl, Sum.elim_inr, li0, li1, li2, li3, li4, li5, li6, li7, li8, li9, li10, li12, li16, li20, li24, li25, li31, li32, li40, li41, li42, li48, li57, li59, li97, li104, li105, li124, li126, li240, li241, nI_add, nI_subc, nI_subm, nI_mulc, nI_nm, pu_r, pu_t, pu_a, pu_le_t, pu_le_f, pu_lt_t, pu_lt_f, pu_eq_t, pu_eq_f, nm_eq, nm_eq2, nm_lt, nm_lt2, nm_le, nm_le2, nm_ss, nm_sp, pu_ss, pu_snq, pu_neq, eq_self, and_true, true_and, and_false, false_and, or_true, true_or, or_false, false_or, not_true_eq_false, not_false_eq_true, f3, r_isLetter, hb, bI_f]) (fun s hs => by
    obtain ⟨rfl, hI⟩ := hs
    refine ⟨.inl (), ?_, Or.inl ⟨rfl, decide_eq_true hI⟩⟩
    simp only [mX12_areLetters_63_L2]
    simp (disch := omega) only [Option.bind_some, if_true, if_false, Sum.elim_inl, Sum.elim_inr, li0, li1, li2, li3, li4, li5, li6, li7, li8, li9, li10, li12, li16, li20, li24, li25, li31, li32, li40, li41, li42, li48, li57, li59, li97, li104, li105, li124, li126, li240, li241, nI_add, nI_subc, nI_subm, nI_mulc, nI_nm, pu_r, pu_t, pu_a, pu_le_t, pu_le_f, pu_lt_t, pu_lt_f, pu_eq_t, pu_eq_f, nm_eq, nm_eq2, nm_lt, nm_lt2, nm_le, nm_le2, nm_ss, nm_sp, pu_ss, pu_snq, pu_neq, eq_self, and_true, true_and, and_false, false_and, or_true, true_or, or_false, false_or, not_true_eq_false, not_false_eq_true]) (s0 := nI 0) ⟨rfl, fun k hk => absurd hk (Nat.not_lt_zero _)⟩
  unfold mX12_areLetters_63
  rcases hr with ⟨rfl, hr⟩ | ⟨rfl, hr⟩
  · simp (disch := omega) only [Option.bind_some, if_true, if_false, Sum.elim_inl, Sum.elim_inr, li0, li1, li2, li3, li4, li5, li6, li7, li8, li9, li10, li12, li16, li20, li24, li25, li31, li32, li40, li41, li42, li48, li57, li59, li97, li104, li105, li124, li126, li240, li241, nI_add, nI_subc, nI_subm, nI_mulc, nI_nm, pu_r, pu_t, pu_a, pu_le_t, pu_le_f, pu_lt_t, pu_lt_f, pu_eq_t, pu_eq_f, nm_eq, nm_eq2, nm_lt, nm_lt2, nm_le, nm_le2, nm_ss, nm_sp, pu_ss, pu_snq, pu_neq, eq_self, and_true, true_and, and_false, false_and, or_true, true_or, or_false, false_or, not_true_eq_false, not_false_eq_true, e, hr, bI_t]
  · simp (disch := omega) only [Option.bind_some, if_true, if_false, Sum.elim_inl, Sum.elim_inr, li0, li1, li2, li3, li4, li5, li6, li7, li8, li9, li10, li12, li16, li20, li24, li25, li31, li32, li40, li41, li42, li48, li57, li59, li97, li104, li105, li124, li126, li240, li241, nI_add, nI_subc, nI_subm, nI_mulc, nI_nm, pu_r, pu_t, pu_a, pu_le_t, pu_le_f, pu_lt_t, pu_lt_f, pu_eq_t, pu_eq_f, nm_eq, nm_eq2, nm_lt, nm_lt2, nm_le, nm_le2, nm_ss, nm_sp, pu_ss, pu_snq, pu_neq, eq_self, and_true, true_and, and_false, false_and, or_true, true_or, or_false, false_or, not_true_eq_false, not_false_eq_true, e, hr, bI_f]
/-- the letters of the tape from i on, as signs -/
def qf (F : Nat → Nat) (i : Nat) : Nat → Nat := fun k => F (i + k) - 95
theorem qf_cons (F : Nat → Nat) (i k : Nat) : cons (F i - 95) (qf F (i + 1)) k = qf F i k := by
  match k with
  | 0 => rfl
  | k + 1 => show F (i + 1 + k) - 95 = F (i + (k + 1)) - 95; rw [show i + 1 + k = i + (k + 1) by omega]
theorem qr_often {T : Nat → Nat} {n m : Nat} {W X : Nat → Nat} {t : Nat} {F : Nat → Nat} {S P : Nat} {D : Nat → Nat → Nat → Nat} {M : me_M} (h : Inv M) (ha : vA T n m W X t F S P D M) (a0 : Int32) (hb0 : iB a0 (nI 1) (nI t) = true) : aQ (hL_often M a0) (fun M1 => mX12_often_63 M1 a0) := by
  have hT := ha.1.1
  have hn := hT.2.2.2
  have hx := ha.1.2.1
  have c1 := hx.1.1.1
  have hvp := ha.2.2.1
  have ht := hvp.1
  have hp1 := hvp.2.1
  obtain ⟨so, s1, s2, rfl⟩ := iB_n hb0 (by omega) (by omega)
  have e1 := c_lettersAlone hvp s2
  cases hal : al9 F so with
  | false =>
    rw [hal, bI_f] at e1
    refine aQ.t 1 1 (G := fun M0 => nX12_often M0 (nI so)) (fun M1 => zX12_often M1 _) h ha (by omega) (by omega) (by omega) ?_ (fun M0 h0 hz hf => ?_)
    · simp (disch := omega) only [↓reduceIte, ↓needEb, ↓needAb, ↓needSb, ↓needE0l, ↓needE1l, ↓needA0l, ↓needA1l, ↓needS0l, ↓needS1l, ↓bnd c_isWhat, ↓bnd c_isSide, ↓bnd c_isLetter, ↓bnd c_isLength, ↓bnd c_isOften, ↓bnd r_in, ↓bnd r_isLetter, bI_t, bI_f, Bool.false_eq_true, Option.bind_none, Option.none_or, Option.some_or, xAN, xNA, xSA, Option.bind_some, if_true, if_false, Sum.elim_inl, Sum.elim_inr, li0, li1, li2, li3, li4, li5, li6, li7, li8, li9, li10, li12, li16, li20, li24, li25, li31, li32, li40, li41, li42, li48, li57, li59, li97, li104, li105, li124, li126, li240, li241, nI_add, nI_subc, nI_subm, nI_mulc, nI_nm, pu_r, pu_t, pu_a, pu_le_t, pu_le_f, pu_lt_t, pu_lt_f, pu_eq_t, pu_eq_f, nm_eq, nm_eq2, nm_lt, nm_lt2, nm_le, nm_le2, nm_ss, nm_sp, pu_ss, pu_snq, pu_neq, eq_self, and_true, true_and, and_false, false_and, or_true, true_or, or_false, false_or, not_true_eq_false, not_false_eq_true, hL_often, mX11_often_0, mX11_often_0_J27, mX11_often_0_J28, tX11_often_0, tX11_often_0_J27, tX11_often_0_J28, ↓bnd (c_holds hp1), hb0, e1]
    · have e2 := r_areLetters h0.2.2.1 s2
      rw [hal, bI_f] at e2
      simp (disch := omega) only [↓reduceIte, ↓needEb, ↓needAb, ↓needSb, ↓needE0l, ↓needE1l, ↓needA0l, ↓needA1l, ↓needS0l, ↓needS1l, ↓bnd c_isWhat, ↓bnd c_isSide, ↓bnd c_isLetter, ↓bnd c_isLength, ↓bnd c_isOften, ↓bnd r_in, ↓bnd r_isLetter, bI_t, bI_f, Bool.false_eq_true, Option.bind_none, Option.none_or, Option.some_or, xAN, xNA, xSA, Option.bind_some, if_true, if_false, Sum.elim_inl, Sum.elim_inr, li0, li1, li2, li3, li4, li5, li6, li7, li8, li9, li10, li12, li16, li20, li24, li25, li31, li32, li40, li41, li42, li48, li57, li59, li97, li104, li105, li124, li126, li240, li241, nI_add, nI_subc, nI_subm, nI_mulc, nI_nm, pu_r, pu_t, pu_a, pu_le_t, pu_le_f, pu_lt_t, pu_lt_f, pu_eq_t, pu_eq_f, nm_eq, nm_eq2, nm_lt, nm_lt2, nm_le, nm_le2, nm_ss, nm_sp, pu_ss, pu_snq, pu_neq, eq_self, and_true, true_and, and_false, false_and, or_true, true_or, or_false, false_or, not_true_eq_false, not_false_eq_true, nX12_often, mX12_often_63_J26, mX12_often_63_J31, h0.2.2.1.2.2.1, hb0, e2, ↓bnd (r_bad11 hz)]
  | true =>
    rw [hal, bI_t] at e1
    have hF : ∀ k, k < so → 97 ≤ F k ∧ F k ≤ 104 := of_decide_eq_true hal
    have hl : me_l (mX11_often_0_L48 M) me_fu (nI 0, nI (n + 1), dn so) = some (nI (LO T n so (qf F 0)), nI (LO T n so (qf F 0) + SZ T n so (qf F 0))) := by
      have hz := cp_zero (T := T) (n := n) (Q := qf F so)
      have := lp_dn (b := mX11_often_0_L48 M) (fun j => (nI (LO T n (so - j) (qf F j)), nI (LO T n (so - j) (qf F j) + SZ T n (so - j) (qf F j)), dn j)) (N := so) (r := (nI (LO T n so (qf F 0)), nI (LO T n so (qf F 0) + SZ T n so (qf F 0)))) (by omega) (fun j hj => ?_) ?_
      · rw [Nat.sub_self, hz.1, hz.2, Nat.zero_add] at this
        exact this
      · simp only [mX11_often_0_L48, mX9_letterAt_1]
        obtain ⟨f1, f2, -⟩ := hvp.2.2.2 j (by omega)
        obtain ⟨g1, g2⟩ := hF j hj
        have hQ : ∀ k, k < so - (j + 1) → 0 < qf F (j + 1) k := fun k hk => by
          have := hF (j + 1 + k) (by omega)
          show 0 < F (j + 1 + k) - 95
          omega
        have hlo := lo_cons (c := F j - 95) hT.1 (by omega) hQ
        have hhi := hi_cons (c := F j - 95) hT.1 (by omega) hQ
        rw [lo_cong (fun k _ => qf_cons F j k), show so - (j + 1) + 1 = so - j by omega] at hlo
        rw [lo_cong (fun k _ => qf_cons F j k), sz_cong (fun k _ => qf_cons F j k), show so - (j + 1) + 1 = so - j by omega] at hhi
        have hle : LO T n (so - (j + 1)) (qf F (j + 1)) + SZ T n (so - (j + 1)) (qf F (j + 1)) ≤ n + 1 := lo_le
        have w1 := g_rowWith (o := 9) (sg := 4) (pl := 10) (ro := 11) (al := 12) (sm := 13) (r := LO T n (so - (j + 1)) (qf F (j + 1))) (c := F j - 97) hT.2.1 hn hx.2.1.1.1 hx.2.1.2.2.2 (by omega) (by omega)
        have w2 := g_rowWith (o := 9) (sg := 4) (pl := 10) (ro := 11) (al := 12) (sm := 13) (r := LO T n (so - (j + 1)) (qf F (j + 1)) + SZ T n (so - (j + 1)) (qf F (j + 1))) (c := F j - 97) hT.2.1 hn hx.2.1.1.1 hx.2.1.2.2.2 (by omega) (by omega)
        rw [show F j - 97 + 2 = F j - 95 by omega, show F j - 97 + 3 = F j - 95 + 1 by omega] at w1 w2
        have m1 : sc T n (LO T n (so - (j + 1)) (qf F (j + 1))) (F j - 95) ≤ sc T n (LO T n (so - (j + 1)) (qf F (j + 1))) (F j - 95 + 1) := sc_mono (by omega)
        have m2 : sc T n (LO T n (so - (j + 1)) (qf F (j + 1)) + SZ T n (so - (j + 1)) (qf F (j + 1))) (F j - 95) ≤ sc T n (LO T n (so - (j + 1)) (qf F (j + 1)) + SZ T n (so - (j + 1)) (qf F (j + 1))) (F j - 95 + 1) := sc_mono (by omega)
        rw [show sc T n (n + 1) (F j - 95) + (sc T n (LO T n (so - (j + 1)) (qf F (j + 1))) (F j - 95 + 1) - sc T n (LO T n (so - (j + 1)) (qf F (j + 1))) (F j - 95)) = LO T n (so - j) (qf F j) by omega] at w1
        rw [show sc T n (n + 1) (F j - 95) + (sc T n (LO T n (so - (j + 1)) (qf F (j + 1)) + SZ T n (so - (j + 1)) (qf F (j + 1))) (F j - 95 + 1) - sc T n (LO T n (so - (j + 1)) (qf F (j + 1)) + SZ T n (so - (j + 1)) (qf F (j + 1))) (F j - 95)) = LO T n (so - j) (qf F j) + SZ T n (so - j) (qf F j) by omega] at w2
        simp (disch := omega) only [Option.bind_some, if_true, if_false, Sum.elim_inl, Sum.elim_inr, li0, li1, li2, li3, li4, li5, li6, li7, li8, li9, li10, li12, li16, li20, li24, li25, li31, li32, li40, li41, li42, li48, li57, li59, li97, li104, li105, li124, li126, li240, li241, nI_add, nI_subc, nI_subm, nI_mulc, pu_r, pu_t, pu_a, pu_le_t, pu_le_f, pu_lt_t, pu_lt_f, pu_eq_t, pu_eq_f, nm_eq, nm_eq2, nm_lt, nm_lt2, nm_le, nm_le2, nm_ss, nm_sp, pu_ss, pu_snq, pu_neq, eq_self, and_true, true_and, and_false, false_and, or_true, true_or, or_false, false_or, not_true_eq_false, not_false_eq_true, dn_s, f2, eX4_rowWith_9, w1, w2, dn_p]
      · simp only [mX11_often_0_L48]
        simp (disch := omega) only [Option.bind_some, if_true, if_false, Sum.elim_inl, Sum.elim_inr, li0, li1, li2, li3, li4, li5, li6, li7, li8, li9, li10, li12, li16, li20, li24, li25, li31, li32, li40, li41, li42, li48, li57, li59, li97, li104, li105, li124, li126, li240, li241, nI_add, nI_subc, nI_subm, nI_mulc, nI_nm, pu_r, pu_t, pu_a, pu_le_t, pu_le_f, pu_lt_t, pu_lt_f, pu_eq_t, pu_eq_f, nm_eq, nm_eq2, nm_lt, nm_lt2, nm_le, nm_le2, nm_ss, nm_sp, pu_ss, pu_snq, pu_neq, eq_self, and_true, true_and, and_false, false_and, or_true, true_or, or_false, false_or, not_true_eq_false, not_false_eq_true, dn_0, Nat.sub_zero]
    have hle : LO T n so (qf F 0) + SZ T n so (qf F 0) ≤ n + 1 := lo_le
    have hd : LO T n so (qf F 0) + SZ T n so (qf F 0) - LO T n so (qf F 0) = SZ T n so (qf F 0) := by omega
    refine aQ.p (v := nI (SZ T n so (qf F 0))) (G := fun M0 => nX12_often M0 (nI so)) (fun M1 => zX12_often M1 _) h ha ?_ (fun M0 h0 hz hf => ?_)
    · have hl2 : me_l (mX11_often_0_L48 M) me_fu (nI 0, nI (n + 1), nI (so - 1)) = some (nI (LO T n so (qf F 0)), nI (LO T n so (qf F 0) + SZ T n so (qf F 0))) := by
        rw [← dn_s (so - 1), show so - 1 + 1 = so by omega]; exact hl
      simp (disch := omega) only [↓reduceIte, ↓needEb, ↓needAb, ↓needSb, ↓needE0l, ↓needE1l, ↓needA0l, ↓needA1l, ↓needS0l, ↓needS1l, ↓bnd c_isWhat, ↓bnd c_isSide, ↓bnd c_isLetter, ↓bnd c_isLength, ↓bnd c_isOften, ↓bnd r_in, ↓bnd r_isLetter, bI_t, bI_f, Bool.false_eq_true, Option.bind_none, Option.none_or, Option.some_or, xAN, xNA, xSA, Option.bind_some, if_true, if_false, Sum.elim_inl, Sum.elim_inr, li0, li1, li2, li3, li4, li5, li6, li7, li8, li9, li10, li12, li16, li20, li24, li25, li31, li32, li40, li41, li42, li48, li57, li59, li97, li104, li105, li124, li126, li240, li241, nI_add, nI_subc, nI_subm, nI_mulc, nI_nm, pu_r, pu_t, pu_a, pu_le_t, pu_le_f, pu_lt_t, pu_lt_f, pu_eq_t, pu_eq_f, nm_eq, nm_eq2, nm_lt, nm_lt2, nm_le, nm_le2, nm_ss, nm_sp, pu_ss, pu_snq, pu_neq, eq_self, and_true, true_and, and_false, false_and, or_true, true_or, or_false, false_or, not_true_eq_false, not_false_eq_true, hL_often, mX11_often_0, mX11_often_0_J27, mX11_often_0_J28, ↓bnd (c_holds hp1), hb0, e1, c1, hl2, hd]
    · have e2 := r_areLetters h0.2.2.1 s2
      rw [hal, bI_t] at e2
      have hM := h0.1.2.2.1.1
      have hpos : ∀ k, k < so → 0 < qf F 0 k := fun k hk => by
        have := hF (0 + k) (by omega)
        show 0 < F (0 + k) - 95
        omega
      have hcut : SZ T n so (qf F 0) = ct (fun p => decide (cp T n so (qf F 0) p = 1)) (n + 1 - so) := ct_cut (n + 1) (by omega) (fun i i1 i2 => decide_eq_false (fun z => by
        have := cp_fit hpos z (show i ≤ n by omega)
        omega))
      have hr : me_l (mX12_often_63_L45 M0 (nI so)) me_fu (nI 0, nI 0) = some (nI (SZ T n so (qf F 0))) := by
        rw [hcut]
        refine lp_to (fun x => (nI (ct (fun p => decide (cp T n so (qf F 0) p = 1)) x), nI x)) (a := 0) (N := n + 1 - so) (by omega) (by omega) (fun x _ hx9 => ?_) ?_
        · have hin : ∀ y, ∃ k, me_l (mX12_often_63_L58 M0 (nI so) y (nI x)) me_fu (nI 0) = some (nI k) ∧ k ≤ so ∧ (k = so ↔ cp T n so (qf F 0) x = 1) := fun y => by
            obtain ⟨r, e, k, rfl, k1, k2⟩ := lp_up (b := mX12_often_63_L58 M0 (nI so) y (nI x)) (fun z s => s = nI z ∧ ∀ k, k < z → tz T n (x + k) = qf F 0 k) (fun r => ∃ k, r = nI k ∧ k ≤ so ∧ (k = so ↔ cp T n so (qf F 0) x = 1)) (a := 0) (N := so) (by omega) (by omega) (fun z s _ hz9 hs => by
              obtain ⟨rfl, hI⟩ := hs
              obtain ⟨f1, -, f3⟩ := h0.2.2.1.2.2.2 z (by omega)
              obtain ⟨g1, g2⟩ := hF z hz9
              have hTz := hT.2.1 (x + z)
              have hbt := byt_lt hTz
              have hbe := byt_eq (c := F z - 97) hTz (by omega)
              rw [show 97 + (F z - 97) = F z by omega, show F z - 97 + 2 = F z - 95 by omega] at hbe
              have htz : tz T n (x + z) = T (x + z) := tz_le hT.1 (by omega)
              have hqz : qf F 0 z = F z - 95 := by show F (0 + z) - 95 = _; rw [Nat.zero_add]
              have h67 := hM.2 (x + z) (by omega)
              simp only [mX12_often_63_L58]
              by_cases c : byt (T (x + z)) = F z
              · left
                refine ⟨nI (z + 1), ?_, rfl, all_s.mpr ⟨hI, by rw [htz, hqz]; exact hbe.mp c⟩⟩
                simp (disch := omega) only [Option.bind_some, if_true, if_false, Sum.elim_inl, Sum.elim_inr, li0, li1, li2, li3, li4, li5, li6, li7, li8, li9, li10, li12, li16, li20, li24, li25, li31, li32, li40, li41, li42, li48, li57, li59, li97, li104, li105, li124, li126, li240, li241, nI_add, nI_subc, nI_subm, nI_mulc, nI_nm, pu_r, pu_t, pu_a, pu_le_t, pu_le_f, pu_lt_t, pu_lt_f, pu_eq_t, pu_eq_f, nm_eq, nm_eq2, nm_lt, nm_lt2, nm_le, nm_le2, nm_ss, nm_sp, pu_ss, pu_snq, pu_neq, eq_self, and_true, true_and, and_false, false_and, or_true, true_or, or_false, false_or, not_true_eq_false, not_false_eq_true, h67, r_byteOf, f3]
              · right
                refine ⟨nI z, ?_, z, rfl, by omega, fun q => by omega, fun q => ?_⟩
                · simp (disch := omega) only [Option.bind_some, if_true, if_false, Sum.elim_inl, Sum.elim_inr, li0, li1, li2, li3, li4, li5, li6, li7, li8, li9, li10, li12, li16, li20, li24, li25, li31, li32, li40, li41, li42, li48, li57, li59, li97, li104, li105, li124, li126, li240, li241, nI_add, nI_subc, nI_subm, nI_mulc, nI_nm, pu_r, pu_t, pu_a, pu_le_t, pu_le_f, pu_lt_t, pu_lt_f, pu_eq_t, pu_eq_f, nm_eq, nm_eq2, nm_lt, nm_lt2, nm_le, nm_le2, nm_ss, nm_sp, pu_ss, pu_snq, pu_neq, eq_self, and_true, true_and, and_false, false_and, or_true, true_or, or_false, false_or, not_true_eq_false, not_false_eq_true, h67, r_byteOf, f3]
                · exact absurd (hbe.mpr (by have := (cp_one so (qf F 0) x).mp q z hz9; rw [htz, hqz] at this; exact this)) c) (fun s hs => by
              obtain ⟨rfl, hI⟩ := hs
              refine ⟨nI so, ?_, so, rfl, Nat.le_refl _, fun _ => (cp_one so (qf F 0) x).mpr hI, fun _ => rfl⟩
              simp only [mX12_often_63_L58]
              simp (disch := omega) only [Option.bind_some, if_true, if_false, Sum.elim_inl, Sum.elim_inr, li0, li1, li2, li3, li4, li5, li6, li7, li8, li9, li10, li12, li16, li20, li24, li25, li31, li32, li40, li41, li42, li48, li57, li59, li97, li104, li105, li124, li126, li240, li241, nI_add, nI_subc, nI_subm, nI_mulc, nI_nm, pu_r, pu_t, pu_a, pu_le_t, pu_le_f, pu_lt_t, pu_lt_f, pu_eq_t, pu_eq_f, nm_eq, nm_eq2, nm_lt, nm_lt2, nm_le, nm_le2, nm_ss, nm_sp, pu_ss, pu_snq, pu_neq, eq_self, and_true, true_and, and_false, false_and, or_true, true_or, or_false, false_or, not_true_eq_false, not_false_eq_true]) (s0 := nI 0) ⟨rfl, fun k hk => absurd hk (Nat.not_lt_zero _)⟩
            exact ⟨k, e, k1, k2⟩
          obtain ⟨k, k0, k1, k2⟩ := hin (nI (ct (fun p => decide (cp T n so (qf F 0) p = 1)) x))
          simp only [mX12_often_63_L45, mX12_often_63_J106]
          rw [ct_s]
          by_cases c : cp T n so (qf F 0) x = 1
          · have := k2.mpr c
            simp (disch := omega) only [Option.bind_some, if_true, if_false, Sum.elim_inl, Sum.elim_inr, li0, li1, li2, li3, li4, li5, li6, li7, li8, li9, li10, li12, li16, li20, li24, li25, li31, li32, li40, li41, li42, li48, li57, li59, li97, li104, li105, li124, li126, li240, li241, nI_add, nI_subc, nI_subm, nI_mulc, nI_nm, pu_r, pu_t, pu_a, pu_le_t, pu_le_f, pu_lt_t, pu_lt_f, pu_eq_t, pu_eq_f, nm_eq, nm_eq2, nm_lt, nm_lt2, nm_le, nm_le2, nm_ss, nm_sp, pu_ss, pu_snq, pu_neq, eq_self, and_true, true_and, and_false, false_and, or_true, true_or, or_false, false_or, not_true_eq_false, not_false_eq_true, hM.1, k0, decide_eq_true c]
          · have : ¬ k = so := fun z => c (k2.mp z)
            simp (disch := omega) only [Option.bind_some, if_true, if_false, Sum.elim_inl, Sum.elim_inr, li0, li1, li2, li3, li4, li5, li6, li7, li8, li9, li10, li12, li16, li20, li24, li25, li31, li32, li40, li41, li42, li48, li57, li59, li97, li104, li105, li124, li126, li240, li241, nI_add, nI_subc, nI_subm, nI_mulc, nI_nm, pu_r, pu_t, pu_a, pu_le_t, pu_le_f, pu_lt_t, pu_lt_f, pu_eq_t, pu_eq_f, nm_eq, nm_eq2, nm_lt, nm_lt2, nm_le, nm_le2, nm_ss, nm_sp, pu_ss, pu_snq, pu_neq, eq_self, and_true, true_and, and_false, false_and, or_true, true_or, or_false, false_or, not_true_eq_false, not_false_eq_true, hM.1, k0, decide_eq_false c, Bool.false_eq_true, Nat.add_zero]
        · simp only [mX12_often_63_L45]
          simp (disch := omega) only [Option.bind_some, if_true, if_false, Sum.elim_inl, Sum.elim_inr, li0, li1, li2, li3, li4, li5, li6, li7, li8, li9, li10, li12, li16, li20, li24, li25, li31, li32, li40, li41, li42, li48, li57, li59, li97, li104, li105, li124, li126, li240, li241, nI_add, nI_subc, nI_subm, nI_mulc, nI_nm, pu_r, pu_t, pu_a, pu_le_t, pu_le_f, pu_lt_t, pu_lt_f, pu_eq_t, pu_eq_f, nm_eq, nm_eq2, nm_lt, nm_lt2, nm_le, nm_le2, nm_ss, nm_sp, pu_ss, pu_snq, pu_neq, eq_self, and_true, true_and, and_false, false_and, or_true, true_or, or_false, false_or, not_true_eq_false, not_false_eq_true, hM.1]
      simp (disch := omega) only [↓reduceIte, ↓needEb, ↓needAb, ↓needSb, ↓needE0l, ↓needE1l, ↓needA0l, ↓needA1l, ↓needS0l, ↓needS1l, ↓bnd c_isWhat, ↓bnd c_isSide, ↓bnd c_isLetter, ↓bnd c_isLength, ↓bnd c_isOften, ↓bnd r_in, ↓bnd r_isLetter, bI_t, bI_f, Bool.false_eq_true, Option.bind_none, Option.none_or, Option.some_or, xAN, xNA, xSA, Option.bind_some, if_true, if_false, Sum.elim_inl, Sum.elim_inr, li0, li1, li2, li3, li4, li5, li6, li7, li8, li9, li10, li12, li16, li20, li24, li25, li31, li32, li40, li41, li42, li48, li57, li59, li97, li104, li105, li124, li126, li240, li241, nI_add, nI_subc, nI_subm, nI_mulc, nI_nm, pu_r, pu_t, pu_a, pu_le_t, pu_le_f, pu_lt_t, pu_lt_f, pu_eq_t, pu_eq_f, nm_eq, nm_eq2, nm_lt, nm_lt2, nm_le, nm_le2, nm_ss, nm_sp, pu_ss, pu_snq, pu_neq, eq_self, and_true, true_and, and_false, false_and, or_true, true_or, or_false, false_or, not_true_eq_false, not_false_eq_true, nX12_often, mX12_often_63_J26, mX12_often_63_J31, h0.2.2.1.2.2.1, hb0, e2, ↓bnd (r_bad0l hz), hr]
theorem q_often {M : me_M} (h : Inv M) (a0 : Int32) : aQ (hL_often M a0) (fun M1 => mX12_often_63 M1 a0) := by
  obtain ⟨T, n, m, W, X, t, F, S, P, D, ha⟩ := h.vA
  have hT := ha.1.1
  have hx := ha.1.2.1
  have c1 := hx.1.1.1
  have hn := hT.2.2.2
  have h9 := hT.2.1
  have hp1 := ha.2.2.1.2.1
  have ht := ha.2.2.1.1
  have hm4 := ha.2.1.1.2.2.1
  have hm40 := ha.2.1.1.1
  cases hb0 : iB a0 (nI 1) (nI t) with
  | false =>
    refine aQ.t 1 1 (G := fun M0 => nX12_often M0 a0) (fun M1 => zX12_often M1 a0) h ha (by omega) (by omega) (by omega) ?_ (fun M0 h0 hz hf => ?_)
    · simp (disch := omega) only [↓reduceIte, ↓needEb, ↓needAb, ↓needSb, ↓needE0l, ↓needE1l, ↓needA0l, ↓needA1l, ↓needS0l, ↓needS1l, ↓bnd c_isWhat, ↓bnd c_isSide, ↓bnd c_isLetter, ↓bnd c_isLength, ↓bnd c_isOften, ↓bnd r_in, ↓bnd r_isLetter, bI_t, bI_f, Bool.false_eq_true, Option.bind_none, Option.none_or, Option.some_or, xAN, xNA, xSA, Option.bind_some, if_true, if_false, Sum.elim_inl, Sum.elim_inr, li0, li1, li2, li3, li4, li5, li6, li7, li8, li9, li10, li12, li16, li20, li24, li25, li31, li32, li40, li41, li42, li48, li57, li59, li97, li104, li105, li124, li126, li240, li241, nI_add, nI_subc, nI_subm, nI_mulc, nI_nm, pu_r, pu_t, pu_a, pu_le_t, pu_le_f, pu_lt_t, pu_lt_f, pu_eq_t, pu_eq_f, nm_eq, nm_eq2, nm_lt, nm_lt2, nm_le, nm_le2, nm_ss, nm_sp, pu_ss, pu_snq, pu_neq, eq_self, and_true, true_and, and_false, false_and, or_true, true_or, or_false, false_or, not_true_eq_false, not_false_eq_true, mX11_often_0_J28, mX11_often_0_J27, mX11_often_0, tX11_often_0_J28, tX11_often_0_J27, tX11_often_0, hL_often, ↓bnd (c_holds hp1), hb0]
    · simp (disch := omega) only [↓reduceIte, ↓needEb, ↓needAb, ↓needSb, ↓needE0l, ↓needE1l, ↓needA0l, ↓needA1l, ↓needS0l, ↓needS1l, ↓bnd c_isWhat, ↓bnd c_isSide, ↓bnd c_isLetter, ↓bnd c_isLength, ↓bnd c_isOften, ↓bnd r_in, ↓bnd r_isLetter, bI_t, bI_f, Bool.false_eq_true, Option.bind_none, Option.none_or, Option.some_or, xAN, xNA, xSA, Option.bind_some, if_true, if_false, Sum.elim_inl, Sum.elim_inr, li0, li1, li2, li3, li4, li5, li6, li7, li8, li9, li10, li12, li16, li20, li24, li25, li31, li32, li40, li41, li42, li48, li57, li59, li97, li104, li105, li124, li126, li240, li241, nI_add, nI_subc, nI_subm, nI_mulc, nI_nm, pu_r, pu_t, pu_a, pu_le_t, pu_le_f, pu_lt_t, pu_lt_f, pu_eq_t, pu_eq_f, nm_eq, nm_eq2, nm_lt, nm_lt2, nm_le, nm_le2, nm_ss, nm_sp, pu_ss, pu_snq, pu_neq, eq_self, and_true, true_and, and_false, false_and, or_true, true_or, or_false, false_or, not_true_eq_false, not_false_eq_true, nX12_often, mX12_often_63_J106, mX12_often_63_J31, mX12_often_63_J26, h0.2.2.1.2.2.1, hb0, ↓bnd (r_bad0l hz), ↓bnd (r_bad10 hz), ↓bnd (r_bad11 hz), ↓bnd (r_bad21 hz), ↓bnd (r_bad22 hz)]
  | true =>
    exact qr_often h ha a0 hb0
theorem q_match {M : me_M} (h : Inv M) (a0 a1 : Int32) : aQ (hL_match M a0 a1) (fun M1 => mX12_match_63 M1 a0 a1) := by
  obtain ⟨T, n, m, W, X, t, F, S, P, D, ha⟩ := h.vA
  obtain ⟨K, k1, k2, k3, k4⟩ := ha.2.2.2.2.2.2
  cases hb0 : iB a0 (nI 0) (dn K) with
  | false =>
    refine aQ.t 0 1 (G := fun M0 => nX12_match M0 a0 a1) (fun M1 => zX12_match M1 _ _) h ha (by omega) (by omega) (by omega) ?_ (fun M0 h0 hz hf => ?_)
    · simp (disch := omega) only [↓reduceIte, ↓needEb, ↓needAb, ↓needSb, ↓needE0l, ↓needE1l, ↓needA0l, ↓needA1l, ↓needS0l, ↓needS1l, ↓bnd c_isWhat, ↓bnd c_isSide, ↓bnd c_isLetter, ↓bnd c_isLength, ↓bnd c_isOften, ↓bnd r_in, ↓bnd r_isLetter, bI_t, bI_f, Bool.false_eq_true, Option.bind_none, Option.none_or, Option.some_or, xAN, xNA, xSA, Option.bind_some, if_true, if_false, Sum.elim_inl, Sum.elim_inr, li0, li1, li2, li3, li4, li5, li6, li7, li8, li9, li10, li12, li16, li20, li24, li25, li31, li32, li40, li41, li42, li48, li57, li59, li97, li104, li105, li124, li126, li240, li241, nI_add, nI_subc, nI_subm, nI_mulc, nI_nm, pu_r, pu_t, pu_a, pu_le_t, pu_le_f, pu_lt_t, pu_lt_f, pu_eq_t, pu_eq_f, nm_eq, nm_eq2, nm_lt, nm_lt2, nm_le, nm_le2, nm_ss, nm_sp, pu_ss, pu_snq, pu_neq, eq_self, and_true, true_and, and_false, false_and, or_true, true_or, or_false, false_or, not_true_eq_false, not_false_eq_true, hL_match, mX11_match_0, mX11_match_0_J20, mX11_match_0_J21, tX11_match_0, tX11_match_0_J20, tX11_match_0_J21, k2, c_rng, hb0]
    · have k5 : M0.1 63 38 = nI K := by rw [hf _ _ (by omega) (by omega)]; exact k3
      simp (disch := omega) only [↓reduceIte, ↓needEb, ↓needAb, ↓needSb, ↓needE0l, ↓needE1l, ↓needA0l, ↓needA1l, ↓needS0l, ↓needS1l, ↓bnd c_isWhat, ↓bnd c_isSide, ↓bnd c_isLetter, ↓bnd c_isLength, ↓bnd c_isOften, ↓bnd r_in, ↓bnd r_isLetter, bI_t, bI_f, Bool.false_eq_true, Option.bind_none, Option.none_or, Option.some_or, xAN, xNA, xSA, Option.bind_some, if_true, if_false, Sum.elim_inl, Sum.elim_inr, li0, li1, li2, li3, li4, li5, li6, li7, li8, li9, li10, li12, li16, li20, li24, li25, li31, li32, li40, li41, li42, li48, li57, li59, li97, li104, li105, li124, li126, li240, li241, nI_add, nI_mulc, nI_nm, pu_r, pu_t, pu_a, pu_le_t, pu_le_f, pu_lt_t, pu_lt_f, pu_eq_t, pu_eq_f, nm_eq, nm_eq2, nm_lt, nm_lt2, nm_le, nm_le2, nm_ss, nm_sp, pu_ss, pu_snq, pu_neq, eq_self, and_true, true_and, and_false, false_and, or_true, true_or, or_false, false_or, not_true_eq_false, not_false_eq_true, nX12_match, mX12_match_63_J25, mX12_match_63_J48, k5, dn_m, hb0, ↓bnd (r_bad10 hz)]
  | true =>
    cases hb1 : iB a1 (nI 0) (nI 3) with
    | false =>
      refine aQ.t 1 2 (G := fun M0 => nX12_match M0 a0 a1) (fun M1 => zX12_match M1 _ _) h ha (by omega) (by omega) (by omega) ?_ (fun M0 h0 hz hf => ?_)
      · simp (disch := omega) only [↓reduceIte, ↓needEb, ↓needAb, ↓needSb, ↓needE0l, ↓needE1l, ↓needA0l, ↓needA1l, ↓needS0l, ↓needS1l, ↓bnd c_isWhat, ↓bnd c_isSide, ↓bnd c_isLetter, ↓bnd c_isLength, ↓bnd c_isOften, ↓bnd r_in, ↓bnd r_isLetter, bI_t, bI_f, Bool.false_eq_true, Option.bind_none, Option.none_or, Option.some_or, xAN, xNA, xSA, Option.bind_some, if_true, if_false, Sum.elim_inl, Sum.elim_inr, li0, li1, li2, li3, li4, li5, li6, li7, li8, li9, li10, li12, li16, li20, li24, li25, li31, li32, li40, li41, li42, li48, li57, li59, li97, li104, li105, li124, li126, li240, li241, nI_add, nI_subc, nI_subm, nI_mulc, nI_nm, pu_r, pu_t, pu_a, pu_le_t, pu_le_f, pu_lt_t, pu_lt_f, pu_eq_t, pu_eq_f, nm_eq, nm_eq2, nm_lt, nm_lt2, nm_le, nm_le2, nm_ss, nm_sp, pu_ss, pu_snq, pu_neq, eq_self, and_true, true_and, and_false, false_and, or_true, true_or, or_false, false_or, not_true_eq_false, not_false_eq_true, hL_match, mX11_match_0, mX11_match_0_J20, mX11_match_0_J21, tX11_match_0, tX11_match_0_J20, tX11_match_0_J21, k2, c_rng, hb0, hb1]
      · have k5 : M0.1 63 38 = nI K := by rw [hf _ _ (by omega) (by omega)]; exact k3
        simp (disch := omega) only [↓reduceIte, ↓needEb, ↓needAb, ↓needSb, ↓needE0l, ↓needE1l, ↓needA0l, ↓needA1l, ↓needS0l, ↓needS1l, ↓bnd c_isWhat, ↓bnd c_isSide, ↓bnd c_isLetter, ↓bnd c_isLength, ↓bnd c_isOften, ↓bnd r_in, ↓bnd r_isLetter, bI_t, bI_f, Bool.false_eq_true, Option.bind_none, Option.none_or, Option.some_or, xAN, xNA, xSA, Option.bind_some, if_true, if_false, Sum.elim_inl, Sum.elim_inr, li0, li1, li2, li3, li4, li5, li6, li7, li8, li9, li10, li12, li16, li20, li24, li25, li31, li32, li40, li41, li42, li48, li57, li59, li97, li104, li105, li124, li126, li240, li241, nI_add, nI_mulc, nI_nm, pu_r, pu_t, pu_a, pu_le_t, pu_le_f, pu_lt_t, pu_lt_f, pu_eq_t, pu_eq_f, nm_eq, nm_eq2, nm_lt, nm_lt2, nm_le, nm_le2, nm_ss, nm_sp, pu_ss, pu_snq, pu_neq, eq_self, and_true, true_and, and_false, false_and, or_true, true_or, or_false, false_or, not_true_eq_false, not_false_eq_true, nX12_match, mX12_match_63_J25, mX12_match_63_J48, k5, dn_m, hb0, hb1, ↓bnd (r_bad0l hz), ↓bnd (r_bad21 hz)]
    | true =>
      obtain ⟨k, hk, rfl⟩ := iB_d hb0 (by omega)
      obtain ⟨j, -, hj, rfl⟩ := iB_n hb1 (by omega) (by omega)
      obtain ⟨g0, g1, g2, g3⟩ := k4 k hk
      refine aQ.p (v := M.1 (184 + k) j) (G := fun M0 => nX12_match M0 (nI k) (nI j)) (fun M1 => zX12_match M1 _ _) h ha ?_ (fun M0 h0 hz hf => ?_)
      · have hj4 : j = 0 ∨ j = 1 ∨ j = 2 ∨ j = 3 := by omega
        rcases hj4 with rfl | rfl | rfl | rfl
        · simp (disch := omega) only [↓reduceIte, ↓needEb, ↓needAb, ↓needSb, ↓needE0l, ↓needE1l, ↓needA0l, ↓needA1l, ↓needS0l, ↓needS1l, ↓bnd c_isWhat, ↓bnd c_isSide, ↓bnd c_isLetter, ↓bnd c_isLength, ↓bnd c_isOften, ↓bnd r_in, ↓bnd r_isLetter, bI_t, bI_f, Bool.false_eq_true, Option.bind_none, Option.none_or, Option.some_or, xAN, xNA, xSA, Option.bind_some, if_true, if_false, Sum.elim_inl, Sum.elim_inr, li0, li1, li2, li3, li4, li5, li6, li7, li8, li9, li10, li12, li16, li20, li24, li25, li31, li32, li40, li41, li42, li48, li57, li59, li97, li104, li105, li124, li126, li240, li241, nI_add, nI_subc, nI_subm, nI_mulc, nI_nm, pu_r, pu_t, pu_a, pu_le_t, pu_le_f, pu_lt_t, pu_lt_f, pu_eq_t, pu_eq_f, nm_eq, nm_eq2, nm_lt, nm_lt2, nm_le, nm_le2, nm_ss, nm_sp, pu_ss, pu_snq, pu_neq, eq_self, and_true, true_and, and_false, false_and, or_true, true_or, or_false, false_or, not_true_eq_false, not_false_eq_true, hL_match, mX11_match_0, mX11_match_0_J20, mX11_match_0_J21, k2, c_rng, hb0, hb1, g0]
        · simp (disch := omega) only [↓reduceIte, ↓needEb, ↓needAb, ↓needSb, ↓needE0l, ↓needE1l, ↓needA0l, ↓needA1l, ↓needS0l, ↓needS1l, ↓bnd c_isWhat, ↓bnd c_isSide, ↓bnd c_isLetter, ↓bnd c_isLength, ↓bnd c_isOften, ↓bnd r_in, ↓bnd r_isLetter, bI_t, bI_f, Bool.false_eq_true, Option.bind_none, Option.none_or, Option.some_or, xAN, xNA, xSA, Option.bind_some, if_true, if_false, Sum.elim_inl, Sum.elim_inr, li0, li1, li2, li3, li4, li5, li6, li7, li8, li9, li10, li12, li16, li20, li24, li25, li31, li32, li40, li41, li42, li48, li57, li59, li97, li104, li105, li124, li126, li240, li241, nI_add, nI_subc, nI_subm, nI_mulc, nI_nm, pu_r, pu_t, pu_a, pu_le_t, pu_le_f, pu_lt_t, pu_lt_f, pu_eq_t, pu_eq_f, nm_eq, nm_eq2, nm_lt, nm_lt2, nm_le, nm_le2, nm_ss, nm_sp, pu_ss, pu_snq, pu_neq, eq_self, and_true, true_and, and_false, false_and, or_true, true_or, or_false, false_or, not_true_eq_false, not_false_eq_true, hL_match, mX11_match_0, mX11_match_0_J20, mX11_match_0_J21, k2, c_rng, hb0, hb1, g1]
        · simp (disch := omega) only [↓reduceIte, ↓needEb, ↓needAb, ↓needSb, ↓needE0l, ↓needE1l, ↓needA0l, ↓needA1l, ↓needS0l, ↓needS1l, ↓bnd c_isWhat, ↓bnd c_isSide, ↓bnd c_isLetter, ↓bnd c_isLength, ↓bnd c_isOften, ↓bnd r_in, ↓bnd r_isLetter, bI_t, bI_f, Bool.false_eq_true, Option.bind_none, Option.none_or, Option.some_or, xAN, xNA, xSA, Option.bind_some, if_true, if_false, Sum.elim_inl, Sum.elim_inr, li0, li1, li2, li3, li4, li5, li6, li7, li8, li9, li10, li12, li16, li20, li24, li25, li31, li32, li40, li41, li42, li48, li57, li59, li97, li104, li105, li124, li126, li240, li241, nI_add, nI_subc, nI_subm, nI_mulc, nI_nm, pu_r, pu_t, pu_a, pu_le_t, pu_le_f, pu_lt_t, pu_lt_f, pu_eq_t, pu_eq_f, nm_eq, nm_eq2, nm_lt, nm_lt2, nm_le, nm_le2, nm_ss, nm_sp, pu_ss, pu_snq, pu_neq, eq_self, and_true, true_and, and_false, false_and, or_true, true_or, or_false, false_or, not_true_eq_false, not_false_eq_true, hL_match, mX11_match_0, mX11_match_0_J20, mX11_match_0_J21, k2, c_rng, hb0, hb1, g2]
        · simp (disch := omega) only [↓reduceIte, ↓needEb, ↓needAb, ↓needSb, ↓needE0l, ↓needE1l, ↓needA0l, ↓needA1l, ↓needS0l, ↓needS1l, ↓bnd c_isWhat, ↓bnd c_isSide, ↓bnd c_isLetter, ↓bnd c_isLength, ↓bnd c_isOften, ↓bnd r_in, ↓bnd r_isLetter, bI_t, bI_f, Bool.false_eq_true, Option.bind_none, Option.none_or, Option.some_or, xAN, xNA, xSA, Option.bind_some, if_true, if_false, Sum.elim_inl, Sum.elim_inr, li0, li1, li2, li3, li4, li5, li6, li7, li8, li9, li10, li12, li16, li20, li24, li25, li31, li32, li40, li41, li42, li48, li57, li59, li97, li104, li105, li124, li126, li240, li241, nI_add, nI_subc, nI_subm, nI_mulc, nI_nm, pu_r, pu_t, pu_a, pu_le_t, pu_le_f, pu_lt_t, pu_lt_f, pu_eq_t, pu_eq_f, nm_eq, nm_eq2, nm_lt, nm_lt2, nm_le, nm_le2, nm_ss, nm_sp, pu_ss, pu_snq, pu_neq, eq_self, and_true, true_and, and_false, false_and, or_true, true_or, or_false, false_or, not_true_eq_false, not_false_eq_true, hL_match, mX11_match_0, mX11_match_0_J20, mX11_match_0_J21, k2, c_rng, hb0, hb1, g3]
      · have k5 : M0.1 63 38 = nI K := by rw [hf _ _ (by omega)]; exact k3
        have k6 : M0.1 (184 + k) j = M.1 (184 + k) j := hf _ _ (by omega)
        simp (disch := omega) only [↓reduceIte, ↓needEb, ↓needAb, ↓needSb, ↓needE0l, ↓needE1l, ↓needA0l, ↓needA1l, ↓needS0l, ↓needS1l, ↓bnd c_isWhat, ↓bnd c_isSide, ↓bnd c_isLetter, ↓bnd c_isLength, ↓bnd c_isOften, ↓bnd r_in, ↓bnd r_isLetter, bI_t, bI_f, Bool.false_eq_true, Option.bind_none, Option.none_or, Option.some_or, xAN, xNA, xSA, Option.bind_some, if_true, if_false, Sum.elim_inl, Sum.elim_inr, li0, li1, li2, li3, li4, li5, li6, li7, li8, li9, li10, li12, li16, li20, li24, li25, li31, li32, li40, li41, li42, li48, li57, li59, li97, li104, li105, li124, li126, li240, li241, nI_add, nI_mulc, nI_nm, pu_r, pu_t, pu_a, pu_le_t, pu_le_f, pu_lt_t, pu_lt_f, pu_eq_t, pu_eq_f, nm_eq, nm_eq2, nm_lt, nm_lt2, nm_le, nm_le2, nm_ss, nm_sp, pu_ss, pu_snq, pu_neq, eq_self, and_true, true_and, and_false, false_and, or_true, true_or, or_false, false_or, not_true_eq_false, not_false_eq_true, nX12_match, mX12_match_63_J25, mX12_match_63_J48, k5, dn_m, hb0, hb1, ↓bnd (r_bad0l hz), k6]
