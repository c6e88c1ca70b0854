/-! ===== the reference's cursor ===== -/
/-- the reference's cursor holds a pattern -/
def rc (m : Nat) (Q : Nat → Nat) (f : Nat) (M : me_M) : Prop := M.1 63 10 = nI f ∧ M.1 63 11 = nI (f + m) ∧ f + m ≤ 84 ∧ ∀ i, i < m → M.1 75 (f + i) = nI (Q i) ∧ 2 ≤ Q i ∧ Q i < 10
def cpi (x : Nat) : Int32 := if x = 0 then -nI 1 else if x = 1 then nI 0 else nI 1
theorem rc.pos {m f : Nat} {Q : Nat → Nat} {M : me_M} (h : rc m Q f M) : ∀ i, i < m → 0 < Q i := fun i hi => by have := (h.2.2.2 i hi).2.1; omega
theorem r_letters {m f : Nat} {Q : Nat → Nat} {M : me_M} (h : rc m Q f M) : mX12_letters_63 M = some (nI m) := by
  unfold mX12_letters_63
  simp (disch := omega) only [Option.bind_some, if_true, if_false, Sum.elim_inl, Sum.elim_inr, li0, li1, li2, li3, li4, li5, li6, li7, li8, li9, li10, li12, li16, li20, li24, li25, li31, li32, li40, li41, li42, li48, li57, li59, li97, li104, li105, li124, li126, li240, li241, nI_add, nI_subc, nI_subm, nI_mulc, nI_nm, pu_r, pu_t, pu_a, pu_le_t, pu_le_f, pu_lt_t, pu_lt_f, pu_eq_t, pu_eq_f, nm_eq, nm_eq2, nm_lt, nm_lt2, nm_le, nm_le2, nm_ss, nm_sp, pu_ss, pu_snq, pu_neq, eq_self, and_true, true_and, and_false, false_and, or_true, true_or, or_false, false_or, not_true_eq_false, not_false_eq_true, h.1, h.2.1, show f + m - f = m by omega]
/-- the pattern as a side reads it -/
def qd (m : Nat) (Q : Nat → Nat) (b : Nat) : Nat → Nat := if b = 0 then Q else rq m Q
theorem tz_lt {T : Nat → Nat} {n i : Nat} (h : ∀ i, T i < 10) : tz T n i < 10 := by
  unfold tz
  split
  · exact h _
  · decide
theorem r_against {T : Nat → Nat} {n m f b r : Nat} {Q : Nat → Nat} {M : me_M} (hT : tx9 T n) (hR : ry T n M) (hc : rc m Q f M) (hb : b < 2) (hr : r ≤ n) : mX12_against_63 M (nI b) (nI r) = some (cpi (cp (sd T n b) n m (qd m Q b) (pa (sd T n b) n r))) := by
  have hU := sd9 (b := b) hT
  have hn := hT.2.2.2
  have hm := hc.2.2.1
  obtain ⟨p1, p2⟩ := pa_ok (r := r) hU.1 hr
  generalize hp : pa (sd T n b) n r = p at p1 p2 ⊢
  have a1 : M.1 (70 + b) r = nI p := by have := ((hR.2 b hb).2 p p1).1; rw [p2] at this; exact this
  have a2 : ∀ i, i ≤ n → M.1 (67 + b) i = nI (sd T n b i) := (hR.2 b hb).1
  have a3 := hR.1.1
  have hq : ∀ k, k < m → qd m Q b k < 10 := fun k hk => by
    unfold qd
    split
    · exact (hc.2.2.2 k hk).2.2
    · exact (hc.2.2.2 (m - 1 - k) (by omega)).2.2
  obtain ⟨v, h1, h2⟩ := lp_up (b := mX12_against_63_L2 M (nI b) (nI r)) (fun k st => st = nI k ∧ cp (sd T n b) n m (qd m Q b) p = cp (sd T n b) n (m - k) (fun i => qd m Q b (k + i)) (p + k)) (fun v => (v = .inl () ∧ cp (sd T n b) n m (qd m Q b) p = 1) ∨ v = .inr (cpi (cp (sd T n b) n m (qd m Q b) p))) (a := 0) (N := m) (by omega) (by omega) (fun k st _ hk hI => by
    obtain ⟨rfl, hI⟩ := hI
    have e0 : m - k = (m - k - 1) + 1 := by omega
    rw [e0] at hI
    have hI : cp (sd T n b) n m (qd m Q b) p = if tz (sd T n b) n (p + k) = qd m Q b k then cp (sd T n b) n (m - k - 1) (fun i => qd m Q b (k + (i + 1))) (p + k + 1) else if tz (sd T n b) n (p + k) < qd m Q b k then 0 else 2 := hI
    have hz := tz_lt (T := sd T n b) (n := n) (i := p + k) hU.2.1
    have hq := hq k hk
    have hJ : mX12_against_63_J48 (nI b) (nI r) (nI k) M (nI (tz (sd T n b) n (p + k))) = if tz (sd T n b) n (p + k) = qd m Q b k then some (.inl (nI (k + 1))) else if tz (sd T n b) n (p + k) < qd m Q b k then some (.inr (.inr (-nI 1))) else some (.inr (.inr (nI 1))) := by
      have hJ2 : mX12_against_63_J81 (nI b) (nI r) (nI k) (nI (tz (sd T n b) n (p + k))) M (nI (qd m Q b k)) = if tz (sd T n b) n (p + k) = qd m Q b k then some (.inl (nI (k + 1))) else if tz (sd T n b) n (p + k) < qd m Q b k then some (.inr (.inr (-nI 1))) else some (.inr (.inr (nI 1))) := by
        unfold mX12_against_63_J81
        by_cases c : tz (sd T n b) n (p + k) = qd m Q b k
        · simp (disch := omega) only [Option.bind_some, if_true, if_false, Sum.elim_inl, Sum.elim_inr, li0, li1, li2, li3, li4, li5, li6, li7, li8, li9, li10, li12, li16, li20, li24, li25, li31, li32, li40, li41, li42, li48, li57, li59, li97, li104, li105, li124, li126, li240, li241, nI_add, nI_subc, nI_subm, nI_mulc, nI_nm, pu_r, pu_t, pu_a, pu_le_t, pu_le_f, pu_lt_t, pu_lt_f, pu_eq_t, pu_eq_f, nm_eq, nm_eq2, nm_lt, nm_lt2, nm_le, nm_le2, nm_ss, nm_sp, pu_ss, pu_snq, pu_neq, eq_self, and_true, true_and, and_false, false_and, or_true, true_or, or_false, false_or, not_true_eq_false, not_false_eq_true, c]
        · rw [if_neg c]
          by_cases d : tz (sd T n b) n (p + k) < qd m Q b k
          · rw [if_pos d]; simp (disch := omega) only [Option.bind_some, if_true, if_false, Sum.elim_inl, Sum.elim_inr, li0, li1, li2, li3, li4, li5, li6, li7, li8, li9, li10, li12, li16, li20, li24, li25, li31, li32, li40, li41, li42, li48, li57, li59, li97, li104, li105, li124, li126, li240, li241, nI_add, nI_subc, nI_subm, nI_mulc, nI_nm, pu_r, pu_t, pu_a, pu_le_t, pu_le_f, pu_lt_t, pu_lt_f, pu_eq_t, pu_eq_f, nm_eq, nm_eq2, nm_lt, nm_lt2, nm_le, nm_le2, nm_ss, nm_sp, pu_ss, pu_snq, pu_neq, eq_self, and_true, true_and, and_false, false_and, or_true, true_or, or_false, false_or, not_true_eq_false, not_false_eq_true]
          · rw [if_neg d]; simp (disch := omega) only [Option.bind_some, if_true, if_false, Sum.elim_inl, Sum.elim_inr, li0, li1, li2, li3, li4, li5, li6, li7, li8, li9, li10, li12, li16, li20, li24, li25, li31, li32, li40, li41, li42, li48, li57, li59, li97, li104, li105, li124, li126, li240, li241, nI_add, nI_subc, nI_subm, nI_mulc, nI_nm, pu_r, pu_t, pu_a, pu_le_t, pu_le_f, pu_lt_t, pu_lt_f, pu_eq_t, pu_eq_f, nm_eq, nm_eq2, nm_lt, nm_lt2, nm_le, nm_le2, nm_ss, nm_sp, pu_ss, pu_snq, pu_neq, eq_self, and_true, true_and, and_false, false_and, or_true, true_or, or_false, false_or, not_true_eq_false, not_false_eq_true]
      rw [← hJ2]
      unfold mX12_against_63_J48
      by_cases e : b = 0
      · have := (hc.2.2.2 k hk).1
        have e2 : qd m Q b k = Q k := by unfold qd; rw [if_pos e]
        simp (disch := omega) only [Option.bind_some, if_true, if_false, Sum.elim_inl, Sum.elim_inr, li0, li1, li2, li3, li4, li5, li6, li7, li8, li9, li10, li12, li16, li20, li24, li25, li31, li32, li40, li41, li42, li48, li57, li59, li97, li104, li105, li124, li126, li240, li241, nI_add, nI_subc, nI_subm, nI_mulc, nI_nm, pu_r, pu_t, pu_a, pu_le_t, pu_le_f, pu_lt_t, pu_lt_f, pu_eq_t, pu_eq_f, nm_eq, nm_eq2, nm_lt, nm_lt2, nm_le, nm_le2, nm_ss, nm_sp, pu_ss, pu_snq, pu_neq, eq_self, and_true, true_and, and_false, false_and, or_true, true_or, or_false, false_or, not_true_eq_false, not_false_eq_true, hc.1, this, e2]
      · have := (hc.2.2.2 (m - 1 - k) (by omega)).1
        have e2 : qd m Q b k = Q (m - 1 - k) := by unfold qd; rw [if_neg e]; rfl
        have e3 : f + m - 1 - k = f + (m - 1 - k) := by omega
        simp (disch := omega) only [Option.bind_some, if_true, if_false, Sum.elim_inl, Sum.elim_inr, li0, li1, li2, li3, li4, li5, li6, li7, li8, li9, li10, li12, li16, li20, li24, li25, li31, li32, li40, li41, li42, li48, li57, li59, li97, li104, li105, li124, li126, li240, li241, nI_add, nI_subc, nI_subm, nI_mulc, nI_nm, pu_r, pu_t, pu_a, pu_le_t, pu_le_f, pu_lt_t, pu_lt_f, pu_eq_t, pu_eq_f, nm_eq, nm_eq2, nm_lt, nm_lt2, nm_le, nm_le2, nm_ss, nm_sp, pu_ss, pu_snq, pu_neq, eq_self, and_true, true_and, and_false, false_and, or_true, true_or, or_false, false_or, not_true_eq_false, not_false_eq_true, hc.2.1, e3, this, e2]
    have hL : mX12_against_63_L2 M (nI b) (nI r) (nI k) = mX12_against_63_J48 (nI b) (nI r) (nI k) M (nI (tz (sd T n b) n (p + k))) := by
      simp only [mX12_against_63_L2, r_letters hc]
      by_cases c : n ≤ p + k
      · have : tz (sd T n b) n (p + k) = 0 := by unfold tz; rw [if_neg (by omega)]
        rw [this]
        simp (disch := omega) only [Option.bind_some, if_true, if_false, Sum.elim_inl, Sum.elim_inr, li0, li1, li2, li3, li4, li5, li6, li7, li8, li9, li10, li12, li16, li20, li24, li25, li31, li32, li40, li41, li42, li48, li57, li59, li97, li104, li105, li124, li126, li240, li241, nI_add, nI_subc, nI_subm, nI_mulc, nI_nm, pu_r, pu_t, pu_a, pu_le_t, pu_le_f, pu_lt_t, pu_lt_f, pu_eq_t, pu_eq_f, nm_eq, nm_eq2, nm_lt, nm_lt2, nm_le, nm_le2, nm_ss, nm_sp, pu_ss, pu_snq, pu_neq, eq_self, and_true, true_and, and_false, false_and, or_true, true_or, or_false, false_or, not_true_eq_false, not_false_eq_true, a1, a3]
      · have : tz (sd T n b) n (p + k) = sd T n b (p + k) := by unfold tz; rw [if_pos (by omega)]
        rw [this]
        simp (disch := omega) only [Option.bind_some, if_true, if_false, Sum.elim_inl, Sum.elim_inr, li0, li1, li2, li3, li4, li5, li6, li7, li8, li9, li10, li12, li16, li20, li24, li25, li31, li32, li40, li41, li42, li48, li57, li59, li97, li104, li105, li124, li126, li240, li241, nI_add, nI_subc, nI_subm, nI_mulc, nI_nm, pu_r, pu_t, pu_a, pu_le_t, pu_le_f, pu_lt_t, pu_lt_f, pu_eq_t, pu_eq_f, nm_eq, nm_eq2, nm_lt, nm_lt2, nm_le, nm_le2, nm_ss, nm_sp, pu_ss, pu_snq, pu_neq, eq_self, and_true, true_and, and_false, false_and, or_true, true_or, or_false, false_or, not_true_eq_false, not_false_eq_true, a1, a3, a2]
    rw [hL, hJ]
    by_cases c : tz (sd T n b) n (p + k) = qd m Q b k
    · left
      rw [if_pos c] at hI ⊢
      refine ⟨_, rfl, rfl, ?_⟩
      rw [hI, show m - k - 1 = m - (k + 1) by omega, show p + k + 1 = p + (k + 1) by omega]
      exact cp_cong _ _ _ _ (fun i _ => by rw [show k + (i + 1) = k + 1 + i by omega])
    · right
      rw [if_neg c] at hI ⊢
      by_cases d : tz (sd T n b) n (p + k) < qd m Q b k
      · rw [if_pos d] at hI ⊢
        exact ⟨_, rfl, Or.inr (by rw [hI]; rfl)⟩
      · rw [if_neg d] at hI ⊢
        exact ⟨_, rfl, Or.inr (by rw [hI]; rfl)⟩) (fun st hI => by
    obtain ⟨rfl, hI⟩ := hI
    rw [Nat.sub_self] at hI
    simp only [mX12_against_63_L2, r_letters hc]
    simp (disch := omega) only [Option.bind_some, if_true, if_false, Sum.elim_inl, Sum.elim_inr, li0, li1, li2, li3, li4, li5, li6, li7, li8, li9, li10, li12, li16, li20, li24, li25, li31, li32, li40, li41, li42, li48, li57, li59, li97, li104, li105, li124, li126, li240, li241, nI_add, nI_subc, nI_subm, nI_mulc, nI_nm, pu_r, pu_t, pu_a, pu_le_t, pu_le_f, pu_lt_t, pu_lt_f, pu_eq_t, pu_eq_f, nm_eq, nm_eq2, nm_lt, nm_lt2, nm_le, nm_le2, nm_ss, nm_sp, pu_ss, pu_snq, pu_neq, eq_self, and_true, true_and, and_false, false_and, or_true, true_or, or_false, false_or, not_true_eq_false, not_false_eq_true]
    exact ⟨_, rfl, Or.inl ⟨rfl, hI⟩⟩) (s0 := nI 0) ⟨rfl, by
      rw [Nat.sub_zero, Nat.add_zero]
      exact cp_cong _ _ _ _ (fun i _ => by rw [Nat.zero_add])⟩
  unfold mX12_against_63
  rcases h2 with ⟨rfl, h2⟩ | rfl
  · simp (disch := omega) only [Option.bind_some, if_true, if_false, Sum.elim_inl, Sum.elim_inr, li0, li1, li2, li3, li4, li5, li6, li7, li8, li9, li10, li12, li16, li20, li24, li25, li31, li32, li40, li41, li42, li48, li57, li59, li97, li104, li105, li124, li126, li240, li241, nI_add, nI_subc, nI_subm, nI_mulc, nI_nm, pu_r, pu_t, pu_a, pu_le_t, pu_le_f, pu_lt_t, pu_lt_f, pu_eq_t, pu_eq_f, nm_eq, nm_eq2, nm_lt, nm_lt2, nm_le, nm_le2, nm_ss, nm_sp, pu_ss, pu_snq, pu_neq, eq_self, and_true, true_and, and_false, false_and, or_true, true_or, or_false, false_or, not_true_eq_false, not_false_eq_true, h1, h2]
    rfl
  · simp (disch := omega) only [Option.bind_some, if_true, if_false, Sum.elim_inl, Sum.elim_inr, li0, li1, li2, li3, li4, li5, li6, li7, li8, li9, li10, li12, li16, li20, li24, li25, li31, li32, li40, li41, li42, li48, li57, li59, li97, li104, li105, li124, li126, li240, li241, nI_add, nI_subc, nI_subm, nI_mulc, nI_nm, pu_r, pu_t, pu_a, pu_le_t, pu_le_f, pu_lt_t, pu_lt_f, pu_eq_t, pu_eq_f, nm_eq, nm_eq2, nm_lt, nm_lt2, nm_le, nm_le2, nm_ss, nm_sp, pu_ss, pu_snq, pu_neq, eq_self, and_true, true_and, and_false, false_and, or_true, true_or, or_false, false_or, not_true_eq_false, not_false_eq_true, h1]
theorem LO_le {T : Nat → Nat} {n m : Nat} {Q : Nat → Nat} : LO T n m Q ≤ n + 1 := ct_le _ _
theorem r_lowOf {T : Nat → Nat} {n m f b : Nat} {Q : Nat → Nat} {M : me_M} (hT : tx9 T n) (hR : ry T n M) (hc : rc m Q f M) (hb : b < 2) : mX12_lowOf_63 M (nI b) = some (nI (LO (sd T n b) n m (qd m Q b))) := by
  have hU := sd9 (b := b) hT
  have hn := hT.2.2.2
  have hq : ∀ k, k < m → 0 < qd m Q b k := fun k hk => by
    unfold qd
    split
    · exact hc.pos k hk
    · exact hc.pos (m - 1 - k) (by omega)
  have hle : LO (sd T n b) n m (qd m Q b) ≤ n + 1 := LO_le
  have a3 := hR.1.1
  have h : me_l (mX12_lowOf_63_L2 M (nI b)) me_fu (nI 0) = some (nI (LO (sd T n b) n m (qd m Q b))) := by
    refine lp_to (fun x => nI x) (a := 0) (N := LO (sd T n b) n m (qd m Q b)) (by omega) (by omega) (fun x _ hx => ?_) ?_
    · obtain ⟨p1, p2⟩ := pa_ok (r := x) hU.1 (by omega)
      have h0 := (lo_iff hU.1 hq p1).mpr (by rw [p2]; exact hx)
      simp only [mX12_lowOf_63_L2]
      simp (disch := omega) only [Option.bind_some, if_true, if_false, Sum.elim_inl, Sum.elim_inr, li0, li1, li2, li3, li4, li5, li6, li7, li8, li9, li10, li12, li16, li20, li24, li25, li31, li32, li40, li41, li42, li48, li57, li59, li97, li104, li105, li124, li126, li240, li241, nI_add, nI_subc, nI_subm, nI_mulc, nI_nm, pu_r, pu_t, pu_a, pu_le_t, pu_le_f, pu_lt_t, pu_lt_f, pu_eq_t, pu_eq_f, nm_eq, nm_eq2, nm_lt, nm_lt2, nm_le, nm_le2, nm_ss, nm_sp, pu_ss, pu_snq, pu_neq, eq_self, and_true, true_and, and_false, false_and, or_true, true_or, or_false, false_or, not_true_eq_false, not_false_eq_true, a3, r_against hT hR hc hb (show x ≤ n by omega), h0, cpi, nm_le]
    · simp only [mX12_lowOf_63_L2]
      by_cases c : n < LO (sd T n b) n m (qd m Q b)
      · simp (disch := omega) only [Option.bind_some, if_true, if_false, Sum.elim_inl, Sum.elim_inr, li0, li1, li2, li3, li4, li5, li6, li7, li8, li9, li10, li12, li16, li20, li24, li25, li31, li32, li40, li41, li42, li48, li57, li59, li97, li104, li105, li124, li126, li240, li241, nI_add, nI_subc, nI_subm, nI_mulc, nI_nm, pu_r, pu_t, pu_a, pu_le_t, pu_le_f, pu_lt_t, pu_lt_f, pu_eq_t, pu_eq_f, nm_eq, nm_eq2, nm_lt, nm_lt2, nm_le, nm_le2, nm_ss, nm_sp, pu_ss, pu_snq, pu_neq, eq_self, and_true, true_and, and_false, false_and, or_true, true_or, or_false, false_or, not_true_eq_false, not_false_eq_true, a3]
      · obtain ⟨p1, p2⟩ := pa_ok (r := LO (sd T n b) n m (qd m Q b)) hU.1 (by omega)
        have h0 : ¬ cp (sd T n b) n m (qd m Q b) (pa (sd T n b) n (LO (sd T n b) n m (qd m Q b))) = 0 := fun z => by
          have := (lo_iff hU.1 hq p1).mp z
          omega
        simp (disch := omega) only [Option.bind_some, if_true, if_false, Sum.elim_inl, Sum.elim_inr, li0, li1, li2, li3, li4, li5, li6, li7, li8, li9, li10, li12, li16, li20, li24, li25, li31, li32, li40, li41, li42, li48, li57, li59, li97, li104, li105, li124, li126, li240, li241, nI_add, nI_subc, nI_subm, nI_mulc, nI_nm, pu_r, pu_t, pu_a, pu_le_t, pu_le_f, pu_lt_t, pu_lt_f, pu_eq_t, pu_eq_f, nm_eq, nm_eq2, nm_lt, nm_lt2, nm_le, nm_le2, nm_ss, nm_sp, pu_ss, pu_snq, pu_neq, eq_self, and_true, true_and, and_false, false_and, or_true, true_or, or_false, false_or, not_true_eq_false, not_false_eq_true, a3, r_against hT hR hc hb (show LO (sd T n b) n m (qd m Q b) ≤ n by omega), cpi, if_neg h0]
        by_cases d : cp (sd T n b) n m (qd m Q b) (pa (sd T n b) n (LO (sd T n b) n m (qd m Q b))) = 1
        · simp (disch := omega) only [Option.bind_some, if_true, if_false, Sum.elim_inl, Sum.elim_inr, li0, li1, li2, li3, li4, li5, li6, li7, li8, li9, li10, li12, li16, li20, li24, li25, li31, li32, li40, li41, li42, li48, li57, li59, li97, li104, li105, li124, li126, li240, li241, nI_add, nI_subc, nI_subm, nI_mulc, nI_nm, pu_r, pu_t, pu_a, pu_le_t, pu_le_f, pu_lt_t, pu_lt_f, pu_eq_t, pu_eq_f, nm_eq, nm_eq2, nm_lt, nm_lt2, nm_le, nm_le2, nm_ss, nm_sp, pu_ss, pu_snq, pu_neq, eq_self, and_true, true_and, and_false, false_and, or_true, true_or, or_false, false_or, not_true_eq_false, not_false_eq_true, if_pos d]
        · simp (disch := omega) only [Option.bind_some, if_true, if_false, Sum.elim_inl, Sum.elim_inr, li0, li1, li2, li3, li4, li5, li6, li7, li8, li9, li10, li12, li16, li20, li24, li25, li31, li32, li40, li41, li42, li48, li57, li59, li97, li104, li105, li124, li126, li240, li241, nI_add, nI_subc, nI_subm, nI_mulc, nI_nm, pu_r, pu_t, pu_a, pu_le_t, pu_le_f, pu_lt_t, pu_lt_f, pu_eq_t, pu_eq_f, nm_eq, nm_eq2, nm_lt, nm_lt2, nm_le, nm_le2, nm_ss, nm_sp, pu_ss, pu_snq, pu_neq, eq_self, and_true, true_and, and_false, false_and, or_true, true_or, or_false, false_or, not_true_eq_false, not_false_eq_true, if_neg d]
  unfold mX12_lowOf_63
  simp (disch := omega) only [Option.bind_some, if_true, if_false, Sum.elim_inl, Sum.elim_inr, li0, li1, li2, li3, li4, li5, li6, li7, li8, li9, li10, li12, li16, li20, li24, li25, li31, li32, li40, li41, li42, li48, li57, li59, li97, li104, li105, li124, li126, li240, li241, nI_add, nI_subc, nI_subm, nI_mulc, nI_nm, pu_r, pu_t, pu_a, pu_le_t, pu_le_f, pu_lt_t, pu_lt_f, pu_eq_t, pu_eq_f, nm_eq, nm_eq2, nm_lt, nm_lt2, nm_le, nm_le2, nm_ss, nm_sp, pu_ss, pu_snq, pu_neq, eq_self, and_true, true_and, and_false, false_and, or_true, true_or, or_false, false_or, not_true_eq_false, not_false_eq_true, h]
theorem sz_rows {T : Nat → Nat} {n m : Nat} {Q : Nat → Nat} (hT : tx_ok T n) : SZ T n m Q = ct (fun r => decide (cp T n m Q (pa T n r) = 1)) (n + 1) := by
  rw [← ct_rows hT (fun p => decide (cp T n m Q p = 1)) (n + 1) (Nat.le_refl _)]
  exact ct_congr _ (fun i hi => by rw [decide_eq_true (rk_lt (by omega)), Bool.true_and])
theorem r_sizeOf {T : Nat → Nat} {n m f : Nat} {Q : Nat → Nat} {M : me_M} (hT : tx9 T n) (hR : ry T n M) (hc : rc m Q f M) : mX12_sizeOf_63 M = some (nI (SZ T n m Q)) := by
  have hn := hT.2.2.2
  have a3 := hR.1.1
  have hag := fun r hr => r_against (b := 0) (r := r) hT hR hc (by decide) hr
  have h : me_l (mX12_sizeOf_63_L4 M) me_fu (nI 0, nI 0) = some (nI (SZ T n m Q)) := by
    rw [sz_rows hT.1]
    refine lp_to (fun x => (nI (ct (fun r => decide (cp T n m Q (pa T n r) = 1)) x), nI x)) (a := 0) (N := n + 1) (by omega) (by omega) (fun x _ hx => ?_) ?_
    · simp only [mX12_sizeOf_63_L4, mX12_sizeOf_63_J27]
      have hg : mX12_against_63 M (nI 0) (nI x) = some (cpi (cp T n m Q (pa T n x))) := hag x (by omega)
      by_cases c : cp T n m Q (pa T n x) = 1
      · have : cpi (cp T n m Q (pa T n x)) = nI 0 := by rw [c]; rfl
        simp (disch := omega) only [Option.bind_some, if_true, if_false, Sum.elim_inl, Sum.elim_inr, li0, li1, li2, li3, li4, li5, li6, li7, li8, li9, li10, li12, li16, li20, li24, li25, li31, li32, li40, li41, li42, li48, li57, li59, li97, li104, li105, li124, li126, li240, li241, nI_add, nI_subc, nI_subm, nI_mulc, nI_nm, pu_r, pu_t, pu_a, pu_le_t, pu_le_f, pu_lt_t, pu_lt_f, pu_eq_t, pu_eq_f, nm_eq, nm_eq2, nm_lt, nm_lt2, nm_le, nm_le2, nm_ss, nm_sp, pu_ss, pu_snq, pu_neq, eq_self, and_true, true_and, and_false, false_and, or_true, true_or, or_false, false_or, not_true_eq_false, not_false_eq_true, a3, hg, this, ct_s, decide_eq_true c]
      · have : (cpi (cp T n m Q (pa T n x)) = nI 0) = False := eq_false (by
          have := cp_lt3 T n m Q (pa T n x)
          unfold cpi
          by_cases d : cp T n m Q (pa T n x) = 0
          · rw [if_pos d]; decide +kernel
          · rw [if_neg d, if_neg c]; decide +kernel)
        simp (disch := omega) only [Option.bind_some, if_true, if_false, Sum.elim_inl, Sum.elim_inr, li0, li1, li2, li3, li4, li5, li6, li7, li8, li9, li10, li12, li16, li20, li24, li25, li31, li32, li40, li41, li42, li48, li57, li59, li97, li104, li105, li124, li126, li240, li241, nI_add, nI_subc, nI_subm, nI_mulc, nI_nm, pu_r, pu_t, pu_a, pu_le_t, pu_le_f, pu_lt_t, pu_lt_f, pu_eq_t, pu_eq_f, nm_eq, nm_eq2, nm_lt, nm_lt2, nm_le, nm_le2, nm_ss, nm_sp, pu_ss, pu_snq, pu_neq, eq_self, and_true, true_and, and_false, false_and, or_true, true_or, or_false, false_or, not_true_eq_false, not_false_eq_true, a3, hg, this, ct_s, decide_eq_false c, Bool.false_eq_true, Nat.add_zero]
    · simp only [mX12_sizeOf_63_L4]
      simp (disch := omega) only [Option.bind_some, if_true, if_false, Sum.elim_inl, Sum.elim_inr, li0, li1, li2, li3, li4, li5, li6, li7, li8, li9, li10, li12, li16, li20, li24, li25, li31, li32, li40, li41, li42, li48, li57, li59, li97, li104, li105, li124, li126, li240, li241, nI_add, nI_subc, nI_subm, nI_mulc, nI_nm, pu_r, pu_t, pu_a, pu_le_t, pu_le_f, pu_lt_t, pu_lt_f, pu_eq_t, pu_eq_f, nm_eq, nm_eq2, nm_lt, nm_lt2, nm_le, nm_le2, nm_ss, nm_sp, pu_ss, pu_snq, pu_neq, eq_self, and_true, true_and, and_false, false_and, or_true, true_or, or_false, false_or, not_true_eq_false, not_false_eq_true, a3]
  unfold mX12_sizeOf_63
  simp (disch := omega) only [Option.bind_some, if_true, if_false, Sum.elim_inl, Sum.elim_inr, li0, li1, li2, li3, li4, li5, li6, li7, li8, li9, li10, li12, li16, li20, li24, li25, li31, li32, li40, li41, li42, li48, li57, li59, li97, li104, li105, li124, li126, li240, li241, nI_add, nI_subc, nI_subm, nI_mulc, nI_nm, pu_r, pu_t, pu_a, pu_le_t, pu_le_f, pu_lt_t, pu_lt_f, pu_eq_t, pu_eq_f, nm_eq, nm_eq2, nm_lt, nm_lt2, nm_le, nm_le2, nm_ss, nm_sp, pu_ss, pu_snq, pu_neq, eq_self, and_true, true_and, and_false, false_and, or_true, true_or, or_false, false_or, not_true_eq_false, not_false_eq_true, h]
theorem r_isHit {T : Nat → Nat} {n m f p : Nat} {Q : Nat → Nat} {M : me_M} (hT : tx9 T n) (hR : rx T n M) (hc : rc m Q f M) (hp : p ≤ n) : mX12_isHit_63 M (nI p) = some (nI (if cp T n m Q p = 1 then 1 else 0)) := by
  have hn := hT.2.2.2
  have hm := hc.2.2.1
  obtain ⟨a1, a2⟩ := hR
  obtain ⟨v, h1, h2⟩ := lp_up (b := mX12_isHit_63_L2 M (nI p)) (fun k st => st = nI k ∧ ∀ i, i < k → tz T n (p + i) = Q i) (fun v => (v = .inl () ∧ cp T n m Q p = 1) ∨ (v = .inr (nI 0) ∧ cp T n m Q p ≠ 1)) (a := 0) (N := m) (by omega) (by omega) (fun k st _ hk hI => by
    obtain ⟨rfl, hI⟩ := hI
    obtain ⟨q1, q2, q3⟩ := hc.2.2.2 k hk
    have := hT.2.1 (p + k)
    simp only [mX12_isHit_63_L2, r_letters hc]
    by_cases c : n ≤ p + k
    · right
      simp (disch := omega) only [Option.bind_some, if_true, if_false, Sum.elim_inl, Sum.elim_inr, li0, li1, li2, li3, li4, li5, li6, li7, li8, li9, li10, li12, li16, li20, li24, li25, li31, li32, li40, li41, li42, li48, li57, li59, li97, li104, li105, li124, li126, li240, li241, nI_add, nI_subc, nI_subm, nI_mulc, nI_nm, pu_r, pu_t, pu_a, pu_le_t, pu_le_f, pu_lt_t, pu_lt_f, pu_eq_t, pu_eq_f, nm_eq, nm_eq2, nm_lt, nm_lt2, nm_le, nm_le2, nm_ss, nm_sp, pu_ss, pu_snq, pu_neq, eq_self, and_true, true_and, and_false, false_and, or_true, true_or, or_false, false_or, not_true_eq_false, not_false_eq_true, a1]
      exact ⟨_, rfl, Or.inr ⟨rfl, fun z => by
        have := (cp_one m Q p).mp z k hk
        unfold tz at this
        rw [if_neg (by omega)] at this
        omega⟩⟩
    · have e : tz T n (p + k) = T (p + k) := by unfold tz; rw [if_pos (by omega)]
      by_cases d : T (p + k) = Q k
      · left
        simp (disch := omega) only [Option.bind_some, if_true, if_false, Sum.elim_inl, Sum.elim_inr, li0, li1, li2, li3, li4, li5, li6, li7, li8, li9, li10, li12, li16, li20, li24, li25, li31, li32, li40, li41, li42, li48, li57, li59, li97, li104, li105, li124, li126, li240, li241, nI_add, nI_subc, nI_subm, nI_mulc, nI_nm, pu_r, pu_t, pu_a, pu_le_t, pu_le_f, pu_lt_t, pu_lt_f, pu_eq_t, pu_eq_f, nm_eq, nm_eq2, nm_lt, nm_lt2, nm_le, nm_le2, nm_ss, nm_sp, pu_ss, pu_snq, pu_neq, eq_self, and_true, true_and, and_false, false_and, or_true, true_or, or_false, false_or, not_true_eq_false, not_false_eq_true, a1, a2, hc.1, q1]
        exact ⟨_, rfl, rfl, fun i hi => by
          by_cases z : i = k
          · subst z; rw [e, d]
          · exact hI i (by omega)⟩
      · right
        simp (disch := omega) only [Option.bind_some, if_true, if_false, Sum.elim_inl, Sum.elim_inr, li0, li1, li2, li3, li4, li5, li6, li7, li8, li9, li10, li12, li16, li20, li24, li25, li31, li32, li40, li41, li42, li48, li57, li59, li97, li104, li105, li124, li126, li240, li241, nI_add, nI_subc, nI_subm, nI_mulc, nI_nm, pu_r, pu_t, pu_a, pu_le_t, pu_le_f, pu_lt_t, pu_lt_f, pu_eq_t, pu_eq_f, nm_eq, nm_eq2, nm_lt, nm_lt2, nm_le, nm_le2, nm_ss, nm_sp, pu_ss, pu_snq, pu_neq, eq_self, and_true, true_and, and_false, false_and, or_true, true_or, or_false, false_or, not_true_eq_false, not_false_eq_true, a1, a2, hc.1, q1]
        exact ⟨_, rfl, Or.inr ⟨rfl, fun z => by
          have := (cp_one m Q p).mp z k hk
          rw [e] at this
          exact d this⟩⟩) (fun st hI => by
    obtain ⟨rfl, hI⟩ := hI
    simp only [mX12_isHit_63_L2, r_letters hc]
    simp (disch := omega) only [Option.bind_some, if_true, if_false, Sum.elim_inl, Sum.elim_inr, li0, li1, li2, li3, li4, li5, li6, li7, li8, li9, li10, li12, li16, li20, li24, li25, li31, li32, li40, li41, li42, li48, li57, li59, li97, li104, li105, li124, li126, li240, li241, nI_add, nI_subc, nI_subm, nI_mulc, nI_nm, pu_r, pu_t, pu_a, pu_le_t, pu_le_f, pu_lt_t, pu_lt_f, pu_eq_t, pu_eq_f, nm_eq, nm_eq2, nm_lt, nm_lt2, nm_le, nm_le2, nm_ss, nm_sp, pu_ss, pu_snq, pu_neq, eq_self, and_true, true_and, and_false, false_and, or_true, true_or, or_false, false_or, not_true_eq_false, not_false_eq_true]
    exact ⟨_, rfl, Or.inl ⟨rfl, (cp_one m Q p).mpr hI⟩⟩) (s0 := nI 0) ⟨rfl, fun i h => absurd h (Nat.not_lt_zero _)⟩
  unfold mX12_isHit_63
  rcases h2 with ⟨rfl, h2⟩ | ⟨rfl, h2⟩
  · simp (disch := omega) only [Option.bind_some, if_true, if_false, Sum.elim_inl, Sum.elim_inr, li0, li1, li2, li3, li4, li5, li6, li7, li8, li9, li10, li12, li16, li20, li24, li25, li31, li32, li40, li41, li42, li48, li57, li59, li97, li104, li105, li124, li126, li240, li241, nI_add, nI_subc, nI_subm, nI_mulc, nI_nm, pu_r, pu_t, pu_a, pu_le_t, pu_le_f, pu_lt_t, pu_lt_f, pu_eq_t, pu_eq_f, nm_eq, nm_eq2, nm_lt, nm_lt2, nm_le, nm_le2, nm_ss, nm_sp, pu_ss, pu_snq, pu_neq, eq_self, and_true, true_and, and_false, false_and, or_true, true_or, or_false, false_or, not_true_eq_false, not_false_eq_true, h1, if_pos h2]
  · simp (disch := omega) only [Option.bind_some, if_true, if_false, Sum.elim_inl, Sum.elim_inr, li0, li1, li2, li3, li4, li5, li6, li7, li8, li9, li10, li12, li16, li20, li24, li25, li31, li32, li40, li41, li42, li48, li57, li59, li97, li104, li105, li124, li126, li240, li241, nI_add, nI_subc, nI_subm, nI_mulc, nI_nm, pu_r, pu_t, pu_a, pu_le_t, pu_le_f, pu_lt_t, pu_lt_f, pu_eq_t, pu_eq_f, nm_eq, nm_eq2, nm_lt, nm_lt2, nm_le, nm_le2, nm_ss, nm_sp, pu_ss, pu_snq, pu_neq, eq_self, and_true, true_and, and_false, false_and, or_true, true_or, or_false, false_or, not_true_eq_false, not_false_eq_true, h1, if_neg h2]
