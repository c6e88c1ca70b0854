/-! ===== calls: maximals, maximal, the class ===== -/
theorem ct_ab {g : Nat → Bool} {a : Nat} : ∀ b, ct g (a + b) = ct g a + ct (fun j => g (a + j)) b
  | 0 => rfl
  | b + 1 => by
    rw [show a + (b + 1) = a + b + 1 by omega, ct_s, ct_s, ct_ab b]
    omega
theorem nmx_s {T : Nat → Nat} {n r : Nat} : nmx T n (r + 1) = nmx T n r + ct (MX T n r) 241 := rfl
theorem nmx_mono {T : Nat → Nat} {n : Nat} {a b : Nat} (h : a ≤ b) : nmx T n a ≤ nmx T n b := by
  induction b with
  | zero => rw [show a = 0 by omega]; exact Nat.le_refl _
  | succ b ih =>
    by_cases e : a = b + 1
    · rw [e]; exact Nat.le_refl _
    · have := ih (by omega)
      rw [nmx_s]; omega
theorem nmx_at {T : Nat → Nat} {n i : Nat} : ∀ R, i < nmx T n R → ∃ r len, r < R ∧ len < 241 ∧ MX T n r len = true ∧ i = nmx T n r + ct (MX T n r) len
  | 0, h => absurd h (Nat.not_lt_zero _)
  | R + 1, h => by
    by_cases c : i < nmx T n R
    · obtain ⟨r, len, h1, h2, h3, h4⟩ := nmx_at R c
      exact ⟨r, len, by omega, h2, h3, h4⟩
    · rw [nmx_s] at h
      obtain ⟨len, h1, h2, h3⟩ := ct_at (K := MX T n R) 241 (i - nmx T n R) (by omega)
      exact ⟨R, len, by omega, h1, h2, by omega⟩
def gM (M : me_M) (least often i : Nat) : Bool := decide (least ≤ (M.1 27 i).toNatClampNeg) && decide (often ≤ (M.1 29 i).toNatClampNeg)
theorem tm_bd {T : Nat → Nat} {n p len : Nat} : tm T n p len ≤ n := ct_le _ _
theorem gM_row {T : Nat → Nat} {n least often r : Nat} {M : me_M} (hn : n ≤ 240) (h : mls T n M) (hr : r ≤ n) (h0 : ct (gM M least often) (nmx T n r) = nC T n least often r) (x : Nat) (hx : x ≤ 241) : ct (gM M least often) (nmx T n r + ct (MX T n r) x) = nC T n least often r + ct (mC T n least often r) x := by
  rw [ct_ab, h0]
  congr 1
  exact ct_seq (K := MX T n r) (g := fun j => gM M least often (nmx T n r + j)) (f := fun len => decide (least ≤ len) && decide (often ≤ tm T n (pa T n r) len)) x (fun len hlen hM => by
    obtain ⟨a1, a2, a3⟩ := h.2.2 r len hr (by omega) hM
    have := tm_bd (T := T) (n := n) (p := pa T n r) (len := len)
    show gM M least often (nmx T n r + ct (MX T n r) len) = _
    unfold gM
    rw [a1, a3, nI_clamp (by omega), nI_clamp (by omega)])
theorem gM_all {T : Nat → Nat} {n least often : Nat} {M : me_M} (hn : n ≤ 240) (h : mls T n M) : ∀ r, r ≤ n + 1 → ct (gM M least often) (nmx T n r) = nC T n least often r
  | 0, _ => rfl
  | r + 1, hr => by rw [nmx_s, nC_s]; exact gM_row hn h (by omega) (gM_all hn h r (by omega)) 241 (Nat.le_refl _)
theorem gM_in {T : Nat → Nat} {n i : Nat} {M : me_M} (hn : n ≤ 240) (h : mls T n M) (hi : i < nmx T n (n + 1)) : ∃ a b, M.1 27 i = nI a ∧ M.1 29 i = nI b ∧ a < 241 ∧ b ≤ 240 ∧ (M.1 27 i).toNatClampNeg = a ∧ (M.1 29 i).toNatClampNeg = b := by
  obtain ⟨r, len, h1, h2, h3, rfl⟩ := nmx_at _ hi
  obtain ⟨a1, a2, a3⟩ := h.2.2 r len (by omega) h2 h3
  have := tm_bd (T := T) (n := n) (p := pa T n r) (len := len)
  exact ⟨len, tm T n (pa T n r) len, a1, a3, h2, by omega, by rw [a1, nI_clamp (by omega)], by rw [a3, nI_clamp (by omega)]⟩
theorem c_countMax {T : Nat → Nat} {n least often : Nat} {M : me_M} (hn : n ≤ 240) (h : mls T n M) (hl : least ≤ 240) (ho : often ≤ 241) : mX2_countMaximals_26 M (nI least) (nI often) = some (nI (nC T n least often (n + 1))) := by
  have h5 := h.1
  have hN := h.2.1
  have hl : me_l (mX2_countMaximals_26_L5 M (nI least) (nI often)) me_fu (nI 0, nI 0) = some (nI (nC T n least often (n + 1))) := by
    rw [← gM_all hn h (n + 1) (Nat.le_refl _)]
    refine lp_to (fun x => (nI (ct (gM M least often) x), nI x)) (a := 0) (N := nmx T n (n + 1)) (by omega) (by omega) (fun x _ hx => ?_) ?_
    · obtain ⟨a, b, h1, h2, h3, h4, h6, h7⟩ := gM_in hn h hx
      have hg : gM M least often x = (decide (least ≤ a) && decide (often ≤ b)) := by unfold gM; rw [h6, h7]
      simp only [mX2_countMaximals_26_L5, mX2_countMaximals_26_J39]
      rw [ct_s, hg]
      by_cases c : least ≤ a
      · by_cases d : often ≤ b
        · simp (disch := omega) only [Option.bind_some, if_true, if_false, Sum.elim_inl, Sum.elim_inr, li0, li1, li2, li3, li4, li5, li6, li7, li8, li9, li10, li12, li16, li20, li24, li25, li31, li32, li40, li41, li42, li48, li57, li59, li97, li104, li105, li124, li126, li240, li241, nI_add, nI_subc, nI_subm, nI_mulc, nI_nm, pu_r, pu_t, pu_a, pu_le_t, pu_le_f, pu_lt_t, pu_lt_f, pu_eq_t, pu_eq_f, nm_eq, nm_eq2, nm_lt, nm_lt2, nm_le, nm_le2, nm_ss, nm_sp, pu_ss, pu_snq, pu_neq, eq_self, and_true, true_and, and_false, false_and, or_true, true_or, or_false, false_or, not_true_eq_false, not_false_eq_true, h5, h1, h2, decide_eq_true c, decide_eq_true d, Bool.true_and]
        · simp (disch := omega) only [Option.bind_some, if_true, if_false, Sum.elim_inl, Sum.elim_inr, li0, li1, li2, li3, li4, li5, li6, li7, li8, li9, li10, li12, li16, li20, li24, li25, li31, li32, li40, li41, li42, li48, li57, li59, li97, li104, li105, li124, li126, li240, li241, nI_add, nI_subc, nI_subm, nI_mulc, nI_nm, pu_r, pu_t, pu_a, pu_le_t, pu_le_f, pu_lt_t, pu_lt_f, pu_eq_t, pu_eq_f, nm_eq, nm_eq2, nm_lt, nm_lt2, nm_le, nm_le2, nm_ss, nm_sp, pu_ss, pu_snq, pu_neq, eq_self, and_true, true_and, and_false, false_and, or_true, true_or, or_false, false_or, not_true_eq_false, not_false_eq_true, h5, h1, h2, decide_eq_true c, decide_eq_false d, Bool.true_and, Bool.false_eq_true, Nat.add_zero]
      · simp (disch := omega) only [Option.bind_some, if_true, if_false, Sum.elim_inl, Sum.elim_inr, li0, li1, li2, li3, li4, li5, li6, li7, li8, li9, li10, li12, li16, li20, li24, li25, li31, li32, li40, li41, li42, li48, li57, li59, li97, li104, li105, li124, li126, li240, li241, nI_add, nI_subc, nI_subm, nI_mulc, nI_nm, pu_r, pu_t, pu_a, pu_le_t, pu_le_f, pu_lt_t, pu_lt_f, pu_eq_t, pu_eq_f, nm_eq, nm_eq2, nm_lt, nm_lt2, nm_le, nm_le2, nm_ss, nm_sp, pu_ss, pu_snq, pu_neq, eq_self, and_true, true_and, and_false, false_and, or_true, true_or, or_false, false_or, not_true_eq_false, not_false_eq_true, h5, h1, decide_eq_false c, Bool.false_and, Bool.false_eq_true, Nat.add_zero]
    · simp only [mX2_countMaximals_26_L5]
      simp (disch := omega) only [Option.bind_some, if_true, if_false, Sum.elim_inl, Sum.elim_inr, li0, li1, li2, li3, li4, li5, li6, li7, li8, li9, li10, li12, li16, li20, li24, li25, li31, li32, li40, li41, li42, li48, li57, li59, li97, li104, li105, li124, li126, li240, li241, nI_add, nI_subc, nI_subm, nI_mulc, nI_nm, pu_r, pu_t, pu_a, pu_le_t, pu_le_f, pu_lt_t, pu_lt_f, pu_eq_t, pu_eq_f, nm_eq, nm_eq2, nm_lt, nm_lt2, nm_le, nm_le2, nm_ss, nm_sp, pu_ss, pu_snq, pu_neq, eq_self, and_true, true_and, and_false, false_and, or_true, true_or, or_false, false_or, not_true_eq_false, not_false_eq_true, h5]
  unfold mX2_countMaximals_26
  simp (disch := omega) only [Option.bind_some, if_true, if_false, Sum.elim_inl, Sum.elim_inr, li0, li1, li2, li3, li4, li5, li6, li7, li8, li9, li10, li12, li16, li20, li24, li25, li31, li32, li40, li41, li42, li48, li57, li59, li97, li104, li105, li124, li126, li240, li241, nI_add, nI_subc, nI_subm, nI_mulc, nI_nm, pu_r, pu_t, pu_a, pu_le_t, pu_le_f, pu_lt_t, pu_lt_f, pu_eq_t, pu_eq_f, nm_eq, nm_eq2, nm_lt, nm_lt2, nm_le, nm_le2, nm_ss, nm_sp, pu_ss, pu_snq, pu_neq, eq_self, and_true, true_and, and_false, false_and, or_true, true_or, or_false, false_or, not_true_eq_false, not_false_eq_true, hl]
theorem c_indexMax {T : Nat → Nat} {n least often i : Nat} {M : me_M} (hn : n ≤ 240) (h : mls T n M) (hl : least ≤ 240) (ho : often ≤ 241) (hi : i < nmx T n (n + 1)) (hg : gM M least often i = true) : mX2_indexOfMaximal_26 M (nI (ct (gM M least often) i)) (nI least) (nI often) = some (nI i) := by
  have h5 := h.1
  have hN := h.2.1
  have hci := ct_le (gM M least often) i
  have hl : me_l (mX2_indexOfMaximal_26_L6 M (nI (ct (gM M least often) i)) (nI least) (nI often)) me_fu (nI 0, nI 0) = some (.inr (nI i)) := by
    refine lp_to (fun x => (nI (ct (gM M least often) x), nI x)) (a := 0) (N := i) (by omega) (by omega) (fun x _ hx => ?_) ?_
    · obtain ⟨a, b, h1, h2, h3, h4, h6, h7⟩ := gM_in hn h (show x < nmx T n (n + 1) by omega)
      have hgx : gM M least often x = (decide (least ≤ a) && decide (often ≤ b)) := by unfold gM; rw [h6, h7]
      have hm : ct (gM M least often) (x + 1) ≤ ct (gM M least often) i := ct_mono' _ (by omega)
      have hcx := ct_le (gM M least often) x
      simp only [mX2_indexOfMaximal_26_L6, mX2_indexOfMaximal_26_J49]
      rw [ct_s, hgx] at hm
      rw [ct_s, hgx]
      by_cases c : least ≤ a
      · by_cases d : often ≤ b
        · rw [decide_eq_true c, decide_eq_true d, Bool.true_and, if_pos rfl] at hm
          simp (disch := omega) only [Option.bind_some, if_true, if_false, Sum.elim_inl, Sum.elim_inr, li0, li1, li2, li3, li4, li5, li6, li7, li8, li9, li10, li12, li16, li20, li24, li25, li31, li32, li40, li41, li42, li48, li57, li59, li97, li104, li105, li124, li126, li240, li241, nI_add, nI_subc, nI_subm, nI_mulc, nI_nm, pu_r, pu_t, pu_a, pu_le_t, pu_le_f, pu_lt_t, pu_lt_f, pu_eq_t, pu_eq_f, nm_eq, nm_eq2, nm_lt, nm_lt2, nm_le, nm_le2, nm_ss, nm_sp, pu_ss, pu_snq, pu_neq, eq_self, and_true, true_and, and_false, false_and, or_true, true_or, or_false, false_or, not_true_eq_false, not_false_eq_true, h5, h1, h2, decide_eq_true c, decide_eq_true d, Bool.true_and]
        · simp (disch := omega) only [Option.bind_some, if_true, if_false, Sum.elim_inl, Sum.elim_inr, li0, li1, li2, li3, li4, li5, li6, li7, li8, li9, li10, li12, li16, li20, li24, li25, li31, li32, li40, li41, li42, li48, li57, li59, li97, li104, li105, li124, li126, li240, li241, nI_add, nI_subc, nI_subm, nI_mulc, nI_nm, pu_r, pu_t, pu_a, pu_le_t, pu_le_f, pu_lt_t, pu_lt_f, pu_eq_t, pu_eq_f, nm_eq, nm_eq2, nm_lt, nm_lt2, nm_le, nm_le2, nm_ss, nm_sp, pu_ss, pu_snq, pu_neq, eq_self, and_true, true_and, and_false, false_and, or_true, true_or, or_false, false_or, not_true_eq_false, not_false_eq_true, h5, h1, h2, decide_eq_true c, decide_eq_false d, Bool.true_and, Bool.false_eq_true, Nat.add_zero]
      · simp (disch := omega) only [Option.bind_some, if_true, if_false, Sum.elim_inl, Sum.elim_inr, li0, li1, li2, li3, li4, li5, li6, li7, li8, li9, li10, li12, li16, li20, li24, li25, li31, li32, li40, li41, li42, li48, li57, li59, li97, li104, li105, li124, li126, li240, li241, nI_add, nI_subc, nI_subm, nI_mulc, nI_nm, pu_r, pu_t, pu_a, pu_le_t, pu_le_f, pu_lt_t, pu_lt_f, pu_eq_t, pu_eq_f, nm_eq, nm_eq2, nm_lt, nm_lt2, nm_le, nm_le2, nm_ss, nm_sp, pu_ss, pu_snq, pu_neq, eq_self, and_true, true_and, and_false, false_and, or_true, true_or, or_false, false_or, not_true_eq_false, not_false_eq_true, h5, h1, decide_eq_false c, Bool.false_and, Bool.false_eq_true, Nat.add_zero]
    · obtain ⟨a, b, h1, h2, h3, h4, h6, h7⟩ := gM_in hn h hi
      unfold gM at hg
      rw [h6, h7, Bool.and_eq_true, decide_eq_true_eq, decide_eq_true_eq] at hg
      simp only [mX2_indexOfMaximal_26_L6]
      simp (disch := omega) only [Option.bind_some, if_true, if_false, Sum.elim_inl, Sum.elim_inr, li0, li1, li2, li3, li4, li5, li6, li7, li8, li9, li10, li12, li16, li20, li24, li25, li31, li32, li40, li41, li42, li48, li57, li59, li97, li104, li105, li124, li126, li240, li241, nI_add, nI_subc, nI_subm, nI_mulc, nI_nm, pu_r, pu_t, pu_a, pu_le_t, pu_le_f, pu_lt_t, pu_lt_f, pu_eq_t, pu_eq_f, nm_eq, nm_eq2, nm_lt, nm_lt2, nm_le, nm_le2, nm_ss, nm_sp, pu_ss, pu_snq, pu_neq, eq_self, and_true, true_and, and_false, false_and, or_true, true_or, or_false, false_or, not_true_eq_false, not_false_eq_true, h5, h1, h2]
  unfold mX2_indexOfMaximal_26
  simp (disch := omega) only [Option.bind_some, if_true, if_false, Sum.elim_inl, Sum.elim_inr, li0, li1, li2, li3, li4, li5, li6, li7, li8, li9, li10, li12, li16, li20, li24, li25, li31, li32, li40, li41, li42, li48, li57, li59, li97, li104, li105, li124, li126, li240, li241, nI_add, nI_subc, nI_subm, nI_mulc, nI_nm, pu_r, pu_t, pu_a, pu_le_t, pu_le_f, pu_lt_t, pu_lt_f, pu_eq_t, pu_eq_f, nm_eq, nm_eq2, nm_lt, nm_lt2, nm_le, nm_le2, nm_ss, nm_sp, pu_ss, pu_snq, pu_neq, eq_self, and_true, true_and, and_false, false_and, or_true, true_or, or_false, false_or, not_true_eq_false, not_false_eq_true, hl]
theorem c_indexNone {T : Nat → Nat} {n least often : Nat} {M : me_M} {p0 : Int32} (hn : n ≤ 240) (h : mls T n M) (hl : least ≤ 240) (ho : often ≤ 241) (hp : iB p0 (nI 0) (dn (nC T n least often (n + 1))) = false) : mX2_indexOfMaximal_26 M p0 (nI least) (nI often) = some (-nI 1) := by
  have h5 := h.1
  have hN := h.2.1
  have hall := gM_all (least := least) (often := often) hn h (n + 1) (Nat.le_refl _)
  have hne : ∀ x, x < nmx T n (n + 1) → gM M least often x = true → (nI (ct (gM M least often) x) = p0) = False := fun x hx hg => eq_false (fun z => by
    have h1 : ct (gM M least often) (x + 1) = ct (gM M least often) x + 1 := by rw [ct_s, hg]; rfl
    have h2 : ct (gM M least often) (x + 1) ≤ ct (gM M least often) (nmx T n (n + 1)) := ct_mono' _ (by omega)
    have h3 := ct_le (gM M least often) (nmx T n (n + 1))
    rw [hall] at h2 h3
    rw [← z] at hp
    rcases hk : nC T n least often (n + 1) with _ | k
    · omega
    · rw [hk] at h2 h3
      rw [hk, dn_s, iB_nI (by omega) (by omega) (by omega), decide_eq_true (by omega)] at hp
      cases hp)
  have hl : me_l (mX2_indexOfMaximal_26_L6 M p0 (nI least) (nI often)) me_fu (nI 0, nI 0) = some (.inl ()) := by
    refine lp_to (fun x => (nI (ct (gM M least often) x), nI x)) (a := 0) (N := nmx T n (n + 1)) (by omega) (by omega) (fun x _ hx => ?_) ?_
    · obtain ⟨a, b, h1, h2, h3, h4, h6, h7⟩ := gM_in hn h hx
      have hgx : gM M least often x = (decide (least ≤ a) && decide (often ≤ b)) := by unfold gM; rw [h6, h7]
      have hcx := ct_le (gM M least often) x
      have hnx := hne x hx
      simp only [mX2_indexOfMaximal_26_L6, mX2_indexOfMaximal_26_J49]
      rw [hgx] at hnx
      rw [ct_s, hgx]
      by_cases c : least ≤ a
      · by_cases d : often ≤ b
        · rw [decide_eq_true c, decide_eq_true d] at hnx
          have hnx := hnx rfl
          simp (disch := omega) only [Option.bind_some, if_true, if_false, Sum.elim_inl, Sum.elim_inr, li0, li1, li2, li3, li4, li5, li6, li7, li8, li9, li10, li12, li16, li20, li24, li25, li31, li32, li40, li41, li42, li48, li57, li59, li97, li104, li105, li124, li126, li240, li241, nI_add, nI_subc, nI_subm, nI_mulc, nI_nm, pu_r, pu_t, pu_a, pu_le_t, pu_le_f, pu_lt_t, pu_lt_f, pu_eq_t, pu_eq_f, nm_eq, nm_eq2, nm_lt, nm_lt2, nm_le, nm_le2, nm_ss, nm_sp, pu_ss, pu_snq, pu_neq, eq_self, and_true, true_and, and_false, false_and, or_true, true_or, or_false, false_or, not_true_eq_false, not_false_eq_true, h5, h1, h2, decide_eq_true c, decide_eq_true d, Bool.true_and, hnx]
        · simp (disch := omega) only [Option.bind_some, if_true, if_false, Sum.elim_inl, Sum.elim_inr, li0, li1, li2, li3, li4, li5, li6, li7, li8, li9, li10, li12, li16, li20, li24, li25, li31, li32, li40, li41, li42, li48, li57, li59, li97, li104, li105, li124, li126, li240, li241, nI_add, nI_subc, nI_subm, nI_mulc, nI_nm, pu_r, pu_t, pu_a, pu_le_t, pu_le_f, pu_lt_t, pu_lt_f, pu_eq_t, pu_eq_f, nm_eq, nm_eq2, nm_lt, nm_lt2, nm_le, nm_le2, nm_ss, nm_sp, pu_ss, pu_snq, pu_neq, eq_self, and_true, true_and, and_false, false_and, or_true, true_or, or_false, false_or, not_true_eq_false, not_false_eq_true, h5, h1, h2, decide_eq_true c, decide_eq_false d, Bool.true_and, Bool.false_eq_true, Nat.add_zero]
      · simp (disch := omega) only [Option.bind_some, if_true, if_false, Sum.elim_inl, Sum.elim_inr, li0, li1, li2, li3, li4, li5, li6, li7, li8, li9, li10, li12, li16, li20, li24, li25, li31, li32, li40, li41, li42, li48, li57, li59, li97, li104, li105, li124, li126, li240, li241, nI_add, nI_subc, nI_subm, nI_mulc, nI_nm, pu_r, pu_t, pu_a, pu_le_t, pu_le_f, pu_lt_t, pu_lt_f, pu_eq_t, pu_eq_f, nm_eq, nm_eq2, nm_lt, nm_lt2, nm_le, nm_le2, nm_ss, nm_sp, pu_ss, pu_snq, pu_neq, eq_self, and_true, true_and, and_false, false_and, or_true, true_or, or_false, false_or, not_true_eq_false, not_false_eq_true, h5, h1, decide_eq_false c, Bool.false_and, Bool.false_eq_true, Nat.add_zero]
    · simp only [mX2_indexOfMaximal_26_L6]
      simp (disch := omega) only [Option.bind_some, if_true, if_false, Sum.elim_inl, Sum.elim_inr, li0, li1, li2, li3, li4, li5, li6, li7, li8, li9, li10, li12, li16, li20, li24, li25, li31, li32, li40, li41, li42, li48, li57, li59, li97, li104, li105, li124, li126, li240, li241, nI_add, nI_subc, nI_subm, nI_mulc, nI_nm, pu_r, pu_t, pu_a, pu_le_t, pu_le_f, pu_lt_t, pu_lt_f, pu_eq_t, pu_eq_f, nm_eq, nm_eq2, nm_lt, nm_lt2, nm_le, nm_le2, nm_ss, nm_sp, pu_ss, pu_snq, pu_neq, eq_self, and_true, true_and, and_false, false_and, or_true, true_or, or_false, false_or, not_true_eq_false, not_false_eq_true, h5]
  unfold mX2_indexOfMaximal_26
  simp (disch := omega) only [Option.bind_some, if_true, if_false, Sum.elim_inl, Sum.elim_inr, li0, li1, li2, li3, li4, li5, li6, li7, li8, li9, li10, li12, li16, li20, li24, li25, li31, li32, li40, li41, li42, li48, li57, li59, li97, li104, li105, li124, li126, li240, li241, nI_add, nI_subc, nI_subm, nI_mulc, nI_nm, pu_r, pu_t, pu_a, pu_le_t, pu_le_f, pu_lt_t, pu_lt_f, pu_eq_t, pu_eq_f, nm_eq, nm_eq2, nm_lt, nm_lt2, nm_le, nm_le2, nm_ss, nm_sp, pu_ss, pu_snq, pu_neq, eq_self, and_true, true_and, and_false, false_and, or_true, true_or, or_false, false_or, not_true_eq_false, not_false_eq_true, hl]
theorem c_firstPl {T : Nat → Nat} {n r len : Nat} {M : me_M} (hT : tx9 T n) (hx : cx T n M) (hr : r ≤ n) (hlen : 1 ≤ len) (hp : pa T n r < n) (hh : hd T n r < len) : mX2_firstPlace_26 M (nI r) (nI (tm T n (pa T n r) len)) = some (nI (fo T n (pa T n r) len)) := by
  have hn := hT.2.2.2
  have c1 := hx.1.1.1
  obtain ⟨hi, k1, k2, k3, k4⟩ := ex_hi (T := T) (n := n) hlen (n - r) r (by omega)
  have hlo : hx9 T n r < len := by rw [hx9_le hr]; exact hh
  have htm := tm_int hT.1 hlen (Nat.le_refl r) k1 k2 hlo k3 k4 hp
  have hset := fun q (hq : q ≤ n) => in_int (q := q) hT.1 hlen (Nat.le_refl r) k1 k2 hlo k3 k4 hq
  obtain ⟨a1, a2, a3, a4⟩ := fof_ok (T := T) (n := n) (p := pa T n r) (len := len) (pa T n r) 0 (by omega)
  have hfo : mn n (fun k => pa T n (r + k)) (hi - r) = fo T n (pa T n r) len := by
    unfold fo
    refine Nat.le_antisymm ?_ ((mn_ge (hi - r)).mpr ⟨by omega, fun d hd => ?_⟩)
    · have h1 := (hset _ (by omega)).mp a3
      have h2 := ((mn_ge (b := n) (f := fun k => pa T n (r + k)) (hi - r)).mp (Nat.le_refl _)).2 (rk T n (fof T n (pa T n r) len (pa T n r) 0) - r) (by omega)
      simp only [show r + (rk T n (fof T n (pa T n r) len (pa T n r) 0) - r) = rk T n (fof T n (pa T n r) len (pa T n r) 0) by omega] at h2
      rw [pa_rk hT.1 (by omega)] at h2
      exact h2
    · obtain ⟨p1, p2⟩ := pa_ok (r := r + d) hT.1 (by omega)
      have h1 := (hset _ p1).mpr (by omega)
      rcases Nat.lt_or_ge (pa T n (r + d)) (fof T n (pa T n r) len (pa T n r) 0) with z | z
      · exact absurd h1 (a4 _ (Nat.zero_le _) z)
      · exact z
  rw [← hfo, htm]
  have hl : me_l (mX2_firstPlace_26_L11 M (nI r) (nI (hi - r))) me_fu (nI n, nI r) = some (nI (mn n (fun k => pa T n (r + k)) (hi - r))) := by
    have := lp_to (b := mX2_firstPlace_26_L11 M (nI r) (nI (hi - r))) (fun x => (nI (mn n (fun k => pa T n (r + k)) x), nI (r + x))) (a := 0) (N := hi - r) (r := nI (mn n (fun k => pa T n (r + k)) (hi - r))) (by omega) (by omega) (fun x _ hx9 => ?_) ?_
    · exact this
    · have h10 := rk_pl hT.1 hx.2.1.2.1 (show r + x ≤ n by omega)
      have hp2 := pa_le hT.1 (show r + x ≤ n by omega)
      have hb := mn_le (b := n) (f := fun k => pa T n (r + k)) x
      simp only [mX2_firstPlace_26_L11]
      simp (disch := omega) only [Option.bind_some, if_true, if_false, Sum.elim_inl, Sum.elim_inr, li0, li1, li2, li3, li4, li5, li6, li7, li8, li9, li10, li12, li16, li20, li24, li25, li31, li32, li40, li41, li42, li48, li57, li59, li97, li104, li105, li124, li126, li240, li241, nI_add, nI_subc, nI_subm, nI_mulc, nI_nm, pu_r, pu_t, pu_a, pu_le_t, pu_le_f, pu_lt_t, pu_lt_f, pu_eq_t, pu_eq_f, nm_eq, nm_eq2, nm_lt, nm_lt2, nm_le, nm_le2, nm_ss, nm_sp, pu_ss, pu_snq, pu_neq, eq_self, and_true, true_and, and_false, false_and, or_true, true_or, or_false, false_or, not_true_eq_false, not_false_eq_true, h10, c_min, mn_s, show r + x + 1 = r + (x + 1) by omega]
    · simp only [mX2_firstPlace_26_L11]
      simp (disch := omega) only [Option.bind_some, if_true, if_false, Sum.elim_inl, Sum.elim_inr, li0, li1, li2, li3, li4, li5, li6, li7, li8, li9, li10, li12, li16, li20, li24, li25, li31, li32, li40, li41, li42, li48, li57, li59, li97, li104, li105, li124, li126, li240, li241, nI_add, nI_subc, nI_subm, nI_mulc, nI_nm, pu_r, pu_t, pu_a, pu_le_t, pu_le_f, pu_lt_t, pu_lt_f, pu_eq_t, pu_eq_f, nm_eq, nm_eq2, nm_lt, nm_lt2, nm_le, nm_le2, nm_ss, nm_sp, pu_ss, pu_snq, pu_neq, eq_self, and_true, true_and, and_false, false_and, or_true, true_or, or_false, false_or, not_true_eq_false, not_false_eq_true]
  unfold mX2_firstPlace_26
  simp (disch := omega) only [Option.bind_some, if_true, if_false, Sum.elim_inl, Sum.elim_inr, li0, li1, li2, li3, li4, li5, li6, li7, li8, li9, li10, li12, li16, li20, li24, li25, li31, li32, li40, li41, li42, li48, li57, li59, li97, li104, li105, li124, li126, li240, li241, nI_add, nI_subc, nI_subm, nI_mulc, nI_nm, pu_r, pu_t, pu_a, pu_le_t, pu_le_f, pu_lt_t, pu_lt_f, pu_eq_t, pu_eq_f, nm_eq, nm_eq2, nm_lt, nm_lt2, nm_le, nm_le2, nm_ss, nm_sp, pu_ss, pu_snq, pu_neq, eq_self, and_true, true_and, and_false, false_and, or_true, true_or, or_false, false_or, not_true_eq_false, not_false_eq_true, c1, hl]
theorem r_areB {a b : Int32} : mX12_areBounds_63 a b = some (bI (iB a (nI 1) (nI 240) && iB b (nI 2) (nI 241))) := by
  unfold mX12_areBounds_63
  rw [li0, li1, li2, li240, li241, r_in, r_in]
  cases iB a (nI 1) (nI 240) <;> cases iB b (nI 2) (nI 241) <;> rfl
theorem qr_maximals {T : Nat → Nat} {n m : Nat} {W X : Nat → Nat} {t : Nat} {F : Nat → Nat} {S P : Nat} {D : Nat → Nat → Nat → Nat} {M : me_M} (h : Inv M) (ha : vA T n m W X t F S P D M) (a0 a1 : Int32) (hb0 : iB a0 (nI 1) (nI 240) = true) (hb1 : iB a1 (nI 2) (nI 241) = true) : aQ (hL_maximals M a0 a1) (fun M1 => mX12_maximals_63 M1 a0 a1) := by
  have hT := ha.1.1
  have hn := hT.2.2.2
  obtain ⟨least, l1, l2, rfl⟩ := iB_n hb0 (by omega) (by omega)
  obtain ⟨often, o1, o2, rfl⟩ := iB_n hb1 (by omega) (by omega)
  have e1 := c_countMax hn ha.1.2.2.2 l2 o2
  have hy : ∀ M0, vA T n m W X t F S P D M0 → ry T n M0 := fun M0 h0 => h0.1.2.2.1
  generalize hx : (nI (nC T n least often (n + 1))).toInt64 = x
  have hab : vA T n m W X t F S P D (me_s (me_o M 0 x) 63 0 (nI 0)) := vA.z (M := me_o M 0 x) ha (fr.s (by omega))
  have e0 : (me_s (me_o M 0 x) 63 0 (nI 0)).1 63 0 = nI 0 := pu_ss
  obtain ⟨M2, e2, f2, -⟩ := r_maxTo (M := me_s (me_o M 0 x) 63 0 (nI 0)) (-nI 1) hT (hy _ hab) l1 l2 o2
  refine aQ.c (M1 := M) (v := nI (nC T n least often (n + 1))) (M2 := M2) (G := fun M0 => nX12_maximals M0 (nI least) (nI often)) (fun M1 => zX12_maximals M1 _ _) ?_ ?_ ?_ ?_ ?_
  · simp (disch := omega) only [↓reduceIte, ↓needEb, ↓needAb, ↓needSb, ↓needE0l, ↓needE1l, ↓needA0l, ↓needA1l, ↓needS0l, ↓needS1l, ↓bnd c_isWhat, ↓bnd c_isSide, ↓bnd c_isLetter, ↓bnd c_isLength, ↓bnd c_isOften, ↓bnd r_in, ↓bnd r_isLetter, bI_t, bI_f, Bool.false_eq_true, Option.bind_none, Option.none_or, Option.some_or, xAN, xNA, xSA, Option.bind_some, if_true, if_false, Sum.elim_inl, Sum.elim_inr, li0, li1, li2, li3, li4, li5, li6, li7, li8, li9, li10, li12, li16, li20, li24, li25, li31, li32, li40, li41, li42, li48, li57, li59, li97, li104, li105, li124, li126, li240, li241, nI_add, nI_subc, nI_subm, nI_mulc, nI_nm, pu_r, pu_t, pu_a, pu_le_t, pu_le_f, pu_lt_t, pu_lt_f, pu_eq_t, pu_eq_f, nm_eq, nm_eq2, nm_lt, nm_lt2, nm_le, nm_le2, nm_ss, nm_sp, pu_ss, pu_snq, pu_neq, eq_self, and_true, true_and, and_false, false_and, or_true, true_or, or_false, false_or, not_true_eq_false, not_false_eq_true, hL_maximals, mX11_maximals_0, mX11_maximals_0_J19, mX11_maximals_0_J20, hb0, hb1, e1]
  · rw [hx]
    simp (disch := omega) only [↓reduceIte, ↓needEb, ↓needAb, ↓needSb, ↓needE0l, ↓needE1l, ↓needA0l, ↓needA1l, ↓needS0l, ↓needS1l, ↓bnd c_isWhat, ↓bnd c_isSide, ↓bnd c_isLetter, ↓bnd c_isLength, ↓bnd c_isOften, ↓bnd r_in, ↓bnd r_isLetter, bI_t, bI_f, Bool.false_eq_true, Option.bind_none, Option.none_or, Option.some_or, xAN, xNA, xSA, Option.bind_some, if_true, if_false, Sum.elim_inl, Sum.elim_inr, li0, li1, li2, li3, li4, li5, li6, li7, li8, li9, li10, li12, li16, li20, li24, li25, li31, li32, li40, li41, li42, li48, li57, li59, li97, li104, li105, li124, li126, li240, li241, nI_add, nI_subc, nI_subm, nI_mulc, nI_nm, pu_r, pu_t, pu_a, pu_le_t, pu_le_f, pu_lt_t, pu_lt_f, pu_eq_t, pu_eq_f, nm_eq, nm_eq2, nm_lt, nm_lt2, nm_le, nm_le2, nm_ss, nm_sp, pu_ss, pu_snq, pu_neq, eq_self, and_true, true_and, and_false, false_and, or_true, true_or, or_false, false_or, not_true_eq_false, not_false_eq_true, nX12_maximals, mX12_maximals_63_J20, ↓bnd r_areB, hb0, hb1, Bool.and_true, ↓bnd (r_bad0l e0), e2]
  · rw [f2.2 _ _ (by omega)]; exact e0
  · rw [hx, f2.1]; rfl
  · exact Inv.go (M := me_o M 0 x) h.o ((fr.s (S := scr) (by unfold scr; omega)).tr (f2.up (fun b k h => by unfold scr; omega)))
theorem q_maximals {M : me_M} (h : Inv M) (a0 : Int32) (a1 : Int32) : aQ (hL_maximals M a0 a1) (fun M1 => mX12_maximals_63 M1 a0 a1) := by
  obtain ⟨T, n, m, W, X, t, F, S, P, D, ha⟩ := h.vA
  have hT := ha.1.1
  have hx := ha.1.2.1
  have c1 := hx.1.1.1
  have hn := hT.2.2.2
  have h9 := hT.2.1
  have hp1 := ha.2.2.1.2.1
  have ht := ha.2.2.1.1
  have hm4 := ha.2.1.1.2.2.1
  have hm40 := ha.2.1.1.1
  cases hb0 : iB a0 (nI 1) (nI 240) with
  | false =>
    refine aQ.t 1 1 (G := fun M0 => nX12_maximals M0 a0 a1) (fun M1 => zX12_maximals M1 a0 a1) h ha (by omega) (by omega) (by omega) ?_ (fun M0 h0 hz hf => ?_)
    · simp (disch := omega) only [↓reduceIte, ↓needEb, ↓needAb, ↓needSb, ↓needE0l, ↓needE1l, ↓needA0l, ↓needA1l, ↓needS0l, ↓needS1l, ↓bnd c_isWhat, ↓bnd c_isSide, ↓bnd c_isLetter, ↓bnd c_isLength, ↓bnd c_isOften, ↓bnd r_in, ↓bnd r_isLetter, bI_t, bI_f, Bool.false_eq_true, Option.bind_none, Option.none_or, Option.some_or, xAN, xNA, xSA, Option.bind_some, if_true, if_false, Sum.elim_inl, Sum.elim_inr, li0, li1, li2, li3, li4, li5, li6, li7, li8, li9, li10, li12, li16, li20, li24, li25, li31, li32, li40, li41, li42, li48, li57, li59, li97, li104, li105, li124, li126, li240, li241, nI_add, nI_subc, nI_subm, nI_mulc, nI_nm, pu_r, pu_t, pu_a, pu_le_t, pu_le_f, pu_lt_t, pu_lt_f, pu_eq_t, pu_eq_f, nm_eq, nm_eq2, nm_lt, nm_lt2, nm_le, nm_le2, nm_ss, nm_sp, pu_ss, pu_snq, pu_neq, eq_self, and_true, true_and, and_false, false_and, or_true, true_or, or_false, false_or, not_true_eq_false, not_false_eq_true, mX11_maximals_0_J20, mX11_maximals_0_J19, mX11_maximals_0, tX11_maximals_0_J20, tX11_maximals_0_J19, tX11_maximals_0, hL_maximals, hb0]
    · simp (disch := omega) only [↓reduceIte, ↓needEb, ↓needAb, ↓needSb, ↓needE0l, ↓needE1l, ↓needA0l, ↓needA1l, ↓needS0l, ↓needS1l, ↓bnd c_isWhat, ↓bnd c_isSide, ↓bnd c_isLetter, ↓bnd c_isLength, ↓bnd c_isOften, ↓bnd r_in, ↓bnd r_isLetter, bI_t, bI_f, Bool.false_eq_true, Option.bind_none, Option.none_or, Option.some_or, xAN, xNA, xSA, Option.bind_some, if_true, if_false, Sum.elim_inl, Sum.elim_inr, li0, li1, li2, li3, li4, li5, li6, li7, li8, li9, li10, li12, li16, li20, li24, li25, li31, li32, li40, li41, li42, li48, li57, li59, li97, li104, li105, li124, li126, li240, li241, nI_add, nI_subc, nI_subm, nI_mulc, nI_nm, pu_r, pu_t, pu_a, pu_le_t, pu_le_f, pu_lt_t, pu_lt_f, pu_eq_t, pu_eq_f, nm_eq, nm_eq2, nm_lt, nm_lt2, nm_le, nm_le2, nm_ss, nm_sp, pu_ss, pu_snq, pu_neq, eq_self, and_true, true_and, and_false, false_and, or_true, true_or, or_false, false_or, not_true_eq_false, not_false_eq_true, nX12_maximals, mX12_maximals_63_J20, ↓bnd r_areB, Bool.and_false, Bool.false_and, Bool.and_true, Bool.true_and, hb0, ↓bnd (r_bad0l hz), ↓bnd (r_bad10 hz), ↓bnd (r_bad11 hz), ↓bnd (r_bad21 hz), ↓bnd (r_bad22 hz)]
  | true =>
    cases hb1 : iB a1 (nI 2) (nI 241) with
    | false =>
      refine aQ.t 1 1 (G := fun M0 => nX12_maximals M0 a0 a1) (fun M1 => zX12_maximals M1 a0 a1) h ha (by omega) (by omega) (by omega) ?_ (fun M0 h0 hz hf => ?_)
      · simp (disch := omega) only [↓reduceIte, ↓needEb, ↓needAb, ↓needSb, ↓needE0l, ↓needE1l, ↓needA0l, ↓needA1l, ↓needS0l, ↓needS1l, ↓bnd c_isWhat, ↓bnd c_isSide, ↓bnd c_isLetter, ↓bnd c_isLength, ↓bnd c_isOften, ↓bnd r_in, ↓bnd r_isLetter, bI_t, bI_f, Bool.false_eq_true, Option.bind_none, Option.none_or, Option.some_or, xAN, xNA, xSA, Option.bind_some, if_true, if_false, Sum.elim_inl, Sum.elim_inr, li0, li1, li2, li3, li4, li5, li6, li7, li8, li9, li10, li12, li16, li20, li24, li25, li31, li32, li40, li41, li42, li48, li57, li59, li97, li104, li105, li124, li126, li240, li241, nI_add, nI_subc, nI_subm, nI_mulc, nI_nm, pu_r, pu_t, pu_a, pu_le_t, pu_le_f, pu_lt_t, pu_lt_f, pu_eq_t, pu_eq_f, nm_eq, nm_eq2, nm_lt, nm_lt2, nm_le, nm_le2, nm_ss, nm_sp, pu_ss, pu_snq, pu_neq, eq_self, and_true, true_and, and_false, false_and, or_true, true_or, or_false, false_or, not_true_eq_false, not_false_eq_true, mX11_maximals_0_J20, mX11_maximals_0_J19, mX11_maximals_0, tX11_maximals_0_J20, tX11_maximals_0_J19, tX11_maximals_0, hL_maximals, hb0, hb1]
      · simp (disch := omega) only [↓reduceIte, ↓needEb, ↓needAb, ↓needSb, ↓needE0l, ↓needE1l, ↓needA0l, ↓needA1l, ↓needS0l, ↓needS1l, ↓bnd c_isWhat, ↓bnd c_isSide, ↓bnd c_isLetter, ↓bnd c_isLength, ↓bnd c_isOften, ↓bnd r_in, ↓bnd r_isLetter, bI_t, bI_f, Bool.false_eq_true, Option.bind_none, Option.none_or, Option.some_or, xAN, xNA, xSA, Option.bind_some, if_true, if_false, Sum.elim_inl, Sum.elim_inr, li0, li1, li2, li3, li4, li5, li6, li7, li8, li9, li10, li12, li16, li20, li24, li25, li31, li32, li40, li41, li42, li48, li57, li59, li97, li104, li105, li124, li126, li240, li241, nI_add, nI_subc, nI_subm, nI_mulc, nI_nm, pu_r, pu_t, pu_a, pu_le_t, pu_le_f, pu_lt_t, pu_lt_f, pu_eq_t, pu_eq_f, nm_eq, nm_eq2, nm_lt, nm_lt2, nm_le, nm_le2, nm_ss, nm_sp, pu_ss, pu_snq, pu_neq, eq_self, and_true, true_and, and_false, false_and, or_true, true_or, or_false, false_or, not_true_eq_false, not_false_eq_true, nX12_maximals, mX12_maximals_63_J20, ↓bnd r_areB, Bool.and_false, Bool.false_and, Bool.and_true, Bool.true_and, hb0, hb1, ↓bnd (r_bad0l hz), ↓bnd (r_bad10 hz), ↓bnd (r_bad11 hz), ↓bnd (r_bad21 hz), ↓bnd (r_bad22 hz)]
    | true =>
      exact qr_maximals h ha a0 a1 hb0 hb1
theorem qr_maximal {T : Nat → Nat} {n m : Nat} {W X : Nat → Nat} {t : Nat} {F : Nat → Nat} {S P : Nat} {D : Nat → Nat → Nat → Nat} {M : me_M} (h : Inv M) (ha : vA T n m W X t F S P D M) (a0 a1 a2 a3 : Int32) (hb1 : iB a1 (nI 1) (nI 240) = true) (hb2 : iB a2 (nI 2) (nI 241) = true) (hb3 : iB a3 (nI 0) (nI 2) = true) : aQ (hL_maximal M a0 a1 a2 a3) (fun M1 => mX12_maximal_63 M1 a0 a1 a2 a3) := by
  have hT := ha.1.1
  have hn := hT.2.2.2
  have hmls := ha.1.2.2.2
  obtain ⟨least, l1, l2, rfl⟩ := iB_n hb1 (by omega) (by omega)
  obtain ⟨often, o1, o2, rfl⟩ := iB_n hb2 (by omega) (by omega)
  obtain ⟨j, -, hj, rfl⟩ := iB_n hb3 (by omega) (by omega)
  have hN := hmls.2.1
  have hall := gM_all (least := least) (often := often) hn hmls (n + 1) (Nat.le_refl _)
  have hnb : nC T n least often (n + 1) ≤ 240 := by
    rw [← hall]; have := ct_le (gM M least often) (nmx T n (n + 1)); omega
  cases hb0 : iB a0 (nI 0) (dn (nC T n least often (n + 1))) with
  | false =>
    have e1 := c_indexNone hn hmls l2 o2 hb0
    have hab : vA T n m W X t F S P D (me_s (me_s M 0 13 (M.1 0 13 + 1)) 63 0 (nI 0)) := ha.z ((fr.s (by omega)).st (by omega))
    have e0 : (me_s (me_s M 0 13 (M.1 0 13 + 1)) 63 0 (nI 0)).1 63 0 = nI 0 := pu_ss
    obtain ⟨M2, e2, f2, -⟩ := r_maxTo a0 hT hab.1.2.2.1 l1 l2 o2
    have e02 : M2.1 63 0 = nI 0 := by rw [f2.2 _ _ (by omega)]; exact e0
    have e64 : M2.1 64 0 = M.1 64 0 := by rw [f2.2 _ _ (by omega)]; simp (disch := omega) only [Option.bind_some, if_true, if_false, Sum.elim_inl, Sum.elim_inr, li0, li1, li2, li3, li4, li5, li6, li7, li8, li9, li10, li12, li16, li20, li24, li25, li31, li32, li40, li41, li42, li48, li57, li59, li97, li104, li105, li124, li126, li240, li241, nI_add, nI_subc, nI_subm, nI_mulc, nI_nm, pu_r, pu_t, pu_a, pu_le_t, pu_le_f, pu_lt_t, pu_lt_f, pu_eq_t, pu_eq_f, nm_eq, nm_eq2, nm_lt, nm_lt2, nm_le, nm_le2, nm_ss, nm_sp, pu_ss, pu_snq, pu_neq, eq_self, and_true, true_and, and_false, false_and, or_true, true_or, or_false, false_or, not_true_eq_false, not_false_eq_true]
    refine ⟨nI 1, me_s M 0 13 (M.1 0 13 + 1), ?_, nI 0, me_s (me_s M2 63 0 (nI 1)) 64 0 (M2.1 64 0 + nI 1), ?_, ?_, fun e => ?_, ?_⟩
    · simp (disch := omega) only [↓reduceIte, ↓needEb, ↓needAb, ↓needSb, ↓needE0l, ↓needE1l, ↓needA0l, ↓needA1l, ↓needS0l, ↓needS1l, ↓bnd c_isWhat, ↓bnd c_isSide, ↓bnd c_isLetter, ↓bnd c_isLength, ↓bnd c_isOften, ↓bnd r_in, ↓bnd r_isLetter, bI_t, bI_f, Bool.false_eq_true, Option.bind_none, Option.none_or, Option.some_or, xAN, xNA, xSA, Option.bind_some, if_true, if_false, Sum.elim_inl, Sum.elim_inr, li0, li1, li2, li3, li4, li5, li6, li7, li8, li9, li10, li12, li16, li20, li24, li25, li31, li32, li40, li41, li42, li48, li57, li59, li97, li104, li105, li124, li126, li240, li241, nI_add, nI_subc, nI_subm, nI_mulc, nI_nm, pu_r, pu_t, pu_a, pu_le_t, pu_le_f, pu_lt_t, pu_lt_f, pu_eq_t, pu_eq_f, nm_eq, nm_eq2, nm_lt, nm_lt2, nm_le, nm_le2, nm_ss, nm_sp, pu_ss, pu_snq, pu_neq, eq_self, and_true, true_and, and_false, false_and, or_true, true_or, or_false, false_or, not_true_eq_false, not_false_eq_true, hL_maximal, mX11_maximal_0, mX11_maximal_0_J28, mX11_maximal_0_J29, mX11_maximal_0_J56, tX11_maximal_0, tX11_maximal_0_J28, tX11_maximal_0_J29, tX11_maximal_0_J56, hb1, hb2, hb3, e1]
    · show mX12_maximal_63 (me_s M 0 13 (M.1 0 13 + 1)) a0 (nI least) (nI often) (nI j) = _
      rw [zX12_maximal, li0]
      simp (disch := omega) only [↓reduceIte, ↓needEb, ↓needAb, ↓needSb, ↓needE0l, ↓needE1l, ↓needA0l, ↓needA1l, ↓needS0l, ↓needS1l, ↓bnd c_isWhat, ↓bnd c_isSide, ↓bnd c_isLetter, ↓bnd c_isLength, ↓bnd c_isOften, ↓bnd r_in, ↓bnd r_isLetter, bI_t, bI_f, Bool.false_eq_true, Option.bind_none, Option.none_or, Option.some_or, xAN, xNA, xSA, Option.bind_some, if_true, if_false, Sum.elim_inl, Sum.elim_inr, li0, li1, li2, li3, li4, li5, li6, li7, li8, li9, li10, li12, li16, li20, li24, li25, li31, li32, li40, li41, li42, li48, li57, li59, li97, li104, li105, li124, li126, li240, li241, nI_add, nI_mulc, nI_nm, pu_r, pu_t, pu_a, pu_le_t, pu_le_f, pu_lt_t, pu_lt_f, pu_eq_t, pu_eq_f, nm_eq, nm_eq2, nm_lt, nm_lt2, nm_le, nm_le2, nm_ss, nm_sp, pu_ss, pu_snq, pu_neq, eq_self, and_true, true_and, and_false, false_and, or_true, true_or, or_false, false_or, not_true_eq_false, not_false_eq_true, nX12_maximal, mX12_maximal_63_J25, mX12_maximal_63_J30, mX12_maximal_63_J63, ↓bnd r_areB, hb1, hb2, hb3, Bool.and_true, ↓bnd (r_bad0l e0), ↓bnd e2, dn_m, hb0, ↓bnd (r_bad10 e02)]
    · simp (disch := omega) only [Option.bind_some, if_true, if_false, Sum.elim_inl, Sum.elim_inr, li0, li1, li2, li3, li4, li5, li6, li7, li8, li9, li10, li12, li16, li20, li24, li25, li31, li32, li40, li41, li42, li48, li57, li59, li97, li104, li105, li124, li126, li240, li241, nI_add, nI_subc, nI_subm, nI_mulc, nI_nm, pu_r, pu_t, pu_a, pu_le_t, pu_le_f, pu_lt_t, pu_lt_f, pu_eq_t, pu_eq_f, nm_eq, nm_eq2, nm_lt, nm_lt2, nm_le, nm_le2, nm_ss, nm_sp, pu_ss, pu_snq, pu_neq, eq_self, and_true, true_and, and_false, false_and, or_true, true_or, or_false, false_or, not_true_eq_false, not_false_eq_true]
    · rw [li0] at e
      simp (disch := omega) only [Option.bind_some, if_true, if_false, Sum.elim_inl, Sum.elim_inr, li0, li1, li2, li3, li4, li5, li6, li7, li8, li9, li10, li12, li16, li20, li24, li25, li31, li32, li40, li41, li42, li48, li57, li59, li97, li104, li105, li124, li126, li240, li241, nI_add, nI_subc, nI_subm, nI_mulc, nI_nm, pu_r, pu_t, pu_a, pu_le_t, pu_le_f, pu_lt_t, pu_lt_f, pu_eq_t, pu_eq_f, nm_eq, nm_eq2, nm_lt, nm_lt2, nm_le, nm_le2, nm_ss, nm_sp, pu_ss, pu_snq, pu_neq, eq_self, and_true, true_and, and_false, false_and, or_true, true_or, or_false, false_or, not_true_eq_false, not_false_eq_true] at e
    · have hthr := h.thr (k := 0) (w := nI 1) (by omega)
      refine Inv.go hthr ?_
      refine ⟨?_, fun b k hbk => ?_⟩
      · show M2.2 = M.2
        rw [f2.1]; rfl
      · have hs1 : ¬ (b = 89) := fun z => hbk (by unfold scr; omega)
        by_cases z1 : b = 64 ∧ k = 0
        · rw [z1.1, z1.2]; simp (disch := omega) only [Option.bind_some, if_true, if_false, Sum.elim_inl, Sum.elim_inr, li0, li1, li2, li3, li4, li5, li6, li7, li8, li9, li10, li12, li16, li20, li24, li25, li31, li32, li40, li41, li42, li48, li57, li59, li97, li104, li105, li124, li126, li240, li241, nI_add, nI_subc, nI_subm, nI_mulc, nI_nm, pu_r, pu_t, pu_a, pu_le_t, pu_le_f, pu_lt_t, pu_lt_f, pu_eq_t, pu_eq_f, nm_eq, nm_eq2, nm_lt, nm_lt2, nm_le, nm_le2, nm_ss, nm_sp, pu_ss, pu_snq, pu_neq, eq_self, and_true, true_and, and_false, false_and, or_true, true_or, or_false, false_or, not_true_eq_false, not_false_eq_true, e64]
        · by_cases z2 : b = 63 ∧ k = 0
          · rw [z2.1, z2.2]; simp (disch := omega) only [Option.bind_some, if_true, if_false, Sum.elim_inl, Sum.elim_inr, li0, li1, li2, li3, li4, li5, li6, li7, li8, li9, li10, li12, li16, li20, li24, li25, li31, li32, li40, li41, li42, li48, li57, li59, li97, li104, li105, li124, li126, li240, li241, nI_add, nI_subc, nI_subm, nI_mulc, nI_nm, pu_r, pu_t, pu_a, pu_le_t, pu_le_f, pu_lt_t, pu_lt_f, pu_eq_t, pu_eq_f, nm_eq, nm_eq2, nm_lt, nm_lt2, nm_le, nm_le2, nm_ss, nm_sp, pu_ss, pu_snq, pu_neq, eq_self, and_true, true_and, and_false, false_and, or_true, true_or, or_false, false_or, not_true_eq_false, not_false_eq_true]
          · have g1 : (me_s (me_s M2 63 0 (nI 1)) 64 0 (M2.1 64 0 + nI 1)).1 b k = M2.1 b k := (((fr.s (S := fun b k => (b = 63 ∧ k = 0) ∨ (b = 64 ∧ k = 0)) (by omega)).st (by omega)).2 b k (by omega))
            have g2 : (me_s (me_s (me_s (me_s M 0 (13 + 0) (M.1 0 (13 + 0) + 1)) 63 0 (nI 0)) 63 0 (nI 1)) 64 0 (M.1 64 0 + 1)).1 b k = (me_s (me_s M 0 13 (M.1 0 13 + 1)) 63 0 (nI 0)).1 b k := (((fr.s (S := fun b k => (b = 63 ∧ k = 0) ∨ (b = 64 ∧ k = 0)) (by omega)).st (by omega)).2 b k (by omega))
            rw [g1, g2, f2.2 _ _ hs1]
  | true =>
    obtain ⟨k, hk, rfl⟩ := iB_d hb0 (by omega)
    obtain ⟨i, i1, i2, i3⟩ := ct_at (K := gM M least often) (nmx T n (n + 1)) k (by rw [hall]; exact hk)
    have e1 := c_indexMax hn hmls l2 o2 i1 i2
    rw [i3] at e1
    obtain ⟨r, len, r1, r2, r3, r4⟩ := nmx_at _ i1
    obtain ⟨g27, g28, g29⟩ := hmls.2.2 r len (by omega) r2 r3
    rw [← r4] at g27 g28 g29
    have htb := tm_bd (T := T) (n := n) (p := pa T n r) (len := len)
    have hmC : mC T n least often r len = true := by
      unfold gM at i2
      rw [g27, g29, nI_clamp (by omega), nI_clamp (by omega)] at i2
      unfold mC
      rw [r3, i2]; rfl
    have hkr : k = nC T n least often r + ct (mC T n least often r) len := by
      rw [← i3, r4, gM_row hn hmls (by omega) (gM_all hn hmls r (by omega)) len (by omega)]
    obtain ⟨x1, x2, x3, x4⟩ := MX_iff.mp r3
    have hfp := c_firstPl hT ha.1.2.1 (show r ≤ n by omega) (show 1 ≤ len by omega) x3 x1
    have key : ∀ v, (j = 0 → v = nI len) → (j = 1 → v = nI (fo T n (pa T n r) len)) → (j = 2 → v = nI (tm T n (pa T n r) len)) → aQ (hL_maximal M (nI k) (nI least) (nI often) (nI j)) (fun M1 => mX12_maximal_63 M1 (nI k) (nI least) (nI often) (nI j)) := fun v k0 k1 k2 => by
      have hj3 : j = 0 ∨ j = 1 ∨ j = 2 := by omega
      generalize hx : v.toInt64 = x
      have hab : vA T n m W X t F S P D (me_s (me_o M 0 x) 63 0 (nI 0)) := vA.z (M := me_o M 0 x) ha (fr.s (by omega))
      have e0 : (me_s (me_o M 0 x) 63 0 (nI 0)).1 63 0 = nI 0 := pu_ss
      obtain ⟨M2, e2, f2, g2⟩ := r_maxTo (nI k) hT hab.1.2.2.1 l1 l2 o2
      obtain ⟨s0, s1, s2⟩ := g2 r len (by omega) r2 hmC (by rw [hkr])
      have e02 : M2.1 63 0 = nI 0 := by rw [f2.2 _ _ (by omega)]; exact e0
      refine aQ.c (M1 := M) (v := v) (M2 := M2) (G := fun M0 => nX12_maximal M0 (nI k) (nI least) (nI often) (nI j)) (fun M1 => zX12_maximal M1 _ _ _ _) ?_ ?_ e02 ?_ ?_
      · rcases hj3 with rfl | rfl | rfl
        · simp (disch := omega) only [↓reduceIte, ↓needEb, ↓needAb, ↓needSb, ↓needE0l, ↓needE1l, ↓needA0l, ↓needA1l, ↓needS0l, ↓needS1l, ↓bnd c_isWhat, ↓bnd c_isSide, ↓bnd c_isLetter, ↓bnd c_isLength, ↓bnd c_isOften, ↓bnd r_in, ↓bnd r_isLetter, bI_t, bI_f, Bool.false_eq_true, Option.bind_none, Option.none_or, Option.some_or, xAN, xNA, xSA, Option.bind_some, if_true, if_false, Sum.elim_inl, Sum.elim_inr, li0, li1, li2, li3, li4, li5, li6, li7, li8, li9, li10, li12, li16, li20, li24, li25, li31, li32, li40, li41, li42, li48, li57, li59, li97, li104, li105, li124, li126, li240, li241, nI_add, nI_subc, nI_subm, nI_mulc, nI_nm, pu_r, pu_t, pu_a, pu_le_t, pu_le_f, pu_lt_t, pu_lt_f, pu_eq_t, pu_eq_f, nm_eq, nm_eq2, nm_lt, nm_lt2, nm_le, nm_le2, nm_ss, nm_sp, pu_ss, pu_snq, pu_neq, eq_self, and_true, true_and, and_false, false_and, or_true, true_or, or_false, false_or, not_true_eq_false, not_false_eq_true, hL_maximal, mX11_maximal_0, mX11_maximal_0_J28, mX11_maximal_0_J29, mX11_maximal_0_J56, hb1, hb2, hb3, e1, g27, k0 rfl]
        · simp (disch := omega) only [↓reduceIte, ↓needEb, ↓needAb, ↓needSb, ↓needE0l, ↓needE1l, ↓needA0l, ↓needA1l, ↓needS0l, ↓needS1l, ↓bnd c_isWhat, ↓bnd c_isSide, ↓bnd c_isLetter, ↓bnd c_isLength, ↓bnd c_isOften, ↓bnd r_in, ↓bnd r_isLetter, bI_t, bI_f, Bool.false_eq_true, Option.bind_none, Option.none_or, Option.some_or, xAN, xNA, xSA, Option.bind_some, if_true, if_false, Sum.elim_inl, Sum.elim_inr, li0, li1, li2, li3, li4, li5, li6, li7, li8, li9, li10, li12, li16, li20, li24, li25, li31, li32, li40, li41, li42, li48, li57, li59, li97, li104, li105, li124, li126, li240, li241, nI_add, nI_subc, nI_subm, nI_mulc, nI_nm, pu_r, pu_t, pu_a, pu_le_t, pu_le_f, pu_lt_t, pu_lt_f, pu_eq_t, pu_eq_f, nm_eq, nm_eq2, nm_lt, nm_lt2, nm_le, nm_le2, nm_ss, nm_sp, pu_ss, pu_snq, pu_neq, eq_self, and_true, true_and, and_false, false_and, or_true, true_or, or_false, false_or, not_true_eq_false, not_false_eq_true, hL_maximal, mX11_maximal_0, mX11_maximal_0_J28, mX11_maximal_0_J29, mX11_maximal_0_J56, hb1, hb2, hb3, e1, g28, g29, hfp, k1 rfl]
        · simp (disch := omega) only [↓reduceIte, ↓needEb, ↓needAb, ↓needSb, ↓needE0l, ↓needE1l, ↓needA0l, ↓needA1l, ↓needS0l, ↓needS1l, ↓bnd c_isWhat, ↓bnd c_isSide, ↓bnd c_isLetter, ↓bnd c_isLength, ↓bnd c_isOften, ↓bnd r_in, ↓bnd r_isLetter, bI_t, bI_f, Bool.false_eq_true, Option.bind_none, Option.none_or, Option.some_or, xAN, xNA, xSA, Option.bind_some, if_true, if_false, Sum.elim_inl, Sum.elim_inr, li0, li1, li2, li3, li4, li5, li6, li7, li8, li9, li10, li12, li16, li20, li24, li25, li31, li32, li40, li41, li42, li48, li57, li59, li97, li104, li105, li124, li126, li240, li241, nI_add, nI_subc, nI_subm, nI_mulc, nI_nm, pu_r, pu_t, pu_a, pu_le_t, pu_le_f, pu_lt_t, pu_lt_f, pu_eq_t, pu_eq_f, nm_eq, nm_eq2, nm_lt, nm_lt2, nm_le, nm_le2, nm_ss, nm_sp, pu_ss, pu_snq, pu_neq, eq_self, and_true, true_and, and_false, false_and, or_true, true_or, or_false, false_or, not_true_eq_false, not_false_eq_true, hL_maximal, mX11_maximal_0, mX11_maximal_0_J28, mX11_maximal_0_J29, mX11_maximal_0_J56, hb1, hb2, hb3, e1, g29, k2 rfl]
      · rw [hx]
        rcases hj3 with rfl | rfl | rfl
        · simp (disch := omega) only [↓reduceIte, ↓needEb, ↓needAb, ↓needSb, ↓needE0l, ↓needE1l, ↓needA0l, ↓needA1l, ↓needS0l, ↓needS1l, ↓bnd c_isWhat, ↓bnd c_isSide, ↓bnd c_isLetter, ↓bnd c_isLength, ↓bnd c_isOften, ↓bnd r_in, ↓bnd r_isLetter, bI_t, bI_f, Bool.false_eq_true, Option.bind_none, Option.none_or, Option.some_or, xAN, xNA, xSA, Option.bind_some, if_true, if_false, Sum.elim_inl, Sum.elim_inr, li0, li1, li2, li3, li4, li5, li6, li7, li8, li9, li10, li12, li16, li20, li24, li25, li31, li32, li40, li41, li42, li48, li57, li59, li97, li104, li105, li124, li126, li240, li241, nI_add, nI_mulc, nI_nm, pu_r, pu_t, pu_a, pu_le_t, pu_le_f, pu_lt_t, pu_lt_f, pu_eq_t, pu_eq_f, nm_eq, nm_eq2, nm_lt, nm_lt2, nm_le, nm_le2, nm_ss, nm_sp, pu_ss, pu_snq, pu_neq, eq_self, and_true, true_and, and_false, false_and, or_true, true_or, or_false, false_or, not_true_eq_false, not_false_eq_true, nX12_maximal, mX12_maximal_63_J25, mX12_maximal_63_J30, mX12_maximal_63_J63, ↓bnd r_areB, hb1, hb2, hb3, Bool.and_true, ↓bnd (r_bad0l e0), ↓bnd e2, dn_m, hb0, ↓bnd (r_bad0l e02), s0, k0 rfl]
        · simp (disch := omega) only [↓reduceIte, ↓needEb, ↓needAb, ↓needSb, ↓needE0l, ↓needE1l, ↓needA0l, ↓needA1l, ↓needS0l, ↓needS1l, ↓bnd c_isWhat, ↓bnd c_isSide, ↓bnd c_isLetter, ↓bnd c_isLength, ↓bnd c_isOften, ↓bnd r_in, ↓bnd r_isLetter, bI_t, bI_f, Bool.false_eq_true, Option.bind_none, Option.none_or, Option.some_or, xAN, xNA, xSA, Option.bind_some, if_true, if_false, Sum.elim_inl, Sum.elim_inr, li0, li1, li2, li3, li4, li5, li6, li7, li8, li9, li10, li12, li16, li20, li24, li25, li31, li32, li40, li41, li42, li48, li57, li59, li97, li104, li105, li124, li126, li240, li241, nI_add, nI_mulc, nI_nm, pu_r, pu_t, pu_a, pu_le_t, pu_le_f, pu_lt_t, pu_lt_f, pu_eq_t, pu_eq_f, nm_eq, nm_eq2, nm_lt, nm_lt2, nm_le, nm_le2, nm_ss, nm_sp, pu_ss, pu_snq, pu_neq, eq_self, and_true, true_and, and_false, false_and, or_true, true_or, or_false, false_or, not_true_eq_false, not_false_eq_true, nX12_maximal, mX12_maximal_63_J25, mX12_maximal_63_J30, mX12_maximal_63_J63, ↓bnd r_areB, hb1, hb2, hb3, Bool.and_true, ↓bnd (r_bad0l e0), ↓bnd e2, dn_m, hb0, ↓bnd (r_bad0l e02), s1, k1 rfl]
        · simp (disch := omega) only [↓reduceIte, ↓needEb, ↓needAb, ↓needSb, ↓needE0l, ↓needE1l, ↓needA0l, ↓needA1l, ↓needS0l, ↓needS1l, ↓bnd c_isWhat, ↓bnd c_isSide, ↓bnd c_isLetter, ↓bnd c_isLength, ↓bnd c_isOften, ↓bnd r_in, ↓bnd r_isLetter, bI_t, bI_f, Bool.false_eq_true, Option.bind_none, Option.none_or, Option.some_or, xAN, xNA, xSA, Option.bind_some, if_true, if_false, Sum.elim_inl, Sum.elim_inr, li0, li1, li2, li3, li4, li5, li6, li7, li8, li9, li10, li12, li16, li20, li24, li25, li31, li32, li40, li41, li42, li48, li57, li59, li97, li104, li105, li124, li126, li240, li241, nI_add, nI_mulc, nI_nm, pu_r, pu_t, pu_a, pu_le_t, pu_le_f, pu_lt_t, pu_lt_f, pu_eq_t, pu_eq_f, nm_eq, nm_eq2, nm_lt, nm_lt2, nm_le, nm_le2, nm_ss, nm_sp, pu_ss, pu_snq, pu_neq, eq_self, and_true, true_and, and_false, false_and, or_true, true_or, or_false, false_or, not_true_eq_false, not_false_eq_true, nX12_maximal, mX12_maximal_63_J25, mX12_maximal_63_J30, mX12_maximal_63_J63, ↓bnd r_areB, hb1, hb2, hb3, Bool.and_true, ↓bnd (r_bad0l e0), ↓bnd e2, dn_m, hb0, ↓bnd (r_bad0l e02), s2, k2 rfl]
      · rw [hx, f2.1]; rfl
      · exact Inv.go (M := me_o M 0 x) h.o ((fr.s (S := scr) (by unfold scr; omega)).tr (f2.up (fun b k h => by unfold scr; omega)))
    by_cases j0 : j = 0
    · exact key _ (fun _ => rfl) (fun z => absurd z (by omega)) (fun z => absurd z (by omega))
    · by_cases j1 : j = 1
      · exact key _ (fun z => absurd z (by omega)) (fun _ => rfl) (fun z => absurd z (by omega))
      · exact key _ (fun z => absurd z (by omega)) (fun z => absurd z (by omega)) (fun _ => rfl)
theorem q_maximal {M : me_M} (h : Inv M) (a0 : Int32) (a1 : Int32) (a2 : Int32) (a3 : Int32) : aQ (hL_maximal M a0 a1 a2 a3) (fun M1 => mX12_maximal_63 M1 a0 a1 a2 a3) := by
  obtain ⟨T, n, m, W, X, t, F, S, P, D, ha⟩ := h.vA
  have hT := ha.1.1
  have hx := ha.1.2.1
  have c1 := hx.1.1.1
  have hn := hT.2.2.2
  have h9 := hT.2.1
  have hp1 := ha.2.2.1.2.1
  have ht := ha.2.2.1.1
  have hm4 := ha.2.1.1.2.2.1
  have hm40 := ha.2.1.1.1
  cases hb0 : iB a1 (nI 1) (nI 240) with
  | false =>
    refine aQ.t 1 2 (G := fun M0 => nX12_maximal M0 a0 a1 a2 a3) (fun M1 => zX12_maximal M1 a0 a1 a2 a3) h ha (by omega) (by omega) (by omega) ?_ (fun M0 h0 hz hf => ?_)
    · simp (disch := omega) only [↓reduceIte, ↓needEb, ↓needAb, ↓needSb, ↓needE0l, ↓needE1l, ↓needA0l, ↓needA1l, ↓needS0l, ↓needS1l, ↓bnd c_isWhat, ↓bnd c_isSide, ↓bnd c_isLetter, ↓bnd c_isLength, ↓bnd c_isOften, ↓bnd r_in, ↓bnd r_isLetter, bI_t, bI_f, Bool.false_eq_true, Option.bind_none, Option.none_or, Option.some_or, xAN, xNA, xSA, Option.bind_some, if_true, if_false, Sum.elim_inl, Sum.elim_inr, li0, li1, li2, li3, li4, li5, li6, li7, li8, li9, li10, li12, li16, li20, li24, li25, li31, li32, li40, li41, li42, li48, li57, li59, li97, li104, li105, li124, li126, li240, li241, nI_add, nI_subc, nI_subm, nI_mulc, nI_nm, pu_r, pu_t, pu_a, pu_le_t, pu_le_f, pu_lt_t, pu_lt_f, pu_eq_t, pu_eq_f, nm_eq, nm_eq2, nm_lt, nm_lt2, nm_le, nm_le2, nm_ss, nm_sp, pu_ss, pu_snq, pu_neq, eq_self, and_true, true_and, and_false, false_and, or_true, true_or, or_false, false_or, not_true_eq_false, not_false_eq_true, mX11_maximal_0_J56, mX11_maximal_0_J29, mX11_maximal_0_J28, mX11_maximal_0, tX11_maximal_0_J56, tX11_maximal_0_J29, tX11_maximal_0_J28, tX11_maximal_0, hL_maximal, hb0]
    · simp (disch := omega) only [↓reduceIte, ↓needEb, ↓needAb, ↓needSb, ↓needE0l, ↓needE1l, ↓needA0l, ↓needA1l, ↓needS0l, ↓needS1l, ↓bnd c_isWhat, ↓bnd c_isSide, ↓bnd c_isLetter, ↓bnd c_isLength, ↓bnd c_isOften, ↓bnd r_in, ↓bnd r_isLetter, bI_t, bI_f, Bool.false_eq_true, Option.bind_none, Option.none_or, Option.some_or, xAN, xNA, xSA, Option.bind_some, if_true, if_false, Sum.elim_inl, Sum.elim_inr, li0, li1, li2, li3, li4, li5, li6, li7, li8, li9, li10, li12, li16, li20, li24, li25, li31, li32, li40, li41, li42, li48, li57, li59, li97, li104, li105, li124, li126, li240, li241, nI_add, nI_subc, nI_subm, nI_mulc, nI_nm, pu_r, pu_t, pu_a, pu_le_t, pu_le_f, pu_lt_t, pu_lt_f, pu_eq_t, pu_eq_f, nm_eq, nm_eq2, nm_lt, nm_lt2, nm_le, nm_le2, nm_ss, nm_sp, pu_ss, pu_snq, pu_neq, eq_self, and_true, true_and, and_false, false_and, or_true, true_or, or_false, false_or, not_true_eq_false, not_false_eq_true, nX12_maximal, mX12_maximal_63_J63, mX12_maximal_63_J30, mX12_maximal_63_J25, ↓bnd r_areB, Bool.and_false, Bool.false_and, Bool.and_true, Bool.true_and, hb0, ↓bnd (r_bad0l hz), ↓bnd (r_bad10 hz), ↓bnd (r_bad11 hz), ↓bnd (r_bad21 hz), ↓bnd (r_bad22 hz)]
  | true =>
    cases hb1 : iB a2 (nI 2) (nI 241) with
    | false =>
      refine aQ.t 1 2 (G := fun M0 => nX12_maximal M0 a0 a1 a2 a3) (fun M1 => zX12_maximal M1 a0 a1 a2 a3) h ha (by omega) (by omega) (by omega) ?_ (fun M0 h0 hz hf => ?_)
      · simp (disch := omega) only [↓reduceIte, ↓needEb, ↓needAb, ↓needSb, ↓needE0l, ↓needE1l, ↓needA0l, ↓needA1l, ↓needS0l, ↓needS1l, ↓bnd c_isWhat, ↓bnd c_isSide, ↓bnd c_isLetter, ↓bnd c_isLength, ↓bnd c_isOften, ↓bnd r_in, ↓bnd r_isLetter, bI_t, bI_f, Bool.false_eq_true, Option.bind_none, Option.none_or, Option.some_or, xAN, xNA, xSA, Option.bind_some, if_true, if_false, Sum.elim_inl, Sum.elim_inr, li0, li1, li2, li3, li4, li5, li6, li7, li8, li9, li10, li12, li16, li20, li24, li25, li31, li32, li40, li41, li42, li48, li57, li59, li97, li104, li105, li124, li126, li240, li241, nI_add, nI_subc, nI_subm, nI_mulc, nI_nm, pu_r, pu_t, pu_a, pu_le_t, pu_le_f, pu_lt_t, pu_lt_f, pu_eq_t, pu_eq_f, nm_eq, nm_eq2, nm_lt, nm_lt2, nm_le, nm_le2, nm_ss, nm_sp, pu_ss, pu_snq, pu_neq, eq_self, and_true, true_and, and_false, false_and, or_true, true_or, or_false, false_or, not_true_eq_false, not_false_eq_true, mX11_maximal_0_J56, mX11_maximal_0_J29, mX11_maximal_0_J28, mX11_maximal_0, tX11_maximal_0_J56, tX11_maximal_0_J29, tX11_maximal_0_J28, tX11_maximal_0, hL_maximal, hb0, hb1]
      · simp (disch := omega) only [↓reduceIte, ↓needEb, ↓needAb, ↓needSb, ↓needE0l, ↓needE1l, ↓needA0l, ↓needA1l, ↓needS0l, ↓needS1l, ↓bnd c_isWhat, ↓bnd c_isSide, ↓bnd c_isLetter, ↓bnd c_isLength, ↓bnd c_isOften, ↓bnd r_in, ↓bnd r_isLetter, bI_t, bI_f, Bool.false_eq_true, Option.bind_none, Option.none_or, Option.some_or, xAN, xNA, xSA, Option.bind_some, if_true, if_false, Sum.elim_inl, Sum.elim_inr, li0, li1, li2, li3, li4, li5, li6, li7, li8, li9, li10, li12, li16, li20, li24, li25, li31, li32, li40, li41, li42, li48, li57, li59, li97, li104, li105, li124, li126, li240, li241, nI_add, nI_subc, nI_subm, nI_mulc, nI_nm, pu_r, pu_t, pu_a, pu_le_t, pu_le_f, pu_lt_t, pu_lt_f, pu_eq_t, pu_eq_f, nm_eq, nm_eq2, nm_lt, nm_lt2, nm_le, nm_le2, nm_ss, nm_sp, pu_ss, pu_snq, pu_neq, eq_self, and_true, true_and, and_false, false_and, or_true, true_or, or_false, false_or, not_true_eq_false, not_false_eq_true, nX12_maximal, mX12_maximal_63_J63, mX12_maximal_63_J30, mX12_maximal_63_J25, ↓bnd r_areB, Bool.and_false, Bool.false_and, Bool.and_true, Bool.true_and, hb0, hb1, ↓bnd (r_bad0l hz), ↓bnd (r_bad10 hz), ↓bnd (r_bad11 hz), ↓bnd (r_bad21 hz), ↓bnd (r_bad22 hz)]
    | true =>
      cases hb2 : iB a3 (nI 0) (nI 2) with
      | false =>
        refine aQ.t 1 2 (G := fun M0 => nX12_maximal M0 a0 a1 a2 a3) (fun M1 => zX12_maximal M1 a0 a1 a2 a3) h ha (by omega) (by omega) (by omega) ?_ (fun M0 h0 hz hf => ?_)
        · simp (disch := omega) only [↓reduceIte, ↓needEb, ↓needAb, ↓needSb, ↓needE0l, ↓needE1l, ↓needA0l, ↓needA1l, ↓needS0l, ↓needS1l, ↓bnd c_isWhat, ↓bnd c_isSide, ↓bnd c_isLetter, ↓bnd c_isLength, ↓bnd c_isOften, ↓bnd r_in, ↓bnd r_isLetter, bI_t, bI_f, Bool.false_eq_true, Option.bind_none, Option.none_or, Option.some_or, xAN, xNA, xSA, Option.bind_some, if_true, if_false, Sum.elim_inl, Sum.elim_inr, li0, li1, li2, li3, li4, li5, li6, li7, li8, li9, li10, li12, li16, li20, li24, li25, li31, li32, li40, li41, li42, li48, li57, li59, li97, li104, li105, li124, li126, li240, li241, nI_add, nI_subc, nI_subm, nI_mulc, nI_nm, pu_r, pu_t, pu_a, pu_le_t, pu_le_f, pu_lt_t, pu_lt_f, pu_eq_t, pu_eq_f, nm_eq, nm_eq2, nm_lt, nm_lt2, nm_le, nm_le2, nm_ss, nm_sp, pu_ss, pu_snq, pu_neq, eq_self, and_true, true_and, and_false, false_and, or_true, true_or, or_false, false_or, not_true_eq_false, not_false_eq_true, mX11_maximal_0_J56, mX11_maximal_0_J29, mX11_maximal_0_J28, mX11_maximal_0, tX11_maximal_0_J56, tX11_maximal_0_J29, tX11_maximal_0_J28, tX11_maximal_0, hL_maximal, hb0, hb1, hb2]
        · simp (disch := omega) only [↓reduceIte, ↓needEb, ↓needAb, ↓needSb, ↓needE0l, ↓needE1l, ↓needA0l, ↓needA1l, ↓needS0l, ↓needS1l, ↓bnd c_isWhat, ↓bnd c_isSide, ↓bnd c_isLetter, ↓bnd c_isLength, ↓bnd c_isOften, ↓bnd r_in, ↓bnd r_isLetter, bI_t, bI_f, Bool.false_eq_true, Option.bind_none, Option.none_or, Option.some_or, xAN, xNA, xSA, Option.bind_some, if_true, if_false, Sum.elim_inl, Sum.elim_inr, li0, li1, li2, li3, li4, li5, li6, li7, li8, li9, li10, li12, li16, li20, li24, li25, li31, li32, li40, li41, li42, li48, li57, li59, li97, li104, li105, li124, li126, li240, li241, nI_add, nI_subc, nI_subm, nI_mulc, nI_nm, pu_r, pu_t, pu_a, pu_le_t, pu_le_f, pu_lt_t, pu_lt_f, pu_eq_t, pu_eq_f, nm_eq, nm_eq2, nm_lt, nm_lt2, nm_le, nm_le2, nm_ss, nm_sp, pu_ss, pu_snq, pu_neq, eq_self, and_true, true_and, and_false, false_and, or_true, true_or, or_false, false_or, not_true_eq_false, not_false_eq_true, nX12_maximal, mX12_maximal_63_J63, mX12_maximal_63_J30, mX12_maximal_63_J25, ↓bnd r_areB, Bool.and_false, Bool.false_and, Bool.and_true, Bool.true_and, hb0, hb1, hb2, ↓bnd (r_bad0l hz), ↓bnd (r_bad10 hz), ↓bnd (r_bad11 hz), ↓bnd (r_bad21 hz), ↓bnd (r_bad22 hz)]
      | true =>
        exact qr_maximal h ha a0 a1 a2 a3 hb0 hb1 hb2
