/-! ===== calls: hits ===== -/
/-- gaps up to a place: least and greatest (0: none), overlaps, the latest hit (0: none), each 1 more than it is but the overlaps -/
def gs (m x : Nat) : Nat × Nat × Nat × Nat → Nat × Nat × Nat × Nat
  | (L, G, O, 0) => (L, G, O, x + 1)
  | (0, G, O, h + 1) => (x - h + 1, max G (x - h + 1), O + (if x < h + m then 1 else 0), x + 1)
  | (L + 1, G, O, h + 1) => (min L (x - h) + 1, max G (x - h + 1), O + (if x < h + m then 1 else 0), x + 1)
def gp (H : Nat → Bool) (m : Nat) : Nat → Nat × Nat × Nat × Nat
  | 0 => (0, 0, 0, 0)
  | x + 1 => if H x = true then gs m x (gp H m x) else gp H m x
theorem gp_s (H : Nat → Bool) (m x : Nat) : gp H m (x + 1) = if H x = true then gs m x (gp H m x) else gp H m x := rfl
theorem gs_h (m x : Nat) (s : Nat × Nat × Nat × Nat) : (gs m x s).2.2.2 = x + 1 := by
  obtain ⟨L, G, O, h⟩ := s
  rcases h with _ | h
  · rfl
  · rcases L with _ | L <;> rfl
theorem gs_b {m x L G O h : Nat} (h1 : L ≤ x + 1) (h2 : G ≤ x + 1) (h3 : O ≤ x) (h4 : h ≤ x) : (gs m x (L, G, O, h)).1 ≤ x + 2 ∧ (gs m x (L, G, O, h)).2.1 ≤ x + 2 ∧ (gs m x (L, G, O, h)).2.2.1 ≤ x + 1 := by
  rcases h with _ | h
  · show L ≤ _ ∧ G ≤ _ ∧ O ≤ _; omega
  · rcases L with _ | L
    · show x - h + 1 ≤ _ ∧ max G (x - h + 1) ≤ _ ∧ O + (if x < h + m then 1 else 0) ≤ _
      refine ⟨by omega, by omega, ?_⟩
      split <;> omega
    · show min L (x - h) + 1 ≤ _ ∧ max G (x - h + 1) ≤ _ ∧ O + (if x < h + m then 1 else 0) ≤ _
      refine ⟨by omega, by omega, ?_⟩
      split <;> omega
theorem gp_b (H : Nat → Bool) (m : Nat) : ∀ x, (gp H m x).1 ≤ x + 1 ∧ (gp H m x).2.1 ≤ x + 1 ∧ (gp H m x).2.2.1 ≤ x ∧ (gp H m x).2.2.2 ≤ x
  | 0 => by refine ⟨?_, ?_, ?_, ?_⟩ <;> exact Nat.zero_le _
  | x + 1 => by
    obtain ⟨h1, h2, h3, h4⟩ := gp_b H m x
    rw [gp_s]
    by_cases c : H x = true
    · rw [if_pos c]
      have hb := gs_b (m := m) h1 h2 h3 h4
      have hh := gs_h m x (gp H m x)
      refine ⟨hb.1, hb.2.1, hb.2.2, by omega⟩
    · rw [if_neg c]
      exact ⟨by omega, by omega, by omega, by omega⟩
theorem gp_same {H : Nat → Bool} {m a : Nat} : ∀ b, a ≤ b → (∀ j, a ≤ j → j < b → H j = false) → gp H m b = gp H m a
  | 0, h, _ => by rw [show a = 0 by omega]
  | b + 1, h, hj => by
    by_cases e : a = b + 1
    · rw [e]
    · rw [gp_s, hj b (by omega) (by omega), if_neg (by decide)]
      exact gp_same b (by omega) (fun j h1 h2 => hj j h1 (by omega))
theorem c_maxd {a b : Nat} (ha : a < 2 ^ 31) (hb : b < 2 ^ 31) : mJ9_max_7cf53 (dn a) (nI b) = some (dn (max a (b + 1))) := by
  rcases a with _ | a
  · rw [dn_0, Nat.max_eq_right (Nat.zero_le _), dn_s]
    simp (disch := omega) only [Option.bind_some, if_true, if_false, Sum.elim_inl, Sum.elim_inr, li0, li1, li2, li3, li4, li5, li6, li7, li8, li9, li10, li12, li16, li20, li24, li25, li31, li32, li40, li41, li42, li48, li57, li59, li97, li104, li105, li124, li126, li240, li241, nI_add, nI_subc, nI_subm, nI_mulc, nI_nm, pu_r, pu_t, pu_a, pu_le_t, pu_le_f, pu_lt_t, pu_lt_f, pu_eq_t, pu_eq_f, nm_eq, nm_eq2, nm_lt, nm_lt2, nm_le, nm_le2, nm_ss, nm_sp, pu_ss, pu_snq, pu_neq, eq_self, and_true, true_and, and_false, false_and, or_true, true_or, or_false, false_or, not_true_eq_false, not_false_eq_true, mJ9_max_7cf53]
  · rw [dn_s, c_max (by omega) hb, show max (a + 1) (b + 1) = max a b + 1 by omega, dn_s]
theorem r_mored {a b : Nat} (ha : a < 2 ^ 31) (hb : b < 2 ^ 31) : mX12_more (dn a) (nI b) = some (dn (max a (b + 1))) := by
  rcases a with _ | a
  · rw [dn_0, Nat.max_eq_right (Nat.zero_le _), dn_s]
    simp (disch := omega) only [Option.bind_some, if_true, if_false, Sum.elim_inl, Sum.elim_inr, li0, li1, li2, li3, li4, li5, li6, li7, li8, li9, li10, li12, li16, li20, li24, li25, li31, li32, li40, li41, li42, li48, li57, li59, li97, li104, li105, li124, li126, li240, li241, nI_add, nI_subc, nI_subm, nI_mulc, nI_nm, pu_r, pu_t, pu_a, pu_le_t, pu_le_f, pu_lt_t, pu_lt_f, pu_eq_t, pu_eq_f, nm_eq, nm_eq2, nm_lt, nm_lt2, nm_le, nm_le2, nm_ss, nm_sp, pu_ss, pu_snq, pu_neq, eq_self, and_true, true_and, and_false, false_and, or_true, true_or, or_false, false_or, not_true_eq_false, not_false_eq_true, mX12_more]
  · rw [dn_s, r_more (by omega) hb, show max (a + 1) (b + 1) = max a b + 1 by omega, dn_s]
theorem r_gaps {n m : Nat} {H : Nat → Bool} {M : me_M} {p0 y : Int32} (hn : n ≤ 240) (hm : m ≤ 40) (h3 : M.1 63 5 = nI n) (hl : mX12_letters_63 M = some (nI m)) (hi : ∀ p, p ≤ n → mX12_isHit_63 M (nI p) = some (nI (if H p = true then 1 else 0))) : me_l (mX12_hits_63_L85 M p0 y) me_fu (-nI 1, -nI 1, nI 0, -nI 1, nI 0) = some (dn (gp H m (n + 1)).1, dn (gp H m (n + 1)).2.1, nI (gp H m (n + 1)).2.2.1) := by
  refine lp_to (fun x => (dn (gp H m x).1, dn (gp H m x).2.1, nI (gp H m x).2.2.1, dn (gp H m x).2.2.2, nI x)) (a := 0) (N := n + 1) (by omega) (by omega) (fun x _ hx => ?_) ?_
  · have hb := gp_b H m x
    have e1 := gp_s H m x
    simp only [mX12_hits_63_L85, e1]
    cases c : H x with
    | false => simp (disch := omega) only [Option.bind_some, if_true, if_false, Sum.elim_inl, Sum.elim_inr, li0, li1, li2, li3, li4, li5, li6, li7, li8, li9, li10, li12, li16, li20, li24, li25, li31, li32, li40, li41, li42, li48, li57, li59, li97, li104, li105, li124, li126, li240, li241, nI_add, nI_subc, nI_subm, nI_mulc, nI_nm, pu_r, pu_t, pu_a, pu_le_t, pu_le_f, pu_lt_t, pu_lt_f, pu_eq_t, pu_eq_f, nm_eq, nm_eq2, nm_lt, nm_lt2, nm_le, nm_le2, nm_ss, nm_sp, pu_ss, pu_snq, pu_neq, eq_self, and_true, true_and, and_false, false_and, or_true, true_or, or_false, false_or, not_true_eq_false, not_false_eq_true, h3, hi, c, Bool.false_eq_true, mX12_hits_63_J173]
    | true =>
      simp only [if_true]
      rcases hg : gp H m x with ⟨L, G, O, h⟩
      rw [hg] at hb
      obtain ⟨b1, b2, b3, b4⟩ := hb
      simp only at b1 b2 b3 b4
      rcases h with _ | h
      · simp (disch := omega) only [Option.bind_some, if_true, if_false, Sum.elim_inl, Sum.elim_inr, li0, li1, li2, li3, li4, li5, li6, li7, li8, li9, li10, li12, li16, li20, li24, li25, li31, li32, li40, li41, li42, li48, li57, li59, li97, li104, li105, li124, li126, li240, li241, nI_add, nI_subc, nI_subm, nI_mulc, nI_nm, pu_r, pu_t, pu_a, pu_le_t, pu_le_f, pu_lt_t, pu_lt_f, pu_eq_t, pu_eq_f, nm_eq, nm_eq2, nm_lt, nm_lt2, nm_le, nm_le2, nm_ss, nm_sp, pu_ss, pu_snq, pu_neq, eq_self, and_true, true_and, and_false, false_and, or_true, true_or, or_false, false_or, not_true_eq_false, not_false_eq_true, h3, hi, c, gs, dn_0, dn_s, mX12_hits_63_J173, mX12_hits_63_J169]
      · rcases L with _ | L
        · by_cases d : x < h + m
          · simp (disch := omega) only [Option.bind_some, if_true, if_false, Sum.elim_inl, Sum.elim_inr, li0, li1, li2, li3, li4, li5, li6, li7, li8, li9, li10, li12, li16, li20, li24, li25, li31, li32, li40, li41, li42, li48, li57, li59, li97, li104, li105, li124, li126, li240, li241, nI_add, nI_subc, nI_subm, nI_mulc, nI_nm, pu_r, pu_t, pu_a, pu_le_t, pu_le_f, pu_lt_t, pu_lt_f, pu_eq_t, pu_eq_f, nm_eq, nm_eq2, nm_lt, nm_lt2, nm_le, nm_le2, nm_ss, nm_sp, pu_ss, pu_snq, pu_neq, eq_self, and_true, true_and, and_false, false_and, or_true, true_or, or_false, false_or, not_true_eq_false, not_false_eq_true, h3, hi, c, gs, dn_0, dn_s, mX12_hits_63_J173, mX12_hits_63_J169, mX12_hits_63_J166, mX12_hits_63_J134, r_mored, hl, if_pos d]
          · simp (disch := omega) only [Option.bind_some, if_true, if_false, Sum.elim_inl, Sum.elim_inr, li0, li1, li2, li3, li4, li5, li6, li7, li8, li9, li10, li12, li16, li20, li24, li25, li31, li32, li40, li41, li42, li48, li57, li59, li97, li104, li105, li124, li126, li240, li241, nI_add, nI_subc, nI_subm, nI_mulc, nI_nm, pu_r, pu_t, pu_a, pu_le_t, pu_le_f, pu_lt_t, pu_lt_f, pu_eq_t, pu_eq_f, nm_eq, nm_eq2, nm_lt, nm_lt2, nm_le, nm_le2, nm_ss, nm_sp, pu_ss, pu_snq, pu_neq, eq_self, and_true, true_and, and_false, false_and, or_true, true_or, or_false, false_or, not_true_eq_false, not_false_eq_true, h3, hi, c, gs, dn_0, dn_s, mX12_hits_63_J173, mX12_hits_63_J169, mX12_hits_63_J166, mX12_hits_63_J134, r_mored, hl, if_neg d]
        · by_cases d : x < h + m
          · simp (disch := omega) only [Option.bind_some, if_true, if_false, Sum.elim_inl, Sum.elim_inr, li0, li1, li2, li3, li4, li5, li6, li7, li8, li9, li10, li12, li16, li20, li24, li25, li31, li32, li40, li41, li42, li48, li57, li59, li97, li104, li105, li124, li126, li240, li241, nI_add, nI_subc, nI_subm, nI_mulc, nI_nm, pu_r, pu_t, pu_a, pu_le_t, pu_le_f, pu_lt_t, pu_lt_f, pu_eq_t, pu_eq_f, nm_eq, nm_eq2, nm_lt, nm_lt2, nm_le, nm_le2, nm_ss, nm_sp, pu_ss, pu_snq, pu_neq, eq_self, and_true, true_and, and_false, false_and, or_true, true_or, or_false, false_or, not_true_eq_false, not_false_eq_true, h3, hi, c, gs, dn_s, mX12_hits_63_J173, mX12_hits_63_J169, mX12_hits_63_J166, mX12_hits_63_J134, r_mored, r_less, hl, if_pos d]
          · simp (disch := omega) only [Option.bind_some, if_true, if_false, Sum.elim_inl, Sum.elim_inr, li0, li1, li2, li3, li4, li5, li6, li7, li8, li9, li10, li12, li16, li20, li24, li25, li31, li32, li40, li41, li42, li48, li57, li59, li97, li104, li105, li124, li126, li240, li241, nI_add, nI_subc, nI_subm, nI_mulc, nI_nm, pu_r, pu_t, pu_a, pu_le_t, pu_le_f, pu_lt_t, pu_lt_f, pu_eq_t, pu_eq_f, nm_eq, nm_eq2, nm_lt, nm_lt2, nm_le, nm_le2, nm_ss, nm_sp, pu_ss, pu_snq, pu_neq, eq_self, and_true, true_and, and_false, false_and, or_true, true_or, or_false, false_or, not_true_eq_false, not_false_eq_true, h3, hi, c, gs, dn_s, mX12_hits_63_J173, mX12_hits_63_J169, mX12_hits_63_J166, mX12_hits_63_J134, r_mored, r_less, hl, if_neg d]
  · simp only [mX12_hits_63_L85]
    simp (disch := omega) only [Option.bind_some, if_true, if_false, Sum.elim_inl, Sum.elim_inr, li0, li1, li2, li3, li4, li5, li6, li7, li8, li9, li10, li12, li16, li20, li24, li25, li31, li32, li40, li41, li42, li48, li57, li59, li97, li104, li105, li124, li126, li240, li241, nI_add, nI_subc, nI_subm, nI_mulc, nI_nm, pu_r, pu_t, pu_a, pu_le_t, pu_le_f, pu_lt_t, pu_lt_f, pu_eq_t, pu_eq_f, nm_eq, nm_eq2, nm_lt, nm_lt2, nm_le, nm_le2, nm_ss, nm_sp, pu_ss, pu_snq, pu_neq, eq_self, and_true, true_and, and_false, false_and, or_true, true_or, or_false, false_or, not_true_eq_false, not_false_eq_true, h3]
theorem c_gaps {n m : Nat} {H : Nat → Bool} {M : me_M} {p0 v : Int32} (hn : n ≤ 240) (hm : m ≤ 40) (h3 : M.1 3 5 = nI n) (hm4 : M.1 19 4 = nI m) (hs : mX0_size_19 M = some (nI (ct H (n + 1)))) (hi : ∀ p, p ≤ n → mX11_isHit_0 M (nI p) = some (nI (if H p = true then 1 else 0))) : (∃ v, mX11_nextHit_0 M (nI 0) = some v ∧ me_l (mX11_gapsBetweenHits_0_L17 M p0) me_fu (-nI 1, -nI 1, nI 0, v, nI 1) = some (dn (gp H m (n + 1)).1, dn (gp H m (n + 1)).2.1, nI (gp H m (n + 1)).2.2.1)) := by
  have hle := ct_le H (n + 1)
  by_cases c0 : ct H (n + 1) = 0
  · have hj : ∀ j, j < n + 1 → H j = false := fun j hj => by
      cases c : H j with
      | false => rfl
      | true =>
        have h1 : ct H (j + 1) = ct H j + 1 := by rw [ct_s, c]; rfl
        have h2 : ct H (j + 1) ≤ ct H (n + 1) := ct_mono' H (by omega)
        omega
    refine ⟨_, c_next0 hn h3 hi (by omega) (fun j _ h => hj j (by omega)), ?_⟩
    rw [gp_same (m := m) (n + 1) (Nat.zero_le _) (fun j _ h => hj j h)]
    refine lp_to (fun _ => (-nI 1, -nI 1, nI 0, -nI 1, nI 1)) (a := 0) (N := 0) (by omega) (by omega) (fun x _ hx => absurd hx (by omega)) ?_
    simp only [mX11_gapsBetweenHits_0_L17, gp]
    simp (disch := omega) only [Option.bind_some, if_true, if_false, Sum.elim_inl, Sum.elim_inr, li0, li1, li2, li3, li4, li5, li6, li7, li8, li9, li10, li12, li16, li20, li24, li25, li31, li32, li40, li41, li42, li48, li57, li59, li97, li104, li105, li124, li126, li240, li241, nI_add, nI_subc, nI_subm, nI_mulc, nI_nm, pu_r, pu_t, pu_a, pu_le_t, pu_le_f, pu_lt_t, pu_lt_f, pu_eq_t, pu_eq_f, nm_eq, nm_eq2, nm_lt, nm_lt2, nm_le, nm_le2, nm_ss, nm_sp, pu_ss, pu_snq, pu_neq, eq_self, and_true, true_and, and_false, false_and, or_true, true_or, or_false, false_or, not_true_eq_false, not_false_eq_true, hs, c0, dn_0]
  · have hc0 : ct H 0 = 0 := rfl
    obtain ⟨q0, a1, a2, a3, a4, a5⟩ := ex_next (N := n + 1) H (n + 1) 0 (by omega) (by omega)
    refine ⟨_, c_next hn h3 hi a1 (by omega) a3 a5, ?_⟩
    obtain ⟨r, e, hr⟩ := lp_up (b := mX11_gapsBetweenHits_0_L17 M p0) (fun k s => ∃ p, p ≤ n ∧ H p = true ∧ ct H (p + 1) = k ∧ s = (dn (gp H m (p + 1)).1, dn (gp H m (p + 1)).2.1, nI (gp H m (p + 1)).2.2.1, nI p, nI k)) (fun r => r = (dn (gp H m (n + 1)).1, dn (gp H m (n + 1)).2.1, nI (gp H m (n + 1)).2.2.1)) (a := 1) (N := ct H (n + 1)) (by omega) (by omega) (fun k s hk1 hk hs9 => by
        obtain ⟨p, p1, p2, p3, rfl⟩ := hs9
        left
        obtain ⟨q, b1, b2, b3, b4, b5⟩ := ex_next (N := n + 1) H (n + 1 - (p + 1)) (p + 1) (by omega) (by omega)
        have e1 := c_next hn h3 hi b1 (by omega) b3 b5
        refine ⟨(dn (gp H m (q + 1)).1, dn (gp H m (q + 1)).2.1, nI (gp H m (q + 1)).2.2.1, nI q, nI (k + 1)), ?_, q, by omega, b3, by rw [ct_s, b3, b4, p3]; rfl, rfl⟩
        have hb := gp_b H m (p + 1)
        have hh : (gp H m (p + 1)).2.2.2 = p + 1 := by rw [gp_s, p2, if_pos rfl]; exact gs_h _ _ _
        rw [gp_s H m q, b3, if_pos rfl, gp_same (m := m) q b1 b5]
        simp only [mX11_gapsBetweenHits_0_L17]
        rcases hg : gp H m (p + 1) with ⟨L, G, O, h⟩
        rw [hg] at hb hh
        obtain ⟨b1', b2', b3', b4'⟩ := hb
        simp only at b1' b2' b3' b4' hh
        subst hh
        rcases L with _ | L
        · by_cases d : q < p + m
          · simp (disch := omega) only [Option.bind_some, if_true, if_false, Sum.elim_inl, Sum.elim_inr, li0, li1, li2, li3, li4, li5, li6, li7, li8, li9, li10, li12, li16, li20, li24, li25, li31, li32, li40, li41, li42, li48, li57, li59, li97, li104, li105, li124, li126, li240, li241, nI_add, nI_subc, nI_subm, nI_mulc, nI_nm, pu_r, pu_t, pu_a, pu_le_t, pu_le_f, pu_lt_t, pu_lt_f, pu_eq_t, pu_eq_f, nm_eq, nm_eq2, nm_lt, nm_lt2, nm_le, nm_le2, nm_ss, nm_sp, pu_ss, pu_snq, pu_neq, eq_self, and_true, true_and, and_false, false_and, or_true, true_or, or_false, false_or, not_true_eq_false, not_false_eq_true, hs, e1, gs, dn_0, dn_s, mX11_gapsBetweenHits_0_J62, mX11_gapsBetweenHits_0_J89, c_maxd, hm4, if_pos d]
          · simp (disch := omega) only [Option.bind_some, if_true, if_false, Sum.elim_inl, Sum.elim_inr, li0, li1, li2, li3, li4, li5, li6, li7, li8, li9, li10, li12, li16, li20, li24, li25, li31, li32, li40, li41, li42, li48, li57, li59, li97, li104, li105, li124, li126, li240, li241, nI_add, nI_subc, nI_subm, nI_mulc, nI_nm, pu_r, pu_t, pu_a, pu_le_t, pu_le_f, pu_lt_t, pu_lt_f, pu_eq_t, pu_eq_f, nm_eq, nm_eq2, nm_lt, nm_lt2, nm_le, nm_le2, nm_ss, nm_sp, pu_ss, pu_snq, pu_neq, eq_self, and_true, true_and, and_false, false_and, or_true, true_or, or_false, false_or, not_true_eq_false, not_false_eq_true, hs, e1, gs, dn_0, dn_s, mX11_gapsBetweenHits_0_J62, mX11_gapsBetweenHits_0_J89, c_maxd, hm4, if_neg d]
        · by_cases d : q < p + m
          · simp (disch := omega) only [Option.bind_some, if_true, if_false, Sum.elim_inl, Sum.elim_inr, li0, li1, li2, li3, li4, li5, li6, li7, li8, li9, li10, li12, li16, li20, li24, li25, li31, li32, li40, li41, li42, li48, li57, li59, li97, li104, li105, li124, li126, li240, li241, nI_add, nI_subc, nI_subm, nI_mulc, nI_nm, pu_r, pu_t, pu_a, pu_le_t, pu_le_f, pu_lt_t, pu_lt_f, pu_eq_t, pu_eq_f, nm_eq, nm_eq2, nm_lt, nm_lt2, nm_le, nm_le2, nm_ss, nm_sp, pu_ss, pu_snq, pu_neq, eq_self, and_true, true_and, and_false, false_and, or_true, true_or, or_false, false_or, not_true_eq_false, not_false_eq_true, hs, e1, gs, dn_s, mX11_gapsBetweenHits_0_J62, mX11_gapsBetweenHits_0_J89, c_maxd, c_min, hm4, if_pos d]
          · simp (disch := omega) only [Option.bind_some, if_true, if_false, Sum.elim_inl, Sum.elim_inr, li0, li1, li2, li3, li4, li5, li6, li7, li8, li9, li10, li12, li16, li20, li24, li25, li31, li32, li40, li41, li42, li48, li57, li59, li97, li104, li105, li124, li126, li240, li241, nI_add, nI_subc, nI_subm, nI_mulc, nI_nm, pu_r, pu_t, pu_a, pu_le_t, pu_le_f, pu_lt_t, pu_lt_f, pu_eq_t, pu_eq_f, nm_eq, nm_eq2, nm_lt, nm_lt2, nm_le, nm_le2, nm_ss, nm_sp, pu_ss, pu_snq, pu_neq, eq_self, and_true, true_and, and_false, false_and, or_true, true_or, or_false, false_or, not_true_eq_false, not_false_eq_true, hs, e1, gs, dn_s, mX11_gapsBetweenHits_0_J62, mX11_gapsBetweenHits_0_J89, c_maxd, c_min, hm4, if_neg d]) (fun s hs9 => by
        obtain ⟨p, p1, p2, p3, rfl⟩ := hs9
        refine ⟨_, ?_, rfl⟩
        have hj : ∀ j, p + 1 ≤ j → j < n + 1 → H j = false := fun j h1 h2 => by
          cases c : H j with
          | false => rfl
          | true =>
            have q1 : ct H (j + 1) = ct H j + 1 := by rw [ct_s, c]; rfl
            have q2 : ct H (j + 1) ≤ ct H (n + 1) := ct_mono' H (by omega)
            have q3 : ct H (p + 1) ≤ ct H j := ct_mono' H h1
            omega
        rw [gp_same (m := m) (n + 1) (by omega) hj]
        simp only [mX11_gapsBetweenHits_0_L17]
        simp (disch := omega) only [Option.bind_some, if_true, if_false, Sum.elim_inl, Sum.elim_inr, li0, li1, li2, li3, li4, li5, li6, li7, li8, li9, li10, li12, li16, li20, li24, li25, li31, li32, li40, li41, li42, li48, li57, li59, li97, li104, li105, li124, li126, li240, li241, nI_add, nI_subc, nI_subm, nI_mulc, nI_nm, pu_r, pu_t, pu_a, pu_le_t, pu_le_f, pu_lt_t, pu_lt_f, pu_eq_t, pu_eq_f, nm_eq, nm_eq2, nm_lt, nm_lt2, nm_le, nm_le2, nm_ss, nm_sp, pu_ss, pu_snq, pu_neq, eq_self, and_true, true_and, and_false, false_and, or_true, true_or, or_false, false_or, not_true_eq_false, not_false_eq_true, hs]) (s0 := (-nI 1, -nI 1, nI 0, nI q0, nI 1)) ⟨q0, by omega, a3, by rw [ct_s, a3, a4]; rfl, by
      rw [gp_s, a3, if_pos rfl, gp_same (m := m) q0 (Nat.zero_le _) a5]
      rfl⟩
    rw [e, hr]
theorem c_docsHit {T : Nat → Nat} {n : Nat} {H : Nat → Bool} {M : me_M} (hT : tx9 T n) (h3 : M.1 3 5 = nI n) (hdc : tx_docs T n M) (hi : ∀ p, p ≤ n → mX11_isHit_0 M (nI p) = some (nI (if H p = true then 1 else 0))) : mX11_documentsHit_0 M = some (nI (ct (fun d => decide (0 < ct (fun p => H p && decide (bars T p = d)) (n + 1))) (bars T n + 1))) := by
  have hn := hT.2.2.2
  have hbn : bars T n ≤ n := ct_le _ _
  have h36 := hdc.2.2.2
  have h : me_l (mX11_documentsHit_0_L4 M) me_fu (nI 0, nI 0) = some (nI (ct (fun d => decide (0 < ct (fun p => H p && decide (bars T p = d)) (n + 1))) (bars T n + 1))) := by
    refine lp_to (fun x => (nI (ct (fun d => decide (0 < ct (fun p => H p && decide (bars T p = d)) (n + 1))) x), nI x)) (a := 0) (N := bars T n + 1) (by omega) (by omega) (fun x _ hx => ?_) ?_
    · simp only [mX11_documentsHit_0_L4, mX11_documentsHit_0_J26]
      have hh := c_hitsIn hT h3 hdc hi (show x ≤ bars T n by omega)
      have hle := ct_le (fun p => H p && decide (bars T p = x)) (n + 1)
      rw [ct_s]
      by_cases c : 0 < ct (fun p => H p && decide (bars T p = x)) (n + 1)
      · simp (disch := omega) only [Option.bind_some, if_true, if_false, Sum.elim_inl, Sum.elim_inr, li0, li1, li2, li3, li4, li5, li6, li7, li8, li9, li10, li12, li16, li20, li24, li25, li31, li32, li40, li41, li42, li48, li57, li59, li97, li104, li105, li124, li126, li240, li241, nI_add, nI_subc, nI_subm, nI_mulc, nI_nm, pu_r, pu_t, pu_a, pu_le_t, pu_le_f, pu_lt_t, pu_lt_f, pu_eq_t, pu_eq_f, nm_eq, nm_eq2, nm_lt, nm_lt2, nm_le, nm_le2, nm_ss, nm_sp, pu_ss, pu_snq, pu_neq, eq_self, and_true, true_and, and_false, false_and, or_true, true_or, or_false, false_or, not_true_eq_false, not_false_eq_true, h36, hh, decide_eq_true c]
      · simp (disch := omega) only [Option.bind_some, if_true, if_false, Sum.elim_inl, Sum.elim_inr, li0, li1, li2, li3, li4, li5, li6, li7, li8, li9, li10, li12, li16, li20, li24, li25, li31, li32, li40, li41, li42, li48, li57, li59, li97, li104, li105, li124, li126, li240, li241, nI_add, nI_subc, nI_subm, nI_mulc, nI_nm, pu_r, pu_t, pu_a, pu_le_t, pu_le_f, pu_lt_t, pu_lt_f, pu_eq_t, pu_eq_f, nm_eq, nm_eq2, nm_lt, nm_lt2, nm_le, nm_le2, nm_ss, nm_sp, pu_ss, pu_snq, pu_neq, eq_self, and_true, true_and, and_false, false_and, or_true, true_or, or_false, false_or, not_true_eq_false, not_false_eq_true, h36, hh, decide_eq_false c, Bool.false_eq_true, Nat.add_zero]
    · simp only [mX11_documentsHit_0_L4]
      simp (disch := omega) only [Option.bind_some, if_true, if_false, Sum.elim_inl, Sum.elim_inr, li0, li1, li2, li3, li4, li5, li6, li7, li8, li9, li10, li12, li16, li20, li24, li25, li31, li32, li40, li41, li42, li48, li57, li59, li97, li104, li105, li124, li126, li240, li241, nI_add, nI_subc, nI_subm, nI_mulc, nI_nm, pu_r, pu_t, pu_a, pu_le_t, pu_le_f, pu_lt_t, pu_lt_f, pu_eq_t, pu_eq_f, nm_eq, nm_eq2, nm_lt, nm_lt2, nm_le, nm_le2, nm_ss, nm_sp, pu_ss, pu_snq, pu_neq, eq_self, and_true, true_and, and_false, false_and, or_true, true_or, or_false, false_or, not_true_eq_false, not_false_eq_true, h36]
  unfold mX11_documentsHit_0
  simp (disch := omega) only [Option.bind_some, if_true, if_false, Sum.elim_inl, Sum.elim_inr, li0, li1, li2, li3, li4, li5, li6, li7, li8, li9, li10, li12, li16, li20, li24, li25, li31, li32, li40, li41, li42, li48, li57, li59, li97, li104, li105, li124, li126, li240, li241, nI_add, nI_subc, nI_subm, nI_mulc, nI_nm, pu_r, pu_t, pu_a, pu_le_t, pu_le_f, pu_lt_t, pu_lt_f, pu_eq_t, pu_eq_f, nm_eq, nm_eq2, nm_lt, nm_lt2, nm_le, nm_le2, nm_ss, nm_sp, pu_ss, pu_snq, pu_neq, eq_self, and_true, true_and, and_false, false_and, or_true, true_or, or_false, false_or, not_true_eq_false, not_false_eq_true, h]
theorem r_docsHit {T : Nat → Nat} {n : Nat} {H : Nat → Bool} {M : me_M} {a b c e : Int32} (hT : tx9 T n) (hM : rx T n M) (hi : ∀ p, p ≤ n → mX12_isHit_63 M (nI p) = some (nI (if H p = true then 1 else 0))) : me_l (mX12_hits_63_L46 M (nI 0) a b c e) me_fu (nI 0, nI 0) = some (nI (ct (fun d => decide (0 < ct (fun p => H p && decide (bars T p = d)) (n + 1))) (bars T n + 1))) := by
  have hn := hT.2.2.2
  have hbn : bars T n ≤ n := ct_le _ _
  have h36 := r_docs hT hM
  refine lp_to (fun x => (nI (ct (fun d => decide (0 < ct (fun p => H p && decide (bars T p = d)) (n + 1))) x), nI x)) (a := 0) (N := bars T n + 1) (by omega) (by omega) (fun x _ hx => ?_) ?_
  · simp only [mX12_hits_63_L46, mX12_hits_63_J74]
    have hh := r_hitsIn hT hM hi (show x ≤ n by omega)
    have hle := ct_le (fun p => H p && decide (bars T p = x)) (n + 1)
    rw [ct_s]
    by_cases c : 0 < ct (fun p => H p && decide (bars T p = x)) (n + 1)
    · simp (disch := omega) only [Option.bind_some, if_true, if_false, Sum.elim_inl, Sum.elim_inr, li0, li1, li2, li3, li4, li5, li6, li7, li8, li9, li10, li12, li16, li20, li24, li25, li31, li32, li40, li41, li42, li48, li57, li59, li97, li104, li105, li124, li126, li240, li241, nI_add, nI_subc, nI_subm, nI_mulc, nI_nm, pu_r, pu_t, pu_a, pu_le_t, pu_le_f, pu_lt_t, pu_lt_f, pu_eq_t, pu_eq_f, nm_eq, nm_eq2, nm_lt, nm_lt2, nm_le, nm_le2, nm_ss, nm_sp, pu_ss, pu_snq, pu_neq, eq_self, and_true, true_and, and_false, false_and, or_true, true_or, or_false, false_or, not_true_eq_false, not_false_eq_true, h36, hh, decide_eq_true c]
    · simp (disch := omega) only [Option.bind_some, if_true, if_false, Sum.elim_inl, Sum.elim_inr, li0, li1, li2, li3, li4, li5, li6, li7, li8, li9, li10, li12, li16, li20, li24, li25, li31, li32, li40, li41, li42, li48, li57, li59, li97, li104, li105, li124, li126, li240, li241, nI_add, nI_subc, nI_subm, nI_mulc, nI_nm, pu_r, pu_t, pu_a, pu_le_t, pu_le_f, pu_lt_t, pu_lt_f, pu_eq_t, pu_eq_f, nm_eq, nm_eq2, nm_lt, nm_lt2, nm_le, nm_le2, nm_ss, nm_sp, pu_ss, pu_snq, pu_neq, eq_self, and_true, true_and, and_false, false_and, or_true, true_or, or_false, false_or, not_true_eq_false, not_false_eq_true, h36, hh, decide_eq_false c, Bool.false_eq_true, Nat.add_zero]
  · simp only [mX12_hits_63_L46]
    simp (disch := omega) only [Option.bind_some, if_true, if_false, Sum.elim_inl, Sum.elim_inr, li0, li1, li2, li3, li4, li5, li6, li7, li8, li9, li10, li12, li16, li20, li24, li25, li31, li32, li40, li41, li42, li48, li57, li59, li97, li104, li105, li124, li126, li240, li241, nI_add, nI_subc, nI_subm, nI_mulc, nI_nm, pu_r, pu_t, pu_a, pu_le_t, pu_le_f, pu_lt_t, pu_lt_f, pu_eq_t, pu_eq_f, nm_eq, nm_eq2, nm_lt, nm_lt2, nm_le, nm_le2, nm_ss, nm_sp, pu_ss, pu_snq, pu_neq, eq_self, and_true, true_and, and_false, false_and, or_true, true_or, or_false, false_or, not_true_eq_false, not_false_eq_true, h36]
theorem qr_hits {T : Nat → Nat} {n m : Nat} {W X : Nat → Nat} {t : Nat} {F : Nat → Nat} {S P : Nat} {D : Nat → Nat → Nat → Nat} {M : me_M} (h : Inv M) (ha : vA T n m W X t F S P D M) (a0 : Int32) (hb0 : iB a0 (nI 0) (nI 3) = true) : aQ (hL_hits M a0) (fun M1 => mX12_hits_63 M1 a0) := by
  have hT := ha.1.1
  have hn := hT.2.2.2
  have c1 := ha.1.2.1.1.1.1
  have hm4 := ha.2.1.1.2.2.1
  have hm40 := ha.2.1.1.1
  have hdc := ha.1.2.1.1.2.2.2.1
  have hbn : bars T n ≤ n := ct_le _ _
  have hs3 : mX0_size_19 M = some (nI (ct (fun p => decide (cp T n m (wn W X m) p = 1)) (n + 1))) := (cu_sp ha.2.1.1).2.2
  obtain ⟨j, -, hj, rfl⟩ := iB_n hb0 (by omega) (by omega)
  have hv := vA_hit ha
  have hw : ∀ M0, vA T n m W X t F S P D M0 → mX12_letters_63 M0 = some (nI m) ∧ M0.1 63 5 = nI n ∧ rx T n M0 ∧ (∀ p, p ≤ n → mX12_isHit_63 M0 (nI p) = some (nI (if (fun p => decide (cp T n m (wn W X m) p = 1)) p = true then 1 else 0))) := fun M0 h0 => ⟨r_letters h0.2.1.2.1, h0.1.2.2.1.1.1, h0.1.2.2.1.1, (vA_hit h0).2⟩
  have hv1 := hv.1
  generalize hH : (fun p => decide (cp T n m (wn W X m) p = 1)) = H at hs3 hv1 hw
  by_cases j0 : j = 0
  · subst j0
    have e1 := c_docsHit hT c1 hdc hv1
    refine aQ.p (v := nI (ct (fun d => decide (0 < ct (fun p => H p && decide (bars T p = d)) (n + 1))) (bars T n + 1))) (G := fun M0 => nX12_hits M0 (nI 0)) (fun M1 => zX12_hits M1 _) h ha ?_ (fun M0 h0 hz hf => ?_)
    · simp (disch := omega) only [↓reduceIte, ↓needEb, ↓needAb, ↓needSb, ↓needE0l, ↓needE1l, ↓needA0l, ↓needA1l, ↓needS0l, ↓needS1l, ↓bnd c_isWhat, ↓bnd c_isSide, ↓bnd c_isLetter, ↓bnd c_isLength, ↓bnd c_isOften, ↓bnd r_in, ↓bnd r_isLetter, bI_t, bI_f, Bool.false_eq_true, Option.bind_none, Option.none_or, Option.some_or, xAN, xNA, xSA, Option.bind_some, if_true, if_false, Sum.elim_inl, Sum.elim_inr, li0, li1, li2, li3, li4, li5, li6, li7, li8, li9, li10, li12, li16, li20, li24, li25, li31, li32, li40, li41, li42, li48, li57, li59, li97, li104, li105, li124, li126, li240, li241, nI_add, nI_subc, nI_subm, nI_mulc, nI_nm, pu_r, pu_t, pu_a, pu_le_t, pu_le_f, pu_lt_t, pu_lt_f, pu_eq_t, pu_eq_f, nm_eq, nm_eq2, nm_lt, nm_lt2, nm_le, nm_le2, nm_ss, nm_sp, pu_ss, pu_snq, pu_neq, eq_self, and_true, true_and, and_false, false_and, or_true, true_or, or_false, false_or, not_true_eq_false, not_false_eq_true, hL_hits, mX11_hits_0, hb0, e1]
    · obtain ⟨w1, w2, w3, w4⟩ := hw M0 h0
      have e2 := r_docsHit (a := -nI 1) (b := -nI 1) (c := nI 0) (e := -nI 1) hT w3 w4
      have e3 := r_gaps (p0 := nI 0) (y := nI (ct (fun d => decide (0 < ct (fun p => H p && decide (bars T p = d)) (n + 1))) (bars T n + 1))) hn hm40 w2 w1 w4
      simp (disch := omega) only [↓reduceIte, ↓needEb, ↓needAb, ↓needSb, ↓needE0l, ↓needE1l, ↓needA0l, ↓needA1l, ↓needS0l, ↓needS1l, ↓bnd c_isWhat, ↓bnd c_isSide, ↓bnd c_isLetter, ↓bnd c_isLength, ↓bnd c_isOften, ↓bnd r_in, ↓bnd r_isLetter, bI_t, bI_f, Bool.false_eq_true, Option.bind_none, Option.none_or, Option.some_or, xAN, xNA, xSA, Option.bind_some, if_true, if_false, Sum.elim_inl, Sum.elim_inr, li0, li1, li2, li3, li4, li5, li6, li7, li8, li9, li10, li12, li16, li20, li24, li25, li31, li32, li40, li41, li42, li48, li57, li59, li97, li104, li105, li124, li126, li240, li241, nI_add, nI_subc, nI_subm, nI_mulc, nI_nm, pu_r, pu_t, pu_a, pu_le_t, pu_le_f, pu_lt_t, pu_lt_f, pu_eq_t, pu_eq_f, nm_eq, nm_eq2, nm_lt, nm_lt2, nm_le, nm_le2, nm_ss, nm_sp, pu_ss, pu_snq, pu_neq, eq_self, and_true, true_and, and_false, false_and, or_true, true_or, or_false, false_or, not_true_eq_false, not_false_eq_true, nX12_hits, mX12_hits_63_J20, mX12_hits_63_K46, hb0, ↓bnd (r_bad0l hz), e2, e3]
  · obtain ⟨v, g1, g2⟩ := c_gaps (p0 := nI j) (v := nI 0) hn hm40 c1 hm4 hs3 hv1
    have hw2 : ∀ M0, vA T n m W X t F S P D M0 → me_l (mX12_hits_63_L46 M0 (nI j) (-nI 1) (-nI 1) (nI 0) (-nI 1)) me_fu (nI 0, nI 0) = some (nI 0) ∧ me_l (mX12_hits_63_L85 M0 (nI j) (nI 0)) me_fu (-nI 1, -nI 1, nI 0, -nI 1, nI 0) = some (dn (gp H m (n + 1)).1, dn (gp H m (n + 1)).2.1, nI (gp H m (n + 1)).2.2.1) := fun M0 h0 => by
      obtain ⟨w1, w2, w3, w4⟩ := hw M0 h0
      refine ⟨?_, r_gaps hn hm40 w2 w1 w4⟩
      refine lp_to (fun x => (nI 0, nI 0)) (a := 0) (N := 0) (by omega) (by omega) (fun x _ hx => absurd hx (by omega)) ?_
      simp only [mX12_hits_63_L46]
      simp (disch := omega) only [Option.bind_some, if_true, if_false, Sum.elim_inl, Sum.elim_inr, li0, li1, li2, li3, li4, li5, li6, li7, li8, li9, li10, li12, li16, li20, li24, li25, li31, li32, li40, li41, li42, li48, li57, li59, li97, li104, li105, li124, li126, li240, li241, nI_add, nI_subc, nI_subm, nI_mulc, nI_nm, pu_r, pu_t, pu_a, pu_le_t, pu_le_f, pu_lt_t, pu_lt_f, pu_eq_t, pu_eq_f, nm_eq, nm_eq2, nm_lt, nm_lt2, nm_le, nm_le2, nm_ss, nm_sp, pu_ss, pu_snq, pu_neq, eq_self, and_true, true_and, and_false, false_and, or_true, true_or, or_false, false_or, not_true_eq_false, not_false_eq_true, r_docs hT w3]
    have key : ∀ v, (j = 1 → v = dn (gp H m (n + 1)).1) → (j = 2 → v = dn (gp H m (n + 1)).2.1) → (j = 3 → v = nI (gp H m (n + 1)).2.2.1) → aQ (hL_hits M (nI j)) (fun M1 => mX12_hits_63 M1 (nI j)) := fun v v1 v2 v3 => by
      refine aQ.p (v := v) (G := fun M0 => nX12_hits M0 (nI j)) (fun M1 => zX12_hits M1 _) h ha ?_ (fun M0 h0 hz hf => ?_)
      · have hj3 : j = 1 ∨ j = 2 ∨ j = 3 := by omega
        rcases hj3 with rfl | rfl | rfl
        · simp (disch := omega) only [↓reduceIte, ↓needEb, ↓needAb, ↓needSb, ↓needE0l, ↓needE1l, ↓needA0l, ↓needA1l, ↓needS0l, ↓needS1l, ↓bnd c_isWhat, ↓bnd c_isSide, ↓bnd c_isLetter, ↓bnd c_isLength, ↓bnd c_isOften, ↓bnd r_in, ↓bnd r_isLetter, bI_t, bI_f, Bool.false_eq_true, Option.bind_none, Option.none_or, Option.some_or, xAN, xNA, xSA, Option.bind_some, if_true, if_false, Sum.elim_inl, Sum.elim_inr, li0, li1, li2, li3, li4, li5, li6, li7, li8, li9, li10, li12, li16, li20, li24, li25, li31, li32, li40, li41, li42, li48, li57, li59, li97, li104, li105, li124, li126, li240, li241, nI_add, nI_subc, nI_subm, nI_mulc, nI_nm, pu_r, pu_t, pu_a, pu_le_t, pu_le_f, pu_lt_t, pu_lt_f, pu_eq_t, pu_eq_f, nm_eq, nm_eq2, nm_lt, nm_lt2, nm_le, nm_le2, nm_ss, nm_sp, pu_ss, pu_snq, pu_neq, eq_self, and_true, true_and, and_false, false_and, or_true, true_or, or_false, false_or, not_true_eq_false, not_false_eq_true, hL_hits, mX11_hits_0, mX11_gapsBetweenHits_0, hb0, g1, g2, v1 rfl]
        · simp (disch := omega) only [↓reduceIte, ↓needEb, ↓needAb, ↓needSb, ↓needE0l, ↓needE1l, ↓needA0l, ↓needA1l, ↓needS0l, ↓needS1l, ↓bnd c_isWhat, ↓bnd c_isSide, ↓bnd c_isLetter, ↓bnd c_isLength, ↓bnd c_isOften, ↓bnd r_in, ↓bnd r_isLetter, bI_t, bI_f, Bool.false_eq_true, Option.bind_none, Option.none_or, Option.some_or, xAN, xNA, xSA, Option.bind_some, if_true, if_false, Sum.elim_inl, Sum.elim_inr, li0, li1, li2, li3, li4, li5, li6, li7, li8, li9, li10, li12, li16, li20, li24, li25, li31, li32, li40, li41, li42, li48, li57, li59, li97, li104, li105, li124, li126, li240, li241, nI_add, nI_subc, nI_subm, nI_mulc, nI_nm, pu_r, pu_t, pu_a, pu_le_t, pu_le_f, pu_lt_t, pu_lt_f, pu_eq_t, pu_eq_f, nm_eq, nm_eq2, nm_lt, nm_lt2, nm_le, nm_le2, nm_ss, nm_sp, pu_ss, pu_snq, pu_neq, eq_self, and_true, true_and, and_false, false_and, or_true, true_or, or_false, false_or, not_true_eq_false, not_false_eq_true, hL_hits, mX11_hits_0, mX11_gapsBetweenHits_0, hb0, g1, g2, v2 rfl]
        · simp (disch := omega) only [↓reduceIte, ↓needEb, ↓needAb, ↓needSb, ↓needE0l, ↓needE1l, ↓needA0l, ↓needA1l, ↓needS0l, ↓needS1l, ↓bnd c_isWhat, ↓bnd c_isSide, ↓bnd c_isLetter, ↓bnd c_isLength, ↓bnd c_isOften, ↓bnd r_in, ↓bnd r_isLetter, bI_t, bI_f, Bool.false_eq_true, Option.bind_none, Option.none_or, Option.some_or, xAN, xNA, xSA, Option.bind_some, if_true, if_false, Sum.elim_inl, Sum.elim_inr, li0, li1, li2, li3, li4, li5, li6, li7, li8, li9, li10, li12, li16, li20, li24, li25, li31, li32, li40, li41, li42, li48, li57, li59, li97, li104, li105, li124, li126, li240, li241, nI_add, nI_subc, nI_subm, nI_mulc, nI_nm, pu_r, pu_t, pu_a, pu_le_t, pu_le_f, pu_lt_t, pu_lt_f, pu_eq_t, pu_eq_f, nm_eq, nm_eq2, nm_lt, nm_lt2, nm_le, nm_le2, nm_ss, nm_sp, pu_ss, pu_snq, pu_neq, eq_self, and_true, true_and, and_false, false_and, or_true, true_or, or_false, false_or, not_true_eq_false, not_false_eq_true, hL_hits, mX11_hits_0, mX11_gapsBetweenHits_0, hb0, g1, g2, v3 rfl]
      · obtain ⟨w1, w2⟩ := hw2 M0 h0
        have hj3 : j = 1 ∨ j = 2 ∨ j = 3 := by omega
        rcases hj3 with rfl | rfl | rfl
        · simp (disch := omega) only [↓reduceIte, ↓needEb, ↓needAb, ↓needSb, ↓needE0l, ↓needE1l, ↓needA0l, ↓needA1l, ↓needS0l, ↓needS1l, ↓bnd c_isWhat, ↓bnd c_isSide, ↓bnd c_isLetter, ↓bnd c_isLength, ↓bnd c_isOften, ↓bnd r_in, ↓bnd r_isLetter, bI_t, bI_f, Bool.false_eq_true, Option.bind_none, Option.none_or, Option.some_or, xAN, xNA, xSA, Option.bind_some, if_true, if_false, Sum.elim_inl, Sum.elim_inr, li0, li1, li2, li3, li4, li5, li6, li7, li8, li9, li10, li12, li16, li20, li24, li25, li31, li32, li40, li41, li42, li48, li57, li59, li97, li104, li105, li124, li126, li240, li241, nI_add, nI_subc, nI_subm, nI_mulc, nI_nm, pu_r, pu_t, pu_a, pu_le_t, pu_le_f, pu_lt_t, pu_lt_f, pu_eq_t, pu_eq_f, nm_eq, nm_eq2, nm_lt, nm_lt2, nm_le, nm_le2, nm_ss, nm_sp, pu_ss, pu_snq, pu_neq, eq_self, and_true, true_and, and_false, false_and, or_true, true_or, or_false, false_or, not_true_eq_false, not_false_eq_true, nX12_hits, mX12_hits_63_J20, mX12_hits_63_K46, hb0, ↓bnd (r_bad0l hz), w1, w2, v1 rfl]
        · simp (disch := omega) only [↓reduceIte, ↓needEb, ↓needAb, ↓needSb, ↓needE0l, ↓needE1l, ↓needA0l, ↓needA1l, ↓needS0l, ↓needS1l, ↓bnd c_isWhat, ↓bnd c_isSide, ↓bnd c_isLetter, ↓bnd c_isLength, ↓bnd c_isOften, ↓bnd r_in, ↓bnd r_isLetter, bI_t, bI_f, Bool.false_eq_true, Option.bind_none, Option.none_or, Option.some_or, xAN, xNA, xSA, Option.bind_some, if_true, if_false, Sum.elim_inl, Sum.elim_inr, li0, li1, li2, li3, li4, li5, li6, li7, li8, li9, li10, li12, li16, li20, li24, li25, li31, li32, li40, li41, li42, li48, li57, li59, li97, li104, li105, li124, li126, li240, li241, nI_add, nI_subc, nI_subm, nI_mulc, nI_nm, pu_r, pu_t, pu_a, pu_le_t, pu_le_f, pu_lt_t, pu_lt_f, pu_eq_t, pu_eq_f, nm_eq, nm_eq2, nm_lt, nm_lt2, nm_le, nm_le2, nm_ss, nm_sp, pu_ss, pu_snq, pu_neq, eq_self, and_true, true_and, and_false, false_and, or_true, true_or, or_false, false_or, not_true_eq_false, not_false_eq_true, nX12_hits, mX12_hits_63_J20, mX12_hits_63_K46, hb0, ↓bnd (r_bad0l hz), w1, w2, v2 rfl]
        · simp (disch := omega) only [↓reduceIte, ↓needEb, ↓needAb, ↓needSb, ↓needE0l, ↓needE1l, ↓needA0l, ↓needA1l, ↓needS0l, ↓needS1l, ↓bnd c_isWhat, ↓bnd c_isSide, ↓bnd c_isLetter, ↓bnd c_isLength, ↓bnd c_isOften, ↓bnd r_in, ↓bnd r_isLetter, bI_t, bI_f, Bool.false_eq_true, Option.bind_none, Option.none_or, Option.some_or, xAN, xNA, xSA, Option.bind_some, if_true, if_false, Sum.elim_inl, Sum.elim_inr, li0, li1, li2, li3, li4, li5, li6, li7, li8, li9, li10, li12, li16, li20, li24, li25, li31, li32, li40, li41, li42, li48, li57, li59, li97, li104, li105, li124, li126, li240, li241, nI_add, nI_subc, nI_subm, nI_mulc, nI_nm, pu_r, pu_t, pu_a, pu_le_t, pu_le_f, pu_lt_t, pu_lt_f, pu_eq_t, pu_eq_f, nm_eq, nm_eq2, nm_lt, nm_lt2, nm_le, nm_le2, nm_ss, nm_sp, pu_ss, pu_snq, pu_neq, eq_self, and_true, true_and, and_false, false_and, or_true, true_or, or_false, false_or, not_true_eq_false, not_false_eq_true, nX12_hits, mX12_hits_63_J20, mX12_hits_63_K46, hb0, ↓bnd (r_bad0l hz), w1, w2, v3 rfl]
    by_cases j1 : j = 1
    · exact key _ (fun _ => rfl) (fun z => absurd z (by omega)) (fun z => absurd z (by omega))
    · by_cases j2 : j = 2
      · exact key _ (fun z => absurd z (by omega)) (fun _ => rfl) (fun z => absurd z (by omega))
      · exact key _ (fun z => absurd z (by omega)) (fun z => absurd z (by omega)) (fun _ => rfl)
theorem q_hits {M : me_M} (h : Inv M) (a0 : Int32) : aQ (hL_hits M a0) (fun M1 => mX12_hits_63 M1 a0) := by
  obtain ⟨T, n, m, W, X, t, F, S, P, D, ha⟩ := h.vA
  have hT := ha.1.1
  have hx := ha.1.2.1
  have c1 := hx.1.1.1
  have hn := hT.2.2.2
  have h9 := hT.2.1
  have hp1 := ha.2.2.1.2.1
  have ht := ha.2.2.1.1
  have hm4 := ha.2.1.1.2.2.1
  have hm40 := ha.2.1.1.1
  cases hb0 : iB a0 (nI 0) (nI 3) with
  | false =>
    refine aQ.t 1 1 (G := fun M0 => nX12_hits M0 a0) (fun M1 => zX12_hits M1 a0) h ha (by omega) (by omega) (by omega) ?_ (fun M0 h0 hz hf => ?_)
    · simp (disch := omega) only [↓reduceIte, ↓needEb, ↓needAb, ↓needSb, ↓needE0l, ↓needE1l, ↓needA0l, ↓needA1l, ↓needS0l, ↓needS1l, ↓bnd c_isWhat, ↓bnd c_isSide, ↓bnd c_isLetter, ↓bnd c_isLength, ↓bnd c_isOften, ↓bnd r_in, ↓bnd r_isLetter, bI_t, bI_f, Bool.false_eq_true, Option.bind_none, Option.none_or, Option.some_or, xAN, xNA, xSA, Option.bind_some, if_true, if_false, Sum.elim_inl, Sum.elim_inr, li0, li1, li2, li3, li4, li5, li6, li7, li8, li9, li10, li12, li16, li20, li24, li25, li31, li32, li40, li41, li42, li48, li57, li59, li97, li104, li105, li124, li126, li240, li241, nI_add, nI_subc, nI_subm, nI_mulc, nI_nm, pu_r, pu_t, pu_a, pu_le_t, pu_le_f, pu_lt_t, pu_lt_f, pu_eq_t, pu_eq_f, nm_eq, nm_eq2, nm_lt, nm_lt2, nm_le, nm_le2, nm_ss, nm_sp, pu_ss, pu_snq, pu_neq, eq_self, and_true, true_and, and_false, false_and, or_true, true_or, or_false, false_or, not_true_eq_false, not_false_eq_true, mX11_hits_0, tX11_hits_0, hL_hits, hb0]
    · simp (disch := omega) only [↓reduceIte, ↓needEb, ↓needAb, ↓needSb, ↓needE0l, ↓needE1l, ↓needA0l, ↓needA1l, ↓needS0l, ↓needS1l, ↓bnd c_isWhat, ↓bnd c_isSide, ↓bnd c_isLetter, ↓bnd c_isLength, ↓bnd c_isOften, ↓bnd r_in, ↓bnd r_isLetter, bI_t, bI_f, Bool.false_eq_true, Option.bind_none, Option.none_or, Option.some_or, xAN, xNA, xSA, Option.bind_some, if_true, if_false, Sum.elim_inl, Sum.elim_inr, li0, li1, li2, li3, li4, li5, li6, li7, li8, li9, li10, li12, li16, li20, li24, li25, li31, li32, li40, li41, li42, li48, li57, li59, li97, li104, li105, li124, li126, li240, li241, nI_add, nI_subc, nI_subm, nI_mulc, nI_nm, pu_r, pu_t, pu_a, pu_le_t, pu_le_f, pu_lt_t, pu_lt_f, pu_eq_t, pu_eq_f, nm_eq, nm_eq2, nm_lt, nm_lt2, nm_le, nm_le2, nm_ss, nm_sp, pu_ss, pu_snq, pu_neq, eq_self, and_true, true_and, and_false, false_and, or_true, true_or, or_false, false_or, not_true_eq_false, not_false_eq_true, nX12_hits, mX12_hits_63_J74, mX12_hits_63_J173, mX12_hits_63_J169, mX12_hits_63_J166, mX12_hits_63_J134, mX12_hits_63_K46, mX12_hits_63_J20, hb0, ↓bnd (r_bad0l hz), ↓bnd (r_bad10 hz), ↓bnd (r_bad11 hz), ↓bnd (r_bad21 hz), ↓bnd (r_bad22 hz)]
  | true =>
    exact qr_hits h ha a0 hb0
