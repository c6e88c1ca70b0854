/-! ===== calls: strings, repeat ===== -/
def aR (T : Nat → Nat) (n len p q : Nat) : Bool := decide (p = q) || decide (len ≤ lk T n p q)
theorem aR_iff {T : Nat → Nat} {n len p q : Nat} : aR T n len p q = true ↔ (p = q ∨ len ≤ lk T n p q) := by
  unfold aR
  rw [Bool.or_eq_true, decide_eq_true_eq, decide_eq_true_eq]
theorem lk_lf {T : Nat → Nat} {n p q : Nat} : lk T n p q ≤ lf T n p := by unfold lk; omega
theorem aR_1 {T : Nat → Nat} {n len : Nat} (p : Nat) : aR T n len p p = true := aR_iff.mpr (Or.inl rfl)
theorem aR_2 {T : Nat → Nat} {n len : Nat} (p q : Nat) (h : aR T n len p q = true) : aR T n len q p = true := by
  rcases aR_iff.mp h with z | z
  · exact aR_iff.mpr (Or.inl z.symm)
  · exact aR_iff.mpr (Or.inr (by rw [lk_sym]; exact z))
theorem aR_3 {T : Nat → Nat} {n len : Nat} (p q r : Nat) (h : aR T n len p q = true) (h2 : aR T n len q r = true) : aR T n len p r = true := by
  rcases aR_iff.mp h with z | z
  · rw [z]; exact h2
  · rcases aR_iff.mp h2 with y | y
    · rw [← y]; exact h
    · exact aR_iff.mpr (Or.inr (lk_tri T n len _ _ _ z y))
theorem aR_A {T : Nat → Nat} {n len : Nat} (p q : Nat) (hA : decide (len ≤ lf T n p) = true) (h : aR T n len p q = true) : decide (len ≤ lf T n q) = true := by
  rcases aR_iff.mp h with z | z
  · rw [← z]; exact hA
  · rw [lk_sym] at z
    have := lk_lf (T := T) (n := n) (p := q) (q := p)
    exact decide_eq_true (by omega)
/-- as many strings by rows as by places -/
theorem strings_eq {T : Nat → Nat} {n len : Nat} (hT : tx_ok T n) (hlen : 1 ≤ len) : ct (fun r => decide (len ≤ lf T n (pa T n r)) && decide (hx9 T n r < len)) (n + 1) = ct (fun p => decide (len ≤ lf T n p) && decide (∀ q, q < p → lk T n q p < len)) n := by
  have e1 : ct (fun r => decide (len ≤ lf T n (pa T n r)) && decide (hx9 T n r < len)) (n + 1) = ct (fun p => decide (len ≤ lf T n p) && decide (∀ q, q < n + 1 → aR T n len p q = true → rk T n p ≤ rk T n q)) (n + 1) := by
    rw [ct_rows1 hT (fun p => decide (len ≤ lf T n p) && decide (∀ q, q < n + 1 → aR T n len p q = true → rk T n p ≤ rk T n q))]
    refine ct_congr (n + 1) (fun r hr => ?_)
    obtain ⟨p1, p2⟩ := pa_ok (r := r) hT (by omega)
    congr 1
    rw [Bool.eq_iff_iff, decide_eq_true_eq, decide_eq_true_eq, hx9_le (by omega), p2]
    refine ⟨fun h q hq hR => ?_, fun h => ?_⟩
    · rcases aR_iff.mp hR with z | z
      · rw [← z, p2]; exact Nat.le_refl _
      · rcases Nat.lt_or_ge (rk T n q) r with c | c
        · have := (lk_rows (len := len) hT r c (by omega)).mp (by rw [pa_rk hT (show q ≤ n by omega), lk_sym]; exact z) r c (Nat.le_refl _)
          omega
        · exact c
    · rcases Nat.lt_or_ge (hd T n r) len with c | c
      · exact c
      · exfalso
        rcases r with _ | r
        · have : hd T n 0 = 0 := rfl
          omega
        · rw [hd_s] at c
          obtain ⟨q1, q2⟩ := pa_ok (r := r) hT (by omega)
          have := h (pa T n r) (by omega) (aR_iff.mpr (Or.inr c))
          omega
  have e2 : ct (fun p => decide (len ≤ lf T n p) && decide (∀ q, q < p → lk T n q p < len)) n = ct (fun p => decide (len ≤ lf T n p) && decide (∀ q, q < n + 1 → aR T n len p q = true → p ≤ q)) (n + 1) := by
    have e3 : ct (fun p => decide (len ≤ lf T n p) && decide (∀ q, q < p → lk T n q p < len)) (n + 1) = ct (fun p => decide (len ≤ lf T n p) && decide (∀ q, q < p → lk T n q p < len)) n := by
      rw [ct_s, lf_end (Nat.le_refl _), decide_eq_false (show ¬ len ≤ 0 by omega), Bool.false_and, if_neg (by decide), Nat.add_zero]
    rw [← e3]
    refine ct_congr (n + 1) (fun p hp => ?_)
    congr 1
    rw [Bool.eq_iff_iff, decide_eq_true_eq, decide_eq_true_eq]
    refine ⟨fun h q hq hR => ?_, fun h q hq => ?_⟩
    · rcases aR_iff.mp hR with z | z
      · omega
      · rcases Nat.lt_or_ge q p with c | c
        · have := h q c
          rw [lk_sym] at z
          omega
        · exact c
    · rcases Nat.lt_or_ge (lk T n q p) len with c | c
      · exact c
      · have := h q (by omega) (aR_iff.mpr (Or.inr (by rw [lk_sym]; exact c)))
        omega
  rw [e1, e2]
  refine Nat.le_antisymm ?_ ?_
  · exact firsts_le (A := fun p => decide (len ≤ lf T n p)) (R := aR T n len) (f := rk T n) (g := fun p => p) aR_1 aR_2 aR_3 (fun p q _ _ => aR_A p q) (fun p q hp hq e => rk_inj hT (by omega) (by omega) e)
  · exact firsts_le (A := fun p => decide (len ≤ lf T n p)) (R := aR T n len) (f := fun p => p) (g := rk T n) aR_1 aR_2 aR_3 (fun p q _ _ => aR_A p q) (fun p q hp hq e => e)
theorem c_strings {T : Nat → Nat} {n len : Nat} {M : me_M} (hT : tx9 T n) (hx : cx T n M) (hlen : len ≤ 240) : mX2_unlikeStrings_26 M (nI len) = some (nI (ct (fun r => decide (len ≤ lf T n (pa T n r)) && decide (hx9 T n r < len)) (n + 1))) := by
  have hn := hT.2.2.2
  have c1 := hx.1.1.1
  have hl : me_l (mX2_unlikeStrings_26_L4 M (nI len)) me_fu (nI 0, nI 0) = some (nI (ct (fun r => decide (len ≤ lf T n (pa T n r)) && decide (hx9 T n r < len)) (n + 1))) := by
    refine lp_to (fun x => (nI (ct (fun r => decide (len ≤ lf T n (pa T n r)) && decide (hx9 T n r < len)) x), nI x)) (a := 0) (N := n + 1) (by omega) (by omega) (fun x _ hx9' => ?_) ?_
    · simp only [mX2_unlikeStrings_26_L4, mX2_unlikeStrings_26_J48]
      have h10 := rk_pl hT.1 hx.2.1.2.1 (show x ≤ n by omega)
      have hp := pa_le hT.1 (show x ≤ n by omega)
      have h6 := hx.1.2.2.1 _ hp
      have hf := lf_le (T := T) (n := n) (pa T n x)
      have ha := c_alike9 hT hx (show x ≤ n + 1 by omega)
      have hb := hx9_bd (T := T) (n := n) (r := x)
      rw [ct_s]
      by_cases c : len ≤ lf T n (pa T n x)
      · by_cases d : hx9 T n x < len
        · simp (disch := omega) only [Option.bind_some, if_true, if_false, Sum.elim_inl, Sum.elim_inr, li0, li1, li2, li3, li4, li5, li6, li7, li8, li9, li10, li12, li16, li20, li24, li25, li31, li32, li40, li41, li42, li48, li57, li59, li97, li104, li105, li124, li126, li240, li241, nI_add, nI_subc, nI_subm, nI_mulc, nI_nm, pu_r, pu_t, pu_a, pu_le_t, pu_le_f, pu_lt_t, pu_lt_f, pu_eq_t, pu_eq_f, nm_eq, nm_eq2, nm_lt, nm_lt2, nm_le, nm_le2, nm_ss, nm_sp, pu_ss, pu_snq, pu_neq, eq_self, and_true, true_and, and_false, false_and, or_true, true_or, or_false, false_or, not_true_eq_false, not_false_eq_true, c1, h10, h6, ha, decide_eq_true c, decide_eq_true d, Bool.true_and]
        · simp (disch := omega) only [Option.bind_some, if_true, if_false, Sum.elim_inl, Sum.elim_inr, li0, li1, li2, li3, li4, li5, li6, li7, li8, li9, li10, li12, li16, li20, li24, li25, li31, li32, li40, li41, li42, li48, li57, li59, li97, li104, li105, li124, li126, li240, li241, nI_add, nI_subc, nI_subm, nI_mulc, nI_nm, pu_r, pu_t, pu_a, pu_le_t, pu_le_f, pu_lt_t, pu_lt_f, pu_eq_t, pu_eq_f, nm_eq, nm_eq2, nm_lt, nm_lt2, nm_le, nm_le2, nm_ss, nm_sp, pu_ss, pu_snq, pu_neq, eq_self, and_true, true_and, and_false, false_and, or_true, true_or, or_false, false_or, not_true_eq_false, not_false_eq_true, c1, h10, h6, ha, decide_eq_true c, decide_eq_false d, Bool.true_and, Bool.false_eq_true, Nat.add_zero]
      · simp (disch := omega) only [Option.bind_some, if_true, if_false, Sum.elim_inl, Sum.elim_inr, li0, li1, li2, li3, li4, li5, li6, li7, li8, li9, li10, li12, li16, li20, li24, li25, li31, li32, li40, li41, li42, li48, li57, li59, li97, li104, li105, li124, li126, li240, li241, nI_add, nI_subc, nI_subm, nI_mulc, nI_nm, pu_r, pu_t, pu_a, pu_le_t, pu_le_f, pu_lt_t, pu_lt_f, pu_eq_t, pu_eq_f, nm_eq, nm_eq2, nm_lt, nm_lt2, nm_le, nm_le2, nm_ss, nm_sp, pu_ss, pu_snq, pu_neq, eq_self, and_true, true_and, and_false, false_and, or_true, true_or, or_false, false_or, not_true_eq_false, not_false_eq_true, c1, h10, h6, decide_eq_false c, Bool.false_and, Bool.false_eq_true, Nat.add_zero]
    · simp only [mX2_unlikeStrings_26_L4]
      simp (disch := omega) only [Option.bind_some, if_true, if_false, Sum.elim_inl, Sum.elim_inr, li0, li1, li2, li3, li4, li5, li6, li7, li8, li9, li10, li12, li16, li20, li24, li25, li31, li32, li40, li41, li42, li48, li57, li59, li97, li104, li105, li124, li126, li240, li241, nI_add, nI_subc, nI_subm, nI_mulc, nI_nm, pu_r, pu_t, pu_a, pu_le_t, pu_le_f, pu_lt_t, pu_lt_f, pu_eq_t, pu_eq_f, nm_eq, nm_eq2, nm_lt, nm_lt2, nm_le, nm_le2, nm_ss, nm_sp, pu_ss, pu_snq, pu_neq, eq_self, and_true, true_and, and_false, false_and, or_true, true_or, or_false, false_or, not_true_eq_false, not_false_eq_true, c1]
  unfold mX2_unlikeStrings_26
  simp (disch := omega) only [Option.bind_some, if_true, if_false, Sum.elim_inl, Sum.elim_inr, li0, li1, li2, li3, li4, li5, li6, li7, li8, li9, li10, li12, li16, li20, li24, li25, li31, li32, li40, li41, li42, li48, li57, li59, li97, li104, li105, li124, li126, li240, li241, nI_add, nI_subc, nI_subm, nI_mulc, nI_nm, pu_r, pu_t, pu_a, pu_le_t, pu_le_f, pu_lt_t, pu_lt_f, pu_eq_t, pu_eq_f, nm_eq, nm_eq2, nm_lt, nm_lt2, nm_le, nm_le2, nm_ss, nm_sp, pu_ss, pu_snq, pu_neq, eq_self, and_true, true_and, and_false, false_and, or_true, true_or, or_false, false_or, not_true_eq_false, not_false_eq_true, hl]
theorem all_s {P : Nat → Prop} {x : Nat} : (∀ q, q < x + 1 → P q) ↔ ((∀ q, q < x → P q) ∧ P x) := by
  refine ⟨fun h => ⟨fun q hq => h q (by omega), h x (by omega)⟩, fun h q hq => ?_⟩
  by_cases e : q = x
  · rw [e]; exact h.2
  · exact h.1 q (by omega)
theorem r_strings {T : Nat → Nat} {n len : Nat} {M : me_M} (hT : tx9 T n) (hM : rx T n M) (hlen : len ≤ 240) : me_l (mX12_strings_63_L36 M (nI len)) me_fu (nI 0, nI 0) = some (nI (ct (fun p => decide (len ≤ lf T n p) && decide (∀ q, q < p → lk T n q p < len)) n)) := by
  have hn := hT.2.2.2
  have h3 := hM.1
  refine lp_to (fun x => (nI (ct (fun p => decide (len ≤ lf T n p) && decide (∀ q, q < p → lk T n q p < len)) x), nI x)) (a := 0) (N := n) (by omega) (by omega) (fun p _ hp => ?_) ?_
  · have hin : ∀ y, me_l (mX12_strings_63_L63 M (nI len) y (nI p)) me_fu (nI 1, nI 0) = some (nI (if decide (∀ q, q < p → lk T n q p < len) = true then 1 else 0)) := fun y => by
      obtain ⟨r, e, hr⟩ := lp_up (b := mX12_strings_63_L63 M (nI len) y (nI p)) (fun x s => s = (nI (if decide (∀ q, q < x → lk T n q p < len) = true then 1 else 0), nI x)) (fun r => r = nI (if decide (∀ q, q < p → lk T n q p < len) = true then 1 else 0)) (a := 0) (N := p) (by omega) (by omega) (fun x s _ hx hs => by
          subst hs
          have hk := lk_le (T := T) (n := n) (p := x) (q := p)
          have hlk := r_like hT hM (show x ≤ n by omega) (show p ≤ n by omega)
          simp only [mX12_strings_63_L63, mX12_strings_63_J90]
          by_cases c : ∀ q, q < x → lk T n q p < len
          · left
            by_cases d : lk T n x p < len
            · refine ⟨_, ?_, rfl⟩
              have c2 := all_s.mpr ⟨c, d⟩
              simp (disch := omega) only [Option.bind_some, if_true, if_false, Sum.elim_inl, Sum.elim_inr, li0, li1, li2, li3, li4, li5, li6, li7, li8, li9, li10, li12, li16, li20, li24, li25, li31, li32, li40, li41, li42, li48, li57, li59, li97, li104, li105, li124, li126, li240, li241, nI_add, nI_subc, nI_subm, nI_mulc, nI_nm, pu_r, pu_t, pu_a, pu_le_t, pu_le_f, pu_lt_t, pu_lt_f, pu_eq_t, pu_eq_f, nm_eq, nm_eq2, nm_lt, nm_lt2, nm_le, nm_le2, nm_ss, nm_sp, pu_ss, pu_snq, pu_neq, eq_self, and_true, true_and, and_false, false_and, or_true, true_or, or_false, false_or, not_true_eq_false, not_false_eq_true, decide_eq_true c, decide_eq_true c2, hlk]
            · refine ⟨_, ?_, rfl⟩
              have c2 : ¬ ∀ q, q < x + 1 → lk T n q p < len := fun z => d (z x (by omega))
              simp (disch := omega) only [Option.bind_some, if_true, if_false, Sum.elim_inl, Sum.elim_inr, li0, li1, li2, li3, li4, li5, li6, li7, li8, li9, li10, li12, li16, li20, li24, li25, li31, li32, li40, li41, li42, li48, li57, li59, li97, li104, li105, li124, li126, li240, li241, nI_add, nI_subc, nI_subm, nI_mulc, nI_nm, pu_r, pu_t, pu_a, pu_le_t, pu_le_f, pu_lt_t, pu_lt_f, pu_eq_t, pu_eq_f, nm_eq, nm_eq2, nm_lt, nm_lt2, nm_le, nm_le2, nm_ss, nm_sp, pu_ss, pu_snq, pu_neq, eq_self, and_true, true_and, and_false, false_and, or_true, true_or, or_false, false_or, not_true_eq_false, not_false_eq_true, decide_eq_true c, decide_eq_false c2, hlk, Bool.false_eq_true]
          · right
            refine ⟨_, ?_, rfl⟩
            have c2 : ¬ ∀ q, q < p → lk T n q p < len := fun z => c (fun q hq => z q (by omega))
            simp (disch := omega) only [Option.bind_some, if_true, if_false, Sum.elim_inl, Sum.elim_inr, li0, li1, li2, li3, li4, li5, li6, li7, li8, li9, li10, li12, li16, li20, li24, li25, li31, li32, li40, li41, li42, li48, li57, li59, li97, li104, li105, li124, li126, li240, li241, nI_add, nI_subc, nI_subm, nI_mulc, nI_nm, pu_r, pu_t, pu_a, pu_le_t, pu_le_f, pu_lt_t, pu_lt_f, pu_eq_t, pu_eq_f, nm_eq, nm_eq2, nm_lt, nm_lt2, nm_le, nm_le2, nm_ss, nm_sp, pu_ss, pu_snq, pu_neq, eq_self, and_true, true_and, and_false, false_and, or_true, true_or, or_false, false_or, not_true_eq_false, not_false_eq_true, decide_eq_false c, decide_eq_false c2, Bool.false_eq_true]) (fun s hs => by
          subst hs
          refine ⟨_, ?_, rfl⟩
          simp only [mX12_strings_63_L63]
          simp (disch := omega) only [Option.bind_some, if_true, if_false, Sum.elim_inl, Sum.elim_inr, li0, li1, li2, li3, li4, li5, li6, li7, li8, li9, li10, li12, li16, li20, li24, li25, li31, li32, li40, li41, li42, li48, li57, li59, li97, li104, li105, li124, li126, li240, li241, nI_add, nI_subc, nI_subm, nI_mulc, nI_nm, pu_r, pu_t, pu_a, pu_le_t, pu_le_f, pu_lt_t, pu_lt_f, pu_eq_t, pu_eq_f, nm_eq, nm_eq2, nm_lt, nm_lt2, nm_le, nm_le2, nm_ss, nm_sp, pu_ss, pu_snq, pu_neq, eq_self, and_true, true_and, and_false, false_and, or_true, true_or, or_false, false_or, not_true_eq_false, not_false_eq_true]) (s0 := (nI 1, nI 0)) (by rw [decide_eq_true (show ∀ q, q < 0 → lk T n q p < len from fun q h => absurd h (Nat.not_lt_zero _))]; rfl)
      rw [e, hr]
    have hin0 : ∀ y, me_l (mX12_strings_63_L63 M (nI len) y (nI p)) me_fu (nI 0, nI 0) = some (nI 0) := fun y => by
      refine lp_to (fun _ => (nI 0, nI 0)) (a := 0) (N := 0) (by omega) (by omega) (fun x _ hx => absurd hx (by omega)) ?_
      simp only [mX12_strings_63_L63]
      by_cases c : p = 0
      · simp (disch := omega) only [Option.bind_some, if_true, if_false, Sum.elim_inl, Sum.elim_inr, li0, li1, li2, li3, li4, li5, li6, li7, li8, li9, li10, li12, li16, li20, li24, li25, li31, li32, li40, li41, li42, li48, li57, li59, li97, li104, li105, li124, li126, li240, li241, nI_add, nI_subc, nI_subm, nI_mulc, nI_nm, pu_r, pu_t, pu_a, pu_le_t, pu_le_f, pu_lt_t, pu_lt_f, pu_eq_t, pu_eq_f, nm_eq, nm_eq2, nm_lt, nm_lt2, nm_le, nm_le2, nm_ss, nm_sp, pu_ss, pu_snq, pu_neq, eq_self, and_true, true_and, and_false, false_and, or_true, true_or, or_false, false_or, not_true_eq_false, not_false_eq_true, c]
      · simp (disch := omega) only [Option.bind_some, if_true, if_false, Sum.elim_inl, Sum.elim_inr, li0, li1, li2, li3, li4, li5, li6, li7, li8, li9, li10, li12, li16, li20, li24, li25, li31, li32, li40, li41, li42, li48, li57, li59, li97, li104, li105, li124, li126, li240, li241, nI_add, nI_subc, nI_subm, nI_mulc, nI_nm, pu_r, pu_t, pu_a, pu_le_t, pu_le_f, pu_lt_t, pu_lt_f, pu_eq_t, pu_eq_f, nm_eq, nm_eq2, nm_lt, nm_lt2, nm_le, nm_le2, nm_ss, nm_sp, pu_ss, pu_snq, pu_neq, eq_self, and_true, true_and, and_false, false_and, or_true, true_or, or_false, false_or, not_true_eq_false, not_false_eq_true]
    have hr := r_run hT hM (show p ≤ n by omega)
    have hf := lf_le (T := T) (n := n) p
    simp only [mX12_strings_63_L36, mX12_strings_63_J58, mX12_strings_63_J109]
    rw [ct_s]
    by_cases c : len ≤ lf T n p
    · by_cases d : ∀ q, q < p → lk T n q p < len
      · simp (disch := omega) only [Option.bind_some, if_true, if_false, Sum.elim_inl, Sum.elim_inr, li0, li1, li2, li3, li4, li5, li6, li7, li8, li9, li10, li12, li16, li20, li24, li25, li31, li32, li40, li41, li42, li48, li57, li59, li97, li104, li105, li124, li126, li240, li241, nI_add, nI_subc, nI_subm, nI_mulc, nI_nm, pu_r, pu_t, pu_a, pu_le_t, pu_le_f, pu_lt_t, pu_lt_f, pu_eq_t, pu_eq_f, nm_eq, nm_eq2, nm_lt, nm_lt2, nm_le, nm_le2, nm_ss, nm_sp, pu_ss, pu_snq, pu_neq, eq_self, and_true, true_and, and_false, false_and, or_true, true_or, or_false, false_or, not_true_eq_false, not_false_eq_true, h3, hr, hin, decide_eq_true c, decide_eq_true d, Bool.true_and]
      · simp (disch := omega) only [Option.bind_some, if_true, if_false, Sum.elim_inl, Sum.elim_inr, li0, li1, li2, li3, li4, li5, li6, li7, li8, li9, li10, li12, li16, li20, li24, li25, li31, li32, li40, li41, li42, li48, li57, li59, li97, li104, li105, li124, li126, li240, li241, nI_add, nI_subc, nI_subm, nI_mulc, nI_nm, pu_r, pu_t, pu_a, pu_le_t, pu_le_f, pu_lt_t, pu_lt_f, pu_eq_t, pu_eq_f, nm_eq, nm_eq2, nm_lt, nm_lt2, nm_le, nm_le2, nm_ss, nm_sp, pu_ss, pu_snq, pu_neq, eq_self, and_true, true_and, and_false, false_and, or_true, true_or, or_false, false_or, not_true_eq_false, not_false_eq_true, h3, hr, hin, decide_eq_true c, decide_eq_false d, Bool.true_and, Bool.false_eq_true, Nat.add_zero]
    · simp (disch := omega) only [Option.bind_some, if_true, if_false, Sum.elim_inl, Sum.elim_inr, li0, li1, li2, li3, li4, li5, li6, li7, li8, li9, li10, li12, li16, li20, li24, li25, li31, li32, li40, li41, li42, li48, li57, li59, li97, li104, li105, li124, li126, li240, li241, nI_add, nI_subc, nI_subm, nI_mulc, nI_nm, pu_r, pu_t, pu_a, pu_le_t, pu_le_f, pu_lt_t, pu_lt_f, pu_eq_t, pu_eq_f, nm_eq, nm_eq2, nm_lt, nm_lt2, nm_le, nm_le2, nm_ss, nm_sp, pu_ss, pu_snq, pu_neq, eq_self, and_true, true_and, and_false, false_and, or_true, true_or, or_false, false_or, not_true_eq_false, not_false_eq_true, h3, hr, hin0, decide_eq_false c, Bool.false_and, Bool.false_eq_true, Nat.add_zero]
  · simp only [mX12_strings_63_L36]
    simp (disch := omega) only [Option.bind_some, if_true, if_false, Sum.elim_inl, Sum.elim_inr, li0, li1, li2, li3, li4, li5, li6, li7, li8, li9, li10, li12, li16, li20, li24, li25, li31, li32, li40, li41, li42, li48, li57, li59, li97, li104, li105, li124, li126, li240, li241, nI_add, nI_subc, nI_subm, nI_mulc, nI_nm, pu_r, pu_t, pu_a, pu_le_t, pu_le_f, pu_lt_t, pu_lt_f, pu_eq_t, pu_eq_f, nm_eq, nm_eq2, nm_lt, nm_lt2, nm_le, nm_le2, nm_ss, nm_sp, pu_ss, pu_snq, pu_neq, eq_self, and_true, true_and, and_false, false_and, or_true, true_or, or_false, false_or, not_true_eq_false, not_false_eq_true, h3]
theorem qr_strings {T : Nat → Nat} {n m : Nat} {W X : Nat → Nat} {t : Nat} {F : Nat → Nat} {S P : Nat} {D : Nat → Nat → Nat → Nat} {M : me_M} (h : Inv M) (ha : vA T n m W X t F S P D M) (a0 : Int32) (hb0 : iB a0 (nI 1) (nI 240) = true) : aQ (hL_strings M a0) (fun M1 => mX12_strings_63 M1 a0) := by
  have hT := ha.1.1
  obtain ⟨len, h1, h2, rfl⟩ := iB_n hb0 (by omega) (by omega)
  have e := c_strings hT ha.1.2.1 h2
  rw [strings_eq hT.1 h1] at e
  refine aQ.p (v := nI (ct (fun p => decide (len ≤ lf T n p) && decide (∀ q, q < p → lk T n q p < len)) n)) (G := fun M0 => nX12_strings M0 (nI len)) (fun M1 => zX12_strings M1 _) h ha ?_ (fun M0 h0 hz hf => ?_)
  · simp (disch := omega) only [↓reduceIte, ↓needEb, ↓needAb, ↓needSb, ↓needE0l, ↓needE1l, ↓needA0l, ↓needA1l, ↓needS0l, ↓needS1l, ↓bnd c_isWhat, ↓bnd c_isSide, ↓bnd c_isLetter, ↓bnd c_isLength, ↓bnd c_isOften, ↓bnd r_in, ↓bnd r_isLetter, bI_t, bI_f, Bool.false_eq_true, Option.bind_none, Option.none_or, Option.some_or, xAN, xNA, xSA, Option.bind_some, if_true, if_false, Sum.elim_inl, Sum.elim_inr, li0, li1, li2, li3, li4, li5, li6, li7, li8, li9, li10, li12, li16, li20, li24, li25, li31, li32, li40, li41, li42, li48, li57, li59, li97, li104, li105, li124, li126, li240, li241, nI_add, nI_subc, nI_subm, nI_mulc, nI_nm, pu_r, pu_t, pu_a, pu_le_t, pu_le_f, pu_lt_t, pu_lt_f, pu_eq_t, pu_eq_f, nm_eq, nm_eq2, nm_lt, nm_lt2, nm_le, nm_le2, nm_ss, nm_sp, pu_ss, pu_snq, pu_neq, eq_self, and_true, true_and, and_false, false_and, or_true, true_or, or_false, false_or, not_true_eq_false, not_false_eq_true, hL_strings, mX11_strings_0, hb0, e]
  · have r := r_strings hT h0.1.2.2.1.1 h2
    simp (disch := omega) only [↓reduceIte, ↓needEb, ↓needAb, ↓needSb, ↓needE0l, ↓needE1l, ↓needA0l, ↓needA1l, ↓needS0l, ↓needS1l, ↓bnd c_isWhat, ↓bnd c_isSide, ↓bnd c_isLetter, ↓bnd c_isLength, ↓bnd c_isOften, ↓bnd r_in, ↓bnd r_isLetter, bI_t, bI_f, Bool.false_eq_true, Option.bind_none, Option.none_or, Option.some_or, xAN, xNA, xSA, Option.bind_some, if_true, if_false, Sum.elim_inl, Sum.elim_inr, li0, li1, li2, li3, li4, li5, li6, li7, li8, li9, li10, li12, li16, li20, li24, li25, li31, li32, li40, li41, li42, li48, li57, li59, li97, li104, li105, li124, li126, li240, li241, nI_add, nI_subc, nI_subm, nI_mulc, nI_nm, pu_r, pu_t, pu_a, pu_le_t, pu_le_f, pu_lt_t, pu_lt_f, pu_eq_t, pu_eq_f, nm_eq, nm_eq2, nm_lt, nm_lt2, nm_le, nm_le2, nm_ss, nm_sp, pu_ss, pu_snq, pu_neq, eq_self, and_true, true_and, and_false, false_and, or_true, true_or, or_false, false_or, not_true_eq_false, not_false_eq_true, nX12_strings, mX12_strings_63_J22, hb0, ↓bnd (r_bad0l hz), r]
theorem q_strings {M : me_M} (h : Inv M) (a0 : Int32) : aQ (hL_strings M a0) (fun M1 => mX12_strings_63 M1 a0) := by
  obtain ⟨T, n, m, W, X, t, F, S, P, D, ha⟩ := h.vA
  have hT := ha.1.1
  have hx := ha.1.2.1
  have c1 := hx.1.1.1
  have hn := hT.2.2.2
  have h9 := hT.2.1
  have hp1 := ha.2.2.1.2.1
  have ht := ha.2.2.1.1
  have hm4 := ha.2.1.1.2.2.1
  have hm40 := ha.2.1.1.1
  cases hb0 : iB a0 (nI 1) (nI 240) with
  | false =>
    refine aQ.t 1 1 (G := fun M0 => nX12_strings M0 a0) (fun M1 => zX12_strings M1 a0) h ha (by omega) (by omega) (by omega) ?_ (fun M0 h0 hz hf => ?_)
    · simp (disch := omega) only [↓reduceIte, ↓needEb, ↓needAb, ↓needSb, ↓needE0l, ↓needE1l, ↓needA0l, ↓needA1l, ↓needS0l, ↓needS1l, ↓bnd c_isWhat, ↓bnd c_isSide, ↓bnd c_isLetter, ↓bnd c_isLength, ↓bnd c_isOften, ↓bnd r_in, ↓bnd r_isLetter, bI_t, bI_f, Bool.false_eq_true, Option.bind_none, Option.none_or, Option.some_or, xAN, xNA, xSA, Option.bind_some, if_true, if_false, Sum.elim_inl, Sum.elim_inr, li0, li1, li2, li3, li4, li5, li6, li7, li8, li9, li10, li12, li16, li20, li24, li25, li31, li32, li40, li41, li42, li48, li57, li59, li97, li104, li105, li124, li126, li240, li241, nI_add, nI_subc, nI_subm, nI_mulc, nI_nm, pu_r, pu_t, pu_a, pu_le_t, pu_le_f, pu_lt_t, pu_lt_f, pu_eq_t, pu_eq_f, nm_eq, nm_eq2, nm_lt, nm_lt2, nm_le, nm_le2, nm_ss, nm_sp, pu_ss, pu_snq, pu_neq, eq_self, and_true, true_and, and_false, false_and, or_true, true_or, or_false, false_or, not_true_eq_false, not_false_eq_true, mX11_strings_0, tX11_strings_0, hL_strings, hb0]
    · simp (disch := omega) only [↓reduceIte, ↓needEb, ↓needAb, ↓needSb, ↓needE0l, ↓needE1l, ↓needA0l, ↓needA1l, ↓needS0l, ↓needS1l, ↓bnd c_isWhat, ↓bnd c_isSide, ↓bnd c_isLetter, ↓bnd c_isLength, ↓bnd c_isOften, ↓bnd r_in, ↓bnd r_isLetter, bI_t, bI_f, Bool.false_eq_true, Option.bind_none, Option.none_or, Option.some_or, xAN, xNA, xSA, Option.bind_some, if_true, if_false, Sum.elim_inl, Sum.elim_inr, li0, li1, li2, li3, li4, li5, li6, li7, li8, li9, li10, li12, li16, li20, li24, li25, li31, li32, li40, li41, li42, li48, li57, li59, li97, li104, li105, li124, li126, li240, li241, nI_add, nI_subc, nI_subm, nI_mulc, nI_nm, pu_r, pu_t, pu_a, pu_le_t, pu_le_f, pu_lt_t, pu_lt_f, pu_eq_t, pu_eq_f, nm_eq, nm_eq2, nm_lt, nm_lt2, nm_le, nm_le2, nm_ss, nm_sp, pu_ss, pu_snq, pu_neq, eq_self, and_true, true_and, and_false, false_and, or_true, true_or, or_false, false_or, not_true_eq_false, not_false_eq_true, nX12_strings, mX12_strings_63_J90, mX12_strings_63_J109, mX12_strings_63_J58, mX12_strings_63_J22, hb0, ↓bnd (r_bad0l hz), ↓bnd (r_bad10 hz), ↓bnd (r_bad11 hz), ↓bnd (r_bad21 hz), ↓bnd (r_bad22 hz)]
  | true =>
    exact qr_strings h ha a0 hb0
/-- the first place with the most, 1 more -/
def fi (g : Nat → Nat) : Nat → Nat
  | 0 => 0
  | x + 1 => if mx g x < g x then x + 1 else fi g x
theorem fi_ok {g : Nat → Nat} : ∀ x, (mx g x = 0 → fi g x = 0) ∧ (0 < mx g x → ∃ q, fi g x = q + 1 ∧ q < x ∧ g q = mx g x ∧ ∀ j, j < q → g j < mx g x)
  | 0 => ⟨fun _ => rfl, fun h => absurd h (Nat.lt_irrefl _)⟩
  | x + 1 => by
    obtain ⟨h1, h2⟩ := fi_ok (g := g) x
    rw [mx_s]
    unfold fi
    by_cases c : mx g x < g x
    · rw [if_pos c, Nat.max_eq_right (by omega)]
      refine ⟨fun z => by omega, fun _ => ⟨x, rfl, by omega, rfl, fun j hj => ?_⟩⟩
      have := mx_ge (f := g) hj
      omega
    · rw [if_neg c, Nat.max_eq_left (by omega)]
      refine ⟨h1, fun z => ?_⟩
      obtain ⟨q, q1, q2, q3, q4⟩ := h2 z
      exact ⟨q, q1, by omega, q3, q4⟩
theorem longest_eq {T : Nat → Nat} {n : Nat} (hT : tx_ok T n) : mx (hx9 T n) (n + 1) = mx (tw T n) n := by
  refine Nat.le_antisymm (mx_le (fun r hr => ?_)) (mx_le (fun p hp => ?_))
  · obtain ⟨p1, p2⟩ := pa_ok (r := r) hT (by omega)
    by_cases c : pa T n r < n
    · have h1 := tw_rows hT p1
      rw [p2] at h1
      have h2 := mx_ge (f := tw T n) c
      omega
    · have : r = 0 := by rw [← p2, show pa T n r = n by omega]; exact rk_n hT
      rw [this, hx9_le (Nat.zero_le _)]
      exact Nat.zero_le _
  · have hr := rk_lt (T := T) (show p ≤ n by omega)
    have h1 := mx_ge (f := hx9 T n) hr
    have h2 : hx9 T n (rk T n p + 1) ≤ mx (hx9 T n) (n + 1) := by
      by_cases c : rk T n p + 1 < n + 1
      · exact mx_ge (f := hx9 T n) c
      · rw [show hx9 T n (rk T n p + 1) = 0 from if_neg (by omega)]; exact Nat.zero_le _
    rw [tw_rows hT (by omega)]
    omega
theorem ex_lo {T : Nat → Nat} {n len : Nat} (hlen : 1 ≤ len) : ∀ r, r ≤ n → ∃ lo, lo ≤ r ∧ hx9 T n lo < len ∧ ∀ j, lo < j → j ≤ r → len ≤ hd T n j
  | 0, _ => ⟨0, Nat.le_refl _, by rw [hx9_le (Nat.zero_le _)]; exact hlen, fun j h1 h2 => by omega⟩
  | r + 1, hr => by
    by_cases c : hd T n (r + 1) < len
    · exact ⟨r + 1, Nat.le_refl _, by rw [hx9_le hr]; exact c, fun j h1 h2 => by omega⟩
    · obtain ⟨lo, l1, l2, l3⟩ := ex_lo (T := T) (n := n) hlen r (by omega)
      refine ⟨lo, by omega, l2, fun j h1 h2 => ?_⟩
      by_cases e : j = r + 1
      · rw [e]; omega
      · exact l3 j h1 (by omega)
theorem ex_hi {T : Nat → Nat} {n len : Nat} (hlen : 1 ≤ len) : ∀ d r, r + d = n → ∃ hi, r < hi ∧ hi ≤ n + 1 ∧ hx9 T n hi < len ∧ ∀ j, r < j → j < hi → len ≤ hd T n j
  | 0, r, h => ⟨n + 1, by omega, by omega, by rw [show hx9 T n (n + 1) = 0 from if_neg (by omega)]; exact hlen, fun j h1 h2 => by omega⟩
  | d + 1, r, h => by
    by_cases c : hd T n (r + 1) < len
    · exact ⟨r + 1, by omega, by omega, by rw [hx9_le (by omega)]; exact c, fun j h1 h2 => by omega⟩
    · obtain ⟨hi, l1, l2, l3, l4⟩ := ex_hi (T := T) (n := n) hlen d (r + 1) (by omega)
      refine ⟨hi, by omega, l2, l3, fun j h1 h2 => ?_⟩
      by_cases e : j = r + 1
      · rw [e]; omega
      · exact l4 j (by omega) h2
theorem c_timesFrom {T : Nat → Nat} {n p len : Nat} {M : me_M} (hT : tx9 T n) (hx : cx T n M) (hp : p < n) (h1 : 1 ≤ len) (h2 : len ≤ 240) : mX2_timesFrom_26 M (nI p) (nI len) = some (nI (tm T n p len)) := by
  have hn := hT.2.2.2
  have c1 := hx.1.1.1
  have h11 := (hx.2.1.2.1 p (by omega)).2
  have hr := rk_lt (T := T) (show p ≤ n by omega)
  have hpa := pa_rk hT.1 (show p ≤ n by omega)
  obtain ⟨lo, l1, l2, l3⟩ := ex_lo (T := T) (n := n) h1 (rk T n p) (by omega)
  obtain ⟨hi, k1, k2, k3, k4⟩ := ex_hi (T := T) (n := n) h1 (n - rk T n p) (rk T n p) (by omega)
  have htm := tm_int hT.1 h1 l1 k1 k2 l2 k3 (fun j j1 j2 => by
    by_cases c : j ≤ rk T n p
    · exact l3 j j1 c
    · exact k4 j (by omega) j2) (by rw [hpa]; exact hp)
  rw [hpa] at htm
  generalize hr9 : rk T n p = r at *
  have e1 : me_l (mX2_timesFrom_26_L23 M (nI len) (nI r)) me_fu (nI 1, nI r) = some (nI (1 + (r - lo))) := by
    have := lp_to (b := mX2_timesFrom_26_L23 M (nI len) (nI r)) (fun x => (nI (1 + x), nI (r - x))) (a := 0) (N := r - lo) (r := nI (1 + (r - lo))) (by omega) (by omega) (fun x _ hx9' => ?_) ?_
    · exact this
    · simp only [mX2_timesFrom_26_L23]
      have ha := c_alike9 hT hx (show r - x ≤ n + 1 by omega)
      have hb := hx9_bd (T := T) (n := n) (r := r - x)
      have hl := l3 (r - x) (by omega) (by omega)
      rw [← hx9_le (T := T) (show r - x ≤ n by omega)] at hl
      simp (disch := omega) only [Option.bind_some, if_true, if_false, Sum.elim_inl, Sum.elim_inr, li0, li1, li2, li3, li4, li5, li6, li7, li8, li9, li10, li12, li16, li20, li24, li25, li31, li32, li40, li41, li42, li48, li57, li59, li97, li104, li105, li124, li126, li240, li241, nI_add, nI_subc, nI_subm, nI_mulc, nI_nm, pu_r, pu_t, pu_a, pu_le_t, pu_le_f, pu_lt_t, pu_lt_f, pu_eq_t, pu_eq_f, nm_eq, nm_eq2, nm_lt, nm_lt2, nm_le, nm_le2, nm_ss, nm_sp, pu_ss, pu_snq, pu_neq, eq_self, and_true, true_and, and_false, false_and, or_true, true_or, or_false, false_or, not_true_eq_false, not_false_eq_true, ha, show 1 + x + 1 = 1 + (x + 1) by omega, show r - x - 1 = r - (x + 1) by omega]
    · simp only [mX2_timesFrom_26_L23]
      rw [show r - (r - lo) = lo by omega]
      have ha := c_alike9 hT hx (show lo ≤ n + 1 by omega)
      by_cases c : lo = 0
      · simp (disch := omega) only [Option.bind_some, if_true, if_false, Sum.elim_inl, Sum.elim_inr, li0, li1, li2, li3, li4, li5, li6, li7, li8, li9, li10, li12, li16, li20, li24, li25, li31, li32, li40, li41, li42, li48, li57, li59, li97, li104, li105, li124, li126, li240, li241, nI_add, nI_subc, nI_subm, nI_mulc, nI_nm, pu_r, pu_t, pu_a, pu_le_t, pu_le_f, pu_lt_t, pu_lt_f, pu_eq_t, pu_eq_f, nm_eq, nm_eq2, nm_lt, nm_lt2, nm_le, nm_le2, nm_ss, nm_sp, pu_ss, pu_snq, pu_neq, eq_self, and_true, true_and, and_false, false_and, or_true, true_or, or_false, false_or, not_true_eq_false, not_false_eq_true, c]
      · simp (disch := omega) only [Option.bind_some, if_true, if_false, Sum.elim_inl, Sum.elim_inr, li0, li1, li2, li3, li4, li5, li6, li7, li8, li9, li10, li12, li16, li20, li24, li25, li31, li32, li40, li41, li42, li48, li57, li59, li97, li104, li105, li124, li126, li240, li241, nI_add, nI_subc, nI_subm, nI_mulc, nI_nm, pu_r, pu_t, pu_a, pu_le_t, pu_le_f, pu_lt_t, pu_lt_f, pu_eq_t, pu_eq_f, nm_eq, nm_eq2, nm_lt, nm_lt2, nm_le, nm_le2, nm_ss, nm_sp, pu_ss, pu_snq, pu_neq, eq_self, and_true, true_and, and_false, false_and, or_true, true_or, or_false, false_or, not_true_eq_false, not_false_eq_true, ha]
  have e2 : me_l (mX2_timesFrom_26_L52 M (nI len)) me_fu (nI (1 + (r - lo)), nI (r + 1)) = some (nI (hi - lo)) := by
    have := lp_to (b := mX2_timesFrom_26_L52 M (nI len)) (fun x => (nI (x - lo), nI x)) (a := r + 1) (N := hi) (r := nI (hi - lo)) (by omega) (by omega) (fun x hx1 hx2 => ?_) ?_
    · rw [show r + 1 - lo = 1 + (r - lo) by omega] at this
      exact this
    · simp only [mX2_timesFrom_26_L52]
      have ha := c_alike9 hT hx (show x ≤ n + 1 by omega)
      have hb := hx9_bd (T := T) (n := n) (r := x)
      have hl := k4 x (by omega) (by omega)
      rw [← hx9_le (T := T) (show x ≤ n by omega)] at hl
      simp (disch := omega) only [Option.bind_some, if_true, if_false, Sum.elim_inl, Sum.elim_inr, li0, li1, li2, li3, li4, li5, li6, li7, li8, li9, li10, li12, li16, li20, li24, li25, li31, li32, li40, li41, li42, li48, li57, li59, li97, li104, li105, li124, li126, li240, li241, nI_add, nI_subc, nI_subm, nI_mulc, nI_nm, pu_r, pu_t, pu_a, pu_le_t, pu_le_f, pu_lt_t, pu_lt_f, pu_eq_t, pu_eq_f, nm_eq, nm_eq2, nm_lt, nm_lt2, nm_le, nm_le2, nm_ss, nm_sp, pu_ss, pu_snq, pu_neq, eq_self, and_true, true_and, and_false, false_and, or_true, true_or, or_false, false_or, not_true_eq_false, not_false_eq_true, c1, ha, show x - lo + 1 = x + 1 - lo by omega]
    · simp only [mX2_timesFrom_26_L52]
      have ha := c_alike9 hT hx k2
      by_cases c : n < hi
      · simp (disch := omega) only [Option.bind_some, if_true, if_false, Sum.elim_inl, Sum.elim_inr, li0, li1, li2, li3, li4, li5, li6, li7, li8, li9, li10, li12, li16, li20, li24, li25, li31, li32, li40, li41, li42, li48, li57, li59, li97, li104, li105, li124, li126, li240, li241, nI_add, nI_subc, nI_subm, nI_mulc, nI_nm, pu_r, pu_t, pu_a, pu_le_t, pu_le_f, pu_lt_t, pu_lt_f, pu_eq_t, pu_eq_f, nm_eq, nm_eq2, nm_lt, nm_lt2, nm_le, nm_le2, nm_ss, nm_sp, pu_ss, pu_snq, pu_neq, eq_self, and_true, true_and, and_false, false_and, or_true, true_or, or_false, false_or, not_true_eq_false, not_false_eq_true, c1]
      · simp (disch := omega) only [Option.bind_some, if_true, if_false, Sum.elim_inl, Sum.elim_inr, li0, li1, li2, li3, li4, li5, li6, li7, li8, li9, li10, li12, li16, li20, li24, li25, li31, li32, li40, li41, li42, li48, li57, li59, li97, li104, li105, li124, li126, li240, li241, nI_add, nI_subc, nI_subm, nI_mulc, nI_nm, pu_r, pu_t, pu_a, pu_le_t, pu_le_f, pu_lt_t, pu_lt_f, pu_eq_t, pu_eq_f, nm_eq, nm_eq2, nm_lt, nm_lt2, nm_le, nm_le2, nm_ss, nm_sp, pu_ss, pu_snq, pu_neq, eq_self, and_true, true_and, and_false, false_and, or_true, true_or, or_false, false_or, not_true_eq_false, not_false_eq_true, c1, ha]
  rw [htm]
  unfold mX2_timesFrom_26
  simp (disch := omega) only [Option.bind_some, if_true, if_false, Sum.elim_inl, Sum.elim_inr, li0, li1, li2, li3, li4, li5, li6, li7, li8, li9, li10, li12, li16, li20, li24, li25, li31, li32, li40, li41, li42, li48, li57, li59, li97, li104, li105, li124, li126, li240, li241, nI_add, nI_subc, nI_subm, nI_mulc, nI_nm, pu_r, pu_t, pu_a, pu_le_t, pu_le_f, pu_lt_t, pu_lt_f, pu_eq_t, pu_eq_f, nm_eq, nm_eq2, nm_lt, nm_lt2, nm_le, nm_le2, nm_ss, nm_sp, pu_ss, pu_snq, pu_neq, eq_self, and_true, true_and, and_false, false_and, or_true, true_or, or_false, false_or, not_true_eq_false, not_false_eq_true, h11, e1, e2]
theorem qr_repeat {T : Nat → Nat} {n m : Nat} {W X : Nat → Nat} {t : Nat} {F : Nat → Nat} {S P : Nat} {D : Nat → Nat → Nat → Nat} {M : me_M} (h : Inv M) (ha : vA T n m W X t F S P D M) (a0 : Int32) (hb0 : iB a0 (nI 0) (nI 2) = true) : aQ (hL_repeat M a0) (fun M1 => mX12_repeat_63 M1 a0) := by
  have hT := ha.1.1
  have hn := hT.2.2.2
  have hx := ha.1.2.1
  have c1 := hx.1.1.1
  obtain ⟨j, -, hj, rfl⟩ := iB_n hb0 (by omega) (by omega)
  have hj3 : j = 0 ∨ j = 1 ∨ j = 2 := by omega
  have hbx : ∀ x, mx (hx9 T n) x ≤ n := fun x => mx_le (fun i _ => hx9_bd)
  have hlo : mX2_longest_26 M = some (nI (mx (tw T n) n)) := by
    have hl : me_l (mX2_longest_26_L4 M) me_fu (nI 0, nI 1) = some (nI (mx (hx9 T n) (n + 1))) := by
      have e0 : mx (hx9 T n) 1 = 0 := by
        rw [mx_s, hx9_le (Nat.zero_le _)]; rfl
      have := lp_to (b := mX2_longest_26_L4 M) (fun x => (nI (mx (hx9 T n) x), nI x)) (a := 1) (N := n + 1) (r := nI (mx (hx9 T n) (n + 1))) (by omega) (by omega) (fun x _ hx9' => ?_) ?_
      · rw [e0] at this; exact this
      · simp only [mX2_longest_26_L4]
        have ha := c_alike9 hT hx (show x ≤ n + 1 by omega)
        have hb := hx9_bd (T := T) (n := n) (r := x)
        have hb2 := hbx x
        simp (disch := omega) only [Option.bind_some, if_true, if_false, Sum.elim_inl, Sum.elim_inr, li0, li1, li2, li3, li4, li5, li6, li7, li8, li9, li10, li12, li16, li20, li24, li25, li31, li32, li40, li41, li42, li48, li57, li59, li97, li104, li105, li124, li126, li240, li241, nI_add, nI_subc, nI_subm, nI_mulc, nI_nm, pu_r, pu_t, pu_a, pu_le_t, pu_le_f, pu_lt_t, pu_lt_f, pu_eq_t, pu_eq_f, nm_eq, nm_eq2, nm_lt, nm_lt2, nm_le, nm_le2, nm_ss, nm_sp, pu_ss, pu_snq, pu_neq, eq_self, and_true, true_and, and_false, false_and, or_true, true_or, or_false, false_or, not_true_eq_false, not_false_eq_true, c1, ha, c_max, mx_s]
      · simp only [mX2_longest_26_L4]
        simp (disch := omega) only [Option.bind_some, if_true, if_false, Sum.elim_inl, Sum.elim_inr, li0, li1, li2, li3, li4, li5, li6, li7, li8, li9, li10, li12, li16, li20, li24, li25, li31, li32, li40, li41, li42, li48, li57, li59, li97, li104, li105, li124, li126, li240, li241, nI_add, nI_subc, nI_subm, nI_mulc, nI_nm, pu_r, pu_t, pu_a, pu_le_t, pu_le_f, pu_lt_t, pu_lt_f, pu_eq_t, pu_eq_f, nm_eq, nm_eq2, nm_lt, nm_lt2, nm_le, nm_le2, nm_ss, nm_sp, pu_ss, pu_snq, pu_neq, eq_self, and_true, true_and, and_false, false_and, or_true, true_or, or_false, false_or, not_true_eq_false, not_false_eq_true, c1]
    rw [longest_eq hT.1] at hl
    unfold mX2_longest_26
    simp (disch := omega) only [Option.bind_some, if_true, if_false, Sum.elim_inl, Sum.elim_inr, li0, li1, li2, li3, li4, li5, li6, li7, li8, li9, li10, li12, li16, li20, li24, li25, li31, li32, li40, li41, li42, li48, li57, li59, li97, li104, li105, li124, li126, li240, li241, nI_add, nI_subc, nI_subm, nI_mulc, nI_nm, pu_r, pu_t, pu_a, pu_le_t, pu_le_f, pu_lt_t, pu_lt_f, pu_eq_t, pu_eq_f, nm_eq, nm_eq2, nm_lt, nm_lt2, nm_le, nm_le2, nm_ss, nm_sp, pu_ss, pu_snq, pu_neq, eq_self, and_true, true_and, and_false, false_and, or_true, true_or, or_false, false_or, not_true_eq_false, not_false_eq_true, hl]
  have hbt : ∀ x, x ≤ n → mx (tw T n) x ≤ n := fun x hx => mx_le (fun i hi => tw_bd hT.1 (by omega))
  have hrl : ∀ M0, vA T n m W X t F S P D M0 → me_l (mX12_repeat_63_L37 M0 (nI j)) me_fu (nI 0, -nI 1, nI 0) = some (nI (mx (tw T n) n), dn (fi (tw T n) n)) := fun M0 h0 => by
    have hM := h0.1.2.2.1.1
    refine lp_to (fun x => (nI (mx (tw T n) x), dn (fi (tw T n) x), nI x)) (a := 0) (N := n) (by omega) (by omega) (fun x _ hx => ?_) ?_
    · simp only [mX12_repeat_63_L37, mX12_repeat_63_J69, mx_s, fi]
      have hb := hbt x (by omega)
      have hb2 := tw_bd hT.1 (show x ≤ n by omega)
      by_cases c : mx (tw T n) x < tw T n x
      · simp (disch := omega) only [Option.bind_some, if_true, if_false, Sum.elim_inl, Sum.elim_inr, li0, li1, li2, li3, li4, li5, li6, li7, li8, li9, li10, li12, li16, li20, li24, li25, li31, li32, li40, li41, li42, li48, li57, li59, li97, li104, li105, li124, li126, li240, li241, nI_add, nI_subc, nI_subm, nI_mulc, nI_nm, pu_r, pu_t, pu_a, pu_le_t, pu_le_f, pu_lt_t, pu_lt_f, pu_eq_t, pu_eq_f, nm_eq, nm_eq2, nm_lt, nm_lt2, nm_le, nm_le2, nm_ss, nm_sp, pu_ss, pu_snq, pu_neq, eq_self, and_true, true_and, and_false, false_and, or_true, true_or, or_false, false_or, not_true_eq_false, not_false_eq_true, hM.1, r_twice hT hM, if_pos c, Nat.max_eq_right (Nat.le_of_lt c), dn_s]
      · simp (disch := omega) only [Option.bind_some, if_true, if_false, Sum.elim_inl, Sum.elim_inr, li0, li1, li2, li3, li4, li5, li6, li7, li8, li9, li10, li12, li16, li20, li24, li25, li31, li32, li40, li41, li42, li48, li57, li59, li97, li104, li105, li124, li126, li240, li241, nI_add, nI_subc, nI_subm, nI_mulc, nI_nm, pu_r, pu_t, pu_a, pu_le_t, pu_le_f, pu_lt_t, pu_lt_f, pu_eq_t, pu_eq_f, nm_eq, nm_eq2, nm_lt, nm_lt2, nm_le, nm_le2, nm_ss, nm_sp, pu_ss, pu_snq, pu_neq, eq_self, and_true, true_and, and_false, false_and, or_true, true_or, or_false, false_or, not_true_eq_false, not_false_eq_true, hM.1, r_twice hT hM, if_neg c, Nat.max_eq_left (show tw T n x ≤ mx (tw T n) x by omega)]
    · simp only [mX12_repeat_63_L37]
      simp (disch := omega) only [Option.bind_some, if_true, if_false, Sum.elim_inl, Sum.elim_inr, li0, li1, li2, li3, li4, li5, li6, li7, li8, li9, li10, li12, li16, li20, li24, li25, li31, li32, li40, li41, li42, li48, li57, li59, li97, li104, li105, li124, li126, li240, li241, nI_add, nI_subc, nI_subm, nI_mulc, nI_nm, pu_r, pu_t, pu_a, pu_le_t, pu_le_f, pu_lt_t, pu_lt_f, pu_eq_t, pu_eq_f, nm_eq, nm_eq2, nm_lt, nm_lt2, nm_le, nm_le2, nm_ss, nm_sp, pu_ss, pu_snq, pu_neq, eq_self, and_true, true_and, and_false, false_and, or_true, true_or, or_false, false_or, not_true_eq_false, not_false_eq_true, hM.1]
  have hbn := hbt n (Nat.le_refl _)
  obtain ⟨f1, f2⟩ := fi_ok (g := tw T n) n
  rcases Nat.eq_zero_or_pos (mx (tw T n) n) with z | z
  · have z2 := f1 z
    have key : ∀ v, (j = 1 → v = -nI 1) → (j ≠ 1 → v = nI 0) → aQ (hL_repeat M (nI j)) (fun M1 => mX12_repeat_63 M1 (nI j)) := fun v k0 k1 => by
      refine aQ.p (v := v) (G := fun M0 => nX12_repeat M0 (nI j)) (fun M1 => zX12_repeat M1 _) h ha ?_ (fun M0 h0 hz hf => ?_)
      · rcases hj3 with rfl | rfl | rfl
        · simp (disch := omega) only [↓reduceIte, ↓needEb, ↓needAb, ↓needSb, ↓needE0l, ↓needE1l, ↓needA0l, ↓needA1l, ↓needS0l, ↓needS1l, ↓bnd c_isWhat, ↓bnd c_isSide, ↓bnd c_isLetter, ↓bnd c_isLength, ↓bnd c_isOften, ↓bnd r_in, ↓bnd r_isLetter, bI_t, bI_f, Bool.false_eq_true, Option.bind_none, Option.none_or, Option.some_or, xAN, xNA, xSA, Option.bind_some, if_true, if_false, Sum.elim_inl, Sum.elim_inr, li0, li1, li2, li3, li4, li5, li6, li7, li8, li9, li10, li12, li16, li20, li24, li25, li31, li32, li40, li41, li42, li48, li57, li59, li97, li104, li105, li124, li126, li240, li241, nI_add, nI_subc, nI_subm, nI_mulc, nI_nm, pu_r, pu_t, pu_a, pu_le_t, pu_le_f, pu_lt_t, pu_lt_f, pu_eq_t, pu_eq_f, nm_eq, nm_eq2, nm_lt, nm_lt2, nm_le, nm_le2, nm_ss, nm_sp, pu_ss, pu_snq, pu_neq, eq_self, and_true, true_and, and_false, false_and, or_true, true_or, or_false, false_or, not_true_eq_false, not_false_eq_true, hL_repeat, mX11_repeat_0, hb0, hlo, z, k1 (by decide)]
        · simp (disch := omega) only [↓reduceIte, ↓needEb, ↓needAb, ↓needSb, ↓needE0l, ↓needE1l, ↓needA0l, ↓needA1l, ↓needS0l, ↓needS1l, ↓bnd c_isWhat, ↓bnd c_isSide, ↓bnd c_isLetter, ↓bnd c_isLength, ↓bnd c_isOften, ↓bnd r_in, ↓bnd r_isLetter, bI_t, bI_f, Bool.false_eq_true, Option.bind_none, Option.none_or, Option.some_or, xAN, xNA, xSA, Option.bind_some, if_true, if_false, Sum.elim_inl, Sum.elim_inr, li0, li1, li2, li3, li4, li5, li6, li7, li8, li9, li10, li12, li16, li20, li24, li25, li31, li32, li40, li41, li42, li48, li57, li59, li97, li104, li105, li124, li126, li240, li241, nI_add, nI_subc, nI_subm, nI_mulc, nI_nm, pu_r, pu_t, pu_a, pu_le_t, pu_le_f, pu_lt_t, pu_lt_f, pu_eq_t, pu_eq_f, nm_eq, nm_eq2, nm_lt, nm_lt2, nm_le, nm_le2, nm_ss, nm_sp, pu_ss, pu_snq, pu_neq, eq_self, and_true, true_and, and_false, false_and, or_true, true_or, or_false, false_or, not_true_eq_false, not_false_eq_true, hL_repeat, mX11_repeat_0, hb0, hlo, z, k0 rfl]
        · simp (disch := omega) only [↓reduceIte, ↓needEb, ↓needAb, ↓needSb, ↓needE0l, ↓needE1l, ↓needA0l, ↓needA1l, ↓needS0l, ↓needS1l, ↓bnd c_isWhat, ↓bnd c_isSide, ↓bnd c_isLetter, ↓bnd c_isLength, ↓bnd c_isOften, ↓bnd r_in, ↓bnd r_isLetter, bI_t, bI_f, Bool.false_eq_true, Option.bind_none, Option.none_or, Option.some_or, xAN, xNA, xSA, Option.bind_some, if_true, if_false, Sum.elim_inl, Sum.elim_inr, li0, li1, li2, li3, li4, li5, li6, li7, li8, li9, li10, li12, li16, li20, li24, li25, li31, li32, li40, li41, li42, li48, li57, li59, li97, li104, li105, li124, li126, li240, li241, nI_add, nI_subc, nI_subm, nI_mulc, nI_nm, pu_r, pu_t, pu_a, pu_le_t, pu_le_f, pu_lt_t, pu_lt_f, pu_eq_t, pu_eq_f, nm_eq, nm_eq2, nm_lt, nm_lt2, nm_le, nm_le2, nm_ss, nm_sp, pu_ss, pu_snq, pu_neq, eq_self, and_true, true_and, and_false, false_and, or_true, true_or, or_false, false_or, not_true_eq_false, not_false_eq_true, hL_repeat, mX11_repeat_0, hb0, hlo, z, k1 (by decide)]
      · have r := hrl M0 h0
        rcases hj3 with rfl | rfl | rfl
        · simp (disch := omega) only [↓reduceIte, ↓needEb, ↓needAb, ↓needSb, ↓needE0l, ↓needE1l, ↓needA0l, ↓needA1l, ↓needS0l, ↓needS1l, ↓bnd c_isWhat, ↓bnd c_isSide, ↓bnd c_isLetter, ↓bnd c_isLength, ↓bnd c_isOften, ↓bnd r_in, ↓bnd r_isLetter, bI_t, bI_f, Bool.false_eq_true, Option.bind_none, Option.none_or, Option.some_or, xAN, xNA, xSA, Option.bind_some, if_true, if_false, Sum.elim_inl, Sum.elim_inr, li0, li1, li2, li3, li4, li5, li6, li7, li8, li9, li10, li12, li16, li20, li24, li25, li31, li32, li40, li41, li42, li48, li57, li59, li97, li104, li105, li124, li126, li240, li241, nI_add, nI_subc, nI_subm, nI_mulc, nI_nm, pu_r, pu_t, pu_a, pu_le_t, pu_le_f, pu_lt_t, pu_lt_f, pu_eq_t, pu_eq_f, nm_eq, nm_eq2, nm_lt, nm_lt2, nm_le, nm_le2, nm_ss, nm_sp, pu_ss, pu_snq, pu_neq, eq_self, and_true, true_and, and_false, false_and, or_true, true_or, or_false, false_or, not_true_eq_false, not_false_eq_true, nX12_repeat, mX12_repeat_63_J20, hb0, ↓bnd (r_bad0l hz), r, z, z2, dn_0, k1 (by decide)]
        · simp (disch := omega) only [↓reduceIte, ↓needEb, ↓needAb, ↓needSb, ↓needE0l, ↓needE1l, ↓needA0l, ↓needA1l, ↓needS0l, ↓needS1l, ↓bnd c_isWhat, ↓bnd c_isSide, ↓bnd c_isLetter, ↓bnd c_isLength, ↓bnd c_isOften, ↓bnd r_in, ↓bnd r_isLetter, bI_t, bI_f, Bool.false_eq_true, Option.bind_none, Option.none_or, Option.some_or, xAN, xNA, xSA, Option.bind_some, if_true, if_false, Sum.elim_inl, Sum.elim_inr, li0, li1, li2, li3, li4, li5, li6, li7, li8, li9, li10, li12, li16, li20, li24, li25, li31, li32, li40, li41, li42, li48, li57, li59, li97, li104, li105, li124, li126, li240, li241, nI_add, nI_subc, nI_subm, nI_mulc, nI_nm, pu_r, pu_t, pu_a, pu_le_t, pu_le_f, pu_lt_t, pu_lt_f, pu_eq_t, pu_eq_f, nm_eq, nm_eq2, nm_lt, nm_lt2, nm_le, nm_le2, nm_ss, nm_sp, pu_ss, pu_snq, pu_neq, eq_self, and_true, true_and, and_false, false_and, or_true, true_or, or_false, false_or, not_true_eq_false, not_false_eq_true, nX12_repeat, mX12_repeat_63_J20, hb0, ↓bnd (r_bad0l hz), r, z, z2, dn_0, k0 rfl]
        · simp (disch := omega) only [↓reduceIte, ↓needEb, ↓needAb, ↓needSb, ↓needE0l, ↓needE1l, ↓needA0l, ↓needA1l, ↓needS0l, ↓needS1l, ↓bnd c_isWhat, ↓bnd c_isSide, ↓bnd c_isLetter, ↓bnd c_isLength, ↓bnd c_isOften, ↓bnd r_in, ↓bnd r_isLetter, bI_t, bI_f, Bool.false_eq_true, Option.bind_none, Option.none_or, Option.some_or, xAN, xNA, xSA, Option.bind_some, if_true, if_false, Sum.elim_inl, Sum.elim_inr, li0, li1, li2, li3, li4, li5, li6, li7, li8, li9, li10, li12, li16, li20, li24, li25, li31, li32, li40, li41, li42, li48, li57, li59, li97, li104, li105, li124, li126, li240, li241, nI_add, nI_subc, nI_subm, nI_mulc, nI_nm, pu_r, pu_t, pu_a, pu_le_t, pu_le_f, pu_lt_t, pu_lt_f, pu_eq_t, pu_eq_f, nm_eq, nm_eq2, nm_lt, nm_lt2, nm_le, nm_le2, nm_ss, nm_sp, pu_ss, pu_snq, pu_neq, eq_self, and_true, true_and, and_false, false_and, or_true, true_or, or_false, false_or, not_true_eq_false, not_false_eq_true, nX12_repeat, mX12_repeat_63_J20, hb0, ↓bnd (r_bad0l hz), r, z, z2, dn_0, k1 (by decide)]
    by_cases j1 : j = 1
    · exact key _ (fun _ => rfl) (fun q => absurd j1 q)
    · exact key _ (fun q => absurd q j1) (fun _ => rfl)
  · obtain ⟨q, q1, q2, q3, q4⟩ := f2 z
    have hfo : mX2_firstOfRepeat_26 M (nI (mx (tw T n) n)) = some (nI q) := by
      have hl : me_l (mX2_firstOfRepeat_26_L2 M (nI (mx (tw T n) n))) me_fu (nI 0) = some (.inr (nI q)) := by
        refine lp_to (fun x => nI x) (a := 0) (N := q) (by omega) (by omega) (fun x _ hx9' => ?_) ?_
        · simp only [mX2_firstOfRepeat_26_L2]
          have := q4 x hx9'
          simp (disch := omega) only [Option.bind_some, if_true, if_false, Sum.elim_inl, Sum.elim_inr, li0, li1, li2, li3, li4, li5, li6, li7, li8, li9, li10, li12, li16, li20, li24, li25, li31, li32, li40, li41, li42, li48, li57, li59, li97, li104, li105, li124, li126, li240, li241, nI_add, nI_subc, nI_subm, nI_mulc, nI_nm, pu_r, pu_t, pu_a, pu_le_t, pu_le_f, pu_lt_t, pu_lt_f, pu_eq_t, pu_eq_f, nm_eq, nm_eq2, nm_lt, nm_lt2, nm_le, nm_le2, nm_ss, nm_sp, pu_ss, pu_snq, pu_neq, eq_self, and_true, true_and, and_false, false_and, or_true, true_or, or_false, false_or, not_true_eq_false, not_false_eq_true, c1, c_shared hT hx]
        · simp only [mX2_firstOfRepeat_26_L2]
          have hb2 := tw_bd hT.1 (show q ≤ n by omega)
          simp (disch := omega) only [Option.bind_some, if_true, if_false, Sum.elim_inl, Sum.elim_inr, li0, li1, li2, li3, li4, li5, li6, li7, li8, li9, li10, li12, li16, li20, li24, li25, li31, li32, li40, li41, li42, li48, li57, li59, li97, li104, li105, li124, li126, li240, li241, nI_add, nI_subc, nI_subm, nI_mulc, nI_nm, pu_r, pu_t, pu_a, pu_le_t, pu_le_f, pu_lt_t, pu_lt_f, pu_eq_t, pu_eq_f, nm_eq, nm_eq2, nm_lt, nm_lt2, nm_le, nm_le2, nm_ss, nm_sp, pu_ss, pu_snq, pu_neq, eq_self, and_true, true_and, and_false, false_and, or_true, true_or, or_false, false_or, not_true_eq_false, not_false_eq_true, c1, c_shared hT hx, q3]
      unfold mX2_firstOfRepeat_26
      simp (disch := omega) only [Option.bind_some, if_true, if_false, Sum.elim_inl, Sum.elim_inr, li0, li1, li2, li3, li4, li5, li6, li7, li8, li9, li10, li12, li16, li20, li24, li25, li31, li32, li40, li41, li42, li48, li57, li59, li97, li104, li105, li124, li126, li240, li241, nI_add, nI_subc, nI_subm, nI_mulc, nI_nm, pu_r, pu_t, pu_a, pu_le_t, pu_le_f, pu_lt_t, pu_lt_f, pu_eq_t, pu_eq_f, nm_eq, nm_eq2, nm_lt, nm_lt2, nm_le, nm_le2, nm_ss, nm_sp, pu_ss, pu_snq, pu_neq, eq_self, and_true, true_and, and_false, false_and, or_true, true_or, or_false, false_or, not_true_eq_false, not_false_eq_true, hl]
    have htf := c_timesFrom hT hx q2 (show 1 ≤ mx (tw T n) n by omega) (by omega)
    have key : ∀ v, (j = 0 → v = nI (mx (tw T n) n)) → (j = 1 → v = nI q) → (j = 2 → v = nI (tm T n q (mx (tw T n) n))) → aQ (hL_repeat M (nI j)) (fun M1 => mX12_repeat_63 M1 (nI j)) := fun v k0 k1 k2 => by
      refine aQ.p (v := v) (G := fun M0 => nX12_repeat M0 (nI j)) (fun M1 => zX12_repeat M1 _) h ha ?_ (fun M0 h0 hz hf => ?_)
      · rcases hj3 with rfl | rfl | rfl
        · simp (disch := omega) only [↓reduceIte, ↓needEb, ↓needAb, ↓needSb, ↓needE0l, ↓needE1l, ↓needA0l, ↓needA1l, ↓needS0l, ↓needS1l, ↓bnd c_isWhat, ↓bnd c_isSide, ↓bnd c_isLetter, ↓bnd c_isLength, ↓bnd c_isOften, ↓bnd r_in, ↓bnd r_isLetter, bI_t, bI_f, Bool.false_eq_true, Option.bind_none, Option.none_or, Option.some_or, xAN, xNA, xSA, Option.bind_some, if_true, if_false, Sum.elim_inl, Sum.elim_inr, li0, li1, li2, li3, li4, li5, li6, li7, li8, li9, li10, li12, li16, li20, li24, li25, li31, li32, li40, li41, li42, li48, li57, li59, li97, li104, li105, li124, li126, li240, li241, nI_add, nI_subc, nI_subm, nI_mulc, nI_nm, pu_r, pu_t, pu_a, pu_le_t, pu_le_f, pu_lt_t, pu_lt_f, pu_eq_t, pu_eq_f, nm_eq, nm_eq2, nm_lt, nm_lt2, nm_le, nm_le2, nm_ss, nm_sp, pu_ss, pu_snq, pu_neq, eq_self, and_true, true_and, and_false, false_and, or_true, true_or, or_false, false_or, not_true_eq_false, not_false_eq_true, hL_repeat, mX11_repeat_0, hb0, hlo, hfo, k0 rfl]
        · simp (disch := omega) only [↓reduceIte, ↓needEb, ↓needAb, ↓needSb, ↓needE0l, ↓needE1l, ↓needA0l, ↓needA1l, ↓needS0l, ↓needS1l, ↓bnd c_isWhat, ↓bnd c_isSide, ↓bnd c_isLetter, ↓bnd c_isLength, ↓bnd c_isOften, ↓bnd r_in, ↓bnd r_isLetter, bI_t, bI_f, Bool.false_eq_true, Option.bind_none, Option.none_or, Option.some_or, xAN, xNA, xSA, Option.bind_some, if_true, if_false, Sum.elim_inl, Sum.elim_inr, li0, li1, li2, li3, li4, li5, li6, li7, li8, li9, li10, li12, li16, li20, li24, li25, li31, li32, li40, li41, li42, li48, li57, li59, li97, li104, li105, li124, li126, li240, li241, nI_add, nI_subc, nI_subm, nI_mulc, nI_nm, pu_r, pu_t, pu_a, pu_le_t, pu_le_f, pu_lt_t, pu_lt_f, pu_eq_t, pu_eq_f, nm_eq, nm_eq2, nm_lt, nm_lt2, nm_le, nm_le2, nm_ss, nm_sp, pu_ss, pu_snq, pu_neq, eq_self, and_true, true_and, and_false, false_and, or_true, true_or, or_false, false_or, not_true_eq_false, not_false_eq_true, hL_repeat, mX11_repeat_0, hb0, hlo, hfo, k1 rfl]
        · simp (disch := omega) only [↓reduceIte, ↓needEb, ↓needAb, ↓needSb, ↓needE0l, ↓needE1l, ↓needA0l, ↓needA1l, ↓needS0l, ↓needS1l, ↓bnd c_isWhat, ↓bnd c_isSide, ↓bnd c_isLetter, ↓bnd c_isLength, ↓bnd c_isOften, ↓bnd r_in, ↓bnd r_isLetter, bI_t, bI_f, Bool.false_eq_true, Option.bind_none, Option.none_or, Option.some_or, xAN, xNA, xSA, Option.bind_some, if_true, if_false, Sum.elim_inl, Sum.elim_inr, li0, li1, li2, li3, li4, li5, li6, li7, li8, li9, li10, li12, li16, li20, li24, li25, li31, li32, li40, li41, li42, li48, li57, li59, li97, li104, li105, li124, li126, li240, li241, nI_add, nI_subc, nI_subm, nI_mulc, nI_nm, pu_r, pu_t, pu_a, pu_le_t, pu_le_f, pu_lt_t, pu_lt_f, pu_eq_t, pu_eq_f, nm_eq, nm_eq2, nm_lt, nm_lt2, nm_le, nm_le2, nm_ss, nm_sp, pu_ss, pu_snq, pu_neq, eq_self, and_true, true_and, and_false, false_and, or_true, true_or, or_false, false_or, not_true_eq_false, not_false_eq_true, hL_repeat, mX11_repeat_0, hb0, hlo, hfo, htf, k2 rfl]
      · have r := hrl M0 h0
        rw [q1, dn_s] at r
        have r2 := r_times (p := q) (len := mx (tw T n) n) hT h0.1.2.2.1.1 (by omega) (by omega)
        rcases hj3 with rfl | rfl | rfl
        · simp (disch := omega) only [↓reduceIte, ↓needEb, ↓needAb, ↓needSb, ↓needE0l, ↓needE1l, ↓needA0l, ↓needA1l, ↓needS0l, ↓needS1l, ↓bnd c_isWhat, ↓bnd c_isSide, ↓bnd c_isLetter, ↓bnd c_isLength, ↓bnd c_isOften, ↓bnd r_in, ↓bnd r_isLetter, bI_t, bI_f, Bool.false_eq_true, Option.bind_none, Option.none_or, Option.some_or, xAN, xNA, xSA, Option.bind_some, if_true, if_false, Sum.elim_inl, Sum.elim_inr, li0, li1, li2, li3, li4, li5, li6, li7, li8, li9, li10, li12, li16, li20, li24, li25, li31, li32, li40, li41, li42, li48, li57, li59, li97, li104, li105, li124, li126, li240, li241, nI_add, nI_subc, nI_subm, nI_mulc, nI_nm, pu_r, pu_t, pu_a, pu_le_t, pu_le_f, pu_lt_t, pu_lt_f, pu_eq_t, pu_eq_f, nm_eq, nm_eq2, nm_lt, nm_lt2, nm_le, nm_le2, nm_ss, nm_sp, pu_ss, pu_snq, pu_neq, eq_self, and_true, true_and, and_false, false_and, or_true, true_or, or_false, false_or, not_true_eq_false, not_false_eq_true, nX12_repeat, mX12_repeat_63_J20, hb0, ↓bnd (r_bad0l hz), r, k0 rfl]
        · simp (disch := omega) only [↓reduceIte, ↓needEb, ↓needAb, ↓needSb, ↓needE0l, ↓needE1l, ↓needA0l, ↓needA1l, ↓needS0l, ↓needS1l, ↓bnd c_isWhat, ↓bnd c_isSide, ↓bnd c_isLetter, ↓bnd c_isLength, ↓bnd c_isOften, ↓bnd r_in, ↓bnd r_isLetter, bI_t, bI_f, Bool.false_eq_true, Option.bind_none, Option.none_or, Option.some_or, xAN, xNA, xSA, Option.bind_some, if_true, if_false, Sum.elim_inl, Sum.elim_inr, li0, li1, li2, li3, li4, li5, li6, li7, li8, li9, li10, li12, li16, li20, li24, li25, li31, li32, li40, li41, li42, li48, li57, li59, li97, li104, li105, li124, li126, li240, li241, nI_add, nI_subc, nI_subm, nI_mulc, nI_nm, pu_r, pu_t, pu_a, pu_le_t, pu_le_f, pu_lt_t, pu_lt_f, pu_eq_t, pu_eq_f, nm_eq, nm_eq2, nm_lt, nm_lt2, nm_le, nm_le2, nm_ss, nm_sp, pu_ss, pu_snq, pu_neq, eq_self, and_true, true_and, and_false, false_and, or_true, true_or, or_false, false_or, not_true_eq_false, not_false_eq_true, nX12_repeat, mX12_repeat_63_J20, hb0, ↓bnd (r_bad0l hz), r, k1 rfl]
        · simp (disch := omega) only [↓reduceIte, ↓needEb, ↓needAb, ↓needSb, ↓needE0l, ↓needE1l, ↓needA0l, ↓needA1l, ↓needS0l, ↓needS1l, ↓bnd c_isWhat, ↓bnd c_isSide, ↓bnd c_isLetter, ↓bnd c_isLength, ↓bnd c_isOften, ↓bnd r_in, ↓bnd r_isLetter, bI_t, bI_f, Bool.false_eq_true, Option.bind_none, Option.none_or, Option.some_or, xAN, xNA, xSA, Option.bind_some, if_true, if_false, Sum.elim_inl, Sum.elim_inr, li0, li1, li2, li3, li4, li5, li6, li7, li8, li9, li10, li12, li16, li20, li24, li25, li31, li32, li40, li41, li42, li48, li57, li59, li97, li104, li105, li124, li126, li240, li241, nI_add, nI_subc, nI_subm, nI_mulc, nI_nm, pu_r, pu_t, pu_a, pu_le_t, pu_le_f, pu_lt_t, pu_lt_f, pu_eq_t, pu_eq_f, nm_eq, nm_eq2, nm_lt, nm_lt2, nm_le, nm_le2, nm_ss, nm_sp, pu_ss, pu_snq, pu_neq, eq_self, and_true, true_and, and_false, false_and, or_true, true_or, or_false, false_or, not_true_eq_false, not_false_eq_true, nX12_repeat, mX12_repeat_63_J20, hb0, ↓bnd (r_bad0l hz), r, r2, k2 rfl]
    by_cases j0 : j = 0
    · exact key _ (fun _ => rfl) (fun z => absurd z (by omega)) (fun z => absurd z (by omega))
    · by_cases j1 : j = 1
      · exact key _ (fun z => absurd z (by omega)) (fun _ => rfl) (fun z => absurd z (by omega))
      · exact key _ (fun z => absurd z (by omega)) (fun z => absurd z (by omega)) (fun _ => rfl)
theorem q_repeat {M : me_M} (h : Inv M) (a0 : Int32) : aQ (hL_repeat M a0) (fun M1 => mX12_repeat_63 M1 a0) := by
  obtain ⟨T, n, m, W, X, t, F, S, P, D, ha⟩ := h.vA
  have hT := ha.1.1
  have hx := ha.1.2.1
  have c1 := hx.1.1.1
  have hn := hT.2.2.2
  have h9 := hT.2.1
  have hp1 := ha.2.2.1.2.1
  have ht := ha.2.2.1.1
  have hm4 := ha.2.1.1.2.2.1
  have hm40 := ha.2.1.1.1
  cases hb0 : iB a0 (nI 0) (nI 2) with
  | false =>
    refine aQ.t 1 1 (G := fun M0 => nX12_repeat M0 a0) (fun M1 => zX12_repeat M1 a0) h ha (by omega) (by omega) (by omega) ?_ (fun M0 h0 hz hf => ?_)
    · simp (disch := omega) only [↓reduceIte, ↓needEb, ↓needAb, ↓needSb, ↓needE0l, ↓needE1l, ↓needA0l, ↓needA1l, ↓needS0l, ↓needS1l, ↓bnd c_isWhat, ↓bnd c_isSide, ↓bnd c_isLetter, ↓bnd c_isLength, ↓bnd c_isOften, ↓bnd r_in, ↓bnd r_isLetter, bI_t, bI_f, Bool.false_eq_true, Option.bind_none, Option.none_or, Option.some_or, xAN, xNA, xSA, Option.bind_some, if_true, if_false, Sum.elim_inl, Sum.elim_inr, li0, li1, li2, li3, li4, li5, li6, li7, li8, li9, li10, li12, li16, li20, li24, li25, li31, li32, li40, li41, li42, li48, li57, li59, li97, li104, li105, li124, li126, li240, li241, nI_add, nI_subc, nI_subm, nI_mulc, nI_nm, pu_r, pu_t, pu_a, pu_le_t, pu_le_f, pu_lt_t, pu_lt_f, pu_eq_t, pu_eq_f, nm_eq, nm_eq2, nm_lt, nm_lt2, nm_le, nm_le2, nm_ss, nm_sp, pu_ss, pu_snq, pu_neq, eq_self, and_true, true_and, and_false, false_and, or_true, true_or, or_false, false_or, not_true_eq_false, not_false_eq_true, mX11_repeat_0, tX11_repeat_0, hL_repeat, hb0]
    · simp (disch := omega) only [↓reduceIte, ↓needEb, ↓needAb, ↓needSb, ↓needE0l, ↓needE1l, ↓needA0l, ↓needA1l, ↓needS0l, ↓needS1l, ↓bnd c_isWhat, ↓bnd c_isSide, ↓bnd c_isLetter, ↓bnd c_isLength, ↓bnd c_isOften, ↓bnd r_in, ↓bnd r_isLetter, bI_t, bI_f, Bool.false_eq_true, Option.bind_none, Option.none_or, Option.some_or, xAN, xNA, xSA, Option.bind_some, if_true, if_false, Sum.elim_inl, Sum.elim_inr, li0, li1, li2, li3, li4, li5, li6, li7, li8, li9, li10, li12, li16, li20, li24, li25, li31, li32, li40, li41, li42, li48, li57, li59, li97, li104, li105, li124, li126, li240, li241, nI_add, nI_subc, nI_subm, nI_mulc, nI_nm, pu_r, pu_t, pu_a, pu_le_t, pu_le_f, pu_lt_t, pu_lt_f, pu_eq_t, pu_eq_f, nm_eq, nm_eq2, nm_lt, nm_lt2, nm_le, nm_le2, nm_ss, nm_sp, pu_ss, pu_snq, pu_neq, eq_self, and_true, true_and, and_false, false_and, or_true, true_or, or_false, false_or, not_true_eq_false, not_false_eq_true, nX12_repeat, mX12_repeat_63_J69, mX12_repeat_63_J20, hb0, ↓bnd (r_bad0l hz), ↓bnd (r_bad10 hz), ↓bnd (r_bad11 hz), ↓bnd (r_bad21 hz), ↓bnd (r_bad22 hz)]
  | true =>
    exact qr_repeat h ha a0 hb0
