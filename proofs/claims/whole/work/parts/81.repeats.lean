/-! ===== calls: strings, repeat, unique, around ===== -/
theorem c_alike9 {T : Nat → Nat} {n r : Nat} {M : me_M} (hT : tx9 T n) (hx : cx T n M) (hr : r ≤ n + 1) : mX2_lettersAlike_26 M (nI r) = some (nI (hx9 T n r)) := by
  have hn := hT.2.2.2
  have c1 := hx.1.1.1
  unfold mX2_lettersAlike_26
  by_cases c : r = 0
  · subst c
    have e : hx9 T n 0 = 0 := by rw [hx9_le (by omega)]; rfl
    simp (disch := omega) only [Option.bind_some, if_true, if_false, Sum.elim_inl, Sum.elim_inr, li0, li1, li2, li3, li4, li5, li6, li7, li8, li9, li10, li12, li16, li20, li24, li25, li31, li32, li40, li41, li42, li48, li57, li59, li97, li104, li105, li124, li126, li240, li241, nI_add, nI_subc, nI_subm, nI_mulc, nI_nm, pu_r, pu_t, pu_a, pu_le_t, pu_le_f, pu_lt_t, pu_lt_f, pu_eq_t, pu_eq_f, nm_eq, nm_eq2, nm_lt, nm_lt2, nm_le, nm_le2, nm_ss, nm_sp, pu_ss, pu_snq, pu_neq, eq_self, and_true, true_and, and_false, false_and, or_true, true_or, or_false, false_or, not_true_eq_false, not_false_eq_true, e]
  · by_cases d : r ≤ n
    · obtain ⟨p1, p2⟩ := pa_ok (r := r) hT.1 d
      obtain ⟨q1, q2⟩ := pa_ok (r := r - 1) hT.1 (by omega)
      have h12 := hx.2.1.2.2.1.2 _ _ p1 q1 (by rw [p2, q2]; omega)
      rw [p2] at h12
      have h10 := rk_pl hT.1 hx.2.1.2.1 d
      have h6 := hx.1.2.2.1 _ p1
      have hl := lc_le (T := T) p1 q1
      have hf := lf_le (T := T) (n := n) (pa T n r)
      have e : hx9 T n r = min (lc T n (pa T n r) (pa T n (r - 1))) (lf T n (pa T n r)) := by
        rw [hx9_le d]; unfold hd; rw [if_neg c]; rfl
      simp (disch := omega) only [Option.bind_some, if_true, if_false, Sum.elim_inl, Sum.elim_inr, li0, li1, li2, li3, li4, li5, li6, li7, li8, li9, li10, li12, li16, li20, li24, li25, li31, li32, li40, li41, li42, li48, li57, li59, li97, li104, li105, li124, li126, li240, li241, nI_add, nI_subc, nI_subm, nI_mulc, nI_nm, pu_r, pu_t, pu_a, pu_le_t, pu_le_f, pu_lt_t, pu_lt_f, pu_eq_t, pu_eq_f, nm_eq, nm_eq2, nm_lt, nm_lt2, nm_le, nm_le2, nm_ss, nm_sp, pu_ss, pu_snq, pu_neq, eq_self, and_true, true_and, and_false, false_and, or_true, true_or, or_false, false_or, not_true_eq_false, not_false_eq_true, c1, h12, h10, h6, c_min, e]
    · have e : hx9 T n r = 0 := if_neg d
      simp (disch := omega) only [Option.bind_some, if_true, if_false, Sum.elim_inl, Sum.elim_inr, li0, li1, li2, li3, li4, li5, li6, li7, li8, li9, li10, li12, li16, li20, li24, li25, li31, li32, li40, li41, li42, li48, li57, li59, li97, li104, li105, li124, li126, li240, li241, nI_add, nI_subc, nI_subm, nI_mulc, nI_nm, pu_r, pu_t, pu_a, pu_le_t, pu_le_f, pu_lt_t, pu_lt_f, pu_eq_t, pu_eq_f, nm_eq, nm_eq2, nm_lt, nm_lt2, nm_le, nm_le2, nm_ss, nm_sp, pu_ss, pu_snq, pu_neq, eq_self, and_true, true_and, and_false, false_and, or_true, true_or, or_false, false_or, not_true_eq_false, not_false_eq_true, c1, e]
theorem tw_bd {T : Nat → Nat} {n p : Nat} (hT : tx_ok T n) (hp : p ≤ n) : tw T n p ≤ n := by
  rw [tw_rows hT hp]
  have := hx9_bd (T := T) (n := n) (r := rk T n p)
  have := hx9_bd (T := T) (n := n) (r := rk T n p + 1)
  omega
theorem c_shared {T : Nat → Nat} {n p : Nat} {M : me_M} (hT : tx9 T n) (hx : cx T n M) (hp : p ≤ n) : mX2_lettersShared_26 M (nI p) = some (nI (tw T n p)) := by
  have hn := hT.2.2.2
  have h11 := (hx.2.1.2.1 p hp).2
  have hr := rk_lt (T := T) hp
  have b1 := hx9_bd (T := T) (n := n) (r := rk T n p)
  have b2 := hx9_bd (T := T) (n := n) (r := rk T n p + 1)
  rw [tw_rows hT.1 hp]
  unfold mX2_lettersShared_26
  simp (disch := omega) only [Option.bind_some, if_true, if_false, Sum.elim_inl, Sum.elim_inr, li0, li1, li2, li3, li4, li5, li6, li7, li8, li9, li10, li12, li16, li20, li24, li25, li31, li32, li40, li41, li42, li48, li57, li59, li97, li104, li105, li124, li126, li240, li241, nI_add, nI_subc, nI_subm, nI_mulc, nI_nm, pu_r, pu_t, pu_a, pu_le_t, pu_le_f, pu_lt_t, pu_lt_f, pu_eq_t, pu_eq_f, nm_eq, nm_eq2, nm_lt, nm_lt2, nm_le, nm_le2, nm_ss, nm_sp, pu_ss, pu_snq, pu_neq, eq_self, and_true, true_and, and_false, false_and, or_true, true_or, or_false, false_or, not_true_eq_false, not_false_eq_true, h11, c_alike9 hT hx, c_max]
/-- the fewest letters that stand nowhere else, 1 more; 0: none -/
def uq (T : Nat → Nat) (n p : Nat) : Nat := if tw T n p + 1 ≤ lf T n p then tw T n p + 2 else 0
theorem c_alone {T : Nat → Nat} {n p : Nat} {M : me_M} (hT : tx9 T n) (hx : cx T n M) (hp : p ≤ n) : mX2_lettersAlone_26 M (nI p) = some (dn (uq T n p)) := by
  have hn := hT.2.2.2
  have h6 := hx.1.2.2.1 p hp
  have hb := tw_bd hT.1 hp
  have hf := lf_le (T := T) (n := n) p
  unfold mX2_lettersAlone_26 uq
  by_cases c : tw T n p + 1 ≤ lf T n p
  · rw [if_pos c, dn_s]
    simp (disch := omega) only [Option.bind_some, if_true, if_false, Sum.elim_inl, Sum.elim_inr, li0, li1, li2, li3, li4, li5, li6, li7, li8, li9, li10, li12, li16, li20, li24, li25, li31, li32, li40, li41, li42, li48, li57, li59, li97, li104, li105, li124, li126, li240, li241, nI_add, nI_subc, nI_subm, nI_mulc, nI_nm, pu_r, pu_t, pu_a, pu_le_t, pu_le_f, pu_lt_t, pu_lt_f, pu_eq_t, pu_eq_f, nm_eq, nm_eq2, nm_lt, nm_lt2, nm_le, nm_le2, nm_ss, nm_sp, pu_ss, pu_snq, pu_neq, eq_self, and_true, true_and, and_false, false_and, or_true, true_or, or_false, false_or, not_true_eq_false, not_false_eq_true, c_shared hT hx, h6]
  · rw [if_neg c, dn_0]
    simp (disch := omega) only [Option.bind_some, if_true, if_false, Sum.elim_inl, Sum.elim_inr, li0, li1, li2, li3, li4, li5, li6, li7, li8, li9, li10, li12, li16, li20, li24, li25, li31, li32, li40, li41, li42, li48, li57, li59, li97, li104, li105, li124, li126, li240, li241, nI_add, nI_subc, nI_subm, nI_mulc, nI_nm, pu_r, pu_t, pu_a, pu_le_t, pu_le_f, pu_lt_t, pu_lt_f, pu_eq_t, pu_eq_f, nm_eq, nm_eq2, nm_lt, nm_lt2, nm_le, nm_le2, nm_ss, nm_sp, pu_ss, pu_snq, pu_neq, eq_self, and_true, true_and, and_false, false_and, or_true, true_or, or_false, false_or, not_true_eq_false, not_false_eq_true, c_shared hT hx, h6]
theorem r_twice {T : Nat → Nat} {n p : Nat} {M : me_M} (hT : tx9 T n) (hM : rx T n M) (hp : p ≤ n) : mX12_twice_63 M (nI p) = some (nI (tw T n p)) := by
  have hn := hT.2.2.2
  have h3 := hM.1
  have hl : me_l (mX12_twice_63_L4 M (nI p)) me_fu (nI 0, nI 0) = some (nI (tw T n p)) := by
    refine lp_to (fun x => (nI (mx (fun q => if q = p then 0 else lk T n p q) x), nI x)) (a := 0) (N := n) (by omega) (by omega) (fun x _ hx => ?_) ?_
    · simp only [mX12_twice_63_L4, mX12_twice_63_J28]
      have hb : mx (fun q => if q = p then 0 else lk T n p q) x ≤ n := mx_le (fun i hi => by
        split
        · omega
        · have := lk_le (T := T) (n := n) (p := p) (q := i); omega)
      have hk := lk_le (T := T) (n := n) (p := p) (q := x)
      rw [mx_s]
      by_cases c : x = p
      · simp (disch := omega) only [Option.bind_some, if_true, if_false, Sum.elim_inl, Sum.elim_inr, li0, li1, li2, li3, li4, li5, li6, li7, li8, li9, li10, li12, li16, li20, li24, li25, li31, li32, li40, li41, li42, li48, li57, li59, li97, li104, li105, li124, li126, li240, li241, nI_add, nI_subc, nI_subm, nI_mulc, nI_nm, pu_r, pu_t, pu_a, pu_le_t, pu_le_f, pu_lt_t, pu_lt_f, pu_eq_t, pu_eq_f, nm_eq, nm_eq2, nm_lt, nm_lt2, nm_le, nm_le2, nm_ss, nm_sp, pu_ss, pu_snq, pu_neq, eq_self, and_true, true_and, and_false, false_and, or_true, true_or, or_false, false_or, not_true_eq_false, not_false_eq_true, h3, if_pos c, c, Nat.max_eq_left (Nat.zero_le _)]
      · simp (disch := omega) only [Option.bind_some, if_true, if_false, Sum.elim_inl, Sum.elim_inr, li0, li1, li2, li3, li4, li5, li6, li7, li8, li9, li10, li12, li16, li20, li24, li25, li31, li32, li40, li41, li42, li48, li57, li59, li97, li104, li105, li124, li126, li240, li241, nI_add, nI_subc, nI_subm, nI_mulc, nI_nm, pu_r, pu_t, pu_a, pu_le_t, pu_le_f, pu_lt_t, pu_lt_f, pu_eq_t, pu_eq_f, nm_eq, nm_eq2, nm_lt, nm_lt2, nm_le, nm_le2, nm_ss, nm_sp, pu_ss, pu_snq, pu_neq, eq_self, and_true, true_and, and_false, false_and, or_true, true_or, or_false, false_or, not_true_eq_false, not_false_eq_true, h3, r_like hT hM, r_more, if_neg c]
    · simp only [mX12_twice_63_L4]
      simp (disch := omega) only [Option.bind_some, if_true, if_false, Sum.elim_inl, Sum.elim_inr, li0, li1, li2, li3, li4, li5, li6, li7, li8, li9, li10, li12, li16, li20, li24, li25, li31, li32, li40, li41, li42, li48, li57, li59, li97, li104, li105, li124, li126, li240, li241, nI_add, nI_subc, nI_subm, nI_mulc, nI_nm, pu_r, pu_t, pu_a, pu_le_t, pu_le_f, pu_lt_t, pu_lt_f, pu_eq_t, pu_eq_f, nm_eq, nm_eq2, nm_lt, nm_lt2, nm_le, nm_le2, nm_ss, nm_sp, pu_ss, pu_snq, pu_neq, eq_self, and_true, true_and, and_false, false_and, or_true, true_or, or_false, false_or, not_true_eq_false, not_false_eq_true, h3, tw]
  unfold mX12_twice_63
  simp (disch := omega) only [Option.bind_some, if_true, if_false, Sum.elim_inl, Sum.elim_inr, li0, li1, li2, li3, li4, li5, li6, li7, li8, li9, li10, li12, li16, li20, li24, li25, li31, li32, li40, li41, li42, li48, li57, li59, li97, li104, li105, li124, li126, li240, li241, nI_add, nI_subc, nI_subm, nI_mulc, nI_nm, pu_r, pu_t, pu_a, pu_le_t, pu_le_f, pu_lt_t, pu_lt_f, pu_eq_t, pu_eq_f, nm_eq, nm_eq2, nm_lt, nm_lt2, nm_le, nm_le2, nm_ss, nm_sp, pu_ss, pu_snq, pu_neq, eq_self, and_true, true_and, and_false, false_and, or_true, true_or, or_false, false_or, not_true_eq_false, not_false_eq_true, hl]
theorem r_times {T : Nat → Nat} {n p len : Nat} {M : me_M} (hT : tx9 T n) (hM : rx T n M) (hp : p ≤ n) (hlen : len < 1000) : mX12_times_63 M (nI p) (nI len) = some (nI (tm T n p len)) := by
  have hn := hT.2.2.2
  have h3 := hM.1
  have hl : me_l (mX12_times_63_L5 M (nI p) (nI len)) me_fu (nI 0, nI 0) = some (nI (tm T n p len)) := by
    refine lp_to (fun x => (nI (ct (fun q => decide (q = p) || decide (len ≤ lk T n p q)) x), nI x)) (a := 0) (N := n) (by omega) (by omega) (fun x _ hx => ?_) ?_
    · simp only [mX12_times_63_L5, mX12_times_63_J37, mX12_times_63_J32]
      have hk := lk_le (T := T) (n := n) (p := p) (q := x)
      rw [ct_s]
      by_cases c : x = p
      · simp (disch := omega) only [Option.bind_some, if_true, if_false, Sum.elim_inl, Sum.elim_inr, li0, li1, li2, li3, li4, li5, li6, li7, li8, li9, li10, li12, li16, li20, li24, li25, li31, li32, li40, li41, li42, li48, li57, li59, li97, li104, li105, li124, li126, li240, li241, nI_add, nI_subc, nI_subm, nI_mulc, nI_nm, pu_r, pu_t, pu_a, pu_le_t, pu_le_f, pu_lt_t, pu_lt_f, pu_eq_t, pu_eq_f, nm_eq, nm_eq2, nm_lt, nm_lt2, nm_le, nm_le2, nm_ss, nm_sp, pu_ss, pu_snq, pu_neq, eq_self, and_true, true_and, and_false, false_and, or_true, true_or, or_false, false_or, not_true_eq_false, not_false_eq_true, h3, decide_eq_true c, Bool.true_or]
      · by_cases d : len ≤ lk T n p x
        · simp (disch := omega) only [Option.bind_some, if_true, if_false, Sum.elim_inl, Sum.elim_inr, li0, li1, li2, li3, li4, li5, li6, li7, li8, li9, li10, li12, li16, li20, li24, li25, li31, li32, li40, li41, li42, li48, li57, li59, li97, li104, li105, li124, li126, li240, li241, nI_add, nI_subc, nI_subm, nI_mulc, nI_nm, pu_r, pu_t, pu_a, pu_le_t, pu_le_f, pu_lt_t, pu_lt_f, pu_eq_t, pu_eq_f, nm_eq, nm_eq2, nm_lt, nm_lt2, nm_le, nm_le2, nm_ss, nm_sp, pu_ss, pu_snq, pu_neq, eq_self, and_true, true_and, and_false, false_and, or_true, true_or, or_false, false_or, not_true_eq_false, not_false_eq_true, h3, r_like hT hM, decide_eq_false c, decide_eq_true d, Bool.false_or]
        · simp (disch := omega) only [Option.bind_some, if_true, if_false, Sum.elim_inl, Sum.elim_inr, li0, li1, li2, li3, li4, li5, li6, li7, li8, li9, li10, li12, li16, li20, li24, li25, li31, li32, li40, li41, li42, li48, li57, li59, li97, li104, li105, li124, li126, li240, li241, nI_add, nI_subc, nI_subm, nI_mulc, nI_nm, pu_r, pu_t, pu_a, pu_le_t, pu_le_f, pu_lt_t, pu_lt_f, pu_eq_t, pu_eq_f, nm_eq, nm_eq2, nm_lt, nm_lt2, nm_le, nm_le2, nm_ss, nm_sp, pu_ss, pu_snq, pu_neq, eq_self, and_true, true_and, and_false, false_and, or_true, true_or, or_false, false_or, not_true_eq_false, not_false_eq_true, h3, r_like hT hM, decide_eq_false c, decide_eq_false d, Bool.false_or, Bool.false_eq_true, Nat.add_zero]
    · simp only [mX12_times_63_L5]
      simp (disch := omega) only [Option.bind_some, if_true, if_false, Sum.elim_inl, Sum.elim_inr, li0, li1, li2, li3, li4, li5, li6, li7, li8, li9, li10, li12, li16, li20, li24, li25, li31, li32, li40, li41, li42, li48, li57, li59, li97, li104, li105, li124, li126, li240, li241, nI_add, nI_subc, nI_subm, nI_mulc, nI_nm, pu_r, pu_t, pu_a, pu_le_t, pu_le_f, pu_lt_t, pu_lt_f, pu_eq_t, pu_eq_f, nm_eq, nm_eq2, nm_lt, nm_lt2, nm_le, nm_le2, nm_ss, nm_sp, pu_ss, pu_snq, pu_neq, eq_self, and_true, true_and, and_false, false_and, or_true, true_or, or_false, false_or, not_true_eq_false, not_false_eq_true, h3, tm]
  unfold mX12_times_63
  simp (disch := omega) only [Option.bind_some, if_true, if_false, Sum.elim_inl, Sum.elim_inr, li0, li1, li2, li3, li4, li5, li6, li7, li8, li9, li10, li12, li16, li20, li24, li25, li31, li32, li40, li41, li42, li48, li57, li59, li97, li104, li105, li124, li126, li240, li241, nI_add, nI_subc, nI_subm, nI_mulc, nI_nm, pu_r, pu_t, pu_a, pu_le_t, pu_le_f, pu_lt_t, pu_lt_f, pu_eq_t, pu_eq_f, nm_eq, nm_eq2, nm_lt, nm_lt2, nm_le, nm_le2, nm_ss, nm_sp, pu_ss, pu_snq, pu_neq, eq_self, and_true, true_and, and_false, false_and, or_true, true_or, or_false, false_or, not_true_eq_false, not_false_eq_true, hl]
theorem r_uniqueOf {T : Nat → Nat} {n p : Nat} {M : me_M} (hT : tx9 T n) (hM : rx T n M) (hp : p ≤ n) : mX12_uniqueOf_63 M (nI p) = some (dn (uq T n p)) := by
  have hn := hT.2.2.2
  have h3 := hM.1
  have hb := tw_bd hT.1 hp
  have hf := lf_le (T := T) (n := n) p
  unfold mX12_uniqueOf_63 uq
  by_cases e : p = n
  · rw [if_neg (show ¬ tw T n p + 1 ≤ lf T n p by omega), dn_0]
    simp (disch := omega) only [Option.bind_some, if_true, if_false, Sum.elim_inl, Sum.elim_inr, li0, li1, li2, li3, li4, li5, li6, li7, li8, li9, li10, li12, li16, li20, li24, li25, li31, li32, li40, li41, li42, li48, li57, li59, li97, li104, li105, li124, li126, li240, li241, nI_add, nI_subc, nI_subm, nI_mulc, nI_nm, pu_r, pu_t, pu_a, pu_le_t, pu_le_f, pu_lt_t, pu_lt_f, pu_eq_t, pu_eq_f, nm_eq, nm_eq2, nm_lt, nm_lt2, nm_le, nm_le2, nm_ss, nm_sp, pu_ss, pu_snq, pu_neq, eq_self, and_true, true_and, and_false, false_and, or_true, true_or, or_false, false_or, not_true_eq_false, not_false_eq_true, h3]
  · by_cases c : tw T n p + 1 ≤ lf T n p
    · rw [if_pos c, dn_s]
      simp (disch := omega) only [Option.bind_some, if_true, if_false, Sum.elim_inl, Sum.elim_inr, li0, li1, li2, li3, li4, li5, li6, li7, li8, li9, li10, li12, li16, li20, li24, li25, li31, li32, li40, li41, li42, li48, li57, li59, li97, li104, li105, li124, li126, li240, li241, nI_add, nI_subc, nI_subm, nI_mulc, nI_nm, pu_r, pu_t, pu_a, pu_le_t, pu_le_f, pu_lt_t, pu_lt_f, pu_eq_t, pu_eq_f, nm_eq, nm_eq2, nm_lt, nm_lt2, nm_le, nm_le2, nm_ss, nm_sp, pu_ss, pu_snq, pu_neq, eq_self, and_true, true_and, and_false, false_and, or_true, true_or, or_false, false_or, not_true_eq_false, not_false_eq_true, h3, r_twice hT hM, r_run hT hM]
    · rw [if_neg c, dn_0]
      simp (disch := omega) only [Option.bind_some, if_true, if_false, Sum.elim_inl, Sum.elim_inr, li0, li1, li2, li3, li4, li5, li6, li7, li8, li9, li10, li12, li16, li20, li24, li25, li31, li32, li40, li41, li42, li48, li57, li59, li97, li104, li105, li124, li126, li240, li241, nI_add, nI_subc, nI_subm, nI_mulc, nI_nm, pu_r, pu_t, pu_a, pu_le_t, pu_le_f, pu_lt_t, pu_lt_f, pu_eq_t, pu_eq_f, nm_eq, nm_eq2, nm_lt, nm_lt2, nm_le, nm_le2, nm_ss, nm_sp, pu_ss, pu_snq, pu_neq, eq_self, and_true, true_and, and_false, false_and, or_true, true_or, or_false, false_or, not_true_eq_false, not_false_eq_true, h3, r_twice hT hM, r_run hT hM]
theorem qr_unique {T : Nat → Nat} {n m : Nat} {W X : Nat → Nat} {t : Nat} {F : Nat → Nat} {S P : Nat} {D : Nat → Nat → Nat → Nat} {M : me_M} (h : Inv M) (ha : vA T n m W X t F S P D M) (a0 : Int32) (hb0 : iB a0 (nI 0) (nI n) = true) : aQ (hL_unique M a0) (fun M1 => mX12_unique_63 M1 a0) := by
  have hT := ha.1.1
  have hn := hT.2.2.2
  have c1 := ha.1.2.1.1.1.1
  obtain ⟨p, -, hp, rfl⟩ := iB_n hb0 (by omega) (by omega)
  have e := c_alone hT ha.1.2.1 hp
  refine aQ.p (v := dn (uq T n p)) (G := fun M0 => nX12_unique M0 (nI p)) (fun M1 => zX12_unique M1 _) h ha ?_ (fun M0 h0 hz hf => ?_)
  · simp (disch := omega) only [↓reduceIte, ↓needEb, ↓needAb, ↓needSb, ↓needE0l, ↓needE1l, ↓needA0l, ↓needA1l, ↓needS0l, ↓needS1l, ↓bnd c_isWhat, ↓bnd c_isSide, ↓bnd c_isLetter, ↓bnd c_isLength, ↓bnd c_isOften, ↓bnd r_in, ↓bnd r_isLetter, bI_t, bI_f, Bool.false_eq_true, Option.bind_none, Option.none_or, Option.some_or, xAN, xNA, xSA, Option.bind_some, if_true, if_false, Sum.elim_inl, Sum.elim_inr, li0, li1, li2, li3, li4, li5, li6, li7, li8, li9, li10, li12, li16, li20, li24, li25, li31, li32, li40, li41, li42, li48, li57, li59, li97, li104, li105, li124, li126, li240, li241, nI_add, nI_subc, nI_subm, nI_mulc, nI_nm, pu_r, pu_t, pu_a, pu_le_t, pu_le_f, pu_lt_t, pu_lt_f, pu_eq_t, pu_eq_f, nm_eq, nm_eq2, nm_lt, nm_lt2, nm_le, nm_le2, nm_ss, nm_sp, pu_ss, pu_snq, pu_neq, eq_self, and_true, true_and, and_false, false_and, or_true, true_or, or_false, false_or, not_true_eq_false, not_false_eq_true, hL_unique, mX11_unique_0, ↓bnd (c_isPlace c1), hb0, e]
  · have r := r_uniqueOf hT h0.1.2.2.1.1 hp
    simp (disch := omega) only [↓reduceIte, ↓needEb, ↓needAb, ↓needSb, ↓needE0l, ↓needE1l, ↓needA0l, ↓needA1l, ↓needS0l, ↓needS1l, ↓bnd c_isWhat, ↓bnd c_isSide, ↓bnd c_isLetter, ↓bnd c_isLength, ↓bnd c_isOften, ↓bnd r_in, ↓bnd r_isLetter, bI_t, bI_f, Bool.false_eq_true, Option.bind_none, Option.none_or, Option.some_or, xAN, xNA, xSA, Option.bind_some, if_true, if_false, Sum.elim_inl, Sum.elim_inr, li0, li1, li2, li3, li4, li5, li6, li7, li8, li9, li10, li12, li16, li20, li24, li25, li31, li32, li40, li41, li42, li48, li57, li59, li97, li104, li105, li124, li126, li240, li241, nI_add, nI_subc, nI_subm, nI_mulc, nI_nm, pu_r, pu_t, pu_a, pu_le_t, pu_le_f, pu_lt_t, pu_lt_f, pu_eq_t, pu_eq_f, nm_eq, nm_eq2, nm_lt, nm_lt2, nm_le, nm_le2, nm_ss, nm_sp, pu_ss, pu_snq, pu_neq, eq_self, and_true, true_and, and_false, false_and, or_true, true_or, or_false, false_or, not_true_eq_false, not_false_eq_true, nX12_unique, mX12_unique_63_J19, ↓bnd (r_isPlace h0.1.2.2.1.1.1), hb0, ↓bnd (r_bad0l hz), r]
theorem q_unique {M : me_M} (h : Inv M) (a0 : Int32) : aQ (hL_unique M a0) (fun M1 => mX12_unique_63 M1 a0) := by
  obtain ⟨T, n, m, W, X, t, F, S, P, D, ha⟩ := h.vA
  have hT := ha.1.1
  have hx := ha.1.2.1
  have c1 := hx.1.1.1
  have hn := hT.2.2.2
  have h9 := hT.2.1
  have hp1 := ha.2.2.1.2.1
  have ht := ha.2.2.1.1
  have hm4 := ha.2.1.1.2.2.1
  have hm40 := ha.2.1.1.1
  cases hb0 : iB a0 (nI 0) (nI n) with
  | false =>
    refine aQ.t 0 1 (G := fun M0 => nX12_unique M0 a0) (fun M1 => zX12_unique M1 a0) h ha (by omega) (by omega) (by omega) ?_ (fun M0 h0 hz hf => ?_)
    · simp (disch := omega) only [↓reduceIte, ↓needEb, ↓needAb, ↓needSb, ↓needE0l, ↓needE1l, ↓needA0l, ↓needA1l, ↓needS0l, ↓needS1l, ↓bnd c_isWhat, ↓bnd c_isSide, ↓bnd c_isLetter, ↓bnd c_isLength, ↓bnd c_isOften, ↓bnd r_in, ↓bnd r_isLetter, bI_t, bI_f, Bool.false_eq_true, Option.bind_none, Option.none_or, Option.some_or, xAN, xNA, xSA, Option.bind_some, if_true, if_false, Sum.elim_inl, Sum.elim_inr, li0, li1, li2, li3, li4, li5, li6, li7, li8, li9, li10, li12, li16, li20, li24, li25, li31, li32, li40, li41, li42, li48, li57, li59, li97, li104, li105, li124, li126, li240, li241, nI_add, nI_subc, nI_subm, nI_mulc, nI_nm, pu_r, pu_t, pu_a, pu_le_t, pu_le_f, pu_lt_t, pu_lt_f, pu_eq_t, pu_eq_f, nm_eq, nm_eq2, nm_lt, nm_lt2, nm_le, nm_le2, nm_ss, nm_sp, pu_ss, pu_snq, pu_neq, eq_self, and_true, true_and, and_false, false_and, or_true, true_or, or_false, false_or, not_true_eq_false, not_false_eq_true, mX11_unique_0, tX11_unique_0, hL_unique, ↓bnd (c_isPlace c1), hb0]
    · simp (disch := omega) only [↓reduceIte, ↓needEb, ↓needAb, ↓needSb, ↓needE0l, ↓needE1l, ↓needA0l, ↓needA1l, ↓needS0l, ↓needS1l, ↓bnd c_isWhat, ↓bnd c_isSide, ↓bnd c_isLetter, ↓bnd c_isLength, ↓bnd c_isOften, ↓bnd r_in, ↓bnd r_isLetter, bI_t, bI_f, Bool.false_eq_true, Option.bind_none, Option.none_or, Option.some_or, xAN, xNA, xSA, Option.bind_some, if_true, if_false, Sum.elim_inl, Sum.elim_inr, li0, li1, li2, li3, li4, li5, li6, li7, li8, li9, li10, li12, li16, li20, li24, li25, li31, li32, li40, li41, li42, li48, li57, li59, li97, li104, li105, li124, li126, li240, li241, nI_add, nI_subc, nI_subm, nI_mulc, nI_nm, pu_r, pu_t, pu_a, pu_le_t, pu_le_f, pu_lt_t, pu_lt_f, pu_eq_t, pu_eq_f, nm_eq, nm_eq2, nm_lt, nm_lt2, nm_le, nm_le2, nm_ss, nm_sp, pu_ss, pu_snq, pu_neq, eq_self, and_true, true_and, and_false, false_and, or_true, true_or, or_false, false_or, not_true_eq_false, not_false_eq_true, nX12_unique, mX12_unique_63_J19, ↓bnd (r_isPlace h0.1.2.2.1.1.1), hb0, ↓bnd (r_bad0l hz), ↓bnd (r_bad10 hz), ↓bnd (r_bad11 hz), ↓bnd (r_bad21 hz), ↓bnd (r_bad22 hz)]
  | true =>
    exact qr_unique h ha a0 hb0
/-- the fewest letters from q on that reach over p and stand nowhere else, 1 more; 0: none -/
def ar (T : Nat → Nat) (n p q : Nat) : Nat := if uq T n q = 0 ∨ lf T n q < p - q + 1 then 0 else max (uq T n q - 1) (p - q + 1) + 1
/-- the best one that begins below x: its letters, where it begins, each 1 more; 0: none -/
def af (T : Nat → Nat) (n p : Nat) : Nat → Nat × Nat
  | 0 => (0, 0)
  | x + 1 => if ar T n p x = 0 then af T n p x else if (af T n p x).1 = 0 ∨ ar T n p x < (af T n p x).1 then (ar T n p x, x + 1) else af T n p x
theorem af_s (T : Nat → Nat) (n p x : Nat) : af T n p (x + 1) = if ar T n p x = 0 then af T n p x else if (af T n p x).1 = 0 ∨ ar T n p x < (af T n p x).1 then (ar T n p x, x + 1) else af T n p x := rfl
theorem uq_bd {T : Nat → Nat} {n p : Nat} : uq T n p ≤ n - p + 1 := by
  have hf := lf_le (T := T) (n := n) p
  unfold uq
  split <;> omega
theorem ar_bd {T : Nat → Nat} {n p q : Nat} (hn : n ≤ 240) : ar T n p q ≤ 241 := by
  have hf := lf_le (T := T) (n := n) q
  have := uq_bd (T := T) (n := n) (p := q)
  unfold ar
  split <;> omega
theorem af_ok {T : Nat → Nat} {n p : Nat} (hn : n ≤ 240) : ∀ x, (af T n p x).1 ≤ 241 ∧ (((af T n p x).1 = 0 ∧ (af T n p x).2 = 0) ∨ (0 < (af T n p x).1 ∧ 0 < (af T n p x).2 ∧ (af T n p x).2 ≤ x ∧ ar T n p ((af T n p x).2 - 1) = (af T n p x).1))
  | 0 => ⟨Nat.zero_le _, Or.inl ⟨rfl, rfl⟩⟩
  | x + 1 => by
    obtain ⟨h1, h2⟩ := af_ok (T := T) (p := p) hn x
    have hb := ar_bd (T := T) (p := p) (q := x) hn
    rw [af_s]
    by_cases c : ar T n p x = 0
    · rw [if_pos c]
      refine ⟨h1, ?_⟩
      rcases h2 with h2 | ⟨a, b, d, e⟩
      · exact Or.inl h2
      · exact Or.inr ⟨a, b, by omega, e⟩
    · rw [if_neg c]
      by_cases d : (af T n p x).1 = 0 ∨ ar T n p x < (af T n p x).1
      · rw [if_pos d]
        exact ⟨hb, Or.inr ⟨by show 0 < ar T n p x; omega, by show 0 < x + 1; omega, Nat.le_refl _, rfl⟩⟩
      · rw [if_neg d]
        refine ⟨h1, ?_⟩
        rcases h2 with h2 | ⟨a, b, d, e⟩
        · exact Or.inl h2
        · exact Or.inr ⟨a, b, by omega, e⟩
theorem c_around {T : Nat → Nat} {n p q : Nat} {M : me_M} (hT : tx9 T n) (hx : cx T n M) (hp : p ≤ n) (hq : q ≤ p) : mX2_lettersAround_26 M (nI q) (nI p) = some (dn (ar T n p q)) := by
  have hn := hT.2.2.2
  have h6 := hx.1.2.2.1 q (by omega)
  have hf := lf_le (T := T) (n := n) q
  have hu := uq_bd (T := T) (n := n) (p := q)
  have ha := c_alone hT hx (show q ≤ n by omega)
  unfold mX2_lettersAround_26 mX2_lettersAround_26_J32 ar
  rcases hu9 : uq T n q with _ | u
  · rw [hu9] at ha
    rw [if_pos (Or.inl rfl), dn_0]
    simp (disch := omega) only [Option.bind_some, if_true, if_false, Sum.elim_inl, Sum.elim_inr, li0, li1, li2, li3, li4, li5, li6, li7, li8, li9, li10, li12, li16, li20, li24, li25, li31, li32, li40, li41, li42, li48, li57, li59, li97, li104, li105, li124, li126, li240, li241, nI_add, nI_subc, nI_subm, nI_mulc, nI_nm, pu_r, pu_t, pu_a, pu_le_t, pu_le_f, pu_lt_t, pu_lt_f, pu_eq_t, pu_eq_f, nm_eq, nm_eq2, nm_lt, nm_lt2, nm_le, nm_le2, nm_ss, nm_sp, pu_ss, pu_snq, pu_neq, eq_self, and_true, true_and, and_false, false_and, or_true, true_or, or_false, false_or, not_true_eq_false, not_false_eq_true, ha, dn_0]
  · rw [hu9] at ha hu
    by_cases d : lf T n q < p - q + 1
    · rw [if_pos (Or.inr d), dn_0]
      simp (disch := omega) only [Option.bind_some, if_true, if_false, Sum.elim_inl, Sum.elim_inr, li0, li1, li2, li3, li4, li5, li6, li7, li8, li9, li10, li12, li16, li20, li24, li25, li31, li32, li40, li41, li42, li48, li57, li59, li97, li104, li105, li124, li126, li240, li241, nI_add, nI_subc, nI_subm, nI_mulc, nI_nm, pu_r, pu_t, pu_a, pu_le_t, pu_le_f, pu_lt_t, pu_lt_f, pu_eq_t, pu_eq_f, nm_eq, nm_eq2, nm_lt, nm_lt2, nm_le, nm_le2, nm_ss, nm_sp, pu_ss, pu_snq, pu_neq, eq_self, and_true, true_and, and_false, false_and, or_true, true_or, or_false, false_or, not_true_eq_false, not_false_eq_true, ha, dn_s, h6]
    · rw [if_neg (by omega), dn_s]
      simp (disch := omega) only [Option.bind_some, if_true, if_false, Sum.elim_inl, Sum.elim_inr, li0, li1, li2, li3, li4, li5, li6, li7, li8, li9, li10, li12, li16, li20, li24, li25, li31, li32, li40, li41, li42, li48, li57, li59, li97, li104, li105, li124, li126, li240, li241, nI_add, nI_subc, nI_subm, nI_mulc, nI_nm, pu_r, pu_t, pu_a, pu_le_t, pu_le_f, pu_lt_t, pu_lt_f, pu_eq_t, pu_eq_f, nm_eq, nm_eq2, nm_lt, nm_lt2, nm_le, nm_le2, nm_ss, nm_sp, pu_ss, pu_snq, pu_neq, eq_self, and_true, true_and, and_false, false_and, or_true, true_or, or_false, false_or, not_true_eq_false, not_false_eq_true, ha, dn_s, h6, c_max, Nat.add_sub_cancel]
theorem c_start {T : Nat → Nat} {n p : Nat} {M : me_M} (hT : tx9 T n) (hx : cx T n M) (hp : p ≤ n) : mX2_startAround_26 M (nI p) = some (dn (af T n p (p + 1)).2) := by
  have hn := hT.2.2.2
  have hl : me_l (mX2_startAround_26_L9 M (nI p)) me_fu (-nI 1, nI 241, nI 0) = some (dn (af T n p (p + 1)).2) := by
    refine lp_to (fun x => (dn (af T n p x).2, if (af T n p x).1 = 0 then nI 241 else nI ((af T n p x).1 - 1), nI x)) (a := 0) (N := p + 1) (by omega) (by omega) (fun x _ hx9 => ?_) ?_
    · simp only [mX2_startAround_26_L9, mX2_startAround_26_J42]
      have hr := c_around hT hx hp (show x ≤ p by omega)
      obtain ⟨a1, a2⟩ := af_ok (T := T) (p := p) hn x
      have hb := ar_bd (T := T) (p := p) (q := x) hn
      rw [af_s]
      rcases hg : ar T n p x with _ | g
      · rw [hg] at hr
        simp (disch := omega) only [Option.bind_some, if_true, if_false, Sum.elim_inl, Sum.elim_inr, li0, li1, li2, li3, li4, li5, li6, li7, li8, li9, li10, li12, li16, li20, li24, li25, li31, li32, li40, li41, li42, li48, li57, li59, li97, li104, li105, li124, li126, li240, li241, nI_add, nI_subc, nI_subm, nI_mulc, nI_nm, pu_r, pu_t, pu_a, pu_le_t, pu_le_f, pu_lt_t, pu_lt_f, pu_eq_t, pu_eq_f, nm_eq, nm_eq2, nm_lt, nm_lt2, nm_le, nm_le2, nm_ss, nm_sp, pu_ss, pu_snq, pu_neq, eq_self, and_true, true_and, and_false, false_and, or_true, true_or, or_false, false_or, not_true_eq_false, not_false_eq_true, hr, dn_0]
      · rw [hg] at hr hb
        have e1 : (g + 1 = 0) = False := eq_false (by omega)
        by_cases d : (af T n p x).1 = 0
        · have e2 : ((af T n p x).1 = 0 ∨ g + 1 < (af T n p x).1) = True := eq_true (Or.inl d)
          simp (disch := omega) only [Option.bind_some, if_true, if_false, Sum.elim_inl, Sum.elim_inr, li0, li1, li2, li3, li4, li5, li6, li7, li8, li9, li10, li12, li16, li20, li24, li25, li31, li32, li40, li41, li42, li48, li57, li59, li97, li104, li105, li124, li126, li240, li241, nI_add, nI_subc, nI_subm, nI_mulc, nI_nm, pu_r, pu_t, pu_a, pu_le_t, pu_le_f, pu_lt_t, pu_lt_f, pu_eq_t, pu_eq_f, nm_eq, nm_eq2, nm_lt, nm_lt2, nm_le, nm_le2, nm_ss, nm_sp, pu_ss, pu_snq, pu_neq, eq_self, and_true, true_and, and_false, false_and, or_true, true_or, or_false, false_or, not_true_eq_false, not_false_eq_true, hr, dn_s, e1, e2, if_pos d, Nat.add_sub_cancel]
        · by_cases f : g + 1 < (af T n p x).1
          · have e2 : ((af T n p x).1 = 0 ∨ g + 1 < (af T n p x).1) = True := eq_true (Or.inr f)
            simp (disch := omega) only [Option.bind_some, if_true, if_false, Sum.elim_inl, Sum.elim_inr, li0, li1, li2, li3, li4, li5, li6, li7, li8, li9, li10, li12, li16, li20, li24, li25, li31, li32, li40, li41, li42, li48, li57, li59, li97, li104, li105, li124, li126, li240, li241, nI_add, nI_subc, nI_subm, nI_mulc, nI_nm, pu_r, pu_t, pu_a, pu_le_t, pu_le_f, pu_lt_t, pu_lt_f, pu_eq_t, pu_eq_f, nm_eq, nm_eq2, nm_lt, nm_lt2, nm_le, nm_le2, nm_ss, nm_sp, pu_ss, pu_snq, pu_neq, eq_self, and_true, true_and, and_false, false_and, or_true, true_or, or_false, false_or, not_true_eq_false, not_false_eq_true, hr, dn_s, e1, e2, if_neg d, Nat.add_sub_cancel]
          · have e2 : ((af T n p x).1 = 0 ∨ g + 1 < (af T n p x).1) = False := eq_false (by omega)
            simp (disch := omega) only [Option.bind_some, if_true, if_false, Sum.elim_inl, Sum.elim_inr, li0, li1, li2, li3, li4, li5, li6, li7, li8, li9, li10, li12, li16, li20, li24, li25, li31, li32, li40, li41, li42, li48, li57, li59, li97, li104, li105, li124, li126, li240, li241, nI_add, nI_subc, nI_subm, nI_mulc, nI_nm, pu_r, pu_t, pu_a, pu_le_t, pu_le_f, pu_lt_t, pu_lt_f, pu_eq_t, pu_eq_f, nm_eq, nm_eq2, nm_lt, nm_lt2, nm_le, nm_le2, nm_ss, nm_sp, pu_ss, pu_snq, pu_neq, eq_self, and_true, true_and, and_false, false_and, or_true, true_or, or_false, false_or, not_true_eq_false, not_false_eq_true, hr, dn_s, e1, e2, if_neg d]
    · simp only [mX2_startAround_26_L9]
      simp (disch := omega) only [Option.bind_some, if_true, if_false, Sum.elim_inl, Sum.elim_inr, li0, li1, li2, li3, li4, li5, li6, li7, li8, li9, li10, li12, li16, li20, li24, li25, li31, li32, li40, li41, li42, li48, li57, li59, li97, li104, li105, li124, li126, li240, li241, nI_add, nI_subc, nI_subm, nI_mulc, nI_nm, pu_r, pu_t, pu_a, pu_le_t, pu_le_f, pu_lt_t, pu_lt_f, pu_eq_t, pu_eq_f, nm_eq, nm_eq2, nm_lt, nm_lt2, nm_le, nm_le2, nm_ss, nm_sp, pu_ss, pu_snq, pu_neq, eq_self, and_true, true_and, and_false, false_and, or_true, true_or, or_false, false_or, not_true_eq_false, not_false_eq_true]
  unfold mX2_startAround_26
  simp (disch := omega) only [Option.bind_some, if_true, if_false, Sum.elim_inl, Sum.elim_inr, li0, li1, li2, li3, li4, li5, li6, li7, li8, li9, li10, li12, li16, li20, li24, li25, li31, li32, li40, li41, li42, li48, li57, li59, li97, li104, li105, li124, li126, li240, li241, nI_add, nI_subc, nI_subm, nI_mulc, nI_nm, pu_r, pu_t, pu_a, pu_le_t, pu_le_f, pu_lt_t, pu_lt_f, pu_eq_t, pu_eq_f, nm_eq, nm_eq2, nm_lt, nm_lt2, nm_le, nm_le2, nm_ss, nm_sp, pu_ss, pu_snq, pu_neq, eq_self, and_true, true_and, and_false, false_and, or_true, true_or, or_false, false_or, not_true_eq_false, not_false_eq_true, hl]
theorem lf_in {T : Nat → Nat} {n : Nat} : ∀ d q, d < lf T n q → q + d < n ∧ T (q + d) ≠ 1
  | 0, q, h => by
    by_cases c : q < n
    · rw [lf_rec c] at h
      by_cases e : T q = 1
      · rw [if_pos e] at h; omega
      · exact ⟨c, e⟩
    · rw [lf_end (by omega)] at h; omega
  | d + 1, q, h => by
    by_cases c : q < n
    · rw [lf_rec c] at h
      by_cases e : T q = 1
      · rw [if_pos e] at h; omega
      · rw [if_neg e] at h
        have := lf_in (T := T) (n := n) d (q + 1) (by omega)
        rw [show q + (d + 1) = q + 1 + d by omega]
        exact this
    · rw [lf_end (by omega)] at h; omega
theorem ar_0 {T : Nat → Nat} {n p q : Nat} (hq : q ≤ p) (h : n ≤ p ∨ T p = 1) : ar T n p q = 0 := by
  unfold ar
  refine if_pos (Or.inr ?_)
  by_cases c : p - q < lf T n q
  · have := lf_in _ _ c
    rw [show q + (p - q) = p by omega] at this
    omega
  · omega
theorem af_0 {T : Nat → Nat} {n p : Nat} (h : n ≤ p ∨ T p = 1) : ∀ x, x ≤ p + 1 → af T n p x = (0, 0)
  | 0, _ => rfl
  | x + 1, hx => by rw [af_s, ar_0 (by omega) h, if_pos rfl]; exact af_0 h x (by omega)
theorem r_aroundL {T : Nat → Nat} {n p : Nat} {M : me_M} {p1 : Int32} (hT : tx9 T n) (hM : rx T n M) (hp : p ≤ n) : me_l (mX12_around_63_L60 M (nI p) p1) me_fu (-nI 1, -nI 1, nI 0) = some (dn (af T n p (p + 1)).1, dn (af T n p (p + 1)).2) := by
  have hn := hT.2.2.2
  have h3 := hM.1
  have h67 := hM.2 p hp
  have hTp := hT.2.1 p
  by_cases hz : n ≤ p ∨ T p = 1
  · rw [af_0 hz _ (Nat.le_refl _)]
    refine lp_to (fun _ => (-nI 1, -nI 1, nI 0)) (a := 0) (N := 0) (by omega) (by omega) (fun x _ hx => absurd hx (by omega)) ?_
    simp only [mX12_around_63_L60]
    by_cases c : n ≤ p
    · simp (disch := omega) only [Option.bind_some, if_true, if_false, Sum.elim_inl, Sum.elim_inr, li0, li1, li2, li3, li4, li5, li6, li7, li8, li9, li10, li12, li16, li20, li24, li25, li31, li32, li40, li41, li42, li48, li57, li59, li97, li104, li105, li124, li126, li240, li241, nI_add, nI_subc, nI_subm, nI_mulc, nI_nm, pu_r, pu_t, pu_a, pu_le_t, pu_le_f, pu_lt_t, pu_lt_f, pu_eq_t, pu_eq_f, nm_eq, nm_eq2, nm_lt, nm_lt2, nm_le, nm_le2, nm_ss, nm_sp, pu_ss, pu_snq, pu_neq, eq_self, and_true, true_and, and_false, false_and, or_true, true_or, or_false, false_or, not_true_eq_false, not_false_eq_true, h3, dn_0]
    · simp (disch := omega) only [Option.bind_some, if_true, if_false, Sum.elim_inl, Sum.elim_inr, li0, li1, li2, li3, li4, li5, li6, li7, li8, li9, li10, li12, li16, li20, li24, li25, li31, li32, li40, li41, li42, li48, li57, li59, li97, li104, li105, li124, li126, li240, li241, nI_add, nI_subc, nI_subm, nI_mulc, nI_nm, pu_r, pu_t, pu_a, pu_le_t, pu_le_f, pu_lt_t, pu_lt_f, pu_eq_t, pu_eq_f, nm_eq, nm_eq2, nm_lt, nm_lt2, nm_le, nm_le2, nm_ss, nm_sp, pu_ss, pu_snq, pu_neq, eq_self, and_true, true_and, and_false, false_and, or_true, true_or, or_false, false_or, not_true_eq_false, not_false_eq_true, h3, h67, dn_0]
  · refine lp_to (fun x => (dn (af T n p x).1, dn (af T n p x).2, nI x)) (a := 0) (N := p + 1) (by omega) (by omega) (fun x _ hx9 => ?_) ?_
    · simp only [mX12_around_63_L60, mX12_around_63_J152, mX12_around_63_J145]
      have hu := r_uniqueOf hT hM (show x ≤ n by omega)
      have hr := r_run hT hM (show x ≤ n by omega)
      obtain ⟨a1, a2⟩ := af_ok (T := T) (p := p) hn x
      have hb := ar_bd (T := T) (p := p) (q := x) hn
      have hub := uq_bd (T := T) (n := n) (p := x)
      have hf := lf_le (T := T) (n := n) x
      rw [af_s]
      rcases hu9 : uq T n x with _ | u
      · have e : ar T n p x = 0 := by unfold ar; exact if_pos (Or.inl hu9)
        rw [hu9] at hu
        simp (disch := omega) only [Option.bind_some, if_true, if_false, Sum.elim_inl, Sum.elim_inr, li0, li1, li2, li3, li4, li5, li6, li7, li8, li9, li10, li12, li16, li20, li24, li25, li31, li32, li40, li41, li42, li48, li57, li59, li97, li104, li105, li124, li126, li240, li241, nI_add, nI_subc, nI_subm, nI_mulc, nI_nm, pu_r, pu_t, pu_a, pu_le_t, pu_le_f, pu_lt_t, pu_lt_f, pu_eq_t, pu_eq_f, nm_eq, nm_eq2, nm_lt, nm_lt2, nm_le, nm_le2, nm_ss, nm_sp, pu_ss, pu_snq, pu_neq, eq_self, and_true, true_and, and_false, false_and, or_true, true_or, or_false, false_or, not_true_eq_false, not_false_eq_true, h3, h67, hu, dn_0, e]
      · rw [hu9] at hu hub
        by_cases d : lf T n x < p - x + 1
        · have e : ar T n p x = 0 := by unfold ar; exact if_pos (Or.inr d)
          simp (disch := omega) only [Option.bind_some, if_true, if_false, Sum.elim_inl, Sum.elim_inr, li0, li1, li2, li3, li4, li5, li6, li7, li8, li9, li10, li12, li16, li20, li24, li25, li31, li32, li40, li41, li42, li48, li57, li59, li97, li104, li105, li124, li126, li240, li241, nI_add, nI_subc, nI_subm, nI_mulc, nI_nm, pu_r, pu_t, pu_a, pu_le_t, pu_le_f, pu_lt_t, pu_lt_f, pu_eq_t, pu_eq_f, nm_eq, nm_eq2, nm_lt, nm_lt2, nm_le, nm_le2, nm_ss, nm_sp, pu_ss, pu_snq, pu_neq, eq_self, and_true, true_and, and_false, false_and, or_true, true_or, or_false, false_or, not_true_eq_false, not_false_eq_true, h3, h67, hu, dn_s, hr, e]
        · have e : ar T n p x = max u (p - x + 1) + 1 := by unfold ar; rw [if_neg (by omega), hu9]; rfl
          rw [e] at hb
          have e1 : (max u (p - x + 1) + 1 = 0) = False := eq_false (by omega)
          rcases hg : (af T n p x).1 with _ | g
          · rw [hg] at a2
            have e2 : ((0 : Nat) = 0 ∨ max u (p - x + 1) + 1 < 0) = True := eq_true (Or.inl rfl)
            simp (disch := omega) only [Option.bind_some, if_true, if_false, Sum.elim_inl, Sum.elim_inr, li0, li1, li2, li3, li4, li5, li6, li7, li8, li9, li10, li12, li16, li20, li24, li25, li31, li32, li40, li41, li42, li48, li57, li59, li97, li104, li105, li124, li126, li240, li241, nI_add, nI_subc, nI_subm, nI_mulc, nI_nm, pu_r, pu_t, pu_a, pu_le_t, pu_le_f, pu_lt_t, pu_lt_f, pu_eq_t, pu_eq_f, nm_eq, nm_eq2, nm_lt, nm_lt2, nm_le, nm_le2, nm_ss, nm_sp, pu_ss, pu_snq, pu_neq, eq_self, and_true, true_and, and_false, false_and, or_true, true_or, or_false, false_or, not_true_eq_false, not_false_eq_true, h3, h67, hu, dn_s, dn_0, hr, e, e1, hg, e2, r_more]
          · rw [hg] at a1 a2
            by_cases f : max u (p - x + 1) + 1 < g + 1
            · have e2 : (g + 1 = 0 ∨ max u (p - x + 1) + 1 < g + 1) = True := eq_true (Or.inr f)
              simp (disch := omega) only [Option.bind_some, if_true, if_false, Sum.elim_inl, Sum.elim_inr, li0, li1, li2, li3, li4, li5, li6, li7, li8, li9, li10, li12, li16, li20, li24, li25, li31, li32, li40, li41, li42, li48, li57, li59, li97, li104, li105, li124, li126, li240, li241, nI_add, nI_subc, nI_subm, nI_mulc, nI_nm, pu_r, pu_t, pu_a, pu_le_t, pu_le_f, pu_lt_t, pu_lt_f, pu_eq_t, pu_eq_f, nm_eq, nm_eq2, nm_lt, nm_lt2, nm_le, nm_le2, nm_ss, nm_sp, pu_ss, pu_snq, pu_neq, eq_self, and_true, true_and, and_false, false_and, or_true, true_or, or_false, false_or, not_true_eq_false, not_false_eq_true, h3, h67, hu, dn_s, hr, e, e1, hg, e2, r_more]
            · have e2 : (g + 1 = 0 ∨ max u (p - x + 1) + 1 < g + 1) = False := eq_false (by omega)
              simp (disch := omega) only [Option.bind_some, if_true, if_false, Sum.elim_inl, Sum.elim_inr, li0, li1, li2, li3, li4, li5, li6, li7, li8, li9, li10, li12, li16, li20, li24, li25, li31, li32, li40, li41, li42, li48, li57, li59, li97, li104, li105, li124, li126, li240, li241, nI_add, nI_subc, nI_subm, nI_mulc, nI_nm, pu_r, pu_t, pu_a, pu_le_t, pu_le_f, pu_lt_t, pu_lt_f, pu_eq_t, pu_eq_f, nm_eq, nm_eq2, nm_lt, nm_lt2, nm_le, nm_le2, nm_ss, nm_sp, pu_ss, pu_snq, pu_neq, eq_self, and_true, true_and, and_false, false_and, or_true, true_or, or_false, false_or, not_true_eq_false, not_false_eq_true, h3, h67, hu, dn_s, hr, e, e1, hg, e2, r_more]
    · simp only [mX12_around_63_L60]
      simp (disch := omega) only [Option.bind_some, if_true, if_false, Sum.elim_inl, Sum.elim_inr, li0, li1, li2, li3, li4, li5, li6, li7, li8, li9, li10, li12, li16, li20, li24, li25, li31, li32, li40, li41, li42, li48, li57, li59, li97, li104, li105, li124, li126, li240, li241, nI_add, nI_subc, nI_subm, nI_mulc, nI_nm, pu_r, pu_t, pu_a, pu_le_t, pu_le_f, pu_lt_t, pu_lt_f, pu_eq_t, pu_eq_f, nm_eq, nm_eq2, nm_lt, nm_lt2, nm_le, nm_le2, nm_ss, nm_sp, pu_ss, pu_snq, pu_neq, eq_self, and_true, true_and, and_false, false_and, or_true, true_or, or_false, false_or, not_true_eq_false, not_false_eq_true]
theorem qr_around {T : Nat → Nat} {n m : Nat} {W X : Nat → Nat} {t : Nat} {F : Nat → Nat} {S P : Nat} {D : Nat → Nat → Nat → Nat} {M : me_M} (h : Inv M) (ha : vA T n m W X t F S P D M) (a0 a1 : Int32) (hb0 : iB a0 (nI 0) (nI n) = true) (hb1 : iB a1 (nI 0) (nI 1) = true) : aQ (hL_around M a0 a1) (fun M1 => mX12_around_63 M1 a0 a1) := by
  have hT := ha.1.1
  have hn := hT.2.2.2
  have c1 := ha.1.2.1.1.1.1
  obtain ⟨p, -, hp, rfl⟩ := iB_n hb0 (by omega) (by omega)
  obtain ⟨j, -, hj, rfl⟩ := iB_n hb1 (by omega) (by omega)
  have e := c_start hT ha.1.2.1 hp
  obtain ⟨a1, a2⟩ := af_ok (T := T) (p := p) hn (p + 1)
  have key : ∀ v, (j = 0 → v = dn (af T n p (p + 1)).1) → (j = 1 → v = dn (af T n p (p + 1)).2) → aQ (hL_around M (nI p) (nI j)) (fun M1 => mX12_around_63 M1 (nI p) (nI j)) := fun v k0 k1 => by
    have hj2 : j = 0 ∨ j = 1 := by omega
    refine aQ.p (v := v) (G := fun M0 => nX12_around M0 (nI p) (nI j)) (fun M1 => zX12_around M1 _ _) h ha ?_ (fun M0 h0 hz hf => ?_)
    · rcases a2 with ⟨b1, b2⟩ | ⟨b1, b2, b3, b4⟩
      · rw [b1, dn_0] at k0
        rw [b2, dn_0] at k1 e
        rcases hj2 with rfl | rfl
        · simp (disch := omega) only [↓reduceIte, ↓needEb, ↓needAb, ↓needSb, ↓needE0l, ↓needE1l, ↓needA0l, ↓needA1l, ↓needS0l, ↓needS1l, ↓bnd c_isWhat, ↓bnd c_isSide, ↓bnd c_isLetter, ↓bnd c_isLength, ↓bnd c_isOften, ↓bnd r_in, ↓bnd r_isLetter, bI_t, bI_f, Bool.false_eq_true, Option.bind_none, Option.none_or, Option.some_or, xAN, xNA, xSA, Option.bind_some, if_true, if_false, Sum.elim_inl, Sum.elim_inr, li0, li1, li2, li3, li4, li5, li6, li7, li8, li9, li10, li12, li16, li20, li24, li25, li31, li32, li40, li41, li42, li48, li57, li59, li97, li104, li105, li124, li126, li240, li241, nI_add, nI_subc, nI_subm, nI_mulc, nI_nm, pu_r, pu_t, pu_a, pu_le_t, pu_le_f, pu_lt_t, pu_lt_f, pu_eq_t, pu_eq_f, nm_eq, nm_eq2, nm_lt, nm_lt2, nm_le, nm_le2, nm_ss, nm_sp, pu_ss, pu_snq, pu_neq, eq_self, and_true, true_and, and_false, false_and, or_true, true_or, or_false, false_or, not_true_eq_false, not_false_eq_true, hL_around, mX11_around_0, ↓bnd (c_isPlace c1), hb0, hb1, e, k0 rfl]
        · simp (disch := omega) only [↓reduceIte, ↓needEb, ↓needAb, ↓needSb, ↓needE0l, ↓needE1l, ↓needA0l, ↓needA1l, ↓needS0l, ↓needS1l, ↓bnd c_isWhat, ↓bnd c_isSide, ↓bnd c_isLetter, ↓bnd c_isLength, ↓bnd c_isOften, ↓bnd r_in, ↓bnd r_isLetter, bI_t, bI_f, Bool.false_eq_true, Option.bind_none, Option.none_or, Option.some_or, xAN, xNA, xSA, Option.bind_some, if_true, if_false, Sum.elim_inl, Sum.elim_inr, li0, li1, li2, li3, li4, li5, li6, li7, li8, li9, li10, li12, li16, li20, li24, li25, li31, li32, li40, li41, li42, li48, li57, li59, li97, li104, li105, li124, li126, li240, li241, nI_add, nI_subc, nI_subm, nI_mulc, nI_nm, pu_r, pu_t, pu_a, pu_le_t, pu_le_f, pu_lt_t, pu_lt_f, pu_eq_t, pu_eq_f, nm_eq, nm_eq2, nm_lt, nm_lt2, nm_le, nm_le2, nm_ss, nm_sp, pu_ss, pu_snq, pu_neq, eq_self, and_true, true_and, and_false, false_and, or_true, true_or, or_false, false_or, not_true_eq_false, not_false_eq_true, hL_around, mX11_around_0, ↓bnd (c_isPlace c1), hb0, hb1, e, k1 rfl]
      · have e2 := c_around (q := (af T n p (p + 1)).2 - 1) hT ha.1.2.1 hp (by omega)
        rw [b4] at e2
        rcases hg : (af T n p (p + 1)).2 with _ | g
        · omega
        · rw [hg] at e e2 k1
          rw [hg] at b3
          rcases hj2 with rfl | rfl
          · simp (disch := omega) only [↓reduceIte, ↓needEb, ↓needAb, ↓needSb, ↓needE0l, ↓needE1l, ↓needA0l, ↓needA1l, ↓needS0l, ↓needS1l, ↓bnd c_isWhat, ↓bnd c_isSide, ↓bnd c_isLetter, ↓bnd c_isLength, ↓bnd c_isOften, ↓bnd r_in, ↓bnd r_isLetter, bI_t, bI_f, Bool.false_eq_true, Option.bind_none, Option.none_or, Option.some_or, xAN, xNA, xSA, Option.bind_some, if_true, if_false, Sum.elim_inl, Sum.elim_inr, li0, li1, li2, li3, li4, li5, li6, li7, li8, li9, li10, li12, li16, li20, li24, li25, li31, li32, li40, li41, li42, li48, li57, li59, li97, li104, li105, li124, li126, li240, li241, nI_add, nI_subc, nI_subm, nI_mulc, nI_nm, pu_r, pu_t, pu_a, pu_le_t, pu_le_f, pu_lt_t, pu_lt_f, pu_eq_t, pu_eq_f, nm_eq, nm_eq2, nm_lt, nm_lt2, nm_le, nm_le2, nm_ss, nm_sp, pu_ss, pu_snq, pu_neq, eq_self, and_true, true_and, and_false, false_and, or_true, true_or, or_false, false_or, not_true_eq_false, not_false_eq_true, hL_around, mX11_around_0, ↓bnd (c_isPlace c1), hb0, hb1, e, dn_s, show mX2_lettersAround_26 M (nI g) (nI p) = some (dn (af T n p (p + 1)).1) from e2, k0 rfl]
          · simp (disch := omega) only [↓reduceIte, ↓needEb, ↓needAb, ↓needSb, ↓needE0l, ↓needE1l, ↓needA0l, ↓needA1l, ↓needS0l, ↓needS1l, ↓bnd c_isWhat, ↓bnd c_isSide, ↓bnd c_isLetter, ↓bnd c_isLength, ↓bnd c_isOften, ↓bnd r_in, ↓bnd r_isLetter, bI_t, bI_f, Bool.false_eq_true, Option.bind_none, Option.none_or, Option.some_or, xAN, xNA, xSA, Option.bind_some, if_true, if_false, Sum.elim_inl, Sum.elim_inr, li0, li1, li2, li3, li4, li5, li6, li7, li8, li9, li10, li12, li16, li20, li24, li25, li31, li32, li40, li41, li42, li48, li57, li59, li97, li104, li105, li124, li126, li240, li241, nI_add, nI_subc, nI_subm, nI_mulc, nI_nm, pu_r, pu_t, pu_a, pu_le_t, pu_le_f, pu_lt_t, pu_lt_f, pu_eq_t, pu_eq_f, nm_eq, nm_eq2, nm_lt, nm_lt2, nm_le, nm_le2, nm_ss, nm_sp, pu_ss, pu_snq, pu_neq, eq_self, and_true, true_and, and_false, false_and, or_true, true_or, or_false, false_or, not_true_eq_false, not_false_eq_true, hL_around, mX11_around_0, ↓bnd (c_isPlace c1), hb0, hb1, e, dn_s, k1 rfl]
    · have r := r_aroundL (p1 := nI j) hT h0.1.2.2.1.1 hp
      rcases hj2 with rfl | rfl
      · simp (disch := omega) only [↓reduceIte, ↓needEb, ↓needAb, ↓needSb, ↓needE0l, ↓needE1l, ↓needA0l, ↓needA1l, ↓needS0l, ↓needS1l, ↓bnd c_isWhat, ↓bnd c_isSide, ↓bnd c_isLetter, ↓bnd c_isLength, ↓bnd c_isOften, ↓bnd r_in, ↓bnd r_isLetter, bI_t, bI_f, Bool.false_eq_true, Option.bind_none, Option.none_or, Option.some_or, xAN, xNA, xSA, Option.bind_some, if_true, if_false, Sum.elim_inl, Sum.elim_inr, li0, li1, li2, li3, li4, li5, li6, li7, li8, li9, li10, li12, li16, li20, li24, li25, li31, li32, li40, li41, li42, li48, li57, li59, li97, li104, li105, li124, li126, li240, li241, nI_add, nI_subc, nI_subm, nI_mulc, nI_nm, pu_r, pu_t, pu_a, pu_le_t, pu_le_f, pu_lt_t, pu_lt_f, pu_eq_t, pu_eq_f, nm_eq, nm_eq2, nm_lt, nm_lt2, nm_le, nm_le2, nm_ss, nm_sp, pu_ss, pu_snq, pu_neq, eq_self, and_true, true_and, and_false, false_and, or_true, true_or, or_false, false_or, not_true_eq_false, not_false_eq_true, nX12_around, mX12_around_63_J19, mX12_around_63_J42, ↓bnd (r_isPlace h0.1.2.2.1.1.1), hb0, hb1, ↓bnd (r_bad0l hz), r, k0 rfl]
      · simp (disch := omega) only [↓reduceIte, ↓needEb, ↓needAb, ↓needSb, ↓needE0l, ↓needE1l, ↓needA0l, ↓needA1l, ↓needS0l, ↓needS1l, ↓bnd c_isWhat, ↓bnd c_isSide, ↓bnd c_isLetter, ↓bnd c_isLength, ↓bnd c_isOften, ↓bnd r_in, ↓bnd r_isLetter, bI_t, bI_f, Bool.false_eq_true, Option.bind_none, Option.none_or, Option.some_or, xAN, xNA, xSA, Option.bind_some, if_true, if_false, Sum.elim_inl, Sum.elim_inr, li0, li1, li2, li3, li4, li5, li6, li7, li8, li9, li10, li12, li16, li20, li24, li25, li31, li32, li40, li41, li42, li48, li57, li59, li97, li104, li105, li124, li126, li240, li241, nI_add, nI_subc, nI_subm, nI_mulc, nI_nm, pu_r, pu_t, pu_a, pu_le_t, pu_le_f, pu_lt_t, pu_lt_f, pu_eq_t, pu_eq_f, nm_eq, nm_eq2, nm_lt, nm_lt2, nm_le, nm_le2, nm_ss, nm_sp, pu_ss, pu_snq, pu_neq, eq_self, and_true, true_and, and_false, false_and, or_true, true_or, or_false, false_or, not_true_eq_false, not_false_eq_true, nX12_around, mX12_around_63_J19, mX12_around_63_J42, ↓bnd (r_isPlace h0.1.2.2.1.1.1), hb0, hb1, ↓bnd (r_bad0l hz), r, k1 rfl]
  by_cases j0 : j = 0
  · exact key _ (fun _ => rfl) (fun z => absurd z (by omega))
  · exact key _ (fun z => absurd z (by omega)) (fun _ => rfl)
theorem q_around {M : me_M} (h : Inv M) (a0 : Int32) (a1 : Int32) : aQ (hL_around M a0 a1) (fun M1 => mX12_around_63 M1 a0 a1) := by
  obtain ⟨T, n, m, W, X, t, F, S, P, D, ha⟩ := h.vA
  have hT := ha.1.1
  have hx := ha.1.2.1
  have c1 := hx.1.1.1
  have hn := hT.2.2.2
  have h9 := hT.2.1
  have hp1 := ha.2.2.1.2.1
  have ht := ha.2.2.1.1
  have hm4 := ha.2.1.1.2.2.1
  have hm40 := ha.2.1.1.1
  cases hb0 : iB a0 (nI 0) (nI n) with
  | false =>
    refine aQ.t 0 1 (G := fun M0 => nX12_around M0 a0 a1) (fun M1 => zX12_around M1 a0 a1) h ha (by omega) (by omega) (by omega) ?_ (fun M0 h0 hz hf => ?_)
    · simp (disch := omega) only [↓reduceIte, ↓needEb, ↓needAb, ↓needSb, ↓needE0l, ↓needE1l, ↓needA0l, ↓needA1l, ↓needS0l, ↓needS1l, ↓bnd c_isWhat, ↓bnd c_isSide, ↓bnd c_isLetter, ↓bnd c_isLength, ↓bnd c_isOften, ↓bnd r_in, ↓bnd r_isLetter, bI_t, bI_f, Bool.false_eq_true, Option.bind_none, Option.none_or, Option.some_or, xAN, xNA, xSA, Option.bind_some, if_true, if_false, Sum.elim_inl, Sum.elim_inr, li0, li1, li2, li3, li4, li5, li6, li7, li8, li9, li10, li12, li16, li20, li24, li25, li31, li32, li40, li41, li42, li48, li57, li59, li97, li104, li105, li124, li126, li240, li241, nI_add, nI_subc, nI_subm, nI_mulc, nI_nm, pu_r, pu_t, pu_a, pu_le_t, pu_le_f, pu_lt_t, pu_lt_f, pu_eq_t, pu_eq_f, nm_eq, nm_eq2, nm_lt, nm_lt2, nm_le, nm_le2, nm_ss, nm_sp, pu_ss, pu_snq, pu_neq, eq_self, and_true, true_and, and_false, false_and, or_true, true_or, or_false, false_or, not_true_eq_false, not_false_eq_true, mX11_around_0, tX11_around_0, hL_around, ↓bnd (c_isPlace c1), hb0]
    · simp (disch := omega) only [↓reduceIte, ↓needEb, ↓needAb, ↓needSb, ↓needE0l, ↓needE1l, ↓needA0l, ↓needA1l, ↓needS0l, ↓needS1l, ↓bnd c_isWhat, ↓bnd c_isSide, ↓bnd c_isLetter, ↓bnd c_isLength, ↓bnd c_isOften, ↓bnd r_in, ↓bnd r_isLetter, bI_t, bI_f, Bool.false_eq_true, Option.bind_none, Option.none_or, Option.some_or, xAN, xNA, xSA, Option.bind_some, if_true, if_false, Sum.elim_inl, Sum.elim_inr, li0, li1, li2, li3, li4, li5, li6, li7, li8, li9, li10, li12, li16, li20, li24, li25, li31, li32, li40, li41, li42, li48, li57, li59, li97, li104, li105, li124, li126, li240, li241, nI_add, nI_subc, nI_subm, nI_mulc, nI_nm, pu_r, pu_t, pu_a, pu_le_t, pu_le_f, pu_lt_t, pu_lt_f, pu_eq_t, pu_eq_f, nm_eq, nm_eq2, nm_lt, nm_lt2, nm_le, nm_le2, nm_ss, nm_sp, pu_ss, pu_snq, pu_neq, eq_self, and_true, true_and, and_false, false_and, or_true, true_or, or_false, false_or, not_true_eq_false, not_false_eq_true, nX12_around, mX12_around_63_J152, mX12_around_63_J145, mX12_around_63_J42, mX12_around_63_J19, ↓bnd (r_isPlace h0.1.2.2.1.1.1), hb0, ↓bnd (r_bad0l hz), ↓bnd (r_bad10 hz), ↓bnd (r_bad11 hz), ↓bnd (r_bad21 hz), ↓bnd (r_bad22 hz)]
  | true =>
    cases hb1 : iB a1 (nI 0) (nI 1) with
    | false =>
      refine aQ.t 1 2 (G := fun M0 => nX12_around M0 a0 a1) (fun M1 => zX12_around M1 a0 a1) h ha (by omega) (by omega) (by omega) ?_ (fun M0 h0 hz hf => ?_)
      · simp (disch := omega) only [↓reduceIte, ↓needEb, ↓needAb, ↓needSb, ↓needE0l, ↓needE1l, ↓needA0l, ↓needA1l, ↓needS0l, ↓needS1l, ↓bnd c_isWhat, ↓bnd c_isSide, ↓bnd c_isLetter, ↓bnd c_isLength, ↓bnd c_isOften, ↓bnd r_in, ↓bnd r_isLetter, bI_t, bI_f, Bool.false_eq_true, Option.bind_none, Option.none_or, Option.some_or, xAN, xNA, xSA, Option.bind_some, if_true, if_false, Sum.elim_inl, Sum.elim_inr, li0, li1, li2, li3, li4, li5, li6, li7, li8, li9, li10, li12, li16, li20, li24, li25, li31, li32, li40, li41, li42, li48, li57, li59, li97, li104, li105, li124, li126, li240, li241, nI_add, nI_subc, nI_subm, nI_mulc, nI_nm, pu_r, pu_t, pu_a, pu_le_t, pu_le_f, pu_lt_t, pu_lt_f, pu_eq_t, pu_eq_f, nm_eq, nm_eq2, nm_lt, nm_lt2, nm_le, nm_le2, nm_ss, nm_sp, pu_ss, pu_snq, pu_neq, eq_self, and_true, true_and, and_false, false_and, or_true, true_or, or_false, false_or, not_true_eq_false, not_false_eq_true, mX11_around_0, tX11_around_0, hL_around, ↓bnd (c_isPlace c1), hb0, hb1]
      · simp (disch := omega) only [↓reduceIte, ↓needEb, ↓needAb, ↓needSb, ↓needE0l, ↓needE1l, ↓needA0l, ↓needA1l, ↓needS0l, ↓needS1l, ↓bnd c_isWhat, ↓bnd c_isSide, ↓bnd c_isLetter, ↓bnd c_isLength, ↓bnd c_isOften, ↓bnd r_in, ↓bnd r_isLetter, bI_t, bI_f, Bool.false_eq_true, Option.bind_none, Option.none_or, Option.some_or, xAN, xNA, xSA, Option.bind_some, if_true, if_false, Sum.elim_inl, Sum.elim_inr, li0, li1, li2, li3, li4, li5, li6, li7, li8, li9, li10, li12, li16, li20, li24, li25, li31, li32, li40, li41, li42, li48, li57, li59, li97, li104, li105, li124, li126, li240, li241, nI_add, nI_subc, nI_subm, nI_mulc, nI_nm, pu_r, pu_t, pu_a, pu_le_t, pu_le_f, pu_lt_t, pu_lt_f, pu_eq_t, pu_eq_f, nm_eq, nm_eq2, nm_lt, nm_lt2, nm_le, nm_le2, nm_ss, nm_sp, pu_ss, pu_snq, pu_neq, eq_self, and_true, true_and, and_false, false_and, or_true, true_or, or_false, false_or, not_true_eq_false, not_false_eq_true, nX12_around, mX12_around_63_J152, mX12_around_63_J145, mX12_around_63_J42, mX12_around_63_J19, ↓bnd (r_isPlace h0.1.2.2.1.1.1), hb0, hb1, ↓bnd (r_bad0l hz), ↓bnd (r_bad10 hz), ↓bnd (r_bad11 hz), ↓bnd (r_bad21 hz), ↓bnd (r_bad22 hz)]
    | true =>
      exact qr_around h ha a0 a1 hb0 hb1
