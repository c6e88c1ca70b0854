/-! ===== calls: rows ===== -/
theorem pu_dv {a b : Nat} (ha : a < 2 ^ 31) (h0 : 0 < b) (hb : b < 2 ^ 31) : me_dv (nI a) (nI b) = some (nI (a / b)) := by
  unfold me_dv
  rw [if_neg (nI_ne0 h0 hb), pk_div ha h0 hb]
theorem pu_md {a b : Nat} (ha : a < 2 ^ 31) (h0 : 0 < b) (hb : b < 2 ^ 31) : me_md (nI a) (nI b) = some (nI (a % b)) := by
  unfold me_md
  have h1 := Nat.div_add_mod a b
  have h2 : a / b * b ≤ a := Nat.div_mul_le_self a b
  rw [if_neg (nI_ne0 h0 hb), pk_div ha h0 hb, nI_mulc, nI_subc h2]
  rw [Nat.mul_comm] at h1
  rw [show a - a / b * b = a % b by omega]
theorem sd0 (T : Nat → Nat) (n : Nat) : sd T n 0 = T := if_pos rfl
theorem sd1 (T : Nat → Nat) (n : Nat) : sd T n 1 = rv T n := if_neg (by decide)
theorem rk_pl {pl ro n r : Nat} {T : Nat → Nat} {M : me_M} (hT : tx_ok T n) (h : rw_rk pl ro T n M) (hr : r ≤ n) : M.1 pl r = nI (pa T n r) := by
  obtain ⟨h1, h2⟩ := pa_ok (r := r) hT hr
  have := (h _ h1).1
  rw [h2] at this
  exact this
theorem ry_at {T : Nat → Nat} {n b r : Nat} {M : me_M} (hT : tx9 T n) (h : ry T n M) (hb : b < 2) (hr : r ≤ n) : M.1 (70 + b) r = nI (pa (sd T n b) n r) := by
  obtain ⟨h1, h2⟩ := pa_ok (r := r) (sd9 (b := b) hT).1 hr
  have := ((h.2 b hb).2 _ h1).1
  rw [h2] at this
  exact this
theorem pa_le {T : Nat → Nat} {n r : Nat} (hT : tx_ok T n) (hr : r ≤ n) : pa T n r ≤ n := (pa_ok hT hr).1
theorem r_before {T : Nat → Nat} {n b r : Nat} {M : me_M} (hT : tx9 T n) (h : ry T n M) (hb : b < 2) (hr : r ≤ n) : mX12_before_63 M (nI b) (nI r) = some (nI (bf (sd T n b) (pa (sd T n b) n r))) := by
  have hn := hT.2.2.2
  have hp := pa_le (sd9 (b := b) hT).1 hr
  have h1 := ry_at hT h hb hr
  have h2 := (h.2 b hb).1
  unfold mX12_before_63 bf
  by_cases c : pa (sd T n b) n r = 0
  · simp (disch := omega) only [Option.bind_some, if_true, if_false, Sum.elim_inl, Sum.elim_inr, li0, li1, li2, li3, li4, li5, li6, li7, li8, li9, li10, li12, li16, li20, li24, li25, li31, li32, li40, li41, li42, li48, li57, li59, li97, li104, li105, li124, li126, li240, li241, nI_add, nI_subc, nI_subm, nI_mulc, nI_nm, pu_r, pu_t, pu_a, pu_le_t, pu_le_f, pu_lt_t, pu_lt_f, pu_eq_t, pu_eq_f, nm_eq, nm_eq2, nm_lt, nm_lt2, nm_le, nm_le2, nm_ss, nm_sp, pu_ss, pu_snq, pu_neq, eq_self, and_true, true_and, and_false, false_and, or_true, true_or, or_false, false_or, not_true_eq_false, not_false_eq_true, h1, c]
  · rw [if_neg c]
    simp (disch := omega) only [Option.bind_some, if_true, if_false, Sum.elim_inl, Sum.elim_inr, li0, li1, li2, li3, li4, li5, li6, li7, li8, li9, li10, li12, li16, li20, li24, li25, li31, li32, li40, li41, li42, li48, li57, li59, li97, li104, li105, li124, li126, li240, li241, nI_add, nI_subc, nI_subm, nI_mulc, nI_nm, pu_r, pu_t, pu_a, pu_le_t, pu_le_f, pu_lt_t, pu_lt_f, pu_eq_t, pu_eq_f, nm_eq, nm_eq2, nm_lt, nm_lt2, nm_le, nm_le2, nm_ss, nm_sp, pu_ss, pu_snq, pu_neq, eq_self, and_true, true_and, and_false, false_and, or_true, true_or, or_false, false_or, not_true_eq_false, not_false_eq_true, h1, h2]
theorem r_alike {T : Nat → Nat} {n b r : Nat} {M : me_M} (hT : tx9 T n) (h : ry T n M) (hb : b < 2) (hr : r ≤ n) : mX12_alike_63 M (nI b) (nI r) = some (nI (if r = 0 then 0 else lc (sd T n b) n (pa (sd T n b) n r) (pa (sd T n b) n (r - 1)))) := by
  have hn := hT.2.2.2
  have hU := sd9 (b := b) hT
  unfold mX12_alike_63
  by_cases c : r = 0
  · simp (disch := omega) only [Option.bind_some, if_true, if_false, Sum.elim_inl, Sum.elim_inr, li0, li1, li2, li3, li4, li5, li6, li7, li8, li9, li10, li12, li16, li20, li24, li25, li31, li32, li40, li41, li42, li48, li57, li59, li97, li104, li105, li124, li126, li240, li241, nI_add, nI_subc, nI_subm, nI_mulc, nI_nm, pu_r, pu_t, pu_a, pu_le_t, pu_le_f, pu_lt_t, pu_lt_f, pu_eq_t, pu_eq_f, nm_eq, nm_eq2, nm_lt, nm_lt2, nm_le, nm_le2, nm_ss, nm_sp, pu_ss, pu_snq, pu_neq, eq_self, and_true, true_and, and_false, false_and, or_true, true_or, or_false, false_or, not_true_eq_false, not_false_eq_true, c]
  · rw [if_neg c]
    have hp := pa_le hU.1 hr
    have hq := pa_le hU.1 (show r - 1 ≤ n by omega)
    have h1 := ry_at hT h hb hr
    have h2 := ry_at hT h hb (show r - 1 ≤ n by omega)
    have h3 := (h.2 b hb).1
    have h0 := h.1.1
    generalize pa (sd T n b) n r = p at *
    generalize pa (sd T n b) n (r - 1) = q at *
    have hle := lc_le (T := sd T n b) hp hq
    have hl : me_l (mX12_alike_63_L30 M (nI b) (nI p) (nI q)) me_fu (nI 0) = some (nI (lc (sd T n b) n p q)) := by
      refine lp_to (fun x => nI x) (a := 0) (N := lc (sd T n b) n p q) (by omega) (by omega) (fun x _ hx => ?_) ?_
      · simp only [mX12_alike_63_L30]
        have e := lc_eq hx
        have := hU.2.1 (q + x)
        simp (disch := omega) only [Option.bind_some, if_true, if_false, Sum.elim_inl, Sum.elim_inr, li0, li1, li2, li3, li4, li5, li6, li7, li8, li9, li10, li12, li16, li20, li24, li25, li31, li32, li40, li41, li42, li48, li57, li59, li97, li104, li105, li124, li126, li240, li241, nI_add, nI_subc, nI_subm, nI_mulc, nI_nm, pu_r, pu_t, pu_a, pu_le_t, pu_le_f, pu_lt_t, pu_lt_f, pu_eq_t, pu_eq_f, nm_eq, nm_eq2, nm_lt, nm_lt2, nm_le, nm_le2, nm_ss, nm_sp, pu_ss, pu_snq, pu_neq, eq_self, and_true, true_and, and_false, false_and, or_true, true_or, or_false, false_or, not_true_eq_false, not_false_eq_true, h0, h3, e]
      · simp only [mX12_alike_63_L30]
        by_cases d : n ≤ p + lc (sd T n b) n p q
        · simp (disch := omega) only [Option.bind_some, if_true, if_false, Sum.elim_inl, Sum.elim_inr, li0, li1, li2, li3, li4, li5, li6, li7, li8, li9, li10, li12, li16, li20, li24, li25, li31, li32, li40, li41, li42, li48, li57, li59, li97, li104, li105, li124, li126, li240, li241, nI_add, nI_subc, nI_subm, nI_mulc, nI_nm, pu_r, pu_t, pu_a, pu_le_t, pu_le_f, pu_lt_t, pu_lt_f, pu_eq_t, pu_eq_f, nm_eq, nm_eq2, nm_lt, nm_lt2, nm_le, nm_le2, nm_ss, nm_sp, pu_ss, pu_snq, pu_neq, eq_self, and_true, true_and, and_false, false_and, or_true, true_or, or_false, false_or, not_true_eq_false, not_false_eq_true, h0]
        · by_cases d2 : n ≤ q + lc (sd T n b) n p q
          · simp (disch := omega) only [Option.bind_some, if_true, if_false, Sum.elim_inl, Sum.elim_inr, li0, li1, li2, li3, li4, li5, li6, li7, li8, li9, li10, li12, li16, li20, li24, li25, li31, li32, li40, li41, li42, li48, li57, li59, li97, li104, li105, li124, li126, li240, li241, nI_add, nI_subc, nI_subm, nI_mulc, nI_nm, pu_r, pu_t, pu_a, pu_le_t, pu_le_f, pu_lt_t, pu_lt_f, pu_eq_t, pu_eq_f, nm_eq, nm_eq2, nm_lt, nm_lt2, nm_le, nm_le2, nm_ss, nm_sp, pu_ss, pu_snq, pu_neq, eq_self, and_true, true_and, and_false, false_and, or_true, true_or, or_false, false_or, not_true_eq_false, not_false_eq_true, h0]
          · have e : sd T n b (p + lc (sd T n b) n p q) ≠ sd T n b (q + lc (sd T n b) n p q) := by
              rcases (lcf_spec (sd T n b) (n - max p q) p q).2.2 with z | z
              · have z : lc (sd T n b) n p q = n - max p q := z
                omega
              · exact z
            have := hU.2.1 (p + lc (sd T n b) n p q)
            have := hU.2.1 (q + lc (sd T n b) n p q)
            simp (disch := omega) only [Option.bind_some, if_true, if_false, Sum.elim_inl, Sum.elim_inr, li0, li1, li2, li3, li4, li5, li6, li7, li8, li9, li10, li12, li16, li20, li24, li25, li31, li32, li40, li41, li42, li48, li57, li59, li97, li104, li105, li124, li126, li240, li241, nI_add, nI_subc, nI_subm, nI_mulc, nI_nm, pu_r, pu_t, pu_a, pu_le_t, pu_le_f, pu_lt_t, pu_lt_f, pu_eq_t, pu_eq_f, nm_eq, nm_eq2, nm_lt, nm_lt2, nm_le, nm_le2, nm_ss, nm_sp, pu_ss, pu_snq, pu_neq, eq_self, and_true, true_and, and_false, false_and, or_true, true_or, or_false, false_or, not_true_eq_false, not_false_eq_true, h0, h3]
    simp (disch := omega) only [Option.bind_some, if_true, if_false, Sum.elim_inl, Sum.elim_inr, li0, li1, li2, li3, li4, li5, li6, li7, li8, li9, li10, li12, li16, li20, li24, li25, li31, li32, li40, li41, li42, li48, li57, li59, li97, li104, li105, li124, li126, li240, li241, nI_add, nI_subc, nI_subm, nI_mulc, nI_nm, pu_r, pu_t, pu_a, pu_le_t, pu_le_f, pu_lt_t, pu_lt_f, pu_eq_t, pu_eq_f, nm_eq, nm_eq2, nm_lt, nm_lt2, nm_le, nm_le2, nm_ss, nm_sp, pu_ss, pu_snq, pu_neq, eq_self, and_true, true_and, and_false, false_and, or_true, true_or, or_false, false_or, not_true_eq_false, not_false_eq_true, h1, h2, hl]
/-- a side of the class -/
theorem cx_side {T : Nat → Nat} {n b : Nat} {M : me_M} (h : cx T n M) (hb : b < 2) : cxr (9 + 5 * b) (4 + b) (10 + 5 * b) (11 + 5 * b) (12 + 5 * b) (13 + 5 * b) (sd T n b) n M := by
  have : b = 0 ∨ b = 1 := by omega
  rcases this with rfl | rfl
  · exact h.2.1
  · exact h.2.2
theorem c_before {T : Nat → Nat} {n b r : Nat} {M : me_M} (hT : tx9 T n) (h : cx T n M) (hb : b < 2) (hr : r ≤ n) : (b = 0 → mX4_before_9 M (nI r) = some (nI (bf (sd T n b) (pa (sd T n b) n r)))) ∧ (b = 1 → mX4_before_14 M (nI r) = some (nI (bf (sd T n b) (pa (sd T n b) n r)))) := by
  have hs := cx_side h hb
  refine ⟨fun e => ?_, fun e => ?_⟩
  · subst e; rw [eX4_before_9]; exact g_before_ok (sd9 hT).1 hT.2.2.2 hs.1 hs.2.1 hr
  · subst e; rw [eX4_before_14]; exact g_before_ok (sd9 hT).1 hT.2.2.2 hs.1 hs.2.1 hr
theorem bf_lt {T : Nat → Nat} {p : Nat} (h : ∀ i, T i < 10) : bf T p < 10 := by
  unfold bf
  split
  · decide
  · exact h _
theorem byt_lt {s : Nat} (h : s < 10) : byt s < 125 := by
  unfold byt
  split
  · omega
  · split <;> omega
theorem q_rowOf {M : me_M} (h : Inv M) (a b : Int32) : aQ (hL_rowOf M a b) (fun M1 => mX12_rowOf_63 M1 a b) := by
  obtain ⟨T, n, m, W, X, t, F, S, P, D, ha⟩ := h.vA
  have hT := ha.1.1
  have c1 := ha.1.2.1.1.1.1
  have hn := hT.2.2.2
  cases hb : iB a (nI 0) (nI 1) with
  | false =>
    refine aQ.t 0 1 (G := fun M0 => nX12_rowOf M0 a b) (fun M1 => zX12_rowOf M1 a b) h ha (by omega) (by omega) (by omega) ?_ (fun M0 h0 hz hf => ?_)
    · unfold hL_rowOf mX11_rowOf_0 tX11_rowOf_0 mX11_rowOf_0_J20 mX11_rowOf_0_J21 tX11_rowOf_0_J20 tX11_rowOf_0_J21
      simp (disch := omega) only [Option.bind_some, if_true, if_false, Sum.elim_inl, Sum.elim_inr, li0, li1, li2, li3, li4, li5, li6, li7, li8, li9, li10, li12, li16, li20, li24, li25, li31, li32, li40, li41, li42, li48, li57, li59, li97, li104, li105, li124, li126, li240, li241, nI_add, nI_subc, nI_subm, nI_mulc, nI_nm, pu_r, pu_t, pu_a, pu_le_t, pu_le_f, pu_lt_t, pu_lt_f, pu_eq_t, pu_eq_f, nm_eq, nm_eq2, nm_lt, nm_lt2, nm_le, nm_le2, nm_ss, nm_sp, pu_ss, pu_snq, pu_neq, eq_self, and_true, true_and, and_false, false_and, or_true, true_or, or_false, false_or, not_true_eq_false, not_false_eq_true, c_isSide, hb, bI_f, needE0, Option.bind_none, Option.none_or]
    · simp only [nX12_rowOf, mX12_rowOf_63_J20, mX12_isRow_63]
      simp (disch := omega) only [Option.bind_some, if_true, if_false, Sum.elim_inl, Sum.elim_inr, li0, li1, li2, li3, li4, li5, li6, li7, li8, li9, li10, li12, li16, li20, li24, li25, li31, li32, li40, li41, li42, li48, li57, li59, li97, li104, li105, li124, li126, li240, li241, nI_add, nI_subc, nI_subm, nI_mulc, nI_nm, pu_r, pu_t, pu_a, pu_le_t, pu_le_f, pu_lt_t, pu_lt_f, pu_eq_t, pu_eq_f, nm_eq, nm_eq2, nm_lt, nm_lt2, nm_le, nm_le2, nm_ss, nm_sp, pu_ss, pu_snq, pu_neq, eq_self, and_true, true_and, and_false, false_and, or_true, true_or, or_false, false_or, not_true_eq_false, not_false_eq_true, r_in, hb, bI_f, r_bad1 hz]
  | true =>
    cases hc : iB b (nI 0) (nI n) with
    | false =>
      refine aQ.t 0 1 (G := fun M0 => nX12_rowOf M0 a b) (fun M1 => zX12_rowOf M1 a b) h ha (by omega) (by omega) (by omega) ?_ (fun M0 h0 hz hf => ?_)
      · unfold hL_rowOf mX11_rowOf_0 tX11_rowOf_0 mX11_rowOf_0_J20 mX11_rowOf_0_J21 tX11_rowOf_0_J20 tX11_rowOf_0_J21
        simp (disch := omega) only [Option.bind_some, if_true, if_false, Sum.elim_inl, Sum.elim_inr, li0, li1, li2, li3, li4, li5, li6, li7, li8, li9, li10, li12, li16, li20, li24, li25, li31, li32, li40, li41, li42, li48, li57, li59, li97, li104, li105, li124, li126, li240, li241, nI_add, nI_subc, nI_subm, nI_mulc, nI_nm, pu_r, pu_t, pu_a, pu_le_t, pu_le_f, pu_lt_t, pu_lt_f, pu_eq_t, pu_eq_f, nm_eq, nm_eq2, nm_lt, nm_lt2, nm_le, nm_le2, nm_ss, nm_sp, pu_ss, pu_snq, pu_neq, eq_self, and_true, true_and, and_false, false_and, or_true, true_or, or_false, false_or, not_true_eq_false, not_false_eq_true, c_isSide, hb, hc, c_isPlace c1, bI_f, bI_t, needE0, Option.bind_none, Option.none_or]
      · simp only [nX12_rowOf, mX12_rowOf_63_J20, mX12_isRow_63]
        simp (disch := omega) only [Option.bind_some, if_true, if_false, Sum.elim_inl, Sum.elim_inr, li0, li1, li2, li3, li4, li5, li6, li7, li8, li9, li10, li12, li16, li20, li24, li25, li31, li32, li40, li41, li42, li48, li57, li59, li97, li104, li105, li124, li126, li240, li241, nI_add, nI_subc, nI_subm, nI_mulc, nI_nm, pu_r, pu_t, pu_a, pu_le_t, pu_le_f, pu_lt_t, pu_lt_f, pu_eq_t, pu_eq_f, nm_eq, nm_eq2, nm_lt, nm_lt2, nm_le, nm_le2, nm_ss, nm_sp, pu_ss, pu_snq, pu_neq, eq_self, and_true, true_and, and_false, false_and, or_true, true_or, or_false, false_or, not_true_eq_false, not_false_eq_true, r_in, hb, hc, r_isPlace h0.1.2.2.1.1.1, bI_f, bI_t, r_bad1 hz]
    | true =>
      obtain ⟨j, -, hj, rfl⟩ := iB_n hb (by omega) (by omega)
      obtain ⟨p, -, hp, rfl⟩ := iB_n hc (by omega) (by omega)
      have hs := cx_side (b := j) ha.1.2.1 (by omega)
      have hv := (hs.2.1 p hp).2
      refine aQ.p (v := nI (rk (sd T n j) n p)) (G := fun M0 => nX12_rowOf M0 (nI j) (nI p)) (fun M1 => zX12_rowOf M1 (nI j) (nI p)) h ha ?_ (fun M0 h0 hz hf => ?_)
      · unfold hL_rowOf mX11_rowOf_0 mX11_rowOf_0_J20 mX11_rowOf_0_J21
        have hj2 : j = 0 ∨ j = 1 := by omega
        rcases hj2 with rfl | rfl
        · simp (disch := omega) only [Option.bind_some, if_true, if_false, Sum.elim_inl, Sum.elim_inr, li0, li1, li2, li3, li4, li5, li6, li7, li8, li9, li10, li12, li16, li20, li24, li25, li31, li32, li40, li41, li42, li48, li57, li59, li97, li104, li105, li124, li126, li240, li241, nI_add, nI_subc, nI_subm, nI_mulc, nI_nm, pu_r, pu_t, pu_a, pu_le_t, pu_le_f, pu_lt_t, pu_lt_f, pu_eq_t, pu_eq_f, nm_eq, nm_eq2, nm_lt, nm_lt2, nm_le, nm_le2, nm_ss, nm_sp, pu_ss, pu_snq, pu_neq, eq_self, and_true, true_and, and_false, false_and, or_true, true_or, or_false, false_or, not_true_eq_false, not_false_eq_true, c_isSide, hb, hc, c_isPlace c1, bI_t, needE1, c_rowsOf, show (9 + 5 * 0 = 9) = True by decide, show M.1 11 p = nI (rk (sd T n 0) n p) from hv, Option.some_or]
        · simp (disch := omega) only [Option.bind_some, if_true, if_false, Sum.elim_inl, Sum.elim_inr, li0, li1, li2, li3, li4, li5, li6, li7, li8, li9, li10, li12, li16, li20, li24, li25, li31, li32, li40, li41, li42, li48, li57, li59, li97, li104, li105, li124, li126, li240, li241, nI_add, nI_subc, nI_subm, nI_mulc, nI_nm, pu_r, pu_t, pu_a, pu_le_t, pu_le_f, pu_lt_t, pu_lt_f, pu_eq_t, pu_eq_f, nm_eq, nm_eq2, nm_lt, nm_lt2, nm_le, nm_le2, nm_ss, nm_sp, pu_ss, pu_snq, pu_neq, eq_self, and_true, true_and, and_false, false_and, or_true, true_or, or_false, false_or, not_true_eq_false, not_false_eq_true, c_isSide, hb, hc, c_isPlace c1, bI_t, needE1, c_rowsOf, show (9 + 5 * 1 = 9) = False by decide, show (9 + 5 * 1 = 14) = True by decide, show M.1 16 p = nI (rk (sd T n 1) n p) from hv, Option.some_or]
      · simp only [nX12_rowOf, mX12_rowOf_63_J20, mX12_isRow_63]
        have hv2 := ((h0.1.2.2.1.2 j (by omega)).2 p hp).2
        simp (disch := omega) only [Option.bind_some, if_true, if_false, Sum.elim_inl, Sum.elim_inr, li0, li1, li2, li3, li4, li5, li6, li7, li8, li9, li10, li12, li16, li20, li24, li25, li31, li32, li40, li41, li42, li48, li57, li59, li97, li104, li105, li124, li126, li240, li241, nI_add, nI_subc, nI_subm, nI_mulc, nI_nm, pu_r, pu_t, pu_a, pu_le_t, pu_le_f, pu_lt_t, pu_lt_f, pu_eq_t, pu_eq_f, nm_eq, nm_eq2, nm_lt, nm_lt2, nm_le, nm_le2, nm_ss, nm_sp, pu_ss, pu_snq, pu_neq, eq_self, and_true, true_and, and_false, false_and, or_true, true_or, or_false, false_or, not_true_eq_false, not_false_eq_true, r_in, hb, hc, r_isPlace h0.1.2.2.1.1.1, bI_t, r_bad0 hz, hv2]
