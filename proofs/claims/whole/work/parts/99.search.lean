/-! ===== a search runs: down the letters ===== -/
def pC (L : Nat) (wt W fl ce : Nat → Nat) (M : me_M) : Prop := M.1 36 9 = nI L ∧ ∀ t, t < L → M.1 41 t = nI (wt t - 2) ∧ M.1 42 t = nI (W t) ∧ M.1 43 t = nI (fl t) ∧ M.1 44 t = nI (ce t)
def pR (L s : Nat) (wt W fl ce : Nat → Nat) (M : me_M) : Prop := M.1 63 20 = nI L ∧ ∀ t, t < L → ∃ q i en, M.1 83 t = nI q ∧ q < 24 ∧ M.1 81 q = nI (wt t) ∧ M.1 84 t = nI (W t) ∧ M.1 85 t = nI i ∧ i < 5 ∧ M.1 (109 + 3 * s + 2) i = nI (ce t) ∧ M.1 86 t = nI en ∧ ((en = 1 ∧ M.1 (109 + 3 * s + 1) i = nI (fl t)) ∨ (en = 0 ∧ fl t = 0))
def fC9 (d b k : Nat) : Prop := (b = 36 ∧ (k = 10 ∨ k = 11)) ∨ b = 45 ∨ b = 46 ∨ ((38 ≤ b ∧ b ≤ 40) ∧ d < k)
def fR9 (d b k : Nat) : Prop := (b = 63 ∧ (k = 35 ∨ k = 36)) ∨ b = 79 ∨ b = 80 ∨ (158 + d < b ∧ b ≤ 182)
theorem pC.fr {L d : Nat} {wt W fl ce : Nat → Nat} {M M' : me_M} (h : pC L wt W fl ce M) (hx : fr (fC9 d) M M') : pC L wt W fl ce M' := by
  refine ⟨by rw [hx.2 _ _ (by unfold fC9; omega)]; exact h.1, fun t ht => ?_⟩
  rw [hx.2 41 t (by unfold fC9; omega), hx.2 42 t (by unfold fC9; omega), hx.2 43 t (by unfold fC9; omega), hx.2 44 t (by unfold fC9; omega)]
  exact h.2 t ht
theorem pR.fr {L s d : Nat} {wt W fl ce : Nat → Nat} {M M' : me_M} (hs : s < 8) (h : pR L s wt W fl ce M) (hx : fr (fR9 d) M M') : pR L s wt W fl ce M' := by
  refine ⟨by rw [hx.2 _ _ (by unfold fR9; omega)]; exact h.1, fun t ht => ?_⟩
  obtain ⟨q, i, en, a1, a2, a3, a4, a5, a6, a7, a8, a9⟩ := h.2 t ht
  refine ⟨q, i, en, by rw [hx.2 _ _ (by unfold fR9; omega)]; exact a1, a2, by rw [hx.2 _ _ (by unfold fR9; omega)]; exact a3, by rw [hx.2 _ _ (by unfold fR9; omega)]; exact a4, by rw [hx.2 _ _ (by unfold fR9; omega)]; exact a5, a6, by rw [hx.2 _ _ (by unfold fR9; omega)]; exact a7, by rw [hx.2 _ _ (by unfold fR9; omega)]; exact a8, ?_⟩
  rw [hx.2 (109 + 3 * s + 1) i (by unfold fR9; omega)]
  exact a9
theorem rx.fr {T : Nat → Nat} {n : Nat} {Z : Nat → Nat → Prop} {M M' : me_M} (h : rx T n M) (hx : fr Z M M') (h1 : ¬ Z 63 5) (h2 : ∀ k, ¬ Z 67 k) : rx T n M' := ⟨by rw [hx.2 _ _ h1]; exact h.1, fun i hi => by rw [hx.2 _ _ (h2 _)]; exact h.2 i hi⟩
theorem row9.fr {T : Nat → Nat} {n d : Nat} {Q : Nat → Nat} {Z : Nat → Nat → Prop} {M M' : me_M} (h : row9 T n d Q M) (hx : fr Z M M') (h1 : ∀ k, ¬ Z (158 + d) k) : row9 T n d Q M' := fun p hp hh => by rw [hx.2 _ _ (h1 _)]; exact h p hp hh
/-- how many letters are still to come on the left -/
def lr9 (W : Nat → Nat) (L d : Nat) : Nat := ct (fun t => decide (d ≤ t) && decide (W t = 0)) L
theorem lr9_s {W : Nat → Nat} {L d : Nat} (h : d < L) : lr9 W L d = lr9 W L (d + 1) + (if W d = 0 then 1 else 0) := by
  unfold lr9
  rw [ct_split _ L d h]
  congr 1
  · refine ct_congr L (fun i _ => ?_)
    by_cases c : i = d
    · rw [c, decide_eq_false (show ¬ d + 1 ≤ d by omega), decide_eq_true (show d = d from rfl)]
      simp
    · by_cases e : d ≤ i
      · rw [decide_eq_true e, decide_eq_true (show d + 1 ≤ i by omega), decide_eq_false c]; simp
      · rw [decide_eq_false e, decide_eq_false (show ¬ d + 1 ≤ i by omega)]; rfl
  · rw [decide_eq_true (Nat.le_refl d), Bool.true_and]
    simp only [decide_eq_true_eq]
theorem lr9_L {W : Nat → Nat} {L : Nat} : lr9 W L L = 0 := ct_zero L (fun i hi => by rw [decide_eq_false (by omega), Bool.false_and])
theorem c_hasL {T : Nat → Nat} {n x : Nat} {M : me_M} (h : M.1 3 7 = nI (bt (fun c => hl T n (c + 2)) 8)) (hx : x < 8) : mX10_hasLetter_3 M (nI x) = some (nI (if hl T n (x + 2) = true then 1 else 0)) := by
  have hb := bt_and (fun c => hl T n (c + 2)) hx
  unfold mX10_hasLetter_3
  rw [h, li0, li1, li31]
  cases hh : hl T n (x + 2) with
  | true => rw [if_neg (fun z => by have := hb.mp z; rw [hh] at this; cases this)]; rfl
  | false => rw [if_pos (hb.mpr hh)]; rfl
/-- where the next letter stands, for a place found in the end -/
def spot (T : Nat → Nat) (n : Nat) (W : Nat → Nat) (L d p : Nat) : Nat := if W d = 0 then tz T n (p + lr9 W L d - 1) else tz T n (p + lr9 W L d + d)
theorem cp_step {T : Nat → Nat} {n L d c p : Nat} {W Q : Nat → Nat} (hd : d < L) (h : cp T n (d + 1) (gro (W d) d Q c) (p + lr9 W L (d + 1)) = 1) : cp T n d Q (p + lr9 W L d) = 1 ∧ spot T n W L d p = c := by
  have hlr := lr9_s (W := W) hd
  have hall := (cp_one (d + 1) _ _).mp h
  unfold spot
  by_cases z : W d = 0
  · rw [if_pos z] at hlr
    rw [if_pos z]
    have hg : gro (W d) d Q c = cons c Q := if_pos z
    rw [hg] at hall
    refine ⟨(cp_one d Q _).mpr (fun k hk => ?_), ?_⟩
    · have := hall (k + 1) (by omega)
      rw [hlr, show p + (lr9 W L (d + 1) + 1) + k = p + lr9 W L (d + 1) + (k + 1) by omega]
      exact this
    · have := hall 0 (by omega)
      rw [hlr, show p + (lr9 W L (d + 1) + 1) - 1 = p + lr9 W L (d + 1) + 0 by omega]
      exact this
  · rw [if_neg z, Nat.add_zero] at hlr
    rw [if_neg z]
    have hg : gro (W d) d Q c = snoc d Q c := if_neg z
    rw [hg] at hall
    refine ⟨(cp_one d Q _).mpr (fun k hk => ?_), ?_⟩
    · have := hall k (by omega)
      rw [hlr, this]
      exact if_neg (by omega)
    · have := hall d (by omega)
      rw [hlr, this]
      exact if_pos rfl
set_option maxHeartbeats 1000000 in
theorem goto9 {T : Nat → Nat} {n L s th : Nat} {wt W fl ce : Nat → Nat} (hT : tx9 T n) (hL : L ≤ 24) (hs : s < 8) (hth : th < 2) (hpl : ∀ t, t < L → 2 ≤ wt t ∧ wt t < 10 ∧ W t < 2 ∧ fl t ≤ 4 ∧ ce t ≤ 4) : ∀ j d Q e f M M' O E, d + j = L → j < f → e ≤ d → (∀ i, i < d → 2 ≤ Q i ∧ Q i < 10) → pC L wt W fl ce M → cx T n M → spn 38 39 40 T n d Q M → pR L s wt W fl ce M' → rx T n M' → row9 T n d Q M' → M'.1 63 37 = nI th → M.1 36 10 = M'.1 63 35 → M.1 36 11 = M'.1 63 36 → accC n O E M → (th = 0 → accR n O E M') → (∀ p, p ≤ n → O p + j < 900) → ∃ M1 M1' O1 E1, mX1_goOn_36 f M (nI d) (nI e) = some M1 ∧ mX12_goes_63 f M' (nI s) (nI d) (nI (SZ T n d Q)) (nI e) = some M1' ∧ fr (fC9 d) M M1 ∧ fr (fR9 d) M' M1' ∧ M1.1 36 10 = M1'.1 63 35 ∧ M1.1 36 11 = M1'.1 63 36 ∧ accC n O1 E1 M1 ∧ (th = 0 → accR n O1 E1 M1') ∧ (th = 1 → M1'.1 79 = M'.1 79 ∧ M1'.1 80 = M'.1 80) ∧ (∀ p, p ≤ n → O p ≤ O1 p ∧ O1 p ≤ O p + 1) ∧ ∀ p, p ≤ n → O1 p ≠ O p → cp T n d Q (p + lr9 W L d) = 1 ∧ p + L ≤ n := by
  have hn := hT.2.2.2
  have h37e : @mX7_extend_37 = gX7_extend 38 39 40 41 (nI 41) := by rw [← li41]; exact eX7_extend_37
  intro j
  induction j with
  | zero =>
    intro d Q e f M M' O E hdj hjf hed hQ hpc hcx hsp hpr hrx hrow h37 htr hfo hac har hO
    obtain ⟨f, rfl⟩ : ∃ f', f = f' + 1 := ⟨f - 1, by omega⟩
    have hd : d = L := by omega
    subst hd
    obtain ⟨M1, e1, f1, g1, k1⟩ := c_leaf (e := e) hT hcx hL (fun i hi => by have := (hQ i hi).1; omega) hsp hac (fun p hp => by have := hO p hp; omega) (by omega)
    obtain ⟨M2, e2, f2, k3, g2, k2⟩ := r_leaf (rec := mX12_goes_63 f) (e := e) hn hL (by omega) hrow h37 hth har (fun p hp => by have := hO p hp; omega)
    refine ⟨M1, M2, oN (hB T n d Q) O, eN (hB T n d Q) O E e, ?_, ?_, f1.up (fun b k h => by unfold fC9; omega), f2.up (fun b k h => by unfold fR9; omega), ?_, ?_, k1, k2, k3, fun p _ => ?_, fun p hp hne => ?_⟩
    · simp only [mX1_goOn_36, mX1_goOn_36_b]
      simp (disch := omega) only [Option.bind_some, if_true, if_false, Sum.elim_inl, Sum.elim_inr, li0, li1, li2, li3, li4, li5, li6, li7, li8, li9, li10, li12, li16, li20, li24, li25, li31, li32, li40, li41, li42, li48, li57, li59, li97, li104, li105, li124, li126, li240, li241, nI_add, nI_subc, nI_subm, nI_mulc, nI_nm, pu_r, pu_t, pu_a, pu_le_t, pu_le_f, pu_lt_t, pu_lt_f, pu_eq_t, pu_eq_f, nm_eq, nm_eq2, nm_lt, nm_lt2, nm_le, nm_le2, nm_ss, nm_sp, pu_ss, pu_snq, pu_neq, eq_self, and_true, true_and, and_false, false_and, or_true, true_or, or_false, false_or, not_true_eq_false, not_false_eq_true, hpc.1, e1]
    · simp only [mX12_goes_63, mX12_goes_63_b]
      simp (disch := omega) only [Option.bind_some, if_true, if_false, Sum.elim_inl, Sum.elim_inr, li0, li1, li2, li3, li4, li5, li6, li7, li8, li9, li10, li12, li16, li20, li24, li25, li31, li32, li40, li41, li42, li48, li57, li59, li97, li104, li105, li124, li126, li240, li241, nI_add, nI_subc, nI_subm, nI_mulc, nI_nm, pu_r, pu_t, pu_a, pu_le_t, pu_le_f, pu_lt_t, pu_lt_f, pu_eq_t, pu_eq_f, nm_eq, nm_eq2, nm_lt, nm_lt2, nm_le, nm_le2, nm_ss, nm_sp, pu_ss, pu_snq, pu_neq, eq_self, and_true, true_and, and_false, false_and, or_true, true_or, or_false, false_or, not_true_eq_false, not_false_eq_true, hpr.1, e2]
    · rw [f1.2 _ _ (by omega), f2.2 _ _ (by omega)]; exact htr
    · rw [g1, g2, hfo]
    · unfold oN
      split <;> omega
    · have hh : hB T n d Q p = true := by
        cases hq : hB T n d Q p with
        | true => rfl
        | false => exact absurd (by unfold oN; rw [hq, if_neg (by decide), Nat.add_zero]) hne
      have hh := of_decide_eq_true hh
      rw [lr9_L, Nat.add_zero]
      exact ⟨hh, cp_fit (fun i hi => by have := (hQ i hi).1; omega) hh hp⟩
  | succ j ih =>
    intro d Q e f M M' O E hdj hjf hed hQ hpc hcx hsp hpr hrx hrow h37 htr hfo hac har hO
    obtain ⟨f, rfl⟩ : ∃ f', f = f' + 1 := ⟨f - 1, by omega⟩
    have hdL : d < L := by omega
    obtain ⟨w1, w2, w3, w4, w5⟩ := hpl d hdL
    obtain ⟨q, i, en, b1, b2, b3, b4, b5, b6, b7, b8, b9⟩ := hpr.2 d hdL
    have hen : en < 2 := by rcases b9 with ⟨z, _⟩ | ⟨z, _⟩ <;> omega
    obtain ⟨r, r', e1, e2, Ox, Ex, hfc, hfr, htr2, hfo2, hac2, har2, h79, hOx, hpx⟩ := lp_up2 (b := mX1_goOn_36_L17 (mX1_goOn_36 f) (nI d) (nI e)) (b' := mX12_goes_63_L111 (mX12_goes_63 f) (nI s) (nI d) (nI (SZ T n d Q)) (nI e) (nI i)) (fun x st st' => ∃ Mx Mx' Ox Ex, st = (nI x, Mx) ∧ st' = (nI (x + 2), Mx') ∧ fr (fC9 d) M Mx ∧ fr (fR9 d) M' Mx' ∧ Mx.1 36 10 = Mx'.1 63 35 ∧ Mx.1 36 11 = Mx'.1 63 36 ∧ accC n Ox Ex Mx ∧ (th = 0 → accR n Ox Ex Mx') ∧ (th = 1 → Mx'.1 79 = M'.1 79 ∧ Mx'.1 80 = M'.1 80) ∧ (∀ p, p ≤ n → O p ≤ Ox p ∧ Ox p ≤ O p + 1) ∧ ∀ p, p ≤ n → Ox p ≠ O p → cp T n d Q (p + lr9 W L d) = 1 ∧ spot T n W L d p < x + 2 ∧ p + L ≤ n) (fun Mx Mx' => ∃ Ox Ex, fr (fC9 d) M Mx ∧ fr (fR9 d) M' Mx' ∧ Mx.1 36 10 = Mx'.1 63 35 ∧ Mx.1 36 11 = Mx'.1 63 36 ∧ accC n Ox Ex Mx ∧ (th = 0 → accR n Ox Ex Mx') ∧ (th = 1 → Mx'.1 79 = M'.1 79 ∧ Mx'.1 80 = M'.1 80) ∧ (∀ p, p ≤ n → O p ≤ Ox p ∧ Ox p ≤ O p + 1) ∧ ∀ p, p ≤ n → Ox p ≠ O p → cp T n d Q (p + lr9 W L d) = 1 ∧ p + L ≤ n) (N := 8) (by omega) (fun x st st' hx hst => by
      obtain ⟨Mx, Mx', Ox, Ex, rfl, rfl, hfc, hfr, htx, hfx, hax, hrx', h79, hox, hpx⟩ := hst
      have hpcx := (hpc.fr hfc).2 d hdL
      obtain ⟨c41, c42, c43, c44⟩ := hpcx
      have hcxx : cx T n Mx := hcx.fr hfc (fun b k _ _ => by unfold fC9; omega)
      have hprx := pR.fr hs hpr hfr
      have hrxx : rx T n Mx' := hrx.fr hfr (by unfold fR9; omega) (fun k => by unfold fR9; omega)
      have g83 : Mx'.1 83 d = nI q := by rw [hfr.2 _ _ (by unfold fR9; omega)]; exact b1
      have g81 : Mx'.1 81 q = nI (wt d) := by rw [hfr.2 _ _ (by unfold fR9; omega)]; exact b3
      have gce : Mx'.1 (109 + 3 * s + 2) i = nI (ce d) := by rw [hfr.2 _ _ (by unfold fR9; omega)]; exact b7
      have hch := c_hasL hcxx.1.2.2.2.2 hx
      have hrh := r_hasLetter (s := x + 2) hT hrxx (by omega)
      have keep : ∀ (My My' : me_M), fr (fC9 d) M My → fr (fR9 d) M' My' → My.1 36 10 = My'.1 63 35 → My.1 36 11 = My'.1 63 36 → accC n Ox Ex My → (th = 0 → accR n Ox Ex My') → (th = 1 → My'.1 79 = M'.1 79 ∧ My'.1 80 = M'.1 80) → ∃ Mz Mz' Oz Ez, (nI (x + 1), My) = (nI (x + 1), Mz) ∧ (nI (x + 1 + 2), My') = (nI (x + 1 + 2), Mz') ∧ fr (fC9 d) M Mz ∧ fr (fR9 d) M' Mz' ∧ Mz.1 36 10 = Mz'.1 63 35 ∧ Mz.1 36 11 = Mz'.1 63 36 ∧ accC n Oz Ez Mz ∧ (th = 0 → accR n Oz Ez Mz') ∧ (th = 1 → Mz'.1 79 = M'.1 79 ∧ Mz'.1 80 = M'.1 80) ∧ (∀ p, p ≤ n → O p ≤ Oz p ∧ Oz p ≤ O p + 1) ∧ ∀ p, p ≤ n → Oz p ≠ O p → cp T n d Q (p + lr9 W L d) = 1 ∧ spot T n W L d p < x + 1 + 2 ∧ p + L ≤ n := fun My My' a1 a2 a3 a4 a5 a6 a7 => ⟨My, My', Ox, Ex, rfl, rfl, a1, a2, a3, a4, a5, a6, a7, hox, fun p hp hne => by have := hpx p hp hne; exact ⟨this.1, by omega, this.2.2⟩⟩
      cases hh : hl T n (x + 2) with
      | false =>
        rw [hh, if_neg (by decide)] at hch hrh
        refine ⟨(nI (x + 1), Mx), (nI (x + 1 + 2), Mx'), ?_, ?_, keep Mx Mx' hfc hfr htx hfx hax hrx' h79⟩
        · simp only [mX1_goOn_36_L17, mX1_goOn_36_J40, mX1_goOn_36_J112]
          by_cases z : x = wt d - 2
          · simp (disch := omega) only [Option.bind_some, if_true, if_false, Sum.elim_inl, Sum.elim_inr, li0, li1, li2, li3, li4, li5, li6, li7, li8, li9, li10, li12, li16, li20, li24, li25, li31, li32, li40, li41, li42, li48, li57, li59, li97, li104, li105, li124, li126, li240, li241, nI_add, nI_subc, nI_subm, nI_mulc, nI_nm, pu_r, pu_t, pu_a, pu_le_t, pu_le_f, pu_lt_t, pu_lt_f, pu_eq_t, pu_eq_f, nm_eq, nm_eq2, nm_lt, nm_lt2, nm_le, nm_le2, nm_ss, nm_sp, pu_ss, pu_snq, pu_neq, eq_self, and_true, true_and, and_false, false_and, or_true, true_or, or_false, false_or, not_true_eq_false, not_false_eq_true, c41, hch]
          · simp (disch := omega) only [Option.bind_some, if_true, if_false, Sum.elim_inl, Sum.elim_inr, li0, li1, li2, li3, li4, li5, li6, li7, li8, li9, li10, li12, li16, li20, li24, li25, li31, li32, li40, li41, li42, li48, li57, li59, li97, li104, li105, li124, li126, li240, li241, nI_add, nI_subc, nI_subm, nI_mulc, nI_nm, pu_r, pu_t, pu_a, pu_le_t, pu_le_f, pu_lt_t, pu_lt_f, pu_eq_t, pu_eq_f, nm_eq, nm_eq2, nm_lt, nm_lt2, nm_le, nm_le2, nm_ss, nm_sp, pu_ss, pu_snq, pu_neq, eq_self, and_true, true_and, and_false, false_and, or_true, true_or, or_false, false_or, not_true_eq_false, not_false_eq_true, c41, hch]
        · simp only [mX12_goes_63_L111, mX12_goes_63_J245]
          simp (disch := omega) only [Option.bind_some, if_true, if_false, Sum.elim_inl, Sum.elim_inr, li0, li1, li2, li3, li4, li5, li6, li7, li8, li9, li10, li12, li16, li20, li24, li25, li31, li32, li40, li41, li42, li48, li57, li59, li97, li104, li105, li124, li126, li240, li241, nI_add, nI_subc, nI_subm, nI_mulc, nI_nm, pu_r, pu_t, pu_a, pu_le_t, pu_le_f, pu_lt_t, pu_lt_f, pu_eq_t, pu_eq_f, nm_eq, nm_eq2, nm_lt, nm_lt2, nm_le, nm_le2, nm_ss, nm_sp, pu_ss, pu_snq, pu_neq, eq_self, and_true, true_and, and_false, false_and, or_true, true_or, or_false, false_or, not_true_eq_false, not_false_eq_true, hrh, show x + 2 + 1 = x + 1 + 2 by omega]
      | true =>
        rw [hh, if_pos rfl] at hch hrh
        -- the mismatches with this letter
        obtain ⟨e', he'⟩ : ∃ e', e' = if x + 2 = wt d then e else e + 1 := ⟨_, rfl⟩
        have heb : e' ≤ d + 1 := by rw [he']; split <;> omega
        have hclsL : mX1_goOn_36_L17 (mX1_goOn_36 f) (nI d) (nI e) (nI x, Mx) = mX1_goOn_36_J40 (mX1_goOn_36 f) (nI d) (nI e) (nI x) Mx (nI e') := by
          simp only [mX1_goOn_36_L17]
          rw [he']
          by_cases z : x + 2 = wt d
          · rw [if_pos z]; simp (disch := omega) only [Option.bind_some, if_true, if_false, Sum.elim_inl, Sum.elim_inr, li0, li1, li2, li3, li4, li5, li6, li7, li8, li9, li10, li12, li16, li20, li24, li25, li31, li32, li40, li41, li42, li48, li57, li59, li97, li104, li105, li124, li126, li240, li241, nI_add, nI_subc, nI_subm, nI_mulc, nI_nm, pu_r, pu_t, pu_a, pu_le_t, pu_le_f, pu_lt_t, pu_lt_f, pu_eq_t, pu_eq_f, nm_eq, nm_eq2, nm_lt, nm_lt2, nm_le, nm_le2, nm_ss, nm_sp, pu_ss, pu_snq, pu_neq, eq_self, and_true, true_and, and_false, false_and, or_true, true_or, or_false, false_or, not_true_eq_false, not_false_eq_true, c41]
          · rw [if_neg z]; simp (disch := omega) only [Option.bind_some, if_true, if_false, Sum.elim_inl, Sum.elim_inr, li0, li1, li2, li3, li4, li5, li6, li7, li8, li9, li10, li12, li16, li20, li24, li25, li31, li32, li40, li41, li42, li48, li57, li59, li97, li104, li105, li124, li126, li240, li241, nI_add, nI_subc, nI_subm, nI_mulc, nI_nm, pu_r, pu_t, pu_a, pu_le_t, pu_le_f, pu_lt_t, pu_lt_f, pu_eq_t, pu_eq_f, nm_eq, nm_eq2, nm_lt, nm_lt2, nm_le, nm_le2, nm_ss, nm_sp, pu_ss, pu_snq, pu_neq, eq_self, and_true, true_and, and_false, false_and, or_true, true_or, or_false, false_or, not_true_eq_false, not_false_eq_true, c41]
        have hrefL : mX12_goes_63_L111 (mX12_goes_63 f) (nI s) (nI d) (nI (SZ T n d Q)) (nI e) (nI i) (nI (x + 2), Mx') = mX12_goes_63_J153 (mX12_goes_63 f) (nI s) (nI d) (nI (SZ T n d Q)) (nI e) (nI i) (nI (x + 2)) Mx' (nI (e' - e)) := by
          simp only [mX12_goes_63_L111]
          rw [he']
          by_cases z : x + 2 = wt d
          · rw [if_pos z]; simp (disch := omega) only [Option.bind_some, if_true, if_false, Sum.elim_inl, Sum.elim_inr, li0, li1, li2, li3, li4, li5, li6, li7, li8, li9, li10, li12, li16, li20, li24, li25, li31, li32, li40, li41, li42, li48, li57, li59, li97, li104, li105, li124, li126, li240, li241, nI_add, nI_subc, nI_subm, nI_mulc, nI_nm, pu_r, pu_t, pu_a, pu_le_t, pu_le_f, pu_lt_t, pu_lt_f, pu_eq_t, pu_eq_f, nm_eq, nm_eq2, nm_lt, nm_lt2, nm_le, nm_le2, nm_ss, nm_sp, pu_ss, pu_snq, pu_neq, eq_self, and_true, true_and, and_false, false_and, or_true, true_or, or_false, false_or, not_true_eq_false, not_false_eq_true, hrh, g83, g81, Nat.sub_self]
          · rw [if_neg z]; simp (disch := omega) only [Option.bind_some, if_true, if_false, Sum.elim_inl, Sum.elim_inr, li0, li1, li2, li3, li4, li5, li6, li7, li8, li9, li10, li12, li16, li20, li24, li25, li31, li32, li40, li41, li42, li48, li57, li59, li97, li104, li105, li124, li126, li240, li241, nI_add, nI_subc, nI_subm, nI_mulc, nI_nm, pu_r, pu_t, pu_a, pu_le_t, pu_le_f, pu_lt_t, pu_lt_f, pu_eq_t, pu_eq_f, nm_eq, nm_eq2, nm_lt, nm_lt2, nm_le, nm_le2, nm_ss, nm_sp, pu_ss, pu_snq, pu_neq, eq_self, and_true, true_and, and_false, false_and, or_true, true_or, or_false, false_or, not_true_eq_false, not_false_eq_true, hrh, g83, g81, Nat.add_sub_cancel_left]
        rw [hclsL, hrefL]
        have hee : e + (e' - e) = e' := by rw [he']; split <;> omega
        simp only [mX1_goOn_36_J40, mX12_goes_63_J153]
        by_cases hc : e' ≤ ce d
        · -- tried
          have hfct : fr (fC9 d) M (me_s Mx 36 10 (Mx.1 36 10 + nI 1)) := hfc.st (by unfold fC9; omega)
          have hfrt : fr (fR9 d) M' (me_s Mx' 63 35 (Mx'.1 63 35 + nI 1)) := hfr.st (by unfold fR9; omega)
          have hcxt : cx T n (me_s Mx 36 10 (Mx.1 36 10 + nI 1)) := hcx.fr hfct (fun b k _ _ => by unfold fC9; omega)
          have hspt : spn 38 39 40 T n d Q (me_s Mx 36 10 (Mx.1 36 10 + nI 1)) := hsp.fr hfct (by unfold fC9; omega) (by unfold fC9; omega) (by unfold fC9; omega)
          obtain ⟨M2, e2, f2r, g2⟩ := g_extend (a := 38) (b := 39) (s := 40) (L := 41) (k := d) (c := x) (w := W d) hT hcxt.2.1 hcxt.2.2 (by omega) (by omega) hx w3 (fun i hi => by have := (hQ i hi).1; omega) hspt (by omega)
          have e2 : mX7_extend_37 (me_s Mx 36 10 (Mx.1 36 10 + nI 1)) (nI d) (nI x) (nI (W d)) = some (nI (SZ T n (d + 1) (gro (W d) d Q (x + 2))), M2) := by rw [h37e]; exact e2
          have hszb : SZ T n (d + 1) (gro (W d) d Q (x + 2)) ≤ n + 1 := ct_le _ _
          have hfc2 : fr (fC9 d) M M2 := hfct.tr (f2r.up (fun b k h => by unfold fC9; omega))
          have hac2 : accC n Ox Ex M2 := fun p hp => by
            rw [f2r.2 45 p (by omega), f2r.2 46 p (by omega), me_s_ne (by decide), me_s_ne (by decide)]
            exact hax p hp
          have h210 : M2.1 36 10 = Mx.1 36 10 + nI 1 := by rw [f2r.2 _ _ (by omega)]; exact pu_ss
          have h211 : M2.1 36 11 = Mx.1 36 11 := by rw [f2r.2 _ _ (by omega)]; exact pu_sn (by decide)
          have h243 : M2.1 43 d = nI (fl d) := by rw [f2r.2 _ _ (by omega), me_s_ne (by decide)]; exact c43
          have hrt : th = 0 → accR n Ox Ex (me_s Mx' 63 35 (Mx'.1 63 35 + nI 1)) := fun z p hp => by
            rw [me_s_ne (by decide), me_s_ne (by decide)]
            exact hrx' z p hp
          have h79t : th = 1 → (me_s Mx' 63 35 (Mx'.1 63 35 + nI 1)).1 79 = M'.1 79 ∧ (me_s Mx' 63 35 (Mx'.1 63 35 + nI 1)).1 80 = M'.1 80 := fun z => by
            rw [me_s_ne (by decide), me_s_ne (by decide)]
            exact h79 z
          have g86 : Mx'.1 86 d = nI en := by rw [hfr.2 _ _ (by unfold fR9; omega)]; exact b8
          have g84 : Mx'.1 84 d = nI (W d) := by rw [hfr.2 _ _ (by unfold fR9; omega)]; exact b4
          by_cases hF : fl d ≤ e'
          · -- narrowed
            have hrxt : rx T n (me_s Mx' 63 35 (Mx'.1 63 35 + nI 1)) := hrx.fr hfrt (by unfold fR9; omega) (fun k => by unfold fR9; omega)
            obtain ⟨M3, e3, f3, g3⟩ := r_narrows (w := W d) (c := x + 2) (M := me_s Mx' 63 35 (Mx'.1 63 35 + nI 1)) hT hrxt (by omega) w3 (by omega) (by omega) (hrow.fr hfrt (fun k => by unfold fR9; omega)) (by rw [me_s_ne (by decide)]; exact g84)
            have hfr3 : fr (fR9 d) M' M3 := hfrt.tr (f3.up (fun b k h => by unfold fR9; omega))
            have h335 : M3.1 63 35 = Mx'.1 63 35 + nI 1 := by rw [f3.2 _ _ (by omega)]; exact pu_ss
            have h336 : M3.1 63 36 = Mx'.1 63 36 := by rw [f3.2 _ _ (by omega)]; exact pu_sn (by decide)
            have hr3 : th = 0 → accR n Ox Ex M3 := fun z p hp => by
              rw [f3.2 79 p (by omega), f3.2 80 p (by omega)]
              exact hrt z p hp
            have h793 : th = 1 → M3.1 79 = M'.1 79 ∧ M3.1 80 = M'.1 80 := fun z => ⟨by funext p; rw [f3.2 79 p (by omega)]; exact congrFun (h79t z).1 p, by funext p; rw [f3.2 80 p (by omega)]; exact congrFun (h79t z).2 p⟩
            have href : ∀ (v : Option ((Int32 × me_M) ⊕ me_M)), mX12_goes_63_J218 (mX12_goes_63 f) (nI s) (nI d) (nI (SZ T n d Q)) (nI e) (nI i) (nI (x + 2)) (nI e') (me_s Mx' 63 35 (Mx'.1 63 35 + nI 1)) = v → mX12_goes_63_J153 (mX12_goes_63 f) (nI s) (nI d) (nI (SZ T n d Q)) (nI e) (nI i) (nI (x + 2)) Mx' (nI (e' - e)) = v := fun v hv => by
              simp only [mX12_goes_63_J153]
              rcases b9 with ⟨z1, z2⟩ | ⟨z1, z2⟩
              · have gfl : Mx'.1 (109 + 3 * s + 1) i = nI (fl d) := by rw [hfr.2 _ _ (by unfold fR9; omega)]; exact z2
                simp (disch := omega) only [Option.bind_some, if_true, if_false, Sum.elim_inl, Sum.elim_inr, li0, li1, li2, li3, li4, li5, li6, li7, li8, li9, li10, li12, li16, li20, li24, li25, li31, li32, li40, li41, li42, li48, li57, li59, li97, li104, li105, li124, li126, li240, li241, nI_add, nI_subc, nI_subm, nI_mulc, nI_nm, pu_r, pu_t, pu_a, pu_le_t, pu_le_f, pu_lt_t, pu_lt_f, pu_eq_t, pu_eq_f, nm_eq, nm_eq2, nm_lt, nm_lt2, nm_le, nm_le2, nm_ss, nm_sp, pu_ss, pu_snq, pu_neq, eq_self, and_true, true_and, and_false, false_and, or_true, true_or, or_false, false_or, not_true_eq_false, not_false_eq_true, Nat.add_sub_cancel_left, gce, hee, g86, gfl, hv]
              · simp (disch := omega) only [Option.bind_some, if_true, if_false, Sum.elim_inl, Sum.elim_inr, li0, li1, li2, li3, li4, li5, li6, li7, li8, li9, li10, li12, li16, li20, li24, li25, li31, li32, li40, li41, li42, li48, li57, li59, li97, li104, li105, li124, li126, li240, li241, nI_add, nI_subc, nI_subm, nI_mulc, nI_nm, pu_r, pu_t, pu_a, pu_le_t, pu_le_f, pu_lt_t, pu_lt_f, pu_eq_t, pu_eq_f, nm_eq, nm_eq2, nm_lt, nm_lt2, nm_le, nm_le2, nm_ss, nm_sp, pu_ss, pu_snq, pu_neq, eq_self, and_true, true_and, and_false, false_and, or_true, true_or, or_false, false_or, not_true_eq_false, not_false_eq_true, Nat.add_sub_cancel_left, gce, hee, g86, hv]
            simp only [mX12_goes_63_J153] at href
            by_cases hZ : SZ T n (d + 1) (gro (W d) d Q (x + 2)) = 0
            · refine ⟨(nI (x + 1), M2), (nI (x + 1 + 2), M3), ?_, href _ ?_, keep M2 M3 hfc2 hfr3 (by rw [h210, h335, htx]) (by rw [h211, h336, hfx]) hac2 hr3 h793⟩
              · simp only [mX1_goOn_36_J112]
                simp (disch := omega) only [Option.bind_some, if_true, if_false, Sum.elim_inl, Sum.elim_inr, li0, li1, li2, li3, li4, li5, li6, li7, li8, li9, li10, li12, li16, li20, li24, li25, li31, li32, li40, li41, li42, li48, li57, li59, li97, li104, li105, li124, li126, li240, li241, nI_add, nI_subc, nI_subm, nI_mulc, nI_nm, pu_r, pu_t, pu_a, pu_le_t, pu_le_f, pu_lt_t, pu_lt_f, pu_eq_t, pu_eq_f, nm_eq, nm_eq2, nm_lt, nm_lt2, nm_le, nm_le2, nm_ss, nm_sp, pu_ss, pu_snq, pu_neq, eq_self, and_true, true_and, and_false, false_and, or_true, true_or, or_false, false_or, not_true_eq_false, not_false_eq_true, hch, c44, c42, e2]
              · simp only [mX12_goes_63_J218, mX12_goes_63_J245]
                simp (disch := omega) only [Option.bind_some, if_true, if_false, Sum.elim_inl, Sum.elim_inr, li0, li1, li2, li3, li4, li5, li6, li7, li8, li9, li10, li12, li16, li20, li24, li25, li31, li32, li40, li41, li42, li48, li57, li59, li97, li104, li105, li124, li126, li240, li241, nI_add, nI_subc, nI_subm, nI_mulc, nI_nm, pu_r, pu_t, pu_a, pu_le_t, pu_le_f, pu_lt_t, pu_lt_f, pu_eq_t, pu_eq_f, nm_eq, nm_eq2, nm_lt, nm_lt2, nm_le, nm_le2, nm_ss, nm_sp, pu_ss, pu_snq, pu_neq, eq_self, and_true, true_and, and_false, false_and, or_true, true_or, or_false, false_or, not_true_eq_false, not_false_eq_true, e3, show x + 2 + 1 = x + 1 + 2 by omega]
            · have hQ' : ∀ i, i < d + 1 → 2 ≤ gro (W d) d Q (x + 2) i ∧ gro (W d) d Q (x + 2) i < 10 := fun i hi => by
                unfold gro
                by_cases z : W d = 0
                · rw [if_pos z]
                  match i with
                  | 0 => show 2 ≤ x + 2 ∧ x + 2 < 10; omega
                  | i + 1 => exact hQ i (by omega)
                · rw [if_neg z]
                  unfold snoc
                  by_cases y : i = d
                  · rw [if_pos y]; omega
                  · rw [if_neg y]; exact hQ i (by omega)
              obtain ⟨M4, M4', O1, E1, r1, r2, r3, r4, r5, r6, r7, r8, r8b, r9, r10⟩ := ih (d + 1) (gro (W d) d Q (x + 2)) e' f M2 M3 Ox Ex (by omega) (by omega) heb hQ' (hpc.fr hfc2) (hcx.fr hfc2 (fun b k _ _ => by unfold fC9; omega)) g2 (pR.fr hs hpr hfr3) (hrx.fr hfr3 (by unfold fR9; omega) (fun k => by unfold fR9; omega)) g3 (by rw [hfr3.2 _ _ (by unfold fR9; omega)]; exact h37) (by rw [h210, h335, htx]) (by rw [h211, h336, hfx]) hac2 hr3 (fun p hp => by have := hO p hp; have := hox p hp; omega)
              refine ⟨(nI (x + 1), M4), (nI (x + 1 + 2), M4'), ?_, href _ ?_, M4, M4', O1, E1, rfl, rfl, hfc2.tr (r3.up (fun b k h => by unfold fC9 at h ⊢; omega)), hfr3.tr (r4.up (fun b k h => by unfold fR9 at h ⊢; omega)), r5, r6, r7, r8, fun z => ⟨(r8b z).1.trans (h793 z).1, (r8b z).2.trans (h793 z).2⟩, fun p hp => ?_, fun p hp hne => ?_⟩
              · simp only [mX1_goOn_36_J112]
                simp (disch := omega) only [Option.bind_some, if_true, if_false, Sum.elim_inl, Sum.elim_inr, li0, li1, li2, li3, li4, li5, li6, li7, li8, li9, li10, li12, li16, li20, li24, li25, li31, li32, li40, li41, li42, li48, li57, li59, li97, li104, li105, li124, li126, li240, li241, nI_add, nI_subc, nI_subm, nI_mulc, nI_nm, pu_r, pu_t, pu_a, pu_le_t, pu_le_f, pu_lt_t, pu_lt_f, pu_eq_t, pu_eq_f, nm_eq, nm_eq2, nm_lt, nm_lt2, nm_le, nm_le2, nm_ss, nm_sp, pu_ss, pu_snq, pu_neq, eq_self, and_true, true_and, and_false, false_and, or_true, true_or, or_false, false_or, not_true_eq_false, not_false_eq_true, hch, c44, c42, e2, h243, r1]
              · simp only [mX12_goes_63_J218, mX12_goes_63_J245]
                simp (disch := omega) only [Option.bind_some, if_true, if_false, Sum.elim_inl, Sum.elim_inr, li0, li1, li2, li3, li4, li5, li6, li7, li8, li9, li10, li12, li16, li20, li24, li25, li31, li32, li40, li41, li42, li48, li57, li59, li97, li104, li105, li124, li126, li240, li241, nI_add, nI_subc, nI_subm, nI_mulc, nI_nm, pu_r, pu_t, pu_a, pu_le_t, pu_le_f, pu_lt_t, pu_lt_f, pu_eq_t, pu_eq_f, nm_eq, nm_eq2, nm_lt, nm_lt2, nm_le, nm_le2, nm_ss, nm_sp, pu_ss, pu_snq, pu_neq, eq_self, and_true, true_and, and_false, false_and, or_true, true_or, or_false, false_or, not_true_eq_false, not_false_eq_true, e3, r2, show x + 2 + 1 = x + 1 + 2 by omega]
              · have a1 := hox p hp
                have a2 := r9 p hp
                by_cases z : O1 p = Ox p
                · omega
                · have a3 := cp_step hdL (r10 p hp z).1
                  by_cases y : Ox p = O p
                  · omega
                  · have := (hpx p hp y).2.1
                    omega
              · by_cases z : O1 p = Ox p
                · rw [z] at hne
                  have := hpx p hp hne
                  exact ⟨this.1, by omega, this.2.2⟩
                · have a3 := cp_step hdL (r10 p hp z).1
                  exact ⟨a3.1, by omega, (r10 p hp z).2⟩
          · rcases b9 with ⟨z1, z2⟩ | ⟨z1, z2⟩
            · have gfl : Mx'.1 (109 + 3 * s + 1) i = nI (fl d) := by rw [hfr.2 _ _ (by unfold fR9; omega)]; exact z2
              refine ⟨(nI (x + 1), M2), (nI (x + 1 + 2), me_s Mx' 63 35 (Mx'.1 63 35 + nI 1)), ?_, ?_, keep M2 _ hfc2 hfrt (by rw [h210, htx]; exact pu_ss.symm) (by rw [h211, hfx]; exact (pu_sn (by decide)).symm) hac2 hrt h79t⟩
              · simp only [mX1_goOn_36_J112]
                by_cases hZ : SZ T n (d + 1) (gro (W d) d Q (x + 2)) = 0
                · simp (disch := omega) only [Option.bind_some, if_true, if_false, Sum.elim_inl, Sum.elim_inr, li0, li1, li2, li3, li4, li5, li6, li7, li8, li9, li10, li12, li16, li20, li24, li25, li31, li32, li40, li41, li42, li48, li57, li59, li97, li104, li105, li124, li126, li240, li241, nI_add, nI_subc, nI_subm, nI_mulc, nI_nm, pu_r, pu_t, pu_a, pu_le_t, pu_le_f, pu_lt_t, pu_lt_f, pu_eq_t, pu_eq_f, nm_eq, nm_eq2, nm_lt, nm_lt2, nm_le, nm_le2, nm_ss, nm_sp, pu_ss, pu_snq, pu_neq, eq_self, and_true, true_and, and_false, false_and, or_true, true_or, or_false, false_or, not_true_eq_false, not_false_eq_true, hch, c44, c42, e2]
                · simp (disch := omega) only [Option.bind_some, if_true, if_false, Sum.elim_inl, Sum.elim_inr, li0, li1, li2, li3, li4, li5, li6, li7, li8, li9, li10, li12, li16, li20, li24, li25, li31, li32, li40, li41, li42, li48, li57, li59, li97, li104, li105, li124, li126, li240, li241, nI_add, nI_subc, nI_subm, nI_mulc, nI_nm, pu_r, pu_t, pu_a, pu_le_t, pu_le_f, pu_lt_t, pu_lt_f, pu_eq_t, pu_eq_f, nm_eq, nm_eq2, nm_lt, nm_lt2, nm_le, nm_le2, nm_ss, nm_sp, pu_ss, pu_snq, pu_neq, eq_self, and_true, true_and, and_false, false_and, or_true, true_or, or_false, false_or, not_true_eq_false, not_false_eq_true, hch, c44, c42, e2, h243]
              · simp only [mX12_goes_63_J245]
                simp (disch := omega) only [Option.bind_some, if_true, if_false, Sum.elim_inl, Sum.elim_inr, li0, li1, li2, li3, li4, li5, li6, li7, li8, li9, li10, li12, li16, li20, li24, li25, li31, li32, li40, li41, li42, li48, li57, li59, li97, li104, li105, li124, li126, li240, li241, nI_add, nI_subc, nI_subm, nI_mulc, nI_nm, pu_r, pu_t, pu_a, pu_le_t, pu_le_f, pu_lt_t, pu_lt_f, pu_eq_t, pu_eq_f, nm_eq, nm_eq2, nm_lt, nm_lt2, nm_le, nm_le2, nm_ss, nm_sp, pu_ss, pu_snq, pu_neq, eq_self, and_true, true_and, and_false, false_and, or_true, true_or, or_false, false_or, not_true_eq_false, not_false_eq_true, Nat.add_sub_cancel_left, gce, hee, g86, gfl, show x + 2 + 1 = x + 1 + 2 by omega]
            · omega
        · refine ⟨(nI (x + 1), Mx), (nI (x + 1 + 2), Mx'), ?_, ?_, keep Mx Mx' hfc hfr htx hfx hax hrx' h79⟩
          · simp only [mX1_goOn_36_J112]
            simp (disch := omega) only [Option.bind_some, if_true, if_false, Sum.elim_inl, Sum.elim_inr, li0, li1, li2, li3, li4, li5, li6, li7, li8, li9, li10, li12, li16, li20, li24, li25, li31, li32, li40, li41, li42, li48, li57, li59, li97, li104, li105, li124, li126, li240, li241, nI_add, nI_subc, nI_subm, nI_mulc, nI_nm, pu_r, pu_t, pu_a, pu_le_t, pu_le_f, pu_lt_t, pu_lt_f, pu_eq_t, pu_eq_f, nm_eq, nm_eq2, nm_lt, nm_lt2, nm_le, nm_le2, nm_ss, nm_sp, pu_ss, pu_snq, pu_neq, eq_self, and_true, true_and, and_false, false_and, or_true, true_or, or_false, false_or, not_true_eq_false, not_false_eq_true, hch, c44]
          · simp only [mX12_goes_63_J245]
            simp (disch := omega) only [Option.bind_some, if_true, if_false, Sum.elim_inl, Sum.elim_inr, li0, li1, li2, li3, li4, li5, li6, li7, li8, li9, li10, li12, li16, li20, li24, li25, li31, li32, li40, li41, li42, li48, li57, li59, li97, li104, li105, li124, li126, li240, li241, nI_add, nI_subc, nI_subm, nI_mulc, nI_nm, pu_r, pu_t, pu_a, pu_le_t, pu_le_f, pu_lt_t, pu_lt_f, pu_eq_t, pu_eq_f, nm_eq, nm_eq2, nm_lt, nm_lt2, nm_le, nm_le2, nm_ss, nm_sp, pu_ss, pu_snq, pu_neq, eq_self, and_true, true_and, and_false, false_and, or_true, true_or, or_false, false_or, not_true_eq_false, not_false_eq_true, Nat.add_sub_cancel_left, gce, hee, show x + 2 + 1 = x + 1 + 2 by omega]) (fun st st' hst => by
      obtain ⟨Mx, Mx', Ox, Ex, rfl, rfl, hfc, hfr, htx, hfx, hax, hrx', h79, hox, hpx⟩ := hst
      refine ⟨Mx, Mx', ?_, ?_, Ox, Ex, hfc, hfr, htx, hfx, hax, hrx', h79, hox, fun p hp hne => by have := hpx p hp hne; exact ⟨this.1, this.2.2⟩⟩
      · simp only [mX1_goOn_36_L17]
        simp (disch := omega) only [Option.bind_some, if_true, if_false, Sum.elim_inl, Sum.elim_inr, li0, li1, li2, li3, li4, li5, li6, li7, li8, li9, li10, li12, li16, li20, li24, li25, li31, li32, li40, li41, li42, li48, li57, li59, li97, li104, li105, li124, li126, li240, li241, nI_add, nI_subc, nI_subm, nI_mulc, nI_nm, pu_r, pu_t, pu_a, pu_le_t, pu_le_f, pu_lt_t, pu_lt_f, pu_eq_t, pu_eq_f, nm_eq, nm_eq2, nm_lt, nm_lt2, nm_le, nm_le2, nm_ss, nm_sp, pu_ss, pu_snq, pu_neq, eq_self, and_true, true_and, and_false, false_and, or_true, true_or, or_false, false_or, not_true_eq_false, not_false_eq_true]
      · simp only [mX12_goes_63_L111]
        simp (disch := omega) only [Option.bind_some, if_true, if_false, Sum.elim_inl, Sum.elim_inr, li0, li1, li2, li3, li4, li5, li6, li7, li8, li9, li10, li12, li16, li20, li24, li25, li31, li32, li40, li41, li42, li48, li57, li59, li97, li104, li105, li124, li126, li240, li241, nI_add, nI_subc, nI_subm, nI_mulc, nI_nm, pu_r, pu_t, pu_a, pu_le_t, pu_le_f, pu_lt_t, pu_lt_f, pu_eq_t, pu_eq_f, nm_eq, nm_eq2, nm_lt, nm_lt2, nm_le, nm_le2, nm_ss, nm_sp, pu_ss, pu_snq, pu_neq, eq_self, and_true, true_and, and_false, false_and, or_true, true_or, or_false, false_or, not_true_eq_false, not_false_eq_true]) (s0 := (nI 0, M)) (s0' := (nI 2, M')) ⟨M, M', O, E, rfl, rfl, fr.rf, fr.rf, htr, hfo, hac, har, fun _ => ⟨rfl, rfl⟩, fun p _ => ⟨Nat.le_refl _, by omega⟩, fun p hp hne => absurd rfl hne⟩
    refine ⟨r, r', Ox, Ex, ?_, ?_, hfc, hfr, htr2, hfo2, hac2, har2, h79, hOx, hpx⟩
    · simp only [mX1_goOn_36, mX1_goOn_36_b]
      simp (disch := omega) only [Option.bind_some, if_true, if_false, Sum.elim_inl, Sum.elim_inr, li0, li1, li2, li3, li4, li5, li6, li7, li8, li9, li10, li12, li16, li20, li24, li25, li31, li32, li40, li41, li42, li48, li57, li59, li97, li104, li105, li124, li126, li240, li241, nI_add, nI_subc, nI_subm, nI_mulc, nI_nm, pu_r, pu_t, pu_a, pu_le_t, pu_le_f, pu_lt_t, pu_lt_f, pu_eq_t, pu_eq_f, nm_eq, nm_eq2, nm_lt, nm_lt2, nm_le, nm_le2, nm_ss, nm_sp, pu_ss, pu_snq, pu_neq, eq_self, and_true, true_and, and_false, false_and, or_true, true_or, or_false, false_or, not_true_eq_false, not_false_eq_true, hpc.1, e1]
    · simp only [mX12_goes_63, mX12_goes_63_b]
      simp (disch := omega) only [Option.bind_some, if_true, if_false, Sum.elim_inl, Sum.elim_inr, li0, li1, li2, li3, li4, li5, li6, li7, li8, li9, li10, li12, li16, li20, li24, li25, li31, li32, li40, li41, li42, li48, li57, li59, li97, li104, li105, li124, li126, li240, li241, nI_add, nI_subc, nI_subm, nI_mulc, nI_nm, pu_r, pu_t, pu_a, pu_le_t, pu_le_f, pu_lt_t, pu_lt_f, pu_eq_t, pu_eq_f, nm_eq, nm_eq2, nm_lt, nm_lt2, nm_le, nm_le2, nm_ss, nm_sp, pu_ss, pu_snq, pu_neq, eq_self, and_true, true_and, and_false, false_and, or_true, true_or, or_false, false_or, not_true_eq_false, not_false_eq_true, hpr.1, b5, e2]
