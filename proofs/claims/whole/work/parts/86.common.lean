/-! ===== call: common ===== -/
theorem lf_out {T : Nat → Nat} {n : Nat} : ∀ d q, q + d = n → q + lf T n q = n ∨ T (q + lf T n q) = 1
  | 0, q, h => by rw [lf_end (by omega)]; exact Or.inl (by omega)
  | d + 1, q, h => by
    rw [lf_rec (show q < n by omega)]
    by_cases c : T q = 1
    · rw [if_pos c]; exact Or.inr c
    · rw [if_neg c, show q + (lf T n (q + 1) + 1) = q + 1 + lf T n (q + 1) by omega]
      exact lf_out d (q + 1) (by omega)
theorem lf_end0 {T : Nat → Nat} {n q : Nat} (hq : q ≤ n) : q + lf T n q ≤ n ∧ lf T n (q + lf T n q) = 0 := by
  have h1 := lf_le (T := T) (n := n) q
  refine ⟨by omega, ?_⟩
  rcases lf_out (T := T) (n := n) (n - q) q (by omega) with h | h
  · rw [h]; exact lf_end (Nat.le_refl _)
  · by_cases c : q + lf T n q < n
    · rw [lf_rec c, if_pos h]
    · exact lf_end (by omega)
/-- reading the first document from behind tells how many letters are alike -/
theorem fta_lk {T : Nat → Nat} {n : Nat} : ∀ d p q, p + d = lf T n 0 → q ≤ n → fta T n T (lf T n 0) d q = lk T n p q
  | 0, p, q, h, hq => by
    have := (lf_end0 (T := T) (Nat.zero_le n)).2
    rw [Nat.zero_add, ← h, Nat.add_zero] at this
    have h2 := lk_lf (T := T) (n := n) (p := p) (q := q)
    show 0 = _
    omega
  | d + 1, p, q, h, hq => by
    have hl := lf_in (T := T) (n := n) p 0 (by omega)
    rw [Nat.zero_add] at hl
    show (if q < n ∧ T q = T (lf T n 0 - (d + 1)) then fta T n T (lf T n 0) d (q + 1) + 1 else 0) = _
    rw [show lf T n 0 - (d + 1) = p by omega]
    by_cases c : q < n
    · rw [lk_rec hl.1 c]
      by_cases e : T q = T p
      · rw [if_pos ⟨c, e⟩, if_pos ⟨e.symm, hl.2⟩, fta_lk d (p + 1) (q + 1) (by omega) (by omega)]
      · rw [if_neg (fun z => e z.2), if_neg (fun z => e z.1.symm)]
    · rw [if_neg (fun z => c z.1), lk_end (Or.inr (by omega))]
def md (T : Nat → Nat) (n p d : Nat) : Nat := mx (fun k => if p = bo T n d + k then lf T n p else lk T n p (bo T n d + k)) (lf T n (bo T n d))
def mn (b : Nat) (f : Nat → Nat) : Nat → Nat
  | 0 => b
  | k + 1 => min (mn b f k) (f k)
theorem mn_s (b : Nat) (f : Nat → Nat) (k : Nat) : mn b f (k + 1) = min (mn b f k) (f k) := rfl
theorem mn_ge {b c : Nat} {f : Nat → Nat} : ∀ k, c ≤ mn b f k ↔ (c ≤ b ∧ ∀ d, d < k → c ≤ f d)
  | 0 => ⟨fun h => ⟨h, fun d hd => absurd hd (Nat.not_lt_zero _)⟩, fun h => h.1⟩
  | k + 1 => by
    rw [mn_s]
    have ih := mn_ge (b := b) (c := c) (f := f) k
    refine ⟨fun h => ?_, fun h => ?_⟩
    · have h1 := ih.mp (by omega)
      refine ⟨h1.1, fun d hd => ?_⟩
      by_cases e : d = k
      · rw [e]; omega
      · exact h1.2 d (by omega)
    · have h1 := ih.mpr ⟨h.1, fun d hd => h.2 d (by omega)⟩
      have h2 := h.2 k (by omega)
      omega
theorem mn_le {b : Nat} {f : Nat → Nat} (k : Nat) : mn b f k ≤ b := ((mn_ge (c := mn b f k) k).mp (Nat.le_refl _)).1
/-- the most letters from p on that all documents have -/
def cm (T : Nat → Nat) (n p : Nat) : Nat := mn (lf T n p) (md T n p) (bars T n + 1)
theorem md_le {T : Nat → Nat} {n p d : Nat} : md T n p d ≤ lf T n p := mx_le (fun k _ => by
  split
  · exact Nat.le_refl _
  · exact lk_lf)
theorem bars_0 {T : Nat → Nat} {n : Nat} : ∀ q, q ≤ lf T n 0 → bars T q = 0
  | 0, _ => rfl
  | q + 1, h => by
    have hl := lf_in (T := T) (n := n) q 0 (by omega)
    rw [Nat.zero_add] at hl
    rw [bars_succ, bars_0 (n := n) q (by omega), if_neg hl.2]
theorem bo_gt {T : Nat → Nat} {n d : Nat} (hd : d ≤ bars T n) (h : 0 < d) : lf T n 0 < bo T n d := by
  obtain ⟨b1, b2, -, -⟩ := bo_ok hd
  rcases Nat.lt_or_ge (lf T n 0) (bo T n d) with c | c
  · exact c
  · have := bars_0 (T := T) (n := n) _ c
    omega
theorem bo_0 {T : Nat → Nat} {n : Nat} : bo T n 0 = 0 := (bo_ok (T := T) (n := n) (Nat.zero_le _)).2.2.1 rfl
theorem md_0 {T : Nat → Nat} {n p : Nat} (hp : p < lf T n 0) : md T n p 0 = lf T n p := by
  refine Nat.le_antisymm md_le ?_
  have := mx_ge (f := fun k => if p = bo T n 0 + k then lf T n p else lk T n p (bo T n 0 + k)) (n := lf T n (bo T n 0)) (i := p) (by rw [bo_0]; exact hp)
  simp only [bo_0, Nat.zero_add, if_true] at this
  unfold md
  simp only [bo_0, Nat.zero_add]
  exact this
/-- as the class counts: the first document is left out -/
theorem cm_mn {T : Nat → Nat} {n p : Nat} (hp : p < lf T n 0) : ∀ D, D ≤ bars T n → mn (lf T n p) (md T n p) (D + 1) = mn (lf T n p) (fun d => mx (fun k => lk T n p (bo T n (d + 1) + k)) (lf T n (bo T n (d + 1)))) D
  | 0, _ => by rw [mn_s, md_0 hp]; show min (lf T n p) (lf T n p) = lf T n p; omega
  | D + 1, hD => by
    rw [mn_s (lf T n p) (md T n p) (D + 1), mn_s (lf T n p) (fun d => mx (fun k => lk T n p (bo T n (d + 1) + k)) (lf T n (bo T n (d + 1)))) D, cm_mn hp D (by omega)]
    congr 1
    refine mx_congr (fun k hk => ?_)
    have := bo_gt hD (by omega)
    exact if_neg (by omega)
theorem doc_b {T : Nat → Nat} {n d k : Nat} (hd : d ≤ bars T n) (hk : k < lf T n (bo T n d)) : bo T n d + k < n := (lf_in (T := T) (n := n) k (bo T n d) hk).1
/-- what all have, the first document has as well -/
theorem cm_in0 {T : Nat → Nat} {n p : Nat} (hp : p < n) (hc : 0 < cm T n p) : ∃ q, q < lf T n 0 ∧ q ≤ p ∧ cm T n p ≤ cm T n q := by
  rcases Nat.lt_or_ge p (lf T n 0) with z | z
  · exact ⟨p, z, Nat.le_refl _, Nat.le_refl _⟩
  · obtain ⟨h1, h2⟩ := (mn_ge (c := cm T n p) (bars T n + 1)).mp (Nat.le_refl _)
    have h0 := h2 0 (by omega)
    obtain ⟨k, k1, k2⟩ := mx_at (f := fun k => if p = bo T n 0 + k then lf T n p else lk T n p (bo T n 0 + k)) (n := lf T n (bo T n 0)) (by unfold md at h0; omega)
    simp only [bo_0, Nat.zero_add] at k1 k2
    have hne : ¬ p = k := by omega
    rw [if_neg hne] at k2
    have h0' : cm T n p ≤ lk T n p k := by
      rw [k2]; unfold md at h0; simp only [bo_0, Nat.zero_add] at h0; exact h0
    refine ⟨k, k1, by omega, (mn_ge (bars T n + 1)).mpr ⟨?_, fun d hd => ?_⟩⟩
    · have := lk_lf (T := T) (n := n) (p := k) (q := p)
      rw [lk_sym] at this
      omega
    · have hd2 := h2 d hd
      obtain ⟨e, e1, e2⟩ := mx_at (f := fun k => if p = bo T n d + k then lf T n p else lk T n p (bo T n d + k)) (n := lf T n (bo T n d)) (by unfold md at hd2; omega)
      have hle : (if k = bo T n d + e then lf T n k else lk T n k (bo T n d + e)) ≤ md T n k d := mx_ge (f := fun j => if k = bo T n d + j then lf T n k else lk T n k (bo T n d + j)) e1
      refine Nat.le_trans ?_ hle
      have e2 : (if p = bo T n d + e then lf T n p else lk T n p (bo T n d + e)) = md T n p d := e2
      by_cases c : k = bo T n d + e
      · rw [if_pos c]
        have := lk_lf (T := T) (n := n) (p := k) (q := p)
        rw [lk_sym] at this
        omega
      · rw [if_neg c]
        by_cases c2 : p = bo T n d + e
        · rw [← c2, lk_sym]; exact h0'
        · rw [if_neg c2] at e2
          exact lk_tri T n _ k p _ (by rw [lk_sym]; exact h0') (by omega)
theorem c_mostIn {T R : Nat → Nat} {n d : Nat} {M : me_M} (hT : tx9 T n) (h : cx0 T n M) (hR : ∀ p, p ≤ n → M.1 31 p = nI (R p)) (hRb : ∀ p, R p ≤ 1000) (hd : d ≤ bars T n) : mX8_mostIn_30 M (nI d) = some (nI (mx (fun k => R (bo T n d + k)) (lf T n (bo T n d)))) := by
  have hn := hT.2.2.2
  have hbn : bars T n ≤ n := ct_le _ _
  obtain ⟨b1, -, -, -⟩ := bo_ok hd
  have e8 := c_first h.2.2.2.1 hd
  have e6 := h.2.2.1 _ b1
  have hf := lf_le (T := T) (n := n) (bo T n d)
  have hl : me_l (mX8_mostIn_30_L15 M (nI (bo T n d))) me_fu (nI 0, nI (bo T n d)) = some (nI (mx (fun k => R (bo T n d + k)) (lf T n (bo T n d)))) := by
    have := lp_to (b := mX8_mostIn_30_L15 M (nI (bo T n d))) (fun x => (nI (mx (fun k => R (bo T n d + k)) x), nI (bo T n d + x))) (a := 0) (N := lf T n (bo T n d)) (r := nI (mx (fun k => R (bo T n d + k)) (lf T n (bo T n d)))) (by omega) (by omega) (fun x _ hx => ?_) ?_
    · exact this
    · simp only [mX8_mostIn_30_L15]
      have h31 := hR (bo T n d + x) (by omega)
      have b2 := hRb (bo T n d + x)
      have b3 : mx (fun k => R (bo T n d + k)) x ≤ 1000 := mx_le (fun k _ => hRb _)
      simp (disch := omega) only [Option.bind_some, if_true, if_false, Sum.elim_inl, Sum.elim_inr, li0, li1, li2, li3, li4, li5, li6, li7, li8, li9, li10, li12, li16, li20, li24, li25, li31, li32, li40, li41, li42, li48, li57, li59, li97, li104, li105, li124, li126, li240, li241, nI_add, nI_subc, nI_subm, nI_mulc, nI_nm, pu_r, pu_t, pu_a, pu_le_t, pu_le_f, pu_lt_t, pu_lt_f, pu_eq_t, pu_eq_f, nm_eq, nm_eq2, nm_lt, nm_lt2, nm_le, nm_le2, nm_ss, nm_sp, pu_ss, pu_snq, pu_neq, eq_self, and_true, true_and, and_false, false_and, or_true, true_or, or_false, false_or, not_true_eq_false, not_false_eq_true, e6, h31, c_max, mx_s, show bo T n d + x + 1 = bo T n d + (x + 1) by omega]
    · simp only [mX8_mostIn_30_L15]
      simp (disch := omega) only [Option.bind_some, if_true, if_false, Sum.elim_inl, Sum.elim_inr, li0, li1, li2, li3, li4, li5, li6, li7, li8, li9, li10, li12, li16, li20, li24, li25, li31, li32, li40, li41, li42, li48, li57, li59, li97, li104, li105, li124, li126, li240, li241, nI_add, nI_subc, nI_subm, nI_mulc, nI_nm, pu_r, pu_t, pu_a, pu_le_t, pu_le_f, pu_lt_t, pu_lt_f, pu_eq_t, pu_eq_f, nm_eq, nm_eq2, nm_lt, nm_lt2, nm_le, nm_le2, nm_ss, nm_sp, pu_ss, pu_snq, pu_neq, eq_self, and_true, true_and, and_false, false_and, or_true, true_or, or_false, false_or, not_true_eq_false, not_false_eq_true, e6]
  unfold mX8_mostIn_30
  simp (disch := omega) only [Option.bind_some, if_true, if_false, Sum.elim_inl, Sum.elim_inr, li0, li1, li2, li3, li4, li5, li6, li7, li8, li9, li10, li12, li16, li20, li24, li25, li31, li32, li40, li41, li42, li48, li57, li59, li97, li104, li105, li124, li126, li240, li241, nI_add, nI_subc, nI_subm, nI_mulc, nI_nm, pu_r, pu_t, pu_a, pu_le_t, pu_le_f, pu_lt_t, pu_lt_f, pu_eq_t, pu_eq_f, nm_eq, nm_eq2, nm_lt, nm_lt2, nm_le, nm_le2, nm_ss, nm_sp, pu_ss, pu_snq, pu_neq, eq_self, and_true, true_and, and_false, false_and, or_true, true_or, or_false, false_or, not_true_eq_false, not_false_eq_true, e8, hl]
theorem c_inAll {T : Nat → Nat} {n p : Nat} {M : me_M} (hT : tx9 T n) (h : cx0 T n M) (hp : p < lf T n 0) (hR : ∀ q, q ≤ n → M.1 31 q = nI (lk T n p q)) : mX8_inAllOthers_30 M (nI (lf T n p)) = some (nI (cm T n p)) := by
  have hn := hT.2.2.2
  have hbn : bars T n ≤ n := ct_le _ _
  have h36 := h.2.2.2.1.2.2.2
  have hf := lf_le (T := T) (n := n) p
  have hkb : ∀ q, lk T n p q ≤ 1000 := fun q => by have := lk_le (T := T) (n := n) (p := p) (q := q); omega
  have hl : me_l (mX8_inAllOthers_30_L4 M) me_fu (nI (lf T n p), nI 1) = some (nI (cm T n p)) := by
    have e : cm T n p = mn (lf T n p) (fun d => mx (fun k => lk T n p (bo T n (d + 1) + k)) (lf T n (bo T n (d + 1)))) (bars T n) := cm_mn hp (bars T n) (Nat.le_refl _)
    rw [e]
    have := lp_to (b := mX8_inAllOthers_30_L4 M) (fun x => (nI (mn (lf T n p) (fun d => mx (fun k => lk T n p (bo T n (d + 1) + k)) (lf T n (bo T n (d + 1)))) x), nI (x + 1))) (a := 0) (N := bars T n) (r := nI (mn (lf T n p) (fun d => mx (fun k => lk T n p (bo T n (d + 1) + k)) (lf T n (bo T n (d + 1)))) (bars T n))) (by omega) (by omega) (fun x _ hx => ?_) ?_
    · exact this
    · simp only [mX8_inAllOthers_30_L4]
      have hm := c_mostIn hT h hR hkb (show x + 1 ≤ bars T n by omega)
      have b1 : mx (fun k => lk T n p (bo T n (x + 1) + k)) (lf T n (bo T n (x + 1))) ≤ 1000 := mx_le (fun k _ => hkb _)
      have b2 := mn_le (b := lf T n p) (f := fun d => mx (fun k => lk T n p (bo T n (d + 1) + k)) (lf T n (bo T n (d + 1)))) x
      simp (disch := omega) only [Option.bind_some, if_true, if_false, Sum.elim_inl, Sum.elim_inr, li0, li1, li2, li3, li4, li5, li6, li7, li8, li9, li10, li12, li16, li20, li24, li25, li31, li32, li40, li41, li42, li48, li57, li59, li97, li104, li105, li124, li126, li240, li241, nI_add, nI_subc, nI_subm, nI_mulc, nI_nm, pu_r, pu_t, pu_a, pu_le_t, pu_le_f, pu_lt_t, pu_lt_f, pu_eq_t, pu_eq_f, nm_eq, nm_eq2, nm_lt, nm_lt2, nm_le, nm_le2, nm_ss, nm_sp, pu_ss, pu_snq, pu_neq, eq_self, and_true, true_and, and_false, false_and, or_true, true_or, or_false, false_or, not_true_eq_false, not_false_eq_true, h36, hm, c_min, mn_s]
    · simp only [mX8_inAllOthers_30_L4]
      simp (disch := omega) only [Option.bind_some, if_true, if_false, Sum.elim_inl, Sum.elim_inr, li0, li1, li2, li3, li4, li5, li6, li7, li8, li9, li10, li12, li16, li20, li24, li25, li31, li32, li40, li41, li42, li48, li57, li59, li97, li104, li105, li124, li126, li240, li241, nI_add, nI_subc, nI_subm, nI_mulc, nI_nm, pu_r, pu_t, pu_a, pu_le_t, pu_le_f, pu_lt_t, pu_lt_f, pu_eq_t, pu_eq_f, nm_eq, nm_eq2, nm_lt, nm_lt2, nm_le, nm_le2, nm_ss, nm_sp, pu_ss, pu_snq, pu_neq, eq_self, and_true, true_and, and_false, false_and, or_true, true_or, or_false, false_or, not_true_eq_false, not_false_eq_true, h36]
  unfold mX8_inAllOthers_30
  simp (disch := omega) only [Option.bind_some, if_true, if_false, Sum.elim_inl, Sum.elim_inr, li0, li1, li2, li3, li4, li5, li6, li7, li8, li9, li10, li12, li16, li20, li24, li25, li31, li32, li40, li41, li42, li48, li57, li59, li97, li104, li105, li124, li126, li240, li241, nI_add, nI_subc, nI_subm, nI_mulc, nI_nm, pu_r, pu_t, pu_a, pu_le_t, pu_le_f, pu_lt_t, pu_lt_f, pu_eq_t, pu_eq_f, nm_eq, nm_eq2, nm_lt, nm_lt2, nm_le, nm_le2, nm_ss, nm_sp, pu_ss, pu_snq, pu_neq, eq_self, and_true, true_and, and_false, false_and, or_true, true_or, or_false, false_or, not_true_eq_false, not_false_eq_true, hl]
theorem cm_eq9 {T : Nat → Nat} {n c v : Nat} (h1 : ∀ p, p < lf T n 0 → cm T n p ≤ c) (h2 : (c = 0 ∧ v = 0) ∨ (0 < c ∧ 0 < v ∧ v ≤ lf T n 0 ∧ cm T n (v - 1) = c ∧ ∀ p, p < v - 1 → cm T n p < c)) : c = mx (cm T n) n ∧ v = fi (cm T n) n := by
  have hl0 := lf_le (T := T) (n := n) 0
  obtain ⟨f1, f2⟩ := fi_ok (g := cm T n) n
  rcases Nat.eq_zero_or_pos (mx (cm T n) n) with z | z
  · rcases h2 with ⟨a, b⟩ | ⟨a1, a2, a3, a4, a5⟩
    · exact ⟨by omega, by rw [b, f1 z]⟩
    · have := mx_ge (f := cm T n) (show v - 1 < n by omega)
      omega
  · obtain ⟨q, q1, q2, q3, q4⟩ := f2 z
    obtain ⟨q', c1, c2, c3⟩ := cm_in0 (T := T) q2 (by omega)
    have hq : q' = q := by
      rcases Nat.lt_or_ge q' q with y | y
      · have := q4 q' y; omega
      · omega
    rw [hq] at c1
    have hc := h1 q c1
    rcases h2 with ⟨a, b⟩ | ⟨a1, a2, a3, a4, a5⟩
    · omega
    · have hm := mx_ge (f := cm T n) (show v - 1 < n by omega)
      refine ⟨by omega, ?_⟩
      rcases Nat.lt_or_ge q (v - 1) with y | y
      · have := a5 q y; omega
      · rcases Nat.lt_or_ge (v - 1) q with w | w
        · have := q4 (v - 1) w; omega
        · omega
theorem c_common {T : Nat → Nat} {n : Nat} {M : me_M} (hT : tx9 T n) (h : cx0 T n M) : ∃ M', mX8_findCommon_30 M = some M' ∧ fr (fun b k => (b = 30 ∧ 7 ≤ k) ∨ b = 31) M M' ∧ M'.1 30 7 = nI (mx (cm T n) n) ∧ M'.1 30 8 = dn (fi (cm T n) n) := by
  have hn := hT.2.2.2
  have hl0 := lf_le (T := T) (n := n) 0
  obtain ⟨M1, e1, f1, g1⟩ := g_begin (T := T) (M := me_s (me_s M 30 7 (nI 0)) 30 8 (-nI 1)) hn (by simp (disch := omega) only [Option.bind_some, if_true, if_false, Sum.elim_inl, Sum.elim_inr, li0, li1, li2, li3, li4, li5, li6, li7, li8, li9, li10, li12, li16, li20, li24, li25, li31, li32, li40, li41, li42, li48, li57, li59, li97, li104, li105, li124, li126, li240, li241, nI_add, nI_subc, nI_subm, nI_mulc, nI_nm, pu_r, pu_t, pu_a, pu_le_t, pu_le_f, pu_lt_t, pu_lt_f, pu_eq_t, pu_eq_f, nm_eq, nm_eq2, nm_lt, nm_lt2, nm_le, nm_le2, nm_ss, nm_sp, pu_ss, pu_snq, pu_neq, eq_self, and_true, true_and, and_false, false_and, or_true, true_or, or_false, false_or, not_true_eq_false, not_false_eq_true, h.1.1])
  have f01 : fr (fun b k => (b = 30 ∧ 7 ≤ k) ∨ b = 31) M M1 := ((fr.s (by omega)).st (by omega)).tr (f1.up (fun b k h => by omega))
  obtain ⟨r, e, hr⟩ := lp_down (b := mX8_findCommon_30_L26) (fun j s => ∃ Mx, s = (dn j, Mx) ∧ fr (fun b k => (b = 30 ∧ 7 ≤ k) ∨ b = 31) M Mx ∧ (∀ p, p ≤ n → Mx.1 31 p = nI (fta T n T (lf T n 0) (lf T n 0 - j) p)) ∧ ∃ c v, Mx.1 30 7 = nI c ∧ c ≤ n ∧ Mx.1 30 8 = dn v ∧ (∀ p, j ≤ p → p < lf T n 0 → cm T n p ≤ c) ∧ ((c = 0 ∧ v = 0) ∨ (0 < c ∧ j < v ∧ v ≤ lf T n 0 ∧ cm T n (v - 1) = c ∧ ∀ p, j ≤ p → p < v - 1 → cm T n p < c))) (fun r => fr (fun b k => (b = 30 ∧ 7 ≤ k) ∨ b = 31) M r ∧ r.1 30 7 = nI (mx (cm T n) n) ∧ r.1 30 8 = dn (fi (cm T n) n)) (N := lf T n 0) (by omega) (fun j s hj hs => by
    obtain ⟨Mx, rfl, hf, h31, c, v, hc7, hcn, hv8, hle, hcv⟩ := hs
    left
    have hx0 : cx0 T n Mx := h.fr hf (fun b k _ _ => by omega)
    have hTj := hT.2.1 j
    obtain ⟨M3, e3, f3, g3⟩ := g_read (s := T j) hT (by omega) hx0.1 h31 (fta_n _)
    have eR : nw T n (T j) (fta T n T (lf T n 0) (lf T n 0 - (j + 1))) = fta T n T (lf T n 0) (lf T n 0 - j) := by
      rw [show lf T n 0 - j = lf T n 0 - (j + 1) + 1 by omega]
      show _ = nw T n (T (lf T n 0 - (lf T n 0 - (j + 1) + 1))) _
      rw [show lf T n 0 - (lf T n 0 - (j + 1) + 1) = j by omega]
    rw [eR] at g3
    have hf3 := hf.tr (f3.up (fun b k h => by omega) : fr (fun b k => (b = 30 ∧ 7 ≤ k) ∨ b = 31) Mx M3)
    have hx3 : cx0 T n M3 := h.fr hf3 (fun b k _ _ => by omega)
    have hin := c_inAll hT hx3 hj (fun q hq => by rw [g3 q hq, fta_lk (lf T n 0 - j) j q (by omega) hq])
    have h4 := hx0.1.2 j (by omega)
    have h6 := hx3.2.2.1 j (by omega)
    have h7 : M3.1 30 7 = nI c := by rw [f3.2 _ _ (by omega)]; exact hc7
    have hcb : cm T n j ≤ n := by
      have q1 : cm T n j ≤ lf T n j := mn_le _
      have q2 := lf_le (T := T) (n := n) j
      omega
    by_cases z : cm T n j = 0 ∨ cm T n j < c
    · refine ⟨(dn j, M3), ?_, M3, rfl, hf3, g3, c, v, h7, hcn, by rw [f3.2 _ _ (by omega)]; exact hv8, fun p p1 p2 => ?_, ?_⟩
      · simp only [mX8_findCommon_30_L26, mX8_findCommon_30_J79]
        by_cases y : cm T n j = 0
        · simp (disch := omega) only [Option.bind_some, if_true, if_false, Sum.elim_inl, Sum.elim_inr, li0, li1, li2, li3, li4, li5, li6, li7, li8, li9, li10, li12, li16, li20, li24, li25, li31, li32, li40, li41, li42, li48, li57, li59, li97, li104, li105, li124, li126, li240, li241, nI_add, nI_subc, nI_subm, nI_mulc, pu_r, pu_t, pu_a, pu_le_t, pu_le_f, pu_lt_t, pu_lt_f, pu_eq_t, pu_eq_f, nm_eq, nm_eq2, nm_lt, nm_lt2, nm_le, nm_le2, nm_ss, nm_sp, pu_ss, pu_snq, pu_neq, eq_self, and_true, true_and, and_false, false_and, or_true, true_or, or_false, false_or, not_true_eq_false, not_false_eq_true, dn_s, h4, e3, h6, hin, dn_p]
        · simp (disch := omega) only [Option.bind_some, if_true, if_false, Sum.elim_inl, Sum.elim_inr, li0, li1, li2, li3, li4, li5, li6, li7, li8, li9, li10, li12, li16, li20, li24, li25, li31, li32, li40, li41, li42, li48, li57, li59, li97, li104, li105, li124, li126, li240, li241, nI_add, nI_subc, nI_subm, nI_mulc, pu_r, pu_t, pu_a, pu_le_t, pu_le_f, pu_lt_t, pu_lt_f, pu_eq_t, pu_eq_f, nm_eq, nm_eq2, nm_lt, nm_lt2, nm_le, nm_le2, nm_ss, nm_sp, pu_ss, pu_snq, pu_neq, eq_self, and_true, true_and, and_false, false_and, or_true, true_or, or_false, false_or, not_true_eq_false, not_false_eq_true, dn_s, h4, e3, h6, hin, h7, dn_p]
      · by_cases y : p = j
        · rw [y]; omega
        · exact hle p (by omega) p2
      · rcases hcv with y | ⟨y1, y2, y3, y4, y5⟩
        · exact Or.inl y
        · refine Or.inr ⟨y1, by omega, y3, y4, fun p p1 p2 => ?_⟩
          by_cases w : p = j
          · rw [w]; omega
          · exact y5 p (by omega) p2
    · refine ⟨(dn j, me_s (me_s M3 30 7 (nI (cm T n j))) 30 8 (nI j)), ?_, _, rfl, (hf3.st (by omega)).st (by omega), fun p hp => ?_, cm T n j, j + 1, by simp (disch := omega) only [Option.bind_some, if_true, if_false, Sum.elim_inl, Sum.elim_inr, li0, li1, li2, li3, li4, li5, li6, li7, li8, li9, li10, li12, li16, li20, li24, li25, li31, li32, li40, li41, li42, li48, li57, li59, li97, li104, li105, li124, li126, li240, li241, nI_add, nI_subc, nI_subm, nI_mulc, nI_nm, pu_r, pu_t, pu_a, pu_le_t, pu_le_f, pu_lt_t, pu_lt_f, pu_eq_t, pu_eq_f, nm_eq, nm_eq2, nm_lt, nm_lt2, nm_le, nm_le2, nm_ss, nm_sp, pu_ss, pu_snq, pu_neq, eq_self, and_true, true_and, and_false, false_and, or_true, true_or, or_false, false_or, not_true_eq_false, not_false_eq_true], hcb, by simp (disch := omega) only [Option.bind_some, if_true, if_false, Sum.elim_inl, Sum.elim_inr, li0, li1, li2, li3, li4, li5, li6, li7, li8, li9, li10, li12, li16, li20, li24, li25, li31, li32, li40, li41, li42, li48, li57, li59, li97, li104, li105, li124, li126, li240, li241, nI_add, nI_subc, nI_subm, nI_mulc, nI_nm, pu_r, pu_t, pu_a, pu_le_t, pu_le_f, pu_lt_t, pu_lt_f, pu_eq_t, pu_eq_f, nm_eq, nm_eq2, nm_lt, nm_lt2, nm_le, nm_le2, nm_ss, nm_sp, pu_ss, pu_snq, pu_neq, eq_self, and_true, true_and, and_false, false_and, or_true, true_or, or_false, false_or, not_true_eq_false, not_false_eq_true, dn_s], fun p p1 p2 => ?_, Or.inr ⟨by omega, by omega, by omega, rfl, fun p p1 p2 => by omega⟩⟩
      · simp only [mX8_findCommon_30_L26, mX8_findCommon_30_J79]
        simp (disch := omega) only [Option.bind_some, if_true, if_false, Sum.elim_inl, Sum.elim_inr, li0, li1, li2, li3, li4, li5, li6, li7, li8, li9, li10, li12, li16, li20, li24, li25, li31, li32, li40, li41, li42, li48, li57, li59, li97, li104, li105, li124, li126, li240, li241, nI_add, nI_subc, nI_subm, nI_mulc, pu_r, pu_t, pu_a, pu_le_t, pu_le_f, pu_lt_t, pu_lt_f, pu_eq_t, pu_eq_f, nm_eq, nm_eq2, nm_lt, nm_lt2, nm_le, nm_le2, nm_ss, nm_sp, pu_ss, pu_snq, pu_neq, eq_self, and_true, true_and, and_false, false_and, or_true, true_or, or_false, false_or, not_true_eq_false, not_false_eq_true, dn_s, h4, e3, h6, hin, h7, dn_p]
      · rw [me_s_ne (by decide), me_s_ne (by decide)]; exact g3 p hp
      · by_cases y : p = j
        · rw [y]; exact Nat.le_refl _
        · have := hle p (by omega) p2; omega) (fun s hs => by
    obtain ⟨Mx, rfl, hf, h31, c, v, hc7, hcn, hv8, hle, hcv⟩ := hs
    obtain ⟨q1, q2⟩ := cm_eq9 (c := c) (v := v) (fun p hp => hle p (Nat.zero_le _) hp) (by
      rcases hcv with y | ⟨y1, y2, y3, y4, y5⟩
      · exact Or.inl y
      · exact Or.inr ⟨y1, y2, y3, y4, fun p hp => y5 p (Nat.zero_le _) hp⟩)
    refine ⟨Mx, ?_, hf, by rw [← q1]; exact hc7, by rw [← q2]; exact hv8⟩
    simp only [mX8_findCommon_30_L26]
    simp (disch := omega) only [Option.bind_some, if_true, if_false, Sum.elim_inl, Sum.elim_inr, li0, li1, li2, li3, li4, li5, li6, li7, li8, li9, li10, li12, li16, li20, li24, li25, li31, li32, li40, li41, li42, li48, li57, li59, li97, li104, li105, li124, li126, li240, li241, nI_add, nI_subc, nI_subm, nI_mulc, nI_nm, pu_r, pu_t, pu_a, pu_le_t, pu_le_f, pu_lt_t, pu_lt_f, pu_eq_t, pu_eq_f, nm_eq, nm_eq2, nm_lt, nm_lt2, nm_le, nm_le2, nm_ss, nm_sp, pu_ss, pu_snq, pu_neq, eq_self, and_true, true_and, and_false, false_and, or_true, true_or, or_false, false_or, not_true_eq_false, not_false_eq_true, dn_0]) (s0 := (dn (lf T n 0), M1)) ⟨M1, rfl, f01, fun p hp => by rw [g1 p hp, Nat.sub_self]; rfl, 0, 0, by rw [f1.2 _ _ (by omega)]; simp (disch := omega) only [Option.bind_some, if_true, if_false, Sum.elim_inl, Sum.elim_inr, li0, li1, li2, li3, li4, li5, li6, li7, li8, li9, li10, li12, li16, li20, li24, li25, li31, li32, li40, li41, li42, li48, li57, li59, li97, li104, li105, li124, li126, li240, li241, nI_add, nI_subc, nI_subm, nI_mulc, nI_nm, pu_r, pu_t, pu_a, pu_le_t, pu_le_f, pu_lt_t, pu_lt_f, pu_eq_t, pu_eq_f, nm_eq, nm_eq2, nm_lt, nm_lt2, nm_le, nm_le2, nm_ss, nm_sp, pu_ss, pu_snq, pu_neq, eq_self, and_true, true_and, and_false, false_and, or_true, true_or, or_false, false_or, not_true_eq_false, not_false_eq_true], Nat.zero_le _, by rw [f1.2 _ _ (by omega)]; simp (disch := omega) only [Option.bind_some, if_true, if_false, Sum.elim_inl, Sum.elim_inr, li0, li1, li2, li3, li4, li5, li6, li7, li8, li9, li10, li12, li16, li20, li24, li25, li31, li32, li40, li41, li42, li48, li57, li59, li97, li104, li105, li124, li126, li240, li241, nI_add, nI_subc, nI_subm, nI_mulc, nI_nm, pu_r, pu_t, pu_a, pu_le_t, pu_le_f, pu_lt_t, pu_lt_f, pu_eq_t, pu_eq_f, nm_eq, nm_eq2, nm_lt, nm_lt2, nm_le, nm_le2, nm_ss, nm_sp, pu_ss, pu_snq, pu_neq, eq_self, and_true, true_and, and_false, false_and, or_true, true_or, or_false, false_or, not_true_eq_false, not_false_eq_true, dn_0], fun p p1 p2 => by omega, Or.inl ⟨rfl, rfl⟩⟩
  refine ⟨r, ?_, hr⟩
  have h60 : M1.1 6 0 = nI (lf T n 0) := by rw [f01.2 _ _ (by omega)]; exact h.2.2.1 0 (Nat.zero_le _)
  unfold mX8_findCommon_30
  simp (disch := omega) only [Option.bind_some, if_true, if_false, Sum.elim_inl, Sum.elim_inr, li0, li1, li2, li3, li4, li5, li6, li7, li8, li9, li10, li12, li16, li20, li24, li25, li31, li32, li40, li41, li42, li48, li57, li59, li97, li104, li105, li124, li126, li240, li241, nI_add, nI_mulc, nI_nm, pu_r, pu_t, pu_a, pu_le_t, pu_le_f, pu_lt_t, pu_lt_f, pu_eq_t, pu_eq_f, nm_eq, nm_eq2, nm_lt, nm_lt2, nm_le, nm_le2, nm_ss, nm_sp, pu_ss, pu_snq, pu_neq, eq_self, and_true, true_and, and_false, false_and, or_true, true_or, or_false, false_or, not_true_eq_false, not_false_eq_true, e1, h60, dn_m, e]
theorem r_commonOf {T : Nat → Nat} {n p : Nat} {M : me_M} (hT : tx9 T n) (hM : rx T n M) (hp : p < n) : mX12_commonOf_63 M (nI p) = some (nI (cm T n p)) := by
  have hn := hT.2.2.2
  have hbn : bars T n ≤ n := ct_le _ _
  have hf := lf_le (T := T) (n := n) p
  have hr := r_run hT hM (show p ≤ n by omega)
  have hl : me_l (mX12_commonOf_63_L8 M (nI p)) me_fu (nI (lf T n p), nI 0) = some (nI (cm T n p)) := by
    refine lp_to (fun x => (nI (mn (lf T n p) (md T n p) x), nI x)) (a := 0) (N := bars T n + 1) (by omega) (by omega) (fun x _ hx => ?_) ?_
    · obtain ⟨b1, -, -, -⟩ := bo_ok (show x ≤ bars T n by omega)
      have hb := r_beginOf hT hM (show x ≤ bars T n by omega)
      have hfx := lf_le (T := T) (n := n) (bo T n x)
      have hin : ∀ y, me_l (mX12_commonOf_63_L26 M (nI p) y (nI x)) me_fu (nI 0, nI (bo T n x)) = some (nI (md T n p x)) := fun y => by
        have := lp_to (b := mX12_commonOf_63_L26 M (nI p) y (nI x)) (fun z => (nI (mx (fun k => if p = bo T n x + k then lf T n p else lk T n p (bo T n x + k)) z), nI (bo T n x + z))) (a := 0) (N := lf T n (bo T n x)) (r := nI (md T n p x)) (by omega) (by omega) (fun z _ hz => ?_) ?_
        · exact this
        · simp only [mX12_commonOf_63_L26, mX12_commonOf_63_J71]
          obtain ⟨a1, a2⟩ := lf_in (T := T) (n := n) z (bo T n x) hz
          have h67 := hM.2 (bo T n x + z) (by omega)
          have hTz := hT.2.1 (bo T n x + z)
          have b2 : mx (fun k => if p = bo T n x + k then lf T n p else lk T n p (bo T n x + k)) z ≤ lf T n p := mx_le (fun k _ => by
            split
            · exact Nat.le_refl _
            · exact lk_lf)
          have hkl := lk_lf (T := T) (n := n) (p := p) (q := bo T n x + z)
          rw [mx_s]
          by_cases c : p = bo T n x + z
          · simp (disch := omega) only [Option.bind_some, if_true, if_false, Sum.elim_inl, Sum.elim_inr, li0, li1, li2, li3, li4, li5, li6, li7, li8, li9, li10, li12, li16, li20, li24, li25, li31, li32, li40, li41, li42, li48, li57, li59, li97, li104, li105, li124, li126, li240, li241, nI_add, nI_subc, nI_subm, nI_mulc, nI_nm, pu_r, pu_t, pu_a, pu_le_t, pu_le_f, pu_lt_t, pu_lt_f, pu_eq_t, pu_eq_f, nm_eq, nm_eq2, nm_lt, nm_lt2, nm_le, nm_le2, nm_ss, nm_sp, pu_ss, pu_snq, pu_neq, eq_self, and_true, true_and, and_false, false_and, or_true, true_or, or_false, false_or, not_true_eq_false, not_false_eq_true, hM.1, h67, hr, r_more, if_pos c, show bo T n x + z + 1 = bo T n x + (z + 1) by omega]
          · simp (disch := omega) only [Option.bind_some, if_true, if_false, Sum.elim_inl, Sum.elim_inr, li0, li1, li2, li3, li4, li5, li6, li7, li8, li9, li10, li12, li16, li20, li24, li25, li31, li32, li40, li41, li42, li48, li57, li59, li97, li104, li105, li124, li126, li240, li241, nI_add, nI_subc, nI_subm, nI_mulc, nI_nm, pu_r, pu_t, pu_a, pu_le_t, pu_le_f, pu_lt_t, pu_lt_f, pu_eq_t, pu_eq_f, nm_eq, nm_eq2, nm_lt, nm_lt2, nm_le, nm_le2, nm_ss, nm_sp, pu_ss, pu_snq, pu_neq, eq_self, and_true, true_and, and_false, false_and, or_true, true_or, or_false, false_or, not_true_eq_false, not_false_eq_true, hM.1, h67, r_like hT hM, r_more, if_neg c, show bo T n x + z + 1 = bo T n x + (z + 1) by omega]
        · simp only [mX12_commonOf_63_L26]
          rcases lf_out (T := T) (n := n) (n - bo T n x) (bo T n x) (by omega) with w | w
          · simp (disch := omega) only [Option.bind_some, if_true, if_false, Sum.elim_inl, Sum.elim_inr, li0, li1, li2, li3, li4, li5, li6, li7, li8, li9, li10, li12, li16, li20, li24, li25, li31, li32, li40, li41, li42, li48, li57, li59, li97, li104, li105, li124, li126, li240, li241, nI_add, nI_subc, nI_subm, nI_mulc, nI_nm, pu_r, pu_t, pu_a, pu_le_t, pu_le_f, pu_lt_t, pu_lt_f, pu_eq_t, pu_eq_f, nm_eq, nm_eq2, nm_lt, nm_lt2, nm_le, nm_le2, nm_ss, nm_sp, pu_ss, pu_snq, pu_neq, eq_self, and_true, true_and, and_false, false_and, or_true, true_or, or_false, false_or, not_true_eq_false, not_false_eq_true, hM.1, md]
          · by_cases w2 : bo T n x + lf T n (bo T n x) < n
            · have h67 := hM.2 (bo T n x + lf T n (bo T n x)) (by omega)
              simp (disch := omega) only [Option.bind_some, if_true, if_false, Sum.elim_inl, Sum.elim_inr, li0, li1, li2, li3, li4, li5, li6, li7, li8, li9, li10, li12, li16, li20, li24, li25, li31, li32, li40, li41, li42, li48, li57, li59, li97, li104, li105, li124, li126, li240, li241, nI_add, nI_subc, nI_subm, nI_mulc, nI_nm, pu_r, pu_t, pu_a, pu_le_t, pu_le_f, pu_lt_t, pu_lt_f, pu_eq_t, pu_eq_f, nm_eq, nm_eq2, nm_lt, nm_lt2, nm_le, nm_le2, nm_ss, nm_sp, pu_ss, pu_snq, pu_neq, eq_self, and_true, true_and, and_false, false_and, or_true, true_or, or_false, false_or, not_true_eq_false, not_false_eq_true, hM.1, h67, w, md]
            · simp (disch := omega) only [Option.bind_some, if_true, if_false, Sum.elim_inl, Sum.elim_inr, li0, li1, li2, li3, li4, li5, li6, li7, li8, li9, li10, li12, li16, li20, li24, li25, li31, li32, li40, li41, li42, li48, li57, li59, li97, li104, li105, li124, li126, li240, li241, nI_add, nI_subc, nI_subm, nI_mulc, nI_nm, pu_r, pu_t, pu_a, pu_le_t, pu_le_f, pu_lt_t, pu_lt_f, pu_eq_t, pu_eq_f, nm_eq, nm_eq2, nm_lt, nm_lt2, nm_le, nm_le2, nm_ss, nm_sp, pu_ss, pu_snq, pu_neq, eq_self, and_true, true_and, and_false, false_and, or_true, true_or, or_false, false_or, not_true_eq_false, not_false_eq_true, hM.1, md]
      have b3 := md_le (T := T) (n := n) (p := p) (d := x)
      have b4 := mn_le (b := lf T n p) (f := md T n p) x
      simp only [mX12_commonOf_63_L8]
      simp (disch := omega) only [Option.bind_some, if_true, if_false, Sum.elim_inl, Sum.elim_inr, li0, li1, li2, li3, li4, li5, li6, li7, li8, li9, li10, li12, li16, li20, li24, li25, li31, li32, li40, li41, li42, li48, li57, li59, li97, li104, li105, li124, li126, li240, li241, nI_add, nI_subc, nI_subm, nI_mulc, nI_nm, pu_r, pu_t, pu_a, pu_le_t, pu_le_f, pu_lt_t, pu_lt_f, pu_eq_t, pu_eq_f, nm_eq, nm_eq2, nm_lt, nm_lt2, nm_le, nm_le2, nm_ss, nm_sp, pu_ss, pu_snq, pu_neq, eq_self, and_true, true_and, and_false, false_and, or_true, true_or, or_false, false_or, not_true_eq_false, not_false_eq_true, r_docs hT hM, hb, hin, r_less, mn_s]
    · simp only [mX12_commonOf_63_L8]
      simp (disch := omega) only [Option.bind_some, if_true, if_false, Sum.elim_inl, Sum.elim_inr, li0, li1, li2, li3, li4, li5, li6, li7, li8, li9, li10, li12, li16, li20, li24, li25, li31, li32, li40, li41, li42, li48, li57, li59, li97, li104, li105, li124, li126, li240, li241, nI_add, nI_subc, nI_subm, nI_mulc, nI_nm, pu_r, pu_t, pu_a, pu_le_t, pu_le_f, pu_lt_t, pu_lt_f, pu_eq_t, pu_eq_f, nm_eq, nm_eq2, nm_lt, nm_lt2, nm_le, nm_le2, nm_ss, nm_sp, pu_ss, pu_snq, pu_neq, eq_self, and_true, true_and, and_false, false_and, or_true, true_or, or_false, false_or, not_true_eq_false, not_false_eq_true, r_docs hT hM, cm]
  unfold mX12_commonOf_63
  simp (disch := omega) only [Option.bind_some, if_true, if_false, Sum.elim_inl, Sum.elim_inr, li0, li1, li2, li3, li4, li5, li6, li7, li8, li9, li10, li12, li16, li20, li24, li25, li31, li32, li40, li41, li42, li48, li57, li59, li97, li104, li105, li124, li126, li240, li241, nI_add, nI_subc, nI_subm, nI_mulc, nI_nm, pu_r, pu_t, pu_a, pu_le_t, pu_le_f, pu_lt_t, pu_lt_f, pu_eq_t, pu_eq_f, nm_eq, nm_eq2, nm_lt, nm_lt2, nm_le, nm_le2, nm_ss, nm_sp, pu_ss, pu_snq, pu_neq, eq_self, and_true, true_and, and_false, false_and, or_true, true_or, or_false, false_or, not_true_eq_false, not_false_eq_true, hr, hl]
theorem qr_common {T : Nat → Nat} {n m : Nat} {W X : Nat → Nat} {t : Nat} {F : Nat → Nat} {S P : Nat} {D : Nat → Nat → Nat → Nat} {M : me_M} (h : Inv M) (ha : vA T n m W X t F S P D M) (a0 : Int32) (hb0 : iB a0 (nI 0) (nI 1) = true) : aQ (hL_common M a0) (fun M1 => mX12_common_63 M1 a0) := by
  have hT := ha.1.1
  have hn := hT.2.2.2
  obtain ⟨j, -, hj, rfl⟩ := iB_n hb0 (by omega) (by omega)
  obtain ⟨M1, e1, f1, g7, g8⟩ := c_common hT ha.1.2.1.1
  have key : ∀ v, (j = 0 → v = nI (mx (cm T n) n)) → (j = 1 → v = dn (fi (cm T n) n)) → aQ (hL_common M (nI j)) (fun M1 => mX12_common_63 M1 (nI j)) := fun v k0 k1 => by
    have hj2 : j = 0 ∨ j = 1 := by omega
    generalize hx : v.toInt64 = x
    have hab : vA T n m W X t F S P D (me_o M 0 x) := ha
    have hzf : fr (fun b k => (b = 30 ∧ 7 ≤ k) ∨ b = 31 ∨ (b = 63 ∧ k = 0)) (me_o M 0 x) (me_s (me_o M1 0 x) 63 0 (nI 0)) := (f1.o.up (fun b k h => by omega)).st (by omega)
    have hM := (hab.1.2.2.1.fr hzf (by omega) (fun b k _ _ => by omega)).1
    have e0 : (me_s (me_o M1 0 x) 63 0 (nI 0)).1 63 0 = nI 0 := pu_ss
    have hrl : me_l (mX12_common_63_L37 (me_s (me_o M1 0 x) 63 0 (nI 0)) (nI j)) me_fu (nI 0, -nI 1, nI 0) = some (nI (mx (cm T n) n), dn (fi (cm T n) n)) := by
      generalize me_s (me_o M1 0 x) 63 0 (nI 0) = M0 at hM
      have hbt : ∀ x, x ≤ n → mx (cm T n) x ≤ n := fun x hx => mx_le (fun i hi => by
        have q1 : cm T n i ≤ lf T n i := mn_le _
        have q2 := lf_le (T := T) (n := n) i
        omega)
      refine lp_to (fun x => (nI (mx (cm T n) x), dn (fi (cm T n) x), nI x)) (a := 0) (N := n) (by omega) (by omega) (fun x _ hx => ?_) ?_
      · simp only [mX12_common_63_L37, mX12_common_63_J69, mx_s, fi]
        have hb := hbt x (by omega)
        have hb2 : cm T n x ≤ n := by
          have q1 : cm T n x ≤ lf T n x := mn_le _
          have q2 := lf_le (T := T) (n := n) x
          omega
        by_cases c : mx (cm T n) x < cm T n x
        · simp (disch := omega) only [Option.bind_some, if_true, if_false, Sum.elim_inl, Sum.elim_inr, li0, li1, li2, li3, li4, li5, li6, li7, li8, li9, li10, li12, li16, li20, li24, li25, li31, li32, li40, li41, li42, li48, li57, li59, li97, li104, li105, li124, li126, li240, li241, nI_add, nI_subc, nI_subm, nI_mulc, nI_nm, pu_r, pu_t, pu_a, pu_le_t, pu_le_f, pu_lt_t, pu_lt_f, pu_eq_t, pu_eq_f, nm_eq, nm_eq2, nm_lt, nm_lt2, nm_le, nm_le2, nm_ss, nm_sp, pu_ss, pu_snq, pu_neq, eq_self, and_true, true_and, and_false, false_and, or_true, true_or, or_false, false_or, not_true_eq_false, not_false_eq_true, hM.1, r_commonOf hT hM, if_pos c, Nat.max_eq_right (Nat.le_of_lt c), dn_s]
        · simp (disch := omega) only [Option.bind_some, if_true, if_false, Sum.elim_inl, Sum.elim_inr, li0, li1, li2, li3, li4, li5, li6, li7, li8, li9, li10, li12, li16, li20, li24, li25, li31, li32, li40, li41, li42, li48, li57, li59, li97, li104, li105, li124, li126, li240, li241, nI_add, nI_subc, nI_subm, nI_mulc, nI_nm, pu_r, pu_t, pu_a, pu_le_t, pu_le_f, pu_lt_t, pu_lt_f, pu_eq_t, pu_eq_f, nm_eq, nm_eq2, nm_lt, nm_lt2, nm_le, nm_le2, nm_ss, nm_sp, pu_ss, pu_snq, pu_neq, eq_self, and_true, true_and, and_false, false_and, or_true, true_or, or_false, false_or, not_true_eq_false, not_false_eq_true, hM.1, r_commonOf hT hM, if_neg c, Nat.max_eq_left (show cm T n x ≤ mx (cm T n) x by omega)]
      · simp only [mX12_common_63_L37]
        simp (disch := omega) only [Option.bind_some, if_true, if_false, Sum.elim_inl, Sum.elim_inr, li0, li1, li2, li3, li4, li5, li6, li7, li8, li9, li10, li12, li16, li20, li24, li25, li31, li32, li40, li41, li42, li48, li57, li59, li97, li104, li105, li124, li126, li240, li241, nI_add, nI_subc, nI_subm, nI_mulc, nI_nm, pu_r, pu_t, pu_a, pu_le_t, pu_le_f, pu_lt_t, pu_lt_f, pu_eq_t, pu_eq_f, nm_eq, nm_eq2, nm_lt, nm_lt2, nm_le, nm_le2, nm_ss, nm_sp, pu_ss, pu_snq, pu_neq, eq_self, and_true, true_and, and_false, false_and, or_true, true_or, or_false, false_or, not_true_eq_false, not_false_eq_true, hM.1]
    refine aQ.c (M1 := M1) (v := v) (M2 := me_s (me_o M1 0 x) 63 0 (nI 0)) (G := fun M0 => nX12_common M0 (nI j)) (fun M1 => zX12_common M1 _) ?_ ?_ e0 ?_ ?_
    · rcases hj2 with rfl | rfl
      · simp (disch := omega) only [↓reduceIte, ↓needEb, ↓needAb, ↓needSb, ↓needE0l, ↓needE1l, ↓needA0l, ↓needA1l, ↓needS0l, ↓needS1l, ↓bnd c_isWhat, ↓bnd c_isSide, ↓bnd c_isLetter, ↓bnd c_isLength, ↓bnd c_isOften, ↓bnd r_in, ↓bnd r_isLetter, bI_t, bI_f, Bool.false_eq_true, Option.bind_none, Option.none_or, Option.some_or, xAN, xNA, xSA, Option.bind_some, if_true, if_false, Sum.elim_inl, Sum.elim_inr, li0, li1, li2, li3, li4, li5, li6, li7, li8, li9, li10, li12, li16, li20, li24, li25, li31, li32, li40, li41, li42, li48, li57, li59, li97, li104, li105, li124, li126, li240, li241, nI_add, nI_subc, nI_subm, nI_mulc, nI_nm, pu_r, pu_t, pu_a, pu_le_t, pu_le_f, pu_lt_t, pu_lt_f, pu_eq_t, pu_eq_f, nm_eq, nm_eq2, nm_lt, nm_lt2, nm_le, nm_le2, nm_ss, nm_sp, pu_ss, pu_snq, pu_neq, eq_self, and_true, true_and, and_false, false_and, or_true, true_or, or_false, false_or, not_true_eq_false, not_false_eq_true, hL_common, mX11_common_0, hb0, e1, g7, k0 rfl]
      · simp (disch := omega) only [↓reduceIte, ↓needEb, ↓needAb, ↓needSb, ↓needE0l, ↓needE1l, ↓needA0l, ↓needA1l, ↓needS0l, ↓needS1l, ↓bnd c_isWhat, ↓bnd c_isSide, ↓bnd c_isLetter, ↓bnd c_isLength, ↓bnd c_isOften, ↓bnd r_in, ↓bnd r_isLetter, bI_t, bI_f, Bool.false_eq_true, Option.bind_none, Option.none_or, Option.some_or, xAN, xNA, xSA, Option.bind_some, if_true, if_false, Sum.elim_inl, Sum.elim_inr, li0, li1, li2, li3, li4, li5, li6, li7, li8, li9, li10, li12, li16, li20, li24, li25, li31, li32, li40, li41, li42, li48, li57, li59, li97, li104, li105, li124, li126, li240, li241, nI_add, nI_subc, nI_subm, nI_mulc, nI_nm, pu_r, pu_t, pu_a, pu_le_t, pu_le_f, pu_lt_t, pu_lt_f, pu_eq_t, pu_eq_f, nm_eq, nm_eq2, nm_lt, nm_lt2, nm_le, nm_le2, nm_ss, nm_sp, pu_ss, pu_snq, pu_neq, eq_self, and_true, true_and, and_false, false_and, or_true, true_or, or_false, false_or, not_true_eq_false, not_false_eq_true, hL_common, mX11_common_0, hb0, e1, g8, k1 rfl]
    · rw [hx]
      rcases hj2 with rfl | rfl
      · simp (disch := omega) only [↓reduceIte, ↓needEb, ↓needAb, ↓needSb, ↓needE0l, ↓needE1l, ↓needA0l, ↓needA1l, ↓needS0l, ↓needS1l, ↓bnd c_isWhat, ↓bnd c_isSide, ↓bnd c_isLetter, ↓bnd c_isLength, ↓bnd c_isOften, ↓bnd r_in, ↓bnd r_isLetter, bI_t, bI_f, Bool.false_eq_true, Option.bind_none, Option.none_or, Option.some_or, xAN, xNA, xSA, Option.bind_some, if_true, if_false, Sum.elim_inl, Sum.elim_inr, li0, li1, li2, li3, li4, li5, li6, li7, li8, li9, li10, li12, li16, li20, li24, li25, li31, li32, li40, li41, li42, li48, li57, li59, li97, li104, li105, li124, li126, li240, li241, nI_add, nI_subc, nI_subm, nI_mulc, nI_nm, pu_r, pu_t, pu_a, pu_le_t, pu_le_f, pu_lt_t, pu_lt_f, pu_eq_t, pu_eq_f, nm_eq, nm_eq2, nm_lt, nm_lt2, nm_le, nm_le2, nm_ss, nm_sp, pu_ss, pu_snq, pu_neq, eq_self, and_true, true_and, and_false, false_and, or_true, true_or, or_false, false_or, not_true_eq_false, not_false_eq_true, nX12_common, mX12_common_63_J20, hb0, ↓bnd (r_bad0l e0), hrl, k0 rfl]
      · simp (disch := omega) only [↓reduceIte, ↓needEb, ↓needAb, ↓needSb, ↓needE0l, ↓needE1l, ↓needA0l, ↓needA1l, ↓needS0l, ↓needS1l, ↓bnd c_isWhat, ↓bnd c_isSide, ↓bnd c_isLetter, ↓bnd c_isLength, ↓bnd c_isOften, ↓bnd r_in, ↓bnd r_isLetter, bI_t, bI_f, Bool.false_eq_true, Option.bind_none, Option.none_or, Option.some_or, xAN, xNA, xSA, Option.bind_some, if_true, if_false, Sum.elim_inl, Sum.elim_inr, li0, li1, li2, li3, li4, li5, li6, li7, li8, li9, li10, li12, li16, li20, li24, li25, li31, li32, li40, li41, li42, li48, li57, li59, li97, li104, li105, li124, li126, li240, li241, nI_add, nI_subc, nI_subm, nI_mulc, nI_nm, pu_r, pu_t, pu_a, pu_le_t, pu_le_f, pu_lt_t, pu_lt_f, pu_eq_t, pu_eq_f, nm_eq, nm_eq2, nm_lt, nm_lt2, nm_le, nm_le2, nm_ss, nm_sp, pu_ss, pu_snq, pu_neq, eq_self, and_true, true_and, and_false, false_and, or_true, true_or, or_false, false_or, not_true_eq_false, not_false_eq_true, nX12_common, mX12_common_63_J20, hb0, ↓bnd (r_bad0l e0), hrl, k1 rfl]
    · rw [hx]; rfl
    · exact Inv.go (M := me_o M 0 x) h.o (hzf.up (fun b k h => by unfold scr; omega))
  by_cases j0 : j = 0
  · exact key _ (fun _ => rfl) (fun z => absurd z (by omega))
  · exact key _ (fun z => absurd z (by omega)) (fun _ => rfl)
theorem q_common {M : me_M} (h : Inv M) (a0 : Int32) : aQ (hL_common M a0) (fun M1 => mX12_common_63 M1 a0) := by
  obtain ⟨T, n, m, W, X, t, F, S, P, D, ha⟩ := h.vA
  have hT := ha.1.1
  have hx := ha.1.2.1
  have c1 := hx.1.1.1
  have hn := hT.2.2.2
  have h9 := hT.2.1
  have hp1 := ha.2.2.1.2.1
  have ht := ha.2.2.1.1
  have hm4 := ha.2.1.1.2.2.1
  have hm40 := ha.2.1.1.1
  cases hb0 : iB a0 (nI 0) (nI 1) with
  | false =>
    refine aQ.t 1 1 (G := fun M0 => nX12_common M0 a0) (fun M1 => zX12_common M1 a0) h ha (by omega) (by omega) (by omega) ?_ (fun M0 h0 hz hf => ?_)
    · simp (disch := omega) only [↓reduceIte, ↓needEb, ↓needAb, ↓needSb, ↓needE0l, ↓needE1l, ↓needA0l, ↓needA1l, ↓needS0l, ↓needS1l, ↓bnd c_isWhat, ↓bnd c_isSide, ↓bnd c_isLetter, ↓bnd c_isLength, ↓bnd c_isOften, ↓bnd r_in, ↓bnd r_isLetter, bI_t, bI_f, Bool.false_eq_true, Option.bind_none, Option.none_or, Option.some_or, xAN, xNA, xSA, Option.bind_some, if_true, if_false, Sum.elim_inl, Sum.elim_inr, li0, li1, li2, li3, li4, li5, li6, li7, li8, li9, li10, li12, li16, li20, li24, li25, li31, li32, li40, li41, li42, li48, li57, li59, li97, li104, li105, li124, li126, li240, li241, nI_add, nI_subc, nI_subm, nI_mulc, nI_nm, pu_r, pu_t, pu_a, pu_le_t, pu_le_f, pu_lt_t, pu_lt_f, pu_eq_t, pu_eq_f, nm_eq, nm_eq2, nm_lt, nm_lt2, nm_le, nm_le2, nm_ss, nm_sp, pu_ss, pu_snq, pu_neq, eq_self, and_true, true_and, and_false, false_and, or_true, true_or, or_false, false_or, not_true_eq_false, not_false_eq_true, mX11_common_0, tX11_common_0, hL_common, hb0]
    · simp (disch := omega) only [↓reduceIte, ↓needEb, ↓needAb, ↓needSb, ↓needE0l, ↓needE1l, ↓needA0l, ↓needA1l, ↓needS0l, ↓needS1l, ↓bnd c_isWhat, ↓bnd c_isSide, ↓bnd c_isLetter, ↓bnd c_isLength, ↓bnd c_isOften, ↓bnd r_in, ↓bnd r_isLetter, bI_t, bI_f, Bool.false_eq_true, Option.bind_none, Option.none_or, Option.some_or, xAN, xNA, xSA, Option.bind_some, if_true, if_false, Sum.elim_inl, Sum.elim_inr, li0, li1, li2, li3, li4, li5, li6, li7, li8, li9, li10, li12, li16, li20, li24, li25, li31, li32, li40, li41, li42, li48, li57, li59, li97, li104, li105, li124, li126, li240, li241, nI_add, nI_subc, nI_subm, nI_mulc, nI_nm, pu_r, pu_t, pu_a, pu_le_t, pu_le_f, pu_lt_t, pu_lt_f, pu_eq_t, pu_eq_f, nm_eq, nm_eq2, nm_lt, nm_lt2, nm_le, nm_le2, nm_ss, nm_sp, pu_ss, pu_snq, pu_neq, eq_self, and_true, true_and, and_false, false_and, or_true, true_or, or_false, false_or, not_true_eq_false, not_false_eq_true, nX12_common, mX12_common_63_J69, mX12_common_63_J20, hb0, ↓bnd (r_bad0l hz), ↓bnd (r_bad10 hz), ↓bnd (r_bad11 hz), ↓bnd (r_bad21 hz), ↓bnd (r_bad22 hz)]
  | true =>
    exact qr_common h ha a0 hb0
