/-! ===== the reference's rows: sorted ===== -/
theorem lc_more {T : Nat → Nat} {n p q k : Nat} (hk : k ≤ lc T n p q) (h1 : p + k < n) (h2 : q + k < n) (e : T (p + k) = T (q + k)) : k + 1 ≤ lc T n p q := by
  rcases Nat.lt_or_ge k (lc T n p q) with c | c
  · exact c
  · exfalso
    have hkk : lc T n p q = k := by omega
    rcases (lcf_spec T (n - max p q) p q).2.2 with h | h
    · have h : lc T n p q = n - max p q := h
      omega
    · have h : T (p + lc T n p q) ≠ T (q + lc T n p q) := h
      rw [hkk] at h
      exact h e
theorem ct_blw (x : Nat) : ∀ n, x ≤ n → ct (fun q => decide (q < x)) n = x
  | 0, h => by show 0 = x; omega
  | n + 1, h => by
    unfold ct
    by_cases c : x ≤ n
    · rw [ct_blw x n c, if_neg (by rw [decide_eq_false (by omega)]; decide), Nat.add_zero]
    · have e : x = n + 1 := by omega
      subst e
      rw [if_pos (decide_eq_true (by omega)), ct_full n (fun i hi => decide_eq_true (by omega))]
abbrev sb (x : Nat) : Nat → Bool := fun q => decide (q < x)
theorem rb_bound {T : Nat → Nat} {n x p : Nat} (hx : p < x) (hn : x ≤ n + 1) : rkS T n (sb x) p < x := by
  have h := ct_lt (P := fun q => sb x q && sl T n q p) (Q := sb x) (n + 1) (fun i _ h1 => by simp only [Bool.and_eq_true] at h1; exact h1.1) p (by omega) (by show (sb x p && sl T n p p) = false; rw [sl_self, Bool.and_false]) (decide_eq_true hx)
  rw [ct_blw x (n + 1) hn] at h
  exact h
theorem rb_onto {T : Nat → Nat} {n x r : Nat} (hT : tx_ok T n) (hx : x ≤ n + 1) (hr : r < x) : ∃ p, p < x ∧ rkS T n (sb x) p = r := pigeon x (fun i => rkS T n (sb x) i) (fun i hi => rb_bound hi hx) (fun i j hi hj e => rkS_inj (S := sb x) hT (by omega) (by omega) (decide_eq_true hi) (decide_eq_true hj) e) r hr
theorem rb_all {T : Nat → Nat} {n p : Nat} : rkS T n (sb (n + 1)) p = rkS T n (sf 0) p := ct_congr (n + 1) (fun i hi => by
  show (decide (i < n + 1) && sl T n i p) = (decide (0 ≤ i) && sl T n i p)
  rw [decide_eq_true hi, decide_eq_true (Nat.zero_le i)])
/-- a side of the reference's text -/
def rt_at (b : Nat) (T : Nat → Nat) (n : Nat) (M : me_M) : Prop := M.1 63 5 = nI n ∧ ∀ i, i ≤ n → M.1 (67 + b) i = nI (T i)
theorem rt_at.go {b n : Nat} {T : Nat → Nat} {M M' : me_M} {l : List Nat} (h : rt_at b T n M) (hx : me_eqx l M M') (h1 : 63 ∉ l) (h2 : 67 + b ∉ l) : rt_at b T n M' := ⟨by rw [hx.2 63 h1]; exact h.1, fun i hi => by rw [hx.2 _ h2]; exact h.2 i hi⟩
theorem r_isAhead_l {b n p q : Nat} {T : Nat → Nat} {M : me_M} (hb : b < 2) (hT9 : ∀ i, T i < 2 ^ 31) (hn : n ≤ 240) (hM : rt_at b T n M) (hp : p ≤ n) (hq : q ≤ n) : ∃ r, me_l (mX12_isAhead_63_L3 M (nI b) (nI p) (nI q)) me_fu (nI 0) = some r ∧ r = nI (lc T n p q) := by
  have hle := lc_le (T := T) hp hq
  refine me_l_ok (fun s => ∃ k, s = nI k ∧ k ≤ lc T n p q) (fun s => 241 - s.toNatClampNeg) _ ?_ me_fu _ ⟨0, rfl, Nat.zero_le _⟩ (by unfold me_fu; omega)
  rintro s ⟨k, rfl, hk⟩
  simp only [mX12_isAhead_63_L3]
  rw [hM.1, nI_add, nI_add]
  by_cases c1 : n ≤ p + k
  · right
    rw [if_pos (nI_le c1 (by omega))]
    exact ⟨_, rfl, by rw [show k = lc T n p q by omega]⟩
  · rw [if_neg (nI_ge (by omega) (by omega))]
    by_cases c2 : n ≤ q + k
    · right
      rw [if_pos (nI_le c2 (by omega))]
      exact ⟨_, rfl, by rw [show k = lc T n p q by omega]⟩
    · rw [if_neg (nI_ge (by omega) (by omega)), pu_a hb (by decide)]
      simp only [Option.bind_some]
      rw [pu_r (by omega) (by decide), pu_r (by omega) (by decide)]
      simp only [Option.bind_some]
      rw [hM.2 _ (by omega), hM.2 _ (by omega)]
      by_cases e : T (p + k) = T (q + k)
      · left
        rw [if_pos (by rw [e]), nI_1]
        have := lc_more hk (by omega) (by omega) e
        refine ⟨_, rfl, ⟨k + 1, rfl, this⟩, ?_⟩
        rw [nI_clamp (by omega), nI_clamp (by omega)]; omega
      · right
        rw [if_neg (fun z => e ((nI_eq (hT9 _) (hT9 _)).mp z))]
        refine ⟨_, rfl, ?_⟩
        rcases Nat.lt_or_ge k (lc T n p q) with c | c
        · exact absurd (lc_eq c) e
        · rw [show k = lc T n p q by omega]
theorem r_isAhead_ok {b n p q : Nat} {T : Nat → Nat} {M : me_M} (hT : tx_ok T n) (hb : b < 2) (hT9 : ∀ i, T i < 2 ^ 31) (hn : n ≤ 240) (hM : rt_at b T n M) (hp : p ≤ n) (hq : q ≤ n) : mX12_isAhead_63 M (nI b) (nI p) (nI q) = some (if sl T n p q then 1 else 0) := by
  have hle := lc_le (T := T) hp hq
  have hJ : ∀ a c : Nat, a < 2 ^ 31 → c < 2 ^ 31 → mX12_isAhead_63_J110 (nI a) M (nI c) = some (if decide (a < c) then 1 else 0) := fun a c ha hc => by
    unfold mX12_isAhead_63_J110
    rcases Nat.lt_or_ge a c with h | h
    · rw [if_neg (nI_ge h hc), if_pos (decide_eq_true h)]
    · rw [if_pos (nI_le h ha), if_neg (by rw [decide_eq_false (by omega)]; decide)]
  have hJ2 : ∀ a : Nat, a < 2 ^ 31 → mX12_isAhead_63_J82 (nI b) (nI q) (nI (lc T n p q)) M (nI a) = some (if decide (a < T (q + lc T n p q)) then 1 else 0) := fun a ha => by
    unfold mX12_isAhead_63_J82
    rw [hM.1, nI_add]
    by_cases c : n ≤ q + lc T n p q
    · rw [if_pos (nI_le c (by omega)), show (0 : Int32) = nI 0 from nI_0.symm, hJ a 0 ha (by decide), show q + lc T n p q = n by omega, hT.1, nI_0]
    · rw [if_neg (nI_ge (by omega) (by omega)), pu_a hb (by decide)]
      simp only [Option.bind_some]
      rw [pu_r (by omega) (by decide)]
      simp only [Option.bind_some]
      rw [hM.2 _ (by omega), hJ a _ ha (hT9 _)]
  obtain ⟨r, hr, e⟩ := r_isAhead_l hb hT9 hn hM hp hq
  subst e
  unfold mX12_isAhead_63
  rw [show (0 : Int32) = nI 0 from nI_0.symm, hr]
  simp only [Option.bind_some]
  rw [hM.1, nI_add]
  unfold sl
  by_cases c : n ≤ p + lc T n p q
  · rw [if_pos (nI_le c (by omega)), hJ2 0 (by decide), show p + lc T n p q = n by omega, hT.1, nI_0]
  · rw [if_neg (nI_ge (by omega) (by omega)), pu_a hb (by decide)]
    simp only [Option.bind_some]
    rw [pu_r (by omega) (by decide)]
    simp only [Option.bind_some]
    rw [hM.2 _ (by omega), hJ2 _ (hT9 _), nI_0]
def rs_in (b n x : Nat) (T : Nat → Nat) (row : Nat) (M : me_M) : Prop := ∀ p, p < x →
  (rkS T n (sb x) p < row → M.1 (70 + b) (rkS T n (sb x) p) = nI p) ∧ (row ≤ rkS T n (sb x) p → M.1 (70 + b) (rkS T n (sb x) p + 1) = nI p ∧ sl T n x p = true)
set_option maxHeartbeats 1000000 in
theorem r_sort_in {b n x : Nat} {T : Nat → Nat} {M0 : me_M} (hb : b < 2) (hT : tx_ok T n) (hT9 : ∀ i, T i < 2 ^ 31) (hn : n ≤ 240) (hx : x ≤ n) (hM0 : rt_at b T n M0) (h0 : rs_in b n x T x M0) :
    ∃ r, me_l (mX12_laysRows_63_L82 (nI b) (nI x)) me_fu (nI x, M0) = some r ∧ ∃ row, r.1 = nI row ∧ row ≤ x ∧ me_eqx [70 + b] M0 r.2 ∧ rs_in b n x T row r.2 ∧ ∀ p, p < x → rkS T n (sb x) p < row → sl T n x p = false := by
  refine me_l_ok (fun s => ∃ row, s.1 = nI row ∧ row ≤ x ∧ me_eqx [70 + b] M0 s.2 ∧ rs_in b n x T row s.2) (fun s => s.1.toNatClampNeg) _ ?_ me_fu _ ⟨x, rfl, Nat.le_refl _, me_eqx.rf, h0⟩ (by show (nI x).toNatClampNeg < me_fu; rw [nI_clamp (by omega)]; unfold me_fu; omega)
  rintro ⟨x2, M⟩ ⟨row, e2, hrow, hx9, hI⟩
  have e2 : x2 = nI row := e2
  subst e2
  have hx9 : me_eqx [70 + b] M0 M := hx9
  have hI : rs_in b n x T row M := hI
  have hM : rt_at b T n M := hM0.go hx9 (by simp <;> omega) (by simp)
  simp only [mX12_laysRows_63_L82]
  by_cases hz : row = 0
  · right
    subst hz
    rw [if_pos nI_00]
    exact ⟨_, rfl, 0, rfl, by omega, hx9, hI, fun p _ h => absurd h (Nat.not_lt_zero _)⟩
  · obtain ⟨k, rfl⟩ : ∃ k, row = k + 1 := ⟨row - 1, by omega⟩
    rw [if_neg (nI_nle (by omega) (by omega)), nI_sub1 (by omega), pu_a hb (by decide)]
    simp only [Option.bind_some]
    obtain ⟨p0, hp0, hk0⟩ := rb_onto (x := x) (r := k) hT (by omega) (by omega)
    have hv := (hI p0 hp0).1 (by omega)
    rw [hk0] at hv
    rw [show k + 1 - 1 = k by omega, pu_r (by omega) (by decide)]
    simp only [Option.bind_some]
    rw [hv, r_isAhead_ok hT hb hT9 hn hM hx (by omega)]
    simp only [Option.bind_some]
    cases hs : sl T n x p0 with
    | false =>
      right
      rw [if_pos (show (if false = true then (1 : Int32) else 0) = 0 from by decide)]
      refine ⟨_, rfl, k + 1, rfl, hrow, hx9, hI, fun p h1 h3 => ?_⟩
      cases hsp : sl T n x p with
      | false => rfl
      | true =>
        exfalso
        by_cases e : p = p0
        · subst e; rw [hs] at hsp; cases hsp
        · have hne : rkS T n (sb x) p ≠ k := fun z => e (rkS_inj (S := sb x) hT (by omega) (by omega) (decide_eq_true h1) (decide_eq_true hp0) (z.trans hk0.symm))
          have h4 : sl T n p p0 = true := (rkS_iff (S := sb x) hT (by omega) (by omega) (decide_eq_true h1) (decide_eq_true hp0)).mp (by omega)
          have := sl_trans hT (by omega) (by omega) (by omega) hsp h4
          rw [hs] at this
          cases this
    | true =>
      left
      rw [if_neg (show ¬ (if true = true then (1 : Int32) else 0) = 0 from by decide), pu_t (by omega) (by decide)]
      simp only [Option.bind_some]
      rw [nI_m1 (by omega), show k + 1 - 1 = k by omega]
      refine ⟨_, rfl, ⟨k, rfl, by omega, hx9.tr (me_eqx.s (by simp)), ?_⟩, ?_⟩
      · intro p h1
        have hrel := hI p h1
        refine ⟨fun h3 => ?_, fun h3 => ?_⟩
        · rw [pu_sn (by omega)]; exact hrel.1 (by omega)
        · by_cases e : p = p0
          · subst e
            exact ⟨by rw [hk0, pu_ss], hs⟩
          · have hne : rkS T n (sb x) p ≠ k := fun z => e (rkS_inj (S := sb x) hT (by omega) (by omega) (decide_eq_true h1) (decide_eq_true hp0) (z.trans hk0.symm))
            obtain ⟨g1, g3⟩ := hrel.2 (by omega)
            exact ⟨by rw [pu_sn (by omega)]; exact g1, g3⟩
      · show (nI k).toNatClampNeg < (nI (k + 1)).toNatClampNeg
        rw [nI_clamp (by omega), nI_clamp (by omega)]; omega
def rs_out (b n : Nat) (T : Nat → Nat) (x : Nat) (M : me_M) : Prop := ∀ p, p < x → M.1 (70 + b) (rkS T n (sb x) p) = nI p
set_option maxHeartbeats 1000000 in
theorem r_sort_out {b n : Nat} {T : Nat → Nat} {M0 : me_M} (hb : b < 2) (hT : tx_ok T n) (hT9 : ∀ i, T i < 2 ^ 31) (hn : n ≤ 240) (hM0 : rt_at b T n M0) :
    ∃ M', me_l (mX12_laysRows_63_L72 (nI b)) me_fu (nI 0, M0) = some M' ∧ me_eqx [70 + b] M0 M' ∧ rs_out b n T (n + 1) M' := by
  refine me_l_ok (fun s => ∃ x, s.1 = nI x ∧ x ≤ n + 1 ∧ me_eqx [70 + b] M0 s.2 ∧ rs_out b n T x s.2) (fun s => 300 - s.1.toNatClampNeg) _ ?_ me_fu _ ⟨0, rfl, by omega, me_eqx.rf, fun p h => absurd h (Nat.not_lt_zero _)⟩ (by unfold me_fu; omega)
  rintro ⟨x1, M⟩ ⟨x, ex, hx, hx9, hI⟩
  have ex : x1 = nI x := ex
  subst ex
  have hx9 : me_eqx [70 + b] M0 M := hx9
  have hI : rs_out b n T x M := hI
  have hM : rt_at b T n M := hM0.go hx9 (by simp <;> omega) (by simp)
  simp only [mX12_laysRows_63_L72]
  rw [hM.1]
  by_cases hz : n < x
  · right
    rw [if_pos (nI_lt hz (by omega))]
    have e : x = n + 1 := by omega
    subst e
    exact ⟨_, rfl, hx9, hI⟩
  · left
    rw [if_neg (nI_nlt (by omega) (by omega))]
    obtain ⟨⟨row9, M7⟩, hl, row, er, hrow, hx7, hI7, hlow⟩ := r_sort_in hb hT hT9 hn (by omega) hM (x := x) (fun p h1 => ⟨fun _ => hI p h1, fun h3 => absurd h3 (by have := rb_bound (T := T) (n := n) (x := x) (p := p) h1 (by omega); omega)⟩)
    have er : row9 = nI row := er
    subst er
    rw [hl]
    simp only [Option.bind_some]
    rw [pu_a hb (by decide)]
    simp only [Option.bind_some]
    rw [pu_t (by omega) (by decide)]
    simp only [Option.bind_some]
    have hmore : ∀ p, rkS T n (sb (x + 1)) p = rkS T n (sb x) p + (if sl T n x p then 1 else 0) := fun p => rkS_more (by omega) (decide_eq_false (by omega)) (fun i hi => by
      by_cases c : i < x
      · show decide (i < x + 1) = (decide (i < x) || decide (i = x))
        rw [decide_eq_true c, decide_eq_true (by omega)]; rfl
      · by_cases c2 : i = x
        · show decide (i < x + 1) = (decide (i < x) || decide (i = x))
          rw [decide_eq_true c2, decide_eq_true (by omega), Bool.or_true]
        · show decide (i < x + 1) = (decide (i < x) || decide (i = x))
          rw [decide_eq_false c, decide_eq_false c2, decide_eq_false (by omega)]; rfl)
    have hrk : ∀ p, p < x → (rkS T n (sb x) p < row → rkS T n (sb (x + 1)) p = rkS T n (sb x) p) ∧ (row ≤ rkS T n (sb x) p → rkS T n (sb (x + 1)) p = rkS T n (sb x) p + 1) := fun p h1 => ⟨fun h3 => by rw [hmore p, hlow p h1 h3]; rfl, fun h3 => by rw [hmore p, ((hI7 p h1).2 h3).2]; rfl⟩
    have hxx : rkS T n (sb (x + 1)) x = row := by
      obtain ⟨p, h1, h3⟩ := rb_onto (x := x + 1) (r := row) hT (by omega) (by omega)
      by_cases e : p = x
      · rw [e] at h3; exact h3
      · exfalso
        have h4 := hrk p (by omega)
        rcases Nat.lt_or_ge (rkS T n (sb x) p) row with c | c
        · have := h4.1 c; omega
        · have := h4.2 c; omega
    refine ⟨_, rfl, ⟨x + 1, by rw [nI_1], by omega, (hx9.tr hx7).tr (me_eqx.s (by simp)), ?_⟩, ?_⟩
    · intro p h1
      by_cases e : p = x
      · subst e
        rw [hxx, pu_ss]
      · have h4 := hrk p (by omega)
        have h5 := hI7 p (by omega)
        rcases Nat.lt_or_ge (rkS T n (sb x) p) row with c | c
        · rw [h4.1 c, pu_sn (by omega)]; exact h5.1 c
        · rw [h4.2 c, pu_sn (by omega)]; exact (h5.2 c).1
    · show 300 - (nI x + 1).toNatClampNeg < 300 - (nI x).toNatClampNeg
      rw [nI_1, nI_clamp (by omega), nI_clamp (by omega)]; omega
/-- the row of a place -/
abbrev rk (T : Nat → Nat) (n p : Nat) : Nat := rkS T n (sf 0) p
theorem rk_lt {T : Nat → Nat} {n p : Nat} (hp : p ≤ n) : rk T n p < n + 1 := rk_bound (x := 0) (Nat.zero_le _) hp
theorem rk_at {T : Nat → Nat} {n r : Nat} (hT : tx_ok T n) (hr : r ≤ n) : ∃ p, p ≤ n ∧ rk T n p = r := by
  obtain ⟨p, -, h2, h3⟩ := rk_onto (x := 0) (r := r) hT (by omega) (by omega)
  exact ⟨p, h2, h3⟩
theorem rk_inj {T : Nat → Nat} {n p q : Nat} (hT : tx_ok T n) (hp : p ≤ n) (hq : q ≤ n) (h : rk T n p = rk T n q) : p = q := rkS_inj (S := sf 0) hT hp hq (decide_eq_true (Nat.zero_le _)) (decide_eq_true (Nat.zero_le _)) h
theorem rk_iff {T : Nat → Nat} {n p q : Nat} (hT : tx_ok T n) (hp : p ≤ n) (hq : q ≤ n) : rk T n p < rk T n q ↔ sl T n p q = true := rkS_iff (S := sf 0) hT hp hq (decide_eq_true (Nat.zero_le _)) (decide_eq_true (Nat.zero_le _))
set_option maxHeartbeats 1000000 in
theorem r_rowAt {b n : Nat} {T : Nat → Nat} {M0 : me_M} (hb : b < 2) (hT : tx_ok T n) (hn : n ≤ 240) (hM0 : rt_at b T n M0) (hA : ∀ p, p ≤ n → M0.1 (70 + b) (rk T n p) = nI p) :
    ∃ M', me_l (mX12_laysRows_63_L146 (nI b)) me_fu (nI 0, M0) = some M' ∧ me_eqx [73 + b] M0 M' ∧ ∀ p, p ≤ n → M'.1 (73 + b) p = nI (rk T n p) := by
  refine me_l_ok (fun s => ∃ x, s.1 = nI x ∧ x ≤ n + 1 ∧ me_eqx [73 + b] M0 s.2 ∧ ∀ p, p ≤ n → rk T n p < x → s.2.1 (73 + b) p = nI (rk T n p)) (fun s => 300 - s.1.toNatClampNeg) _ ?_ me_fu _ ⟨0, rfl, by omega, me_eqx.rf, fun p _ h => absurd h (Nat.not_lt_zero _)⟩ (by unfold me_fu; omega)
  rintro ⟨x1, M⟩ ⟨x, ex, hx, hx9, hI⟩
  have ex : x1 = nI x := ex
  subst ex
  have hx9 : me_eqx [73 + b] M0 M := hx9
  have hI : ∀ p, p ≤ n → rk T n p < x → M.1 (73 + b) p = nI (rk T n p) := hI
  have hM : rt_at b T n M := hM0.go hx9 (by simp <;> omega) (by simp)
  simp only [mX12_laysRows_63_L146]
  rw [hM.1]
  by_cases hz : n < x
  · right
    rw [if_pos (nI_lt hz (by omega))]
    exact ⟨_, rfl, hx9, fun p hp => hI p hp (by have := rk_lt (T := T) hp; omega)⟩
  · left
    rw [if_neg (nI_nlt (by omega) (by omega)), pu_a hb (by decide)]
    simp only [Option.bind_some]
    rw [pu_a hb (by decide)]
    simp only [Option.bind_some]
    obtain ⟨p0, hp0, hr0⟩ := rk_at (r := x) hT (by omega)
    rw [pu_r (by omega) (by decide)]
    simp only [Option.bind_some]
    have hv : M.1 (70 + b) x = nI p0 := by
      rw [hx9.2 (70 + b) (by simp <;> omega), ← hr0]
      exact hA p0 hp0
    rw [hv, pu_t (by omega) (by decide)]
    simp only [Option.bind_some]
    refine ⟨_, rfl, ⟨x + 1, by rw [nI_1], by omega, hx9.tr (me_eqx.s (by simp)), ?_⟩, ?_⟩
    · intro p hp h
      by_cases e : p = p0
      · subst e
        show (me_s M (73 + b) p (nI x)).1 (73 + b) p = _
        rw [pu_ss, hr0]
      · have : rk T n p ≠ x := fun z => e (rk_inj hT hp hp0 (z.trans hr0.symm))
        show (me_s M (73 + b) p0 (nI x)).1 (73 + b) p = _
        rw [pu_sn e]
        exact hI p hp (by omega)
    · show 300 - (nI x + 1).toNatClampNeg < 300 - (nI x).toNatClampNeg
      rw [nI_1, nI_clamp (by omega), nI_clamp (by omega)]; omega
