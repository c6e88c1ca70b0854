/-! ===== the class's rows: sorted ===== -/
theorem ct_ge (x : Nat) : ∀ n, ct (fun q => decide (x ≤ q)) n = n - x
  | 0 => by show 0 = 0 - x; omega
  | n + 1 => by
    unfold ct
    rw [ct_ge x n]
    by_cases h : x ≤ n
    · rw [if_pos (decide_eq_true h)]; omega
    · rw [if_neg (by rw [decide_eq_false h]; decide)]; omega
abbrev sf (x : Nat) : Nat → Bool := fun q => decide (x ≤ q)
theorem rk_bound {T : Nat → Nat} {n x p : Nat} (hx : x ≤ p) (hp : p ≤ n) : rkS T n (sf x) p < n + 1 - x := by
  have h := ct_lt (P := fun q => sf x q && sl T n q p) (Q := sf x) (n + 1) (fun i _ h1 => by simp only [Bool.and_eq_true] at h1; exact h1.1) p (by omega) (by show (sf x p && sl T n p p) = false; rw [sl_self, Bool.and_false]) (decide_eq_true hx)
  rw [ct_ge] at h
  exact h
theorem rk_onto {T : Nat → Nat} {n x r : Nat} (hT : tx_ok T n) (hx : x ≤ n + 1) (hr : r < n + 1 - x) : ∃ p, x ≤ p ∧ p ≤ n ∧ rkS T n (sf x) p = r := by
  obtain ⟨i, hi, e⟩ := pigeon (n + 1 - x) (fun i => rkS T n (sf x) (x + i)) (fun i hi => rk_bound (by omega) (by omega)) (fun i j hi hj e => by
    have := rkS_inj (p := x + i) (q := x + j) hT (by omega) (by omega) (decide_eq_true (by omega)) (decide_eq_true (by omega)) e
    omega) r hr
  exact ⟨x + i, by omega, by omega, e⟩
/-- a side's length and signs stand in the memory -/
def rw_at (o sg : Nat) (T : Nat → Nat) (n : Nat) (M : me_M) : Prop := M.1 o 5 = nI n ∧ ∀ i, i ≤ n → M.1 sg i = nI (T i)
theorem rw_at.go {o sg n : Nat} {T : Nat → Nat} {M M' : me_M} {l : List Nat} (h : rw_at o sg T n M) (hx : me_eqx l M M') (h1 : o ∉ l) (h2 : sg ∉ l) : rw_at o sg T n M' := ⟨by rw [hx.2 o h1]; exact h.1, fun i hi => by rw [hx.2 sg h2]; exact h.2 i hi⟩
theorem gX4_isAhead_ok {o sg pl ro al sm n p q : Nat} {T : Nat → Nat} {M : me_M} (hT : tx_ok T n) (hT9 : ∀ i, T i < 2 ^ 31) (hn : n ≤ 240) (hM : rw_at o sg T n M) (hp : p ≤ n) (hq : q ≤ n)
    (hR : T p = T q → p < n → q < n → ∃ a b, M.1 ro (p + 1) = nI a ∧ M.1 ro (q + 1) = nI b ∧ a < 2 ^ 31 ∧ b < 2 ^ 31 ∧ (a < b ↔ sl T n (p + 1) (q + 1) = true)) :
    gX4_isAhead o sg pl ro al sm M (nI p) (nI q) = some (if sl T n p q then 1 else 0) := by
  have hJ : (T p ≠ T q ∨ p = q) → gX4_isAhead_J31 o sg pl ro al sm (nI p) (nI q) M = some (if sl T n p q then 1 else 0) := by
    intro hne
    unfold gX4_isAhead_J31
    rw [pu_r (by omega) (by decide), pu_r (by omega) (by decide)]
    simp only [Option.bind_some]
    rw [hM.2 p hp, hM.2 q hq]
    rcases hne with hne | rfl
    · rw [sl_lt hne]
      rcases Nat.lt_or_ge (T p) (T q) with c | c
      · rw [if_neg (nI_ge c (hT9 q)), if_pos (decide_eq_true c)]
      · rw [if_pos (nI_le c (hT9 p)), if_neg (by rw [decide_eq_false (by omega)]; decide)]
    · rw [if_pos (nI_le (Nat.le_refl _) (hT9 p)), sl_self, if_neg (by decide)]
  unfold gX4_isAhead
  rw [pu_r (by omega) (by decide), pu_r (by omega) (by decide)]
  simp only [Option.bind_some]
  rw [hM.2 p hp, hM.2 q hq, hM.1]
  by_cases e : T p = T q
  · rw [if_pos (by rw [e])]
    by_cases cp : p < n
    · rw [if_neg (nI_ge cp (by omega))]
      by_cases cq : q < n
      · rw [if_pos (nI_lt cq (by omega))]
        obtain ⟨a, b, h1, h2, h3, h4, h5⟩ := hR e cp cq
        rw [nI_1, nI_1, pu_r (by omega) (by decide), pu_r (by omega) (by decide)]
        simp only [Option.bind_some]
        rw [h1, h2, sl_rec cp cq e]
        rcases Nat.lt_or_ge a b with c | c
        · rw [if_neg (nI_ge c h4), if_pos (h5.mp c)]
        · rw [if_pos (nI_le c h3), if_neg (fun z => absurd (h5.mpr z) (by omega))]
      · rw [if_neg (nI_nlt (by omega) (by omega))]
        refine hJ (Or.inl ?_)
        have : q = n := by omega
        rw [this, hT.1]
        have := hT.2 p cp
        omega
    · rw [if_pos (nI_le (by omega) (by omega))]
      have hpn : p = n := by omega
      refine hJ (Or.inr ?_)
      rcases Nat.lt_or_ge q n with c | c
      · have := hT.2 q c
        rw [hpn, hT.1] at e
        omega
      · omega
  · rw [if_neg (fun z => e ((nI_eq (hT9 p) (hT9 q)).mp z))]
    exact hJ (Or.inl e)
/-- what the inner loop keeps: x goes into the sorted places behind x; from row on they stand one further -/
def sr_in (pl ro n x : Nat) (T : Nat → Nat) (row : Nat) (M : me_M) : Prop := ∀ p, x + 1 ≤ p → p ≤ n →
  (rkS T n (sf (x + 1)) p < row → M.1 pl (rkS T n (sf (x + 1)) p) = nI p ∧ M.1 ro p = nI (rkS T n (sf (x + 1)) p)) ∧
  (row ≤ rkS T n (sf (x + 1)) p → M.1 pl (rkS T n (sf (x + 1)) p + 1) = nI p ∧ M.1 ro p = nI (rkS T n (sf (x + 1)) p + 1) ∧ sl T n x p = true)
set_option maxHeartbeats 1000000 in
theorem gX4_sort_in {o sg pl ro al sm n x : Nat} {T : Nat → Nat} {M0 : me_M} (hT : tx_ok T n) (hT9 : ∀ i, T i < 2 ^ 31) (hn : n ≤ 240) (hx : x < n) (hM0 : rw_at o sg T n M0) (hd : pl ≠ ro ∧ o ≠ pl ∧ o ≠ ro ∧ sg ≠ pl ∧ sg ≠ ro) (h0 : sr_in pl ro n x T (n - x) M0) :
    ∃ r, me_l (gX4_sortPlaces_L38 o sg pl ro al sm (nI x)) me_fu (nI (n - x), M0) = some r ∧ ∃ row, r.1 = nI row ∧ row ≤ n - x ∧ me_eqx [pl, ro] M0 r.2 ∧ sr_in pl ro n x T row r.2 ∧ ∀ p, x + 1 ≤ p → p ≤ n → rkS T n (sf (x + 1)) p < row → sl T n x p = false := by
  refine me_l_ok (fun s => ∃ row, s.1 = nI row ∧ row ≤ n - x ∧ me_eqx [pl, ro] M0 s.2 ∧ sr_in pl ro n x T row s.2) (fun s => s.1.toNatClampNeg) _ ?_ me_fu _ ⟨n - x, rfl, Nat.le_refl _, me_eqx.rf, h0⟩ (by show (nI (n - x)).toNatClampNeg < me_fu; rw [nI_clamp (by omega)]; unfold me_fu; omega)
  rintro ⟨x2, M⟩ ⟨row, e2, hrow, hx9, hI⟩
  have e2 : x2 = nI row := e2
  subst e2
  have hx9 : me_eqx [pl, ro] M0 M := hx9
  have hI : sr_in pl ro n x T row M := hI
  have hM : rw_at o sg T n M := hM0.go hx9 (by simp [hd.2.1, hd.2.2.1]) (by simp [hd.2.2.2.1, hd.2.2.2.2])
  simp only [gX4_sortPlaces_L38]
  by_cases hz : row = 0
  · right
    subst hz
    rw [if_pos nI_00]
    exact ⟨_, rfl, 0, rfl, by omega, hx9, hI, fun p _ _ h => absurd h (Nat.not_lt_zero _)⟩
  · obtain ⟨k, rfl⟩ : ∃ k, row = k + 1 := ⟨row - 1, by omega⟩
    rw [if_neg (nI_nle (by omega) (by omega)), nI_sub1 (by omega)]
    obtain ⟨p0, hp0, hp0n, hk0⟩ := rk_onto (x := x + 1) (r := k) hT (by omega) (by omega)
    have hv := ((hI p0 hp0 hp0n).1 (by omega)).1
    rw [hk0] at hv
    rw [show k + 1 - 1 = k by omega, pu_r (by omega) (by decide)]
    simp only [Option.bind_some]
    rw [hv, gX4_isAhead_ok hT hT9 hn hM (by omega) hp0n (fun e c1 c2 => by
      have hmono : ∀ a, x + 1 ≤ a → a ≤ n → M.1 ro a = nI (if rkS T n (sf (x + 1)) a < k + 1 then rkS T n (sf (x + 1)) a else rkS T n (sf (x + 1)) a + 1) := fun a ha ha2 => by
        by_cases c : rkS T n (sf (x + 1)) a < k + 1
        · rw [if_pos c]; exact ((hI a ha ha2).1 c).2
        · rw [if_neg c]; exact ((hI a ha ha2).2 (by omega)).2.1
      refine ⟨_, _, hmono (x + 1) (by omega) (by omega), hmono (p0 + 1) (by omega) (by omega), ?_, ?_, ?_⟩
      · have := rk_bound (T := T) (n := n) (x := x + 1) (p := x + 1) (by omega) (by omega)
        split <;> omega
      · have := rk_bound (T := T) (n := n) (x := x + 1) (p := p0 + 1) (by omega) (by omega)
        split <;> omega
      · rw [← rkS_iff (S := sf (x + 1)) hT (by omega) (by omega) (decide_eq_true (by omega)) (decide_eq_true (by omega))]
        split <;> split <;> omega)]
    simp only [Option.bind_some]
    cases hs : sl T n x p0 with
    | false =>
      right
      rw [if_pos (show (if false = true then (1 : Int32) else 0) = 0 from by decide)]
      refine ⟨_, rfl, k + 1, rfl, hrow, hx9, hI, fun p h1 h2 h3 => ?_⟩
      cases hsp : sl T n x p with
      | false => rfl
      | true =>
        exfalso
        by_cases e : p = p0
        · subst e; rw [hs] at hsp; cases hsp
        · have hne : rkS T n (sf (x + 1)) p ≠ k := fun z => e (rkS_inj hT h2 hp0n (decide_eq_true h1) (decide_eq_true hp0) (z.trans hk0.symm))
          have h4 : sl T n p p0 = true := (rkS_iff (S := sf (x + 1)) hT h2 hp0n (decide_eq_true h1) (decide_eq_true hp0)).mp (by omega)
          have := sl_trans hT (by omega) h2 hp0n hsp h4
          rw [hs] at this
          cases this
    | true =>
      left
      rw [if_pos rfl, if_neg (by decide), pu_t (by omega) (by decide)]
      simp only [Option.bind_some]
      rw [pu_r (by omega) (by decide)]
      simp only [Option.bind_some]
      rw [pu_ss, pu_t (by omega) (by decide)]
      simp only [Option.bind_some]
      rw [nI_m1 (by omega), show k + 1 - 1 = k by omega]
      refine ⟨_, rfl, ⟨k, rfl, by omega, (hx9.tr (me_eqx.s (by simp))).tr (me_eqx.s (by simp)), ?_⟩, ?_⟩
      · intro p h1 h2
        have hrel := hI p h1 h2
        refine ⟨fun h3 => ?_, fun h3 => ?_⟩
        · have hne : p ≠ p0 := fun e => by subst e; omega
          obtain ⟨g1, g2⟩ := hrel.1 (by omega)
          refine ⟨?_, ?_⟩
          · rw [me_s_ne hd.1, pu_sn (by omega)]; exact g1
          · rw [pu_sn hne, me_s_ne hd.1.symm]; exact g2
        · by_cases e : p = p0
          · subst e
            refine ⟨?_, ?_, hs⟩
            · rw [me_s_ne hd.1, hk0, pu_ss]
            · rw [pu_ss, hk0]
          · have hne : rkS T n (sf (x + 1)) p ≠ k := fun z => e (rkS_inj hT h2 hp0n (decide_eq_true h1) (decide_eq_true hp0) (z.trans hk0.symm))
            obtain ⟨g1, g2, g3⟩ := hrel.2 (by omega)
            refine ⟨?_, ?_, g3⟩
            · rw [me_s_ne hd.1, pu_sn (by omega)]; exact g1
            · rw [pu_sn e, me_s_ne hd.1.symm]; exact g2
      · show (nI k).toNatClampNeg < (nI (k + 1)).toNatClampNeg
        rw [nI_clamp (by omega), nI_clamp (by omega)]; omega
/-- the places from j on stand sorted -/
def sr_out (pl ro n : Nat) (T : Nat → Nat) (j : Nat) (M : me_M) : Prop := ∀ p, j ≤ p → p ≤ n → M.1 pl (rkS T n (sf j) p) = nI p ∧ M.1 ro p = nI (rkS T n (sf j) p)
set_option maxHeartbeats 1000000 in
theorem gX4_sort_ok {o sg pl ro al sm n : Nat} {T : Nat → Nat} {M0 : me_M} (hT : tx_ok T n) (hT9 : ∀ i, T i < 2 ^ 31) (hn : n ≤ 240) (hM0 : rw_at o sg T n M0) (hd : pl ≠ ro ∧ o ≠ pl ∧ o ≠ ro ∧ sg ≠ pl ∧ sg ≠ ro) :
    ∃ M', gX4_sortPlaces o sg pl ro al sm M0 = some M' ∧ me_eqx [pl, ro] M0 M' ∧ sr_out pl ro n T 0 M' := by
  unfold gX4_sortPlaces
  rw [hM0.1, show (0 : Int32) = nI 0 from nI_0.symm, pu_t (by decide) (by decide)]
  simp only [Option.bind_some]
  have e1 : (me_s M0 pl 0 (nI n)).1 o 5 = nI n := by rw [me_s_ne hd.2.1]; exact hM0.1
  rw [e1, pu_t (by omega) (by decide)]
  simp only [Option.bind_some]
  generalize hM2 : me_s (me_s M0 pl 0 (nI n)) ro n (nI 0) = M2
  have hx2 : me_eqx [pl, ro] M0 M2 := by rw [← hM2]; exact (me_eqx.s (by simp)).tr (me_eqx.s (by simp))
  have hr2 : rw_at o sg T n M2 := hM0.go hx2 (by simp [hd.2.1, hd.2.2.1]) (by simp [hd.2.2.2.1, hd.2.2.2.2])
  have hs2 : sr_out pl ro n T n M2 := by
    intro p h1 h2
    have hp : p = n := by omega
    subst hp
    have hb := rk_bound (T := T) (n := p) (x := p) (p := p) (Nat.le_refl _) (Nat.le_refl _)
    rw [show rkS T p (sf p) p = 0 by omega, ← hM2]
    refine ⟨?_, ?_⟩
    · rw [me_s_ne hd.1, pu_ss]
    · rw [pu_ss]
  rw [hr2.1]
  have step : ∀ s : Int32 × me_M, (∃ j, s.1 = nI j - 1 ∧ j ≤ n ∧ me_eqx [pl, ro] M0 s.2 ∧ sr_out pl ro n T j s.2) → (∃ s', gX4_sortPlaces_L27 o sg pl ro al sm s = some (.inl s') ∧ (∃ j, s'.1 = nI j - 1 ∧ j ≤ n ∧ me_eqx [pl, ro] M0 s'.2 ∧ sr_out pl ro n T j s'.2) ∧ (s'.1 + 1).toNatClampNeg < (s.1 + 1).toNatClampNeg) ∨ (∃ r, gX4_sortPlaces_L27 o sg pl ro al sm s = some (.inr r) ∧ (me_eqx [pl, ro] M0 r ∧ sr_out pl ro n T 0 r)) := by
    rintro ⟨x1, M⟩ ⟨j, ej, hj, hx9, hI⟩
    have ej : x1 = nI j - 1 := ej
    subst ej
    have hx9 : me_eqx [pl, ro] M0 M := hx9
    have hI : sr_out pl ro n T j M := hI
    have hM : rw_at o sg T n M := hM0.go hx9 (by simp [hd.2.1, hd.2.2.1]) (by simp [hd.2.2.2.1, hd.2.2.2.2])
    simp only [gX4_sortPlaces_L27]
    by_cases hz : j = 0
    · right
      subst hz
      rw [if_pos nI_0m]
      exact ⟨_, rfl, hx9, hI⟩
    · left
      obtain ⟨x, rfl⟩ : ∃ x, j = x + 1 := ⟨j - 1, by omega⟩
      rw [nI_sub1 (by omega), show x + 1 - 1 = x by omega, if_neg (nI_pos (by omega)), hM.1, nI_sub (by omega)]
      obtain ⟨⟨row9, M7⟩, hl, row, er, hrow, hx7, hI7, hlow⟩ := gX4_sort_in (al := al) (sm := sm) hT hT9 hn (by omega) hM hd (x := x) (fun p h1 h2 => ⟨fun _ => hI p h1 h2, fun h3 => absurd h3 (by have := rk_bound (T := T) (n := n) (x := x + 1) (p := p) h1 h2; omega)⟩)
      have er : row9 = nI row := er
      subst er
      rw [hl]
      simp only [Option.bind_some]
      rw [pu_t (by omega) (by decide)]
      simp only [Option.bind_some]
      rw [pu_t (by omega) (by decide)]
      simp only [Option.bind_some]
      have hmore : ∀ p, rkS T n (sf x) p = rkS T n (sf (x + 1)) p + (if sl T n x p then 1 else 0) := fun p => rkS_more (by omega) (decide_eq_false (by omega)) (fun i hi => by
        by_cases c : x + 1 ≤ i
        · show decide (x ≤ i) = (decide (x + 1 ≤ i) || decide (i = x))
          rw [decide_eq_true c, decide_eq_true (by omega)]; rfl
        · by_cases c2 : i = x
          · show decide (x ≤ i) = (decide (x + 1 ≤ i) || decide (i = x))
            rw [decide_eq_true c2, decide_eq_true (by omega), Bool.or_true]
          · show decide (x ≤ i) = (decide (x + 1 ≤ i) || decide (i = x))
            rw [decide_eq_false c, decide_eq_false c2, decide_eq_false (by omega)]; rfl)
      have hrk : ∀ p, x + 1 ≤ p → p ≤ n → (rkS T n (sf (x + 1)) p < row → rkS T n (sf x) p = rkS T n (sf (x + 1)) p) ∧ (row ≤ rkS T n (sf (x + 1)) p → rkS T n (sf x) p = rkS T n (sf (x + 1)) p + 1) := fun p h1 h2 => ⟨fun h3 => by rw [hmore p, hlow p h1 h2 h3]; rfl, fun h3 => by rw [hmore p, ((hI7 p h1 h2).2 h3).2.2]; rfl⟩
      have hxx : rkS T n (sf x) x = row := by
        obtain ⟨p, h1, h2, h3⟩ := rk_onto (x := x) (r := row) hT (by omega) (by omega)
        by_cases e : p = x
        · rw [e] at h3; exact h3
        · exfalso
          have h4 := hrk p (by omega) h2
          rcases Nat.lt_or_ge (rkS T n (sf (x + 1)) p) row with c | c
          · have := h4.1 c; omega
          · have := h4.2 c; omega
      refine ⟨_, rfl, ⟨x, by rw [Int32.sub_eq_add_neg], by omega, ((hx9.tr hx7).tr (me_eqx.s (by simp))).tr (me_eqx.s (by simp)), ?_⟩, ?_⟩
      · intro p h1 h2
        by_cases e : p = x
        · subst e
          rw [hxx]
          refine ⟨?_, ?_⟩
          · rw [me_s_ne hd.1, pu_ss]
          · rw [pu_ss]
        · have h4 := hrk p (by omega) h2
          have h5 := hI7 p (by omega) h2
          rcases Nat.lt_or_ge (rkS T n (sf (x + 1)) p) row with c | c
          · rw [h4.1 c]
            obtain ⟨g1, g2⟩ := h5.1 c
            refine ⟨?_, ?_⟩
            · rw [me_s_ne hd.1, pu_sn (by omega)]; exact g1
            · rw [pu_sn e, me_s_ne hd.1.symm]; exact g2
          · rw [h4.2 c]
            obtain ⟨g1, g2, -⟩ := h5.2 c
            refine ⟨?_, ?_⟩
            · rw [me_s_ne hd.1, pu_sn (by omega)]; exact g1
            · rw [pu_sn e, me_s_ne hd.1.symm]; exact g2
      · show (nI x + (-1) + 1).toNatClampNeg < (nI x + 1).toNatClampNeg
        rw [← Int32.sub_eq_add_neg, Int32.sub_add_cancel, nI_1, nI_clamp (by omega), nI_clamp (by omega)]; omega
  obtain ⟨M', hl, hq⟩ := me_l_ok (b := gX4_sortPlaces_L27 o sg pl ro al sm) (fun s => ∃ j, s.1 = nI j - 1 ∧ j ≤ n ∧ me_eqx [pl, ro] M0 s.2 ∧ sr_out pl ro n T j s.2) (fun s => (s.1 + 1).toNatClampNeg) (fun r => me_eqx [pl, ro] M0 r ∧ sr_out pl ro n T 0 r) step me_fu (nI n - 1, M2) ⟨n, rfl, Nat.le_refl _, hx2, hs2⟩ (by
    show (nI n - 1 + 1).toNatClampNeg < me_fu
    rw [Int32.sub_add_cancel, nI_clamp (by omega)]; unfold me_fu; omega)
  exact ⟨M', by rw [hl]; rfl, hq.1, hq.2⟩
