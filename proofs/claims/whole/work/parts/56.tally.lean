/-! ===== counts of the signs before rows ===== -/
def fnd (P : Nat → Bool) : Nat → Nat
  | 0 => 0
  | n + 1 => if P n then n else fnd P n
theorem fnd_ok {P : Nat → Bool} : ∀ n, (∃ i, i < n ∧ P i = true) → fnd P n < n ∧ P (fnd P n) = true
  | 0, h => by obtain ⟨i, hi, -⟩ := h; exact absurd hi (Nat.not_lt_zero _)
  | n + 1, h => by
    unfold fnd
    by_cases c : P n = true
    · rw [if_pos c]; exact ⟨by omega, c⟩
    · rw [if_neg c]
      obtain ⟨i, hi, hp⟩ := h
      have := fnd_ok n ⟨i, by
        by_cases e : i = n
        · subst e; exact absurd hp c
        · omega, hp⟩
      exact ⟨by omega, this.2⟩
/-- the place at a row -/
def pa (T : Nat → Nat) (n r : Nat) : Nat := fnd (fun p => decide (rk T n p = r)) (n + 1)
theorem pa_ok {T : Nat → Nat} {n r : Nat} (hT : tx_ok T n) (hr : r ≤ n) : pa T n r ≤ n ∧ rk T n (pa T n r) = r := by
  obtain ⟨p, hp, e⟩ := rk_at (r := r) hT hr
  have := fnd_ok (P := fun p => decide (rk T n p = r)) (n + 1) ⟨p, by omega, decide_eq_true e⟩
  exact ⟨by unfold pa; omega, of_decide_eq_true this.2⟩
theorem pa_rk {T : Nat → Nat} {n p : Nat} (hT : tx_ok T n) (hp : p ≤ n) : pa T n (rk T n p) = p := by
  have h := pa_ok (r := rk T n p) hT (by have := rk_lt (T := T) hp; omega)
  exact rk_inj hT h.1 hp h.2
/-- the sign before a place -/
def bf (T : Nat → Nat) (p : Nat) : Nat := if p = 0 then 0 else T (p - 1)
/-- how many rows ahead of r have a sign before them that is below s -/
def sc (T : Nat → Nat) (n r s : Nat) : Nat := ct (fun i => decide (bf T (pa T n i) < s)) r
def rw_sm (sm : Nat) (T : Nat → Nat) (n : Nat) (M : me_M) : Prop := ∀ r c, r ≤ n + 1 → c < 8 → M.1 sm (r * 8 + c) = nI (sc T n r (c + 2))
theorem g_before_ok {o sg pl ro al sm n r : Nat} {T : Nat → Nat} {M : me_M} (hT : tx_ok T n) (hn : n ≤ 240) (hM : rw_at o sg T n M) (hR : rw_rk pl ro T n M) (hr : r ≤ n) : gX4_before o sg pl ro al sm M (nI r) = some (nI (bf T (pa T n r))) := by
  obtain ⟨h1, h2⟩ := pa_ok (r := r) hT hr
  have hv : M.1 pl r = nI (pa T n r) := by have := (hR _ h1).1; rw [h2] at this; exact this
  unfold gX4_before
  rw [pu_r (by omega) (by decide)]
  simp only [Option.bind_some]
  rw [hv]
  unfold bf
  by_cases c : pa T n r = 0
  · rw [if_pos (by rw [c, nI_0]), if_pos c, nI_0]
  · rw [if_neg (nI_ne0 (by omega) (by omega)), if_neg c, nI_sub1 (by omega), pu_r (by omega) (by decide)]
    simp only [Option.bind_some]
    rw [hM.2 _ (by omega)]
theorem nI_mul8 (a : Nat) : nI a * 8 = nI (a * 8) := by
  have h : (8 : Int32) = nI 8 := by decide
  rw [h]
  unfold nI
  rw [← Int32.ofNat_mul]
set_option maxHeartbeats 1000000 in
theorem g_tally_in {o sg pl ro al sm n r b : Nat} {T : Nat → Nat} {M0 : me_M} (hn : n ≤ 240) (hr : r ≤ n) (hb : b < 2 ^ 31 - 20) (h0 : ∀ c, c < 8 → M0.1 sm (r * 8 + c) = nI (sc T n r (c + 2))) (hs : ∀ c, c < 8 → sc T n (r + 1) (c + 2) = sc T n r (c + 2) + (if b < c + 2 then 1 else 0)) :
    ∃ M', me_l (gX4_tallySmaller_L18 o sg pl ro al sm (nI r) (nI b)) me_fu (0, M0) = some M' ∧ me_eqx [sm] M0 M' ∧ (∀ k, k < (r + 1) * 8 → M'.1 sm k = M0.1 sm k) ∧ ∀ c, c < 8 → M'.1 sm ((r + 1) * 8 + c) = nI (sc T n (r + 1) (c + 2)) := by
  refine me_l_ok (fun s => ∃ x, s.1 = nI x ∧ x ≤ 8 ∧ me_eqx [sm] M0 s.2 ∧ (∀ k, k < (r + 1) * 8 → s.2.1 sm k = M0.1 sm k) ∧ ∀ c, c < x → s.2.1 sm ((r + 1) * 8 + c) = nI (sc T n (r + 1) (c + 2))) (fun s => 300 - s.1.toNatClampNeg) _ ?_ me_fu _ ⟨0, nI_0.symm, by omega, me_eqx.rf, fun _ _ => rfl, fun c h => absurd h (Nat.not_lt_zero _)⟩ (by unfold me_fu; omega)
  rintro ⟨x3, M⟩ ⟨x, ex, hx, hx9, hI1, hI2⟩
  have ex : x3 = nI x := ex
  subst ex
  have hx9 : me_eqx [sm] M0 M := hx9
  have hI1 : ∀ k, k < (r + 1) * 8 → M.1 sm k = M0.1 sm k := hI1
  have hI2 : ∀ c, c < x → M.1 sm ((r + 1) * 8 + c) = nI (sc T n (r + 1) (c + 2)) := hI2
  have h8 : (8 : Int32) = nI 8 := by decide
  have h2 : (2 : Int32) = nI 2 := by decide
  simp only [gX4_tallySmaller_L18]
  by_cases hz : 8 ≤ x
  · right
    rw [if_pos (by rw [h8]; exact nI_le hz (by omega))]
    have e : x = 8 := by omega
    subst e
    exact ⟨_, rfl, hx9, hI1, hI2⟩
  · left
    rw [if_neg (by rw [h8]; exact nI_ge (by omega) (by omega))]
    have hJ : ∀ a : Nat, (a = if b < x + 2 then 1 else 0) → gX4_tallySmaller_J36 o sg pl ro al sm (nI r) (nI b) (nI x) M (nI a) = some (.inl (nI (x + 1), me_s M sm ((r + 1) * 8 + x) (nI (sc T n (r + 1) (x + 2))))) := fun a ha => by
      unfold gX4_tallySmaller_J36
      rw [nI_1, nI_mul8, nI_mul8, nI_add, nI_add, pu_r (by omega) (by decide)]
      simp only [Option.bind_some]
      rw [hI1 _ (by omega), h0 x (by omega), nI_add, pu_t (by omega) (by decide)]
      simp only [Option.bind_some]
      rw [nI_1, hs x (by omega), ha]
    have hres : (if (2 : Int32) + nI x ≤ nI b then gX4_tallySmaller_J36 o sg pl ro al sm (nI r) (nI b) (nI x) M 0 else gX4_tallySmaller_J36 o sg pl ro al sm (nI r) (nI b) (nI x) M 1) = some (.inl (nI (x + 1), me_s M sm ((r + 1) * 8 + x) (nI (sc T n (r + 1) (x + 2))))) := by
      rw [h2, nI_add]
      by_cases c : b < x + 2
      · rw [if_neg (nI_ge (by omega) (by omega)), nI_lit1]
        exact hJ 1 (by rw [if_pos c])
      · rw [if_pos (nI_le (by omega) (by omega)), show (0 : Int32) = nI 0 from nI_0.symm]
        exact hJ 0 (by rw [if_neg c])
    rw [hres]
    refine ⟨_, rfl, ⟨x + 1, rfl, by omega, hx9.tr (me_eqx.s (by simp)), fun k hk => ?_, fun c hc => ?_⟩, ?_⟩
    · show (me_s M sm ((r + 1) * 8 + x) _).1 sm k = _
      rw [pu_sn (by omega)]; exact hI1 k hk
    · show (me_s M sm ((r + 1) * 8 + x) _).1 sm ((r + 1) * 8 + c) = _
      by_cases e : c = x
      · subst e; rw [pu_ss]
      · rw [pu_sn (by omega)]; exact hI2 c (by omega)
    · show 300 - (nI (x + 1)).toNatClampNeg < 300 - (nI x).toNatClampNeg
      rw [nI_clamp (by omega), nI_clamp (by omega)]; omega
set_option maxHeartbeats 1000000 in
theorem g_tally_ok {o sg pl ro al sm n : Nat} {T : Nat → Nat} {M0 : me_M} (hT : tx_ok T n) (hT9 : ∀ i, T i < 2 ^ 31 - 20) (hn : n ≤ 240) (hM0 : rw_at o sg T n M0) (hR0 : rw_rk pl ro T n M0) (hz0 : ∀ c, c < 8 → M0.1 sm c = 0) (hd : o ≠ sm ∧ sg ≠ sm ∧ pl ≠ sm ∧ ro ≠ sm) :
    ∃ M', gX4_tallySmaller o sg pl ro al sm M0 = some M' ∧ me_eqx [sm] M0 M' ∧ rw_sm sm T n M' ∧ ∀ c, c < 8 → M'.1 sm c = 0 := by
  have step : ∀ s : Int32 × me_M, (∃ x, s.1 = nI x ∧ x ≤ n + 1 ∧ me_eqx [sm] M0 s.2 ∧ ∀ r c, r ≤ x → c < 8 → s.2.1 sm (r * 8 + c) = nI (sc T n r (c + 2))) →
      (∃ s', gX4_tallySmaller_L2 o sg pl ro al sm s = some (.inl s') ∧ (∃ x, s'.1 = nI x ∧ x ≤ n + 1 ∧ me_eqx [sm] M0 s'.2 ∧ ∀ r c, r ≤ x → c < 8 → s'.2.1 sm (r * 8 + c) = nI (sc T n r (c + 2))) ∧ 300 - s'.1.toNatClampNeg < 300 - s.1.toNatClampNeg) ∨
      (∃ r, gX4_tallySmaller_L2 o sg pl ro al sm s = some (.inr r) ∧ (me_eqx [sm] M0 r ∧ rw_sm sm T n r)) := by
    rintro ⟨x1, M⟩ ⟨x, ex, hx, hx9, hI⟩
    have ex : x1 = nI x := ex
    subst ex
    have hx9 : me_eqx [sm] M0 M := hx9
    have hI : ∀ r c, r ≤ x → c < 8 → M.1 sm (r * 8 + c) = nI (sc T n r (c + 2)) := hI
    have hM : rw_at o sg T n M := hM0.go hx9 (by simp [hd.1]) (by simp [hd.2.1])
    have hR : rw_rk pl ro T n M := hR0.go hx9 (by simp [hd.2.2.1]) (by simp [hd.2.2.2])
    simp only [gX4_tallySmaller_L2]
    rw [hM.1]
    by_cases hz : n < x
    · right
      rw [if_pos (nI_lt hz (by omega))]
      exact ⟨_, rfl, hx9, fun r c h1 h2 => hI r c (by omega) h2⟩
    · left
      rw [if_neg (nI_nlt (by omega) (by omega)), g_before_ok hT hn hM hR (by omega)]
      simp only [Option.bind_some]
      have hbb : bf T (pa T n x) < 2 ^ 31 - 20 := by
        unfold bf
        split
        · decide
        · exact hT9 _
      obtain ⟨M', hl, g1, g2, g3⟩ := g_tally_in (o := o) (sg := sg) (pl := pl) (ro := ro) (al := al) (sm := sm) (T := T) (M0 := M) (r := x) (b := bf T (pa T n x)) hn (by omega) hbb (fun c hc => hI x c (Nat.le_refl _) hc) (fun c hc => by
        show ct _ (x + 1) = ct _ x + _
        rw [show ct (fun i => decide (bf T (pa T n i) < c + 2)) (x + 1) = ct (fun i => decide (bf T (pa T n i) < c + 2)) x + (if decide (bf T (pa T n x) < c + 2) = true then 1 else 0) from rfl]
        by_cases q : bf T (pa T n x) < c + 2
        · rw [if_pos q, if_pos (decide_eq_true q)]
        · rw [if_neg q, if_neg (by rw [decide_eq_false q]; decide)])
      rw [hl]
      simp only [Option.bind_some]
      refine ⟨_, rfl, ⟨x + 1, by rw [nI_1], by omega, hx9.tr g1, fun r c h1 h2 => ?_⟩, ?_⟩
      · show M'.1 sm (r * 8 + c) = _
        by_cases e : r = x + 1
        · subst e; exact g3 c h2
        · rw [g2 _ (by omega)]; exact hI r c (by omega) h2
      · show 300 - (nI x + 1).toNatClampNeg < 300 - (nI x).toNatClampNeg
        rw [nI_1, nI_clamp (by omega), nI_clamp (by omega)]; omega
  unfold gX4_tallySmaller
  obtain ⟨M', hl, hq⟩ := me_l_ok (b := gX4_tallySmaller_L2 o sg pl ro al sm) _ (fun s => 300 - s.1.toNatClampNeg) (fun r => me_eqx [sm] M0 r ∧ rw_sm sm T n r) step me_fu (0, M0) ⟨0, nI_0.symm, Nat.zero_le _, me_eqx.rf, fun r c h1 h2 => by
    have e : r = 0 := by omega
    subst e
    show M0.1 sm (0 * 8 + c) = nI 0
    rw [Nat.zero_mul, Nat.zero_add, hz0 c h2, nI_0]⟩ (by unfold me_fu; omega)
  refine ⟨M', by rw [hl]; rfl, hq.1, hq.2, fun c hc => ?_⟩
  have := hq.2 0 c (Nat.zero_le _) hc
  rw [Nat.zero_mul, Nat.zero_add] at this
  rw [this]
  exact nI_0
