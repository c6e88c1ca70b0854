/-! ===== neighbours: with how many signs they begin alike ===== -/
theorem lc_ge {T : Nat → Nat} {n p q : Nat} : ∀ k, (∀ j, j < k → T (p + j) = T (q + j)) → p + k ≤ n → q + k ≤ n → k ≤ lc T n p q
  | 0, _, _, _ => Nat.zero_le _
  | k + 1, h, h1, h2 => lc_more (lc_ge k (fun j hj => h j (by omega)) (by omega) (by omega)) (by omega) (by omega) (h k (by omega))
theorem lc_uniq {T : Nat → Nat} {n p q k : Nat} (h : ∀ j, j < k → T (p + j) = T (q + j)) (h1 : p + k ≤ n) (h2 : q + k ≤ n) (hne : T (p + k) ≠ T (q + k)) : lc T n p q = k := by
  have := lc_ge k h h1 h2
  rcases Nat.lt_or_ge k (lc T n p q) with c | c
  · exact absurd (lc_eq c) hne
  · omega
theorem sl_of {T : Nat → Nat} {n p q k : Nat} (h : ∀ j, j < k → T (p + j) = T (q + j)) (h1 : p + k ≤ n) (h2 : q + k ≤ n) (hlt : T (p + k) < T (q + k)) : sl T n p q = true := by
  unfold sl
  rw [lc_uniq h h1 h2 (by omega)]
  exact decide_eq_true hlt
/-- what lies between two places in order is as like the later one as the earlier one is -/
theorem lc_mono {T : Nat → Nat} {n a c b : Nat} (hT : tx_ok T n) (ha : a ≤ n) (hc : c ≤ n) (hb : b ≤ n) (h1 : sl T n a c = true) (h2 : sl T n c b = true) : lc T n a b ≤ lc T n c b := by
  rcases Nat.lt_or_ge (lc T n c b) (lc T n a b) with h | h
  · exfalso
    have hl1 := lc_le (T := T) hc hb
    have hl2 := lc_le (T := T) ha hb
    have hlt : T (c + lc T n c b) < T (b + lc T n c b) := of_decide_eq_true h2
    have e1 : T (a + lc T n c b) = T (b + lc T n c b) := lc_eq h
    have h3 : sl T n c a = true := sl_of (k := lc T n c b) (fun j hj => by rw [lc_eq hj, ← lc_eq (T := T) (n := n) (p := a) (q := b) (j := j) (by omega)]) hl1.1 (by omega) (by rw [e1]; exact hlt)
    have hne : a ≠ c := fun e => by rw [e, sl_self] at h1; cases h1
    have := sl_or hT ha hc hne
    rw [h1, h3] at this
    cases this
  · exact h
theorem lc_mono2 {T : Nat → Nat} {n a c b : Nat} (hT : tx_ok T n) (ha : a ≤ n) (hc : c ≤ n) (hb : b ≤ n) (h1 : sl T n a c = true) (h2 : sl T n c b = true) : lc T n a b ≤ lc T n a c := by
  rcases Nat.lt_or_ge (lc T n a c) (lc T n a b) with h | h
  · exfalso
    have hl1 := lc_le (T := T) ha hc
    have hl2 := lc_le (T := T) ha hb
    have hlt : T (a + lc T n a c) < T (c + lc T n a c) := of_decide_eq_true h1
    have e1 : T (a + lc T n a c) = T (b + lc T n a c) := lc_eq h
    have h3 : sl T n b c = true := sl_of (k := lc T n a c) (fun j hj => by rw [← lc_eq hj, lc_eq (T := T) (n := n) (p := a) (q := b) (j := j) (by omega)]) (by omega) hl1.2 (by rw [← e1]; exact hlt)
    have hne : c ≠ b := fun e => by rw [e, sl_self] at h2; cases h2
    have := sl_or hT hc hb hne
    rw [h2, h3] at this
    cases this
  · exact h
theorem g_alike_l {o sg pl ro al sm n p q h0 : Nat} {T : Nat → Nat} {M : me_M} {v1 : Int32} (hT9 : ∀ i, T i < 2 ^ 31) (hn : n ≤ 240) (hM : rw_at o sg T n M) (hp : p ≤ n) (hq : q ≤ n) (hh : h0 ≤ lc T n p q) : ∃ r, me_l (gX4_compareNeighbours_L45 o sg pl ro al sm M (nI p) v1 (nI q)) me_fu (nI h0) = some r ∧ r = nI (lc T n p q) := by
  have hle := lc_le (T := T) hp hq
  refine me_l_ok (fun s => ∃ k, s = nI k ∧ k ≤ lc T n p q) (fun s => 241 - s.toNatClampNeg) _ ?_ me_fu _ ⟨h0, rfl, hh⟩ (by unfold me_fu; omega)
  rintro s ⟨k, rfl, hk⟩
  simp only [gX4_compareNeighbours_L45]
  rw [hM.1, nI_add, nI_add]
  by_cases c1 : n ≤ p + k
  · right
    rw [if_pos (nI_le c1 (by omega))]
    exact ⟨_, rfl, by rw [show k = lc T n p q by omega]⟩
  · rw [if_neg (nI_ge (by omega) (by omega))]
    by_cases c2 : n ≤ q + k
    · right
      rw [if_pos (nI_le c2 (by omega))]
      exact ⟨_, rfl, by rw [show k = lc T n p q by omega]⟩
    · rw [if_neg (nI_ge (by omega) (by omega)), pu_r (by omega) (by decide), pu_r (by omega) (by decide)]
      simp only [Option.bind_some]
      rw [hM.2 _ (by omega), hM.2 _ (by omega)]
      by_cases e : T (p + k) = T (q + k)
      · left
        rw [if_pos (by rw [e]), nI_1]
        have := lc_more hk (by omega) (by omega) e
        refine ⟨_, rfl, ⟨k + 1, rfl, this⟩, ?_⟩
        rw [nI_clamp (by omega), nI_clamp (by omega)]; omega
      · right
        rw [if_neg (fun z => e ((nI_eq (hT9 _) (hT9 _)).mp z))]
        refine ⟨_, rfl, ?_⟩
        rcases Nat.lt_or_ge k (lc T n p q) with c | c
        · exact absurd (lc_eq c) e
        · rw [show k = lc T n p q by omega]
theorem j_max {a : Nat} (h : a < 2 ^ 31) : mJ9_max_7cf53 0 (nI a) = some (nI a) := by
  unfold mJ9_max_7cf53
  rcases Nat.eq_zero_or_pos a with c | c
  · subst c
    rw [nI_0]; decide
  · rw [if_pos (show (0 : Int32) < nI a from by rw [← nI_0]; exact nI_lt c h)]
theorem j_maxm : mJ9_max_7cf53 0 (nI 0 - 1) = some (nI 0) := by decide +kernel
/-- the rows stand by rank -/
def rw_rk (pl ro : Nat) (T : Nat → Nat) (n : Nat) (M : me_M) : Prop := ∀ p, p ≤ n → M.1 pl (rk T n p) = nI p ∧ M.1 ro p = nI (rk T n p)
theorem rw_rk.go {pl ro n : Nat} {T : Nat → Nat} {M M' : me_M} {l : List Nat} (h : rw_rk pl ro T n M) (hx : me_eqx l M M') (h1 : pl ∉ l) (h2 : ro ∉ l) : rw_rk pl ro T n M' := fun p hp => by rw [hx.2 pl h1, hx.2 ro h2]; exact h p hp
/-- neighbours' likeness stands in al -/
def rw_al (al : Nat) (T : Nat → Nat) (n : Nat) (M : me_M) : Prop := M.1 al 0 = nI 0 ∧ ∀ p q, p ≤ n → q ≤ n → rk T n q + 1 = rk T n p → M.1 al (rk T n p) = nI (lc T n p q)
set_option maxHeartbeats 1000000 in
theorem g_alike_ok {o sg pl ro al sm n : Nat} {T : Nat → Nat} {M0 : me_M} (hT : tx_ok T n) (hT9 : ∀ i, T i < 2 ^ 31) (hn : n ≤ 240) (hM0 : rw_at o sg T n M0) (hR0 : rw_rk pl ro T n M0) (hd : o ≠ al ∧ sg ≠ al ∧ pl ≠ al ∧ ro ≠ al) :
    ∃ M', gX4_compareNeighbours o sg pl ro al sm M0 = some M' ∧ me_eqx [al] M0 M' ∧ rw_al al T n M' := by
  have step : ∀ s : Int32 × Int32 × me_M, (∃ h x, s.1 = nI h ∧ s.2.1 = nI x ∧ x ≤ n + 1 ∧ me_eqx [al] M0 s.2.2 ∧ (x ≤ n → h ≤ n ∧ ∀ q, q ≤ n → rk T n q + 1 = rk T n x → h ≤ lc T n x q) ∧ (∀ p, p ≤ n → p < x → rk T n p = 0 → s.2.2.1 al 0 = nI 0) ∧ (∀ p q, p ≤ n → q ≤ n → p < x → rk T n q + 1 = rk T n p → s.2.2.1 al (rk T n p) = nI (lc T n p q))) →
      (∃ s', gX4_compareNeighbours_L4 o sg pl ro al sm s = some (.inl s') ∧ (∃ h x, s'.1 = nI h ∧ s'.2.1 = nI x ∧ x ≤ n + 1 ∧ me_eqx [al] M0 s'.2.2 ∧ (x ≤ n → h ≤ n ∧ ∀ q, q ≤ n → rk T n q + 1 = rk T n x → h ≤ lc T n x q) ∧ (∀ p, p ≤ n → p < x → rk T n p = 0 → s'.2.2.1 al 0 = nI 0) ∧ (∀ p q, p ≤ n → q ≤ n → p < x → rk T n q + 1 = rk T n p → s'.2.2.1 al (rk T n p) = nI (lc T n p q))) ∧ 300 - s'.2.1.toNatClampNeg < 300 - s.2.1.toNatClampNeg) ∨
      (∃ r, gX4_compareNeighbours_L4 o sg pl ro al sm s = some (.inr r) ∧ (me_eqx [al] M0 r ∧ rw_al al T n r)) := by
    rintro ⟨x1, x2, M⟩ ⟨h, x, e1, e2, hx, hx9, hI1, hI2, hI3⟩
    have e1 : x1 = nI h := e1
    have e2 : x2 = nI x := e2
    subst e1
    subst e2
    have hx9 : me_eqx [al] M0 M := hx9
    have hI2 : ∀ p, p ≤ n → p < x → rk T n p = 0 → M.1 al 0 = nI 0 := hI2
    have hI3 : ∀ p q, p ≤ n → q ≤ n → p < x → rk T n q + 1 = rk T n p → M.1 al (rk T n p) = nI (lc T n p q) := hI3
    have hM : rw_at o sg T n M := hM0.go hx9 (by simp [hd.1]) (by simp [hd.2.1])
    have hR : rw_rk pl ro T n M := hR0.go hx9 (by simp [hd.2.2.1]) (by simp [hd.2.2.2])
    simp only [gX4_compareNeighbours_L4, gX4_compareNeighbours_J107]
    rw [hM.1]
    by_cases hz : n < x
    · right
      rw [if_pos (nI_lt hz (by omega))]
      obtain ⟨p0, hp0, hr0⟩ := rk_at (r := 0) hT (Nat.zero_le _)
      exact ⟨_, rfl, hx9, hI2 p0 hp0 (by omega) hr0, fun p q hp hq he => hI3 p q hp hq (by omega) he⟩
    · left
      obtain ⟨hI1, hI1'⟩ := hI1 (by omega)
      rw [if_neg (nI_nlt (by omega) (by omega)), pu_r (by omega) (by decide)]
      simp only [Option.bind_some]
      rw [(hR x (by omega)).2]
      have hb := rk_lt (T := T) (n := n) (p := x) (by omega)
      by_cases c0 : rk T n x = 0
      · rw [if_pos (by rw [c0, nI_0]), c0, pu_t (by omega) (by decide)]
        simp only [Option.bind_some]
        refine ⟨_, rfl, ⟨0, x + 1, nI_0.symm, by rw [nI_1], by omega, hx9.tr (me_eqx.s (by simp)), fun _ => ⟨Nat.zero_le _, fun _ _ _ => Nat.zero_le _⟩, fun p hp hlt hr => ?_, fun p q hp hq hlt he => ?_⟩, ?_⟩
        · show (me_s M al 0 0).1 al 0 = nI 0
          rw [pu_ss, nI_0]
        · have hpx : p < x := by
            by_cases e : p = x
            · subst e; omega
            · omega
          show (me_s M al 0 0).1 al (rk T n p) = _
          rw [pu_sn (by omega)]
          exact hI3 p q hp hq hpx he
        · show 300 - (nI x + 1).toNatClampNeg < 300 - (nI x).toNatClampNeg
          rw [nI_1, nI_clamp (by omega), nI_clamp (by omega)]; omega
      · rw [if_neg (nI_ne0 (by omega) (by omega)), nI_sub1 (by omega)]
        obtain ⟨q, hq, hrq⟩ := rk_at (r := rk T n x - 1) hT (by omega)
        rw [pu_r (by omega) (by decide)]
        simp only [Option.bind_some]
        have hv : M.1 pl (rk T n x - 1) = nI q := by rw [← hrq]; exact (hR q hq).1
        rw [hv]
        obtain ⟨r, hr, er⟩ := g_alike_l (o := o) (sg := sg) (pl := pl) (ro := ro) (al := al) (sm := sm) (v1 := nI (rk T n x)) (h0 := h) hT9 hn hM (p := x) (q := q) (by omega) hq (hI1' q hq (by omega))
        subst er
        rw [hr]
        simp only [Option.bind_some]
        rw [pu_t (by omega) (by decide)]
        simp only [Option.bind_some]
        have hle := lc_le (T := T) (n := n) (p := x) (q := q) (by omega) hq
        have hmax : mJ9_max_7cf53 0 (nI (lc T n x q) - 1) = some (nI (lc T n x q - 1)) := by
          rcases Nat.eq_zero_or_pos (lc T n x q) with c | c
          · rw [c]; exact j_maxm
          · rw [nI_sub1 c]; exact j_max (by omega)
        rw [hmax]
        simp only [Option.bind_some]
        refine ⟨_, rfl, ⟨lc T n x q - 1, x + 1, rfl, by rw [nI_1], by omega, hx9.tr (me_eqx.s (by simp)), fun hx1 => ⟨by omega, fun q' hq' he' => ?_⟩, fun p hp hlt hrz => ?_, fun p q' hp hq' hlt he => ?_⟩, ?_⟩
        · rcases Nat.lt_or_ge 1 (lc T n x q) with c | c
          · have hxn : x < n := by omega
            have hqn : q < n := by omega
            have eT : T x = T q := by have := lc_eq (T := T) (n := n) (p := x) (q := q) (j := 0) (by omega); simpa using this
            have hrec := lc_rec (T := T) hxn hqn
            rw [if_pos eT] at hrec
            have hsl : sl T n q x = true := (rk_iff hT hq (by omega)).mp (by omega)
            rw [sl_rec hqn hxn eT.symm] at hsl
            have h5 : rk T n (q + 1) < rk T n (x + 1) := (rk_iff hT (by omega) (by omega)).mpr hsl
            have hsl2 : sl T n q' (x + 1) = true := (rk_iff hT hq' (by omega)).mp (by omega)
            have h6 : lc T n (q + 1) (x + 1) ≤ lc T n q' (x + 1) := by
              by_cases e : q + 1 = q'
              · rw [e]; exact Nat.le_refl _
              · have h7 : rk T n (q + 1) ≠ rk T n q' := fun z => e (rk_inj hT (by omega) hq' z)
                exact lc_mono hT (by omega) hq' (by omega) ((rk_iff hT (by omega) hq').mp (by omega)) hsl2
            rw [lc_comm T n (x + 1) q']
            rw [lc_comm T n (q + 1) (x + 1)] at h6
            omega
          · omega
        · have hpx : p < x := by
            by_cases e : p = x
            · subst e; exact absurd hrz c0
            · omega
          show (me_s M al (rk T n x) (nI (lc T n x q))).1 al 0 = nI 0
          rw [pu_sn (by omega)]
          exact hI2 p hp hpx hrz
        · by_cases e : p = x
          · subst e
            have : q' = q := rk_inj hT hq' hq (by omega)
            subst this
            show (me_s M al (rk T n p) (nI (lc T n p q'))).1 al (rk T n p) = _
            rw [pu_ss]
          · have h7 : rk T n p ≠ rk T n x := fun z => e (rk_inj hT hp (by omega) z)
            show (me_s M al (rk T n x) (nI (lc T n x q))).1 al (rk T n p) = _
            rw [pu_sn h7]
            exact hI3 p q' hp hq' (by omega) he
        · show 300 - (nI x + 1).toNatClampNeg < 300 - (nI x).toNatClampNeg
          rw [nI_1, nI_clamp (by omega), nI_clamp (by omega)]; omega
  unfold gX4_compareNeighbours
  obtain ⟨M', hl, hq⟩ := me_l_ok (b := gX4_compareNeighbours_L4 o sg pl ro al sm) _ (fun s => 300 - s.2.1.toNatClampNeg) (fun r => me_eqx [al] M0 r ∧ rw_al al T n r) step me_fu (0, 0, M0) ⟨0, 0, nI_0.symm, nI_0.symm, Nat.zero_le _, me_eqx.rf, fun _ => ⟨Nat.zero_le _, fun _ _ _ => Nat.zero_le _⟩, fun p _ hh => absurd hh (Nat.not_lt_zero _), fun p q _ _ hh => absurd hh (Nat.not_lt_zero _)⟩ (by unfold me_fu; omega)
  exact ⟨M', by rw [hl]; rfl, hq.1, hq.2⟩
