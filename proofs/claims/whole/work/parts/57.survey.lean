/-! ===== what a text's survey lays down ===== -/
/-- the text read backwards -/
def rv (T : Nat → Nat) (n i : Nat) : Nat := if i < n then T (n - 1 - i) else 0
theorem rv_ok {T : Nat → Nat} {n : Nat} (hT : tx_ok T n) : tx_ok (rv T n) n := ⟨by unfold rv; rw [if_neg (Nat.lt_irrefl _)], fun i hi => by unfold rv; rw [if_pos hi]; exact hT.2 _ (by omega)⟩
theorem rv_lt {T : Nat → Nat} {n B : Nat} (hB : 0 < B) (h : ∀ i, T i < B) (i : Nat) : rv T n i < B := by
  unfold rv
  split
  · exact h _
  · exact hB
set_option maxHeartbeats 1000000 in
theorem g_mirror {T : Nat → Nat} {n : Nat} {M0 : me_M} (hn : n ≤ 240) (hM0 : rw_at 3 4 T n M0) : ∃ M', mX10_mirror_3 M0 = some M' ∧ me_eqx [5] M0 M' ∧ ∀ i, i ≤ n → M'.1 5 i = nI (rv T n i) := by
  have step : ∀ s : Int32 × me_M, (∃ x, s.1 = nI x ∧ x ≤ n ∧ me_eqx [5] M0 s.2 ∧ ∀ i, i < x → s.2.1 5 i = nI (rv T n i)) →
      (∃ s', mX10_mirror_3_L2 s = some (.inl s') ∧ (∃ x, s'.1 = nI x ∧ x ≤ n ∧ me_eqx [5] M0 s'.2 ∧ ∀ i, i < x → s'.2.1 5 i = nI (rv T n i)) ∧ 300 - s'.1.toNatClampNeg < 300 - s.1.toNatClampNeg) ∨
      (∃ r, mX10_mirror_3_L2 s = some (.inr r) ∧ (me_eqx [5] M0 r ∧ ∀ i, i < n → r.1 5 i = nI (rv T n i))) := by
    rintro ⟨x1, M⟩ ⟨x, ex, hx, hx9, hI⟩
    have ex : x1 = nI x := ex
    subst ex
    have hx9 : me_eqx [5] M0 M := hx9
    have hI : ∀ i, i < x → M.1 5 i = nI (rv T n i) := hI
    have hM : rw_at 3 4 T n M := hM0.go hx9 (by decide) (by decide)
    simp only [mX10_mirror_3_L2]
    rw [hM.1]
    by_cases hz : n ≤ x
    · right
      rw [if_pos (nI_le hz (by omega))]
      exact ⟨_, rfl, hx9, fun i hi => hI i (by omega)⟩
    · left
      rw [if_neg (nI_ge (by omega) (by omega)), nI_sub1 (by omega), nI_sub (by omega), pu_r (by omega) (by decide)]
      simp only [Option.bind_some]
      rw [pu_t (by omega) (by decide)]
      simp only [Option.bind_some]
      refine ⟨_, rfl, ⟨x + 1, by rw [nI_1], by omega, hx9.tr (me_eqx.s (by simp)), fun i hi => ?_⟩, ?_⟩
      · show (me_s M 5 x _).1 5 i = _
        by_cases e : i = x
        · subst e
          rw [pu_ss, hM.2 _ (by omega)]
          unfold rv
          rw [if_pos (by omega)]
        · rw [pu_sn e]; exact hI i (by omega)
      · show 300 - (nI x + 1).toNatClampNeg < 300 - (nI x).toNatClampNeg
        rw [nI_1, nI_clamp (by omega), nI_clamp (by omega)]; omega
  unfold mX10_mirror_3
  obtain ⟨M', hl, hq⟩ := me_l_ok (b := mX10_mirror_3_L2) _ (fun s => 300 - s.1.toNatClampNeg) (fun r => me_eqx [5] M0 r ∧ ∀ i, i < n → r.1 5 i = nI (rv T n i)) step me_fu (0, M0) ⟨0, nI_0.symm, Nat.zero_le _, me_eqx.rf, fun i h => absurd h (Nat.not_lt_zero _)⟩ (by unfold me_fu; omega)
  rw [hl]
  simp only [Option.bind_some]
  have hM : rw_at 3 4 T n M' := hM0.go hq.1 (by decide) (by decide)
  rw [hM.1, pu_t (by omega) (by decide)]
  simp only [Option.bind_some]
  refine ⟨_, rfl, hq.1.tr (me_eqx.s (by simp)), fun i hi => ?_⟩
  by_cases e : i = n
  · subst e
    rw [pu_ss]
    unfold rv
    rw [if_neg (Nat.lt_irrefl _), nI_0]
  · rw [pu_sn e]; exact hq.2 i (by omega)
/-- how many letters stand from a place on, to the next bar or the end -/
def lff (T : Nat → Nat) : Nat → Nat → Nat
  | 0, _ => 0
  | d + 1, p => if T p = 1 then 0 else lff T d (p + 1) + 1
def lf (T : Nat → Nat) (n p : Nat) : Nat := lff T (n - p) p
theorem lf_rec {T : Nat → Nat} {n p : Nat} (hp : p < n) : lf T n p = if T p = 1 then 0 else lf T n (p + 1) + 1 := by
  unfold lf
  rw [show n - p = (n - (p + 1)) + 1 by omega]
  rfl
theorem lf_end {T : Nat → Nat} {n p : Nat} (hp : n ≤ p) : lf T n p = 0 := by
  unfold lf
  rw [show n - p = 0 by omega]
  rfl
theorem lf_le {T : Nat → Nat} {n : Nat} : ∀ p, lf T n p ≤ n - p := by
  have h : ∀ d p, lff T d p ≤ d := by
    intro d
    induction d with
    | zero => intro p; exact Nat.le_refl _
    | succ d ih => intro p; unfold lff; have := ih (p + 1); split <;> omega
  exact fun p => h _ p
set_option maxHeartbeats 1000000 in
theorem g_measure {T : Nat → Nat} {n : Nat} {M0 : me_M} (hT9 : ∀ i, T i < 2 ^ 31) (hn : n ≤ 240) (hM0 : rw_at 3 4 T n M0) : ∃ M', mX10_measureLetters_3 M0 = some M' ∧ me_eqx [6] M0 M' ∧ ∀ i, i ≤ n → M'.1 6 i = nI (lf T n i) := by
  have step : ∀ s : Int32 × me_M, (∃ j, s.1 = nI j - 1 ∧ j ≤ n ∧ me_eqx [6] M0 s.2 ∧ ∀ i, j ≤ i → i ≤ n → s.2.1 6 i = nI (lf T n i)) →
      (∃ s', mX10_measureLetters_3_L17 s = some (.inl s') ∧ (∃ j, s'.1 = nI j - 1 ∧ j ≤ n ∧ me_eqx [6] M0 s'.2 ∧ ∀ i, j ≤ i → i ≤ n → s'.2.1 6 i = nI (lf T n i)) ∧ (s'.1 + 1).toNatClampNeg < (s.1 + 1).toNatClampNeg) ∨
      (∃ r, mX10_measureLetters_3_L17 s = some (.inr r) ∧ (me_eqx [6] M0 r ∧ ∀ i, i ≤ n → r.1 6 i = nI (lf T n i))) := by
    rintro ⟨x1, M⟩ ⟨j, ex, hx, hx9, hI⟩
    have ex : x1 = nI j - 1 := ex
    subst ex
    have hx9 : me_eqx [6] M0 M := hx9
    have hI : ∀ i, j ≤ i → i ≤ n → M.1 6 i = nI (lf T n i) := hI
    have hM : rw_at 3 4 T n M := hM0.go hx9 (by decide) (by decide)
    simp only [mX10_measureLetters_3_L17]
    by_cases hz : j = 0
    · right
      subst hz
      rw [if_pos nI_0m]
      exact ⟨_, rfl, hx9, fun i hi => hI i (Nat.zero_le _) hi⟩
    · left
      obtain ⟨x, rfl⟩ : ∃ x, j = x + 1 := ⟨j - 1, by omega⟩
      rw [nI_sub1 (by omega), show x + 1 - 1 = x by omega, if_neg (nI_pos (by omega)), pu_r (by omega) (by decide)]
      simp only [Option.bind_some]
      rw [hM.2 _ (by omega)]
      have hJ : ∀ v : Int32, v = nI (lf T n x) → mX10_measureLetters_3_J50 (nI x) M v = some (.inl (nI x + (-1), me_s M 6 x (nI (lf T n x)))) := fun v hv => by
        unfold mX10_measureLetters_3_J50
        rw [pu_t (by omega) (by decide), hv]
        rfl
      have hres : (if nI (T x) = 1 then mX10_measureLetters_3_J50 (nI x) M 0 else (me_r M 6 241 (nI x + 1)).bind fun v2 => mX10_measureLetters_3_J50 (nI x) M (v2 + 1)) = some (.inl (nI x + (-1), me_s M 6 x (nI (lf T n x)))) := by
        by_cases c : T x = 1
        · rw [if_pos (by rw [c]; decide)]
          exact hJ 0 (by rw [lf_rec (by omega), if_pos c, nI_0])
        · rw [if_neg (fun z => c ((nI_eq (hT9 _) (by decide)).mp (z.trans nI_lit1))), nI_1, pu_r (by omega) (by decide)]
          simp only [Option.bind_some]
          exact hJ _ (by rw [hI (x + 1) (Nat.le_refl _) (by omega), nI_1, lf_rec (p := x) (by omega), if_neg c])
      rw [hres]
      refine ⟨_, rfl, ⟨x, by rw [Int32.sub_eq_add_neg], by omega, hx9.tr (me_eqx.s (by simp)), fun i h1 h2 => ?_⟩, ?_⟩
      · show (me_s M 6 x _).1 6 i = _
        by_cases e : i = x
        · subst e; rw [pu_ss]
        · rw [pu_sn e]; exact hI i (by omega) h2
      · show (nI x + (-1) + 1).toNatClampNeg < (nI x + 1).toNatClampNeg
        rw [← Int32.sub_eq_add_neg, Int32.sub_add_cancel, nI_1, nI_clamp (by omega), nI_clamp (by omega)]; omega
  unfold mX10_measureLetters_3
  rw [hM0.1, pu_t (by omega) (by decide)]
  simp only [Option.bind_some]
  have hM1 : (me_s M0 6 n 0).1 3 5 = nI n := by rw [me_s_ne (by decide)]; exact hM0.1
  rw [hM1]
  obtain ⟨M', hl, hq⟩ := me_l_ok (b := mX10_measureLetters_3_L17) _ (fun s => (s.1 + 1).toNatClampNeg) (fun r => me_eqx [6] M0 r ∧ ∀ i, i ≤ n → r.1 6 i = nI (lf T n i)) step me_fu (nI n - 1, me_s M0 6 n 0) ⟨n, rfl, Nat.le_refl _, me_eqx.s (by simp), fun i h1 h2 => by
    have e : i = n := by omega
    subst e
    show (me_s M0 6 i 0).1 6 i = _
    rw [pu_ss, lf_end (Nat.le_refl _), nI_0]⟩ (by
    show (nI n - 1 + 1).toNatClampNeg < me_fu
    rw [Int32.sub_add_cancel, nI_clamp (by omega)]; unfold me_fu; omega)
  exact ⟨M', by rw [hl]; rfl, hq.1, hq.2⟩
/-- how many bars stand ahead of a place -/
abbrev bars (T : Nat → Nat) (p : Nat) : Nat := ct (fun i => decide (T i = 1)) p
theorem bars_succ (T : Nat → Nat) (p : Nat) : bars T (p + 1) = bars T p + (if T p = 1 then 1 else 0) := by
  show ct _ p + (if decide (T p = 1) = true then 1 else 0) = _
  by_cases c : T p = 1
  · rw [if_pos c, if_pos (decide_eq_true c)]
  · rw [if_neg c, if_neg (by rw [decide_eq_false c]; decide)]
theorem bars_mono (T : Nat → Nat) {p q : Nat} (h : p ≤ q) : bars T p ≤ bars T q := by
  induction q with
  | zero => rw [show p = 0 by omega]; exact Nat.le_refl _
  | succ q ih =>
    by_cases e : p = q + 1
    · rw [e]; exact Nat.le_refl _
    · have := ih (by omega)
      rw [bars_succ]
      split <;> omega
/-- documents as the survey lays them -/
def tx_docs (T : Nat → Nat) (n : Nat) (M : me_M) : Prop := (∀ p, p ≤ n → M.1 7 p = nI (bars T p)) ∧ M.1 8 0 = nI 0 ∧ (∀ i, i < n → T i = 1 → M.1 8 (bars T i + 1) = nI (i + 1)) ∧ M.1 3 6 = nI (bars T n + 1)
set_option maxHeartbeats 1000000 in
theorem g_docs {T : Nat → Nat} {n : Nat} {M0 : me_M} (hT : tx_ok T n) (hT9 : ∀ i, T i < 2 ^ 31) (hn : n ≤ 240) (hM0 : rw_at 3 4 T n M0) : ∃ M', mX10_partDocuments_3 M0 = some M' ∧ M'.2 = M0.2 ∧ (∀ b, b ≠ 7 → b ≠ 8 → b ≠ 3 → M'.1 b = M0.1 b) ∧ (∀ k, k ≠ 6 → M'.1 3 k = M0.1 3 k) ∧ tx_docs T n M' := by
  have step : ∀ s : Int32 × Int32 × me_M, (∃ x, s.1 = nI (bars T x) ∧ s.2.1 = nI x ∧ x ≤ n + 1 ∧ me_eqx [7, 8] M0 s.2.2 ∧ s.2.2.1 8 0 = nI 0 ∧ (∀ p, p < x → s.2.2.1 7 p = nI (bars T p)) ∧ ∀ i, i < x → T i = 1 → s.2.2.1 8 (bars T i + 1) = nI (i + 1)) →
      (∃ s', mX10_partDocuments_3_L11 s = some (.inl s') ∧ (∃ x, s'.1 = nI (bars T x) ∧ s'.2.1 = nI x ∧ x ≤ n + 1 ∧ me_eqx [7, 8] M0 s'.2.2 ∧ s'.2.2.1 8 0 = nI 0 ∧ (∀ p, p < x → s'.2.2.1 7 p = nI (bars T p)) ∧ ∀ i, i < x → T i = 1 → s'.2.2.1 8 (bars T i + 1) = nI (i + 1)) ∧ 300 - s'.2.1.toNatClampNeg < 300 - s.2.1.toNatClampNeg) ∨
      (∃ r, mX10_partDocuments_3_L11 s = some (.inr r) ∧ (r.1 = nI (bars T (n + 1)) ∧ me_eqx [7, 8] M0 r.2 ∧ r.2.1 8 0 = nI 0 ∧ (∀ p, p < n + 1 → r.2.1 7 p = nI (bars T p)) ∧ ∀ i, i < n + 1 → T i = 1 → r.2.1 8 (bars T i + 1) = nI (i + 1))) := by
    rintro ⟨x1, x2, M⟩ ⟨x, e1, e2, hx, hx9, hI0, hI1, hI2⟩
    have e1 : x1 = nI (bars T x) := e1
    have e2 : x2 = nI x := e2
    subst e1
    subst e2
    have hx9 : me_eqx [7, 8] M0 M := hx9
    have hI0 : M.1 8 0 = nI 0 := hI0
    have hI1 : ∀ p, p < x → M.1 7 p = nI (bars T p) := hI1
    have hI2 : ∀ i, i < x → T i = 1 → M.1 8 (bars T i + 1) = nI (i + 1) := hI2
    have hM : rw_at 3 4 T n M := hM0.go hx9 (by decide) (by decide)
    have hbx : bars T x ≤ x := ct_le _ x
    simp only [mX10_partDocuments_3_L11, mX10_partDocuments_3_J48]
    rw [hM.1]
    by_cases hz : n < x
    · right
      rw [if_pos (nI_lt hz (by omega))]
      have e : x = n + 1 := by omega
      subst e
      exact ⟨_, rfl, rfl, hx9, hI0, hI1, hI2⟩
    · left
      rw [if_neg (nI_nlt (by omega) (by omega)), pu_t (by omega) (by decide)]
      simp only [Option.bind_some]
      rw [pu_r (by omega) (by decide)]
      simp only [Option.bind_some]
      rw [me_s_ne (by decide), hM.2 _ (by omega)]
      have hd : 300 - (nI x + 1).toNatClampNeg < 300 - (nI x).toNatClampNeg := by
        rw [nI_1, nI_clamp (by omega), nI_clamp (by omega)]; omega
      by_cases c : T x = 1
      · have hxn : x < n := by
          rcases Nat.lt_or_ge x n with q | q
          · exact q
          · rw [show x = n by omega, hT.1] at c; omega
        rw [if_pos (by rw [c]; decide), nI_1, nI_1, pu_t (by omega) (by decide)]
        simp only [Option.bind_some]
        refine ⟨_, rfl, ⟨x + 1, ?_, rfl, by omega, (hx9.tr (me_eqx.s (by simp))).tr (me_eqx.s (by simp)), ?_, fun p hp => ?_, fun i hi h1 => ?_⟩, by rw [nI_1] at hd; exact hd⟩
        · rw [bars_succ, if_pos c]
        · show (me_s (me_s M 7 x _) 8 (bars T x + 1) _).1 8 0 = _
          rw [pu_sn (by omega), me_s_ne (by decide)]; exact hI0
        · show (me_s (me_s M 7 x _) 8 (bars T x + 1) _).1 7 p = _
          rw [me_s_ne (by decide)]
          by_cases e : p = x
          · subst e; rw [pu_ss]
          · rw [pu_sn e]; exact hI1 p (by omega)
        · show (me_s (me_s M 7 x _) 8 (bars T x + 1) _).1 8 (bars T i + 1) = _
          by_cases e : i = x
          · subst e; rw [pu_ss]
          · have h3 := bars_mono T (show i + 1 ≤ x by omega)
            rw [bars_succ, if_pos h1] at h3
            rw [pu_sn (by omega), me_s_ne (by decide)]
            exact hI2 i (by omega) h1
      · rw [if_neg (fun z => c ((nI_eq (hT9 _) (by decide)).mp (z.trans nI_lit1)))]
        refine ⟨_, rfl, ⟨x + 1, ?_, by rw [nI_1], by omega, hx9.tr (me_eqx.s (by simp)), ?_, fun p hp => ?_, fun i hi h1 => ?_⟩, hd⟩
        · rw [bars_succ, if_neg c]; rfl
        · show (me_s M 7 x _).1 8 0 = _
          rw [me_s_ne (by decide)]; exact hI0
        · show (me_s M 7 x _).1 7 p = _
          by_cases e : p = x
          · subst e; rw [pu_ss]
          · rw [pu_sn e]; exact hI1 p (by omega)
        · show (me_s M 7 x _).1 8 (bars T i + 1) = _
          have e : i ≠ x := fun e => c (e ▸ h1)
          rw [me_s_ne (by decide)]
          exact hI2 i (by omega) h1
  unfold mX10_partDocuments_3
  have ht0 : me_t M0 8 241 0 0 = some (me_s M0 8 0 0) := by
    have := pu_t (M := M0) (a := 8) (N := 241) (k := 0) (v := 0) (by decide) (by decide)
    rw [nI_0] at this
    exact this
  rw [ht0]
  simp only [Option.bind_some]
  obtain ⟨⟨y, M'⟩, hl, e1, hq1, hq2, hq3, hq4⟩ := me_l_ok (b := mX10_partDocuments_3_L11) _ (fun s => 300 - s.2.1.toNatClampNeg) _ step me_fu (0, 0, me_s M0 8 0 0) ⟨0, nI_0.symm, nI_0.symm, Nat.zero_le _, me_eqx.s (by simp), by show (me_s M0 8 0 0).1 8 0 = _; rw [pu_ss, nI_0], fun p h => absurd h (Nat.not_lt_zero _), fun p h => absurd h (Nat.not_lt_zero _)⟩ (by unfold me_fu; omega)
  have e1 : y = nI (bars T (n + 1)) := e1
  subst e1
  have hq1 : me_eqx [7, 8] M0 M' := hq1
  rw [hl]
  simp only [Option.bind_some]
  have hb : bars T (n + 1) = bars T n := by
    rw [bars_succ, if_neg (by rw [hT.1]; decide)]; rfl
  refine ⟨_, rfl, hq1.1, fun b h7 h8 h3 => ?_, fun k hk => ?_, fun p hp => ?_, ?_, fun i hi h1 => ?_, ?_⟩
  · rw [me_s_ne h3]; exact hq1.2 b (by simp [h7, h8])
  · rw [pu_sn hk]; rw [hq1.2 3 (by decide)]
  · rw [me_s_ne (by decide)]; exact hq3 p (by omega)
  · rw [me_s_ne (by decide)]; exact hq2
  · rw [me_s_ne (by decide)]; exact hq4 i (by omega) h1
  · rw [pu_ss, hb, nI_1]
