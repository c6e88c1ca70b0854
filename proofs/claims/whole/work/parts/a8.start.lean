/-! ===== what stands at the start ===== -/
def mi_T (i : Nat) : Nat := if i = 0 then 2 else 0
theorem mi_tx : tx9 mi_T 1 := ⟨⟨rfl, fun i hi => by rw [show i = 0 by omega]; decide⟩, fun i => by unfold mi_T; split <;> omega, by omega, by omega⟩
theorem mi_0 {b : Nat} (h1 : b ≠ 0) (h2 : b ≠ 3) (h3 : b ≠ 4) (h4 : b ≠ 52) (h5 : b ≠ 53) (h6 : b ≠ 58) (h7 : b ≠ 63) (h8 : b ≠ 77) (h9 : b ≠ 78) (k : Nat) : mi_M.1 b k = nI 0 := by
  show mi_1 b k = _
  unfold mi_1
  rw [if_neg h1, if_neg h2, if_neg h3, if_neg h4, if_neg h5, if_neg h6, if_neg h7, if_neg h8, if_neg h9]
  decide
set_option maxRecDepth 100000 in
theorem ini : ∃ M1 M2, mX11_index_0 mi_M = some M1 ∧ (∀ i, 63 ≤ i → M1.1 i = mi_M.1 i) ∧ M1.2 = mi_M.2 ∧ mX12_laysRows_63 (me_s M1 67 0 2) = some M2 ∧ M2.2 = mi_M.2 ∧ Inv M2 := by
  obtain ⟨M1, e1, f1, g1, g2, g3⟩ := c_index (T := mi_T) (n := 1) (M := mi_M) mi_tx ⟨by decide, fun i hi => by
    rcases (show i = 0 ∨ i = 1 by omega) with rfl | rfl
    · decide
    · decide⟩ (fun c hc => by rw [mi_0 (by omega) (by omega) (by omega) (by omega) (by omega) (by omega) (by omega) (by omega) (by omega)]; decide) (fun c hc => by rw [mi_0 (by omega) (by omega) (by omega) (by omega) (by omega) (by omega) (by omega) (by omega) (by omega)]; decide)
  have f2 : fr (fun b k => b = 67) M1 (me_s M1 67 0 2) := fr.s rfl
  obtain ⟨M2, e2, f3, g4⟩ := r_lays (T := mi_T) (n := 1) (M0 := me_s M1 67 0 2) mi_tx (by rw [f2.2 _ _ (by omega), f1.2 _ _ (by omega)]; decide) (fun i hi => by
    rw [show i = 0 by omega, pu_ss]
    decide)
  have f4 : fr (fun b k => 67 ≤ b ∧ b ≤ 74) M1 M2 := (f2.up (fun b k h => by omega)).tr f3
  have f5 : fr (fun b k => (b = 3 ∧ (k = 6 ∨ k = 7)) ∨ (5 ≤ b ∧ b ≤ 18) ∨ (b = 19 ∧ (k = 3 ∨ k = 4)) ∨ (21 ≤ b ∧ b ≤ 23) ∨ (b = 26 ∧ k = 5) ∨ (27 ≤ b ∧ b ≤ 29) ∨ (67 ≤ b ∧ b ≤ 74)) mi_M M2 := (f1.up (fun b k h => by omega)).tr (f4.up (fun b k h => by omega))
  have e53 : M2.2.1 0 = 53 := by rw [f5.1]; rfl
  have e58 : M2.2.1 1 = 58 := by rw [f5.1]; rfl
  refine ⟨M1, M2, e1, fun i hi => funext fun k => f1.2 i k (by omega), f1.1, e2, f5.1, mi_T, 1, 0, fun _ => 0, fun _ => 0, 0, fun _ => 0, 1, 1, fun _ _ _ => 0, ⟨mi_tx, g1.fr f4 (fun b k _ _ => by omega), g4, g2.fr f4 (fun b k _ _ => by omega)⟩, ⟨(g3 _ _).fr f4 (fun b k _ _ => by omega), ⟨?_, ?_, ?_, fun i hi => absurd hi (Nat.not_lt_zero _)⟩, fun j hj => absurd hj (Nat.not_lt_zero _)⟩, ⟨Nat.zero_le _, ?_, ?_, fun i hi => absurd hi (Nat.not_lt_zero _)⟩, ⟨?_, ?_, ?_, ?_, 4, by omega, by omega, ?_, ?_⟩, ⟨by omega, by omega, by omega, by omega, fun s hs => ⟨fun k hk => by show (0 : Nat) < 1; omega, fun j k h1 h2 => absurd h1 (by omega), fun k h1 h2 => absurd h1 (by omega), fun k hk => ⟨Nat.le_refl _, by show (0 : Nat) ≤ 4; omega⟩, fun k hk => absurd hk (by omega)⟩, Or.inl ⟨e53, e58⟩, ?_, ?_, fun s w k hs hw hk => ⟨?_, ?_⟩, ?_, ?_, ?_⟩, Or.inl ⟨?_, ?_⟩, ⟨0, by omega, ?_, ?_, fun k hk => absurd hk (Nat.not_lt_zero _)⟩⟩
  · rw [f5.2 _ _ (by omega)]; decide
  · rw [f5.2 _ _ (by omega)]; decide
  · decide
  · rw [f5.2 _ _ (by omega)]; decide
  · rw [f5.2 _ _ (by omega)]; decide
  · rw [f5.2 _ _ (by omega), f5.2 _ _ (by omega)]; decide
  · rw [f5.2 _ _ (by omega), f5.2 _ _ (by omega)]; decide
  · rw [f5.2 _ _ (by omega), f5.2 _ _ (by omega)]; decide
  · rw [f5.2 _ _ (by omega), f5.2 _ _ (by omega)]; decide
  · rw [f5.2 _ _ (by omega)]; decide
  · rw [f5.2 _ _ (by omega)]; decide
  · rw [e53, f5.2 _ _ (by omega)]; decide
  · rw [e53, f5.2 _ _ (by omega)]; decide
  · rw [e53, f5.2 _ _ (by omega), mi_0 (by omega) (by omega) (by omega) (by omega) (by omega) (by omega) (by omega) (by omega) (by omega)]
  · rw [f5.2 _ _ (by omega), mi_0 (by omega) (by omega) (by omega) (by omega) (by omega) (by omega) (by omega) (by omega) (by omega)]
  · rw [f5.2 _ _ (by omega)]; decide
  · rw [f5.2 _ _ (by omega)]; decide
  · rw [f5.2 _ _ (by omega)]; decide
  · rw [f5.2 _ _ (by omega)]; decide
  · rw [f5.2 _ _ (by omega)]; decide
  · rw [f5.2 _ _ (by omega)]; decide
  · rw [f5.2 _ _ (by omega)]; decide
