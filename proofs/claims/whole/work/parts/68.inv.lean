/-! ===== what stands between two calls ===== -/
/-- at how many places a string stands -/
def tm (T : Nat → Nat) (n p len : Nat) : Nat := ct (fun q => decide (q = p) || decide (len ≤ lk T n p q)) n
/-- the most letters with which a place begins as another one -/
def tw (T : Nat → Nat) (n p : Nat) : Nat := mx (fun q => if q = p then 0 else lk T n p q) n
/-- a letter, or none: 1 for a bar, 0 beyond -/
def lb (T : Nat → Nat) (n i : Nat) : Nat := if i < n then T i else 0
/-- whether a string is maximal: it stands twice, not everywhere behind one letter, nor ahead of one -/
def isM (T : Nat → Nat) (n p len : Nat) : Bool := decide (2 ≤ tm T n p len) && decide (∃ q, q < n ∧ (q = p ∨ len ≤ lk T n p q) ∧ (bf T q < 2 ∨ bf T q ≠ bf T p)) && decide (∃ q, q < n ∧ (q = p ∨ len ≤ lk T n p q) ∧ (lb T n (q + len) < 2 ∨ lb T n (q + len) ≠ lb T n (p + len)))
/-- with how many letters a row begins as the one ahead of it -/
def hd (T : Nat → Nat) (n r : Nat) : Nat := if r = 0 then 0 else lk T n (pa T n r) (pa T n (r - 1))
def MX (T : Nat → Nat) (n r len : Nat) : Bool := decide (hd T n r < len) && decide (len ≤ tw T n (pa T n r)) && decide (pa T n r < n) && isM T n (pa T n r) len
/-- sums -/
def sm9 (f : Nat → Nat) : Nat → Nat
  | 0 => 0
  | n + 1 => sm9 f n + f n
def nmx (T : Nat → Nat) (n r : Nat) : Nat := sm9 (fun r => ct (MX T n r) 241) r
/-- the class's list of maximal strings stands -/
def mls (T : Nat → Nat) (n : Nat) (M : me_M) : Prop := M.1 26 5 = nI (nmx T n (n + 1)) ∧ nmx T n (n + 1) ≤ 240 ∧ ∀ r len, r ≤ n → len < 241 → MX T n r len = true → M.1 27 (nmx T n r + ct (MX T n r) len) = nI len ∧ M.1 28 (nmx T n r + ct (MX T n r) len) = nI r ∧ M.1 29 (nmx T n r + ct (MX T n r) len) = nI (tm T n (pa T n r) len)
def vT (T : Nat → Nat) (n : Nat) (M : me_M) : Prop := tx9 T n ∧ cx T n M ∧ ry T n M ∧ mls T n M
def vC (T : Nat → Nat) (n m : Nat) (W X : Nat → Nat) (M : me_M) : Prop := cu T n m W X M ∧ ru m W X M
def vP (t : Nat) (F : Nat → Nat) (M : me_M) : Prop := t ≤ 240 ∧ M.1 1 1 = nI t ∧ M.1 63 2 = nI t ∧ ∀ i, i < t → F i < 256 ∧ M.1 2 i = nI (F i) ∧ M.1 65 i = nI (F i)
def vN (M : me_M) : Prop := M.1 0 13 = M.1 64 0 ∧ M.1 0 14 = M.1 64 1 ∧ M.1 0 15 = M.1 64 2 ∧ M.1 52 4 = M.1 63 3 ∧ ∃ v, 1 ≤ v ∧ v ≤ 16 ∧ M.1 0 12 = nI v ∧ M.1 63 6 = nI v
/-- a search's digits: order, least, most -/
def okd (P : Nat) (d : Nat → Nat → Nat) : Prop := (∀ k, k < P → d 0 k < P) ∧ (∀ j k, j < k → k < P → d 0 j ≠ d 0 k) ∧ (∀ k, 0 < k → k < P → ∃ j, j < k ∧ (d 0 j = d 0 k + 1 ∨ d 0 j + 1 = d 0 k)) ∧ (∀ k, k < P → d 1 k ≤ d 2 k ∧ d 2 k ≤ 4) ∧ (∀ k, k + 1 < P → d 1 k ≤ d 1 (k + 1) ∧ d 2 k ≤ d 2 (k + 1))
def vS (S P : Nat) (D : Nat → Nat → Nat → Nat) (M : me_M) : Prop := 1 ≤ S ∧ S ≤ 8 ∧ 1 ≤ P ∧ P ≤ 5 ∧ (∀ s, s < S → okd P (D s)) ∧ ((M.2.1 0 = 53 ∧ M.2.1 1 = 58) ∨ (M.2.1 0 = 58 ∧ M.2.1 1 = 53)) ∧ M.1 (M.2.1 0) 4 = nI S ∧ M.1 (M.2.1 0) 5 = nI P ∧ (∀ s w k, s < S → w < 3 → k < P → M.1 (M.2.1 0 + 1 + w) (s * 5 + k) = nI (D s w k) ∧ M.1 (109 + 3 * s + w) k = nI (D s w k)) ∧ M.1 77 0 = nI S ∧ M.1 78 0 = nI P ∧ M.1 63 29 = -nI 1
def vR1 (n L : Nat) (G O E : Nat → Nat) (M : me_M) : Prop := 1 ≤ L ∧ L ≤ 24 ∧ M.1 47 5 = nI L ∧ M.1 63 20 = nI L ∧ (∀ i, i < L → 2 ≤ G i ∧ G i < 10 ∧ M.1 48 i = nI (G i - 2) ∧ M.1 81 i = nI (G i)) ∧ M.1 47 7 = M.1 63 19 ∧ M.1 47 8 = M.1 63 18 ∧ (∀ p, p ≤ n → O p ≤ 8 ∧ M.1 79 p = nI (O p) ∧ (0 < O p → p + L ≤ n ∧ M.1 80 p = nI (E p) ∧ E p ≤ 24)) ∧ M.1 47 6 = nI (ct (fun p => decide (0 < O p)) n) ∧ ∀ p, p < n → 0 < O p → M.1 49 (ct (fun p => decide (0 < O p)) p) = nI p ∧ M.1 50 (ct (fun p => decide (0 < O p)) p) = nI (E p) ∧ M.1 51 (ct (fun p => decide (0 < O p)) p) = nI (O p)
def vR (n : Nat) (M : me_M) : Prop := (M.1 47 4 = nI 0 ∧ M.1 63 17 = nI 0) ∨ (M.1 47 4 = nI 1 ∧ M.1 63 17 = nI 1 ∧ ∃ L G O E, vR1 n L G O E M)
def vM (M : me_M) : Prop := ∃ K, K ≤ 240 ∧ M.1 30 6 = nI K ∧ M.1 63 38 = nI K ∧ ∀ k, k < K → M.1 32 k = M.1 (184 + k) 0 ∧ M.1 33 k = M.1 (184 + k) 1 ∧ M.1 34 k = M.1 (184 + k) 2 ∧ M.1 35 k = M.1 (184 + k) 3
def Inv (M : me_M) : Prop := ∃ T n m W X t F S P D, vT T n M ∧ vC T n m W X M ∧ vP t F M ∧ vN M ∧ vS S P D M ∧ vR n M ∧ vM M
/-- slots of which nothing is said -/
def scr (b k : Nat) : Prop := (b = 30 ∧ 7 ≤ k) ∨ b = 31 ∨ (36 ≤ b ∧ b ≤ 46) ∨ ((b = 53 ∨ b = 58) ∧ 6 ≤ k) ∨ b = 57 ∨ b = 62 ∨ (b = 52 ∧ k ≤ 3) ∨ (b = 63 ∧ (k = 0 ∨ (24 ≤ k ∧ k ≤ 27) ∨ (35 ≤ k ∧ k ≤ 37))) ∨ (82 ≤ b ∧ b ≤ 89) ∨ (133 ≤ b ∧ b ≤ 183) ∨ ((b = 77 ∨ b = 78) ∧ k = 1)
theorem mls.fr {T : Nat → Nat} {n : Nat} {S : Nat → Nat → Prop} {M M' : me_M} (h : mls T n M) (hx : fr S M M') (hs : ∀ b k, 26 ≤ b → b ≤ 29 → ¬ S b k) : mls T n M' := by
  obtain ⟨h1, h2, h3⟩ := h
  refine ⟨by rw [hx.2 _ _ (hs _ _ (by omega) (by omega))]; exact h1, h2, fun r len a b c => ?_⟩
  rw [hx.2 _ _ (hs _ _ (by omega) (by omega)), hx.2 _ _ (hs _ _ (by omega) (by omega)), hx.2 _ _ (hs _ _ (by omega) (by omega))]
  exact h3 r len a b c
theorem vT.fr {T : Nat → Nat} {n : Nat} {S : Nat → Nat → Prop} {M M' : me_M} (h : vT T n M) (hx : fr S M M') (h1 : ∀ b k, 3 ≤ b → b ≤ 18 → ¬ S b k) (h2 : ∀ b k, 26 ≤ b → b ≤ 29 → ¬ S b k) (h3 : ¬ S 63 5) (h4 : ∀ b k, 67 ≤ b → b ≤ 74 → ¬ S b k) : vT T n M' := ⟨h.1, h.2.1.fr hx h1, h.2.2.1.fr hx h3 h4, h.2.2.2.fr hx h2⟩
theorem vC.fr {T : Nat → Nat} {n m : Nat} {W X : Nat → Nat} {S : Nat → Nat → Prop} {M M' : me_M} (h : vC T n m W X M) (hx : fr S M M') (h1 : ∀ b k, 19 ≤ b → b ≤ 25 → ¬ S b k) (h2 : ¬ S 63 10) (h3 : ¬ S 63 11) (h4 : ∀ k, ¬ S 75 k) (h5 : ∀ k, ¬ S 76 k) : vC T n m W X M' := ⟨h.1.fr hx h1, h.2.fr hx h2 h3 h4 h5⟩
theorem vP.fr {t : Nat} {F : Nat → Nat} {S : Nat → Nat → Prop} {M M' : me_M} (h : vP t F M) (hx : fr S M M') (h1 : ¬ S 1 1) (h2 : ¬ S 63 2) (h3 : ∀ k, ¬ S 2 k) (h4 : ∀ k, ¬ S 65 k) : vP t F M' := ⟨h.1, by rw [hx.2 _ _ h1]; exact h.2.1, by rw [hx.2 _ _ h2]; exact h.2.2.1, fun i hi => by rw [hx.2 _ _ (h3 _), hx.2 _ _ (h4 _)]; exact h.2.2.2 i hi⟩
theorem vN.fr {S : Nat → Nat → Prop} {M M' : me_M} (h : vN M) (hx : fr S M M') (h1 : ∀ k, 12 ≤ k → k ≤ 15 → ¬ S 0 k) (h2 : ∀ k, k ≤ 2 → ¬ S 64 k) (h3 : ¬ S 52 4) (h4 : ¬ S 63 3) (h5 : ¬ S 63 6) : vN M' := by
  obtain ⟨a1, a2, a3, a4, v, b1, b2, b3, b4⟩ := h
  refine ⟨?_, ?_, ?_, ?_, v, b1, b2, ?_, ?_⟩
  · rw [hx.2 _ _ (h1 _ (by omega) (by omega)), hx.2 _ _ (h2 _ (by omega))]; exact a1
  · rw [hx.2 _ _ (h1 _ (by omega) (by omega)), hx.2 _ _ (h2 _ (by omega))]; exact a2
  · rw [hx.2 _ _ (h1 _ (by omega) (by omega)), hx.2 _ _ (h2 _ (by omega))]; exact a3
  · rw [hx.2 _ _ h3, hx.2 _ _ h4]; exact a4
  · rw [hx.2 _ _ (h1 _ (by omega) (by omega))]; exact b3
  · rw [hx.2 _ _ h5]; exact b4
theorem vS.fr {S P : Nat} {D : Nat → Nat → Nat → Nat} {Z : Nat → Nat → Prop} {M M' : me_M} (h : vS S P D M) (hx : fr Z M M') (h1 : ∀ b k, (b = 53 ∨ b = 58) → k ≤ 5 → ¬ Z b k) (h2 : ∀ b k, (54 ≤ b ∧ b ≤ 56) ∨ (59 ≤ b ∧ b ≤ 61) → ¬ Z b k) (h3 : ∀ b k, 109 ≤ b → b ≤ 132 → ¬ Z b k) (h4 : ¬ Z 77 0) (h5 : ¬ Z 78 0) (h6 : ¬ Z 63 29) : vS S P D M' := by
  obtain ⟨a1, a2, a3, a4, a5, a6, a7, a8, a9, a10, a11, a12⟩ := h
  have e : M'.2.1 0 = M.2.1 0 := by rw [hx.1]
  have e1 : M'.2.1 1 = M.2.1 1 := by rw [hx.1]
  refine ⟨a1, a2, a3, a4, a5, by rw [e, e1]; exact a6, ?_, ?_, fun s w k hs hw hk => ?_, ?_, ?_, ?_⟩
  · rw [e, hx.2 _ _ (h1 _ _ (by omega) (by omega))]; exact a7
  · rw [e, hx.2 _ _ (h1 _ _ (by omega) (by omega))]; exact a8
  · rw [e, hx.2 _ _ (h2 _ _ (by omega)), hx.2 _ _ (h3 _ _ (by omega) (by omega))]; exact a9 s w k hs hw hk
  · rw [hx.2 _ _ h4]; exact a10
  · rw [hx.2 _ _ h5]; exact a11
  · rw [hx.2 _ _ h6]; exact a12
theorem vR.fr {n : Nat} {S : Nat → Nat → Prop} {M M' : me_M} (h : vR n M) (hx : fr S M M') (h1 : ∀ b k, 47 ≤ b → b ≤ 51 → ¬ S b k) (h2 : ∀ k, 17 ≤ k → k ≤ 20 → ¬ S 63 k) (h3 : ∀ b k, 79 ≤ b → b ≤ 81 → ¬ S b k) : vR n M' := by
  rcases h with ⟨a1, a2⟩ | ⟨a1, a2, L, G, O, E, b1, b2, b3, b4, b5, b6, b7, b8, b9, b10⟩
  · left
    rw [hx.2 _ _ (h1 _ _ (by omega) (by omega)), hx.2 _ _ (h2 _ (by omega) (by omega))]
    exact ⟨a1, a2⟩
  · right
    rw [hx.2 _ _ (h1 _ _ (by omega) (by omega)), hx.2 _ _ (h2 _ (by omega) (by omega))]
    refine ⟨a1, a2, L, G, O, E, b1, b2, ?_, ?_, fun i hi => ?_, ?_, ?_, fun p hp => ?_, ?_, fun p hp ho => ?_⟩
    · rw [hx.2 _ _ (h1 _ _ (by omega) (by omega))]; exact b3
    · rw [hx.2 _ _ (h2 _ (by omega) (by omega))]; exact b4
    · rw [hx.2 _ _ (h1 _ _ (by omega) (by omega)), hx.2 _ _ (h3 _ _ (by omega) (by omega))]; exact b5 i hi
    · rw [hx.2 _ _ (h1 _ _ (by omega) (by omega)), hx.2 _ _ (h2 _ (by omega) (by omega))]; exact b6
    · rw [hx.2 _ _ (h1 _ _ (by omega) (by omega)), hx.2 _ _ (h2 _ (by omega) (by omega))]; exact b7
    · rw [hx.2 _ _ (h3 _ _ (by omega) (by omega)), hx.2 _ _ (h3 _ _ (by omega) (by omega))]; exact b8 p hp
    · rw [hx.2 _ _ (h1 _ _ (by omega) (by omega))]; exact b9
    · rw [hx.2 _ _ (h1 _ _ (by omega) (by omega)), hx.2 _ _ (h1 _ _ (by omega) (by omega)), hx.2 _ _ (h1 _ _ (by omega) (by omega))]; exact b10 p hp ho
theorem vM.fr {S : Nat → Nat → Prop} {M M' : me_M} (h : vM M) (hx : fr S M M') (h1 : ¬ S 30 6) (h2 : ¬ S 63 38) (h3 : ∀ b k, 32 ≤ b → b ≤ 35 → ¬ S b k) (h4 : ∀ b k, 184 ≤ b → b ≤ 423 → ¬ S b k) : vM M' := by
  obtain ⟨K, a1, a2, a3, a4⟩ := h
  refine ⟨K, a1, by rw [hx.2 _ _ h1]; exact a2, by rw [hx.2 _ _ h2]; exact a3, fun k hk => ?_⟩
  rw [hx.2 32 k (h3 _ _ (by omega) (by omega)), hx.2 33 k (h3 _ _ (by omega) (by omega)), hx.2 34 k (h3 _ _ (by omega) (by omega)), hx.2 35 k (h3 _ _ (by omega) (by omega)), hx.2 (184 + k) 0 (h4 _ _ (by omega) (by omega)), hx.2 (184 + k) 1 (h4 _ _ (by omega) (by omega)), hx.2 (184 + k) 2 (h4 _ _ (by omega) (by omega)), hx.2 (184 + k) 3 (h4 _ _ (by omega) (by omega))]
  exact a4 k hk
theorem Inv.go {M M' : me_M} (h : Inv M) (hx : fr scr M M') : Inv M' := by
  obtain ⟨T, n, m, W, X, t, F, S, P, D, h1, h2, h3, h4, h5, h6, h7⟩ := h
  refine ⟨T, n, m, W, X, t, F, S, P, D, h1.fr hx ?_ ?_ ?_ ?_, h2.fr hx ?_ ?_ ?_ ?_ ?_, h3.fr hx ?_ ?_ ?_ ?_, h4.fr hx ?_ ?_ ?_ ?_ ?_, h5.fr hx ?_ ?_ ?_ ?_ ?_ ?_, h6.fr hx ?_ ?_ ?_, h7.fr hx ?_ ?_ ?_ ?_⟩ <;> intros <;> unfold scr <;> omega
theorem Inv.o {M : me_M} {k : Nat} {x : Int64} (h : Inv M) : Inv (me_o M k x) := h
/-- a refusal, counted on both sides -/
theorem Inv.thr {M : me_M} {k : Nat} {w : Int32} (h : Inv M) (hk : k < 3) : Inv (me_s (me_s (me_s (me_s M 0 (13 + k) (M.1 0 (13 + k) + 1)) 63 0 (nI 0)) 63 0 w) 64 k (M.1 64 k + 1)) := by
  obtain ⟨T, n, m, W, X, t, F, S, P, D, h1, h2, h3, h4, h5, h6, h7⟩ := h
  have hx : fr (fun b j => (b = 0 ∧ 13 ≤ j) ∨ (b = 63 ∧ j = 0) ∨ b = 64) M (me_s (me_s (me_s (me_s M 0 (13 + k) (M.1 0 (13 + k) + 1)) 63 0 (nI 0)) 63 0 w) 64 k (M.1 64 k + 1)) := (((fr.s (by omega)).st (by omega)).st (by omega)).st (by omega)
  refine ⟨T, n, m, W, X, t, F, S, P, D, h1.fr hx ?_ ?_ ?_ ?_, h2.fr hx ?_ ?_ ?_ ?_ ?_, h3.fr hx ?_ ?_ ?_ ?_, ?_, h5.fr hx ?_ ?_ ?_ ?_ ?_ ?_, h6.fr hx ?_ ?_ ?_, h7.fr hx ?_ ?_ ?_ ?_⟩
  case refine_14 =>
    obtain ⟨a1, a2, a3, a4, v, b1, b2, b3, b4⟩ := h4
    have hk3 : k = 0 ∨ k = 1 ∨ k = 2 := by omega
    refine ⟨?_, ?_, ?_, ?_, v, b1, b2, ?_, ?_⟩
    · rcases hk3 with rfl | rfl | rfl
      · simp (disch := omega) only [pu_ss, pu_snq, pu_neq, a1]
      · simp (disch := omega) only [pu_ss, pu_snq, pu_neq, a1]
      · simp (disch := omega) only [pu_ss, pu_snq, pu_neq, a1]
    · rcases hk3 with rfl | rfl | rfl
      · simp (disch := omega) only [pu_ss, pu_snq, pu_neq, a2]
      · simp (disch := omega) only [pu_ss, pu_snq, pu_neq, a2]
      · simp (disch := omega) only [pu_ss, pu_snq, pu_neq, a2]
    · rcases hk3 with rfl | rfl | rfl
      · simp (disch := omega) only [pu_ss, pu_snq, pu_neq, a3]
      · simp (disch := omega) only [pu_ss, pu_snq, pu_neq, a3]
      · simp (disch := omega) only [pu_ss, pu_snq, pu_neq, a3]
    · simp (disch := omega) only [pu_ss, pu_snq, pu_neq, a4]
    · simp (disch := omega) only [pu_ss, pu_snq, pu_neq, b3]
    · simp (disch := omega) only [pu_ss, pu_snq, pu_neq, b4]
  all_goals (intros; omega)
