/-! ===== frames; letters as bits; the class's index of a text ===== -/
/-- alike but at the slots S -/
def fr (S : Nat → Nat → Prop) (M M' : me_M) : Prop := M'.2 = M.2 ∧ ∀ b k, ¬ S b k → M'.1 b k = M.1 b k
theorem fr.rf {S : Nat → Nat → Prop} {M : me_M} : fr S M M := ⟨rfl, fun _ _ _ => rfl⟩
theorem fr.tr {S : Nat → Nat → Prop} {M M1 M2 : me_M} (h1 : fr S M M1) (h2 : fr S M1 M2) : fr S M M2 := ⟨h2.1.trans h1.1, fun b k h => (h2.2 b k h).trans (h1.2 b k h)⟩
theorem fr.up {S S' : Nat → Nat → Prop} {M M1 : me_M} (h : fr S M M1) (hs : ∀ b k, S b k → S' b k) : fr S' M M1 := ⟨h.1, fun b k z => h.2 b k (fun q => z (hs b k q))⟩
theorem fr.s {S : Nat → Nat → Prop} {M : me_M} {a k : Nat} {x : Int32} (h : S a k) : fr S M (me_s M a k x) := ⟨rfl, fun b j z => by
  by_cases e : b = a
  · subst e
    by_cases e2 : j = k
    · subst e2; exact absurd h z
    · exact pu_sn e2
  · rw [me_s_ne e]⟩
theorem fr.st {S : Nat → Nat → Prop} {M M1 : me_M} {a k : Nat} {x : Int32} (h1 : fr S M M1) (h : S a k) : fr S M (me_s M1 a k x) := h1.tr (fr.s h)
theorem me_eqx.fr {l : List Nat} {S : Nat → Nat → Prop} {M M' : me_M} (h : me_eqx l M M') (hs : ∀ b, b ∈ l → ∀ k, S b k) : fr S M M' := ⟨h.1, fun b k z => by
  by_cases c : b ∈ l
  · exact absurd (hs b c k) z
  · rw [h.2 b c]⟩
/-- eight yes or no as a number -/
def bt (P : Nat → Bool) : Nat → Nat
  | 0 => 0
  | k + 1 => bt P k + (if P k then 2 ^ k else 0)
theorem bt_congr {P Q : Nat → Bool} : ∀ n, (∀ i, i < n → P i = Q i) → bt P n = bt Q n
  | 0, _ => rfl
  | n + 1, h => by unfold bt; rw [bt_congr n (fun i hi => h i (by omega)), h n (by omega)]
theorem bt_lt (P : Nat → Bool) : ∀ n, bt P n < 2 ^ n
  | 0 => by show 0 < 1; decide
  | n + 1 => by
    have := bt_lt P n
    unfold bt
    rw [Nat.pow_succ]
    split <;> omega
def b8 (b0 b1 b2 b3 b4 b5 b6 b7 : Bool) (k : Nat) : Bool := match k with
  | 0 => b0
  | 1 => b1
  | 2 => b2
  | 3 => b3
  | 4 => b4
  | 5 => b5
  | 6 => b6
  | _ => b7
theorem b8_of (P : Nat → Bool) : ∀ i, i < 8 → P i = b8 (P 0) (P 1) (P 2) (P 3) (P 4) (P 5) (P 6) (P 7) i := by
  intro i hi
  match i, hi with
  | 0, _ => rfl
  | 1, _ => rfl
  | 2, _ => rfl
  | 3, _ => rfl
  | 4, _ => rfl
  | 5, _ => rfl
  | 6, _ => rfl
  | 7, _ => rfl
set_option maxRecDepth 100000 in
theorem bt_or0 : ∀ b0 b1 b2 b3 b4 b5 b6 b7 : Bool, ∀ c : Fin 8, nI (bt (b8 b0 b1 b2 b3 b4 b5 b6 b7) 8) ||| (nI 1 <<< (nI c.val &&& nI 31)) = nI (bt (fun i => b8 b0 b1 b2 b3 b4 b5 b6 b7 i || decide (i = c.val)) 8) := by decide +kernel
set_option maxRecDepth 100000 in
theorem bt_and0 : ∀ b0 b1 b2 b3 b4 b5 b6 b7 : Bool, ∀ c : Fin 8, decide ((nI (bt (b8 b0 b1 b2 b3 b4 b5 b6 b7) 8) &&& (nI 1 <<< (nI c.val &&& nI 31))) = nI 0) = !b8 b0 b1 b2 b3 b4 b5 b6 b7 c.val := by decide +kernel
set_option maxRecDepth 100000 in
theorem bt_bc0 : ∀ b0 b1 b2 b3 b4 b5 b6 b7 : Bool, mJ6_bitCount_0f7a4 (nI (bt (b8 b0 b1 b2 b3 b4 b5 b6 b7) 8)) = some (nI (ct (b8 b0 b1 b2 b3 b4 b5 b6 b7) 8)) := by decide +kernel
theorem bt_or (P : Nat → Bool) {c : Nat} (hc : c < 8) : nI (bt P 8) ||| (nI 1 <<< (nI c &&& nI 31)) = nI (bt (fun i => P i || decide (i = c)) 8) := by
  have h := bt_or0 (P 0) (P 1) (P 2) (P 3) (P 4) (P 5) (P 6) (P 7) ⟨c, hc⟩
  rw [← bt_congr 8 (b8_of P)] at h
  rw [h]
  exact congrArg nI (bt_congr 8 (fun i hi => by rw [b8_of P i hi]))
theorem bt_and (P : Nat → Bool) {c : Nat} (hc : c < 8) : (nI (bt P 8) &&& (nI 1 <<< (nI c &&& nI 31))) = nI 0 ↔ P c = false := by
  have h := bt_and0 (P 0) (P 1) (P 2) (P 3) (P 4) (P 5) (P 6) (P 7) ⟨c, hc⟩
  rw [← bt_congr 8 (b8_of P), ← b8_of P c hc] at h
  by_cases q : P c = false
  · rw [q] at h
    exact ⟨fun _ => q, fun _ => of_decide_eq_true h⟩
  · rw [Bool.not_eq_false] at q
    rw [q] at h
    exact ⟨fun z => absurd z (of_decide_eq_false h), fun z => by rw [q] at z; cases z⟩
theorem bt_bc (P : Nat → Bool) : mJ6_bitCount_0f7a4 (nI (bt P 8)) = some (nI (ct P 8)) := by
  have h := bt_bc0 (P 0) (P 1) (P 2) (P 3) (P 4) (P 5) (P 6) (P 7)
  rw [← bt_congr 8 (b8_of P), ← ct_congr 8 (b8_of P)] at h
  exact h
theorem hl_s (T : Nat → Nat) (n s : Nat) : hl T (n + 1) s = (hl T n s || decide (T n = s)) := by
  unfold hl
  by_cases c : T n = s
  · rw [decide_eq_true c, Bool.or_true]; exact decide_eq_true ⟨n, by omega, c⟩
  · rw [decide_eq_false c, Bool.or_false]
    congr 1
    exact propext ⟨fun ⟨i, hi, e⟩ => ⟨i, by
      by_cases z : i = n
      · subst z; exact absurd e c
      · omega, e⟩, fun ⟨i, hi, e⟩ => ⟨i, by omega, e⟩⟩
theorem hl_0 (T : Nat → Nat) (s : Nat) : hl T 0 s = false := decide_eq_false (fun ⟨i, hi, _⟩ => absurd hi (Nat.not_lt_zero _))
theorem g_gather {T : Nat → Nat} {n : Nat} {M0 : me_M} (hT : tx9 T n) (hM0 : rw_at 3 4 T n M0) : ∃ M', mX10_gatherLetters_3 M0 = some M' ∧ fr (fun b k => b = 3 ∧ k = 7) M0 M' ∧ M'.1 3 7 = nI (bt (fun c => hl T n (c + 2)) 8) := by
  obtain ⟨-, hT9, -, hn⟩ := hT
  obtain ⟨r, h1, h2, h3⟩ := lp_up (b := mX10_gatherLetters_3_L7) (fun x st => st.1 = nI x ∧ fr (fun b k => b = 3 ∧ k = 7) M0 st.2 ∧ st.2.1 3 7 = nI (bt (fun c => hl T x (c + 2)) 8)) (fun r => fr (fun b k => b = 3 ∧ k = 7) M0 r ∧ r.1 3 7 = nI (bt (fun c => hl T n (c + 2)) 8)) (a := 0) (N := n) (by omega) (by omega) (fun x st _ hx hI => by
    obtain ⟨x1, M⟩ := st
    obtain ⟨hx1, hf, hb⟩ := hI
    have hx1 : x1 = nI x := hx1
    subst hx1
    have hf : fr (fun b k => b = 3 ∧ k = 7) M0 M := hf
    have hb : M.1 3 7 = nI (bt (fun c => hl T x (c + 2)) 8) := hb
    have e1 : M.1 3 5 = nI n := by rw [hf.2 3 5 (by omega)]; exact hM0.1
    have e2 : M.1 4 x = nI (T x) := by rw [hf.2 4 x (by omega)]; exact hM0.2 x (by omega)
    have := hT9 x
    left
    simp only [mX10_gatherLetters_3_L7, mX10_gatherLetters_3_J44]
    by_cases c : T x < 2
    · simp (disch := omega) only [Option.bind_some, if_true, if_false, Sum.elim_inl, Sum.elim_inr, li0, li1, li2, li3, li4, li5, li6, li7, li8, li9, li10, li12, li16, li20, li24, li25, li31, li32, li40, li41, li42, li48, li57, li59, li97, li104, li105, li124, li126, li240, li241, nI_add, nI_subc, nI_subm, nI_mulc, nI_nm, pu_r, pu_t, pu_a, pu_le_t, pu_le_f, pu_lt_t, pu_lt_f, pu_eq_t, pu_eq_f, nm_eq, nm_eq2, nm_lt, nm_lt2, nm_le, nm_le2, nm_ss, nm_sp, pu_ss, pu_snq, pu_neq, eq_self, and_true, true_and, and_false, false_and, or_true, true_or, or_false, false_or, not_true_eq_false, not_false_eq_true, e1, e2]
      refine ⟨_, rfl, rfl, hf, ?_⟩
      rw [hb]
      exact congrArg nI (bt_congr 8 (fun i hi => by rw [hl_s, decide_eq_false (show ¬ T x = i + 2 by omega), Bool.or_false]))
    · simp (disch := omega) only [Option.bind_some, if_true, if_false, Sum.elim_inl, Sum.elim_inr, li0, li1, li2, li3, li4, li5, li6, li7, li8, li9, li10, li12, li16, li20, li24, li25, li31, li32, li40, li41, li42, li48, li57, li59, li97, li104, li105, li124, li126, li240, li241, nI_add, nI_subc, nI_subm, nI_mulc, nI_nm, pu_r, pu_t, pu_a, pu_le_t, pu_le_f, pu_lt_t, pu_lt_f, pu_eq_t, pu_eq_f, nm_eq, nm_eq2, nm_lt, nm_lt2, nm_le, nm_le2, nm_ss, nm_sp, pu_ss, pu_snq, pu_neq, eq_self, and_true, true_and, and_false, false_and, or_true, true_or, or_false, false_or, not_true_eq_false, not_false_eq_true, e1, e2, hb]
      rw [bt_or _ (show T x - 2 < 8 by omega)]
      refine ⟨_, rfl, rfl, hf.tr (fr.s (by omega)), ?_⟩
      show (me_s M 3 7 _).1 3 7 = _
      rw [pu_ss]
      exact congrArg nI (bt_congr 8 (fun i hi => by
        rw [hl_s]
        congr 1
        by_cases e : i = T x - 2
        · rw [decide_eq_true e, decide_eq_true (by omega)]
        · rw [decide_eq_false e, decide_eq_false (by omega)]))) (fun st hI => by
    obtain ⟨x1, M⟩ := st
    obtain ⟨hx1, hf, hb⟩ := hI
    have hx1 : x1 = nI n := hx1
    subst hx1
    have e1 : M.1 3 5 = nI n := by rw [hf.2 3 5 (by omega)]; exact hM0.1
    simp only [mX10_gatherLetters_3_L7]
    simp (disch := omega) only [Option.bind_some, if_true, if_false, Sum.elim_inl, Sum.elim_inr, li0, li1, li2, li3, li4, li5, li6, li7, li8, li9, li10, li12, li16, li20, li24, li25, li31, li32, li40, li41, li42, li48, li57, li59, li97, li104, li105, li124, li126, li240, li241, nI_add, nI_subc, nI_subm, nI_mulc, nI_nm, pu_r, pu_t, pu_a, pu_le_t, pu_le_f, pu_lt_t, pu_lt_f, pu_eq_t, pu_eq_f, nm_eq, nm_eq2, nm_lt, nm_lt2, nm_le, nm_le2, nm_ss, nm_sp, pu_ss, pu_snq, pu_neq, eq_self, and_true, true_and, and_false, false_and, or_true, true_or, or_false, false_or, not_true_eq_false, not_false_eq_true, e1]
    exact ⟨_, rfl, hf, hb⟩) (s0 := (nI 0, me_s M0 3 7 (nI 0))) ⟨rfl, fr.s (by omega), by
      show (me_s M0 3 7 (nI 0)).1 3 7 = _
      rw [pu_ss]
      exact congrArg nI (bt_congr (P := fun _ => false) 8 (fun i _ => (hl_0 T (i + 2)).symm))⟩
  refine ⟨r, ?_, h2, h3⟩
  unfold mX10_gatherLetters_3
  simp (disch := omega) only [Option.bind_some, if_true, if_false, Sum.elim_inl, Sum.elim_inr, li0, li1, li2, li3, li4, li5, li6, li7, li8, li9, li10, li12, li16, li20, li24, li25, li31, li32, li40, li41, li42, li48, li57, li59, li97, li104, li105, li124, li126, li240, li241, nI_add, nI_subc, nI_subm, nI_mulc, nI_nm, pu_r, pu_t, pu_a, pu_le_t, pu_le_f, pu_lt_t, pu_lt_f, pu_eq_t, pu_eq_f, nm_eq, nm_eq2, nm_lt, nm_lt2, nm_le, nm_le2, nm_ss, nm_sp, pu_ss, pu_snq, pu_neq, eq_self, and_true, true_and, and_false, false_and, or_true, true_or, or_false, false_or, not_true_eq_false, not_false_eq_true, h1]
theorem rw_at.fr {o sg n : Nat} {T : Nat → Nat} {S : Nat → Nat → Prop} {M M' : me_M} (h : rw_at o sg T n M) (hx : fr S M M') (h1 : ¬ S o 5) (h2 : ∀ k, ¬ S sg k) : rw_at o sg T n M' := ⟨by rw [hx.2 o 5 h1]; exact h.1, fun i hi => by rw [hx.2 sg i (h2 i)]; exact h.2 i hi⟩
/-- the text's own rows stand -/
def cx0 (T : Nat → Nat) (n : Nat) (M : me_M) : Prop := rw_at 3 4 T n M ∧ (∀ i, i ≤ n → M.1 5 i = nI (rv T n i)) ∧ (∀ i, i ≤ n → M.1 6 i = nI (lf T n i)) ∧ tx_docs T n M ∧ M.1 3 7 = nI (bt (fun c => hl T n (c + 2)) 8)
theorem cx0.fr {T : Nat → Nat} {n : Nat} {S : Nat → Nat → Prop} {M M' : me_M} (h : cx0 T n M) (hx : fr S M M') (hs : ∀ b k, 3 ≤ b → b ≤ 8 → ¬ S b k) : cx0 T n M' := by
  obtain ⟨h1, h2, h3, ⟨h4, h5, h6, h7⟩, h8⟩ := h
  refine ⟨h1.fr hx (hs _ _ (by omega) (by omega)) (fun k => hs _ _ (by omega) (by omega)), fun i hi => ?_, fun i hi => ?_, ⟨fun p hp => ?_, ?_, fun i hi e => ?_, ?_⟩, ?_⟩
  · rw [hx.2 _ _ (hs _ _ (by omega) (by omega))]; exact h2 i hi
  · rw [hx.2 _ _ (hs _ _ (by omega) (by omega))]; exact h3 i hi
  · rw [hx.2 _ _ (hs _ _ (by omega) (by omega))]; exact h4 p hp
  · rw [hx.2 _ _ (hs _ _ (by omega) (by omega))]; exact h5
  · rw [hx.2 _ _ (hs _ _ (by omega) (by omega))]; exact h6 i hi e
  · rw [hx.2 _ _ (hs _ _ (by omega) (by omega))]; exact h7
  · rw [hx.2 _ _ (hs _ _ (by omega) (by omega))]; exact h8
theorem g_survey {T : Nat → Nat} {n : Nat} {M0 : me_M} (hT : tx9 T n) (hM0 : rw_at 3 4 T n M0) : ∃ M', mX10_survey_3 M0 = some M' ∧ fr (fun b k => (b = 3 ∧ (k = 6 ∨ k = 7)) ∨ (5 ≤ b ∧ b ≤ 8)) M0 M' ∧ cx0 T n M' := by
  have hT9' : ∀ i, T i < 2 ^ 31 := fun i => by have := hT.2.1 i; omega
  have hn : n ≤ 240 := hT.2.2.2
  obtain ⟨M1, e1, f1, g1⟩ := g_mirror hn hM0
  have f1 : fr (fun b k => (b = 3 ∧ (k = 6 ∨ k = 7)) ∨ (5 ≤ b ∧ b ≤ 8)) M0 M1 := f1.fr (fun b hb k => by simp only [List.mem_cons, List.mem_nil_iff, or_false] at hb; omega)
  have r1 := hM0.fr f1 (by omega) (fun k => by omega)
  obtain ⟨M2, e2, f2, g2⟩ := g_gather hT r1
  have r2 := r1.fr f2 (by omega) (fun k => by omega)
  obtain ⟨M3, e3, d1, d2, d3, g3⟩ := g_docs hT.1 hT9' hn r2
  have f3 : fr (fun b k => (b = 3 ∧ k = 6) ∨ b = 7 ∨ b = 8) M2 M3 := ⟨d1, fun b k z => by
    by_cases c : b = 3
    · subst c; exact d3 k (by omega)
    · rw [d2 b (by omega) (by omega) c]⟩
  have r3 := r2.fr f3 (by omega) (fun k => by omega)
  obtain ⟨M4, e4, f4, g4⟩ := g_measure hT9' hn r3
  have f4 : fr (fun b _ => b = 6) M3 M4 := f4.fr (fun b hb k => by simp only [List.mem_cons, List.mem_nil_iff, or_false] at hb; omega)
  have r4 := r3.fr f4 (by omega) (fun k => by omega)
  refine ⟨M4, ?_, ((f1.tr (f2.up (fun b k h => by omega))).tr (f3.up (fun b k h => by omega))).tr (f4.up (fun b k h => by omega)), r4, fun i hi => ?_, g4, ⟨fun p hp => ?_, ?_, fun i hi e => ?_, ?_⟩, ?_⟩
  · unfold mX10_survey_3
    simp (disch := omega) only [Option.bind_some, if_true, if_false, Sum.elim_inl, Sum.elim_inr, li0, li1, li2, li3, li4, li5, li6, li7, li8, li9, li10, li12, li16, li20, li24, li25, li31, li32, li40, li41, li42, li48, li57, li59, li97, li104, li105, li124, li126, li240, li241, nI_add, nI_subc, nI_subm, nI_mulc, nI_nm, pu_r, pu_t, pu_a, pu_le_t, pu_le_f, pu_lt_t, pu_lt_f, pu_eq_t, pu_eq_f, nm_eq, nm_eq2, nm_lt, nm_lt2, nm_le, nm_le2, nm_ss, nm_sp, pu_ss, pu_snq, pu_neq, eq_self, and_true, true_and, and_false, false_and, or_true, true_or, or_false, false_or, not_true_eq_false, not_false_eq_true, e1, e2, e3, e4]
  · rw [f4.2 _ _ (by omega), f3.2 _ _ (by omega), f2.2 _ _ (by omega)]; exact g1 i hi
  · rw [f4.2 _ _ (by omega)]; exact g3.1 p hp
  · rw [f4.2 _ _ (by omega)]; exact g3.2.1
  · rw [f4.2 _ _ (by omega)]; exact g3.2.2.1 i hi e
  · rw [f4.2 _ _ (by omega)]; exact g3.2.2.2
  · rw [f4.2 _ _ (by omega), f3.2 _ _ (by omega)]; exact g2
/-- a side's rows stand -/
def cxr (o sg pl ro al sm : Nat) (T : Nat → Nat) (n : Nat) (M : me_M) : Prop := rw_at o sg T n M ∧ rw_rk pl ro T n M ∧ rw_al al T n M ∧ rw_sm sm T n M
theorem cxr.fr {o sg pl ro al sm n : Nat} {T : Nat → Nat} {S : Nat → Nat → Prop} {M M' : me_M} (h : cxr o sg pl ro al sm T n M) (hx : fr S M M') (h1 : ¬ S o 5) (h2 : ∀ k, ¬ S sg k) (h3 : ∀ k, ¬ S pl k) (h4 : ∀ k, ¬ S ro k) (h5 : ∀ k, ¬ S al k) (h6 : ∀ k, ¬ S sm k) : cxr o sg pl ro al sm T n M' := by
  obtain ⟨a1, a2, a3, a4⟩ := h
  refine ⟨a1.fr hx h1 h2, fun p hp => ?_, ⟨?_, fun p q hp hq e => ?_⟩, fun r c hr hc => ?_⟩
  · rw [hx.2 _ _ (h3 _), hx.2 _ _ (h4 _)]; exact a2 p hp
  · rw [hx.2 _ _ (h5 _)]; exact a3.1
  · rw [hx.2 _ _ (h5 _)]; exact a3.2 p q hp hq e
  · rw [hx.2 _ _ (h6 _)]; exact a4 r c hr hc
theorem g_arrange {o sg pl ro al sm n : Nat} {T : Nat → Nat} {M0 : me_M} (hT : tx_ok T n) (hT9 : ∀ i, T i < 10) (hn : n ≤ 240) (hs : ∀ i, i ≤ n → M0.1 sg i = nI (T i)) (hz : ∀ c, c < 8 → M0.1 sm c = 0) (hd : pl ≠ ro ∧ o ≠ pl ∧ o ≠ ro ∧ sg ≠ pl ∧ sg ≠ ro ∧ sg ≠ o ∧ o ≠ al ∧ sg ≠ al ∧ pl ≠ al ∧ ro ≠ al ∧ o ≠ sm ∧ sg ≠ sm ∧ pl ≠ sm ∧ ro ≠ sm ∧ al ≠ sm) :
    ∃ M', gX4_arrange o sg pl ro al sm M0 (nI n) = some M' ∧ fr (fun b k => (b = o ∧ k = 5) ∨ b = pl ∨ b = ro ∨ b = al ∨ b = sm) M0 M' ∧ cxr o sg pl ro al sm T n M' := by
  have hT9' : ∀ i, T i < 2 ^ 31 := fun i => by have := hT9 i; omega
  have hT9'' : ∀ i, T i < 2 ^ 31 - 20 := fun i => by have := hT9 i; omega
  have r0 : rw_at o sg T n (me_s M0 o 5 (nI n)) := ⟨pu_ss, fun i hi => by rw [me_s_ne hd.2.2.2.2.2.1]; exact hs i hi⟩
  have mm : ∀ {l : List Nat} {S : Nat → Nat → Prop} {M M' : me_M}, me_eqx l M M' → (∀ b, b ∈ l → ∀ k, S b k) → fr S M M' := fun h1 h2 => h1.fr h2
  obtain ⟨M1, e1, f1, g1⟩ := gX4_sort_ok (al := al) (sm := sm) hT hT9' hn r0 ⟨hd.1, hd.2.1, hd.2.2.1, hd.2.2.2.1, hd.2.2.2.2.1⟩
  have f1 : fr (fun b k => b = pl ∨ b = ro) (me_s M0 o 5 (nI n)) M1 := f1.fr (fun b hb k => by simp only [List.mem_cons, List.mem_nil_iff, or_false] at hb; omega)
  have r1 := r0.fr f1 (by omega) (fun k => by omega)
  have k1 : rw_rk pl ro T n M1 := fun p hp => g1 p (Nat.zero_le _) hp
  obtain ⟨M2, e2, f2, g2⟩ := g_alike_ok (al := al) (sm := sm) hT hT9' hn r1 k1 ⟨by omega, by omega, by omega, by omega⟩
  have f2 : fr (fun b _ => b = al) M1 M2 := f2.fr (fun b hb k => by simp only [List.mem_cons, List.mem_nil_iff, or_false] at hb; omega)
  have r2 := r1.fr f2 (by omega) (fun k => by omega)
  have k2 : rw_rk pl ro T n M2 := fun p hp => by rw [f2.2 _ _ (by omega), f2.2 _ _ (by omega)]; exact k1 p hp
  obtain ⟨M3, e3, f3, g3, -⟩ := g_tally_ok (al := al) (sm := sm) hT hT9'' hn r2 k2 (fun c hc => by rw [f2.2 _ _ (by omega), f1.2 _ _ (by omega), me_s_ne (by omega)]; exact hz c hc) ⟨by omega, by omega, by omega, by omega⟩
  have f3 : fr (fun b _ => b = sm) M2 M3 := f3.fr (fun b hb k => by simp only [List.mem_cons, List.mem_nil_iff, or_false] at hb; omega)
  have r3 := r2.fr f3 (by omega) (fun k => by omega)
  refine ⟨M3, ?_, (((fr.s (by omega)).tr (f1.up (fun b k h => by omega))).tr (f2.up (fun b k h => by omega))).tr (f3.up (fun b k h => by omega)), r3, fun p hp => ?_, ⟨?_, fun p q hp hq e => ?_⟩, g3⟩
  · unfold gX4_arrange
    simp (disch := omega) only [Option.bind_some, if_true, if_false, Sum.elim_inl, Sum.elim_inr, li0, li1, li2, li3, li4, li5, li6, li7, li8, li9, li10, li12, li16, li20, li24, li25, li31, li32, li40, li41, li42, li48, li57, li59, li97, li104, li105, li124, li126, li240, li241, nI_add, nI_subc, nI_subm, nI_mulc, nI_nm, pu_r, pu_t, pu_a, pu_le_t, pu_le_f, pu_lt_t, pu_lt_f, pu_eq_t, pu_eq_f, nm_eq, nm_eq2, nm_lt, nm_lt2, nm_le, nm_le2, nm_ss, nm_sp, pu_ss, pu_snq, pu_neq, eq_self, and_true, true_and, and_false, false_and, or_true, true_or, or_false, false_or, not_true_eq_false, not_false_eq_true, e1, e2, e3]
  · rw [f3.2 _ _ (by omega), f3.2 _ _ (by omega)]; exact k2 p hp
  · rw [f3.2 _ _ (by omega)]; exact g2.1
  · rw [f3.2 _ _ (by omega)]; exact g2.2 p q hp hq e
/-- the class's index of a text stands -/
def cx (T : Nat → Nat) (n : Nat) (M : me_M) : Prop := cx0 T n M ∧ cxr 9 4 10 11 12 13 T n M ∧ cxr 14 5 15 16 17 18 (rv T n) n M
theorem cx.fr {T : Nat → Nat} {n : Nat} {S : Nat → Nat → Prop} {M M' : me_M} (h : cx T n M) (hx : fr S M M') (hs : ∀ b k, 3 ≤ b → b ≤ 18 → ¬ S b k) : cx T n M' := ⟨h.1.fr hx (fun b k h1 h2 => hs b k h1 (by omega)), h.2.1.fr hx (hs _ _ (by omega) (by omega)) (fun k => hs _ _ (by omega) (by omega)) (fun k => hs _ _ (by omega) (by omega)) (fun k => hs _ _ (by omega) (by omega)) (fun k => hs _ _ (by omega) (by omega)) (fun k => hs _ _ (by omega) (by omega)), h.2.2.fr hx (hs _ _ (by omega) (by omega)) (fun k => hs _ _ (by omega) (by omega)) (fun k => hs _ _ (by omega) (by omega)) (fun k => hs _ _ (by omega) (by omega)) (fun k => hs _ _ (by omega) (by omega)) (fun k => hs _ _ (by omega) (by omega))⟩
theorem rv9 {T : Nat → Nat} {n : Nat} (hT : tx9 T n) : tx9 (rv T n) n := ⟨rv_ok hT.1, rv_lt (by decide) hT.2.1, hT.2.2⟩
theorem g_index0 {T : Nat → Nat} {n : Nat} {M0 : me_M} (hT : tx9 T n) (hM0 : rw_at 3 4 T n M0) (hz1 : ∀ c, c < 8 → M0.1 13 c = 0) (hz2 : ∀ c, c < 8 → M0.1 18 c = 0) : ∃ M', ((mX10_survey_3 M0).bind fun M1 => ((mX4_arrange_9 M1 (M1.1 3 5)).bind fun M2 => mX4_arrange_14 M2 (M2.1 3 5))) = some M' ∧ fr (fun b k => (b = 3 ∧ (k = 6 ∨ k = 7)) ∨ (5 ≤ b ∧ b ≤ 18)) M0 M' ∧ cx T n M' := by
  obtain ⟨M1, e1, f1, g1⟩ := g_survey hT hM0
  obtain ⟨M2, e2, f2, g2⟩ := g_arrange (o := 9) (sg := 4) (pl := 10) (ro := 11) (al := 12) (sm := 13) (M0 := M1) hT.1 hT.2.1 hT.2.2.2 g1.1.2 (fun c hc => by rw [f1.2 _ _ (by omega)]; exact hz1 c hc) (by omega)
  have c2 : cx0 T n M2 := g1.fr f2 (fun b k h1 h2 => by omega)
  obtain ⟨M3, e3, f3, g3⟩ := g_arrange (o := 14) (sg := 5) (pl := 15) (ro := 16) (al := 17) (sm := 18) (M0 := M2) (rv9 hT).1 (rv9 hT).2.1 hT.2.2.2 c2.2.1 (fun c hc => by rw [f2.2 _ _ (by omega), f1.2 _ _ (by omega)]; exact hz2 c hc) (by omega)
  refine ⟨M3, ?_, ((f1.up (fun b k h => by omega)).tr (f2.up (fun b k h => by omega))).tr (f3.up (fun b k h => by omega)), c2.fr f3 (fun b k h1 h2 => by omega), g2.fr f3 (by omega) (fun k => by omega) (fun k => by omega) (fun k => by omega) (fun k => by omega) (fun k => by omega), g3⟩
  rw [eX4_arrange_9, eX4_arrange_14, e1]
  simp (disch := omega) only [Option.bind_some, if_true, if_false, Sum.elim_inl, Sum.elim_inr, li0, li1, li2, li3, li4, li5, li6, li7, li8, li9, li10, li12, li16, li20, li24, li25, li31, li32, li40, li41, li42, li48, li57, li59, li97, li104, li105, li124, li126, li240, li241, nI_add, nI_subc, nI_subm, nI_mulc, nI_nm, pu_r, pu_t, pu_a, pu_le_t, pu_le_f, pu_lt_t, pu_lt_f, pu_eq_t, pu_eq_f, nm_eq, nm_eq2, nm_lt, nm_lt2, nm_le, nm_le2, nm_ss, nm_sp, pu_ss, pu_snq, pu_neq, eq_self, and_true, true_and, and_false, false_and, or_true, true_or, or_false, false_or, not_true_eq_false, not_false_eq_true, g1.1.1, e2, c2.1.1, e3]
