/-! ===== calls: maximals, maximal ===== -/
def LA (b : Nat) : Int32 := if b < 2 then -nI 1 else nI b
theorem LA_m {b : Nat} (h : b < 2) : LA b = -nI 1 := if_pos h
theorem LA_n {b : Nat} (h : ¬ b < 2) : LA b = nI b := if_neg h
theorem lb_lt {T : Nat → Nat} {n i : Nat} (h : ∀ i, T i < 10) : lb T n i < 10 := by
  unfold lb
  split
  · exact h _
  · decide
theorem r_letterAt {T : Nat → Nat} {n i : Nat} {M : me_M} (hT : tx9 T n) (hM : rx T n M) (hi : i < 1000) : mX12_letterAt_63 M (nI i) = some (LA (lb T n i)) := by
  have hn := hT.2.2.2
  unfold mX12_letterAt_63 mX12_letterAt_63_J24 lb
  by_cases c : i < n
  · rw [if_pos c]
    have h67 := hM.2 i (by omega)
    have h1 := hT.2.1 i
    have h2 := hT.1.2 i c
    by_cases d : T i = 1
    · rw [LA_m (by omega)]
      simp (disch := omega) only [Option.bind_some, if_true, if_false, Sum.elim_inl, Sum.elim_inr, li0, li1, li2, li3, li4, li5, li6, li7, li8, li9, li10, li12, li16, li20, li24, li25, li31, li32, li40, li41, li42, li48, li57, li59, li97, li104, li105, li124, li126, li240, li241, nI_add, nI_subc, nI_subm, nI_mulc, nI_nm, pu_r, pu_t, pu_a, pu_le_t, pu_le_f, pu_lt_t, pu_lt_f, pu_eq_t, pu_eq_f, nm_eq, nm_eq2, nm_lt, nm_lt2, nm_le, nm_le2, nm_ss, nm_sp, pu_ss, pu_snq, pu_neq, eq_self, and_true, true_and, and_false, false_and, or_true, true_or, or_false, false_or, not_true_eq_false, not_false_eq_true, hM.1, h67]
    · rw [LA_n (by omega)]
      simp (disch := omega) only [Option.bind_some, if_true, if_false, Sum.elim_inl, Sum.elim_inr, li0, li1, li2, li3, li4, li5, li6, li7, li8, li9, li10, li12, li16, li20, li24, li25, li31, li32, li40, li41, li42, li48, li57, li59, li97, li104, li105, li124, li126, li240, li241, nI_add, nI_subc, nI_subm, nI_mulc, nI_nm, pu_r, pu_t, pu_a, pu_le_t, pu_le_f, pu_lt_t, pu_lt_f, pu_eq_t, pu_eq_f, nm_eq, nm_eq2, nm_lt, nm_lt2, nm_le, nm_le2, nm_ss, nm_sp, pu_ss, pu_snq, pu_neq, eq_self, and_true, true_and, and_false, false_and, or_true, true_or, or_false, false_or, not_true_eq_false, not_false_eq_true, hM.1, h67]
  · rw [if_neg c, LA_m (by omega)]
    simp (disch := omega) only [Option.bind_some, if_true, if_false, Sum.elim_inl, Sum.elim_inr, li0, li1, li2, li3, li4, li5, li6, li7, li8, li9, li10, li12, li16, li20, li24, li25, li31, li32, li40, li41, li42, li48, li57, li59, li97, li104, li105, li124, li126, li240, li241, nI_add, nI_subc, nI_subm, nI_mulc, nI_nm, pu_r, pu_t, pu_a, pu_le_t, pu_le_f, pu_lt_t, pu_lt_f, pu_eq_t, pu_eq_f, nm_eq, nm_eq2, nm_lt, nm_lt2, nm_le, nm_le2, nm_ss, nm_sp, pu_ss, pu_snq, pu_neq, eq_self, and_true, true_and, and_false, false_and, or_true, true_or, or_false, false_or, not_true_eq_false, not_false_eq_true, hM.1]
theorem r_letterAtD {T : Nat → Nat} {n q : Nat} {M : me_M} (hT : tx9 T n) (hM : rx T n M) (hq : q ≤ n) : mX12_letterAt_63 M (dn q) = some (LA (bf T q)) := by
  have hn := hT.2.2.2
  match q with
  | 0 =>
    rw [LA_m (show bf T 0 < 2 by show 0 < 2; omega)]
    unfold mX12_letterAt_63 mX12_letterAt_63_J24
    simp (disch := omega) only [Option.bind_some, if_true, if_false, Sum.elim_inl, Sum.elim_inr, li0, li1, li2, li3, li4, li5, li6, li7, li8, li9, li10, li12, li16, li20, li24, li25, li31, li32, li40, li41, li42, li48, li57, li59, li97, li104, li105, li124, li126, li240, li241, nI_add, nI_subc, nI_subm, nI_mulc, nI_nm, pu_r, pu_t, pu_a, pu_le_t, pu_le_f, pu_lt_t, pu_lt_f, pu_eq_t, pu_eq_f, nm_eq, nm_eq2, nm_lt, nm_lt2, nm_le, nm_le2, nm_ss, nm_sp, pu_ss, pu_snq, pu_neq, eq_self, and_true, true_and, and_false, false_and, or_true, true_or, or_false, false_or, not_true_eq_false, not_false_eq_true, dn_0]
  | q + 1 =>
    rw [dn_s, r_letterAt hT hM (by omega)]
    have : bf T (q + 1) = lb T n q := by
      unfold bf lb
      rw [if_neg (by omega), if_pos (by omega), Nat.add_sub_cancel]
    rw [this]
theorem chk_ok {β : Type} {lx lp : Option Int32} {A B : Option β} {b c : Nat} (h1 : lx = some (LA b)) (h2 : lp = some (LA c)) (hb : b < 10) (hc : c < 10) : (lx.bind fun v2 => (if v2 = -nI 1 then A else (lx.bind fun v3 => (lp.bind fun v4 => (if v3 = v4 then B else A))))) = if (decide (b < 2) || decide (b ≠ c)) = true then A else B := by
  rw [h1, h2]
  by_cases d : b < 2
  · rw [LA_m d, decide_eq_true d, Bool.true_or, if_pos rfl]
    simp (disch := omega) only [Option.bind_some, if_true, if_false, Sum.elim_inl, Sum.elim_inr, li0, li1, li2, li3, li4, li5, li6, li7, li8, li9, li10, li12, li16, li20, li24, li25, li31, li32, li40, li41, li42, li48, li57, li59, li97, li104, li105, li124, li126, li240, li241, nI_add, nI_subc, nI_subm, nI_mulc, nI_nm, pu_r, pu_t, pu_a, pu_le_t, pu_le_f, pu_lt_t, pu_lt_f, pu_eq_t, pu_eq_f, nm_eq, nm_eq2, nm_lt, nm_lt2, nm_le, nm_le2, nm_ss, nm_sp, pu_ss, pu_snq, pu_neq, eq_self, and_true, true_and, and_false, false_and, or_true, true_or, or_false, false_or, not_true_eq_false, not_false_eq_true]
  · rw [LA_n d, decide_eq_false d, Bool.false_or]
    by_cases e : b = c
    · rw [← e, LA_n d, decide_eq_false (by omega), if_neg (by decide)]
      simp (disch := omega) only [Option.bind_some, if_true, if_false, Sum.elim_inl, Sum.elim_inr, li0, li1, li2, li3, li4, li5, li6, li7, li8, li9, li10, li12, li16, li20, li24, li25, li31, li32, li40, li41, li42, li48, li57, li59, li97, li104, li105, li124, li126, li240, li241, nI_add, nI_subc, nI_subm, nI_mulc, nI_nm, pu_r, pu_t, pu_a, pu_le_t, pu_le_f, pu_lt_t, pu_lt_f, pu_eq_t, pu_eq_f, nm_eq, nm_eq2, nm_lt, nm_lt2, nm_le, nm_le2, nm_ss, nm_sp, pu_ss, pu_snq, pu_neq, eq_self, and_true, true_and, and_false, false_and, or_true, true_or, or_false, false_or, not_true_eq_false, not_false_eq_true]
    · rw [decide_eq_true e, if_pos rfl]
      by_cases f : c < 2
      · rw [LA_m f]; simp (disch := omega) only [Option.bind_some, if_true, if_false, Sum.elim_inl, Sum.elim_inr, li0, li1, li2, li3, li4, li5, li6, li7, li8, li9, li10, li12, li16, li20, li24, li25, li31, li32, li40, li41, li42, li48, li57, li59, li97, li104, li105, li124, li126, li240, li241, nI_add, nI_subc, nI_subm, nI_mulc, nI_nm, pu_r, pu_t, pu_a, pu_le_t, pu_le_f, pu_lt_t, pu_lt_f, pu_eq_t, pu_eq_f, nm_eq, nm_eq2, nm_lt, nm_lt2, nm_le, nm_le2, nm_ss, nm_sp, pu_ss, pu_snq, pu_neq, eq_self, and_true, true_and, and_false, false_and, or_true, true_or, or_false, false_or, not_true_eq_false, not_false_eq_true]
      · rw [LA_n f]; simp (disch := omega) only [Option.bind_some, if_true, if_false, Sum.elim_inl, Sum.elim_inr, li0, li1, li2, li3, li4, li5, li6, li7, li8, li9, li10, li12, li16, li20, li24, li25, li31, li32, li40, li41, li42, li48, li57, li59, li97, li104, li105, li124, li126, li240, li241, nI_add, nI_subc, nI_subm, nI_mulc, nI_nm, pu_r, pu_t, pu_a, pu_le_t, pu_le_f, pu_lt_t, pu_lt_f, pu_eq_t, pu_eq_f, nm_eq, nm_eq2, nm_lt, nm_lt2, nm_le, nm_le2, nm_ss, nm_sp, pu_ss, pu_snq, pu_neq, eq_self, and_true, true_and, and_false, false_and, or_true, true_or, or_false, false_or, not_true_eq_false, not_false_eq_true]
def ex9 (P : Nat → Bool) (x : Nat) : Bool := decide (∃ q, q < x ∧ P q = true)
theorem ex9_s (P : Nat → Bool) (x : Nat) : ex9 P (x + 1) = (ex9 P x || P x) := by
  unfold ex9
  rw [Bool.eq_iff_iff, Bool.or_eq_true, decide_eq_true_eq, decide_eq_true_eq]
  refine ⟨fun ⟨q, h1, h2⟩ => ?_, fun h => ?_⟩
  · by_cases e : q = x
    · rw [e] at h2; exact Or.inr h2
    · exact Or.inl ⟨q, by omega, h2⟩
  · rcases h with ⟨q, h1, h2⟩ | h
    · exact ⟨q, by omega, h2⟩
    · exact ⟨x, by omega, h⟩
theorem ex9_0 (P : Nat → Bool) : ex9 P 0 = false := decide_eq_false (fun ⟨q, h, _⟩ => absurd h (Nat.not_lt_zero _))
theorem bI_or1 (a : Bool) : bI a ||| nI 1 = nI 1 := by cases a <;> decide
theorem bI_eq0 (a : Bool) : (bI a = nI 0) = (a = false) := by cases a <;> simp [bI, nI] 
def inS (T : Nat → Nat) (n p len q : Nat) : Bool := decide (q = p) || decide (len ≤ lk T n p q)
def pA (T : Nat → Nat) (n p len q : Nat) : Bool := inS T n p len q && (decide (bf T q < 2) || decide (bf T q ≠ bf T p))
def pB (T : Nat → Nat) (n p len q : Nat) : Bool := inS T n p len q && (decide (lb T n (q + len) < 2) || decide (lb T n (q + len) ≠ lb T n (p + len)))
theorem isM_eq {T : Nat → Nat} {n p len : Nat} : isM T n p len = (decide (2 ≤ tm T n p len) && ex9 (pA T n p len) n && ex9 (pB T n p len) n) := by
  have hi : ∀ q, inS T n p len q = true ↔ (q = p ∨ len ≤ lk T n p q) := fun q => by
    unfold inS
    rw [Bool.or_eq_true, decide_eq_true_eq, decide_eq_true_eq]
  unfold isM ex9
  congr 1
  · congr 1
    rw [Bool.eq_iff_iff, decide_eq_true_eq, decide_eq_true_eq]
    refine ⟨fun ⟨q, h1, h2, h3⟩ => ⟨q, h1, ?_⟩, fun ⟨q, h1, h2⟩ => ⟨q, h1, ?_⟩⟩
    · unfold pA
      rw [Bool.and_eq_true, Bool.or_eq_true, decide_eq_true_eq, decide_eq_true_eq]
      exact ⟨(hi q).mpr h2, h3⟩
    · unfold pA at h2
      rw [Bool.and_eq_true, Bool.or_eq_true, decide_eq_true_eq, decide_eq_true_eq] at h2
      exact ⟨(hi q).mp h2.1, h2.2⟩
  · rw [Bool.eq_iff_iff, decide_eq_true_eq, decide_eq_true_eq]
    refine ⟨fun ⟨q, h1, h2, h3⟩ => ⟨q, h1, ?_⟩, fun ⟨q, h1, h2⟩ => ⟨q, h1, ?_⟩⟩
    · unfold pB
      rw [Bool.and_eq_true, Bool.or_eq_true, decide_eq_true_eq, decide_eq_true_eq]
      exact ⟨(hi q).mpr h2, h3⟩
    · unfold pB at h2
      rw [Bool.and_eq_true, Bool.or_eq_true, decide_eq_true_eq, decide_eq_true_eq] at h2
      exact ⟨(hi q).mp h2.1, h2.2⟩
theorem r_isMaximal {T : Nat → Nat} {n p len often : Nat} {M : me_M} (hT : tx9 T n) (hM : rx T n M) (hp : p < n) (hlen : len ≤ 241) (ho : often ≤ 241) : mX12_isMaximal_63 M (nI p) (nI len) (nI often) = some (bI (isM T n p len && decide (often ≤ tm T n p len))) := by
  have hn := hT.2.2.2
  have hla := r_letterAtD hT hM (show p ≤ n by omega)
  have hlb := r_letterAt (i := p + len) hT hM (by omega)
  have hl : me_l (mX12_isMaximal_63_L12 M (nI p) (nI len) (nI often)) me_fu (nI 0, nI 0, nI 0, nI 0) = some (nI (tm T n p len), bI (ex9 (pA T n p len) n), bI (ex9 (pB T n p len) n)) := by
    have := lp_to (b := mX12_isMaximal_63_L12 M (nI p) (nI len) (nI often)) (fun x => (nI (ct (inS T n p len) x), bI (ex9 (pA T n p len) x), bI (ex9 (pB T n p len) x), nI x)) (a := 0) (N := n) (r := (nI (tm T n p len), bI (ex9 (pA T n p len) n), bI (ex9 (pB T n p len) n))) (by omega) (by omega) (fun x _ hx => ?_) ?_
    · rw [ex9_0, ex9_0] at this; exact this
    · have hxa := r_letterAtD hT hM (show x ≤ n by omega)
      have hxb := r_letterAt (i := x + len) hT hM (by omega)
      have hk := lk_le (T := T) (n := n) (p := p) (q := x)
      have b1 := bf_lt (p := x) hT.2.1
      have b2 := bf_lt (p := p) hT.2.1
      have b3 := lb_lt (n := n) (i := x + len) hT.2.1
      have b4 := lb_lt (n := n) (i := p + len) hT.2.1
      have key : inS T n p len x = true → mX12_isMaximal_63_J41 (nI p) (nI len) (nI often) (nI (ct (inS T n p len) x)) (bI (ex9 (pA T n p len) x)) (bI (ex9 (pB T n p len) x)) (nI x) M = some (.inl (nI (ct (inS T n p len) (x + 1)), bI (ex9 (pA T n p len) (x + 1)), bI (ex9 (pB T n p len) (x + 1)), nI (x + 1))) := fun hin => by
        have eA : pA T n p len x = (decide (bf T x < 2) || decide (bf T x ≠ bf T p)) := by unfold pA; rw [hin, Bool.true_and]
        have eB : pB T n p len x = (decide (lb T n (x + len) < 2) || decide (lb T n (x + len) ≠ lb T n (p + len))) := by unfold pB; rw [hin, Bool.true_and]
        rw [ct_s, hin, if_pos rfl, ex9_s, ex9_s]
        simp only [mX12_isMaximal_63_J41, mX12_isMaximal_63_J76, mX12_isMaximal_63_J81, li1, dn_m, nI_add]
        rw [chk_ok hxa hla b1 b2, chk_ok hxb hlb b3 b4, chk_ok hxb hlb b3 b4, ← eA, ← eB]
        cases pA T n p len x <;> cases pB T n p len x <;> simp only [mX12_isMaximal_63_J116, mX12_isMaximal_63_J121, mX12_isMaximal_63_J124, if_true, if_false, Bool.false_eq_true, li0, li1, or_z, bI_or1, Bool.or_false, Bool.or_true, bI_t, nI_add]
      simp only [mX12_isMaximal_63_L12]
      by_cases c : x = p
      · have hin : inS T n p len x = true := by unfold inS; rw [decide_eq_true c, Bool.true_or]
        simp (disch := omega) only [Option.bind_some, if_true, if_false, Sum.elim_inl, Sum.elim_inr, li0, li1, li2, li3, li4, li5, li6, li7, li8, li9, li10, li12, li16, li20, li24, li25, li31, li32, li40, li41, li42, li48, li57, li59, li97, li104, li105, li124, li126, li240, li241, nI_add, nI_subc, nI_subm, nI_mulc, nI_nm, pu_r, pu_t, pu_a, pu_le_t, pu_le_f, pu_lt_t, pu_lt_f, pu_eq_t, pu_eq_f, nm_eq, nm_eq2, nm_lt, nm_lt2, nm_le, nm_le2, nm_ss, nm_sp, pu_ss, pu_snq, pu_neq, eq_self, and_true, true_and, and_false, false_and, or_true, true_or, or_false, false_or, not_true_eq_false, not_false_eq_true, hM.1, key hin]
      · by_cases d : len ≤ lk T n p x
        · have hin : inS T n p len x = true := by unfold inS; rw [decide_eq_true d, Bool.or_true]
          simp (disch := omega) only [Option.bind_some, if_true, if_false, Sum.elim_inl, Sum.elim_inr, li0, li1, li2, li3, li4, li5, li6, li7, li8, li9, li10, li12, li16, li20, li24, li25, li31, li32, li40, li41, li42, li48, li57, li59, li97, li104, li105, li124, li126, li240, li241, nI_add, nI_subc, nI_subm, nI_mulc, nI_nm, pu_r, pu_t, pu_a, pu_le_t, pu_le_f, pu_lt_t, pu_lt_f, pu_eq_t, pu_eq_f, nm_eq, nm_eq2, nm_lt, nm_lt2, nm_le, nm_le2, nm_ss, nm_sp, pu_ss, pu_snq, pu_neq, eq_self, and_true, true_and, and_false, false_and, or_true, true_or, or_false, false_or, not_true_eq_false, not_false_eq_true, hM.1, r_like hT hM, key hin]
        · have hin : inS T n p len x = false := by unfold inS; rw [decide_eq_false c, decide_eq_false d]; rfl
          have eA : pA T n p len x = false := by unfold pA; rw [hin, Bool.false_and]
          have eB : pB T n p len x = false := by unfold pB; rw [hin, Bool.false_and]
          simp (disch := omega) only [Option.bind_some, if_true, if_false, Sum.elim_inl, Sum.elim_inr, li0, li1, li2, li3, li4, li5, li6, li7, li8, li9, li10, li12, li16, li20, li24, li25, li31, li32, li40, li41, li42, li48, li57, li59, li97, li104, li105, li124, li126, li240, li241, nI_add, nI_subc, nI_subm, nI_mulc, nI_nm, pu_r, pu_t, pu_a, pu_le_t, pu_le_f, pu_lt_t, pu_lt_f, pu_eq_t, pu_eq_f, nm_eq, nm_eq2, nm_lt, nm_lt2, nm_le, nm_le2, nm_ss, nm_sp, pu_ss, pu_snq, pu_neq, eq_self, and_true, true_and, and_false, false_and, or_true, true_or, or_false, false_or, not_true_eq_false, not_false_eq_true, hM.1, r_like hT hM, mX12_isMaximal_63_J124, ct_s, hin, Bool.false_eq_true, Nat.add_zero, ex9_s, eA, eB, Bool.or_false]
    · simp only [mX12_isMaximal_63_L12]
      simp (disch := omega) only [Option.bind_some, if_true, if_false, Sum.elim_inl, Sum.elim_inr, li0, li1, li2, li3, li4, li5, li6, li7, li8, li9, li10, li12, li16, li20, li24, li25, li31, li32, li40, li41, li42, li48, li57, li59, li97, li104, li105, li124, li126, li240, li241, nI_add, nI_subc, nI_subm, nI_mulc, nI_nm, pu_r, pu_t, pu_a, pu_le_t, pu_le_f, pu_lt_t, pu_lt_f, pu_eq_t, pu_eq_f, nm_eq, nm_eq2, nm_lt, nm_lt2, nm_le, nm_le2, nm_ss, nm_sp, pu_ss, pu_snq, pu_neq, eq_self, and_true, true_and, and_false, false_and, or_true, true_or, or_false, false_or, not_true_eq_false, not_false_eq_true, hM.1]
      rfl
  have hb : tm T n p len ≤ n := ct_le _ _
  rw [isM_eq]
  unfold mX12_isMaximal_63
  by_cases c : 2 ≤ tm T n p len
  · by_cases d : often ≤ tm T n p len
    · cases e : ex9 (pA T n p len) n with
      | false => simp (disch := omega) only [Option.bind_some, if_true, if_false, Sum.elim_inl, Sum.elim_inr, li0, li1, li2, li3, li4, li5, li6, li7, li8, li9, li10, li12, li16, li20, li24, li25, li31, li32, li40, li41, li42, li48, li57, li59, li97, li104, li105, li124, li126, li240, li241, nI_add, nI_subc, nI_subm, nI_mulc, nI_nm, pu_r, pu_t, pu_a, pu_le_t, pu_le_f, pu_lt_t, pu_lt_f, pu_eq_t, pu_eq_f, nm_eq, nm_eq2, nm_lt, nm_lt2, nm_le, nm_le2, nm_ss, nm_sp, pu_ss, pu_snq, pu_neq, eq_self, and_true, true_and, and_false, false_and, or_true, true_or, or_false, false_or, not_true_eq_false, not_false_eq_true, hl, decide_eq_true c, decide_eq_true d, e, bI_f, Bool.true_and, Bool.false_and]
      | true =>
        cases f : ex9 (pB T n p len) n with
        | false => simp (disch := omega) only [Option.bind_some, if_true, if_false, Sum.elim_inl, Sum.elim_inr, li0, li1, li2, li3, li4, li5, li6, li7, li8, li9, li10, li12, li16, li20, li24, li25, li31, li32, li40, li41, li42, li48, li57, li59, li97, li104, li105, li124, li126, li240, li241, nI_add, nI_subc, nI_subm, nI_mulc, nI_nm, pu_r, pu_t, pu_a, pu_le_t, pu_le_f, pu_lt_t, pu_lt_f, pu_eq_t, pu_eq_f, nm_eq, nm_eq2, nm_lt, nm_lt2, nm_le, nm_le2, nm_ss, nm_sp, pu_ss, pu_snq, pu_neq, eq_self, and_true, true_and, and_false, false_and, or_true, true_or, or_false, false_or, not_true_eq_false, not_false_eq_true, hl, decide_eq_true c, decide_eq_true d, e, f, bI_f, bI_t, Bool.true_and, Bool.false_and]
        | true => simp (disch := omega) only [Option.bind_some, if_true, if_false, Sum.elim_inl, Sum.elim_inr, li0, li1, li2, li3, li4, li5, li6, li7, li8, li9, li10, li12, li16, li20, li24, li25, li31, li32, li40, li41, li42, li48, li57, li59, li97, li104, li105, li124, li126, li240, li241, nI_add, nI_subc, nI_subm, nI_mulc, nI_nm, pu_r, pu_t, pu_a, pu_le_t, pu_le_f, pu_lt_t, pu_lt_f, pu_eq_t, pu_eq_f, nm_eq, nm_eq2, nm_lt, nm_lt2, nm_le, nm_le2, nm_ss, nm_sp, pu_ss, pu_snq, pu_neq, eq_self, and_true, true_and, and_false, false_and, or_true, true_or, or_false, false_or, not_true_eq_false, not_false_eq_true, hl, decide_eq_true c, decide_eq_true d, e, f, bI_t, Bool.true_and, Bool.and_true]
    · simp (disch := omega) only [Option.bind_some, if_true, if_false, Sum.elim_inl, Sum.elim_inr, li0, li1, li2, li3, li4, li5, li6, li7, li8, li9, li10, li12, li16, li20, li24, li25, li31, li32, li40, li41, li42, li48, li57, li59, li97, li104, li105, li124, li126, li240, li241, nI_add, nI_subc, nI_subm, nI_mulc, nI_nm, pu_r, pu_t, pu_a, pu_le_t, pu_le_f, pu_lt_t, pu_lt_f, pu_eq_t, pu_eq_f, nm_eq, nm_eq2, nm_lt, nm_lt2, nm_le, nm_le2, nm_ss, nm_sp, pu_ss, pu_snq, pu_neq, eq_self, and_true, true_and, and_false, false_and, or_true, true_or, or_false, false_or, not_true_eq_false, not_false_eq_true, hl, decide_eq_false d, Bool.and_false, bI_f]
  · simp (disch := omega) only [Option.bind_some, if_true, if_false, Sum.elim_inl, Sum.elim_inr, li0, li1, li2, li3, li4, li5, li6, li7, li8, li9, li10, li12, li16, li20, li24, li25, li31, li32, li40, li41, li42, li48, li57, li59, li97, li104, li105, li124, li126, li240, li241, nI_add, nI_subc, nI_subm, nI_mulc, nI_nm, pu_r, pu_t, pu_a, pu_le_t, pu_le_f, pu_lt_t, pu_lt_f, pu_eq_t, pu_eq_f, nm_eq, nm_eq2, nm_lt, nm_lt2, nm_le, nm_le2, nm_ss, nm_sp, pu_ss, pu_snq, pu_neq, eq_self, and_true, true_and, and_false, false_and, or_true, true_or, or_false, false_or, not_true_eq_false, not_false_eq_true, hl, decide_eq_false c, Bool.false_and, bI_f]
/-- the first place at which a string stands -/
def fof (T : Nat → Nat) (n p len : Nat) : Nat → Nat → Nat
  | 0, j => j
  | d + 1, j => if j = p ∨ len ≤ lk T n p j then j else fof T n p len d (j + 1)
def fo (T : Nat → Nat) (n p len : Nat) : Nat := fof T n p len p 0
theorem fof_ok {T : Nat → Nat} {n p len : Nat} : ∀ d j, j + d = p → j ≤ fof T n p len d j ∧ fof T n p len d j ≤ p ∧ (fof T n p len d j = p ∨ len ≤ lk T n p (fof T n p len d j)) ∧ ∀ i, j ≤ i → i < fof T n p len d j → ¬ (i = p ∨ len ≤ lk T n p i)
  | 0, j, h => ⟨Nat.le_refl _, by show j ≤ p; omega, Or.inl (by show j = p; omega), fun i h1 h2 => by have h2 : i < j := h2; omega⟩
  | d + 1, j, h => by
    unfold fof
    by_cases c : j = p ∨ len ≤ lk T n p j
    · rw [if_pos c]
      exact ⟨Nat.le_refl _, by omega, c, fun i h1 h2 => by omega⟩
    · rw [if_neg c]
      obtain ⟨a1, a2, a3, a4⟩ := fof_ok (T := T) (n := n) (p := p) (len := len) d (j + 1) (by omega)
      refine ⟨by omega, a2, a3, fun i h1 h2 => ?_⟩
      by_cases e : i = j
      · rw [e]; exact c
      · exact a4 i (by omega) h2
theorem r_firstOf {T : Nat → Nat} {n p len : Nat} {M : me_M} (hT : tx9 T n) (hM : rx T n M) (hp : p < n) (hlen : len ≤ 241) : mX12_firstOf_63 M (nI p) (nI len) = some (nI (fo T n p len)) := by
  have hn := hT.2.2.2
  obtain ⟨a1, a2, a3, a4⟩ := fof_ok (T := T) (n := n) (p := p) (len := len) p 0 (by omega)
  have hl : me_l (mX12_firstOf_63_L2 M (nI p) (nI len)) me_fu (nI 0) = some (nI (fo T n p len)) := by
    unfold fo
    refine lp_to (fun x => nI x) (a := 0) (N := fof T n p len p 0) (by omega) (by omega) (fun x _ hx => ?_) ?_
    · have := a4 x (Nat.zero_le _) hx
      have hk := lk_le (T := T) (n := n) (p := p) (q := x)
      simp only [mX12_firstOf_63_L2]
      simp (disch := omega) only [Option.bind_some, if_true, if_false, Sum.elim_inl, Sum.elim_inr, li0, li1, li2, li3, li4, li5, li6, li7, li8, li9, li10, li12, li16, li20, li24, li25, li31, li32, li40, li41, li42, li48, li57, li59, li97, li104, li105, li124, li126, li240, li241, nI_add, nI_subc, nI_subm, nI_mulc, nI_nm, pu_r, pu_t, pu_a, pu_le_t, pu_le_f, pu_lt_t, pu_lt_f, pu_eq_t, pu_eq_f, nm_eq, nm_eq2, nm_lt, nm_lt2, nm_le, nm_le2, nm_ss, nm_sp, pu_ss, pu_snq, pu_neq, eq_self, and_true, true_and, and_false, false_and, or_true, true_or, or_false, false_or, not_true_eq_false, not_false_eq_true, r_like hT hM]
    · simp only [mX12_firstOf_63_L2]
      have hk := lk_le (T := T) (n := n) (p := p) (q := fof T n p len p 0)
      by_cases c : fof T n p len p 0 = p
      · simp (disch := omega) only [Option.bind_some, if_true, if_false, Sum.elim_inl, Sum.elim_inr, li0, li1, li2, li3, li4, li5, li6, li7, li8, li9, li10, li12, li16, li20, li24, li25, li31, li32, li40, li41, li42, li48, li57, li59, li97, li104, li105, li124, li126, li240, li241, nI_add, nI_subc, nI_subm, nI_mulc, nI_nm, pu_r, pu_t, pu_a, pu_le_t, pu_le_f, pu_lt_t, pu_lt_f, pu_eq_t, pu_eq_f, nm_eq, nm_eq2, nm_lt, nm_lt2, nm_le, nm_le2, nm_ss, nm_sp, pu_ss, pu_snq, pu_neq, eq_self, and_true, true_and, and_false, false_and, or_true, true_or, or_false, false_or, not_true_eq_false, not_false_eq_true]
      · simp (disch := omega) only [Option.bind_some, if_true, if_false, Sum.elim_inl, Sum.elim_inr, li0, li1, li2, li3, li4, li5, li6, li7, li8, li9, li10, li12, li16, li20, li24, li25, li31, li32, li40, li41, li42, li48, li57, li59, li97, li104, li105, li124, li126, li240, li241, nI_add, nI_subc, nI_subm, nI_mulc, nI_nm, pu_r, pu_t, pu_a, pu_le_t, pu_le_f, pu_lt_t, pu_lt_f, pu_eq_t, pu_eq_f, nm_eq, nm_eq2, nm_lt, nm_lt2, nm_le, nm_le2, nm_ss, nm_sp, pu_ss, pu_snq, pu_neq, eq_self, and_true, true_and, and_false, false_and, or_true, true_or, or_false, false_or, not_true_eq_false, not_false_eq_true, r_like hT hM]
  unfold mX12_firstOf_63
  simp (disch := omega) only [Option.bind_some, if_true, if_false, Sum.elim_inl, Sum.elim_inr, li0, li1, li2, li3, li4, li5, li6, li7, li8, li9, li10, li12, li16, li20, li24, li25, li31, li32, li40, li41, li42, li48, li57, li59, li97, li104, li105, li124, li126, li240, li241, nI_add, nI_subc, nI_subm, nI_mulc, nI_nm, pu_r, pu_t, pu_a, pu_le_t, pu_le_f, pu_lt_t, pu_lt_f, pu_eq_t, pu_eq_f, nm_eq, nm_eq2, nm_lt, nm_lt2, nm_le, nm_le2, nm_ss, nm_sp, pu_ss, pu_snq, pu_neq, eq_self, and_true, true_and, and_false, false_and, or_true, true_or, or_false, false_or, not_true_eq_false, not_false_eq_true, hl]
/-- a maximal string that is wanted -/
def mC (T : Nat → Nat) (n least often r len : Nat) : Bool := MX T n r len && (decide (least ≤ len) && decide (often ≤ tm T n (pa T n r) len))
def nC (T : Nat → Nat) (n least often r : Nat) : Nat := sm9 (fun r => ct (mC T n least often r) 241) r
theorem nC_s {T : Nat → Nat} {n least often r : Nat} : nC T n least often (r + 1) = nC T n least often r + ct (mC T n least often r) 241 := rfl
theorem nC_b {T : Nat → Nat} {n least often : Nat} : ∀ r, nC T n least often r ≤ r * 241
  | 0 => Nat.le_refl _
  | r + 1 => by
    have := nC_b (T := T) (n := n) (least := least) (often := often) r
    have := ct_le (mC T n least often r) 241
    rw [nC_s]
    omega
theorem nC_mono {T : Nat → Nat} {n least often : Nat} {a b : Nat} (h : a ≤ b) : nC T n least often a ≤ nC T n least often b := by
  induction b with
  | zero => rw [show a = 0 by omega]; exact Nat.le_refl _
  | succ b ih =>
    by_cases e : a = b + 1
    · rw [e]; exact Nat.le_refl _
    · have := ih (by omega)
      rw [nC_s]; omega
/-- earlier ones have smaller numbers -/
theorem idx_lt {T : Nat → Nat} {n least often r len r' len' : Nat} (hC : mC T n least often r' len' = true) (hl : len' < 241) (h : r' < r ∨ (r' = r ∧ len' < len)) : nC T n least often r' + ct (mC T n least often r') len' < nC T n least often r + ct (mC T n least often r) len := by
  have h1 : ct (mC T n least often r') (len' + 1) = ct (mC T n least often r') len' + 1 := by rw [ct_s, hC]; rfl
  rcases h with h | ⟨rfl, h⟩
  · have h2 : ct (mC T n least often r') (len' + 1) ≤ ct (mC T n least often r') 241 := ct_mono' _ (by omega)
    have h3 : nC T n least often (r' + 1) ≤ nC T n least often r := nC_mono (by omega)
    rw [nC_s] at h3
    omega
  · have h2 : ct (mC T n least often r') (len' + 1) ≤ ct (mC T n least often r') len := ct_mono' _ (by omega)
    omega
def sto (T : Nat → Nat) (n r len : Nat) (M : me_M) : Prop := M.1 89 0 = nI len ∧ M.1 89 1 = nI (fo T n (pa T n r) len) ∧ M.1 89 2 = nI (tm T n (pa T n r) len)
theorem MX_iff {T : Nat → Nat} {n r len : Nat} : MX T n r len = true ↔ (hd T n r < len ∧ len ≤ tw T n (pa T n r) ∧ pa T n r < n ∧ isM T n (pa T n r) len = true) := by
  unfold MX
  rw [Bool.and_eq_true, Bool.and_eq_true, Bool.and_eq_true, decide_eq_true_eq, decide_eq_true_eq, decide_eq_true_eq, and_assoc, and_assoc]
theorem r_maxTo {T : Nat → Nat} {n least often : Nat} {M : me_M} (p0 : Int32) (hT : tx9 T n) (hy : ry T n M) (hl1 : 1 ≤ least) (hl2 : least ≤ 240) (ho : often ≤ 241) : ∃ M', mX12_maximalsTo_63 M p0 (nI least) (nI often) = some (nI (nC T n least often (n + 1)), M') ∧ fr (fun b _ => b = 89) M M' ∧ ∀ r len, r ≤ n → len < 241 → mC T n least often r len = true → p0 = nI (nC T n least often r + ct (mC T n least often r) len) → sto T n r len M' := by
  have hn := hT.2.2.2
  obtain ⟨R, e, hR⟩ := lp_up (b := mX12_maximalsTo_63_L6 p0 (nI least) (nI often)) (fun r s => ∃ Mx, s = (nI (nC T n least often r), nI r, Mx) ∧ fr (fun b _ => b = 89) M Mx ∧ ∀ r' len', r' < r → len' < 241 → mC T n least often r' len' = true → p0 = nI (nC T n least often r' + ct (mC T n least often r') len') → sto T n r' len' Mx) (fun s => ∃ Mx, s = (nI (nC T n least often (n + 1)), Mx) ∧ fr (fun b _ => b = 89) M Mx ∧ ∀ r' len', r' < n + 1 → len' < 241 → mC T n least often r' len' = true → p0 = nI (nC T n least often r' + ct (mC T n least often r') len') → sto T n r' len' Mx) (a := 0) (N := n + 1) (by omega) (by omega) (fun r s _ hr hs => by
    obtain ⟨Mx, rfl, hf, hI⟩ := hs
    left
    have hyx : ∀ My, fr (fun b _ => b = 89) Mx My → ry T n My := fun My hfy => hy.fr (hf.tr hfy) (by omega) (fun b k _ _ => by omega)
    have hp := pa_le hT.1 (show r ≤ n by omega)
    have h70 : Mx.1 70 r = nI (pa T n r) := ry_at (b := 0) hT (hyx Mx fr.rf) (by omega) (by omega)
    have hmx := (hyx Mx fr.rf).1
    have hdb := hd_bd (T := T) (n := n) (r := r)
    have htb := tw_bd hT.1 hp
    have hnb := nC_b (T := T) (n := n) (least := least) (often := often) r
    have hr240 : r * 241 ≤ 240 * 241 := Nat.mul_le_mul_right _ (by omega)
    -- the row's own loop
    obtain ⟨s2, e2, M8, rfl, f8, g8⟩ : ∃ s2, me_l (mX12_maximalsTo_63_L64 p0 (nI least) (nI often) (nI r) (nI (pa T n r))) me_fu (nI (nC T n least often r), nI (max least (hd T n r + 1)), Mx) = some s2 ∧ ∃ M8, s2 = (nI (nC T n least often (r + 1)), M8) ∧ fr (fun b _ => b = 89) Mx M8 ∧ ∀ r' len', r' < r + 1 → len' < 241 → mC T n least often r' len' = true → p0 = nI (nC T n least often r' + ct (mC T n least often r') len') → sto T n r' len' M8 := by
      have hlow : ∀ a, a ≤ max least (hd T n r + 1) → ct (mC T n least often r) a = 0 := fun a ha => ct_zero a (fun i hi => by
        cases hc : mC T n least often r i with
        | false => rfl
        | true =>
          unfold mC at hc
          rw [Bool.and_eq_true, Bool.and_eq_true, decide_eq_true_eq, decide_eq_true_eq, MX_iff] at hc
          omega)
      by_cases hpn : pa T n r < n ∧ max least (hd T n r + 1) ≤ tw T n (pa T n r)
      · have htop : ct (mC T n least often r) 241 = ct (mC T n least often r) (tw T n (pa T n r) + 1) := ct_cut 241 (by omega) (fun i h1 h2 => by
          cases hc : mC T n least often r i with
          | false => rfl
          | true =>
            unfold mC at hc
            rw [Bool.and_eq_true, Bool.and_eq_true, decide_eq_true_eq, decide_eq_true_eq, MX_iff] at hc
            omega)
        have h0 := hlow (max least (hd T n r + 1)) (Nat.le_refl _)
        refine lp_up (b := mX12_maximalsTo_63_L64 p0 (nI least) (nI often) (nI r) (nI (pa T n r))) (fun x s => ∃ My, s = (nI (nC T n least often r + ct (mC T n least often r) x), nI x, My) ∧ fr (fun b _ => b = 89) Mx My ∧ ∀ r' len', (r' < r ∨ (r' = r ∧ len' < x)) → len' < 241 → mC T n least often r' len' = true → p0 = nI (nC T n least often r' + ct (mC T n least often r') len') → sto T n r' len' My) _ (a := max least (hd T n r + 1)) (N := tw T n (pa T n r) + 1) (by omega) (by omega) (fun x s hx1 hx2 hs => ?_) (fun s hs => ?_) ⟨Mx, by simp only [h0, Nat.add_zero], fr.rf, fun r' len' h1 h2 h3 h4 => ?_⟩
        · obtain ⟨My, rfl, hfy, hJ⟩ := hs
          left
          have hM := (hyx My hfy).1
          have hcx := ct_le (mC T n least often r) x
          have htw := r_twice hT hM hp
          have him := r_isMaximal (p := pa T n r) (len := x) (often := often) hT hM hpn.1 (by omega) ho
          have hmC : mC T n least often r x = (isM T n (pa T n r) x && decide (often ≤ tm T n (pa T n r) x)) := by
            unfold mC MX
            rw [decide_eq_true (show hd T n r < x by omega), decide_eq_true (show x ≤ tw T n (pa T n r) by omega), decide_eq_true hpn.1, decide_eq_true (show least ≤ x by omega)]
            simp only [Bool.true_and]
          rw [← hmC] at him
          cases hc : mC T n least often r x with
          | false =>
            rw [hc, bI_f] at him
            have ec : ct (mC T n least often r) (x + 1) = ct (mC T n least often r) x := by rw [ct_s, hc]; rfl
            refine ⟨_, ?_, My, rfl, hfy, fun r' len' h1 h2 h3 h4 => ?_⟩
            · simp only [mX12_maximalsTo_63_L64, mX12_maximalsTo_63_J144, mX12_maximalsTo_63_J141]
              rw [ec]
              simp (disch := omega) only [Option.bind_some, if_true, if_false, Sum.elim_inl, Sum.elim_inr, li0, li1, li2, li3, li4, li5, li6, li7, li8, li9, li10, li12, li16, li20, li24, li25, li31, li32, li40, li41, li42, li48, li57, li59, li97, li104, li105, li124, li126, li240, li241, nI_add, nI_subc, nI_subm, nI_mulc, nI_nm, pu_r, pu_t, pu_a, pu_le_t, pu_le_f, pu_lt_t, pu_lt_f, pu_eq_t, pu_eq_f, nm_eq, nm_eq2, nm_lt, nm_lt2, nm_le, nm_le2, nm_ss, nm_sp, pu_ss, pu_snq, pu_neq, eq_self, and_true, true_and, and_false, false_and, or_true, true_or, or_false, false_or, not_true_eq_false, not_false_eq_true, hM.1, htw, him]
            · by_cases z : r' = r ∧ len' = x
              · rw [z.1, z.2, hc] at h3; cases h3
              · exact hJ r' len' (by omega) h2 h3 h4
          | true =>
            rw [hc, bI_t] at him
            have ec : ct (mC T n least often r) (x + 1) = ct (mC T n least often r) x + 1 := by rw [ct_s, hc]; rfl
            by_cases z : nI (nC T n least often r + ct (mC T n least often r) x) = p0
            · have hf3 : fr (fun b _ => b = 89) My (me_s My 89 0 (nI x)) := fr.s (by omega)
              have hf4 : fr (fun b _ => b = 89) My (me_s (me_s My 89 0 (nI x)) 89 1 (nI (fo T n (pa T n r) x))) := hf3.st (by omega)
              have hfo := r_firstOf (p := pa T n r) (len := x) hT (hyx _ (hfy.tr hf3)).1 hpn.1 (by omega)
              have htm := r_times (p := pa T n r) (len := x) hT (hyx _ (hfy.tr hf4)).1 hp (by omega)
              refine ⟨_, ?_, me_s (me_s (me_s My 89 0 (nI x)) 89 1 (nI (fo T n (pa T n r) x))) 89 2 (nI (tm T n (pa T n r) x)), rfl, hfy.tr (hf4.st (by omega)), fun r' len' h1 h2 h3 h4 => ?_⟩
              · simp only [mX12_maximalsTo_63_L64, mX12_maximalsTo_63_J144, mX12_maximalsTo_63_J141]
                rw [ec, if_pos z]
                simp (disch := omega) only [Option.bind_some, if_true, if_false, Sum.elim_inl, Sum.elim_inr, li0, li1, li2, li3, li4, li5, li6, li7, li8, li9, li10, li12, li16, li20, li24, li25, li31, li32, li40, li41, li42, li48, li57, li59, li97, li104, li105, li124, li126, li240, li241, nI_add, nI_subc, nI_subm, nI_mulc, nI_nm, pu_r, pu_t, pu_a, pu_le_t, pu_le_f, pu_lt_t, pu_lt_f, pu_eq_t, pu_eq_f, nm_eq, nm_eq2, nm_lt, nm_lt2, nm_le, nm_le2, nm_ss, nm_sp, pu_ss, pu_snq, pu_neq, eq_self, and_true, true_and, and_false, false_and, or_true, true_or, or_false, false_or, not_true_eq_false, not_false_eq_true, hM.1, htw, him, hfo, htm, show nC T n least often r + ct (mC T n least often r) x + 1 = nC T n least often r + (ct (mC T n least often r) x + 1) by omega]
              · by_cases y : r' = r ∧ len' = x
                · rw [y.1, y.2]
                  exact ⟨by simp (disch := omega) only [Option.bind_some, if_true, if_false, Sum.elim_inl, Sum.elim_inr, li0, li1, li2, li3, li4, li5, li6, li7, li8, li9, li10, li12, li16, li20, li24, li25, li31, li32, li40, li41, li42, li48, li57, li59, li97, li104, li105, li124, li126, li240, li241, nI_add, nI_subc, nI_subm, nI_mulc, nI_nm, pu_r, pu_t, pu_a, pu_le_t, pu_le_f, pu_lt_t, pu_lt_f, pu_eq_t, pu_eq_f, nm_eq, nm_eq2, nm_lt, nm_lt2, nm_le, nm_le2, nm_ss, nm_sp, pu_ss, pu_snq, pu_neq, eq_self, and_true, true_and, and_false, false_and, or_true, true_or, or_false, false_or, not_true_eq_false, not_false_eq_true], by simp (disch := omega) only [Option.bind_some, if_true, if_false, Sum.elim_inl, Sum.elim_inr, li0, li1, li2, li3, li4, li5, li6, li7, li8, li9, li10, li12, li16, li20, li24, li25, li31, li32, li40, li41, li42, li48, li57, li59, li97, li104, li105, li124, li126, li240, li241, nI_add, nI_subc, nI_subm, nI_mulc, nI_nm, pu_r, pu_t, pu_a, pu_le_t, pu_le_f, pu_lt_t, pu_lt_f, pu_eq_t, pu_eq_f, nm_eq, nm_eq2, nm_lt, nm_lt2, nm_le, nm_le2, nm_ss, nm_sp, pu_ss, pu_snq, pu_neq, eq_self, and_true, true_and, and_false, false_and, or_true, true_or, or_false, false_or, not_true_eq_false, not_false_eq_true], by simp (disch := omega) only [Option.bind_some, if_true, if_false, Sum.elim_inl, Sum.elim_inr, li0, li1, li2, li3, li4, li5, li6, li7, li8, li9, li10, li12, li16, li20, li24, li25, li31, li32, li40, li41, li42, li48, li57, li59, li97, li104, li105, li124, li126, li240, li241, nI_add, nI_subc, nI_subm, nI_mulc, nI_nm, pu_r, pu_t, pu_a, pu_le_t, pu_le_f, pu_lt_t, pu_lt_f, pu_eq_t, pu_eq_f, nm_eq, nm_eq2, nm_lt, nm_lt2, nm_le, nm_le2, nm_ss, nm_sp, pu_ss, pu_snq, pu_neq, eq_self, and_true, true_and, and_false, false_and, or_true, true_or, or_false, false_or, not_true_eq_false, not_false_eq_true]⟩
                · exfalso
                  have hlt := idx_lt h3 h2 (show r' < r ∨ (r' = r ∧ len' < x) by omega)
                  rw [← z] at h4
                  have := (nI_eq (by omega) (by omega)).mp h4
                  omega
            · refine ⟨_, ?_, My, rfl, hfy, fun r' len' h1 h2 h3 h4 => ?_⟩
              · simp only [mX12_maximalsTo_63_L64, mX12_maximalsTo_63_J144, mX12_maximalsTo_63_J141]
                rw [ec, if_neg z]
                simp (disch := omega) only [Option.bind_some, if_true, if_false, Sum.elim_inl, Sum.elim_inr, li0, li1, li2, li3, li4, li5, li6, li7, li8, li9, li10, li12, li16, li20, li24, li25, li31, li32, li40, li41, li42, li48, li57, li59, li97, li104, li105, li124, li126, li240, li241, nI_add, nI_subc, nI_subm, nI_mulc, nI_nm, pu_r, pu_t, pu_a, pu_le_t, pu_le_f, pu_lt_t, pu_lt_f, pu_eq_t, pu_eq_f, nm_eq, nm_eq2, nm_lt, nm_lt2, nm_le, nm_le2, nm_ss, nm_sp, pu_ss, pu_snq, pu_neq, eq_self, and_true, true_and, and_false, false_and, or_true, true_or, or_false, false_or, not_true_eq_false, not_false_eq_true, hM.1, htw, him, show nC T n least often r + ct (mC T n least often r) x + 1 = nC T n least often r + (ct (mC T n least often r) x + 1) by omega]
              · by_cases y : r' = r ∧ len' = x
                · rw [y.1, y.2] at h4; exact absurd h4.symm z
                · exact hJ r' len' (by omega) h2 h3 h4
        · obtain ⟨My, rfl, hfy, hJ⟩ := hs
          have hM := (hyx My hfy).1
          have htw := r_twice hT hM hp
          have hcx := ct_le (mC T n least often r) (tw T n (pa T n r) + 1)
          refine ⟨_, ?_, My, rfl, hfy, fun r' len' h1 h2 h3 h4 => ?_⟩
          · simp only [mX12_maximalsTo_63_L64]
            rw [nC_s, htop]
            simp (disch := omega) only [Option.bind_some, if_true, if_false, Sum.elim_inl, Sum.elim_inr, li0, li1, li2, li3, li4, li5, li6, li7, li8, li9, li10, li12, li16, li20, li24, li25, li31, li32, li40, li41, li42, li48, li57, li59, li97, li104, li105, li124, li126, li240, li241, nI_add, nI_subc, nI_subm, nI_mulc, nI_nm, pu_r, pu_t, pu_a, pu_le_t, pu_le_f, pu_lt_t, pu_lt_f, pu_eq_t, pu_eq_f, nm_eq, nm_eq2, nm_lt, nm_lt2, nm_le, nm_le2, nm_ss, nm_sp, pu_ss, pu_snq, pu_neq, eq_self, and_true, true_and, and_false, false_and, or_true, true_or, or_false, false_or, not_true_eq_false, not_false_eq_true, hM.1, htw]
          · by_cases z : r' < r
            · exact hJ r' len' (Or.inl z) h2 h3 h4
            · have z2 : r' = r := by omega
              have hc := h3
              unfold mC at hc
              rw [Bool.and_eq_true, Bool.and_eq_true, decide_eq_true_eq, decide_eq_true_eq, MX_iff, z2] at hc
              exact hJ r' len' (Or.inr ⟨z2, by omega⟩) h2 h3 h4
        · by_cases z : r' < r
          · exact hI r' len' z h2 h3 h4
          · have hc := h3
            unfold mC at hc
            rw [Bool.and_eq_true, Bool.and_eq_true, decide_eq_true_eq, decide_eq_true_eq, MX_iff, show r' = r by omega] at hc
            omega
      · have hno : ∀ i, mC T n least often r i = false := fun i => by
          cases hc : mC T n least often r i with
          | false => rfl
          | true =>
            unfold mC at hc
            rw [Bool.and_eq_true, Bool.and_eq_true, decide_eq_true_eq, decide_eq_true_eq, MX_iff] at hc
            omega
        have h241 : ct (mC T n least often r) 241 = 0 := ct_zero 241 (fun i _ => hno i)
        refine ⟨_, lp_to (fun _ => (nI (nC T n least often r), nI (max least (hd T n r + 1)), Mx)) (a := 0) (N := 0) (r := (nI (nC T n least often r), Mx)) (by omega) (by omega) (fun x _ hx => absurd hx (by omega)) ?_, Mx, by rw [nC_s, h241, Nat.add_zero], fr.rf, fun r' len' h1 h2 h3 h4 => ?_⟩
        · simp only [mX12_maximalsTo_63_L64]
          have htw := r_twice hT hmx hp
          by_cases z : pa T n r < n
          · have : tw T n (pa T n r) < max least (hd T n r + 1) := by
              rcases Nat.lt_or_ge (tw T n (pa T n r)) (max least (hd T n r + 1)) with q | q
              · exact q
              · exact absurd ⟨z, q⟩ hpn
            simp (disch := omega) only [Option.bind_some, if_true, if_false, Sum.elim_inl, Sum.elim_inr, li0, li1, li2, li3, li4, li5, li6, li7, li8, li9, li10, li12, li16, li20, li24, li25, li31, li32, li40, li41, li42, li48, li57, li59, li97, li104, li105, li124, li126, li240, li241, nI_add, nI_subc, nI_subm, nI_mulc, nI_nm, pu_r, pu_t, pu_a, pu_le_t, pu_le_f, pu_lt_t, pu_lt_f, pu_eq_t, pu_eq_f, nm_eq, nm_eq2, nm_lt, nm_lt2, nm_le, nm_le2, nm_ss, nm_sp, pu_ss, pu_snq, pu_neq, eq_self, and_true, true_and, and_false, false_and, or_true, true_or, or_false, false_or, not_true_eq_false, not_false_eq_true, hmx.1, htw]
          · simp (disch := omega) only [Option.bind_some, if_true, if_false, Sum.elim_inl, Sum.elim_inr, li0, li1, li2, li3, li4, li5, li6, li7, li8, li9, li10, li12, li16, li20, li24, li25, li31, li32, li40, li41, li42, li48, li57, li59, li97, li104, li105, li124, li126, li240, li241, nI_add, nI_subc, nI_subm, nI_mulc, nI_nm, pu_r, pu_t, pu_a, pu_le_t, pu_le_f, pu_lt_t, pu_lt_f, pu_eq_t, pu_eq_f, nm_eq, nm_eq2, nm_lt, nm_lt2, nm_le, nm_le2, nm_ss, nm_sp, pu_ss, pu_snq, pu_neq, eq_self, and_true, true_and, and_false, false_and, or_true, true_or, or_false, false_or, not_true_eq_false, not_false_eq_true, hmx.1]
        · by_cases z : r' = r
          · rw [z, hno] at h3; cases h3
          · exact hI r' len' (by omega) h2 h3 h4
    refine ⟨_, ?_, M8, rfl, hf.tr f8, g8⟩
    simp only [mX12_maximalsTo_63_L6, mX12_maximalsTo_63_J52]
    by_cases z : r = 0
    · subst z
      have hd0 : hd T n 0 = 0 := rfl
      rw [hd0] at e2
      simp (disch := omega) only [Option.bind_some, if_true, if_false, Sum.elim_inl, Sum.elim_inr, li0, li1, li2, li3, li4, li5, li6, li7, li8, li9, li10, li12, li16, li20, li24, li25, li31, li32, li40, li41, li42, li48, li57, li59, li97, li104, li105, li124, li126, li240, li241, nI_add, nI_subc, nI_subm, nI_mulc, nI_nm, pu_r, pu_t, pu_a, pu_le_t, pu_le_f, pu_lt_t, pu_lt_f, pu_eq_t, pu_eq_f, nm_eq, nm_eq2, nm_lt, nm_lt2, nm_le, nm_le2, nm_ss, nm_sp, pu_ss, pu_snq, pu_neq, eq_self, and_true, true_and, and_false, false_and, or_true, true_or, or_false, false_or, not_true_eq_false, not_false_eq_true, hmx.1, h70, r_more, e2]
    · have h70' : Mx.1 70 (r - 1) = nI (pa T n (r - 1)) := ry_at (b := 0) hT (hyx Mx fr.rf) (by omega) (by omega)
      have hp' := pa_le hT.1 (show r - 1 ≤ n by omega)
      have hlk := r_like hT hmx hp hp'
      have hdr : lk T n (pa T n r) (pa T n (r - 1)) = hd T n r := by unfold hd; rw [if_neg z]
      rw [hdr] at hlk
      simp (disch := omega) only [Option.bind_some, if_true, if_false, Sum.elim_inl, Sum.elim_inr, li0, li1, li2, li3, li4, li5, li6, li7, li8, li9, li10, li12, li16, li20, li24, li25, li31, li32, li40, li41, li42, li48, li57, li59, li97, li104, li105, li124, li126, li240, li241, nI_add, nI_subc, nI_subm, nI_mulc, nI_nm, pu_r, pu_t, pu_a, pu_le_t, pu_le_f, pu_lt_t, pu_lt_f, pu_eq_t, pu_eq_f, nm_eq, nm_eq2, nm_lt, nm_lt2, nm_le, nm_le2, nm_ss, nm_sp, pu_ss, pu_snq, pu_neq, eq_self, and_true, true_and, and_false, false_and, or_true, true_or, or_false, false_or, not_true_eq_false, not_false_eq_true, hmx.1, h70, h70', hlk, r_more, e2]) (fun s hs => by
    obtain ⟨Mx, rfl, hf, hI⟩ := hs
    have hmx := (hy.fr hf (by omega) (fun b k _ _ => by omega)).1
    refine ⟨_, ?_, Mx, rfl, hf, hI⟩
    simp only [mX12_maximalsTo_63_L6]
    simp (disch := omega) only [Option.bind_some, if_true, if_false, Sum.elim_inl, Sum.elim_inr, li0, li1, li2, li3, li4, li5, li6, li7, li8, li9, li10, li12, li16, li20, li24, li25, li31, li32, li40, li41, li42, li48, li57, li59, li97, li104, li105, li124, li126, li240, li241, nI_add, nI_subc, nI_subm, nI_mulc, nI_nm, pu_r, pu_t, pu_a, pu_le_t, pu_le_f, pu_lt_t, pu_lt_f, pu_eq_t, pu_eq_f, nm_eq, nm_eq2, nm_lt, nm_lt2, nm_le, nm_le2, nm_ss, nm_sp, pu_ss, pu_snq, pu_neq, eq_self, and_true, true_and, and_false, false_and, or_true, true_or, or_false, false_or, not_true_eq_false, not_false_eq_true, hmx.1]) (s0 := (nI 0, nI 0, M)) ⟨M, rfl, fr.rf, fun r' len' h => absurd h (Nat.not_lt_zero _)⟩
  obtain ⟨Mx, rfl, hf, hI⟩ := hR
  refine ⟨Mx, ?_, hf, fun r len hr => hI r len (by omega)⟩
  unfold mX12_maximalsTo_63
  simp (disch := omega) only [Option.bind_some, if_true, if_false, Sum.elim_inl, Sum.elim_inr, li0, li1, li2, li3, li4, li5, li6, li7, li8, li9, li10, li12, li16, li20, li24, li25, li31, li32, li40, li41, li42, li48, li57, li59, li97, li104, li105, li124, li126, li240, li241, nI_add, nI_subc, nI_subm, nI_mulc, nI_nm, pu_r, pu_t, pu_a, pu_le_t, pu_le_f, pu_lt_t, pu_lt_f, pu_eq_t, pu_eq_f, nm_eq, nm_eq2, nm_lt, nm_lt2, nm_le, nm_le2, nm_ss, nm_sp, pu_ss, pu_snq, pu_neq, eq_self, and_true, true_and, and_false, false_and, or_true, true_or, or_false, false_or, not_true_eq_false, not_false_eq_true, e]
