/-! ===== calls: ranges, refusals, answers ===== -/
theorem lg_self (x : Int64) : lg_cmp x x = 0 := by
  unfold lg_cmp
  rw [if_neg (by simp), if_pos rfl]
def bI (b : Bool) : Int32 := if b then nI 1 else nI 0
theorem bI_t : bI true = nI 1 := rfl
theorem bI_f : bI false = nI 0 := rfl
theorem bI_01 (b : Bool) : (bI b = nI 0 ∨ bI b = nI 1) = True := eq_true (by cases b; exact Or.inl rfl; exact Or.inr rfl)
def iB (a lo hi : Int32) : Bool := decide (lo ≤ a) && decide (a ≤ hi)
theorem iB_n {a : Int32} {lo hi : Nat} (h : iB a (nI lo) (nI hi) = true) (hl : lo < 2 ^ 31) (hh : hi < 2 ^ 31) : ∃ j, lo ≤ j ∧ j ≤ hi ∧ a = nI j := by
  unfold iB at h
  rw [Bool.and_eq_true, decide_eq_true_eq, decide_eq_true_eq] at h
  obtain ⟨h1, h2⟩ := h
  rw [Int32.le_iff_toInt_le, nI_toInt hl] at h1
  rw [Int32.le_iff_toInt_le, nI_toInt hh] at h2
  refine ⟨a.toInt.toNat, by omega, by omega, Int32.toInt_inj.mp ?_⟩
  rw [nI_toInt (by omega)]
  omega
theorem iB_d {a : Int32} {m : Nat} (h : iB a (nI 0) (dn m) = true) (hm : m < 2 ^ 31) : ∃ j, j < m ∧ a = nI j := by
  match m with
  | 0 =>
    unfold iB at h
    rw [Bool.and_eq_true, decide_eq_true_eq, decide_eq_true_eq] at h
    obtain ⟨h1, h2⟩ := h
    rw [Int32.le_iff_toInt_le, nI_toInt (by omega)] at h1
    rw [Int32.le_iff_toInt_le, dn_0, nI_mt hm] at h2
    omega
  | m + 1 =>
    obtain ⟨j, h1, h2, h3⟩ := iB_n h (by omega) (by omega)
    exact ⟨j, by omega, h3⟩
theorem nlt_le {a b : Int32} : (a < b) ↔ ¬ b ≤ a := by
  rw [Int32.lt_iff_toInt_lt, Int32.le_iff_toInt_le]; omega
theorem c_rng2 {α : Type} {a lo hi : Int32} {A B : α} : (if a < lo then A else if hi < a then A else B) = if iB a lo hi = true then B else A := by
  unfold iB
  by_cases h1 : lo ≤ a
  · rw [if_neg (fun z => nlt_le.mp z h1), decide_eq_true h1, Bool.true_and]
    by_cases h2 : a ≤ hi
    · rw [if_neg (fun z => nlt_le.mp z h2), decide_eq_true h2, if_pos rfl]
    · rw [if_pos (nlt_le.mpr h2), decide_eq_false h2, if_neg (by decide)]
  · rw [if_pos (nlt_le.mpr h1), decide_eq_false h1, Bool.false_and, if_neg (by decide)]
theorem dn_le {a : Int32} {m : Nat} (hm : m < 2 ^ 31) : (nI m ≤ a) ↔ ¬ a ≤ dn m := by
  rw [Int32.le_iff_toInt_le, Int32.le_iff_toInt_le, nI_toInt hm]
  match m with
  | 0 => rw [dn_0, nI_mt hm]; omega
  | m + 1 => rw [dn_s, nI_toInt (by omega)]; omega
theorem c_rng {α : Type} {a : Int32} {m : Nat} {A B : α} (hm : m < 2 ^ 31) : (if a < nI 0 then A else if nI m ≤ a then A else B) = if iB a (nI 0) (dn m) = true then B else A := by
  rw [← c_rng2]
  by_cases h : a < nI 0
  · rw [if_pos h, if_pos h]
  · rw [if_neg h, if_neg h]
    by_cases h2 : a ≤ dn m
    · rw [if_neg (fun z => (dn_le hm).mp z h2), if_neg (fun z => nlt_le.mp z h2)]
    · rw [if_pos ((dn_le hm).mpr h2), if_pos (nlt_le.mpr h2)]
theorem ite_b {b : Bool} : (if b = true then some (nI 1) else some (nI 0) : Option Int32) = some (bI b) := by cases b <;> rfl
theorem c_isWhat {a k : Int32} : mX11_isWhat a k = some (bI (iB a (nI 0) k)) := by
  unfold mX11_isWhat
  rw [li0, li1, c_rng2, ite_b]
theorem r_in {a lo hi : Int32} : mX12_in a lo hi = some (bI (iB a lo hi)) := by
  unfold mX12_in
  rw [li0, li1, c_rng2, ite_b]
theorem c_isPlace {n : Nat} {M : me_M} {a : Int32} (h : M.1 3 5 = nI n) : mX11_isPlace_0 M a = some (bI (iB a (nI 0) (nI n))) := by
  unfold mX11_isPlace_0
  rw [li0, li1, h, c_rng2, ite_b]
theorem r_isPlace {n : Nat} {M : me_M} {a : Int32} (h : M.1 63 5 = nI n) : mX12_isPlace_63 M a = some (bI (iB a (nI 0) (nI n))) := by
  unfold mX12_isPlace_63
  rw [h, r_in, li0, li1]
  simp only [Option.bind_some, bI_01, if_true]
theorem c_isLetter {a : Int32} : mX11_isLetter a = some (bI (iB a (nI 97) (nI 104))) := by
  unfold mX11_isLetter
  rw [li0, li1, ← ite_b, ← c_rng2, li97, li105]
  by_cases h : a < nI 97
  · rw [if_pos h, if_pos h]
  · rw [if_neg h, if_neg h]
    have e : (nI 105 ≤ a) = (nI 104 < a) := propext (by
      rw [Int32.le_iff_toInt_le, Int32.lt_iff_toInt_lt, nI_toInt (by omega), nI_toInt (by omega)]; omega)
    simp only [e]
theorem r_isLetter {a : Int32} : mX12_isLetter a = some (bI (iB a (nI 97) (nI 104))) := by
  unfold mX12_isLetter
  rw [r_in, li0, li1, li97, li104]
  simp only [Option.bind_some, bI_01, if_true]
theorem c_isLength {a : Int32} : mX11_isLength a = some (bI (iB a (nI 1) (nI 240))) := by
  unfold mX11_isLength
  rw [li0, li1, li240, c_rng2, ite_b]
theorem c_isOften {a : Int32} : mX11_isOften a = some (bI (iB a (nI 2) (nI 241))) := by
  unfold mX11_isOften
  rw [li0, li1, li2, li241, c_rng2, ite_b]
theorem c_holds {t : Nat} {M : me_M} {a : Int32} (h : M.1 1 1 = nI t) : mX9_holds_1 M a = some (bI (iB a (nI 1) (nI t))) := by
  unfold mX9_holds_1
  rw [li0, li1, h, c_rng2, ite_b]
theorem c_isSide {a : Int32} : mX11_isSide a = some (bI (iB a (nI 0) (nI 1))) := by
  unfold mX11_isSide mX11_isSide_J9
  rw [li0, li1]
  cases h : iB a (nI 0) (nI 1) with
  | true =>
    obtain ⟨j, h1, h2, rfl⟩ := iB_n h (by omega) (by omega)
    have : j = 0 ∨ j = 1 := by omega
    rcases this with rfl | rfl
    · rfl
    · rfl
  | false =>
    rw [if_neg (fun z => by rw [z] at h; exact absurd h (by decide)), if_neg (fun z => by rw [z] at h; exact absurd h (by decide))]
    rfl
theorem c_rowsOf {M : me_M} {b : Nat} (hb : b < 2) : mX11_rowsOf_0 M (nI b) = some (9 + 5 * b) := by
  unfold mX11_rowsOf_0
  have : b = 0 ∨ b = 1 := by omega
  rcases this with rfl | rfl <;> rfl
theorem c_need {b : Bool} : mX11_needElement_0 (bI b) = (if b = true then some () else none) ∧ mX11_needArgument_0 (bI b) = (if b = true then some () else none) ∧ mX11_needState_0 (bI b) = (if b = true then some () else none) := by
  cases b <;> exact ⟨rfl, rfl, rfl⟩
theorem needE1 : mX11_needElement_0 (nI 1) = some () := rfl
theorem needE0 : mX11_needElement_0 (nI 0) = none := rfl
theorem needA1 : mX11_needArgument_0 (nI 1) = some () := rfl
theorem needA0 : mX11_needArgument_0 (nI 0) = none := rfl
theorem needS1 : mX11_needState_0 (nI 1) = some () := rfl
theorem needS0 : mX11_needState_0 (nI 0) = none := rfl
/-- the reference's refusals -/
theorem r_bad0 {M : me_M} {w k : Int32} (h : M.1 63 0 = nI 0) : mX12_bad_63 M (nI 0) w k = some (nI 0, M) := by
  unfold mX12_bad_63 mX12_bad_63_J26
  simp (disch := omega) only [Option.bind_some, if_true, if_false, Sum.elim_inl, Sum.elim_inr, li0, li1, li2, li3, li4, li5, li6, li7, li8, li9, li10, li12, li16, li20, li24, li25, li31, li32, li40, li41, li42, li48, li57, li59, li97, li104, li105, li124, li126, li240, li241, nI_add, nI_subc, nI_subm, nI_mulc, nI_nm, pu_r, pu_t, pu_a, pu_le_t, pu_le_f, pu_lt_t, pu_lt_f, pu_eq_t, pu_eq_f, nm_eq, nm_eq2, nm_lt, nm_lt2, nm_le, nm_le2, nm_ss, nm_sp, pu_ss, pu_snq, pu_neq, eq_self, and_true, true_and, and_false, false_and, or_true, true_or, or_false, false_or, not_true_eq_false, not_false_eq_true, h]
theorem r_bad1 {M : me_M} {w k : Nat} (h : M.1 63 0 = nI 0) (hw : 0 < w) (hw2 : w < 100) (hk : k < 3) : mX12_bad_63 M (nI 1) (nI w) (nI k) = some (nI 1, me_s (me_s M 63 0 (nI w)) 64 k (M.1 64 k + nI 1)) := by
  unfold mX12_bad_63 mX12_bad_63_J26
  simp (disch := omega) only [Option.bind_some, if_true, if_false, Sum.elim_inl, Sum.elim_inr, li0, li1, li2, li3, li4, li5, li6, li7, li8, li9, li10, li12, li16, li20, li24, li25, li31, li32, li40, li41, li42, li48, li57, li59, li97, li104, li105, li124, li126, li240, li241, nI_add, nI_subc, nI_subm, nI_mulc, nI_nm, pu_r, pu_t, pu_a, pu_le_t, pu_le_f, pu_lt_t, pu_lt_f, pu_eq_t, pu_eq_f, nm_eq, nm_eq2, nm_lt, nm_lt2, nm_le, nm_le2, nm_ss, nm_sp, pu_ss, pu_snq, pu_neq, eq_self, and_true, true_and, and_false, false_and, or_true, true_or, or_false, false_or, not_true_eq_false, not_false_eq_true, h]
/-- class and reference answer alike, and all stands after it -/
def aQ (h : Option (Int32 × me_M)) (g : me_M → Option (Int32 × me_M)) : Prop := ∃ r M1, h = some (r, M1) ∧ ∃ v M2, g M1 = some (v, M2) ∧ M2.1 63 0 = r ∧ (r = 0 → M2.2.2 0 = v.toInt64) ∧ Inv M2
theorem aQ.en {h : Option (Int32 × me_M)} {g : me_M → Option (Int32 × me_M)} (q : aQ h g) : ∃ M', (h.bind fun (v2, M1) => ((g M1).bind fun (v4, M2) => ((mX12_thrown_63 M2).bind fun v5 => (if v5 = v2 then (if v2 = 0 then (if (lg_cmp (M2.2.2 0) (v4.toInt64)) = 0 then some M2 else none) else some M2) else none)))) = some M' ∧ Inv M' := by
  obtain ⟨r, M1, rfl, v, M2, h2, h3, h4, h5⟩ := q
  refine ⟨M2, ?_, h5⟩
  simp only [Option.bind_some, h2, mX12_thrown_63, h3, if_true]
  by_cases e : r = 0
  · rw [if_pos e, h4 e, lg_self, if_pos rfl]
  · rw [if_neg e]
theorem aQ.ret {h : Option (Int32 × me_M)} {g : me_M → Option (Int32 × me_M)} {v : Int32} {M1 M2 : me_M} (h1 : h = some (0, me_o M1 0 v.toInt64)) (h2 : g (me_o M1 0 v.toInt64) = some (v, M2)) (h3 : M2.1 63 0 = nI 0) (h4 : M2.2 = (me_o M1 0 v.toInt64).2) (h5 : Inv M2) : aQ h g := ⟨_, _, h1, _, _, h2, by rw [h3, nI_0], fun _ => by
  rw [h4]
  show vp_updL M1.2.2 0 v.toInt64 0 = _
  rfl, h5⟩
theorem aQ.thr {h : Option (Int32 × me_M)} {g : me_M → Option (Int32 × me_M)} {z : Int32} {M : me_M} {k w : Nat} (hI : Inv M) (hk : k < 3) (hw : 0 < w) (hw2 : w < 100) (h1 : h = some (nI w, me_s M 0 (13 + k) (M.1 0 (13 + k) + 1))) (h2 : g (me_s M 0 (13 + k) (M.1 0 (13 + k) + 1)) = some (z, me_s (me_s (me_s (me_s M 0 (13 + k) (M.1 0 (13 + k) + 1)) 63 0 (nI 0)) 63 0 (nI w)) 64 k (M.1 64 k + nI 1))) : aQ h g := by
  refine ⟨_, _, h1, _, _, h2, ?_, fun e => ?_, ?_⟩
  · simp (disch := omega) only [Option.bind_some, if_true, if_false, Sum.elim_inl, Sum.elim_inr, li0, li1, li2, li3, li4, li5, li6, li7, li8, li9, li10, li12, li16, li20, li24, li25, li31, li32, li40, li41, li42, li48, li57, li59, li97, li104, li105, li124, li126, li240, li241, nI_add, nI_subc, nI_subm, nI_mulc, nI_nm, pu_r, pu_t, pu_a, pu_le_t, pu_le_f, pu_lt_t, pu_lt_f, pu_eq_t, pu_eq_f, nm_eq, nm_eq2, nm_lt, nm_lt2, nm_le, nm_le2, nm_ss, nm_sp, pu_ss, pu_snq, pu_neq, eq_self, and_true, true_and, and_false, false_and, or_true, true_or, or_false, false_or, not_true_eq_false, not_false_eq_true]
  · rw [li0] at e
    simp (disch := omega) only [Option.bind_some, if_true, if_false, Sum.elim_inl, Sum.elim_inr, li0, li1, li2, li3, li4, li5, li6, li7, li8, li9, li10, li12, li16, li20, li24, li25, li31, li32, li40, li41, li42, li48, li57, li59, li97, li104, li105, li124, li126, li240, li241, nI_add, nI_subc, nI_subm, nI_mulc, nI_nm, pu_r, pu_t, pu_a, pu_le_t, pu_le_f, pu_lt_t, pu_lt_f, pu_eq_t, pu_eq_f, nm_eq, nm_eq2, nm_lt, nm_lt2, nm_le, nm_le2, nm_ss, nm_sp, pu_ss, pu_snq, pu_neq, eq_self, and_true, true_and, and_false, false_and, or_true, true_or, or_false, false_or, not_true_eq_false, not_false_eq_true] at e
  · rw [← li1]
    exact hI.thr hk
theorem xAN : (xA = xN) = False := by decide
theorem xNA : (xN = xA) = False := by decide
theorem xSA : (xS = xA) = False := by decide
theorem dnm {m : Nat} : nI m - nI 1 = dn m := dn_m
