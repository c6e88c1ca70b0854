/-! ===== the 38 calls ===== -/
theorem sv_feed {xs : Nat → Int32} {Lx : Nat} {i : Int32} {M : me_M} {a1 a2 a3 a4 a5 : Int32} (h : Inv M) (h1 : me_sr xs Lx (i + 1) = some a1) (h2 : me_sr xs Lx (i + 2) = some a2) (h3 : me_sr xs Lx (i + 3) = some a3) (h4 : me_sr xs Lx (i + 4) = some a4) (h5 : me_sr xs Lx (i + 5) = some a5) : ∃ M', sg_feed xs Lx i M = some M' ∧ Inv M' := by
  exact s_feed h h1 h2 h3 h4 h5
theorem sv_text {xs : Nat → Int32} {Lx : Nat} {i : Int32} {M : me_M} {a1 a2 a3 a4 a5 : Int32} (h : Inv M) (h1 : me_sr xs Lx (i + 1) = some a1) (h2 : me_sr xs Lx (i + 2) = some a2) (h3 : me_sr xs Lx (i + 3) = some a3) (h4 : me_sr xs Lx (i + 4) = some a4) (h5 : me_sr xs Lx (i + 5) = some a5) : ∃ M', sg_text xs Lx i M = some M' ∧ Inv M' := by
  unfold sg_text
  simp only [h1, Option.bind_some]
  exact (q_text h a1).en
theorem sv_scheme {xs : Nat → Int32} {Lx : Nat} {i : Int32} {M : me_M} {a1 a2 a3 a4 a5 : Int32} (h : Inv M) (h1 : me_sr xs Lx (i + 1) = some a1) (h2 : me_sr xs Lx (i + 2) = some a2) (h3 : me_sr xs Lx (i + 3) = some a3) (h4 : me_sr xs Lx (i + 4) = some a4) (h5 : me_sr xs Lx (i + 5) = some a5) : ∃ M', sg_scheme xs Lx i M = some M' ∧ Inv M' := by
  unfold sg_scheme
  simp only [h1, Option.bind_some]
  exact (q_scheme h a1).en
theorem sv_fault {xs : Nat → Int32} {Lx : Nat} {i : Int32} {M : me_M} {a1 a2 a3 a4 a5 : Int32} (h : Inv M) (h1 : me_sr xs Lx (i + 1) = some a1) (h2 : me_sr xs Lx (i + 2) = some a2) (h3 : me_sr xs Lx (i + 3) = some a3) (h4 : me_sr xs Lx (i + 4) = some a4) (h5 : me_sr xs Lx (i + 5) = some a5) : ∃ M', sg_fault xs Lx i M = some M' ∧ Inv M' := by
  exact s_fault h
theorem sv_step {xs : Nat → Int32} {Lx : Nat} {i : Int32} {M : me_M} {a1 a2 a3 a4 a5 : Int32} (h : Inv M) (h1 : me_sr xs Lx (i + 1) = some a1) (h2 : me_sr xs Lx (i + 2) = some a2) (h3 : me_sr xs Lx (i + 3) = some a3) (h4 : me_sr xs Lx (i + 4) = some a4) (h5 : me_sr xs Lx (i + 5) = some a5) : ∃ M', sg_step xs Lx i M = some M' ∧ Inv M' := by
  unfold sg_step
  simp only [h1, Option.bind_some]
  exact (q_step h a1).en
theorem sv_grow {xs : Nat → Int32} {Lx : Nat} {i : Int32} {M : me_M} {a1 a2 a3 a4 a5 : Int32} (h : Inv M) (h1 : me_sr xs Lx (i + 1) = some a1) (h2 : me_sr xs Lx (i + 2) = some a2) (h3 : me_sr xs Lx (i + 3) = some a3) (h4 : me_sr xs Lx (i + 4) = some a4) (h5 : me_sr xs Lx (i + 5) = some a5) : ∃ M', sg_grow xs Lx i M = some M' ∧ Inv M' := by
  unfold sg_grow
  simp only [h1, h2, Option.bind_some]
  exact (q_grow h a1 a2).en
theorem sv_shrink {xs : Nat → Int32} {Lx : Nat} {i : Int32} {M : me_M} {a1 a2 a3 a4 a5 : Int32} (h : Inv M) (h1 : me_sr xs Lx (i + 1) = some a1) (h2 : me_sr xs Lx (i + 2) = some a2) (h3 : me_sr xs Lx (i + 3) = some a3) (h4 : me_sr xs Lx (i + 4) = some a4) (h5 : me_sr xs Lx (i + 5) = some a5) : ∃ M', sg_shrink xs Lx i M = some M' ∧ Inv M' := by
  exact s_shrink h
theorem sv_clear {xs : Nat → Int32} {Lx : Nat} {i : Int32} {M : me_M} {a1 a2 a3 a4 a5 : Int32} (h : Inv M) (h1 : me_sr xs Lx (i + 1) = some a1) (h2 : me_sr xs Lx (i + 2) = some a2) (h3 : me_sr xs Lx (i + 3) = some a3) (h4 : me_sr xs Lx (i + 4) = some a4) (h5 : me_sr xs Lx (i + 5) = some a5) : ∃ M', sg_clear xs Lx i M = some M' ∧ Inv M' := by
  exact s_clear h
theorem sv_told {xs : Nat → Int32} {Lx : Nat} {i : Int32} {M : me_M} {a1 a2 a3 a4 a5 : Int32} (h : Inv M) (h1 : me_sr xs Lx (i + 1) = some a1) (h2 : me_sr xs Lx (i + 2) = some a2) (h3 : me_sr xs Lx (i + 3) = some a3) (h4 : me_sr xs Lx (i + 4) = some a4) (h5 : me_sr xs Lx (i + 5) = some a5) : ∃ M', sg_told xs Lx i M = some M' ∧ Inv M' := by
  unfold sg_told
  simp only [h1, Option.bind_some]
  exact (q_told h a1).en
theorem sv_sign {xs : Nat → Int32} {Lx : Nat} {i : Int32} {M : me_M} {a1 a2 a3 a4 a5 : Int32} (h : Inv M) (h1 : me_sr xs Lx (i + 1) = some a1) (h2 : me_sr xs Lx (i + 2) = some a2) (h3 : me_sr xs Lx (i + 3) = some a3) (h4 : me_sr xs Lx (i + 4) = some a4) (h5 : me_sr xs Lx (i + 5) = some a5) : ∃ M', sg_sign xs Lx i M = some M' ∧ Inv M' := by
  unfold sg_sign
  simp only [h1, Option.bind_some]
  exact (q_sign h a1).en
theorem sv_row {xs : Nat → Int32} {Lx : Nat} {i : Int32} {M : me_M} {a1 a2 a3 a4 a5 : Int32} (h : Inv M) (h1 : me_sr xs Lx (i + 1) = some a1) (h2 : me_sr xs Lx (i + 2) = some a2) (h3 : me_sr xs Lx (i + 3) = some a3) (h4 : me_sr xs Lx (i + 4) = some a4) (h5 : me_sr xs Lx (i + 5) = some a5) : ∃ M', sg_row xs Lx i M = some M' ∧ Inv M' := by
  unfold sg_row
  simp only [h1, h2, h3, Option.bind_some]
  exact (q_row h a1 a2 a3).en
theorem sv_rowOf {xs : Nat → Int32} {Lx : Nat} {i : Int32} {M : me_M} {a1 a2 a3 a4 a5 : Int32} (h : Inv M) (h1 : me_sr xs Lx (i + 1) = some a1) (h2 : me_sr xs Lx (i + 2) = some a2) (h3 : me_sr xs Lx (i + 3) = some a3) (h4 : me_sr xs Lx (i + 4) = some a4) (h5 : me_sr xs Lx (i + 5) = some a5) : ∃ M', sg_rowOf xs Lx i M = some M' ∧ Inv M' := by
  unfold sg_rowOf
  simp only [h1, h2, Option.bind_some]
  exact (q_rowOf h a1 a2).en
theorem sv_count {xs : Nat → Int32} {Lx : Nat} {i : Int32} {M : me_M} {a1 a2 a3 a4 a5 : Int32} (h : Inv M) (h1 : me_sr xs Lx (i + 1) = some a1) (h2 : me_sr xs Lx (i + 2) = some a2) (h3 : me_sr xs Lx (i + 3) = some a3) (h4 : me_sr xs Lx (i + 4) = some a4) (h5 : me_sr xs Lx (i + 5) = some a5) : ∃ M', sg_count xs Lx i M = some M' ∧ Inv M' := by
  unfold sg_count
  simp only [h1, h2, h3, Option.bind_some]
  exact (q_count h a1 a2 a3).en
theorem sv_letter {xs : Nat → Int32} {Lx : Nat} {i : Int32} {M : me_M} {a1 a2 a3 a4 a5 : Int32} (h : Inv M) (h1 : me_sr xs Lx (i + 1) = some a1) (h2 : me_sr xs Lx (i + 2) = some a2) (h3 : me_sr xs Lx (i + 3) = some a3) (h4 : me_sr xs Lx (i + 4) = some a4) (h5 : me_sr xs Lx (i + 5) = some a5) : ∃ M', sg_letter xs Lx i M = some M' ∧ Inv M' := by
  unfold sg_letter
  simp only [h1, Option.bind_some]
  exact (q_letter h a1).en
theorem sv_grows {xs : Nat → Int32} {Lx : Nat} {i : Int32} {M : me_M} {a1 a2 a3 a4 a5 : Int32} (h : Inv M) (h1 : me_sr xs Lx (i + 1) = some a1) (h2 : me_sr xs Lx (i + 2) = some a2) (h3 : me_sr xs Lx (i + 3) = some a3) (h4 : me_sr xs Lx (i + 4) = some a4) (h5 : me_sr xs Lx (i + 5) = some a5) : ∃ M', sg_grows xs Lx i M = some M' ∧ Inv M' := by
  unfold sg_grows
  simp only [h1, Option.bind_some]
  exact (q_grows h a1).en
theorem sv_hit {xs : Nat → Int32} {Lx : Nat} {i : Int32} {M : me_M} {a1 a2 a3 a4 a5 : Int32} (h : Inv M) (h1 : me_sr xs Lx (i + 1) = some a1) (h2 : me_sr xs Lx (i + 2) = some a2) (h3 : me_sr xs Lx (i + 3) = some a3) (h4 : me_sr xs Lx (i + 4) = some a4) (h5 : me_sr xs Lx (i + 5) = some a5) : ∃ M', sg_hit xs Lx i M = some M' ∧ Inv M' := by
  unfold sg_hit
  simp only [h1, h2, Option.bind_some]
  exact (q_hit h a1 a2).en
theorem sv_hits {xs : Nat → Int32} {Lx : Nat} {i : Int32} {M : me_M} {a1 a2 a3 a4 a5 : Int32} (h : Inv M) (h1 : me_sr xs Lx (i + 1) = some a1) (h2 : me_sr xs Lx (i + 2) = some a2) (h3 : me_sr xs Lx (i + 3) = some a3) (h4 : me_sr xs Lx (i + 4) = some a4) (h5 : me_sr xs Lx (i + 5) = some a5) : ∃ M', sg_hits xs Lx i M = some M' ∧ Inv M' := by
  unfold sg_hits
  simp only [h1, Option.bind_some]
  exact (q_hits h a1).en
theorem sv_often {xs : Nat → Int32} {Lx : Nat} {i : Int32} {M : me_M} {a1 a2 a3 a4 a5 : Int32} (h : Inv M) (h1 : me_sr xs Lx (i + 1) = some a1) (h2 : me_sr xs Lx (i + 2) = some a2) (h3 : me_sr xs Lx (i + 3) = some a3) (h4 : me_sr xs Lx (i + 4) = some a4) (h5 : me_sr xs Lx (i + 5) = some a5) : ∃ M', sg_often xs Lx i M = some M' ∧ Inv M' := by
  unfold sg_often
  simp only [h1, Option.bind_some]
  exact (q_often h a1).en
theorem sv_shares {xs : Nat → Int32} {Lx : Nat} {i : Int32} {M : me_M} {a1 a2 a3 a4 a5 : Int32} (h : Inv M) (h1 : me_sr xs Lx (i + 1) = some a1) (h2 : me_sr xs Lx (i + 2) = some a2) (h3 : me_sr xs Lx (i + 3) = some a3) (h4 : me_sr xs Lx (i + 4) = some a4) (h5 : me_sr xs Lx (i + 5) = some a5) : ∃ M', sg_shares xs Lx i M = some M' ∧ Inv M' := by
  unfold sg_shares
  simp only [h1, Option.bind_some]
  exact (q_shares h a1).en
theorem sv_sound {xs : Nat → Int32} {Lx : Nat} {i : Int32} {M : me_M} {a1 a2 a3 a4 a5 : Int32} (h : Inv M) (h1 : me_sr xs Lx (i + 1) = some a1) (h2 : me_sr xs Lx (i + 2) = some a2) (h3 : me_sr xs Lx (i + 3) = some a3) (h4 : me_sr xs Lx (i + 4) = some a4) (h5 : me_sr xs Lx (i + 5) = some a5) : ∃ M', sg_sound xs Lx i M = some M' ∧ Inv M' := by
  exact s_sound h
theorem sv_needless {xs : Nat → Int32} {Lx : Nat} {i : Int32} {M : me_M} {a1 a2 a3 a4 a5 : Int32} (h : Inv M) (h1 : me_sr xs Lx (i + 1) = some a1) (h2 : me_sr xs Lx (i + 2) = some a2) (h3 : me_sr xs Lx (i + 3) = some a3) (h4 : me_sr xs Lx (i + 4) = some a4) (h5 : me_sr xs Lx (i + 5) = some a5) : ∃ M', sg_needless xs Lx i M = some M' ∧ Inv M' := by
  exact s_needless h
theorem sv_digit {xs : Nat → Int32} {Lx : Nat} {i : Int32} {M : me_M} {a1 a2 a3 a4 a5 : Int32} (h : Inv M) (h1 : me_sr xs Lx (i + 1) = some a1) (h2 : me_sr xs Lx (i + 2) = some a2) (h3 : me_sr xs Lx (i + 3) = some a3) (h4 : me_sr xs Lx (i + 4) = some a4) (h5 : me_sr xs Lx (i + 5) = some a5) : ∃ M', sg_digit xs Lx i M = some M' ∧ Inv M' := by
  unfold sg_digit
  simp only [h1, h2, h3, Option.bind_some]
  exact (q_digit h a1 a2 a3).en
theorem sv_search {xs : Nat → Int32} {Lx : Nat} {i : Int32} {M : me_M} {a1 a2 a3 a4 a5 : Int32} (h : Inv M) (h1 : me_sr xs Lx (i + 1) = some a1) (h2 : me_sr xs Lx (i + 2) = some a2) (h3 : me_sr xs Lx (i + 3) = some a3) (h4 : me_sr xs Lx (i + 4) = some a4) (h5 : me_sr xs Lx (i + 5) = some a5) : ∃ M', sg_search xs Lx i M = some M' ∧ Inv M' := by
  unfold sg_search
  simp only [h1, Option.bind_some]
  exact (q_search h a1).en
theorem sv_found {xs : Nat → Int32} {Lx : Nat} {i : Int32} {M : me_M} {a1 a2 a3 a4 a5 : Int32} (h : Inv M) (h1 : me_sr xs Lx (i + 1) = some a1) (h2 : me_sr xs Lx (i + 2) = some a2) (h3 : me_sr xs Lx (i + 3) = some a3) (h4 : me_sr xs Lx (i + 4) = some a4) (h5 : me_sr xs Lx (i + 5) = some a5) : ∃ M', sg_found xs Lx i M = some M' ∧ Inv M' := by
  unfold sg_found
  simp only [h1, h2, Option.bind_some]
  exact (q_found h a1 a2).en
theorem sv_result {xs : Nat → Int32} {Lx : Nat} {i : Int32} {M : me_M} {a1 a2 a3 a4 a5 : Int32} (h : Inv M) (h1 : me_sr xs Lx (i + 1) = some a1) (h2 : me_sr xs Lx (i + 2) = some a2) (h3 : me_sr xs Lx (i + 3) = some a3) (h4 : me_sr xs Lx (i + 4) = some a4) (h5 : me_sr xs Lx (i + 5) = some a5) : ∃ M', sg_result xs Lx i M = some M' ∧ Inv M' := by
  unfold sg_result
  simp only [h1, Option.bind_some]
  exact (q_result h a1).en
theorem sv_ran {xs : Nat → Int32} {Lx : Nat} {i : Int32} {M : me_M} {a1 a2 a3 a4 a5 : Int32} (h : Inv M) (h1 : me_sr xs Lx (i + 1) = some a1) (h2 : me_sr xs Lx (i + 2) = some a2) (h3 : me_sr xs Lx (i + 3) = some a3) (h4 : me_sr xs Lx (i + 4) = some a4) (h5 : me_sr xs Lx (i + 5) = some a5) : ∃ M', sg_ran xs Lx i M = some M' ∧ Inv M' := by
  unfold sg_ran
  simp only [h1, h2, Option.bind_some]
  exact (q_ran h a1 a2).en
theorem sv_matches {xs : Nat → Int32} {Lx : Nat} {i : Int32} {M : me_M} {a1 a2 a3 a4 a5 : Int32} (h : Inv M) (h1 : me_sr xs Lx (i + 1) = some a1) (h2 : me_sr xs Lx (i + 2) = some a2) (h3 : me_sr xs Lx (i + 3) = some a3) (h4 : me_sr xs Lx (i + 4) = some a4) (h5 : me_sr xs Lx (i + 5) = some a5) : ∃ M', sg_matches xs Lx i M = some M' ∧ Inv M' := by
  unfold sg_matches
  simp only [h1, h2, Option.bind_some]
  exact (q_matches h a1 a2).en
theorem sv_match {xs : Nat → Int32} {Lx : Nat} {i : Int32} {M : me_M} {a1 a2 a3 a4 a5 : Int32} (h : Inv M) (h1 : me_sr xs Lx (i + 1) = some a1) (h2 : me_sr xs Lx (i + 2) = some a2) (h3 : me_sr xs Lx (i + 3) = some a3) (h4 : me_sr xs Lx (i + 4) = some a4) (h5 : me_sr xs Lx (i + 5) = some a5) : ∃ M', sg_match xs Lx i M = some M' ∧ Inv M' := by
  unfold sg_match
  simp only [h1, h2, Option.bind_some]
  exact (q_match h a1 a2).en
theorem sv_maximals {xs : Nat → Int32} {Lx : Nat} {i : Int32} {M : me_M} {a1 a2 a3 a4 a5 : Int32} (h : Inv M) (h1 : me_sr xs Lx (i + 1) = some a1) (h2 : me_sr xs Lx (i + 2) = some a2) (h3 : me_sr xs Lx (i + 3) = some a3) (h4 : me_sr xs Lx (i + 4) = some a4) (h5 : me_sr xs Lx (i + 5) = some a5) : ∃ M', sg_maximals xs Lx i M = some M' ∧ Inv M' := by
  unfold sg_maximals
  simp only [h1, h2, Option.bind_some]
  exact (q_maximals h a1 a2).en
theorem sv_maximal {xs : Nat → Int32} {Lx : Nat} {i : Int32} {M : me_M} {a1 a2 a3 a4 a5 : Int32} (h : Inv M) (h1 : me_sr xs Lx (i + 1) = some a1) (h2 : me_sr xs Lx (i + 2) = some a2) (h3 : me_sr xs Lx (i + 3) = some a3) (h4 : me_sr xs Lx (i + 4) = some a4) (h5 : me_sr xs Lx (i + 5) = some a5) : ∃ M', sg_maximal xs Lx i M = some M' ∧ Inv M' := by
  unfold sg_maximal
  simp only [h1, h2, h3, h4, Option.bind_some]
  exact (q_maximal h a1 a2 a3 a4).en
theorem sv_strings {xs : Nat → Int32} {Lx : Nat} {i : Int32} {M : me_M} {a1 a2 a3 a4 a5 : Int32} (h : Inv M) (h1 : me_sr xs Lx (i + 1) = some a1) (h2 : me_sr xs Lx (i + 2) = some a2) (h3 : me_sr xs Lx (i + 3) = some a3) (h4 : me_sr xs Lx (i + 4) = some a4) (h5 : me_sr xs Lx (i + 5) = some a5) : ∃ M', sg_strings xs Lx i M = some M' ∧ Inv M' := by
  unfold sg_strings
  simp only [h1, Option.bind_some]
  exact (q_strings h a1).en
theorem sv_repeat {xs : Nat → Int32} {Lx : Nat} {i : Int32} {M : me_M} {a1 a2 a3 a4 a5 : Int32} (h : Inv M) (h1 : me_sr xs Lx (i + 1) = some a1) (h2 : me_sr xs Lx (i + 2) = some a2) (h3 : me_sr xs Lx (i + 3) = some a3) (h4 : me_sr xs Lx (i + 4) = some a4) (h5 : me_sr xs Lx (i + 5) = some a5) : ∃ M', sg_repeat xs Lx i M = some M' ∧ Inv M' := by
  unfold sg_repeat
  simp only [h1, Option.bind_some]
  exact (q_repeat h a1).en
theorem sv_unique {xs : Nat → Int32} {Lx : Nat} {i : Int32} {M : me_M} {a1 a2 a3 a4 a5 : Int32} (h : Inv M) (h1 : me_sr xs Lx (i + 1) = some a1) (h2 : me_sr xs Lx (i + 2) = some a2) (h3 : me_sr xs Lx (i + 3) = some a3) (h4 : me_sr xs Lx (i + 4) = some a4) (h5 : me_sr xs Lx (i + 5) = some a5) : ∃ M', sg_unique xs Lx i M = some M' ∧ Inv M' := by
  unfold sg_unique
  simp only [h1, Option.bind_some]
  exact (q_unique h a1).en
theorem sv_around {xs : Nat → Int32} {Lx : Nat} {i : Int32} {M : me_M} {a1 a2 a3 a4 a5 : Int32} (h : Inv M) (h1 : me_sr xs Lx (i + 1) = some a1) (h2 : me_sr xs Lx (i + 2) = some a2) (h3 : me_sr xs Lx (i + 3) = some a3) (h4 : me_sr xs Lx (i + 4) = some a4) (h5 : me_sr xs Lx (i + 5) = some a5) : ∃ M', sg_around xs Lx i M = some M' ∧ Inv M' := by
  unfold sg_around
  simp only [h1, h2, Option.bind_some]
  exact (q_around h a1 a2).en
theorem sv_common {xs : Nat → Int32} {Lx : Nat} {i : Int32} {M : me_M} {a1 a2 a3 a4 a5 : Int32} (h : Inv M) (h1 : me_sr xs Lx (i + 1) = some a1) (h2 : me_sr xs Lx (i + 2) = some a2) (h3 : me_sr xs Lx (i + 3) = some a3) (h4 : me_sr xs Lx (i + 4) = some a4) (h5 : me_sr xs Lx (i + 5) = some a5) : ∃ M', sg_common xs Lx i M = some M' ∧ Inv M' := by
  unfold sg_common
  simp only [h1, Option.bind_some]
  exact (q_common h a1).en
theorem sv_document {xs : Nat → Int32} {Lx : Nat} {i : Int32} {M : me_M} {a1 a2 a3 a4 a5 : Int32} (h : Inv M) (h1 : me_sr xs Lx (i + 1) = some a1) (h2 : me_sr xs Lx (i + 2) = some a2) (h3 : me_sr xs Lx (i + 3) = some a3) (h4 : me_sr xs Lx (i + 4) = some a4) (h5 : me_sr xs Lx (i + 5) = some a5) : ∃ M', sg_document xs Lx i M = some M' ∧ Inv M' := by
  unfold sg_document
  simp only [h1, h2, Option.bind_some]
  exact (q_document h a1 a2).en
theorem sv_print {xs : Nat → Int32} {Lx : Nat} {i : Int32} {M : me_M} {a1 a2 a3 a4 a5 : Int32} (h : Inv M) (h1 : me_sr xs Lx (i + 1) = some a1) (h2 : me_sr xs Lx (i + 2) = some a2) (h3 : me_sr xs Lx (i + 3) = some a3) (h4 : me_sr xs Lx (i + 4) = some a4) (h5 : me_sr xs Lx (i + 5) = some a5) : ∃ M', sg_print xs Lx i M = some M' ∧ Inv M' := by
  unfold sg_print
  simp only [h1, Option.bind_some]
  exact (q_print h a1).en
theorem sv_status {xs : Nat → Int32} {Lx : Nat} {i : Int32} {M : me_M} {a1 a2 a3 a4 a5 : Int32} (h : Inv M) (h1 : me_sr xs Lx (i + 1) = some a1) (h2 : me_sr xs Lx (i + 2) = some a2) (h3 : me_sr xs Lx (i + 3) = some a3) (h4 : me_sr xs Lx (i + 4) = some a4) (h5 : me_sr xs Lx (i + 5) = some a5) : ∃ M', sg_status xs Lx i M = some M' ∧ Inv M' := by
  exact s_status h h1
