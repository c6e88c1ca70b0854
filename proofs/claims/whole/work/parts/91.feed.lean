/-! ===== calls: feed, text ===== -/
/-! bits of an int: out of the kit's rows on bits, renamed -/
def bq (x : Int32) (i : Nat) : Bool := x.toBitVec.getLsbD i
theorem bq_ext {x y : Int32} (h : ∀ i, i < 32 → bq x i = bq y i) : x = y := Int32.toBitVec_inj.mp (BitVec.eq_of_getLsbD_eq (fun i hi => h i hi))
theorem bq_and (x y : Int32) (i : Nat) : bq (x &&& y) i = (bq x i && bq y i) := by unfold bq; rw [Int32.toBitVec_and, BitVec.getLsbD_and]
theorem bq_255 : ∀ i, i < 32 → bq 255 i = decide (i < 8) := by decide +kernel
theorem bq_sl : ∀ n, n < 32 → ((nI n &&& 31).toBitVec.smod 32).toNat = n := by decide +kernel
theorem bq_su : ∀ n, n < 32 → (((nI n).toUInt32 &&& Int32.toUInt32 31).toBitVec % 32).toNat = n := by decide +kernel
theorem bq_ushr (n : Nat) (hn : n < 32) (x : Int32) (i : Nat) : bq ((x.toUInt32 >>> ((nI n).toUInt32 &&& Int32.toUInt32 31)).toInt32) i = bq x (n + i) := by
  show (x.toUInt32 >>> ((nI n).toUInt32 &&& Int32.toUInt32 31)).toBitVec.getLsbD i = x.toUInt32.toBitVec.getLsbD (n + i)
  rw [UInt32.toBitVec_shiftRight]
  show (x.toUInt32.toBitVec >>> (((nI n).toUInt32 &&& Int32.toUInt32 31).toBitVec % 32).toNat).getLsbD i = _
  rw [bq_su n hn, BitVec.getLsbD_ushiftRight]
theorem bq_sshr (n : Nat) (hn : n < 32) (x : Int32) {i : Nat} (hi : i < 32) : bq (x >>> (nI n &&& 31)) i = if n + i < 32 then bq x (n + i) else bq x 31 := by
  unfold bq
  rw [Int32.toBitVec_shiftRight]
  show (x.toBitVec.sshiftRight ((nI n &&& 31).toBitVec.smod 32).toNat).getLsbD i = _
  rw [bq_sl n hn, BitVec.getLsbD_sshiftRight, BitVec.msb_eq_getLsbD_last]
  simp [hi]
/-- a byte, by either shift -/
theorem by_same (n : Nat) (hn : n ≤ 24) (x : Int32) : (x.toUInt32 >>> ((nI n).toUInt32 &&& Int32.toUInt32 31)).toInt32 &&& 255 = (x >>> (nI n &&& 31)) &&& 255 := bq_ext (fun i hi => by
  rw [bq_and, bq_and, bq_ushr n (by omega), bq_sshr n (by omega) x hi, bq_255 i hi]
  by_cases c : i < 8
  · rw [if_pos (by omega)]
  · rw [decide_eq_false c, Bool.and_false, Bool.and_false])
theorem by_255 (y : Int32) : ∃ b, b < 256 ∧ y &&& 255 = nI b := by
  refine ⟨(y &&& 255).toBitVec.toNat, ?_, ?_⟩
  · rw [Int32.toBitVec_and, BitVec.toNat_and]
    exact Nat.lt_of_le_of_lt Nat.and_le_right (by decide +kernel)
  · apply Int32.toBitVec_inj.mp
    show _ = BitVec.ofNat 32 _
    rw [BitVec.ofNat_toNat]
    simp
noncomputable def bB (p : Int32) (y : Nat) : Nat := Classical.choose (by_255 (p >>> (nI (24 - 8 * y) &&& 31)))
theorem bB_ok (p : Int32) (y : Nat) : bB p y < 256 ∧ (p >>> (nI (24 - 8 * y) &&& 31)) &&& 255 = nI (bB p y) := Classical.choose_spec (by_255 (p >>> (nI (24 - 8 * y) &&& 31)))
theorem bB_u (p : Int32) (y : Nat) : (p.toUInt32 >>> ((nI (24 - 8 * y)).toUInt32 &&& Int32.toUInt32 31)).toInt32 &&& 255 = nI (bB p y) := by
  rw [by_same _ (by omega)]; exact (bB_ok p y).2
def sh9 (y : Nat) : Int32 := if y < 4 then nI (24 - 8 * y) else -nI 8
theorem sh9_s : ∀ y, y < 4 → sh9 y + -nI 8 = sh9 (y + 1) := by decide +kernel
theorem li255 : (255 : Int32) = nI 255 := by decide
theorem c_put {t : Nat} {p : Int32} {M : me_M} (ht : t + 4 ≤ 240) (h1 : M.1 1 1 = nI t) : ∃ M', mX9_put_1 M p = some M' ∧ fr (fun b k => (b = 1 ∧ k = 1) ∨ (b = 2 ∧ t ≤ k)) M M' ∧ M'.1 1 1 = nI (t + 4) ∧ ∀ j, j < 4 → M'.1 2 (t + j) = nI (bB p j) := by
  obtain ⟨r, e, hr⟩ := lp_up (b := mX9_put_1_L3 p) (fun y s => ∃ Mx, s = (sh9 y, Mx) ∧ fr (fun b k => (b = 1 ∧ k = 1) ∨ (b = 2 ∧ t ≤ k)) M Mx ∧ Mx.1 1 1 = nI (t + y) ∧ ∀ j, j < y → Mx.1 2 (t + j) = nI (bB p j)) (fun r => fr (fun b k => (b = 1 ∧ k = 1) ∨ (b = 2 ∧ t ≤ k)) M r ∧ r.1 1 1 = nI (t + 4) ∧ ∀ j, j < 4 → r.1 2 (t + j) = nI (bB p j)) (a := 0) (N := 4) (by omega) (by omega) (fun y s _ hy hs => by
    obtain ⟨Mx, rfl, hf, h11, hI⟩ := hs
    left
    have es : sh9 y = nI (24 - 8 * y) := if_pos hy
    refine ⟨(sh9 (y + 1), me_s (me_s Mx 2 (t + y) (nI (bB p y))) 1 1 (nI (t + y + 1))), ?_, _, rfl, (hf.st (by omega)).st (by omega), by rw [pu_ss]; rfl, fun j hj => ?_⟩
    · simp only [mX9_put_1_L3, mX9_put_1_J45]
      rw [es, bB_u, ← sh9_s y hy, es]
      simp (disch := omega) only [Option.bind_some, if_true, if_false, Sum.elim_inl, Sum.elim_inr, li0, li1, li2, li3, li4, li5, li6, li7, li8, li9, li10, li12, li16, li20, li24, li25, li31, li32, li40, li41, li42, li48, li57, li59, li97, li104, li105, li124, li126, li240, li241, nI_add, nI_subc, nI_subm, nI_mulc, nI_nm, pu_r, pu_t, pu_a, pu_le_t, pu_le_f, pu_lt_t, pu_lt_f, pu_eq_t, pu_eq_f, nm_eq, nm_eq2, nm_lt, nm_lt2, nm_le, nm_le2, nm_ss, nm_sp, pu_ss, pu_snq, pu_neq, eq_self, and_true, true_and, and_false, false_and, or_true, true_or, or_false, false_or, not_true_eq_false, not_false_eq_true, h11]
    · rw [me_s_ne (by decide)]
      by_cases c : j = y
      · rw [c, pu_ss]
      · rw [pu_sn (by omega)]; exact hI j (by omega)) (fun s hs => by
    obtain ⟨Mx, rfl, hf, h11, hI⟩ := hs
    refine ⟨Mx, ?_, hf, h11, hI⟩
    simp only [mX9_put_1_L3]
    rw [if_pos (show sh9 4 < 0 by decide +kernel)]) (s0 := (nI 24, M)) ⟨M, rfl, fr.rf, h1, fun j hj => absurd hj (Nat.not_lt_zero _)⟩
  refine ⟨r, ?_, hr⟩
  unfold mX9_put_1
  simp (disch := omega) only [Option.bind_some, if_true, if_false, Sum.elim_inl, Sum.elim_inr, li0, li1, li2, li3, li4, li5, li6, li7, li8, li9, li10, li12, li16, li20, li24, li25, li31, li32, li40, li41, li42, li48, li57, li59, li97, li104, li105, li124, li126, li240, li241, nI_add, nI_subc, nI_subm, nI_mulc, nI_nm, pu_r, pu_t, pu_a, pu_le_t, pu_le_f, pu_lt_t, pu_lt_f, pu_eq_t, pu_eq_f, nm_eq, nm_eq2, nm_lt, nm_lt2, nm_le, nm_le2, nm_ss, nm_sp, pu_ss, pu_snq, pu_neq, eq_self, and_true, true_and, and_false, false_and, or_true, true_or, or_false, false_or, not_true_eq_false, not_false_eq_true, e]
def aG (p0 p1 p2 p3 p4 : Int32) (i : Nat) : Int32 := if i < 4 then p0 else if i < 8 then p1 else if i < 12 then p2 else if i < 16 then p3 else p4
noncomputable def gB (p0 p1 p2 p3 p4 : Int32) (i : Nat) : Nat := bB (aG p0 p1 p2 p3 p4 i) (i % 4)
theorem c_feed {t : Nat} {p0 p1 p2 p3 p4 : Int32} {M : me_M} (ht : t + 20 ≤ 240) (h1 : M.1 1 1 = nI t) : ∃ M', mX11_feed_0 M p0 p1 p2 p3 p4 = some (nI (t + 20), M') ∧ fr (fun b k => (b = 1 ∧ k = 1) ∨ (b = 2 ∧ t ≤ k)) M M' ∧ M'.1 1 1 = nI (t + 20) ∧ ∀ j, j < 20 → M'.1 2 (t + j) = nI (gB p0 p1 p2 p3 p4 j) := by
  obtain ⟨M1, e1, f1, g1, k1⟩ := c_put (t := t) (p := p0) (by omega) h1
  obtain ⟨M2, e2, f2, g2, k2⟩ := c_put (t := t + 4) (p := p1) (by omega) g1
  obtain ⟨M3, e3, f3, g3, k3⟩ := c_put (t := t + 4 + 4) (p := p2) (by omega) g2
  obtain ⟨M4, e4, f4, g4, k4⟩ := c_put (t := t + 4 + 4 + 4) (p := p3) (by omega) g3
  obtain ⟨M5, e5, f5, g5, k5⟩ := c_put (t := t + 4 + 4 + 4 + 4) (p := p4) (by omega) g4
  refine ⟨M5, ?_, f1.tr ((f2.up (fun b k h => by omega)).tr ((f3.up (fun b k h => by omega)).tr ((f4.up (fun b k h => by omega)).tr (f5.up (fun b k h => by omega))))), g5, fun j hj => ?_⟩
  · unfold mX11_feed_0
    simp (disch := omega) only [Option.bind_some, if_true, if_false, Sum.elim_inl, Sum.elim_inr, li0, li1, li2, li3, li4, li5, li6, li7, li8, li9, li10, li12, li16, li20, li24, li25, li31, li32, li40, li41, li42, li48, li57, li59, li97, li104, li105, li124, li126, li240, li241, nI_add, nI_subc, nI_subm, nI_mulc, nI_nm, pu_r, pu_t, pu_a, pu_le_t, pu_le_f, pu_lt_t, pu_lt_f, pu_eq_t, pu_eq_f, nm_eq, nm_eq2, nm_lt, nm_lt2, nm_le, nm_le2, nm_ss, nm_sp, pu_ss, pu_snq, pu_neq, eq_self, and_true, true_and, and_false, false_and, or_true, true_or, or_false, false_or, not_true_eq_false, not_false_eq_true, h1, e1, e2, e3, e4, e5, g5]
  · unfold gB aG
    by_cases c1 : j < 4
    · rw [if_pos c1, f5.2 _ _ (by omega), f4.2 _ _ (by omega), f3.2 _ _ (by omega), f2.2 _ _ (by omega), k1 j c1, show j % 4 = j by omega]
    · rw [if_neg c1]
      by_cases c2 : j < 8
      · rw [if_pos c2, f5.2 _ _ (by omega), f4.2 _ _ (by omega), f3.2 _ _ (by omega), show t + j = t + 4 + (j - 4) by omega, k2 (j - 4) (by omega), show j % 4 = j - 4 by omega]
      · rw [if_neg c2]
        by_cases c3 : j < 12
        · rw [if_pos c3, f5.2 _ _ (by omega), f4.2 _ _ (by omega), show t + j = t + 4 + 4 + (j - 8) by omega, k3 (j - 8) (by omega), show j % 4 = j - 8 by omega]
        · rw [if_neg c3]
          by_cases c4 : j < 16
          · rw [if_pos c4, f5.2 _ _ (by omega), show t + j = t + 4 + 4 + 4 + (j - 12) by omega, k4 (j - 12) (by omega), show j % 4 = j - 12 by omega]
          · rw [if_neg c4, show t + j = t + 4 + 4 + 4 + 4 + (j - 16) by omega, k5 (j - 16) (by omega), show j % 4 = j - 16 by omega]
theorem r_feed {t : Nat} {p0 p1 p2 p3 p4 : Int32} {M : me_M} (ht : t + 20 ≤ 240) (h1 : M.1 63 2 = nI t) : ∃ M', me_l (mX12_feed_63_L23 p0 p1 p2 p3 p4) me_fu (nI 0, M) = some M' ∧ fr (fun b k => (b = 63 ∧ k = 2) ∨ (b = 65 ∧ t ≤ k)) M M' ∧ M'.1 63 2 = nI (t + 20) ∧ ∀ j, j < 20 → M'.1 65 (t + j) = nI (gB p0 p1 p2 p3 p4 j) := by
  obtain ⟨r, e, hr⟩ := lp_up (b := mX12_feed_63_L23 p0 p1 p2 p3 p4) (fun x s => ∃ Mx, s = (nI x, Mx) ∧ fr (fun b k => (b = 63 ∧ k = 2) ∨ (b = 65 ∧ t ≤ k)) M Mx ∧ Mx.1 63 2 = nI (t + x) ∧ ∀ j, j < x → Mx.1 65 (t + j) = nI (gB p0 p1 p2 p3 p4 j)) (fun r => fr (fun b k => (b = 63 ∧ k = 2) ∨ (b = 65 ∧ t ≤ k)) M r ∧ r.1 63 2 = nI (t + 20) ∧ ∀ j, j < 20 → r.1 65 (t + j) = nI (gB p0 p1 p2 p3 p4 j)) (a := 0) (N := 20) (by omega) (by omega) (fun x s _ hx hs => by
    obtain ⟨Mx, rfl, hf, h11, hI⟩ := hs
    left
    have hj76 : mX12_feed_63_J76 p0 p1 p2 p3 p4 (nI x) Mx (aG p0 p1 p2 p3 p4 x) = some (.inl (nI (x + 1), me_s (me_s Mx 65 (t + x) (nI (gB p0 p1 p2 p3 p4 x))) 63 2 (nI (t + x + 1)))) := by
      have hb := (bB_ok (aG p0 p1 p2 p3 p4 x) (x % 4)).2
      rw [li255, li31] at hb
      simp only [mX12_feed_63_J76]
      unfold gB
      simp (disch := omega) only [Option.bind_some, if_true, if_false, Sum.elim_inl, Sum.elim_inr, li0, li1, li2, li3, li4, li5, li6, li7, li8, li9, li10, li12, li16, li20, li24, li25, li31, li32, li40, li41, li42, li48, li57, li59, li97, li104, li105, li124, li126, li240, li241, nI_add, nI_subc, nI_subm, nI_mulc, nI_nm, pu_r, pu_t, pu_a, pu_le_t, pu_le_f, pu_lt_t, pu_lt_f, pu_eq_t, pu_eq_f, nm_eq, nm_eq2, nm_lt, nm_lt2, nm_le, nm_le2, nm_ss, nm_sp, pu_ss, pu_snq, pu_neq, eq_self, and_true, true_and, and_false, false_and, or_true, true_or, or_false, false_or, not_true_eq_false, not_false_eq_true, pu_md, h11, li255, hb]
    refine ⟨(nI (x + 1), me_s (me_s Mx 65 (t + x) (nI (gB p0 p1 p2 p3 p4 x))) 63 2 (nI (t + x + 1))), ?_, _, rfl, (hf.st (by omega)).st (by omega), by rw [pu_ss]; rfl, fun j hj => ?_⟩
    · simp only [mX12_feed_63_L23]
      unfold aG at hj76
      by_cases c1 : x < 4
      · rw [if_pos c1] at hj76
        simp (disch := omega) only [Option.bind_some, if_true, if_false, Sum.elim_inl, Sum.elim_inr, li0, li1, li2, li3, li4, li5, li6, li7, li8, li9, li10, li12, li16, li20, li24, li25, li31, li32, li40, li41, li42, li48, li57, li59, li97, li104, li105, li124, li126, li240, li241, nI_add, nI_subc, nI_subm, nI_mulc, nI_nm, pu_r, pu_t, pu_a, pu_le_t, pu_le_f, pu_lt_t, pu_lt_f, pu_eq_t, pu_eq_f, nm_eq, nm_eq2, nm_lt, nm_lt2, nm_le, nm_le2, nm_ss, nm_sp, pu_ss, pu_snq, pu_neq, eq_self, and_true, true_and, and_false, false_and, or_true, true_or, or_false, false_or, not_true_eq_false, not_false_eq_true, hj76]
      · rw [if_neg c1] at hj76
        by_cases c2 : x < 8
        · rw [if_pos c2] at hj76
          simp (disch := omega) only [Option.bind_some, if_true, if_false, Sum.elim_inl, Sum.elim_inr, li0, li1, li2, li3, li4, li5, li6, li7, li8, li9, li10, li12, li16, li20, li24, li25, li31, li32, li40, li41, li42, li48, li57, li59, li97, li104, li105, li124, li126, li240, li241, nI_add, nI_subc, nI_subm, nI_mulc, nI_nm, pu_r, pu_t, pu_a, pu_le_t, pu_le_f, pu_lt_t, pu_lt_f, pu_eq_t, pu_eq_f, nm_eq, nm_eq2, nm_lt, nm_lt2, nm_le, nm_le2, nm_ss, nm_sp, pu_ss, pu_snq, pu_neq, eq_self, and_true, true_and, and_false, false_and, or_true, true_or, or_false, false_or, not_true_eq_false, not_false_eq_true, hj76]
        · rw [if_neg c2] at hj76
          by_cases c3 : x < 12
          · rw [if_pos c3] at hj76
            simp (disch := omega) only [Option.bind_some, if_true, if_false, Sum.elim_inl, Sum.elim_inr, li0, li1, li2, li3, li4, li5, li6, li7, li8, li9, li10, li12, li16, li20, li24, li25, li31, li32, li40, li41, li42, li48, li57, li59, li97, li104, li105, li124, li126, li240, li241, nI_add, nI_subc, nI_subm, nI_mulc, nI_nm, pu_r, pu_t, pu_a, pu_le_t, pu_le_f, pu_lt_t, pu_lt_f, pu_eq_t, pu_eq_f, nm_eq, nm_eq2, nm_lt, nm_lt2, nm_le, nm_le2, nm_ss, nm_sp, pu_ss, pu_snq, pu_neq, eq_self, and_true, true_and, and_false, false_and, or_true, true_or, or_false, false_or, not_true_eq_false, not_false_eq_true, hj76]
          · rw [if_neg c3] at hj76
            by_cases c4 : x < 16
            · rw [if_pos c4] at hj76
              simp (disch := omega) only [Option.bind_some, if_true, if_false, Sum.elim_inl, Sum.elim_inr, li0, li1, li2, li3, li4, li5, li6, li7, li8, li9, li10, li12, li16, li20, li24, li25, li31, li32, li40, li41, li42, li48, li57, li59, li97, li104, li105, li124, li126, li240, li241, nI_add, nI_subc, nI_subm, nI_mulc, nI_nm, pu_r, pu_t, pu_a, pu_le_t, pu_le_f, pu_lt_t, pu_lt_f, pu_eq_t, pu_eq_f, nm_eq, nm_eq2, nm_lt, nm_lt2, nm_le, nm_le2, nm_ss, nm_sp, pu_ss, pu_snq, pu_neq, eq_self, and_true, true_and, and_false, false_and, or_true, true_or, or_false, false_or, not_true_eq_false, not_false_eq_true, hj76]
            · rw [if_neg c4] at hj76
              simp (disch := omega) only [Option.bind_some, if_true, if_false, Sum.elim_inl, Sum.elim_inr, li0, li1, li2, li3, li4, li5, li6, li7, li8, li9, li10, li12, li16, li20, li24, li25, li31, li32, li40, li41, li42, li48, li57, li59, li97, li104, li105, li124, li126, li240, li241, nI_add, nI_subc, nI_subm, nI_mulc, nI_nm, pu_r, pu_t, pu_a, pu_le_t, pu_le_f, pu_lt_t, pu_lt_f, pu_eq_t, pu_eq_f, nm_eq, nm_eq2, nm_lt, nm_lt2, nm_le, nm_le2, nm_ss, nm_sp, pu_ss, pu_snq, pu_neq, eq_self, and_true, true_and, and_false, false_and, or_true, true_or, or_false, false_or, not_true_eq_false, not_false_eq_true, hj76]
    · rw [me_s_ne (by decide)]
      by_cases c : j = x
      · rw [c, pu_ss]
      · rw [pu_sn (by omega)]; exact hI j (by omega)) (fun s hs => by
    obtain ⟨Mx, rfl, hf, h11, hI⟩ := hs
    refine ⟨Mx, ?_, hf, h11, hI⟩
    simp only [mX12_feed_63_L23]
    simp (disch := omega) only [Option.bind_some, if_true, if_false, Sum.elim_inl, Sum.elim_inr, li0, li1, li2, li3, li4, li5, li6, li7, li8, li9, li10, li12, li16, li20, li24, li25, li31, li32, li40, li41, li42, li48, li57, li59, li97, li104, li105, li124, li126, li240, li241, nI_add, nI_subc, nI_subm, nI_mulc, nI_nm, pu_r, pu_t, pu_a, pu_le_t, pu_le_f, pu_lt_t, pu_lt_f, pu_eq_t, pu_eq_f, nm_eq, nm_eq2, nm_lt, nm_lt2, nm_le, nm_le2, nm_ss, nm_sp, pu_ss, pu_snq, pu_neq, eq_self, and_true, true_and, and_false, false_and, or_true, true_or, or_false, false_or, not_true_eq_false, not_false_eq_true]) (s0 := (nI 0, M)) ⟨M, rfl, fr.rf, h1, fun j hj => absurd hj (Nat.not_lt_zero _)⟩
  exact ⟨r, e, hr⟩
theorem inv_tape {T : Nat → Nat} {n m : Nat} {W X : Nat → Nat} {t t' : Nat} {F F' : Nat → Nat} {S P : Nat} {D : Nat → Nat → Nat → Nat} {M M' : me_M} (h : Inv M) (ha : vA T n m W X t F S P D M) (hx : fr (fun b k => (b = 1 ∧ k = 1) ∨ b = 2 ∨ (b = 63 ∧ (k = 0 ∨ k = 2)) ∨ b = 65) M M') (hp : vP t' F' M') : Inv M' := by
  obtain ⟨-, -, -, -, -, -, -, -, -, -, -, -, -, k4, -, -, -⟩ := h
  obtain ⟨h1, h2, h3, -, h5, h6, h7⟩ := ha
  refine ⟨T, n, m, W, X, t', F', S, P, D, h1.fr hx ?_ ?_ ?_ ?_, h2.fr hx ?_ ?_ ?_ ?_ ?_, hp, k4.fr hx ?_ ?_ ?_ ?_ ?_, h5.fr hx ?_ ?_ ?_ ?_ ?_ ?_, h6.fr hx ?_ ?_ ?_, h7.fr hx ?_ ?_ ?_ ?_⟩ <;> intros <;> omega
theorem s_feed {xs : Nat → Int32} {Lx : Nat} {i : Int32} {M : me_M} {a1 a2 a3 a4 a5 : Int32} (h : Inv M) (h1 : me_sr xs Lx (i + 1) = some a1) (h2 : me_sr xs Lx (i + 2) = some a2) (h3 : me_sr xs Lx (i + 3) = some a3) (h4 : me_sr xs Lx (i + 4) = some a4) (h5 : me_sr xs Lx (i + 5) = some a5) : ∃ M', sg_feed xs Lx i M = some M' ∧ Inv M' := by
  obtain ⟨T, n, m, W, X, t, F, S, P, D, ha⟩ := h.vA
  have hvp := ha.2.2.1
  have ht := hvp.1
  by_cases c : t + 20 ≤ 240
  · obtain ⟨M1, e1, f1, g1, k1⟩ := c_feed (p0 := a1) (p1 := a2) (p2 := a3) (p3 := a4) (p4 := a5) c hvp.2.1
    have hz : (me_s M1 63 0 (nI 0)).1 63 2 = nI t := by rw [pu_sn (by decide), f1.2 _ _ (by omega)]; exact hvp.2.2.1
    obtain ⟨M2, e2, f2, g2, k2⟩ := r_feed (p0 := a1) (p1 := a2) (p2 := a3) (p3 := a4) (p4 := a5) c hz
    have f3 : fr (fun b k => (b = 1 ∧ k = 1) ∨ (b = 2 ∧ t ≤ k) ∨ (b = 63 ∧ (k = 0 ∨ k = 2)) ∨ (b = 65 ∧ t ≤ k)) M M2 := ((f1.up (fun b k h => by omega)).st (by omega)).tr (f2.up (fun b k h => by omega))
    have f4 : fr (fun b k => (b = 63 ∧ (k = 0 ∨ k = 2)) ∨ b = 65) M1 M2 := (fr.s (by omega)).tr (f2.up (fun b k h => by omega))
    refine ⟨M2, ?_, inv_tape (t' := t + 20) (F' := fun i => if i < t then F i else gB a1 a2 a3 a4 a5 (i - t)) h ha (f3.up (fun b k h => by omega)) ⟨by omega, by rw [f4.2 _ _ (by omega)]; exact g1, g2, fun i hi => ?_⟩⟩
    · simp only [sg_feed, h1, h2, h3, h4, h5, Option.bind_some, e1, mX12_feed_63, li0]
      have hz2 : M1.1 63 2 = nI t := by rw [f1.2 _ _ (by omega)]; exact hvp.2.2.1
      simp (disch := omega) only [Option.bind_some, if_true, if_false, Sum.elim_inl, Sum.elim_inr, li0, li1, li2, li3, li4, li5, li6, li7, li8, li9, li10, li12, li16, li20, li24, li25, li31, li32, li40, li41, li42, li48, li57, li59, li97, li104, li105, li124, li126, li240, li241, nI_add, nI_subc, nI_subm, nI_mulc, nI_nm, pu_r, pu_t, pu_a, pu_le_t, pu_le_f, pu_lt_t, pu_lt_f, pu_eq_t, pu_eq_f, nm_eq, nm_eq2, nm_lt, nm_lt2, nm_le, nm_le2, nm_ss, nm_sp, pu_ss, pu_snq, pu_neq, eq_self, and_true, true_and, and_false, false_and, or_true, true_or, or_false, false_or, not_true_eq_false, not_false_eq_true, hz2, e2, g2]
    · by_cases d : i < t
      · simp only [if_pos d]
        obtain ⟨q1, q2, q3⟩ := hvp.2.2.2 i d
        exact ⟨q1, by rw [f3.2 _ _ (by omega)]; exact q2, by rw [f3.2 _ _ (by omega)]; exact q3⟩
      · simp only [if_neg d]
        have q2 := k1 (i - t) (by omega)
        have q3 := k2 (i - t) (by omega)
        rw [show t + (i - t) = i by omega] at q2 q3
        exact ⟨(bB_ok _ _).1, by rw [f4.2 _ _ (by omega)]; exact q2, q3⟩
  · refine ⟨me_s M 63 0 (nI 0), ?_, h.go (fr.s (S := scr) (by unfold scr; omega))⟩
    have q1 := hvp.2.1
    have q2 : (me_s M 63 0 (nI 0)).1 63 2 = nI t := by rw [pu_sn (by decide)]; exact hvp.2.2.1
    simp only [sg_feed, h1, h2, h3, h4, h5, Option.bind_some, mX11_feed_0, mX12_feed_63, li0]
    simp (disch := omega) only [Option.bind_some, if_true, if_false, Sum.elim_inl, Sum.elim_inr, li0, li1, li2, li3, li4, li5, li6, li7, li8, li9, li10, li12, li16, li20, li24, li25, li31, li32, li40, li41, li42, li48, li57, li59, li97, li104, li105, li124, li126, li240, li241, nI_add, nI_subc, nI_subm, nI_mulc, nI_nm, pu_r, pu_t, pu_a, pu_le_t, pu_le_f, pu_lt_t, pu_lt_f, pu_eq_t, pu_eq_f, nm_eq, nm_eq2, nm_lt, nm_lt2, nm_le, nm_le2, nm_ss, nm_sp, pu_ss, pu_snq, pu_neq, eq_self, and_true, true_and, and_false, false_and, or_true, true_or, or_false, false_or, not_true_eq_false, not_false_eq_true, q1, hvp.2.2.1]
/-- whether a byte can stand in a text of so bytes -/
def tk (F : Nat → Nat) (so k : Nat) : Bool := decide ((97 ≤ F k ∧ F k ≤ 104) ∨ (F k = 124 ∧ 0 < k ∧ k + 1 < so ∧ F (k - 1) ≠ 124))
theorem c_wrong {t so : Nat} {F : Nat → Nat} {M : me_M} (h : vP t F M) (hs : so ≤ t) : ∃ v, mX9_firstNoText_1 M (nI so) = some (dn v) ∧ ((v = 0 ∧ ∀ k, k < so → tk F so k = true) ∨ (0 < v ∧ v ≤ so ∧ tk F so (v - 1) = false ∧ ∀ k, k < v - 1 → tk F so k = true)) := by
  obtain ⟨h1, h2, h3, h4⟩ := h
  obtain ⟨r, e, hr⟩ := lp_up (b := mX9_firstNoText_1_L2 M (nI so)) (fun x s => s = nI x ∧ ∀ k, k < x → tk F so k = true) (fun r => (r = .inl () ∧ ∀ k, k < so → tk F so k = true) ∨ ∃ y, r = .inr (nI y) ∧ y < so ∧ tk F so y = false ∧ ∀ k, k < y → tk F so k = true) (a := 0) (N := so) (by omega) (by omega) (fun x s _ hx hs => by
    obtain ⟨rfl, hI⟩ := hs
    obtain ⟨f1, f2, f3⟩ := h4 x (by omega)
    simp only [mX9_firstNoText_1_L2, mX9_firstNoText_1_J30, mX9_isParting_1]
    by_cases c : 97 ≤ F x ∧ F x ≤ 104
    · left
      have hb : iB (nI (F x)) (nI 97) (nI 104) = true := by rw [iB_nI (by omega) (by omega) (by omega)]; exact decide_eq_true c
      refine ⟨nI (x + 1), ?_, rfl, all_s.mpr ⟨hI, decide_eq_true (Or.inl c)⟩⟩
      simp (disch := omega) only [Option.bind_some, if_true, if_false, Sum.elim_inl, Sum.elim_inr, li0, li1, li2, li3, li4, li5, li6, li7, li8, li9, li10, li12, li16, li20, li24, li25, li31, li32, li40, li41, li42, li48, li57, li59, li97, li104, li105, li124, li126, li240, li241, nI_add, nI_subc, nI_subm, nI_mulc, nI_nm, pu_r, pu_t, pu_a, pu_le_t, pu_le_f, pu_lt_t, pu_lt_f, pu_eq_t, pu_eq_f, nm_eq, nm_eq2, nm_lt, nm_lt2, nm_le, nm_le2, nm_ss, nm_sp, pu_ss, pu_snq, pu_neq, eq_self, and_true, true_and, and_false, false_and, or_true, true_or, or_false, false_or, not_true_eq_false, not_false_eq_true, f2, c_isLetter, hb, bI_t]
    · have hb : iB (nI (F x)) (nI 97) (nI 104) = false := by rw [iB_nI (by omega) (by omega) (by omega)]; exact decide_eq_false c
      by_cases d : F x = 124 ∧ 0 < x ∧ x + 1 < so ∧ F (x - 1) ≠ 124
      · left
        obtain ⟨d1, d2, d3, d4⟩ := d
        obtain ⟨g1, g2, g3⟩ := h4 (x - 1) (by omega)
        refine ⟨nI (x + 1), ?_, rfl, all_s.mpr ⟨hI, decide_eq_true (Or.inr ⟨d1, d2, d3, d4⟩)⟩⟩
        simp (disch := omega) only [Option.bind_some, if_true, if_false, Sum.elim_inl, Sum.elim_inr, li0, li1, li2, li3, li4, li5, li6, li7, li8, li9, li10, li12, li16, li20, li24, li25, li31, li32, li40, li41, li42, li48, li57, li59, li97, li104, li105, li124, li126, li240, li241, nI_add, nI_subc, nI_subm, nI_mulc, nI_nm, pu_r, pu_t, pu_a, pu_le_t, pu_le_f, pu_lt_t, pu_lt_f, pu_eq_t, pu_eq_f, nm_eq, nm_eq2, nm_lt, nm_lt2, nm_le, nm_le2, nm_ss, nm_sp, pu_ss, pu_snq, pu_neq, eq_self, and_true, true_and, and_false, false_and, or_true, true_or, or_false, false_or, not_true_eq_false, not_false_eq_true, f2, c_isLetter, hb, bI_f, g2]
      · right
        refine ⟨.inr (nI x), ?_, Or.inr ⟨x, rfl, hx, decide_eq_false (fun z => by rcases z with z | z; exact c z; exact d z), hI⟩⟩
        by_cases d1 : F x = 124
        · by_cases d2 : 0 < x
          · by_cases d3 : x + 1 < so
            · obtain ⟨g1, g2, g3⟩ := h4 (x - 1) (by omega)
              have d4 : F (x - 1) = 124 := by
                rcases Nat.decEq (F (x - 1)) 124 with z | z
                · exact absurd ⟨d1, d2, d3, z⟩ d
                · exact z
              simp (disch := omega) only [Option.bind_some, if_true, if_false, Sum.elim_inl, Sum.elim_inr, li0, li1, li2, li3, li4, li5, li6, li7, li8, li9, li10, li12, li16, li20, li24, li25, li31, li32, li40, li41, li42, li48, li57, li59, li97, li104, li105, li124, li126, li240, li241, nI_add, nI_subc, nI_subm, nI_mulc, nI_nm, pu_r, pu_t, pu_a, pu_le_t, pu_le_f, pu_lt_t, pu_lt_f, pu_eq_t, pu_eq_f, nm_eq, nm_eq2, nm_lt, nm_lt2, nm_le, nm_le2, nm_ss, nm_sp, pu_ss, pu_snq, pu_neq, eq_self, and_true, true_and, and_false, false_and, or_true, true_or, or_false, false_or, not_true_eq_false, not_false_eq_true, f2, c_isLetter, hb, bI_f, g2]
            · simp (disch := omega) only [Option.bind_some, if_true, if_false, Sum.elim_inl, Sum.elim_inr, li0, li1, li2, li3, li4, li5, li6, li7, li8, li9, li10, li12, li16, li20, li24, li25, li31, li32, li40, li41, li42, li48, li57, li59, li97, li104, li105, li124, li126, li240, li241, nI_add, nI_subc, nI_subm, nI_mulc, nI_nm, pu_r, pu_t, pu_a, pu_le_t, pu_le_f, pu_lt_t, pu_lt_f, pu_eq_t, pu_eq_f, nm_eq, nm_eq2, nm_lt, nm_lt2, nm_le, nm_le2, nm_ss, nm_sp, pu_ss, pu_snq, pu_neq, eq_self, and_true, true_and, and_false, false_and, or_true, true_or, or_false, false_or, not_true_eq_false, not_false_eq_true, f2, c_isLetter, hb, bI_f]
          · simp (disch := omega) only [Option.bind_some, if_true, if_false, Sum.elim_inl, Sum.elim_inr, li0, li1, li2, li3, li4, li5, li6, li7, li8, li9, li10, li12, li16, li20, li24, li25, li31, li32, li40, li41, li42, li48, li57, li59, li97, li104, li105, li124, li126, li240, li241, nI_add, nI_subc, nI_subm, nI_mulc, nI_nm, pu_r, pu_t, pu_a, pu_le_t, pu_le_f, pu_lt_t, pu_lt_f, pu_eq_t, pu_eq_f, nm_eq, nm_eq2, nm_lt, nm_lt2, nm_le, nm_le2, nm_ss, nm_sp, pu_ss, pu_snq, pu_neq, eq_self, and_true, true_and, and_false, false_and, or_true, true_or, or_false, false_or, not_true_eq_false, not_false_eq_true, f2, c_isLetter, hb, bI_f]
        · simp (disch := omega) only [Option.bind_some, if_true, if_false, Sum.elim_inl, Sum.elim_inr, li0, li1, li2, li3, li4, li5, li6, li7, li8, li9, li10, li12, li16, li20, li24, li25, li31, li32, li40, li41, li42, li48, li57, li59, li97, li104, li105, li124, li126, li240, li241, nI_add, nI_subc, nI_subm, nI_mulc, nI_nm, pu_r, pu_t, pu_a, pu_le_t, pu_le_f, pu_lt_t, pu_lt_f, pu_eq_t, pu_eq_f, nm_eq, nm_eq2, nm_lt, nm_lt2, nm_le, nm_le2, nm_ss, nm_sp, pu_ss, pu_snq, pu_neq, eq_self, and_true, true_and, and_false, false_and, or_true, true_or, or_false, false_or, not_true_eq_false, not_false_eq_true, f2, c_isLetter, hb, bI_f]) (fun s hs => by
    obtain ⟨rfl, hI⟩ := hs
    refine ⟨.inl (), ?_, Or.inl ⟨rfl, hI⟩⟩
    simp only [mX9_firstNoText_1_L2]
    simp (disch := omega) only [Option.bind_some, if_true, if_false, Sum.elim_inl, Sum.elim_inr, li0, li1, li2, li3, li4, li5, li6, li7, li8, li9, li10, li12, li16, li20, li24, li25, li31, li32, li40, li41, li42, li48, li57, li59, li97, li104, li105, li124, li126, li240, li241, nI_add, nI_subc, nI_subm, nI_mulc, nI_nm, pu_r, pu_t, pu_a, pu_le_t, pu_le_f, pu_lt_t, pu_lt_f, pu_eq_t, pu_eq_f, nm_eq, nm_eq2, nm_lt, nm_lt2, nm_le, nm_le2, nm_ss, nm_sp, pu_ss, pu_snq, pu_neq, eq_self, and_true, true_and, and_false, false_and, or_true, true_or, or_false, false_or, not_true_eq_false, not_false_eq_true]) (s0 := nI 0) ⟨rfl, fun k hk => absurd hk (Nat.not_lt_zero _)⟩
  unfold mX9_firstNoText_1
  rcases hr with ⟨rfl, hr⟩ | ⟨y, rfl, y1, y2, y3⟩
  · exact ⟨0, by simp (disch := omega) only [Option.bind_some, if_true, if_false, Sum.elim_inl, Sum.elim_inr, li0, li1, li2, li3, li4, li5, li6, li7, li8, li9, li10, li12, li16, li20, li24, li25, li31, li32, li40, li41, li42, li48, li57, li59, li97, li104, li105, li124, li126, li240, li241, nI_add, nI_subc, nI_subm, nI_mulc, nI_nm, pu_r, pu_t, pu_a, pu_le_t, pu_le_f, pu_lt_t, pu_lt_f, pu_eq_t, pu_eq_f, nm_eq, nm_eq2, nm_lt, nm_lt2, nm_le, nm_le2, nm_ss, nm_sp, pu_ss, pu_snq, pu_neq, eq_self, and_true, true_and, and_false, false_and, or_true, true_or, or_false, false_or, not_true_eq_false, not_false_eq_true, e, dn_0], Or.inl ⟨rfl, hr⟩⟩
  · exact ⟨y + 1, by simp (disch := omega) only [Option.bind_some, if_true, if_false, Sum.elim_inl, Sum.elim_inr, li0, li1, li2, li3, li4, li5, li6, li7, li8, li9, li10, li12, li16, li20, li24, li25, li31, li32, li40, li41, li42, li48, li57, li59, li97, li104, li105, li124, li126, li240, li241, nI_add, nI_subc, nI_subm, nI_mulc, nI_nm, pu_r, pu_t, pu_a, pu_le_t, pu_le_f, pu_lt_t, pu_lt_f, pu_eq_t, pu_eq_f, nm_eq, nm_eq2, nm_lt, nm_lt2, nm_le, nm_le2, nm_ss, nm_sp, pu_ss, pu_snq, pu_neq, eq_self, and_true, true_and, and_false, false_and, or_true, true_or, or_false, false_or, not_true_eq_false, not_false_eq_true, e, dn_s], Or.inr ⟨by omega, by omega, y2, y3⟩⟩
theorem r_wrong {t so : Nat} {F : Nat → Nat} {M : me_M} (ht : t ≤ 240) (h4 : ∀ i, i < t → F i < 256 ∧ M.1 65 i = nI (F i)) (hs : so ≤ t) : ∃ v, mX12_wrongAt_63 M (nI so) = some (dn v) ∧ ((v = 0 ∧ ∀ k, k < so → tk F so k = true) ∨ (0 < v ∧ v ≤ so ∧ tk F so (v - 1) = false ∧ ∀ k, k < v - 1 → tk F so k = true)) := by
  obtain ⟨r, e, hr⟩ := lp_up (b := mX12_wrongAt_63_L2 M (nI so)) (fun x s => s = nI x ∧ ∀ k, k < x → tk F so k = true) (fun r => (r = .inl () ∧ ∀ k, k < so → tk F so k = true) ∨ ∃ y, r = .inr (nI y) ∧ y < so ∧ tk F so y = false ∧ ∀ k, k < y → tk F so k = true) (a := 0) (N := so) (by omega) (by omega) (fun x s _ hx hs => by
    obtain ⟨rfl, hI⟩ := hs
    obtain ⟨f1, f3⟩ := h4 x (by omega)
    simp only [mX12_wrongAt_63_L2, mX12_wrongAt_63_J59]
    by_cases c : 97 ≤ F x ∧ F x ≤ 104
    · left
      have hb : iB (nI (F x)) (nI 97) (nI 104) = true := by rw [iB_nI (by omega) (by omega) (by omega)]; exact decide_eq_true c
      refine ⟨nI (x + 1), ?_, rfl, all_s.mpr ⟨hI, decide_eq_true (Or.inl c)⟩⟩
      simp (disch := omega) only [Option.bind_some, if_true, if_false, Sum.elim_inl, Sum.elim_inr, li0, li1, li2, li3, li4, li5, li6, li7, li8, li9, li10, li12, li16, li20, li24, li25, li31, li32, li40, li41, li42, li48, li57, li59, li97, li104, li105, li124, li126, li240, li241, nI_add, nI_subc, nI_subm, nI_mulc, nI_nm, pu_r, pu_t, pu_a, pu_le_t, pu_le_f, pu_lt_t, pu_lt_f, pu_eq_t, pu_eq_f, nm_eq, nm_eq2, nm_lt, nm_lt2, nm_le, nm_le2, nm_ss, nm_sp, pu_ss, pu_snq, pu_neq, eq_self, and_true, true_and, and_false, false_and, or_true, true_or, or_false, false_or, not_true_eq_false, not_false_eq_true, f3, r_isLetter, hb, bI_t]
    · have hb : iB (nI (F x)) (nI 97) (nI 104) = false := by rw [iB_nI (by omega) (by omega) (by omega)]; exact decide_eq_false c
      by_cases d : F x = 124 ∧ 0 < x ∧ x + 1 < so ∧ F (x - 1) ≠ 124
      · left
        obtain ⟨d1, d2, d3, d4⟩ := d
        obtain ⟨g1, g3⟩ := h4 (x - 1) (by omega)
        refine ⟨nI (x + 1), ?_, rfl, all_s.mpr ⟨hI, decide_eq_true (Or.inr ⟨d1, d2, d3, d4⟩)⟩⟩
        simp (disch := omega) only [Option.bind_some, if_true, if_false, Sum.elim_inl, Sum.elim_inr, li0, li1, li2, li3, li4, li5, li6, li7, li8, li9, li10, li12, li16, li20, li24, li25, li31, li32, li40, li41, li42, li48, li57, li59, li97, li104, li105, li124, li126, li240, li241, nI_add, nI_subc, nI_subm, nI_mulc, nI_nm, pu_r, pu_t, pu_a, pu_le_t, pu_le_f, pu_lt_t, pu_lt_f, pu_eq_t, pu_eq_f, nm_eq, nm_eq2, nm_lt, nm_lt2, nm_le, nm_le2, nm_ss, nm_sp, pu_ss, pu_snq, pu_neq, eq_self, and_true, true_and, and_false, false_and, or_true, true_or, or_false, false_or, not_true_eq_false, not_false_eq_true, f3, r_isLetter, hb, bI_f, g3]
      · right
        refine ⟨.inr (nI x), ?_, Or.inr ⟨x, rfl, hx, decide_eq_false (fun z => by rcases z with z | z; exact c z; exact d z), hI⟩⟩
        by_cases d1 : F x = 124
        · by_cases d2 : 0 < x
          · by_cases d3 : x + 1 < so
            · obtain ⟨g1, g3⟩ := h4 (x - 1) (by omega)
              have d4 : F (x - 1) = 124 := by
                rcases Nat.decEq (F (x - 1)) 124 with z | z
                · exact absurd ⟨d1, d2, d3, z⟩ d
                · exact z
              simp (disch := omega) only [Option.bind_some, if_true, if_false, Sum.elim_inl, Sum.elim_inr, li0, li1, li2, li3, li4, li5, li6, li7, li8, li9, li10, li12, li16, li20, li24, li25, li31, li32, li40, li41, li42, li48, li57, li59, li97, li104, li105, li124, li126, li240, li241, nI_add, nI_subc, nI_subm, nI_mulc, nI_nm, pu_r, pu_t, pu_a, pu_le_t, pu_le_f, pu_lt_t, pu_lt_f, pu_eq_t, pu_eq_f, nm_eq, nm_eq2, nm_lt, nm_lt2, nm_le, nm_le2, nm_ss, nm_sp, pu_ss, pu_snq, pu_neq, eq_self, and_true, true_and, and_false, false_and, or_true, true_or, or_false, false_or, not_true_eq_false, not_false_eq_true, f3, r_isLetter, hb, bI_f, g3]
            · simp (disch := omega) only [Option.bind_some, if_true, if_false, Sum.elim_inl, Sum.elim_inr, li0, li1, li2, li3, li4, li5, li6, li7, li8, li9, li10, li12, li16, li20, li24, li25, li31, li32, li40, li41, li42, li48, li57, li59, li97, li104, li105, li124, li126, li240, li241, nI_add, nI_subc, nI_subm, nI_mulc, nI_nm, pu_r, pu_t, pu_a, pu_le_t, pu_le_f, pu_lt_t, pu_lt_f, pu_eq_t, pu_eq_f, nm_eq, nm_eq2, nm_lt, nm_lt2, nm_le, nm_le2, nm_ss, nm_sp, pu_ss, pu_snq, pu_neq, eq_self, and_true, true_and, and_false, false_and, or_true, true_or, or_false, false_or, not_true_eq_false, not_false_eq_true, f3, r_isLetter, hb, bI_f]
          · simp (disch := omega) only [Option.bind_some, if_true, if_false, Sum.elim_inl, Sum.elim_inr, li0, li1, li2, li3, li4, li5, li6, li7, li8, li9, li10, li12, li16, li20, li24, li25, li31, li32, li40, li41, li42, li48, li57, li59, li97, li104, li105, li124, li126, li240, li241, nI_add, nI_subc, nI_subm, nI_mulc, nI_nm, pu_r, pu_t, pu_a, pu_le_t, pu_le_f, pu_lt_t, pu_lt_f, pu_eq_t, pu_eq_f, nm_eq, nm_eq2, nm_lt, nm_lt2, nm_le, nm_le2, nm_ss, nm_sp, pu_ss, pu_snq, pu_neq, eq_self, and_true, true_and, and_false, false_and, or_true, true_or, or_false, false_or, not_true_eq_false, not_false_eq_true, f3, r_isLetter, hb, bI_f]
        · simp (disch := omega) only [Option.bind_some, if_true, if_false, Sum.elim_inl, Sum.elim_inr, li0, li1, li2, li3, li4, li5, li6, li7, li8, li9, li10, li12, li16, li20, li24, li25, li31, li32, li40, li41, li42, li48, li57, li59, li97, li104, li105, li124, li126, li240, li241, nI_add, nI_subc, nI_subm, nI_mulc, nI_nm, pu_r, pu_t, pu_a, pu_le_t, pu_le_f, pu_lt_t, pu_lt_f, pu_eq_t, pu_eq_f, nm_eq, nm_eq2, nm_lt, nm_lt2, nm_le, nm_le2, nm_ss, nm_sp, pu_ss, pu_snq, pu_neq, eq_self, and_true, true_and, and_false, false_and, or_true, true_or, or_false, false_or, not_true_eq_false, not_false_eq_true, f3, r_isLetter, hb, bI_f]) (fun s hs => by
    obtain ⟨rfl, hI⟩ := hs
    refine ⟨.inl (), ?_, Or.inl ⟨rfl, hI⟩⟩
    simp only [mX12_wrongAt_63_L2]
    simp (disch := omega) only [Option.bind_some, if_true, if_false, Sum.elim_inl, Sum.elim_inr, li0, li1, li2, li3, li4, li5, li6, li7, li8, li9, li10, li12, li16, li20, li24, li25, li31, li32, li40, li41, li42, li48, li57, li59, li97, li104, li105, li124, li126, li240, li241, nI_add, nI_subc, nI_subm, nI_mulc, nI_nm, pu_r, pu_t, pu_a, pu_le_t, pu_le_f, pu_lt_t, pu_lt_f, pu_eq_t, pu_eq_f, nm_eq, nm_eq2, nm_lt, nm_lt2, nm_le, nm_le2, nm_ss, nm_sp, pu_ss, pu_snq, pu_neq, eq_self, and_true, true_and, and_false, false_and, or_true, true_or, or_false, false_or, not_true_eq_false, not_false_eq_true]) (s0 := nI 0) ⟨rfl, fun k hk => absurd hk (Nat.not_lt_zero _)⟩
  unfold mX12_wrongAt_63
  rcases hr with ⟨rfl, hr⟩ | ⟨y, rfl, y1, y2, y3⟩
  · exact ⟨0, by simp (disch := omega) only [Option.bind_some, if_true, if_false, Sum.elim_inl, Sum.elim_inr, li0, li1, li2, li3, li4, li5, li6, li7, li8, li9, li10, li12, li16, li20, li24, li25, li31, li32, li40, li41, li42, li48, li57, li59, li97, li104, li105, li124, li126, li240, li241, nI_add, nI_subc, nI_subm, nI_mulc, nI_nm, pu_r, pu_t, pu_a, pu_le_t, pu_le_f, pu_lt_t, pu_lt_f, pu_eq_t, pu_eq_f, nm_eq, nm_eq2, nm_lt, nm_lt2, nm_le, nm_le2, nm_ss, nm_sp, pu_ss, pu_snq, pu_neq, eq_self, and_true, true_and, and_false, false_and, or_true, true_or, or_false, false_or, not_true_eq_false, not_false_eq_true, e, dn_0], Or.inl ⟨rfl, hr⟩⟩
  · exact ⟨y + 1, by simp (disch := omega) only [Option.bind_some, if_true, if_false, Sum.elim_inl, Sum.elim_inr, li0, li1, li2, li3, li4, li5, li6, li7, li8, li9, li10, li12, li16, li20, li24, li25, li31, li32, li40, li41, li42, li48, li57, li59, li97, li104, li105, li124, li126, li240, li241, nI_add, nI_subc, nI_subm, nI_mulc, nI_nm, pu_r, pu_t, pu_a, pu_le_t, pu_le_f, pu_lt_t, pu_lt_f, pu_eq_t, pu_eq_f, nm_eq, nm_eq2, nm_lt, nm_lt2, nm_le, nm_le2, nm_ss, nm_sp, pu_ss, pu_snq, pu_neq, eq_self, and_true, true_and, and_false, false_and, or_true, true_or, or_false, false_or, not_true_eq_false, not_false_eq_true, e, dn_s], Or.inr ⟨by omega, by omega, y2, y3⟩⟩
