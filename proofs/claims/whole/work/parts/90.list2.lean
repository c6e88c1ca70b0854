/-! ===== the class lists the maximal strings: the loops ===== -/
/-- entries of a row's strings, as a place tells -/
def enM (T : Nat → Nat) (n r : Nat) (f : Nat → Nat) (M : me_M) : Prop := ∀ len, len < 241 → MX T n r len = true → M.1 27 (f len) = nI len ∧ M.1 28 (f len) = nI r ∧ M.1 29 (f len) = nI (tm T n (pa T n r) len)
theorem MX_up {T : Nat → Nat} {n low len : Nat} (hT : tx9 T n) (hl : low ≤ n) (h : MX T n low len = true) : hx9 T n low < len ∧ len ≤ hx9 T n (low + 1) := by
  obtain ⟨x1, x2, x3, x4⟩ := MX_iff.mp h
  obtain ⟨p1, p2⟩ := pa_ok (r := low) hT.1 hl
  have htw := tw_rows hT.1 p1
  rw [p2, hx9_le hl] at htw
  rw [hx9_le hl]
  omega
theorem c_addFull {T : Nat → Nat} {n low hi L c : Nat} {M : me_M} (hT : tx9 T n) (hx : cx T n M) (h1 : low < hi) (h2 : hi ≤ n + 1) (h5 : M.1 26 5 = nI c) (hc : 240 ≤ c) (hc2 : c ≤ 1000) : mX2_addIfMaximal_26 M (nI L) (nI low) (nI (hi - low)) = some M := by
  have hn := hT.2.2.2
  have hb := (c_before (b := 0) hT hx (by omega) (show low ≤ n by omega)).1 rfl
  have hb : mX4_before_9 M (nI low) = some (nI (bf T (pa T n low))) := hb
  have b9 := bf_lt (p := pa T n low) hT.2.1
  unfold mX2_addIfMaximal_26 mX2_addIfMaximal_26_J51 mX2_addIfMaximal_26_J52
  by_cases c1 : bf T (pa T n low) < 2
  · simp (disch := omega) only [Option.bind_some, if_true, if_false, Sum.elim_inl, Sum.elim_inr, li0, li1, li2, li3, li4, li5, li6, li7, li8, li9, li10, li12, li16, li20, li24, li25, li31, li32, li40, li41, li42, li48, li57, li59, li97, li104, li105, li124, li126, li240, li241, nI_add, nI_subc, nI_subm, nI_mulc, nI_nm, pu_r, pu_t, pu_a, pu_le_t, pu_le_f, pu_lt_t, pu_lt_f, pu_eq_t, pu_eq_f, nm_eq, nm_eq2, nm_lt, nm_lt2, nm_le, nm_le2, nm_ss, nm_sp, pu_ss, pu_snq, pu_neq, eq_self, and_true, true_and, and_false, false_and, or_true, true_or, or_false, false_or, not_true_eq_false, not_false_eq_true, hb, h5]
  · have w1 := g_lettersAhead (o := 9) (sg := 4) (pl := 10) (ro := 11) (al := 12) (sm := 13) (r := hi) (c := bf T (pa T n low) - 2) hT.2.1 hn hx.2.1.2.2.2 h2 (by omega)
    have w2 := g_lettersAhead (o := 9) (sg := 4) (pl := 10) (ro := 11) (al := 12) (sm := 13) (r := low) (c := bf T (pa T n low) - 2) hT.2.1 hn hx.2.1.2.2.2 (by omega) (by omega)
    generalize nI (sc T n hi (bf T (pa T n low) - 2 + 3) - sc T n hi (bf T (pa T n low) - 2 + 2)) = v2 at w1
    generalize nI (sc T n low (bf T (pa T n low) - 2 + 3) - sc T n low (bf T (pa T n low) - 2 + 2)) = v3 at w2
    by_cases hq : v2 - v3 = nI (hi - low)
    · simp (disch := omega) only [Option.bind_some, if_true, if_false, Sum.elim_inl, Sum.elim_inr, li0, li1, li2, li3, li4, li5, li6, li7, li8, li9, li10, li12, li16, li20, li24, li25, li31, li32, li40, li41, li42, li48, li57, li59, li97, li104, li105, li124, li126, li240, li241, nI_add, nI_subc, nI_subm, nI_mulc, nI_nm, pu_r, pu_t, pu_a, pu_le_t, pu_le_f, pu_lt_t, pu_lt_f, pu_eq_t, pu_eq_f, nm_eq, nm_eq2, nm_lt, nm_lt2, nm_le, nm_le2, nm_ss, nm_sp, pu_ss, pu_snq, pu_neq, eq_self, and_true, true_and, and_false, false_and, or_true, true_or, or_false, false_or, not_true_eq_false, not_false_eq_true, hb, h5, show low + (hi - low) = hi by omega, eX4_lettersAhead_9, w1, w2, hq]
    · simp (disch := omega) only [Option.bind_some, if_true, if_false, Sum.elim_inl, Sum.elim_inr, li0, li1, li2, li3, li4, li5, li6, li7, li8, li9, li10, li12, li16, li20, li24, li25, li31, li32, li40, li41, li42, li48, li57, li59, li97, li104, li105, li124, li126, li240, li241, nI_add, nI_subc, nI_subm, nI_mulc, nI_nm, pu_r, pu_t, pu_a, pu_le_t, pu_le_f, pu_lt_t, pu_lt_f, pu_eq_t, pu_eq_f, nm_eq, nm_eq2, nm_lt, nm_lt2, nm_le, nm_le2, nm_ss, nm_sp, pu_ss, pu_snq, pu_neq, eq_self, and_true, true_and, and_false, false_and, or_true, true_or, or_false, false_or, not_true_eq_false, not_false_eq_true, hb, h5, show low + (hi - low) = hi by omega, eX4_lettersAhead_9, w1, w2, if_neg hq]
theorem enM_lows {T : Nat → Nat} {n r k : Nat} {M : me_M} (h : enM T n r (fun len => nmx T n r + (ct (MX T n r) 241 - ct (MX T n r) (len + 1))) M) (hk : k < ct (MX T n r) 241) : M.1 28 (nmx T n r + k) = nI r := by
  obtain ⟨len, l1, l2, l3⟩ := ct_at (K := MX T n r) 241 (ct (MX T n r) 241 - 1 - k) (by omega)
  have hK : ct (MX T n r) (len + 1) = ct (MX T n r) len + 1 := by rw [ct_s, l2]; rfl
  have := (h len l1 l2).2.1
  simp only [show ct (MX T n r) 241 - ct (MX T n r) (len + 1) = k by omega] at this
  exact this
theorem c_listFrom {T : Nat → Nat} {n low : Nat} {M : me_M} (hT : tx9 T n) (hx : cx T n M) (h1 : 1 ≤ low) (h2 : low < n) (h5 : M.1 26 5 = nI (nmx T n low)) : ∃ M', mX2_listFrom_26 M (nI low) = some M' ∧ fr (fun b k => (b = 26 ∧ k = 5) ∨ ((27 ≤ b ∧ b ≤ 29) ∧ nmx T n low ≤ k)) M M' ∧ M'.1 26 5 = nI (nmx T n (low + 1)) ∧ enM T n low (fun len => nmx T n low + (ct (MX T n low) 241 - ct (MX T n low) (len + 1))) M' := by
  have hn := hT.2.2.2
  have hnb := nmx_b hT
  have hnm : nmx T n (low + 1) ≤ nmx T n (n + 1) := nmx_mono (by omega)
  have hns : nmx T n (low + 1) = nmx T n low + ct (MX T n low) 241 := nmx_s
  have hpl : pa T n low < n := by
    obtain ⟨p1, p2⟩ := pa_ok (r := low) hT.1 (by omega)
    rcases Nat.lt_or_ge (pa T n low) n with z | z
    · exact z
    · rw [show pa T n low = n by omega, rk_n hT.1] at p2; omega
  have hxx : ∀ Mx, fr (fun b k => (b = 26 ∧ k = 5) ∨ ((27 ≤ b ∧ b ≤ 29) ∧ nmx T n low ≤ k)) M Mx → cx T n Mx := fun Mx hf => hx.fr hf (fun b k _ _ => by omega)
  have hlow := hx9_bd (T := T) (n := n) (r := low)
  have hfin : ∀ L, L ≤ hx9 T n low → ct (MX T n low) (L + 1) = 0 := fun L hL => ct_zero _ (fun i hi => by
    cases hc : MX T n low i with
    | false => rfl
    | true => have := MX_up hT (by omega) hc; omega)
  obtain ⟨r, e, hr⟩ := lp_up (b := mX2_listFrom_26_L19 (nI low) (nI (hx9 T n low))) (fun x s => ∃ L Mx, s = (nI L, nI x, Mx) ∧ fr (fun b k => (b = 26 ∧ k = 5) ∨ ((27 ≤ b ∧ b ≤ 29) ∧ nmx T n low ≤ k)) M Mx ∧ L ≤ n ∧ (∀ j, low < j → j < x → L ≤ hx9 T n j) ∧ (x = low + 1 → L = hx9 T n (low + 1)) ∧ (low + 1 < x → ∃ j, low < j ∧ j < x ∧ hx9 T n j = L) ∧ Mx.1 26 5 = nI (nmx T n low + (ct (MX T n low) 241 - ct (MX T n low) (L + 1))) ∧ ∀ len, L < len → len < 241 → MX T n low len = true → Mx.1 27 (nmx T n low + (ct (MX T n low) 241 - ct (MX T n low) (len + 1))) = nI len ∧ Mx.1 28 (nmx T n low + (ct (MX T n low) 241 - ct (MX T n low) (len + 1))) = nI low ∧ Mx.1 29 (nmx T n low + (ct (MX T n low) 241 - ct (MX T n low) (len + 1))) = nI (tm T n (pa T n low) len)) (fun Mx => fr (fun b k => (b = 26 ∧ k = 5) ∨ ((27 ≤ b ∧ b ≤ 29) ∧ nmx T n low ≤ k)) M Mx ∧ Mx.1 26 5 = nI (nmx T n (low + 1)) ∧ enM T n low (fun len => nmx T n low + (ct (MX T n low) 241 - ct (MX T n low) (len + 1))) Mx) (a := low + 1) (N := n + 2) (by omega) (by omega) (fun x s hx1 hx2 hs => by
    obtain ⟨L, Mx, rfl, hf, hLn, hA, hB, hC, h26, hE⟩ := hs
    have hcx := hxx Mx hf
    have c1 := hcx.1.1.1
    by_cases c : L ≤ hx9 T n low
    · right
      refine ⟨Mx, ?_, hf, ?_, fun len hl hM => hE len (by have := MX_up hT (by omega) hM; omega) hl hM⟩
      · simp only [mX2_listFrom_26_L19]
        simp (disch := omega) only [Option.bind_some, if_true, if_false, Sum.elim_inl, Sum.elim_inr, li0, li1, li2, li3, li4, li5, li6, li7, li8, li9, li10, li12, li16, li20, li24, li25, li31, li32, li40, li41, li42, li48, li57, li59, li97, li104, li105, li124, li126, li240, li241, nI_add, nI_subc, nI_subm, nI_mulc, nI_nm, pu_r, pu_t, pu_a, pu_le_t, pu_le_f, pu_lt_t, pu_lt_f, pu_eq_t, pu_eq_f, nm_eq, nm_eq2, nm_lt, nm_lt2, nm_le, nm_le2, nm_ss, nm_sp, pu_ss, pu_snq, pu_neq, eq_self, and_true, true_and, and_false, false_and, or_true, true_or, or_false, false_or, not_true_eq_false, not_false_eq_true, c1]
      · rw [h26, hfin L c, Nat.sub_zero, hns]
    · left
      have hal := c_alike9 hT hcx (show x ≤ n + 1 by omega)
      have hab := hx9_bd (T := T) (n := n) (r := x)
      by_cases d : L ≤ hx9 T n x
      · refine ⟨(nI L, nI (x + 1), Mx), ?_, L, Mx, rfl, hf, hLn, fun j j1 j2 => ?_, fun z => by omega, fun _ => ?_, h26, hE⟩
        · simp only [mX2_listFrom_26_L19, mX2_listFrom_26_J65]
          simp (disch := omega) only [Option.bind_some, if_true, if_false, Sum.elim_inl, Sum.elim_inr, li0, li1, li2, li3, li4, li5, li6, li7, li8, li9, li10, li12, li16, li20, li24, li25, li31, li32, li40, li41, li42, li48, li57, li59, li97, li104, li105, li124, li126, li240, li241, nI_add, nI_subc, nI_subm, nI_mulc, nI_nm, pu_r, pu_t, pu_a, pu_le_t, pu_le_f, pu_lt_t, pu_lt_f, pu_eq_t, pu_eq_f, nm_eq, nm_eq2, nm_lt, nm_lt2, nm_le, nm_le2, nm_ss, nm_sp, pu_ss, pu_snq, pu_neq, eq_self, and_true, true_and, and_false, false_and, or_true, true_or, or_false, false_or, not_true_eq_false, not_false_eq_true, c1, hal]
        · by_cases z : j = x
          · rw [z]; exact d
          · exact hA j j1 (by omega)
        · by_cases z : x = low + 1
          · exact ⟨low + 1, by omega, by omega, (hB z).symm⟩
          · obtain ⟨j, j1, j2, j3⟩ := hC (by omega)
            exact ⟨j, j1, by omega, j3⟩
      · have hxl : low + 1 < x := by
          rcases Nat.lt_or_ge (low + 1) x with z | z
          · exact z
          · have z2 : x = low + 1 := by omega
            rw [hB z2, z2] at d
            omega
        obtain ⟨j, j1, j2, j3⟩ := hC hxl
        have hd9 : ∀ j, low < j → j < x → hx9 T n j = hd T n j := fun j _ _ => hx9_le (by omega)
        have hAd : ∀ j, low < j → j < x → L ≤ hd T n j := fun j a b => by rw [← hd9 j a b]; exact hA j a b
        have hisM := isM_int hT (show 1 ≤ L by omega) h1 hxl (show x ≤ n + 1 by omega) (show hx9 T n low < L by omega) (show hx9 T n x < L by omega) hAd
        have htm := tm_int hT.1 (show 1 ≤ L by omega) (Nat.le_refl low) (show low < x by omega) (show x ≤ n + 1 by omega) (show hx9 T n low < L by omega) (show hx9 T n x < L by omega) hAd hpl
        have htw : L ≤ tw T n (pa T n low) := by
          obtain ⟨p1, p2⟩ := pa_ok (r := low) hT.1 (by omega)
          have q := tw_rows hT.1 p1
          rw [p2] at q
          have := hA (low + 1) (by omega) hxl
          omega
        have hMXL : MX T n low L = decide (∃ i, i < x ∧ low ≤ i ∧ (bf T (pa T n i) < 2 ∨ bf T (pa T n i) ≠ bf T (pa T n low))) := by
          rw [Bool.eq_iff_iff, decide_eq_true_eq, MX_iff]
          refine ⟨fun z => ?_, fun ⟨i, i1, i2, i3⟩ => ⟨by rw [hx9_le (by omega)] at c; omega, htw, hpl, hisM.mpr ⟨⟨j, j1, j2, by rw [← hd9 j j1 j2]; exact j3⟩, i, i2, i1, i3⟩⟩⟩
          obtain ⟨i, i1, i2, i3⟩ := (hisM.mp z.2.2.2).2
          exact ⟨i, i2, i1, i3⟩
        have hgap : ∀ len, hx9 T n x < len → len < L → MX T n low len = false := fun len l1 l2 => by
          cases hc : MX T n low len with
          | false => rfl
          | true =>
            exfalso
            obtain ⟨y1, y2, y3, y4⟩ := MX_iff.mp hc
            have hlo := (MX_up hT (by omega) hc).1
            have := (isM_int hT (show 1 ≤ len by omega) h1 hxl (show x ≤ n + 1 by omega) hlo l1 (fun j a b => by have := hAd j a b; omega)).mp y4
            obtain ⟨⟨j', a, b, e'⟩, -⟩ := this
            have := hAd j' a b
            omega
        have hKL : ct (MX T n low) L = ct (MX T n low) (hx9 T n x + 1) := ct_cut L (by omega) (fun i i1 i2 => hgap i (by omega) i2)
        have hK1 : ct (MX T n low) (L + 1) = ct (MX T n low) L + (if MX T n low L = true then 1 else 0) := ct_s _ _
        have hKt : ct (MX T n low) (L + 1) ≤ ct (MX T n low) 241 := ct_mono' _ (by omega)
        cases hM : MX T n low L with
        | true =>
          rw [hM, if_pos rfl] at hK1
          have had := c_addMax (low := low) (hi := x) (L := L) (c := nmx T n low + (ct (MX T n low) 241 - ct (MX T n low) (L + 1))) hT hcx (by omega) (by omega) (by omega) h26 (by omega)
          rw [← hMXL, hM, if_pos rfl] at had
          refine ⟨(nI (hx9 T n x), nI (x + 1), me_s (me_s (me_s (me_s Mx 27 (nmx T n low + (ct (MX T n low) 241 - ct (MX T n low) (L + 1))) (nI L)) 28 (nmx T n low + (ct (MX T n low) 241 - ct (MX T n low) (L + 1))) (nI low)) 29 (nmx T n low + (ct (MX T n low) 241 - ct (MX T n low) (L + 1))) (nI (x - low))) 26 5 (nI (nmx T n low + (ct (MX T n low) 241 - ct (MX T n low) (L + 1)) + 1))), ?_, hx9 T n x, _, rfl, (((hf.st (by omega)).st (by omega)).st (by omega)).st (by omega), hab, fun j' a b => ?_, fun z => by omega, fun _ => ⟨x, by omega, by omega, rfl⟩, ?_, fun len l1 l2 l3 => ?_⟩
          · simp only [mX2_listFrom_26_L19, mX2_listFrom_26_J65]
            simp (disch := omega) only [Option.bind_some, if_true, if_false, Sum.elim_inl, Sum.elim_inr, li0, li1, li2, li3, li4, li5, li6, li7, li8, li9, li10, li12, li16, li20, li24, li25, li31, li32, li40, li41, li42, li48, li57, li59, li97, li104, li105, li124, li126, li240, li241, nI_add, nI_subc, nI_subm, nI_mulc, nI_nm, pu_r, pu_t, pu_a, pu_le_t, pu_le_f, pu_lt_t, pu_lt_f, pu_eq_t, pu_eq_f, nm_eq, nm_eq2, nm_lt, nm_lt2, nm_le, nm_le2, nm_ss, nm_sp, pu_ss, pu_snq, pu_neq, eq_self, and_true, true_and, and_false, false_and, or_true, true_or, or_false, false_or, not_true_eq_false, not_false_eq_true, c1, hal, had]
          · by_cases z : j' = x
            · rw [z]; exact Nat.le_refl _
            · have := hA j' a (by omega); omega
          · rw [pu_ss]
            congr 1
            omega
          · by_cases z : len = L
            · subst z
              refine ⟨?_, ?_, ?_⟩
              · simp (disch := omega) only [Option.bind_some, if_true, if_false, Sum.elim_inl, Sum.elim_inr, li0, li1, li2, li3, li4, li5, li6, li7, li8, li9, li10, li12, li16, li20, li24, li25, li31, li32, li40, li41, li42, li48, li57, li59, li97, li104, li105, li124, li126, li240, li241, nI_add, nI_subc, nI_subm, nI_mulc, nI_nm, pu_r, pu_t, pu_a, pu_le_t, pu_le_f, pu_lt_t, pu_lt_f, pu_eq_t, pu_eq_f, nm_eq, nm_eq2, nm_lt, nm_lt2, nm_le, nm_le2, nm_ss, nm_sp, pu_ss, pu_snq, pu_neq, eq_self, and_true, true_and, and_false, false_and, or_true, true_or, or_false, false_or, not_true_eq_false, not_false_eq_true]
              · simp (disch := omega) only [Option.bind_some, if_true, if_false, Sum.elim_inl, Sum.elim_inr, li0, li1, li2, li3, li4, li5, li6, li7, li8, li9, li10, li12, li16, li20, li24, li25, li31, li32, li40, li41, li42, li48, li57, li59, li97, li104, li105, li124, li126, li240, li241, nI_add, nI_subc, nI_subm, nI_mulc, nI_nm, pu_r, pu_t, pu_a, pu_le_t, pu_le_f, pu_lt_t, pu_lt_f, pu_eq_t, pu_eq_f, nm_eq, nm_eq2, nm_lt, nm_lt2, nm_le, nm_le2, nm_ss, nm_sp, pu_ss, pu_snq, pu_neq, eq_self, and_true, true_and, and_false, false_and, or_true, true_or, or_false, false_or, not_true_eq_false, not_false_eq_true]
              · simp (disch := omega) only [Option.bind_some, if_true, if_false, Sum.elim_inl, Sum.elim_inr, li0, li1, li2, li3, li4, li5, li6, li7, li8, li9, li10, li12, li16, li20, li24, li25, li31, li32, li40, li41, li42, li48, li57, li59, li97, li104, li105, li124, li126, li240, li241, nI_add, nI_subc, nI_subm, nI_mulc, nI_nm, pu_r, pu_t, pu_a, pu_le_t, pu_le_f, pu_lt_t, pu_lt_f, pu_eq_t, pu_eq_f, nm_eq, nm_eq2, nm_lt, nm_lt2, nm_le, nm_le2, nm_ss, nm_sp, pu_ss, pu_snq, pu_neq, eq_self, and_true, true_and, and_false, false_and, or_true, true_or, or_false, false_or, not_true_eq_false, not_false_eq_true, htm]
            · have hlL : L < len := by
                rcases Nat.lt_or_ge L len with q | q
                · exact q
                · rw [hgap len l1 (by omega)] at l3; cases l3
              have hKlen : ct (MX T n low) (len + 1) = ct (MX T n low) len + 1 := by rw [ct_s, l3]; rfl
              have hKm : ct (MX T n low) (L + 1) ≤ ct (MX T n low) len := ct_mono' _ (by omega)
              have hKt2 : ct (MX T n low) (len + 1) ≤ ct (MX T n low) 241 := ct_mono' _ (by omega)
              obtain ⟨q1, q2, q3⟩ := hE len hlL l2 l3
              simp (disch := omega) only [Option.bind_some, if_true, if_false, Sum.elim_inl, Sum.elim_inr, li0, li1, li2, li3, li4, li5, li6, li7, li8, li9, li10, li12, li16, li20, li24, li25, li31, li32, li40, li41, li42, li48, li57, li59, li97, li104, li105, li124, li126, li240, li241, nI_add, nI_subc, nI_subm, nI_mulc, nI_nm, pu_r, pu_t, pu_a, pu_le_t, pu_le_f, pu_lt_t, pu_lt_f, pu_eq_t, pu_eq_f, nm_eq, nm_eq2, nm_lt, nm_lt2, nm_le, nm_le2, nm_ss, nm_sp, pu_ss, pu_snq, pu_neq, eq_self, and_true, true_and, and_false, false_and, or_true, true_or, or_false, false_or, not_true_eq_false, not_false_eq_true]
              exact ⟨q1, q2, q3⟩
        | false =>
          rw [hM, if_neg (by decide)] at hK1
          have hK2 : ct (MX T n low) (L + 1) = ct (MX T n low) (hx9 T n x + 1) := by omega
          have had : mX2_addIfMaximal_26 Mx (nI L) (nI low) (nI (x - low)) = some Mx := by
            by_cases hfull : nmx T n low + (ct (MX T n low) 241 - ct (MX T n low) (L + 1)) < 240
            · have had := c_addMax (low := low) (hi := x) (L := L) (c := nmx T n low + (ct (MX T n low) 241 - ct (MX T n low) (L + 1))) hT hcx (by omega) (by omega) (by omega) h26 hfull
              rw [← hMXL, hM] at had
              exact had
            · exact c_addFull hT hcx (by omega) (by omega) h26 (by omega) (by omega)
          refine ⟨(nI (hx9 T n x), nI (x + 1), Mx), ?_, hx9 T n x, Mx, rfl, hf, hab, fun j' a b => ?_, fun z => by omega, fun _ => ⟨x, by omega, by omega, rfl⟩, by rw [← hK2]; exact h26, fun len l1 l2 l3 => ?_⟩
          · simp only [mX2_listFrom_26_L19, mX2_listFrom_26_J65]
            simp (disch := omega) only [Option.bind_some, if_true, if_false, Sum.elim_inl, Sum.elim_inr, li0, li1, li2, li3, li4, li5, li6, li7, li8, li9, li10, li12, li16, li20, li24, li25, li31, li32, li40, li41, li42, li48, li57, li59, li97, li104, li105, li124, li126, li240, li241, nI_add, nI_subc, nI_subm, nI_mulc, nI_nm, pu_r, pu_t, pu_a, pu_le_t, pu_le_f, pu_lt_t, pu_lt_f, pu_eq_t, pu_eq_f, nm_eq, nm_eq2, nm_lt, nm_lt2, nm_le, nm_le2, nm_ss, nm_sp, pu_ss, pu_snq, pu_neq, eq_self, and_true, true_and, and_false, false_and, or_true, true_or, or_false, false_or, not_true_eq_false, not_false_eq_true, c1, hal, had]
          · by_cases z : j' = x
            · rw [z]; exact Nat.le_refl _
            · have := hA j' a (by omega); omega
          · refine hE len ?_ l2 l3
            rcases Nat.lt_or_ge L len with q | q
            · exact q
            · by_cases z : len = L
              · rw [z, hM] at l3; cases l3
              · rw [hgap len l1 (by omega)] at l3; cases l3) (fun s hs => by
    obtain ⟨L, Mx, rfl, hf, hLn, hA, hB, hC, h26, hE⟩ := hs
    have hcx := hxx Mx hf
    have hL0 := hA (n + 1) (by omega) (by omega)
    rw [show hx9 T n (n + 1) = 0 from if_neg (by omega)] at hL0
    refine ⟨Mx, ?_, hf, ?_, fun len hl hM => hE len (by have := MX_up hT (by omega) hM; omega) hl hM⟩
    · simp only [mX2_listFrom_26_L19]
      simp (disch := omega) only [Option.bind_some, if_true, if_false, Sum.elim_inl, Sum.elim_inr, li0, li1, li2, li3, li4, li5, li6, li7, li8, li9, li10, li12, li16, li20, li24, li25, li31, li32, li40, li41, li42, li48, li57, li59, li97, li104, li105, li124, li126, li240, li241, nI_add, nI_subc, nI_subm, nI_mulc, nI_nm, pu_r, pu_t, pu_a, pu_le_t, pu_le_f, pu_lt_t, pu_lt_f, pu_eq_t, pu_eq_f, nm_eq, nm_eq2, nm_lt, nm_lt2, nm_le, nm_le2, nm_ss, nm_sp, pu_ss, pu_snq, pu_neq, eq_self, and_true, true_and, and_false, false_and, or_true, true_or, or_false, false_or, not_true_eq_false, not_false_eq_true, hcx.1.1.1]
    · rw [h26, hfin L (by omega), Nat.sub_zero, hns]) (s0 := (nI (hx9 T n (low + 1)), nI (low + 1), M)) ⟨hx9 T n (low + 1), M, rfl, fr.rf, hx9_bd, fun j a b => by omega, fun _ => rfl, fun z => by omega, by
      have : ct (MX T n low) 241 = ct (MX T n low) (hx9 T n (low + 1) + 1) := ct_cut 241 (by have := hx9_bd (T := T) (n := n) (r := low + 1); omega) (fun i i1 i2 => by
        cases hc : MX T n low i with
        | false => rfl
        | true => have := MX_up hT (by omega) hc; omega)
      rw [← this, Nat.sub_self]; exact h5, fun len l1 l2 l3 => by have := MX_up hT (by omega) l3; omega⟩
  refine ⟨r, ?_, hr⟩
  have a1 := c_alike9 hT hx (show low ≤ n + 1 by omega)
  have a2 := c_alike9 hT hx (show low + 1 ≤ n + 1 by omega)
  unfold mX2_listFrom_26
  simp (disch := omega) only [Option.bind_some, if_true, if_false, Sum.elim_inl, Sum.elim_inr, li0, li1, li2, li3, li4, li5, li6, li7, li8, li9, li10, li12, li16, li20, li24, li25, li31, li32, li40, li41, li42, li48, li57, li59, li97, li104, li105, li124, li126, li240, li241, nI_add, nI_subc, nI_subm, nI_mulc, nI_nm, pu_r, pu_t, pu_a, pu_le_t, pu_le_f, pu_lt_t, pu_lt_f, pu_eq_t, pu_eq_f, nm_eq, nm_eq2, nm_lt, nm_lt2, nm_le, nm_le2, nm_ss, nm_sp, pu_ss, pu_snq, pu_neq, eq_self, and_true, true_and, and_false, false_and, or_true, true_or, or_false, false_or, not_true_eq_false, not_false_eq_true, a1, a2, e]
/-- a stretch turned round -/
theorem c_turn {b tot : Nat} {a c : Nat → Int32} {M : me_M} (hb : b + tot ≤ 240) (h5 : M.1 26 5 = nI (b + tot)) (ha : ∀ k, k < tot → M.1 27 (b + k) = a k ∧ M.1 29 (b + k) = c k) : ∃ M', mX2_turnRound_26 M (nI b) = some M' ∧ fr (fun x k => (x = 27 ∨ x = 29) ∧ b ≤ k) M M' ∧ ∀ k, k < tot → M'.1 27 (b + k) = a (tot - 1 - k) ∧ M'.1 29 (b + k) = c (tot - 1 - k) := by
  obtain ⟨r, e, hr⟩ := lp_up (b := mX2_turnRound_26_L9) (fun y s => ∃ Mx, s = (nI (b + y), dn (b + tot - y), Mx) ∧ fr (fun x k => (x = 27 ∨ x = 29) ∧ b ≤ k) M Mx ∧ ∀ k, k < tot → (k < y ∨ tot ≤ k + y → Mx.1 27 (b + k) = a (tot - 1 - k) ∧ Mx.1 29 (b + k) = c (tot - 1 - k)) ∧ (y ≤ k → k + y < tot → Mx.1 27 (b + k) = a k ∧ Mx.1 29 (b + k) = c k)) (fun r => fr (fun x k => (x = 27 ∨ x = 29) ∧ b ≤ k) M r ∧ ∀ k, k < tot → r.1 27 (b + k) = a (tot - 1 - k) ∧ r.1 29 (b + k) = c (tot - 1 - k)) (a := 0) (N := tot / 2) (by omega) (by omega) (fun y s _ hy hs => by
    obtain ⟨Mx, rfl, hf, hI⟩ := hs
    left
    have hy2 : 2 * y + 2 ≤ tot := by omega
    have e1 : dn (b + tot - y) = nI (b + (tot - 1 - y)) := by rw [show b + tot - y = b + (tot - 1 - y) + 1 by omega, dn_s]
    have g1 := (hI y (by omega)).2 (Nat.le_refl _) (by omega)
    have g2 := (hI (tot - 1 - y) (by omega)).2 (by omega) (by omega)
    refine ⟨(nI (b + (y + 1)), dn (b + tot - (y + 1)), me_s (me_s (me_s (me_s Mx 27 (b + y) (a (tot - 1 - y))) 27 (b + (tot - 1 - y)) (a y)) 29 (b + y) (c (tot - 1 - y))) 29 (b + (tot - 1 - y)) (c y)), ?_, _, rfl, (((hf.st (by omega)).st (by omega)).st (by omega)).st (by omega), fun k hk => ⟨fun z => ?_, fun z1 z2 => ?_⟩⟩
    · simp only [mX2_turnRound_26_L9, mX2_exchange_27, mX2_exchange_29]
      rw [e1]
      simp (disch := omega) only [Option.bind_some, if_true, if_false, Sum.elim_inl, Sum.elim_inr, li0, li1, li2, li3, li4, li5, li6, li7, li8, li9, li10, li12, li16, li20, li24, li25, li31, li32, li40, li41, li42, li48, li57, li59, li97, li104, li105, li124, li126, li240, li241, nI_add, nI_subc, nI_subm, nI_mulc, pu_r, pu_t, pu_a, pu_le_t, pu_le_f, pu_lt_t, pu_lt_f, pu_eq_t, pu_eq_f, nm_eq, nm_eq2, nm_lt, nm_lt2, nm_le, nm_le2, nm_ss, nm_sp, pu_ss, pu_snq, pu_neq, eq_self, and_true, true_and, and_false, false_and, or_true, true_or, or_false, false_or, not_true_eq_false, not_false_eq_true, g1.1, g1.2, g2.1, g2.2, show b + y + 1 = b + (y + 1) by omega, dn_p, show b + tot - (y + 1) = b + (tot - 1 - y) by omega]
    · by_cases k1 : k = y
      · subst k1
        exact ⟨by simp (disch := omega) only [Option.bind_some, if_true, if_false, Sum.elim_inl, Sum.elim_inr, li0, li1, li2, li3, li4, li5, li6, li7, li8, li9, li10, li12, li16, li20, li24, li25, li31, li32, li40, li41, li42, li48, li57, li59, li97, li104, li105, li124, li126, li240, li241, nI_add, nI_subc, nI_subm, nI_mulc, nI_nm, pu_r, pu_t, pu_a, pu_le_t, pu_le_f, pu_lt_t, pu_lt_f, pu_eq_t, pu_eq_f, nm_eq, nm_eq2, nm_lt, nm_lt2, nm_le, nm_le2, nm_ss, nm_sp, pu_ss, pu_snq, pu_neq, eq_self, and_true, true_and, and_false, false_and, or_true, true_or, or_false, false_or, not_true_eq_false, not_false_eq_true], by simp (disch := omega) only [Option.bind_some, if_true, if_false, Sum.elim_inl, Sum.elim_inr, li0, li1, li2, li3, li4, li5, li6, li7, li8, li9, li10, li12, li16, li20, li24, li25, li31, li32, li40, li41, li42, li48, li57, li59, li97, li104, li105, li124, li126, li240, li241, nI_add, nI_subc, nI_subm, nI_mulc, nI_nm, pu_r, pu_t, pu_a, pu_le_t, pu_le_f, pu_lt_t, pu_lt_f, pu_eq_t, pu_eq_f, nm_eq, nm_eq2, nm_lt, nm_lt2, nm_le, nm_le2, nm_ss, nm_sp, pu_ss, pu_snq, pu_neq, eq_self, and_true, true_and, and_false, false_and, or_true, true_or, or_false, false_or, not_true_eq_false, not_false_eq_true]⟩
      · by_cases k2 : k = tot - 1 - y
        · subst k2
          rw [show tot - 1 - (tot - 1 - y) = y by omega]
          exact ⟨by simp (disch := omega) only [Option.bind_some, if_true, if_false, Sum.elim_inl, Sum.elim_inr, li0, li1, li2, li3, li4, li5, li6, li7, li8, li9, li10, li12, li16, li20, li24, li25, li31, li32, li40, li41, li42, li48, li57, li59, li97, li104, li105, li124, li126, li240, li241, nI_add, nI_subc, nI_subm, nI_mulc, nI_nm, pu_r, pu_t, pu_a, pu_le_t, pu_le_f, pu_lt_t, pu_lt_f, pu_eq_t, pu_eq_f, nm_eq, nm_eq2, nm_lt, nm_lt2, nm_le, nm_le2, nm_ss, nm_sp, pu_ss, pu_snq, pu_neq, eq_self, and_true, true_and, and_false, false_and, or_true, true_or, or_false, false_or, not_true_eq_false, not_false_eq_true], by simp (disch := omega) only [Option.bind_some, if_true, if_false, Sum.elim_inl, Sum.elim_inr, li0, li1, li2, li3, li4, li5, li6, li7, li8, li9, li10, li12, li16, li20, li24, li25, li31, li32, li40, li41, li42, li48, li57, li59, li97, li104, li105, li124, li126, li240, li241, nI_add, nI_subc, nI_subm, nI_mulc, nI_nm, pu_r, pu_t, pu_a, pu_le_t, pu_le_f, pu_lt_t, pu_lt_f, pu_eq_t, pu_eq_f, nm_eq, nm_eq2, nm_lt, nm_lt2, nm_le, nm_le2, nm_ss, nm_sp, pu_ss, pu_snq, pu_neq, eq_self, and_true, true_and, and_false, false_and, or_true, true_or, or_false, false_or, not_true_eq_false, not_false_eq_true]⟩
        · have := (hI k hk).1 (by omega)
          simp (disch := omega) only [Option.bind_some, if_true, if_false, Sum.elim_inl, Sum.elim_inr, li0, li1, li2, li3, li4, li5, li6, li7, li8, li9, li10, li12, li16, li20, li24, li25, li31, li32, li40, li41, li42, li48, li57, li59, li97, li104, li105, li124, li126, li240, li241, nI_add, nI_subc, nI_subm, nI_mulc, nI_nm, pu_r, pu_t, pu_a, pu_le_t, pu_le_f, pu_lt_t, pu_lt_f, pu_eq_t, pu_eq_f, nm_eq, nm_eq2, nm_lt, nm_lt2, nm_le, nm_le2, nm_ss, nm_sp, pu_ss, pu_snq, pu_neq, eq_self, and_true, true_and, and_false, false_and, or_true, true_or, or_false, false_or, not_true_eq_false, not_false_eq_true]
          exact this
    · have := (hI k hk).2 (by omega) (by omega)
      simp (disch := omega) only [Option.bind_some, if_true, if_false, Sum.elim_inl, Sum.elim_inr, li0, li1, li2, li3, li4, li5, li6, li7, li8, li9, li10, li12, li16, li20, li24, li25, li31, li32, li40, li41, li42, li48, li57, li59, li97, li104, li105, li124, li126, li240, li241, nI_add, nI_subc, nI_subm, nI_mulc, nI_nm, pu_r, pu_t, pu_a, pu_le_t, pu_le_f, pu_lt_t, pu_lt_f, pu_eq_t, pu_eq_f, nm_eq, nm_eq2, nm_lt, nm_lt2, nm_le, nm_le2, nm_ss, nm_sp, pu_ss, pu_snq, pu_neq, eq_self, and_true, true_and, and_false, false_and, or_true, true_or, or_false, false_or, not_true_eq_false, not_false_eq_true]
      exact this) (fun s hs => by
    obtain ⟨Mx, rfl, hf, hI⟩ := hs
    refine ⟨Mx, ?_, hf, fun k hk => ?_⟩
    · simp only [mX2_turnRound_26_L9]
      rcases hz : b + tot - tot / 2 with _ | z
      · simp (disch := omega) only [Option.bind_some, if_true, if_false, Sum.elim_inl, Sum.elim_inr, li0, li1, li2, li3, li4, li5, li6, li7, li8, li9, li10, li12, li16, li20, li24, li25, li31, li32, li40, li41, li42, li48, li57, li59, li97, li104, li105, li124, li126, li240, li241, nI_add, nI_subc, nI_subm, nI_mulc, nI_nm, pu_r, pu_t, pu_a, pu_le_t, pu_le_f, pu_lt_t, pu_lt_f, pu_eq_t, pu_eq_f, nm_eq, nm_eq2, nm_lt, nm_lt2, nm_le, nm_le2, nm_ss, nm_sp, pu_ss, pu_snq, pu_neq, eq_self, and_true, true_and, and_false, false_and, or_true, true_or, or_false, false_or, not_true_eq_false, not_false_eq_true, dn_0]
      · simp (disch := omega) only [Option.bind_some, if_true, if_false, Sum.elim_inl, Sum.elim_inr, li0, li1, li2, li3, li4, li5, li6, li7, li8, li9, li10, li12, li16, li20, li24, li25, li31, li32, li40, li41, li42, li48, li57, li59, li97, li104, li105, li124, li126, li240, li241, nI_add, nI_subc, nI_subm, nI_mulc, nI_nm, pu_r, pu_t, pu_a, pu_le_t, pu_le_f, pu_lt_t, pu_lt_f, pu_eq_t, pu_eq_f, nm_eq, nm_eq2, nm_lt, nm_lt2, nm_le, nm_le2, nm_ss, nm_sp, pu_ss, pu_snq, pu_neq, eq_self, and_true, true_and, and_false, false_and, or_true, true_or, or_false, false_or, not_true_eq_false, not_false_eq_true, dn_s]
    · by_cases c1 : k < tot / 2 ∨ tot ≤ k + tot / 2
      · exact (hI k hk).1 c1
      · have := (hI k hk).2 (by omega) (by omega)
        rw [show tot - 1 - k = k by omega]
        exact this) (s0 := (nI b, dn (b + tot), M)) ⟨M, rfl, fr.rf, fun k hk => ⟨fun z => by omega, fun _ _ => ha k hk⟩⟩
  refine ⟨r, ?_, hr⟩
  unfold mX2_turnRound_26
  rw [h5, li1, dn_m, e]
  rfl
theorem c_listMax {T : Nat → Nat} {n : Nat} {M : me_M} (hT : tx9 T n) (hx : cx T n M) : ∃ M', mX2_listMaximals_26 M = some M' ∧ fr (fun b k => (b = 26 ∧ k = 5) ∨ (27 ≤ b ∧ b ≤ 29)) M M' ∧ mls T n M' := by
  have hn := hT.2.2.2
  have hnb := nmx_b hT
  have hz : ∀ r, (r = 0 ∨ r = n) → ct (MX T n r) 241 = 0 := fun r hr => ct_zero _ (fun i _ => by
    cases hc : MX T n r i with
    | false => rfl
    | true =>
      exfalso
      have q := MX_rows hT (show r ≤ n by omega) hc
      obtain ⟨q1, q2, hi, q3, q4, -⟩ := q
      omega)
  obtain ⟨r, e, hr⟩ := lp_up (b := mX2_listMaximals_26_L7) (fun low s => ∃ Mx, s = (nI low, Mx) ∧ fr (fun b k => (b = 26 ∧ k = 5) ∨ (27 ≤ b ∧ b ≤ 29)) M Mx ∧ Mx.1 26 5 = nI (nmx T n low) ∧ ∀ r, r < low → enM T n r (fun len => nmx T n r + ct (MX T n r) len) Mx) (fun Mx => fr (fun b k => (b = 26 ∧ k = 5) ∨ (27 ≤ b ∧ b ≤ 29)) M Mx ∧ Mx.1 26 5 = nI (nmx T n n) ∧ ∀ r, r < n → enM T n r (fun len => nmx T n r + ct (MX T n r) len) Mx) (a := 1) (N := n) (by have := hT.2.2.1; omega) (by omega) (fun low s hl1 hl2 hs => by
    obtain ⟨Mx, rfl, hf, h26, hE⟩ := hs
    left
    have hcx : cx T n Mx := hx.fr hf (fun b k _ _ => by omega)
    obtain ⟨M2, e2, f2, g2, k2⟩ := c_listFrom hT hcx hl1 hl2 h26
    have hns : nmx T n (low + 1) = nmx T n low + ct (MX T n low) 241 := nmx_s
    have hnm : nmx T n (low + 1) ≤ nmx T n (n + 1) := nmx_mono (by omega)
    obtain ⟨M3, e3, f3, g3⟩ := c_turn (b := nmx T n low) (tot := ct (MX T n low) 241) (a := fun k => M2.1 27 (nmx T n low + k)) (c := fun k => M2.1 29 (nmx T n low + k)) (M := M2) (by omega) (by rw [← hns]; exact g2) (fun k hk => ⟨rfl, rfl⟩)
    refine ⟨(nI (low + 1), M3), ?_, M3, rfl, hf.tr ((f2.up (fun b k h => by omega)).tr (f3.up (fun b k h => by omega))), by rw [f3.2 _ _ (by omega)]; exact g2, fun r hr len hlen hM => ?_⟩
    · simp only [mX2_listMaximals_26_L7]
      simp (disch := omega) only [Option.bind_some, if_true, if_false, Sum.elim_inl, Sum.elim_inr, li0, li1, li2, li3, li4, li5, li6, li7, li8, li9, li10, li12, li16, li20, li24, li25, li31, li32, li40, li41, li42, li48, li57, li59, li97, li104, li105, li124, li126, li240, li241, nI_add, nI_subc, nI_subm, nI_mulc, nI_nm, pu_r, pu_t, pu_a, pu_le_t, pu_le_f, pu_lt_t, pu_lt_f, pu_eq_t, pu_eq_f, nm_eq, nm_eq2, nm_lt, nm_lt2, nm_le, nm_le2, nm_ss, nm_sp, pu_ss, pu_snq, pu_neq, eq_self, and_true, true_and, and_false, false_and, or_true, true_or, or_false, false_or, not_true_eq_false, not_false_eq_true, hcx.1.1.1, e2, h26, e3]
    · by_cases c : r = low
      · subst c
        have hK : ct (MX T n r) (len + 1) = ct (MX T n r) len + 1 := by rw [ct_s, hM]; rfl
        have hKt : ct (MX T n r) (len + 1) ≤ ct (MX T n r) 241 := ct_mono' _ (by omega)
        obtain ⟨q1, q2, q3⟩ := k2 len hlen hM
        have q1 : M2.1 27 (nmx T n r + (ct (MX T n r) 241 - ct (MX T n r) (len + 1))) = nI len := q1
        have q3 : M2.1 29 (nmx T n r + (ct (MX T n r) 241 - ct (MX T n r) (len + 1))) = nI (tm T n (pa T n r) len) := q3
        have g := g3 (ct (MX T n r) len) (by omega)
        rw [show ct (MX T n r) 241 - 1 - ct (MX T n r) len = ct (MX T n r) 241 - ct (MX T n r) (len + 1) by omega] at g
        refine ⟨by rw [g.1]; exact q1, ?_, by rw [g.2]; exact q3⟩
        rw [f3.2 _ _ (by omega)]
        exact enM_lows k2 (by omega)
      · have hK : ct (MX T n r) (len + 1) = ct (MX T n r) len + 1 := by rw [ct_s, hM]; rfl
        have hKt : ct (MX T n r) (len + 1) ≤ ct (MX T n r) 241 := ct_mono' _ (by omega)
        have hnr : nmx T n (r + 1) ≤ nmx T n low := nmx_mono (by omega)
        have hns2 : nmx T n (r + 1) = nmx T n r + ct (MX T n r) 241 := nmx_s
        show M3.1 27 (nmx T n r + ct (MX T n r) len) = nI len ∧ M3.1 28 (nmx T n r + ct (MX T n r) len) = nI r ∧ M3.1 29 (nmx T n r + ct (MX T n r) len) = nI (tm T n (pa T n r) len)
        rw [f3.2 27 _ (by omega), f3.2 28 _ (by omega), f3.2 29 _ (by omega), f2.2 27 _ (by omega), f2.2 28 _ (by omega), f2.2 29 _ (by omega)]
        exact hE r (by omega) len hlen hM) (fun s hs => by
    obtain ⟨Mx, rfl, hf, h26, hE⟩ := hs
    have hcx : cx T n Mx := hx.fr hf (fun b k _ _ => by omega)
    refine ⟨Mx, ?_, hf, h26, hE⟩
    simp only [mX2_listMaximals_26_L7]
    simp (disch := omega) only [Option.bind_some, if_true, if_false, Sum.elim_inl, Sum.elim_inr, li0, li1, li2, li3, li4, li5, li6, li7, li8, li9, li10, li12, li16, li20, li24, li25, li31, li32, li40, li41, li42, li48, li57, li59, li97, li104, li105, li124, li126, li240, li241, nI_add, nI_subc, nI_subm, nI_mulc, nI_nm, pu_r, pu_t, pu_a, pu_le_t, pu_le_f, pu_lt_t, pu_lt_f, pu_eq_t, pu_eq_f, nm_eq, nm_eq2, nm_lt, nm_lt2, nm_le, nm_le2, nm_ss, nm_sp, pu_ss, pu_snq, pu_neq, eq_self, and_true, true_and, and_false, false_and, or_true, true_or, or_false, false_or, not_true_eq_false, not_false_eq_true, hcx.1.1.1]) (s0 := (nI 1, me_s M 26 5 (nI 0))) ⟨_, rfl, fr.s (by omega), by
      rw [pu_ss, show nmx T n 1 = nmx T n 0 + ct (MX T n 0) 241 from rfl, hz 0 (Or.inl rfl)]; rfl, fun r hr len hlen hM => by
      have := hz r (by omega)
      have h1 : ct (MX T n r) (len + 1) = ct (MX T n r) len + 1 := by rw [ct_s, hM]; rfl
      have h2 : ct (MX T n r) (len + 1) ≤ ct (MX T n r) 241 := ct_mono' _ (by omega)
      omega⟩
  obtain ⟨hf, h26, hE⟩ := hr
  have hnn : nmx T n (n + 1) = nmx T n n := by rw [nmx_s, hz n (Or.inr rfl), Nat.add_zero]
  refine ⟨r, ?_, hf, by rw [hnn]; exact h26, by omega, fun r' len hr' hlen hM => ?_⟩
  · unfold mX2_listMaximals_26
    simp (disch := omega) only [Option.bind_some, if_true, if_false, Sum.elim_inl, Sum.elim_inr, li0, li1, li2, li3, li4, li5, li6, li7, li8, li9, li10, li12, li16, li20, li24, li25, li31, li32, li40, li41, li42, li48, li57, li59, li97, li104, li105, li124, li126, li240, li241, nI_add, nI_subc, nI_subm, nI_mulc, nI_nm, pu_r, pu_t, pu_a, pu_le_t, pu_le_f, pu_lt_t, pu_lt_f, pu_eq_t, pu_eq_f, nm_eq, nm_eq2, nm_lt, nm_lt2, nm_le, nm_le2, nm_ss, nm_sp, pu_ss, pu_snq, pu_neq, eq_self, and_true, true_and, and_false, false_and, or_true, true_or, or_false, false_or, not_true_eq_false, not_false_eq_true, e]
  · by_cases c : r' = n
    · have := hz r' (Or.inr c)
      have h1 : ct (MX T n r') (len + 1) = ct (MX T n r') len + 1 := by rw [ct_s, hM]; rfl
      have h2 : ct (MX T n r') (len + 1) ≤ ct (MX T n r') 241 := ct_mono' _ (by omega)
      omega
    · exact hE r' (by omega) len hlen hM
