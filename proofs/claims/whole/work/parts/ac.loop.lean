/-! ===== the law's loop ===== -/
theorem sw_all (x : Int32) : (x.toInt < 0 ∨ 37 < x.toInt) ∨ x = 0 ∨ x = 1 ∨ x = 2 ∨ x = 3 ∨ x = 4 ∨ x = 5 ∨ x = 6 ∨ x = 7 ∨ x = 8 ∨ x = 9 ∨ x = 10 ∨ x = 11 ∨ x = 12 ∨ x = 13 ∨ x = 14 ∨ x = 15 ∨ x = 16 ∨ x = 17 ∨ x = 18 ∨ x = 19 ∨ x = 20 ∨ x = 21 ∨ x = 22 ∨ x = 23 ∨ x = 24 ∨ x = 25 ∨ x = 26 ∨ x = 27 ∨ x = 28 ∨ x = 29 ∨ x = 30 ∨ x = 31 ∨ x = 32 ∨ x = 33 ∨ x = 34 ∨ x = 35 ∨ x = 36 ∨ x = 37 := by
  by_cases h : x.toInt < 0 ∨ 37 < x.toInt
  · exact Or.inl h
  · have hn : x.toInt = 0 ∨ x.toInt = 1 ∨ x.toInt = 2 ∨ x.toInt = 3 ∨ x.toInt = 4 ∨ x.toInt = 5 ∨ x.toInt = 6 ∨ x.toInt = 7 ∨ x.toInt = 8 ∨ x.toInt = 9 ∨ x.toInt = 10 ∨ x.toInt = 11 ∨ x.toInt = 12 ∨ x.toInt = 13 ∨ x.toInt = 14 ∨ x.toInt = 15 ∨ x.toInt = 16 ∨ x.toInt = 17 ∨ x.toInt = 18 ∨ x.toInt = 19 ∨ x.toInt = 20 ∨ x.toInt = 21 ∨ x.toInt = 22 ∨ x.toInt = 23 ∨ x.toInt = 24 ∨ x.toInt = 25 ∨ x.toInt = 26 ∨ x.toInt = 27 ∨ x.toInt = 28 ∨ x.toInt = 29 ∨ x.toInt = 30 ∨ x.toInt = 31 ∨ x.toInt = 32 ∨ x.toInt = 33 ∨ x.toInt = 34 ∨ x.toInt = 35 ∨ x.toInt = 36 ∨ x.toInt = 37 := by omega
    refine Or.inr ?_
    rcases hn with h | h | h | h | h | h | h | h | h | h | h | h | h | h | h | h | h | h | h | h | h | h | h | h | h | h | h | h | h | h | h | h | h | h | h | h | h | h
    · exact Or.inl (Int32.toInt_inj.mp (h.trans (show (0 : Int) = (0 : Int32).toInt by decide)))
    · exact Or.inr (Or.inl (Int32.toInt_inj.mp (h.trans (show (1 : Int) = (1 : Int32).toInt by decide))))
    · exact Or.inr (Or.inr (Or.inl (Int32.toInt_inj.mp (h.trans (show (2 : Int) = (2 : Int32).toInt by decide)))))
    · exact Or.inr (Or.inr (Or.inr (Or.inl (Int32.toInt_inj.mp (h.trans (show (3 : Int) = (3 : Int32).toInt by decide))))))
    · exact Or.inr (Or.inr (Or.inr (Or.inr (Or.inl (Int32.toInt_inj.mp (h.trans (show (4 : Int) = (4 : Int32).toInt by decide)))))))
    · exact Or.inr (Or.inr (Or.inr (Or.inr (Or.inr (Or.inl (Int32.toInt_inj.mp (h.trans (show (5 : Int) = (5 : Int32).toInt by decide))))))))
    · exact Or.inr (Or.inr (Or.inr (Or.inr (Or.inr (Or.inr (Or.inl (Int32.toInt_inj.mp (h.trans (show (6 : Int) = (6 : Int32).toInt by decide)))))))))
    · exact Or.inr (Or.inr (Or.inr (Or.inr (Or.inr (Or.inr (Or.inr (Or.inl (Int32.toInt_inj.mp (h.trans (show (7 : Int) = (7 : Int32).toInt by decide))))))))))
    · exact Or.inr (Or.inr (Or.inr (Or.inr (Or.inr (Or.inr (Or.inr (Or.inr (Or.inl (Int32.toInt_inj.mp (h.trans (show (8 : Int) = (8 : Int32).toInt by decide)))))))))))
    · exact Or.inr (Or.inr (Or.inr (Or.inr (Or.inr (Or.inr (Or.inr (Or.inr (Or.inr (Or.inl (Int32.toInt_inj.mp (h.trans (show (9 : Int) = (9 : Int32).toInt by decide))))))))))))
    · exact Or.inr (Or.inr (Or.inr (Or.inr (Or.inr (Or.inr (Or.inr (Or.inr (Or.inr (Or.inr (Or.inl (Int32.toInt_inj.mp (h.trans (show (10 : Int) = (10 : Int32).toInt by decide)))))))))))))
    · exact Or.inr (Or.inr (Or.inr (Or.inr (Or.inr (Or.inr (Or.inr (Or.inr (Or.inr (Or.inr (Or.inr (Or.inl (Int32.toInt_inj.mp (h.trans (show (11 : Int) = (11 : Int32).toInt by decide))))))))))))))
    · exact Or.inr (Or.inr (Or.inr (Or.inr (Or.inr (Or.inr (Or.inr (Or.inr (Or.inr (Or.inr (Or.inr (Or.inr (Or.inl (Int32.toInt_inj.mp (h.trans (show (12 : Int) = (12 : Int32).toInt by decide)))))))))))))))
    · exact Or.inr (Or.inr (Or.inr (Or.inr (Or.inr (Or.inr (Or.inr (Or.inr (Or.inr (Or.inr (Or.inr (Or.inr (Or.inr (Or.inl (Int32.toInt_inj.mp (h.trans (show (13 : Int) = (13 : Int32).toInt by decide))))))))))))))))
    · exact Or.inr (Or.inr (Or.inr (Or.inr (Or.inr (Or.inr (Or.inr (Or.inr (Or.inr (Or.inr (Or.inr (Or.inr (Or.inr (Or.inr (Or.inl (Int32.toInt_inj.mp (h.trans (show (14 : Int) = (14 : Int32).toInt by decide)))))))))))))))))
    · exact Or.inr (Or.inr (Or.inr (Or.inr (Or.inr (Or.inr (Or.inr (Or.inr (Or.inr (Or.inr (Or.inr (Or.inr (Or.inr (Or.inr (Or.inr (Or.inl (Int32.toInt_inj.mp (h.trans (show (15 : Int) = (15 : Int32).toInt by decide))))))))))))))))))
    · exact Or.inr (Or.inr (Or.inr (Or.inr (Or.inr (Or.inr (Or.inr (Or.inr (Or.inr (Or.inr (Or.inr (Or.inr (Or.inr (Or.inr (Or.inr (Or.inr (Or.inl (Int32.toInt_inj.mp (h.trans (show (16 : Int) = (16 : Int32).toInt by decide)))))))))))))))))))
    · exact Or.inr (Or.inr (Or.inr (Or.inr (Or.inr (Or.inr (Or.inr (Or.inr (Or.inr (Or.inr (Or.inr (Or.inr (Or.inr (Or.inr (Or.inr (Or.inr (Or.inr (Or.inl (Int32.toInt_inj.mp (h.trans (show (17 : Int) = (17 : Int32).toInt by decide))))))))))))))))))))
    · exact Or.inr (Or.inr (Or.inr (Or.inr (Or.inr (Or.inr (Or.inr (Or.inr (Or.inr (Or.inr (Or.inr (Or.inr (Or.inr (Or.inr (Or.inr (Or.inr (Or.inr (Or.inr (Or.inl (Int32.toInt_inj.mp (h.trans (show (18 : Int) = (18 : Int32).toInt by decide)))))))))))))))))))))
    · exact Or.inr (Or.inr (Or.inr (Or.inr (Or.inr (Or.inr (Or.inr (Or.inr (Or.inr (Or.inr (Or.inr (Or.inr (Or.inr (Or.inr (Or.inr (Or.inr (Or.inr (Or.inr (Or.inr (Or.inl (Int32.toInt_inj.mp (h.trans (show (19 : Int) = (19 : Int32).toInt by decide))))))))))))))))))))))
    · exact Or.inr (Or.inr (Or.inr (Or.inr (Or.inr (Or.inr (Or.inr (Or.inr (Or.inr (Or.inr (Or.inr (Or.inr (Or.inr (Or.inr (Or.inr (Or.inr (Or.inr (Or.inr (Or.inr (Or.inr (Or.inl (Int32.toInt_inj.mp (h.trans (show (20 : Int) = (20 : Int32).toInt by decide)))))))))))))))))))))))
    · exact Or.inr (Or.inr (Or.inr (Or.inr (Or.inr (Or.inr (Or.inr (Or.inr (Or.inr (Or.inr (Or.inr (Or.inr (Or.inr (Or.inr (Or.inr (Or.inr (Or.inr (Or.inr (Or.inr (Or.inr (Or.inr (Or.inl (Int32.toInt_inj.mp (h.trans (show (21 : Int) = (21 : Int32).toInt by decide))))))))))))))))))))))))
    · exact Or.inr (Or.inr (Or.inr (Or.inr (Or.inr (Or.inr (Or.inr (Or.inr (Or.inr (Or.inr (Or.inr (Or.inr (Or.inr (Or.inr (Or.inr (Or.inr (Or.inr (Or.inr (Or.inr (Or.inr (Or.inr (Or.inr (Or.inl (Int32.toInt_inj.mp (h.trans (show (22 : Int) = (22 : Int32).toInt by decide)))))))))))))))))))))))))
    · exact Or.inr (Or.inr (Or.inr (Or.inr (Or.inr (Or.inr (Or.inr (Or.inr (Or.inr (Or.inr (Or.inr (Or.inr (Or.inr (Or.inr (Or.inr (Or.inr (Or.inr (Or.inr (Or.inr (Or.inr (Or.inr (Or.inr (Or.inr (Or.inl (Int32.toInt_inj.mp (h.trans (show (23 : Int) = (23 : Int32).toInt by decide))))))))))))))))))))))))))
    · exact Or.inr (Or.inr (Or.inr (Or.inr (Or.inr (Or.inr (Or.inr (Or.inr (Or.inr (Or.inr (Or.inr (Or.inr (Or.inr (Or.inr (Or.inr (Or.inr (Or.inr (Or.inr (Or.inr (Or.inr (Or.inr (Or.inr (Or.inr (Or.inr (Or.inl (Int32.toInt_inj.mp (h.trans (show (24 : Int) = (24 : Int32).toInt by decide)))))))))))))))))))))))))))
    · exact Or.inr (Or.inr (Or.inr (Or.inr (Or.inr (Or.inr (Or.inr (Or.inr (Or.inr (Or.inr (Or.inr (Or.inr (Or.inr (Or.inr (Or.inr (Or.inr (Or.inr (Or.inr (Or.inr (Or.inr (Or.inr (Or.inr (Or.inr (Or.inr (Or.inr (Or.inl (Int32.toInt_inj.mp (h.trans (show (25 : Int) = (25 : Int32).toInt by decide))))))))))))))))))))))))))))
    · exact Or.inr (Or.inr (Or.inr (Or.inr (Or.inr (Or.inr (Or.inr (Or.inr (Or.inr (Or.inr (Or.inr (Or.inr (Or.inr (Or.inr (Or.inr (Or.inr (Or.inr (Or.inr (Or.inr (Or.inr (Or.inr (Or.inr (Or.inr (Or.inr (Or.inr (Or.inr (Or.inl (Int32.toInt_inj.mp (h.trans (show (26 : Int) = (26 : Int32).toInt by decide)))))))))))))))))))))))))))))
    · exact Or.inr (Or.inr (Or.inr (Or.inr (Or.inr (Or.inr (Or.inr (Or.inr (Or.inr (Or.inr (Or.inr (Or.inr (Or.inr (Or.inr (Or.inr (Or.inr (Or.inr (Or.inr (Or.inr (Or.inr (Or.inr (Or.inr (Or.inr (Or.inr (Or.inr (Or.inr (Or.inr (Or.inl (Int32.toInt_inj.mp (h.trans (show (27 : Int) = (27 : Int32).toInt by decide))))))))))))))))))))))))))))))
    · exact Or.inr (Or.inr (Or.inr (Or.inr (Or.inr (Or.inr (Or.inr (Or.inr (Or.inr (Or.inr (Or.inr (Or.inr (Or.inr (Or.inr (Or.inr (Or.inr (Or.inr (Or.inr (Or.inr (Or.inr (Or.inr (Or.inr (Or.inr (Or.inr (Or.inr (Or.inr (Or.inr (Or.inr (Or.inl (Int32.toInt_inj.mp (h.trans (show (28 : Int) = (28 : Int32).toInt by decide)))))))))))))))))))))))))))))))
    · exact Or.inr (Or.inr (Or.inr (Or.inr (Or.inr (Or.inr (Or.inr (Or.inr (Or.inr (Or.inr (Or.inr (Or.inr (Or.inr (Or.inr (Or.inr (Or.inr (Or.inr (Or.inr (Or.inr (Or.inr (Or.inr (Or.inr (Or.inr (Or.inr (Or.inr (Or.inr (Or.inr (Or.inr (Or.inr (Or.inl (Int32.toInt_inj.mp (h.trans (show (29 : Int) = (29 : Int32).toInt by decide))))))))))))))))))))))))))))))))
    · exact Or.inr (Or.inr (Or.inr (Or.inr (Or.inr (Or.inr (Or.inr (Or.inr (Or.inr (Or.inr (Or.inr (Or.inr (Or.inr (Or.inr (Or.inr (Or.inr (Or.inr (Or.inr (Or.inr (Or.inr (Or.inr (Or.inr (Or.inr (Or.inr (Or.inr (Or.inr (Or.inr (Or.inr (Or.inr (Or.inr (Or.inl (Int32.toInt_inj.mp (h.trans (show (30 : Int) = (30 : Int32).toInt by decide)))))))))))))))))))))))))))))))))
    · exact Or.inr (Or.inr (Or.inr (Or.inr (Or.inr (Or.inr (Or.inr (Or.inr (Or.inr (Or.inr (Or.inr (Or.inr (Or.inr (Or.inr (Or.inr (Or.inr (Or.inr (Or.inr (Or.inr (Or.inr (Or.inr (Or.inr (Or.inr (Or.inr (Or.inr (Or.inr (Or.inr (Or.inr (Or.inr (Or.inr (Or.inr (Or.inl (Int32.toInt_inj.mp (h.trans (show (31 : Int) = (31 : Int32).toInt by decide))))))))))))))))))))))))))))))))))
    · exact Or.inr (Or.inr (Or.inr (Or.inr (Or.inr (Or.inr (Or.inr (Or.inr (Or.inr (Or.inr (Or.inr (Or.inr (Or.inr (Or.inr (Or.inr (Or.inr (Or.inr (Or.inr (Or.inr (Or.inr (Or.inr (Or.inr (Or.inr (Or.inr (Or.inr (Or.inr (Or.inr (Or.inr (Or.inr (Or.inr (Or.inr (Or.inr (Or.inl (Int32.toInt_inj.mp (h.trans (show (32 : Int) = (32 : Int32).toInt by decide)))))))))))))))))))))))))))))))))))
    · exact Or.inr (Or.inr (Or.inr (Or.inr (Or.inr (Or.inr (Or.inr (Or.inr (Or.inr (Or.inr (Or.inr (Or.inr (Or.inr (Or.inr (Or.inr (Or.inr (Or.inr (Or.inr (Or.inr (Or.inr (Or.inr (Or.inr (Or.inr (Or.inr (Or.inr (Or.inr (Or.inr (Or.inr (Or.inr (Or.inr (Or.inr (Or.inr (Or.inr (Or.inl (Int32.toInt_inj.mp (h.trans (show (33 : Int) = (33 : Int32).toInt by decide))))))))))))))))))))))))))))))))))))
    · exact Or.inr (Or.inr (Or.inr (Or.inr (Or.inr (Or.inr (Or.inr (Or.inr (Or.inr (Or.inr (Or.inr (Or.inr (Or.inr (Or.inr (Or.inr (Or.inr (Or.inr (Or.inr (Or.inr (Or.inr (Or.inr (Or.inr (Or.inr (Or.inr (Or.inr (Or.inr (Or.inr (Or.inr (Or.inr (Or.inr (Or.inr (Or.inr (Or.inr (Or.inr (Or.inl (Int32.toInt_inj.mp (h.trans (show (34 : Int) = (34 : Int32).toInt by decide)))))))))))))))))))))))))))))))))))))
    · exact Or.inr (Or.inr (Or.inr (Or.inr (Or.inr (Or.inr (Or.inr (Or.inr (Or.inr (Or.inr (Or.inr (Or.inr (Or.inr (Or.inr (Or.inr (Or.inr (Or.inr (Or.inr (Or.inr (Or.inr (Or.inr (Or.inr (Or.inr (Or.inr (Or.inr (Or.inr (Or.inr (Or.inr (Or.inr (Or.inr (Or.inr (Or.inr (Or.inr (Or.inr (Or.inr (Or.inl (Int32.toInt_inj.mp (h.trans (show (35 : Int) = (35 : Int32).toInt by decide))))))))))))))))))))))))))))))))))))))
    · exact Or.inr (Or.inr (Or.inr (Or.inr (Or.inr (Or.inr (Or.inr (Or.inr (Or.inr (Or.inr (Or.inr (Or.inr (Or.inr (Or.inr (Or.inr (Or.inr (Or.inr (Or.inr (Or.inr (Or.inr (Or.inr (Or.inr (Or.inr (Or.inr (Or.inr (Or.inr (Or.inr (Or.inr (Or.inr (Or.inr (Or.inr (Or.inr (Or.inr (Or.inr (Or.inr (Or.inr (Or.inl (Int32.toInt_inj.mp (h.trans (show (36 : Int) = (36 : Int32).toInt by decide)))))))))))))))))))))))))))))))))))))))
    · exact Or.inr (Or.inr (Or.inr (Or.inr (Or.inr (Or.inr (Or.inr (Or.inr (Or.inr (Or.inr (Or.inr (Or.inr (Or.inr (Or.inr (Or.inr (Or.inr (Or.inr (Or.inr (Or.inr (Or.inr (Or.inr (Or.inr (Or.inr (Or.inr (Or.inr (Or.inr (Or.inr (Or.inr (Or.inr (Or.inr (Or.inr (Or.inr (Or.inr (Or.inr (Or.inr (Or.inr (Or.inr (Int32.toInt_inj.mp (h.trans (show (37 : Int) = (37 : Int32).toInt by decide)))))))))))))))))))))))))))))))))))))))
theorem lp_sr {xs : Nat → Int32} {Lx j : Nat} (h : j < Lx) (hL : Lx ≤ 3072) : me_sr xs Lx (nI j) = some (xs j) := by
  unfold me_sr
  rw [if_neg (nI_in h (by omega)), nI_clamp (by omega)]
theorem lp_more {Lx k : Nat} (hL : Lx ≤ 3072) (hk : k ≤ 4000) (h : ¬ nI Lx - 6 < nI k) : k + 6 ≤ Lx := by
  by_cases h6 : 6 ≤ Lx
  · rw [li6, nI_sub h6, nI_ltI (by omega) (by omega)] at h
    omega
  · refine absurd ?_ h
    rw [Int32.lt_iff_toInt_lt, nI_toInt (by omega)]
    have : (nI Lx - 6).toInt < 0 := by
      rcases (show Lx = 0 ∨ Lx = 1 ∨ Lx = 2 ∨ Lx = 3 ∨ Lx = 4 ∨ Lx = 5 by omega) with rfl | rfl | rfl | rfl | rfl | rfl <;> decide
    omega
set_option maxRecDepth 100000 in
set_option maxHeartbeats 4000000 in
theorem law_loop {p : Program} {l : Launch} {e : Env} {s : State} {m : MethodId} {below : List Frame} {meth : Method} {c : Code} {D : va_G} {cA : Nat → ClassId} {ad : Nat → Nat} {A : Nat → Prop} {tys : List (ClassId × FieldType)} {b Lx : Nat} {xs : Nat → Int32} (hl : l.stackTraces = false) (hz : me_Z A s s.heap) (hX : va_X b Lx xs s s.heap) (hbl : b < s.heap.size) (hbA : ¬ A b) (hL : Lx ≤ 3072) (hr : meth.sig.returnType = ret) (hlocks : meth.locks = false) (hAs : ∀ q, A q → s.heap.size ≤ q) : ∀ (n k cells slots : Nat) (M : me_M), cells = 425 + k → slots = 21254 + 6 * k → Lx < 6 * (k + n) → k + n ≤ 514 → Inv M → me_X p room_1 s m #[Value.ref b] c D cA ad 425 5 425 8 cells slots 200 A cL_law RL tys → me_W p l e room_1 s m #[Value.ref b] below meth c cells slots (lw_Z below #[Value.ref b] s) D cA ad 425 8 A 23 [(0, .ref b), (1, .ref (ad 0)), (2, .ref (ad 63)), (3, .ref (ad 424)), (4, .int (nI (6 * k)))] [] M := by
  intro n
  induction n with
  | zero =>
    intro k cells slots M hc hs hn hk hI X
    refine me_iload X (i := 4) 4 rfl dL_law_23 ?_
    refine me_aload_n X (i := 0) 0 rfl dL_law_25 ?_
    refine me_slen X hX hbl hbA dL_law_26 ?_
    refine me_bipush X (v := 6) dL_law_27 (by decide) ?_
    refine me_isub X dL_law_29 ?_
    refine me_icmp_gt X 2340 (by decide) dL_law_30 (fun c1 => ?_) (fun c1 => ?_)
    · refine me_iconst X dL_law_2340 ic_1 ?_
      exact fun H locs ls hP hS hlv => va_forget (fun q hq => hAs _ (hS.2.2 q hq)) (W.widen (by omega) (by omega) (lw_ret X.1 X.2.1 hr hlocks dL_law_2341))
    · have := lp_more hL (by omega) c1
      exact absurd hn (by omega)
  | succ n ih =>
    intro k cells slots M hc hs hn hk hI X
    refine me_iload X (i := 4) 4 rfl dL_law_23 ?_
    refine me_aload_n X (i := 0) 0 rfl dL_law_25 ?_
    refine me_slen X hX hbl hbA dL_law_26 ?_
    refine me_bipush X (v := 6) dL_law_27 (by decide) ?_
    refine me_isub X dL_law_29 ?_
    refine me_icmp_gt X 2340 (by decide) dL_law_30 (fun c1 => ?_) (fun c1 => ?_)
    · refine me_iconst X dL_law_2340 ic_1 ?_
      exact fun H locs ls hP hS hlv => va_forget (fun q hq => hAs _ (hS.2.2 q hq)) (W.widen (by omega) (by omega) (lw_ret X.1 X.2.1 hr hlocks dL_law_2341))
    have h6 := lp_more hL (by omega) c1
    have h1 : me_sr xs Lx (nI (6 * k) + 1) = some (xs (6 * k + 1)) := by rw [li1, nI_add]; exact lp_sr (by omega) hL
    have h2 : me_sr xs Lx (nI (6 * k) + 2) = some (xs (6 * k + 2)) := by rw [li2, nI_add]; exact lp_sr (by omega) hL
    have h3 : me_sr xs Lx (nI (6 * k) + 3) = some (xs (6 * k + 3)) := by rw [li3, nI_add]; exact lp_sr (by omega) hL
    have h4 : me_sr xs Lx (nI (6 * k) + 4) = some (xs (6 * k + 4)) := by rw [li4, nI_add]; exact lp_sr (by omega) hL
    have h5 : me_sr xs Lx (nI (6 * k) + 5) = some (xs (6 * k + 5)) := by rw [li5, nI_add]; exact lp_sr (by omega) hL
    have hRc : cells + 1 ≤ room_1.cells := by show cells + 1 ≤ 601024; omega
    have hRs : slots + 6 ≤ room_1.slots := by show slots + 6 ≤ 7293034; omega
    have hX1 := me_Xup X hRc hRs
    have next : ∀ M' : me_M, Inv M' → me_W p l e room_1 s m #[Value.ref b] below meth c (cells + 1) (slots + 6) (lw_Z below #[Value.ref b] s) D cA ad 425 8 A 2334 [(0, .ref b), (1, .ref (ad 0)), (2, .ref (ad 63)), (3, .ref (ad 424)), (4, .int (nI (6 * k)))] [] M' := fun M' hI' => by
      refine me_iinc hX1 (i := 4) (v := nI (6 * (k + 1))) 4 rfl (by rw [show Int32.ofInt 6 = nI 6 by decide, nI_add]; rfl) [(4, .int (nI (6 * (k + 1)))), (0, .ref b), (1, .ref (ad 0)), (2, .ref (ad 63)), (3, .ref (ad 424))] (Nat.le_of_ble_eq_true rfl) rfl dL_law_2334 ?_
      refine me_goto hX1 23 (by decide) dL_law_2337 ?_
      refine me_sub (L' := [(0, .ref b), (1, .ref (ad 0)), (2, .ref (ad 63)), (3, .ref (ad 424)), (4, .int (nI (6 * (k + 1))))]) [1, 2, 3, 4, 0] rfl ?_
      exact ih (k + 1) (cells + 1) (slots + 6) M' (by omega) (by omega) (by omega) (by omega) hI' hX1
    refine me_aload_n X (i := 0) 0 rfl dL_law_33 ?_
    refine me_iload X (i := 4) 4 rfl dL_law_34 ?_
    refine me_sld X hX hbl hbA (lp_sr (by omega) hL) dL_law_36 ?_
    refine me_bipush X (v := 63) dL_law_37 (by decide) ?_
    refine me_iand X dL_law_39 ?_
    generalize xs (6 * k) &&& 63 = x
    rcases sw_all x with ho | rfl | rfl | rfl | rfl | rfl | rfl | rfl | rfl | rfl | rfl | rfl | rfl | rfl | rfl | rfl | rfl | rfl | rfl | rfl | rfl | rfl | rfl | rfl | rfl | rfl | rfl | rfl | rfl | rfl | rfl | rfl | rfl | rfl | rfl | rfl | rfl | rfl | rfl
    · refine me_tout X 2334 ho (by decide) dL_law_40 ?_
      exact fun H locs ls hP hS hlv => W.widen (by omega) (by omega) (next M hI H locs ls hP hS hlv)
    · obtain ⟨M', e9, hI'⟩ := sv_feed hI h1 h2 h3 h4 h5
      exact me_tin X (off := 168) 208 (by decide) (by decide) (by decide) (by decide) dL_law_40 (ct_sg_feed hl X hz hX hbl hbA hRc hRs e9 (next M' hI'))
    · obtain ⟨M', e9, hI'⟩ := sv_text hI h1 h2 h3 h4 h5
      exact me_tin X (off := 241) 281 (by decide) (by decide) (by decide) (by decide) dL_law_40 (ct_sg_text hl X hz hX hbl hbA hRc hRs e9 (next M' hI'))
    · obtain ⟨M', e9, hI'⟩ := sv_scheme hI h1 h2 h3 h4 h5
      exact me_tin X (off := 297) 337 (by decide) (by decide) (by decide) (by decide) dL_law_40 (ct_sg_scheme hl X hz hX hbl hbA hRc hRs e9 (next M' hI'))
    · obtain ⟨M', e9, hI'⟩ := sv_fault hI h1 h2 h3 h4 h5
      exact me_tin X (off := 353) 393 (by decide) (by decide) (by decide) (by decide) dL_law_40 (ct_sg_fault hl X hz hX hbl hbA hRc hRs e9 (next M' hI'))
    · obtain ⟨M', e9, hI'⟩ := sv_step hI h1 h2 h3 h4 h5
      exact me_tin X (off := 366) 406 (by decide) (by decide) (by decide) (by decide) dL_law_40 (ct_sg_step hl X hz hX hbl hbA hRc hRs e9 (next M' hI'))
    · obtain ⟨M', e9, hI'⟩ := sv_grow hI h1 h2 h3 h4 h5
      exact me_tin X (off := 422) 462 (by decide) (by decide) (by decide) (by decide) dL_law_40 (ct_sg_grow hl X hz hX hbl hbA hRc hRs e9 (next M' hI'))
    · obtain ⟨M', e9, hI'⟩ := sv_shrink hI h1 h2 h3 h4 h5
      exact me_tin X (off := 490) 530 (by decide) (by decide) (by decide) (by decide) dL_law_40 (ct_sg_shrink hl X hz hX hbl hbA hRc hRs e9 (next M' hI'))
    · obtain ⟨M', e9, hI'⟩ := sv_clear hI h1 h2 h3 h4 h5
      exact me_tin X (off := 503) 543 (by decide) (by decide) (by decide) (by decide) dL_law_40 (ct_sg_clear hl X hz hX hbl hbA hRc hRs e9 (next M' hI'))
    · obtain ⟨M', e9, hI'⟩ := sv_told hI h1 h2 h3 h4 h5
      exact me_tin X (off := 516) 556 (by decide) (by decide) (by decide) (by decide) dL_law_40 (ct_sg_told hl X hz hX hbl hbA hRc hRs e9 (next M' hI'))
    · obtain ⟨M', e9, hI'⟩ := sv_sign hI h1 h2 h3 h4 h5
      exact me_tin X (off := 572) 612 (by decide) (by decide) (by decide) (by decide) dL_law_40 (ct_sg_sign hl X hz hX hbl hbA hRc hRs e9 (next M' hI'))
    · obtain ⟨M', e9, hI'⟩ := sv_row hI h1 h2 h3 h4 h5
      exact me_tin X (off := 628) 668 (by decide) (by decide) (by decide) (by decide) dL_law_40 (ct_sg_row hl X hz hX hbl hbA hRc hRs e9 (next M' hI'))
    · obtain ⟨M', e9, hI'⟩ := sv_rowOf hI h1 h2 h3 h4 h5
      exact me_tin X (off := 708) 748 (by decide) (by decide) (by decide) (by decide) dL_law_40 (ct_sg_rowOf hl X hz hX hbl hbA hRc hRs e9 (next M' hI'))
    · obtain ⟨M', e9, hI'⟩ := sv_count hI h1 h2 h3 h4 h5
      exact me_tin X (off := 776) 816 (by decide) (by decide) (by decide) (by decide) dL_law_40 (ct_sg_count hl X hz hX hbl hbA hRc hRs e9 (next M' hI'))
    · obtain ⟨M', e9, hI'⟩ := sv_letter hI h1 h2 h3 h4 h5
      exact me_tin X (off := 856) 896 (by decide) (by decide) (by decide) (by decide) dL_law_40 (ct_sg_letter hl X hz hX hbl hbA hRc hRs e9 (next M' hI'))
    · obtain ⟨M', e9, hI'⟩ := sv_grows hI h1 h2 h3 h4 h5
      exact me_tin X (off := 912) 952 (by decide) (by decide) (by decide) (by decide) dL_law_40 (ct_sg_grows hl X hz hX hbl hbA hRc hRs e9 (next M' hI'))
    · obtain ⟨M', e9, hI'⟩ := sv_hit hI h1 h2 h3 h4 h5
      exact me_tin X (off := 968) 1008 (by decide) (by decide) (by decide) (by decide) dL_law_40 (ct_sg_hit hl X hz hX hbl hbA hRc hRs e9 (next M' hI'))
    · obtain ⟨M', e9, hI'⟩ := sv_hits hI h1 h2 h3 h4 h5
      exact me_tin X (off := 1036) 1076 (by decide) (by decide) (by decide) (by decide) dL_law_40 (ct_sg_hits hl X hz hX hbl hbA hRc hRs e9 (next M' hI'))
    · obtain ⟨M', e9, hI'⟩ := sv_often hI h1 h2 h3 h4 h5
      exact me_tin X (off := 1092) 1132 (by decide) (by decide) (by decide) (by decide) dL_law_40 (ct_sg_often hl X hz hX hbl hbA hRc hRs e9 (next M' hI'))
    · obtain ⟨M', e9, hI'⟩ := sv_shares hI h1 h2 h3 h4 h5
      exact me_tin X (off := 1148) 1188 (by decide) (by decide) (by decide) (by decide) dL_law_40 (ct_sg_shares hl X hz hX hbl hbA hRc hRs e9 (next M' hI'))
    · obtain ⟨M', e9, hI'⟩ := sv_sound hI h1 h2 h3 h4 h5
      exact me_tin X (off := 1204) 1244 (by decide) (by decide) (by decide) (by decide) dL_law_40 (ct_sg_sound hl X hz hX hbl hbA hRc hRs e9 (next M' hI'))
    · obtain ⟨M', e9, hI'⟩ := sv_needless hI h1 h2 h3 h4 h5
      exact me_tin X (off := 1217) 1257 (by decide) (by decide) (by decide) (by decide) dL_law_40 (ct_sg_needless hl X hz hX hbl hbA hRc hRs e9 (next M' hI'))
    · obtain ⟨M', e9, hI'⟩ := sv_digit hI h1 h2 h3 h4 h5
      exact me_tin X (off := 1230) 1270 (by decide) (by decide) (by decide) (by decide) dL_law_40 (ct_sg_digit hl X hz hX hbl hbA hRc hRs e9 (next M' hI'))
    · obtain ⟨M', e9, hI'⟩ := sv_search hI h1 h2 h3 h4 h5
      exact me_tin X (off := 1310) 1350 (by decide) (by decide) (by decide) (by decide) dL_law_40 (ct_sg_search hl X hz hX hbl hbA hRc hRs e9 (next M' hI'))
    · obtain ⟨M', e9, hI'⟩ := sv_found hI h1 h2 h3 h4 h5
      exact me_tin X (off := 1366) 1406 (by decide) (by decide) (by decide) (by decide) dL_law_40 (ct_sg_found hl X hz hX hbl hbA hRc hRs e9 (next M' hI'))
    · obtain ⟨M', e9, hI'⟩ := sv_result hI h1 h2 h3 h4 h5
      exact me_tin X (off := 1434) 1474 (by decide) (by decide) (by decide) (by decide) dL_law_40 (ct_sg_result hl X hz hX hbl hbA hRc hRs e9 (next M' hI'))
    · obtain ⟨M', e9, hI'⟩ := sv_ran hI h1 h2 h3 h4 h5
      exact me_tin X (off := 1490) 1530 (by decide) (by decide) (by decide) (by decide) dL_law_40 (ct_sg_ran hl X hz hX hbl hbA hRc hRs e9 (next M' hI'))
    · obtain ⟨M', e9, hI'⟩ := sv_matches hI h1 h2 h3 h4 h5
      exact me_tin X (off := 1558) 1598 (by decide) (by decide) (by decide) (by decide) dL_law_40 (ct_sg_matches hl X hz hX hbl hbA hRc hRs e9 (next M' hI'))
    · obtain ⟨M', e9, hI'⟩ := sv_match hI h1 h2 h3 h4 h5
      exact me_tin X (off := 1626) 1666 (by decide) (by decide) (by decide) (by decide) dL_law_40 (ct_sg_match hl X hz hX hbl hbA hRc hRs e9 (next M' hI'))
    · obtain ⟨M', e9, hI'⟩ := sv_maximals hI h1 h2 h3 h4 h5
      exact me_tin X (off := 1694) 1734 (by decide) (by decide) (by decide) (by decide) dL_law_40 (ct_sg_maximals hl X hz hX hbl hbA hRc hRs e9 (next M' hI'))
    · obtain ⟨M', e9, hI'⟩ := sv_maximal hI h1 h2 h3 h4 h5
      exact me_tin X (off := 1762) 1802 (by decide) (by decide) (by decide) (by decide) dL_law_40 (ct_sg_maximal hl X hz hX hbl hbA hRc hRs e9 (next M' hI'))
    · obtain ⟨M', e9, hI'⟩ := sv_strings hI h1 h2 h3 h4 h5
      exact me_tin X (off := 1854) 1894 (by decide) (by decide) (by decide) (by decide) dL_law_40 (ct_sg_strings hl X hz hX hbl hbA hRc hRs e9 (next M' hI'))
    · obtain ⟨M', e9, hI'⟩ := sv_repeat hI h1 h2 h3 h4 h5
      exact me_tin X (off := 1910) 1950 (by decide) (by decide) (by decide) (by decide) dL_law_40 (ct_sg_repeat hl X hz hX hbl hbA hRc hRs e9 (next M' hI'))
    · obtain ⟨M', e9, hI'⟩ := sv_unique hI h1 h2 h3 h4 h5
      exact me_tin X (off := 1966) 2006 (by decide) (by decide) (by decide) (by decide) dL_law_40 (ct_sg_unique hl X hz hX hbl hbA hRc hRs e9 (next M' hI'))
    · obtain ⟨M', e9, hI'⟩ := sv_around hI h1 h2 h3 h4 h5
      exact me_tin X (off := 2022) 2062 (by decide) (by decide) (by decide) (by decide) dL_law_40 (ct_sg_around hl X hz hX hbl hbA hRc hRs e9 (next M' hI'))
    · obtain ⟨M', e9, hI'⟩ := sv_common hI h1 h2 h3 h4 h5
      exact me_tin X (off := 2090) 2130 (by decide) (by decide) (by decide) (by decide) dL_law_40 (ct_sg_common hl X hz hX hbl hbA hRc hRs e9 (next M' hI'))
    · obtain ⟨M', e9, hI'⟩ := sv_document hI h1 h2 h3 h4 h5
      exact me_tin X (off := 2146) 2186 (by decide) (by decide) (by decide) (by decide) dL_law_40 (ct_sg_document hl X hz hX hbl hbA hRc hRs e9 (next M' hI'))
    · obtain ⟨M', e9, hI'⟩ := sv_print hI h1 h2 h3 h4 h5
      exact me_tin X (off := 2214) 2254 (by decide) (by decide) (by decide) (by decide) dL_law_40 (ct_sg_print hl X hz hX hbl hbA hRc hRs e9 (next M' hI'))
    · obtain ⟨M', e9, hI'⟩ := sv_status hI h1 h2 h3 h4 h5
      exact me_tin X (off := 2269) 2309 (by decide) (by decide) (by decide) (by decide) dL_law_40 (ct_sg_status hl X hz hX hbl hbA hRc hRs e9 (next M' hI'))
