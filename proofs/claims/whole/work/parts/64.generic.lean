def gX5_budget_L4 (ob od le mo sh : Nat) (M : me_M) : (Int32 × Int32) → Option ((Int32 × Int32) ⊕ (Int32))
  | (x1_1, x2_1) => (if (M.1 ob 4) ≤ x2_1 then some (.inr x1_1) else ((me_r M mo 40 (((x2_1 * 5) + (M.1 ob 5)) - 1)).bind fun v1 => ((mJ9_max_7cf53 x1_1 v1).bind fun v2 => some (.inl (v2, (x2_1 + 1))))))
def gX5_budget (ob od le mo sh : Nat) (M : me_M)  : Option Int32 :=
  ((me_l (gX5_budget_L4 ob od le mo sh M) me_fu (0, 0)).bind fun y1_1 => some y1_1)
def gX5_firstShare_L7 (ob od le mo sh : Nat)  : (Int32 × me_M) → Option ((Int32 × me_M) ⊕ (me_M))
  | (x1_1, M1) => (if 5 ≤ x1_1 then some (.inr M1) else ((me_t M1 sh 5 x1_1 0).bind fun M2 => some (.inl ((x1_1 + 1), M2))))
def gX5_firstShare (ob od le mo sh : Nat) (M : me_M)  : Option me_M :=
  ((me_l (gX5_firstShare_L7 ob od le mo sh) me_fu (0, (me_s M ob 6 0))).bind fun M3 => some M3)
def gX5_covers_L4 (ob od le mo sh : Nat) (M : me_M) (p0 : Int32) : (Int32 × Int32) → Option ((Int32 × Int32) ⊕ ((Unit) ⊕ Int32))
  | (x2_1, x3_1) => (if (M.1 ob 5) ≤ x3_1 then some (.inr (.inl ())) else ((me_r M od 40 ((p0 * 5) + x3_1)).bind fun v1 => ((me_r M sh 5 v1).bind fun v2 => ((me_r M le 40 ((p0 * 5) + x3_1)).bind fun v3 => (if (x2_1 + v2) < v3 then some (.inr (.inr 0)) else ((me_r M mo 40 ((p0 * 5) + x3_1)).bind fun v4 => (if (x2_1 + v2) ≤ v4 then some (.inl ((x2_1 + v2), (x3_1 + 1))) else some (.inr (.inr 0)))))))))
def gX5_covers (ob od le mo sh : Nat) (M : me_M) (p0 : Int32) : Option Int32 :=
  ((me_l (gX5_covers_L4 ob od le mo sh M p0) me_fu (0, 0)).bind fun o => Sum.elim (fun _ => some 1) (fun res => some res) o)
def gX5_coveringBits_J26 (ob od le mo sh : Nat) (x2_1 : Int32) (M : me_M) (x1_2 : Int32) : Option ((Int32 × Int32) ⊕ (Int32)) :=
  some (.inl (x1_2, (x2_1 + 1)))
def gX5_coveringBits_L4 (ob od le mo sh : Nat) (M : me_M) : (Int32 × Int32) → Option ((Int32 × Int32) ⊕ (Int32))
  | (x1_1, x2_1) => (if (M.1 ob 4) ≤ x2_1 then some (.inr x1_1) else ((gX5_covers ob od le mo sh M x2_1).bind fun v1 => (if v1 = 0 then (gX5_coveringBits_J26 ob od le mo sh x2_1 M x1_1) else (gX5_coveringBits_J26 ob od le mo sh x2_1 M (x1_1 ||| (1 <<< (x2_1 &&& 31)))))))
def gX5_coveringBits (ob od le mo sh : Nat) (M : me_M)  : Option Int32 :=
  ((me_l (gX5_coveringBits_L4 ob od le mo sh M) me_fu (0, 0)).bind fun y1_1 => some y1_1)
def gX5_noteShare (ob od le mo sh : Nat) (M : me_M) (p0 : Int32) : Option me_M :=
  ((mJ6_bitCount_0f7a4 p0).bind fun v1 => (if v1 = 0 then some (me_s (me_s M ob 7 ((M.1 ob 7) + 1)) ob 8 (((me_s M ob 7 ((M.1 ob 7) + 1)).1 ob 8) + 1)) else (if v1 = 1 then some (me_s (me_s M ob 7 ((M.1 ob 7) + 1)) ob 10 (((me_s M ob 7 ((M.1 ob 7) + 1)).1 ob 10) ||| p0)) else some (me_s (me_s M ob 7 ((M.1 ob 7) + 1)) ob 9 (((me_s M ob 7 ((M.1 ob 7) + 1)).1 ob 9) + 1)))))
def gX5_nextShare_L2 (ob od le mo sh : Nat) (p0 : Int32) : (Int32 × me_M) → Option ((Int32 × me_M) ⊕ ((me_M) ⊕ (Int32 × me_M)))
  | (x2_1, M1) => (if (M1.1 ob 5) ≤ x2_1 then some (.inr (.inl M1)) else (if p0 ≤ (M1.1 ob 6) then ((me_r M1 sh 5 x2_1).bind fun v1 => ((me_t (me_s M1 ob 6 ((M1.1 ob 6) - v1)) sh 5 x2_1 0).bind fun M2 => some (.inl ((x2_1 + 1), M2)))) else ((me_r M1 sh 5 x2_1).bind fun v2 => ((me_t M1 sh 5 x2_1 (v2 + 1)).bind fun M3 => some (.inr (.inr (1, (me_s M3 ob 6 ((M3.1 ob 6) + 1)))))))))
def gX5_nextShare (ob od le mo sh : Nat) (M : me_M) (p0 : Int32) : Option (Int32 × me_M) :=
  ((me_l (gX5_nextShare_L2 ob od le mo sh p0) me_fu (0, M)).bind fun o => Sum.elim (fun M4 => some (0, M4)) (fun res => some res) o)
def gX5_surveyShares_L33 (ob od le mo sh : Nat) (v1 : Int32) : (Int32 × Int32 × me_M) → Option ((Int32 × Int32 × me_M) ⊕ (me_M))
  | (x2_1, x3_1, M2) => (if 126 ≤ x3_1 then some (.inr M2) else (if x2_1 = 0 then some (.inr M2) else ((gX5_coveringBits ob od le mo sh M2).bind fun v3 => ((gX5_noteShare ob od le mo sh M2 v3).bind fun M3 => ((gX5_nextShare ob od le mo sh M3 v1).bind fun (v5, M4) => some (.inl (v5, (x3_1 + 1), M4)))))))
def gX5_surveyShares (ob od le mo sh : Nat) (M : me_M)  : Option me_M :=
  ((gX5_budget ob od le mo sh M).bind fun v1 => ((gX5_firstShare ob od le mo sh (me_s (me_s (me_s (me_s M ob 7 0) ob 8 0) ob 9 0) ob 10 0)).bind fun M1 => ((me_l (gX5_surveyShares_L33 ob od le mo sh v1) me_fu (1, 0, M1)).bind fun M5 => some M5)))
theorem eX5_budget_53 : @mX5_budget_53 = gX5_budget 53 54 55 56 57 := rfl
theorem eX5_budget_58 : @mX5_budget_58 = gX5_budget 58 59 60 61 62 := rfl
theorem eX5_firstShare_53 : @mX5_firstShare_53 = gX5_firstShare 53 54 55 56 57 := rfl
theorem eX5_firstShare_58 : @mX5_firstShare_58 = gX5_firstShare 58 59 60 61 62 := rfl
theorem eX5_covers_53 : @mX5_covers_53 = gX5_covers 53 54 55 56 57 := rfl
theorem eX5_covers_58 : @mX5_covers_58 = gX5_covers 58 59 60 61 62 := rfl
theorem eX5_coveringBits_53 : @mX5_coveringBits_53 = gX5_coveringBits 53 54 55 56 57 := rfl
theorem eX5_coveringBits_58 : @mX5_coveringBits_58 = gX5_coveringBits 58 59 60 61 62 := rfl
theorem eX5_noteShare_53 : @mX5_noteShare_53 = gX5_noteShare 53 54 55 56 57 := rfl
theorem eX5_noteShare_58 : @mX5_noteShare_58 = gX5_noteShare 58 59 60 61 62 := rfl
theorem eX5_nextShare_53 : @mX5_nextShare_53 = gX5_nextShare 53 54 55 56 57 := rfl
theorem eX5_nextShare_58 : @mX5_nextShare_58 = gX5_nextShare 58 59 60 61 62 := rfl
theorem eX5_surveyShares_53 : @mX5_surveyShares_53 = gX5_surveyShares 53 54 55 56 57 := rfl
theorem eX5_surveyShares_58 : @mX5_surveyShares_58 = gX5_surveyShares 58 59 60 61 62 := rfl
def gX6_readOrder_L36 (ob od le mo sh : Nat)  : (Int32 × Int32 × me_M) → Option ((Int32 × Int32 × me_M) ⊕ ((me_M) ⊕ (Int32 × me_M)))
  | (x2_1, x3_1, M2) => (if (M2.1 ob 5) ≤ x3_1 then some (.inr (.inl M2)) else ((mX6_isDigit_52 M2).bind fun v3 => (if v3 = 0 then ((mX6_fail_52 M2 1).bind fun (v7, M5) => (if v7 = 0 ∨ v7 = 1 then some (.inr (.inr (v7, M5))) else none)) else ((mX6_digitHere_52 M2).bind fun v4 => ((mX6_canFollow v4 x2_1 (M2.1 ob 5)).bind fun v5 => (if v5 = 0 then ((mX6_fail_52 M2 2).bind fun (v6, M4) => (if v6 = 0 ∨ v6 = 1 then some (.inr (.inr (v6, M4))) else none)) else ((me_t M2 od 40 (((M2.1 ob 4) * 5) + x3_1) v4).bind fun M3 => some (.inl ((x2_1 ||| (1 <<< (v4 &&& 31))), (x3_1 + 1), (me_s M3 52 2 ((M3.1 52 2) + 1)))))))))))
def gX6_readOrder_J140 (ob od le mo sh : Nat) (M6 : me_M) (s1 : Int32) : Option (Int32 × me_M) :=
  ((mX6_fail_52 M6 s1).bind fun (v9, M7) => (if v9 = 0 ∨ v9 = 1 then some (v9, M7) else none))
def gX6_readOrder_J19 (ob od le mo sh : Nat) (M1 : me_M) : Option (Int32 × me_M) :=
  (if (M1.1 ob 5) = 0 then ((mX6_fail_52 M1 1).bind fun (v10, M8) => (if v10 = 0 ∨ v10 = 1 then some (v10, M8) else none)) else ((me_l (gX6_readOrder_L36 ob od le mo sh) me_fu (0, 0, M1)).bind fun o => Sum.elim (fun M6 => ((mX6_isDigit_52 M6).bind fun v8 => (if v8 = 0 then some (1, M6) else (if (M6.1 ob 4) = 0 then (gX6_readOrder_J140 ob od le mo sh M6 3) else (gX6_readOrder_J140 ob od le mo sh M6 1))))) (fun res => some res) o))
def gX6_readOrder (ob od le mo sh : Nat) (M : me_M)  : Option (Int32 × me_M) :=
  (if (M.1 ob 4) = 0 then ((mX6_digitsFrom_52 M).bind fun v1 => ((mJ9_min_7cf53 v1 5).bind fun v2 => (gX6_readOrder_J19 ob od le mo sh (me_s M ob 5 v2)))) else (gX6_readOrder_J19 ob od le mo sh M))
def gX6_readLeast_L4 (ob od le mo sh : Nat)  : (Int32 × Int32 × me_M) → Option ((Int32 × Int32 × me_M) ⊕ ((me_M) ⊕ (Int32 × me_M)))
  | (x2_1, x3_1, M1) => (if (M1.1 ob 5) ≤ x3_1 then some (.inr (.inl M1)) else ((mX6_boundHere_52 M1 x2_1).bind fun (v1, M2) => (if v1 = (-1) then some (.inr (.inr (0, M2))) else ((me_t M2 le 40 (((M2.1 ob 4) * 5) + x3_1) v1).bind fun M3 => some (.inl (v1, (x3_1 + 1), (me_s M3 52 2 ((M3.1 52 2) + 1))))))))
def gX6_readLeast (ob od le mo sh : Nat) (M : me_M)  : Option (Int32 × me_M) :=
  ((me_l (gX6_readLeast_L4 ob od le mo sh) me_fu (0, 0, M)).bind fun o => Sum.elim (fun M4 => ((mX6_isDigit_52 M4).bind fun v2 => (if v2 = 0 then some (1, M4) else ((mX6_fail_52 M4 1).bind fun (v3, M5) => (if v3 = 0 ∨ v3 = 1 then some (v3, M5) else none))))) (fun res => some res) o)
def gX6_readMost_L4 (ob od le mo sh : Nat)  : (Int32 × Int32 × me_M) → Option ((Int32 × Int32 × me_M) ⊕ ((me_M) ⊕ (Int32 × me_M)))
  | (x2_1, x3_1, M1) => (if (M1.1 ob 5) ≤ x3_1 then some (.inr (.inl M1)) else ((me_r M1 le 40 (((M1.1 ob 4) * 5) + x3_1)).bind fun v1 => ((mJ9_max_7cf53 x2_1 v1).bind fun v2 => ((mX6_boundHere_52 M1 v2).bind fun (v3, M2) => (if v3 = (-1) then some (.inr (.inr (0, M2))) else ((me_t M2 mo 40 (((M1.1 ob 4) * 5) + x3_1) v3).bind fun M3 => some (.inl (v3, (x3_1 + 1), (me_s M3 52 2 ((M3.1 52 2) + 1))))))))))
def gX6_readMost (ob od le mo sh : Nat) (M : me_M)  : Option (Int32 × me_M) :=
  ((me_l (gX6_readMost_L4 ob od le mo sh) me_fu (0, 0, M)).bind fun o => Sum.elim (fun M4 => ((mX6_isDigit_52 M4).bind fun v4 => (if v4 = 0 then some (1, M4) else ((mX6_fail_52 M4 1).bind fun (v5, M5) => (if v5 = 0 ∨ v5 = 1 then some (v5, M5) else none))))) (fun res => some res) o)
def gX6_readSearch_J77 (ob od le mo sh : Nat) (s1 : Int32) (M8 : me_M) : Option me_M :=
  (if s1 = 0 then some M8 else some (me_s M8 ob 4 ((M8.1 ob 4) + 1)))
def gX6_readSearch_J76 (ob od le mo sh : Nat) (M7 : me_M) : Option me_M :=
  (gX6_readSearch_J77 ob od le mo sh 0 M7)
def gX6_readSearch_J22 (ob od le mo sh : Nat) (M : me_M) (s2 : Int32) : Option me_M :=
  ((mX6_fail_52 M s2).bind fun (v8, M9) => some M9)
def gX6_readSearch (ob od le mo sh : Nat) (M : me_M)  : Option me_M :=
  (if (M.1 ob 4) < 8 then ((gX6_readOrder ob od le mo sh M).bind fun (v1, M1) => (if v1 = 0 then (gX6_readSearch_J76 ob od le mo sh M1) else ((mX6_readGap_52 M1).bind fun (v2, M2) => (if v2 = 0 then (gX6_readSearch_J76 ob od le mo sh M2) else ((gX6_readLeast ob od le mo sh M2).bind fun (v3, M3) => (if v3 = 0 then (gX6_readSearch_J76 ob od le mo sh M3) else ((mX6_readGap_52 M3).bind fun (v4, M4) => (if v4 = 0 then (gX6_readSearch_J76 ob od le mo sh M4) else ((gX6_readMost ob od le mo sh M4).bind fun (v5, M5) => (if v5 = 0 then (gX6_readSearch_J76 ob od le mo sh M5) else ((mX6_readSemicolon_52 M5).bind fun (v6, M6) => (if v6 = 0 then (gX6_readSearch_J76 ob od le mo sh M6) else (gX6_readSearch_J77 ob od le mo sh 1 M6))))))))))))) else ((mX6_isDigit_52 M).bind fun v7 => (if v7 = 0 then (gX6_readSearch_J22 ob od le mo sh M 1) else (gX6_readSearch_J22 ob od le mo sh M 3))))
def gX6_read_L31 (ob od le mo sh : Nat)  : (Int32 × me_M) → Option ((Int32 × me_M) ⊕ (me_M))
  | (x3_1, M2) => (if 8 < x3_1 then some (.inr M2) else (if (M2.1 52 1) ≤ (M2.1 52 2) then some (.inr M2) else (if (M2.1 52 3) = 0 then ((gX6_readSearch ob od le mo sh M2).bind fun M3 => ((mX6_skipBlanks_52 M3).bind fun M4 => some (.inl ((x3_1 + 1), M4)))) else some (.inr M2))))
def gX6_read (ob od le mo sh : Nat) (M : me_M) (p0 : Int32) : Option me_M :=
  ((mX6_skipBlanks_52 (me_s (me_s (me_s (me_s (me_s M 52 1 p0) 52 2 0) 52 3 0) 52 4 (-1)) ob 4 0)).bind fun M1 => ((me_l (gX6_read_L31 ob od le mo sh) me_fu (0, M1)).bind fun M5 => (if (M5.1 52 3) = 0 then (if (M5.1 ob 4) = 0 then ((mX6_fail_52 M5 1).bind fun (v4, M6) => some M6) else some M5) else some M5)))
theorem eX6_readOrder_52_53 : @mX6_readOrder_52_53 = gX6_readOrder 53 54 55 56 57 := rfl
theorem eX6_readOrder_52_58 : @mX6_readOrder_52_58 = gX6_readOrder 58 59 60 61 62 := rfl
theorem eX6_readLeast_52_53 : @mX6_readLeast_52_53 = gX6_readLeast 53 54 55 56 57 := rfl
theorem eX6_readLeast_52_58 : @mX6_readLeast_52_58 = gX6_readLeast 58 59 60 61 62 := rfl
theorem eX6_readMost_52_53 : @mX6_readMost_52_53 = gX6_readMost 53 54 55 56 57 := rfl
theorem eX6_readMost_52_58 : @mX6_readMost_52_58 = gX6_readMost 58 59 60 61 62 := rfl
theorem eX6_readSearch_52_53 : @mX6_readSearch_52_53 = gX6_readSearch 53 54 55 56 57 := rfl
theorem eX6_readSearch_52_58 : @mX6_readSearch_52_58 = gX6_readSearch 58 59 60 61 62 := rfl
theorem eX6_read_52_53 : @mX6_read_52_53 = gX6_read 53 54 55 56 57 := rfl
theorem eX6_read_52_58 : @mX6_read_52_58 = gX6_read 58 59 60 61 62 := rfl
def gX1_run_J150 (ob od le mo sh : Nat) (p1 : Int32) (x5_1 : Int32) (x6_2 : Int32) (M7 : me_M) : Option ((Int32 × me_M) ⊕ (me_M)) :=
  some (.inl ((x6_2 + 1), M7))
def gX1_run_J122 (ob od le mo sh : Nat) (p1 : Int32) (x5_1 : Int32) (x6_2 : Int32) (M5 : me_M) : Option ((Int32 × me_M) ⊕ (me_M)) :=
  (if (M5.1 36 9) ≤ 0 then (gX1_run_J150 ob od le mo sh p1 x5_1 x6_2 M5) else ((me_r M5 le 40 (x5_1 + x6_2)).bind fun v9 => ((me_t M5 43 24 ((M5.1 36 9) - 1) v9).bind fun M6 => (gX1_run_J150 ob od le mo sh p1 x5_1 x6_2 M6))))
def gX1_run_L22 (ob od le mo sh : Nat) (p1 : Int32) (x5_1 : Int32) : (Int32 × me_M) → Option ((Int32 × me_M) ⊕ (me_M))
  | (x6_2, M2) => (if (M2.1 ob 5) ≤ x6_2 then some (.inr M2) else ((me_r M2 od 40 (x5_1 + x6_2)).bind fun v1 => ((me_dv (v1 * p1) (M2.1 ob 5)).bind fun v2 => ((me_dv ((v1 + 1) * p1) (M2.1 ob 5)).bind fun v3 => ((me_r M2 od 40 x5_1).bind fun v4 => (if v4 ≤ v1 then ((me_r M2 mo 40 (x5_1 + x6_2)).bind fun v5 => ((mX1_planRightwards_36_48 M2 v2 v3 v5).bind fun M3 => (gX1_run_J122 ob od le mo sh p1 x5_1 x6_2 M3))) else ((me_r M2 mo 40 (x5_1 + x6_2)).bind fun v7 => ((mX1_planLeftwards_36_48 M2 v2 v3 v7).bind fun M4 => (gX1_run_J122 ob od le mo sh p1 x5_1 x6_2 M4)))))))))
def gX1_run_K22 (ob od le mo sh : Nat) (p1 : Int32) (x5_1 : Int32) (x6_1 : Int32) (M1 : me_M) : Option me_M :=
  ((me_l (gX1_run_L22 ob od le mo sh p1 x5_1) me_fu (x6_1, M1)).bind fun M8 => ((mX7_start_37 M8).bind fun M9 => ((mX1_goOn_36 26 M9 0 0).bind fun M10 => some M10)))
def gX1_run (ob od le mo sh : Nat) (M : me_M) (p0 : Int32) (p1 : Int32) : Option me_M :=
  (if 1 ≤ ((me_s M 36 9 0).1 ob 5) then (gX1_run_K22 ob od le mo sh p1 (p0 * 5) 0 (me_s M 36 9 0)) else some (me_s M 36 9 0))
theorem eX1_run_53 : @mX1_run_36_53_48 = gX1_run 53 54 55 56 57 := rfl
theorem eX1_run_58 : @mX1_run_36_58_48 = gX1_run 58 59 60 61 62 := rfl
def gX7_extend (a b s L : Nat) (L9 : Int32) (M : me_M) (p0 : Int32) (p1 : Int32) (p2 : Int32) : Option (Int32 × me_M) :=
  (if p0 < 0 then some (0, M) else (if (p0 + 1) < L9 then (if p2 = 0 then ((me_r M a L p0).bind fun v9 => ((me_r M s L p0).bind fun v10 => ((mX4_rowWith_9 M v9 p1).bind fun v11 => ((me_t M a L (p0 + 1) v11).bind fun M4 => ((me_r M4 b L p0).bind fun v12 => ((mX4_smallerAhead_9 M4 (v9 + v10) p1).bind fun v13 => ((mX4_smallerAhead_9 M4 v9 p1).bind fun v14 => ((me_t M4 b L (p0 + 1) ((v12 + v13) - v14)).bind fun M5 => ((mX4_rowWith_9 M5 (v9 + v10) p1).bind fun v15 => ((me_t M5 s L (p0 + 1) (v15 - v11)).bind fun M6 => ((me_r M6 s L (p0 + 1)).bind fun v16 => some (v16, M6)))))))))))) else ((me_r M b L p0).bind fun v1 => ((me_r M s L p0).bind fun v2 => ((mX4_rowWith_14 M v1 p1).bind fun v3 => ((me_t M b L (p0 + 1) v3).bind fun M1 => ((me_r M1 a L p0).bind fun v4 => ((mX4_smallerAhead_14 M1 (v1 + v2) p1).bind fun v5 => ((mX4_smallerAhead_14 M1 v1 p1).bind fun v6 => ((me_t M1 a L (p0 + 1) ((v4 + v5) - v6)).bind fun M2 => ((mX4_rowWith_14 M2 (v1 + v2) p1).bind fun v7 => ((me_t M2 s L (p0 + 1) (v7 - v3)).bind fun M3 => ((me_r M3 s L (p0 + 1)).bind fun v8 => some (v8, M3))))))))))))) else some (0, M)))
theorem eX7_extend_20 : @mX7_extend_20 = gX7_extend 21 22 23 41 41 := rfl
theorem eX7_extend_37 : @mX7_extend_37 = gX7_extend 38 39 40 41 41 := rfl
