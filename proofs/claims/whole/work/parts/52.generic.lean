def gX4_isAhead_J31 (o sg pl ro al sm : Nat) (p0 : Int32) (p1 : Int32) (M : me_M)  : Option Int32 :=
  ((me_r M sg 241 p0).bind fun v5 => ((me_r M sg 241 p1).bind fun v6 => (if v6 ≤ v5 then some 0 else some 1)))
def gX4_isAhead (o sg pl ro al sm : Nat) (M : me_M) (p0 : Int32) (p1 : Int32) : Option Int32 :=
  ((me_r M sg 241 p0).bind fun v1 => ((me_r M sg 241 p1).bind fun v2 => (if v1 = v2 then (if (M.1 o 5) ≤ p0 then (gX4_isAhead_J31 o sg pl ro al sm p0 p1 M ) else (if p1 < (M.1 o 5) then ((me_r M ro 241 (p0 + 1)).bind fun v3 => ((me_r M ro 241 (p1 + 1)).bind fun v4 => (if v4 ≤ v3 then some 0 else some 1))) else (gX4_isAhead_J31 o sg pl ro al sm p0 p1 M ))) else (gX4_isAhead_J31 o sg pl ro al sm p0 p1 M ))))
def gX4_sortPlaces_L38 (o sg pl ro al sm : Nat) (x1_1 : Int32) : (Int32 × me_M) → Option ((Int32 × me_M) ⊕ (Int32 × me_M))
  | (x2_1, M4) => (if x2_1 ≤ 0 then some (.inr (x2_1, M4)) else ((me_r M4 pl 241 (x2_1 - 1)).bind fun v1 => ((gX4_isAhead o sg pl ro al sm M4 x1_1 v1).bind fun v2 => (if v2 = 0 then some (.inr (x2_1, M4)) else ((me_r M4 pl 241 (x2_1 - 1)).bind fun v3 => ((me_t M4 pl 241 x2_1 v3).bind fun M5 => ((me_r M5 pl 241 x2_1).bind fun v4 => ((me_t M5 ro 241 v4 x2_1).bind fun M6 => some (.inl ((x2_1 + (-1)), M6))))))))))
def gX4_sortPlaces_L27 (o sg pl ro al sm : Nat)  : (Int32 × me_M) → Option ((Int32 × me_M) ⊕ (me_M))
  | (x1_1, M3) => (if x1_1 < 0 then some (.inr M3) else ((me_l (gX4_sortPlaces_L38 o sg pl ro al sm x1_1) me_fu (((M3.1 o 5) - x1_1), M3)).bind fun (y2_1, M7) => ((me_t M7 pl 241 y2_1 x1_1).bind fun M8 => ((me_t M8 ro 241 x1_1 y2_1).bind fun M9 => some (.inl ((x1_1 + (-1)), M9))))))
def gX4_sortPlaces (o sg pl ro al sm : Nat) (M : me_M)  : Option me_M :=
  ((me_t M pl 241 0 (M.1 o 5)).bind fun M1 => ((me_t M1 ro 241 (M1.1 o 5) 0).bind fun M2 => ((me_l (gX4_sortPlaces_L27 o sg pl ro al sm) me_fu (((M2.1 o 5) - 1), M2)).bind fun M10 => some M10)))
def gX4_compareNeighbours_J107 (o sg pl ro al sm : Nat) (x2_1 : Int32) (x1_3 : Int32) (M4 : me_M) : Option ((Int32 × Int32 × me_M) ⊕ (me_M)) :=
  some (.inl (x1_3, (x2_1 + 1), M4))
def gX4_compareNeighbours_L45 (o sg pl ro al sm : Nat) (M1 : me_M) (x2_1 : Int32) (v1 : Int32) (v2 : Int32) : (Int32) → Option ((Int32) ⊕ (Int32))
  | x1_2 => (if (M1.1 o 5) ≤ (x2_1 + x1_2) then some (.inr x1_2) else (if (M1.1 o 5) ≤ (v2 + x1_2) then some (.inr x1_2) else ((me_r M1 sg 241 (x2_1 + x1_2)).bind fun v3 => ((me_r M1 sg 241 (v2 + x1_2)).bind fun v4 => (if v3 = v4 then some (.inl (x1_2 + 1)) else some (.inr x1_2))))))
def gX4_compareNeighbours_L4 (o sg pl ro al sm : Nat)  : (Int32 × Int32 × me_M) → Option ((Int32 × Int32 × me_M) ⊕ (me_M))
  | (x1_1, x2_1, M1) => (if (M1.1 o 5) < x2_1 then some (.inr M1) else ((me_r M1 ro 241 x2_1).bind fun v1 => (if v1 = 0 then ((me_t M1 al 241 v1 0).bind fun M3 => (gX4_compareNeighbours_J107 o sg pl ro al sm x2_1 0 M3)) else ((me_r M1 pl 241 (v1 - 1)).bind fun v2 => ((me_l (gX4_compareNeighbours_L45 o sg pl ro al sm M1 x2_1 v1 v2) me_fu x1_1).bind fun y1_1 => ((me_t M1 al 241 v1 y1_1).bind fun M2 => ((mJ9_max_7cf53 0 (y1_1 - 1)).bind fun v5 => (gX4_compareNeighbours_J107 o sg pl ro al sm x2_1 v5 M2))))))))
def gX4_compareNeighbours (o sg pl ro al sm : Nat) (M : me_M)  : Option me_M :=
  ((me_l (gX4_compareNeighbours_L4 o sg pl ro al sm) me_fu (0, 0, M)).bind fun M5 => some M5)
def gX4_before (o sg pl ro al sm : Nat) (M : me_M) (p0 : Int32) : Option Int32 :=
  ((me_r M pl 241 p0).bind fun v1 => (if v1 = 0 then some 0 else ((me_r M sg 241 (v1 - 1)).bind fun v2 => some v2)))
def gX4_tallySmaller_J36 (o sg pl ro al sm : Nat) (x1_1 : Int32) (v1 : Int32) (x3_1 : Int32) (M2 : me_M) (s1 : Int32) : Option ((Int32 × me_M) ⊕ (me_M)) :=
  ((me_r M2 sm 1936 ((x1_1 * 8) + x3_1)).bind fun v2 => ((me_t M2 sm 1936 (((x1_1 + 1) * 8) + x3_1) (v2 + s1)).bind fun M3 => some (.inl ((x3_1 + 1), M3))))
def gX4_tallySmaller_L18 (o sg pl ro al sm : Nat) (x1_1 : Int32) (v1 : Int32) : (Int32 × me_M) → Option ((Int32 × me_M) ⊕ (me_M))
  | (x3_1, M2) => (if 8 ≤ x3_1 then some (.inr M2) else (if (2 + x3_1) ≤ v1 then (gX4_tallySmaller_J36 o sg pl ro al sm x1_1 v1 x3_1 M2 0) else (gX4_tallySmaller_J36 o sg pl ro al sm x1_1 v1 x3_1 M2 1)))
def gX4_tallySmaller_L2 (o sg pl ro al sm : Nat)  : (Int32 × me_M) → Option ((Int32 × me_M) ⊕ (me_M))
  | (x1_1, M1) => (if (M1.1 o 5) < x1_1 then some (.inr M1) else ((gX4_before o sg pl ro al sm M1 x1_1).bind fun v1 => ((me_l (gX4_tallySmaller_L18 o sg pl ro al sm x1_1 v1) me_fu (0, M1)).bind fun M4 => some (.inl ((x1_1 + 1), M4)))))
def gX4_tallySmaller (o sg pl ro al sm : Nat) (M : me_M)  : Option me_M :=
  ((me_l (gX4_tallySmaller_L2 o sg pl ro al sm) me_fu (0, M)).bind fun M5 => some M5)
def gX4_arrange (o sg pl ro al sm : Nat) (M : me_M) (p0 : Int32) : Option me_M :=
  ((gX4_sortPlaces o sg pl ro al sm (me_s M o 5 p0)).bind fun M1 => ((gX4_compareNeighbours o sg pl ro al sm M1).bind fun M2 => ((gX4_tallySmaller o sg pl ro al sm M2).bind fun M3 => some M3)))
def gX4_walk (o sg pl ro al sm : Nat) (M : me_M) (p0 : Int32) : Option Int32 :=
  ((me_r M pl 241 p0).bind fun v1 => (if v1 = 0 then some 0 else ((me_r M ro 241 (v1 - 1)).bind fun v2 => some v2)))
def gX4_smallerAhead (o sg pl ro al sm : Nat) (M : me_M) (p0 : Int32) (p1 : Int32) : Option Int32 :=
  (if p1 < 8 then ((me_r M sm 1936 ((p0 * 8) + p1)).bind fun v1 => some v1) else some p0)
def gX4_lettersAhead (o sg pl ro al sm : Nat) (M : me_M) (p0 : Int32) (p1 : Int32) : Option Int32 :=
  ((gX4_smallerAhead o sg pl ro al sm M p0 (p1 + 1)).bind fun v1 => ((gX4_smallerAhead o sg pl ro al sm M p0 p1).bind fun v2 => some (v1 - v2)))
def gX4_rowWith (o sg pl ro al sm : Nat) (M : me_M) (p0 : Int32) (p1 : Int32) : Option Int32 :=
  ((gX4_smallerAhead o sg pl ro al sm M ((M.1 o 5) + 1) p1).bind fun v1 => ((gX4_lettersAhead o sg pl ro al sm M p0 p1).bind fun v2 => some (v1 + v2)))
theorem eX4_isAhead_9 : @mX4_isAhead_9 = gX4_isAhead 9 4 10 11 12 13 := rfl
theorem eX4_isAhead_14 : @mX4_isAhead_14 = gX4_isAhead 14 5 15 16 17 18 := rfl
theorem eX4_sortPlaces_9 : @mX4_sortPlaces_9 = gX4_sortPlaces 9 4 10 11 12 13 := rfl
theorem eX4_sortPlaces_14 : @mX4_sortPlaces_14 = gX4_sortPlaces 14 5 15 16 17 18 := rfl
theorem eX4_compareNeighbours_9 : @mX4_compareNeighbours_9 = gX4_compareNeighbours 9 4 10 11 12 13 := rfl
theorem eX4_compareNeighbours_14 : @mX4_compareNeighbours_14 = gX4_compareNeighbours 14 5 15 16 17 18 := rfl
theorem eX4_before_9 : @mX4_before_9 = gX4_before 9 4 10 11 12 13 := rfl
theorem eX4_before_14 : @mX4_before_14 = gX4_before 14 5 15 16 17 18 := rfl
theorem eX4_tallySmaller_9 : @mX4_tallySmaller_9 = gX4_tallySmaller 9 4 10 11 12 13 := rfl
theorem eX4_tallySmaller_14 : @mX4_tallySmaller_14 = gX4_tallySmaller 14 5 15 16 17 18 := rfl
theorem eX4_arrange_9 : @mX4_arrange_9 = gX4_arrange 9 4 10 11 12 13 := rfl
theorem eX4_arrange_14 : @mX4_arrange_14 = gX4_arrange 14 5 15 16 17 18 := rfl
theorem eX4_walk_9 : @mX4_walk_9 = gX4_walk 9 4 10 11 12 13 := rfl
theorem eX4_walk_14 : @mX4_walk_14 = gX4_walk 14 5 15 16 17 18 := rfl
theorem eX4_smallerAhead_9 : @mX4_smallerAhead_9 = gX4_smallerAhead 9 4 10 11 12 13 := rfl
theorem eX4_smallerAhead_14 : @mX4_smallerAhead_14 = gX4_smallerAhead 14 5 15 16 17 18 := rfl
theorem eX4_lettersAhead_9 : @mX4_lettersAhead_9 = gX4_lettersAhead 9 4 10 11 12 13 := rfl
theorem eX4_lettersAhead_14 : @mX4_lettersAhead_14 = gX4_lettersAhead 14 5 15 16 17 18 := rfl
theorem eX4_rowWith_9 : @mX4_rowWith_9 = gX4_rowWith 9 4 10 11 12 13 := rfl
theorem eX4_rowWith_14 : @mX4_rowWith_14 = gX4_rowWith 14 5 15 16 17 18 := rfl
