def nX12_feed (M : me_M) (p0 : Int32) (p1 : Int32) (p2 : Int32) (p3 : Int32) (p4 : Int32) : Option (Int32 × me_M) :=
  (if ((M.1 63 2) + 20) ≤ 240 then ((me_l (mX12_feed_63_L23 p0 p1 p2 p3 p4) me_fu (0, M)).bind fun M3 => some ((M3.1 63 2), M3)) else some ((-1), M))
theorem zX12_feed (M : me_M) (p0 : Int32) (p1 : Int32) (p2 : Int32) (p3 : Int32) (p4 : Int32) : mX12_feed_63 M p0 p1 p2 p3 p4 = nX12_feed (me_s M 63 0 0) p0 p1 p2 p3 p4 := rfl
def nX12_text (M : me_M) (p0 : Int32) : Option (Int32 × me_M) :=
  ((mX12_in p0 1 (M.1 63 2)).bind fun v1 => (if v1 = 0 then (mX12_text_63_J23 p0 1 M) else (mX12_text_63_J23 p0 0 M)))
theorem zX12_text (M : me_M) (p0 : Int32) : mX12_text_63 M p0 = nX12_text (me_s M 63 0 0) p0 := rfl
def nX12_scheme (M : me_M) (p0 : Int32) : Option (Int32 × me_M) :=
  ((mX12_in p0 1 (M.1 63 2)).bind fun v1 => (if v1 = 0 then (mX12_scheme_63_J23 p0 1 M) else (mX12_scheme_63_J23 p0 0 M)))
theorem zX12_scheme (M : me_M) (p0 : Int32) : mX12_scheme_63 M p0 = nX12_scheme (me_s M 63 0 0) p0 := rfl
def nX12_fault (M : me_M)  : Option (Int32 × me_M) :=
  some ((M.1 63 3), M)
theorem zX12_fault (M : me_M)  : mX12_fault_63 M = nX12_fault (me_s M 63 0 0) := rfl
def nX12_step (M : me_M) (p0 : Int32) : Option (Int32 × me_M) :=
  ((mX12_in p0 1 16).bind fun v1 => (if v1 = 0 then (mX12_step_63_J21 p0 1 M) else (mX12_step_63_J21 p0 0 M)))
theorem zX12_step (M : me_M) (p0 : Int32) : mX12_step_63 M p0 = nX12_step (me_s M 63 0 0) p0 := rfl
def nX12_grow (M : me_M) (p0 : Int32) (p1 : Int32) : Option (Int32 × me_M) :=
  ((mX12_isLetter p0).bind fun v1 => (if v1 = 0 then (mX12_grow_63_J22 p0 p1 M) else ((mX12_in p1 0 1).bind fun v2 => (if v2 = 0 then (mX12_grow_63_J22 p0 p1 M) else (mX12_grow_63_J27 p0 p1 0 M)))))
theorem zX12_grow (M : me_M) (p0 : Int32) (p1 : Int32) : mX12_grow_63 M p0 p1 = nX12_grow (me_s M 63 0 0) p0 p1 := rfl
def nX12_shrink (M : me_M)  : Option (Int32 × me_M) :=
  ((mX12_letters_63 M).bind fun v1 => (if v1 = 0 then some ((-1), M) else ((mX12_letters_63 M).bind fun v2 => ((me_r M 76 40 (v2 - 1)).bind fun v3 => ((mX12_takesOff_63 M v3).bind fun M1 => ((mX12_letters_63 M1).bind fun v5 => (if v5 = 0 then (mX12_shrink_63_J48 (me_s (me_s M1 63 10 42) 63 11 42)) else (mX12_shrink_63_J48 M1))))))))
theorem zX12_shrink (M : me_M)  : mX12_shrink_63 M = nX12_shrink (me_s M 63 0 0) := rfl
def nX12_clear (M : me_M)  : Option (Int32 × me_M) :=
  ((mX12_letters_63 M).bind fun v1 => some (v1, (me_s (me_s M 63 10 42) 63 11 42)))
theorem zX12_clear (M : me_M)  : mX12_clear_63 M = nX12_clear (me_s M 63 0 0) := rfl
def nX12_told (M : me_M) (p0 : Int32) : Option (Int32 × me_M) :=
  ((mX12_in p0 0 13).bind fun v1 => (if v1 = 0 then (mX12_told_63_J21 p0 1 M) else (mX12_told_63_J21 p0 0 M)))
theorem zX12_told (M : me_M) (p0 : Int32) : mX12_told_63 M p0 = nX12_told (me_s M 63 0 0) p0 := rfl
def nX12_sign (M : me_M) (p0 : Int32) : Option (Int32 × me_M) :=
  ((mX12_isPlace_63 M p0).bind fun v1 => (if v1 = 0 then (mX12_sign_63_J19 p0 1 M) else (mX12_sign_63_J19 p0 0 M)))
theorem zX12_sign (M : me_M) (p0 : Int32) : mX12_sign_63 M p0 = nX12_sign (me_s M 63 0 0) p0 := rfl
def nX12_row (M : me_M) (p0 : Int32) (p1 : Int32) (p2 : Int32) : Option (Int32 × me_M) :=
  ((mX12_isRow_63 M p0 p1).bind fun v1 => (if v1 = 0 then (mX12_row_63_J20 p0 p1 p2 1 M) else (mX12_row_63_J20 p0 p1 p2 0 M)))
theorem zX12_row (M : me_M) (p0 : Int32) (p1 : Int32) (p2 : Int32) : mX12_row_63 M p0 p1 p2 = nX12_row (me_s M 63 0 0) p0 p1 p2 := rfl
def nX12_rowOf (M : me_M) (p0 : Int32) (p1 : Int32) : Option (Int32 × me_M) :=
  ((mX12_isRow_63 M p0 p1).bind fun v1 => (if v1 = 0 then (mX12_rowOf_63_J20 p0 p1 1 M) else (mX12_rowOf_63_J20 p0 p1 0 M)))
theorem zX12_rowOf (M : me_M) (p0 : Int32) (p1 : Int32) : mX12_rowOf_63 M p0 p1 = nX12_rowOf (me_s M 63 0 0) p0 p1 := rfl
def nX12_count (M : me_M) (p0 : Int32) (p1 : Int32) (p2 : Int32) : Option (Int32 × me_M) :=
  ((mX12_in p0 0 1).bind fun v1 => (if v1 = 0 then (mX12_count_63_J29 p0 p1 p2 M) else ((mX12_in p1 0 ((M.1 63 5) + 1)).bind fun v2 => (if v2 = 0 then (mX12_count_63_J29 p0 p1 p2 M) else (mX12_count_63_J34 p0 p1 p2 0 M)))))
theorem zX12_count (M : me_M) (p0 : Int32) (p1 : Int32) (p2 : Int32) : mX12_count_63 M p0 p1 p2 = nX12_count (me_s M 63 0 0) p0 p1 p2 := rfl
def nX12_letter (M : me_M) (p0 : Int32) : Option (Int32 × me_M) :=
  ((mX12_letters_63 M).bind fun v1 => ((mX12_in p0 0 (v1 - 1)).bind fun v2 => (if v2 = 0 then (mX12_letter_63_J25 p0 1 M) else (mX12_letter_63_J25 p0 0 M))))
theorem zX12_letter (M : me_M) (p0 : Int32) : mX12_letter_63 M p0 = nX12_letter (me_s M 63 0 0) p0 := rfl
def nX12_grows (M : me_M) (p0 : Int32) : Option (Int32 × me_M) :=
  ((mX12_in p0 0 1).bind fun v1 => (if v1 = 0 then (mX12_grows_63_J20 p0 1 M) else (mX12_grows_63_J20 p0 0 M)))
theorem zX12_grows (M : me_M) (p0 : Int32) : mX12_grows_63 M p0 = nX12_grows (me_s M 63 0 0) p0 := rfl
def nX12_hit (M : me_M) (p0 : Int32) (p1 : Int32) : Option (Int32 × me_M) :=
  ((mX12_sizeOf_63 M).bind fun v1 => ((mX12_in p0 0 (v1 - 1)).bind fun v2 => (if v2 = 0 then (mX12_hit_63_J25 p0 p1 1 M) else (mX12_hit_63_J25 p0 p1 0 M))))
theorem zX12_hit (M : me_M) (p0 : Int32) (p1 : Int32) : mX12_hit_63 M p0 p1 = nX12_hit (me_s M 63 0 0) p0 p1 := rfl
def nX12_hits (M : me_M) (p0 : Int32) : Option (Int32 × me_M) :=
  ((mX12_in p0 0 3).bind fun v1 => (if v1 = 0 then (mX12_hits_63_J20 p0 1 M) else (mX12_hits_63_J20 p0 0 M)))
theorem zX12_hits (M : me_M) (p0 : Int32) : mX12_hits_63 M p0 = nX12_hits (me_s M 63 0 0) p0 := rfl
def nX12_often (M : me_M) (p0 : Int32) : Option (Int32 × me_M) :=
  ((mX12_in p0 1 (M.1 63 2)).bind fun v1 => (if v1 = 0 then (mX12_often_63_J26 p0 M) else ((mX12_areLetters_63 M p0).bind fun v2 => (if v2 = 0 then (mX12_often_63_J26 p0 M) else (mX12_often_63_J31 p0 0 M)))))
theorem zX12_often (M : me_M) (p0 : Int32) : mX12_often_63 M p0 = nX12_often (me_s M 63 0 0) p0 := rfl
def nX12_shares (M : me_M) (p0 : Int32) : Option (Int32 × me_M) :=
  ((mX12_in p0 0 2).bind fun v1 => (if v1 = 0 then (mX12_shares_63_J20 p0 1 M) else (mX12_shares_63_J20 p0 0 M)))
theorem zX12_shares (M : me_M) (p0 : Int32) : mX12_shares_63 M p0 = nX12_shares (me_s M 63 0 0) p0 := rfl
def nX12_sound (M : me_M)  : Option (Int32 × me_M) :=
  ((mX12_sharesBy_63 M 1).bind fun (v1, M1) => (if v1 = 0 then ((mX12_sharesBy_63 M1 2).bind fun (v2, M2) => (if v2 = 0 then some (1, M2) else some (0, M2))) else some (0, M1)))
theorem zX12_sound (M : me_M)  : mX12_sound_63 M = nX12_sound (me_s M 63 0 0) := rfl
def nX12_needless (M : me_M)  : Option (Int32 × me_M) :=
  ((mX12_sharesBy_63 M 1).bind fun (v1, M1) => ((me_l (mX12_needless_63_L15 v1) me_fu (0, 0, M1)).bind fun (y1_1, M4) => some (y1_1, (me_s M4 63 29 (-1)))))
theorem zX12_needless (M : me_M)  : mX12_needless_63 M = nX12_needless (me_s M 63 0 0) := rfl
def nX12_digit (M : me_M) (p0 : Int32) (p1 : Int32) (p2 : Int32) : Option (Int32 × me_M) :=
  ((me_r M 77 2 0).bind fun v1 => ((mX12_in p0 0 (v1 - 1)).bind fun v2 => (if v2 = 0 then (mX12_digit_63_J38 p0 p1 p2 M) else ((me_r M 78 2 0).bind fun v3 => ((mX12_in p1 0 (v3 - 1)).bind fun v4 => (if v4 = 0 then (mX12_digit_63_J38 p0 p1 p2 M) else (mX12_digit_63_J43 p0 p1 p2 0 M)))))))
theorem zX12_digit (M : me_M) (p0 : Int32) (p1 : Int32) (p2 : Int32) : mX12_digit_63 M p0 p1 p2 = nX12_digit (me_s M 63 0 0) p0 p1 p2 := rfl
def nX12_search (M : me_M) (p0 : Int32) : Option (Int32 × me_M) :=
  ((mX12_in p0 1 (M.1 63 2)).bind fun v1 => (if v1 = 0 then (mX12_search_63_J42 p0 M) else ((me_r M 78 2 0).bind fun v2 => (if p0 < v2 then (mX12_search_63_J42 p0 M) else (if 24 < p0 then (mX12_search_63_J42 p0 M) else ((mX12_areLetters_63 M p0).bind fun v3 => (if v3 = 0 then (mX12_search_63_J42 p0 M) else (mX12_search_63_J47 p0 0 M))))))))
theorem zX12_search (M : me_M) (p0 : Int32) : mX12_search_63 M p0 = nX12_search (me_s M 63 0 0) p0 := rfl
def nX12_found (M : me_M) (p0 : Int32) (p1 : Int32) : Option (Int32 × me_M) :=
  (if (M.1 63 17) = 0 then (mX12_found_63_J27 p0 p1 M) else ((mX12_places_63 M).bind fun v1 => ((mX12_in p0 0 (v1 - 1)).bind fun v2 => (if v2 = 0 then (mX12_found_63_J27 p0 p1 M) else (mX12_found_63_J32 p0 p1 0 M)))))
theorem zX12_found (M : me_M) (p0 : Int32) (p1 : Int32) : mX12_found_63 M p0 p1 = nX12_found (me_s M 63 0 0) p0 p1 := rfl
def nX12_result (M : me_M) (p0 : Int32) : Option (Int32 × me_M) :=
  ((mX12_in p0 0 4).bind fun v1 => (if v1 = 0 then (mX12_result_63_J20 p0 1 M) else (mX12_result_63_J20 p0 0 M)))
theorem zX12_result (M : me_M) (p0 : Int32) : mX12_result_63 M p0 = nX12_result (me_s M 63 0 0) p0 := rfl
def nX12_ran (M : me_M) (p0 : Int32) (p1 : Int32) : Option (Int32 × me_M) :=
  ((me_r M 77 2 0).bind fun v1 => ((mX12_in p0 0 (v1 - 1)).bind fun v2 => (if v2 = 0 then (mX12_ran_63_J27 p0 p1 1 M) else (mX12_ran_63_J27 p0 p1 0 M))))
theorem zX12_ran (M : me_M) (p0 : Int32) (p1 : Int32) : mX12_ran_63 M p0 p1 = nX12_ran (me_s M 63 0 0) p0 p1 := rfl
def nX12_matches (M : me_M) (p0 : Int32) (p1 : Int32) : Option (Int32 × me_M) :=
  ((mX12_in p0 1 (M.1 63 2)).bind fun v1 => (if v1 = 0 then (mX12_matches_63_J37 p0 p1 M) else ((mX12_areLetters_63 M p0).bind fun v2 => (if v2 = 0 then (mX12_matches_63_J37 p0 p1 M) else ((mX12_in p1 1 240).bind fun v3 => (if v3 = 0 then (mX12_matches_63_J37 p0 p1 M) else (mX12_matches_63_J42 p0 p1 0 M)))))))
theorem zX12_matches (M : me_M) (p0 : Int32) (p1 : Int32) : mX12_matches_63 M p0 p1 = nX12_matches (me_s M 63 0 0) p0 p1 := rfl
def nX12_match (M : me_M) (p0 : Int32) (p1 : Int32) : Option (Int32 × me_M) :=
  ((mX12_in p0 0 ((M.1 63 38) - 1)).bind fun v1 => (if v1 = 0 then (mX12_match_63_J25 p0 p1 1 M) else (mX12_match_63_J25 p0 p1 0 M)))
theorem zX12_match (M : me_M) (p0 : Int32) (p1 : Int32) : mX12_match_63 M p0 p1 = nX12_match (me_s M 63 0 0) p0 p1 := rfl
def nX12_maximals (M : me_M) (p0 : Int32) (p1 : Int32) : Option (Int32 × me_M) :=
  ((mX12_areBounds_63 p0 p1).bind fun v1 => (if v1 = 0 then (mX12_maximals_63_J20 p0 p1 1 M) else (mX12_maximals_63_J20 p0 p1 0 M)))
theorem zX12_maximals (M : me_M) (p0 : Int32) (p1 : Int32) : mX12_maximals_63 M p0 p1 = nX12_maximals (me_s M 63 0 0) p0 p1 := rfl
def nX12_maximal (M : me_M) (p0 : Int32) (p1 : Int32) (p2 : Int32) (p3 : Int32) : Option (Int32 × me_M) :=
  ((mX12_areBounds_63 p1 p2).bind fun v1 => (if v1 = 0 then (mX12_maximal_63_J25 p0 p1 p2 p3 M) else ((mX12_in p3 0 2).bind fun v2 => (if v2 = 0 then (mX12_maximal_63_J25 p0 p1 p2 p3 M) else (mX12_maximal_63_J30 p0 p1 p2 p3 0 M)))))
theorem zX12_maximal (M : me_M) (p0 : Int32) (p1 : Int32) (p2 : Int32) (p3 : Int32) : mX12_maximal_63 M p0 p1 p2 p3 = nX12_maximal (me_s M 63 0 0) p0 p1 p2 p3 := rfl
def nX12_strings (M : me_M) (p0 : Int32) : Option (Int32 × me_M) :=
  ((mX12_in p0 1 240).bind fun v1 => (if v1 = 0 then (mX12_strings_63_J22 p0 1 M) else (mX12_strings_63_J22 p0 0 M)))
theorem zX12_strings (M : me_M) (p0 : Int32) : mX12_strings_63 M p0 = nX12_strings (me_s M 63 0 0) p0 := rfl
def nX12_repeat (M : me_M) (p0 : Int32) : Option (Int32 × me_M) :=
  ((mX12_in p0 0 2).bind fun v1 => (if v1 = 0 then (mX12_repeat_63_J20 p0 1 M) else (mX12_repeat_63_J20 p0 0 M)))
theorem zX12_repeat (M : me_M) (p0 : Int32) : mX12_repeat_63 M p0 = nX12_repeat (me_s M 63 0 0) p0 := rfl
def nX12_unique (M : me_M) (p0 : Int32) : Option (Int32 × me_M) :=
  ((mX12_isPlace_63 M p0).bind fun v1 => (if v1 = 0 then (mX12_unique_63_J19 p0 1 M) else (mX12_unique_63_J19 p0 0 M)))
theorem zX12_unique (M : me_M) (p0 : Int32) : mX12_unique_63 M p0 = nX12_unique (me_s M 63 0 0) p0 := rfl
def nX12_around (M : me_M) (p0 : Int32) (p1 : Int32) : Option (Int32 × me_M) :=
  ((mX12_isPlace_63 M p0).bind fun v1 => (if v1 = 0 then (mX12_around_63_J19 p0 p1 1 M) else (mX12_around_63_J19 p0 p1 0 M)))
theorem zX12_around (M : me_M) (p0 : Int32) (p1 : Int32) : mX12_around_63 M p0 p1 = nX12_around (me_s M 63 0 0) p0 p1 := rfl
def nX12_common (M : me_M) (p0 : Int32) : Option (Int32 × me_M) :=
  ((mX12_in p0 0 1).bind fun v1 => (if v1 = 0 then (mX12_common_63_J20 p0 1 M) else (mX12_common_63_J20 p0 0 M)))
theorem zX12_common (M : me_M) (p0 : Int32) : mX12_common_63 M p0 = nX12_common (me_s M 63 0 0) p0 := rfl
def nX12_document (M : me_M) (p0 : Int32) (p1 : Int32) : Option (Int32 × me_M) :=
  ((mX12_documents_63 M).bind fun v1 => ((mX12_in p0 0 (v1 - 1)).bind fun v2 => (if v2 = 0 then (mX12_document_63_J25 p0 p1 1 M) else (mX12_document_63_J25 p0 p1 0 M))))
theorem zX12_document (M : me_M) (p0 : Int32) (p1 : Int32) : mX12_document_63 M p0 p1 = nX12_document (me_s M 63 0 0) p0 p1 := rfl
def nX12_print (M : me_M) (p0 : Int32) : Option (Int64 × me_M) :=
  ((mX12_in p0 0 1).bind fun v1 => (if v1 = 0 then (mX12_print_63_J20 p0 1 M) else (mX12_print_63_J20 p0 0 M)))
theorem zX12_print (M : me_M) (p0 : Int32) : mX12_print_63 M p0 = nX12_print (me_s M 63 0 0) p0 := rfl
def nX12_status (M : me_M) (p0 : Int32) : Option (Int32 × me_M) :=
  ((mX12_in p0 0 2).bind fun v1 => (if v1 = 0 then some ((-1), M) else ((me_r M 64 3 p0).bind fun v2 => some (v2, M))))
theorem zX12_status (M : me_M) (p0 : Int32) : mX12_status_63 M p0 = nX12_status (me_s M 63 0 0) p0 := rfl
