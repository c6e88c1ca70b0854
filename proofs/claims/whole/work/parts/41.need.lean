theorem tw_899 : Cond.classLink RX11 433 "java/util/NoSuchElementException" ∈ lw_good := lw_in (List.mem_of_getElem? (i := 899) (by decide +kernel)) rfl
theorem tw_21 : Cond.initialized "java/util/NoSuchElementException" ∈ lw_good := lw_in (List.mem_of_getElem? (i := 21) (by decide +kernel)) rfl
theorem kG_X11_415 : me_G RX11 415 11 13 .int := ⟨RX11, TX11, 16, tyX11, rfl, by decide, inw11, tyX11_ok, nmX11, rfl, by decide +kernel, Or.inl tw_531⟩
theorem tw_658 : Cond.classLink RX11 440 "java/lang/IllegalArgumentException" ∈ lw_good := lw_in (List.mem_of_getElem? (i := 658) (by decide +kernel)) rfl
theorem tw_18 : Cond.initialized "java/lang/IllegalArgumentException" ∈ lw_good := lw_in (List.mem_of_getElem? (i := 18) (by decide +kernel)) rfl
theorem kG_X11_418 : me_G RX11 418 11 14 .int := ⟨RX11, TX11, 16, tyX11, rfl, by decide, inw11, tyX11_ok, nmX11, rfl, by decide +kernel, Or.inl tw_532⟩
theorem tw_835 : Cond.classLink RX11 445 "java/lang/IllegalStateException" ∈ lw_good := lw_in (List.mem_of_getElem? (i := 835) (by decide +kernel)) rfl
theorem tw_19 : Cond.initialized "java/lang/IllegalStateException" ∈ lw_good := lw_in (List.mem_of_getElem? (i := 19) (by decide +kernel)) rfl
theorem kG_X11_421 : me_G RX11 421 11 15 .int := ⟨RX11, TX11, 16, tyX11, rfl, by decide, inw11, tyX11_ok, nmX11, rfl, by decide +kernel, Or.inl tw_533⟩
abbrev xN : String := "java/util/NoSuchElementException"
abbrev xA : String := "java/lang/IllegalArgumentException"
abbrev xS : String := "java/lang/IllegalStateException"
set_option maxRecDepth 100000 in
set_option maxHeartbeats 4000000 in
theorem ctT_needElement {l : Launch} (hl : l.stackTraces = false) {n nt : Nat} (hn : 63 ≤ n) (hnt : 1 ≤ nt) {M : me_M} {p0 : Int32} (hp : p0 = 0) : me_Cx l yX11_needElement cX11_needElement 2 none 6 n nt (fun ad => [.ref (ad 0), .int p0]) M xN (me_s M 0 13 (M.1 0 13 + 1)) := by
  subst hp
  refine me_enterX (N0 := 63) RX11 rfl pl_RX11 hn hnt (fun _ => Nat.le_of_ble_eq_true rfl) ?_
  intro p e R s m args below meth c D cA ad tys A X hr hlk hz htab hRc hRs
  refine me_sub (L' := [(0, .ref (ad 0)), (1, .int 0)]) [0, 1] rfl ?_
  refine me_iload_n X (i := 1) 1 rfl dX11_needElement_0 ?_
  refine me_if_ne X 25 (by decide) dX11_needElement_1 (fun c1 => ?_) (fun c1 => ?_)
  · exact absurd rfl c1
  · refine me_aload_n X (i := 0) 0 rfl dX11_needElement_4 ?_
    refine me_dup X rfl dX11_needElement_5 ?_
    refine me_geti X kF_X11_415 (Nat.le_of_ble_eq_true rfl) me_k0 me_f0_13 dX11_needElement_6 ?_
    refine me_iconst X dX11_needElement_9 ic_1 ?_
    refine me_iadd X dX11_needElement_10 ?_
    refine me_puti X kG_X11_415 (Nat.le_of_ble_eq_true rfl) me_k0 me_f0_13 dX11_needElement_11 ?_
    exact me_throwN X hl hz htab hlk hRc hRs (Nat.le_refl _) (ik := 433) (is := 435) (ic := 437) hz.2.2.1 tw_899 tw_21 (by decide +kernel) (by decide +kernel) (by decide +kernel) dX11_needElement_14 dX11_needElement_17 dX11_needElement_18 dX11_needElement_21 dX11_needElement_24
set_option maxRecDepth 100000 in
set_option maxHeartbeats 4000000 in
theorem ctT_needArgument {l : Launch} (hl : l.stackTraces = false) {n nt : Nat} (hn : 63 ≤ n) (hnt : 1 ≤ nt) {M : me_M} {p0 : Int32} (hp : p0 = 0) : me_Cx l yX11_needArgument cX11_needArgument 2 none 6 n nt (fun ad => [.ref (ad 0), .int p0]) M xA (me_s M 0 14 (M.1 0 14 + 1)) := by
  subst hp
  refine me_enterX (N0 := 63) RX11 rfl pl_RX11 hn hnt (fun _ => Nat.le_of_ble_eq_true rfl) ?_
  intro p e R s m args below meth c D cA ad tys A X hr hlk hz htab hRc hRs
  refine me_sub (L' := [(0, .ref (ad 0)), (1, .int 0)]) [0, 1] rfl ?_
  refine me_iload_n X (i := 1) 1 rfl dX11_needArgument_0 ?_
  refine me_if_ne X 25 (by decide) dX11_needArgument_1 (fun c1 => ?_) (fun c1 => ?_)
  · exact absurd rfl c1
  · refine me_aload_n X (i := 0) 0 rfl dX11_needArgument_4 ?_
    refine me_dup X rfl dX11_needArgument_5 ?_
    refine me_geti X kF_X11_418 (Nat.le_of_ble_eq_true rfl) me_k0 me_f0_14 dX11_needArgument_6 ?_
    refine me_iconst X dX11_needArgument_9 ic_1 ?_
    refine me_iadd X dX11_needArgument_10 ?_
    refine me_puti X kG_X11_418 (Nat.le_of_ble_eq_true rfl) me_k0 me_f0_14 dX11_needArgument_11 ?_
    exact me_throw X hl hz htab hlk hRc hRs (Nat.le_refl _) (ik := 440) (is := 442) (ic := 444) hz.2.2.2.1 (by decide +kernel) tw_658 tw_18 (by decide +kernel) (by decide +kernel) (by decide +kernel) dX11_needArgument_14 dX11_needArgument_17 dX11_needArgument_18 dX11_needArgument_21 dX11_needArgument_24
set_option maxRecDepth 100000 in
set_option maxHeartbeats 4000000 in
theorem ctT_needState {l : Launch} (hl : l.stackTraces = false) {n nt : Nat} (hn : 63 ≤ n) (hnt : 1 ≤ nt) {M : me_M} {p0 : Int32} (hp : p0 = 0) : me_Cx l yX11_needState cX11_needState 2 none 6 n nt (fun ad => [.ref (ad 0), .int p0]) M xS (me_s M 0 15 (M.1 0 15 + 1)) := by
  subst hp
  refine me_enterX (N0 := 63) RX11 rfl pl_RX11 hn hnt (fun _ => Nat.le_of_ble_eq_true rfl) ?_
  intro p e R s m args below meth c D cA ad tys A X hr hlk hz htab hRc hRs
  refine me_sub (L' := [(0, .ref (ad 0)), (1, .int 0)]) [0, 1] rfl ?_
  refine me_iload_n X (i := 1) 1 rfl dX11_needState_0 ?_
  refine me_if_ne X 25 (by decide) dX11_needState_1 (fun c1 => ?_) (fun c1 => ?_)
  · exact absurd rfl c1
  · refine me_aload_n X (i := 0) 0 rfl dX11_needState_4 ?_
    refine me_dup X rfl dX11_needState_5 ?_
    refine me_geti X kF_X11_421 (Nat.le_of_ble_eq_true rfl) me_k0 me_f0_15 dX11_needState_6 ?_
    refine me_iconst X dX11_needState_9 ic_1 ?_
    refine me_iadd X dX11_needState_10 ?_
    refine me_puti X kG_X11_421 (Nat.le_of_ble_eq_true rfl) me_k0 me_f0_15 dX11_needState_11 ?_
    exact me_throw X hl hz htab hlk hRc hRs (Nat.le_refl _) (ik := 445) (is := 447) (ic := 449) hz.2.2.2.2.1 (by decide +kernel) tw_835 tw_19 (by decide +kernel) (by decide +kernel) (by decide +kernel) dX11_needState_14 dX11_needState_17 dX11_needState_18 dX11_needState_21 dX11_needState_24
