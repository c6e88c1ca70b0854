def mX12_status_63 (M : me_M) (p0 : Int32) : Option (Int32 × me_M) :=
  ((mX12_in p0 0 2).bind fun v1 => (if v1 = 0 then some ((-1), (me_s M 63 0 0)) else ((me_r (me_s M 63 0 0) 64 3 p0).bind fun v2 => some (v2, (me_s M 63 0 0)))))
set_option maxRecDepth 100000 in
set_option maxHeartbeats 4000000 in
theorem ctX12_status_63 {l : Launch} {n nt : Nat} (hn : 424 ≤ n) (hnt : 4 ≤ nt) {M : me_M} {p0 : Int32} {r : Int32} {M' : me_M} (h : mX12_status_63 M p0 = some (r, M')) : me_Ct l yX12_status cX12_status 2 (some .int) 1 n nt (fun ad => [.ref (ad 63), .int p0]) M (fun _ => some (.int r)) M' := by
  unfold mX12_status_63 at h
  refine me_enter (N0 := 424) RX12 rfl (plainFor_of_name pl_RX12) hn (Nat.le_trans (by decide) hnt) (fun _ => Nat.le_of_ble_eq_true rfl) ?_
  intro p e R s m args below meth c D cA ad tys A X hr hlk
  refine me_sub (L' := [(0, .ref (ad 63)), (1, .int p0)]) [0, 1] rfl ?_
  refine me_aload_n X (i := 0) 0 rfl dX12_status_0 ?_
  refine me_iconst X dX12_status_1 ic_0 ?_
  refine me_puti X kG_X12_105 (Nat.le_of_ble_eq_true rfl) me_k63 me_f63_0 dX12_status_2 ?_
  refine me_iload_n X (i := 1) 1 rfl dX12_status_5 ?_
  refine me_iconst X dX12_status_6 ic_0 ?_
  refine me_iconst X dX12_status_7 ic_2 ?_
  obtain ⟨v1, e1, h⟩ := me_bd h
  refine me_callSi X [.int p0, .int 0, .int 2] (ctX12_in hn (Nat.le_trans (by decide) hnt) e1) kS_X12_108 rfl rfl (Nat.le_of_ble_eq_true rfl) (Nat.le_refl _) (Nat.le_of_ble_eq_true rfl) dX12_status_8 ?_
  refine me_if_eq X 23 (by decide) dX12_status_11 (fun c1 => ?_) (fun c1 => ?_)
  · have h := me_ip c1 h
    refine me_iconst X dX12_status_23 ic_m1 ?_
    obtain ⟨rfl, rfl⟩ := me_sp h
    exact me_iret X hr hlk dX12_status_24
  · have h := me_in c1 h
    refine me_aload_n X (i := 0) 0 rfl dX12_status_14 ?_
    refine me_getr X 64 kF_X12_7 (Nat.le_of_ble_eq_true rfl) me_k63 me_f63_1 dX12_status_15 ?_
    refine me_iload_n X (i := 1) 1 rfl dX12_status_18 ?_
    obtain ⟨v2, e2, h⟩ := me_bd h
    refine me_iald X (Nat.le_of_ble_eq_true rfl) me_k64 e2 dX12_status_19 ?_
    refine me_goto X 24 (by decide) dX12_status_20 ?_
    obtain ⟨rfl, rfl⟩ := me_sp h
    exact me_iret X hr hlk dX12_status_24
