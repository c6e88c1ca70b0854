/-! ===== the inner constructors ===== -/
def wX9 (cI : ClassId) (h0 sz : Nat) : va_W := (h0, .inr (9, [.ref sz, .int 0])) :: ((sz, .inl (cI, 240, .inl (fun _ => 0))) :: [])
set_option maxRecDepth 100000 in
theorem gi_X9 (l : Launch) (D : va_G) (cI : ClassId) (h0 : Nat)  : g_Ct l yX9_init cX9_init 1 1 1 (240) D cI [.ref h0] [(h0, .inr (9, [.null, .int 0]))] (fun z => wX9 cI h0 z) := by
  intro tys sz ht
  refine g_enter (Qc := g_Q D (sz + 1) (wX9 cI h0 sz)) RX9 rfl (by decide +kernel) rfl (Nat.le_of_ble_eq_true rfl) ht (fun p e R s m args below meth c A X hnm hr hlk hsz => ?_)
  show g_W _ _ _ _ _ _ _ _ _ _ _ _ _ _ _ _ _ _ [(0, .ref h0)] _ _
  refine g_aload_n X (i := 0) 0 rfl dX9_init_0 ?_
  refine g_oinit X (Nat.le_of_ble_eq_true rfl) tw_35 tw_28 tw_29 (Nat.le_of_ble_eq_true rfl) dX9_init_1 ?_
  refine g_aload_n X (i := 0) 0 rfl dX9_init_4 ?_
  refine g_sipush X (v := 240) dX9_init_5 (by decide) ?_
  refine g_newa X (N := 240) [(h0, .inr (9, [.null, .int 0]))] (sz + 1) rfl tw_46 (by decide) (by decide) (Nat.le_of_ble_eq_true rfl) (Nat.le_of_ble_eq_true rfl) (Nat.le_of_ble_eq_true rfl) dX9_init_8 ?_
  refine g_as ((h0, .inr (9, [.null, .int 0])) :: ((sz, .inl (cI, 240, .inl (fun _ => 0))) :: [])) rfl ?_
  refine g_put X hnm [.ref sz, .int 0] kP_X9_9 rfl rfl (Nat.le_of_ble_eq_true rfl) rfl dX9_init_10 ?_
  exact g_vret X (Nat.le_of_ble_eq_true rfl) (Nat.le_of_ble_eq_true rfl) hr hlk dX9_init_13
def wX10 (cI : ClassId) (h0 sz : Nat) : va_W := (h0, .inr (10, [.ref sz, .ref (sz + 1), .ref (sz + 2), .ref (sz + 3), .ref (sz + 4), .int 1, .int 0, .int 0])) :: ((sz + 4, .inl (cI, 241, .inl (fun _ => 0))) :: ((sz + 3, .inl (cI, 241, .inl (fun _ => 0))) :: ((sz + 2, .inl (cI, 241, .inl (fun _ => 0))) :: ((sz + 1, .inl (cI, 241, .inl (fun _ => 0))) :: ((sz, .inl (cI, 241, .inl (upd (fun _ => 0) 0 2))) :: [])))))
set_option maxRecDepth 100000 in
theorem gi_X10 (l : Launch) (D : va_G) (cI : ClassId) (h0 : Nat)  : g_Ct l yX10_init cX10_init 1 1 5 (1205) D cI [.ref h0] [(h0, .inr (10, [.null, .null, .null, .null, .null, .int 0, .int 0, .int 0]))] (fun z => wX10 cI h0 z) := by
  intro tys sz ht
  refine g_enter (Qc := g_Q D (sz + 5) (wX10 cI h0 sz)) RX10 rfl (by decide +kernel) rfl (Nat.le_of_ble_eq_true rfl) ht (fun p e R s m args below meth c A X hnm hr hlk hsz => ?_)
  show g_W _ _ _ _ _ _ _ _ _ _ _ _ _ _ _ _ _ _ [(0, .ref h0)] _ _
  refine g_aload_n X (i := 0) 0 rfl dX10_init_0 ?_
  refine g_oinit X (Nat.le_of_ble_eq_true rfl) tw_52 tw_28 tw_29 (Nat.le_of_ble_eq_true rfl) dX10_init_1 ?_
  refine g_aload_n X (i := 0) 0 rfl dX10_init_4 ?_
  refine g_sipush X (v := 241) dX10_init_5 (by decide) ?_
  refine g_newa X (N := 241) [(h0, .inr (10, [.null, .null, .null, .null, .null, .int 0, .int 0, .int 0]))] (sz + 1) rfl tw_46 (by decide) (by decide) (Nat.le_of_ble_eq_true rfl) (Nat.le_of_ble_eq_true rfl) (Nat.le_of_ble_eq_true rfl) dX10_init_8 ?_
  refine g_as ((h0, .inr (10, [.null, .null, .null, .null, .null, .int 0, .int 0, .int 0])) :: ((sz, .inl (cI, 241, .inl (fun _ => 0))) :: [])) rfl ?_
  refine g_put X hnm [.ref sz, .null, .null, .null, .null, .int 0, .int 0, .int 0] kP_X10_9 rfl rfl (Nat.le_of_ble_eq_true rfl) rfl dX10_init_10 ?_
  refine g_aload_n X (i := 0) 0 rfl dX10_init_13 ?_
  refine g_sipush X (v := 241) dX10_init_14 (by decide) ?_
  refine g_newa X (N := 241) [(h0, .inr (10, [.ref sz, .null, .null, .null, .null, .int 0, .int 0, .int 0]))] (sz + 2) rfl tw_46 (by decide) (by decide) (Nat.le_of_ble_eq_true rfl) (Nat.le_of_ble_eq_true rfl) (Nat.le_of_ble_eq_true rfl) dX10_init_17 ?_
  refine g_as ((h0, .inr (10, [.ref sz, .null, .null, .null, .null, .int 0, .int 0, .int 0])) :: ((sz + 1, .inl (cI, 241, .inl (fun _ => 0))) :: ((sz, .inl (cI, 241, .inl (fun _ => 0))) :: []))) rfl ?_
  refine g_put X hnm [.ref sz, .ref (sz + 1), .null, .null, .null, .int 0, .int 0, .int 0] kP_X10_15 rfl rfl (Nat.le_of_ble_eq_true rfl) rfl dX10_init_19 ?_
  refine g_aload_n X (i := 0) 0 rfl dX10_init_22 ?_
  refine g_sipush X (v := 241) dX10_init_23 (by decide) ?_
  refine g_newa X (N := 241) [(h0, .inr (10, [.ref sz, .ref (sz + 1), .null, .null, .null, .int 0, .int 0, .int 0]))] (sz + 3) rfl tw_46 (by decide) (by decide) (Nat.le_of_ble_eq_true rfl) (Nat.le_of_ble_eq_true rfl) (Nat.le_of_ble_eq_true rfl) dX10_init_26 ?_
  refine g_as ((h0, .inr (10, [.ref sz, .ref (sz + 1), .null, .null, .null, .int 0, .int 0, .int 0])) :: ((sz + 2, .inl (cI, 241, .inl (fun _ => 0))) :: ((sz + 1, .inl (cI, 241, .inl (fun _ => 0))) :: ((sz, .inl (cI, 241, .inl (fun _ => 0))) :: [])))) rfl ?_
  refine g_put X hnm [.ref sz, .ref (sz + 1), .ref (sz + 2), .null, .null, .int 0, .int 0, .int 0] kP_X10_18 rfl rfl (Nat.le_of_ble_eq_true rfl) rfl dX10_init_28 ?_
  refine g_aload_n X (i := 0) 0 rfl dX10_init_31 ?_
  refine g_sipush X (v := 241) dX10_init_32 (by decide) ?_
  refine g_newa X (N := 241) [(h0, .inr (10, [.ref sz, .ref (sz + 1), .ref (sz + 2), .null, .null, .int 0, .int 0, .int 0]))] (sz + 4) rfl tw_46 (by decide) (by decide) (Nat.le_of_ble_eq_true rfl) (Nat.le_of_ble_eq_true rfl) (Nat.le_of_ble_eq_true rfl) dX10_init_35 ?_
  refine g_as ((h0, .inr (10, [.ref sz, .ref (sz + 1), .ref (sz + 2), .null, .null, .int 0, .int 0, .int 0])) :: ((sz + 3, .inl (cI, 241, .inl (fun _ => 0))) :: ((sz + 2, .inl (cI, 241, .inl (fun _ => 0))) :: ((sz + 1, .inl (cI, 241, .inl (fun _ => 0))) :: ((sz, .inl (cI, 241, .inl (fun _ => 0))) :: []))))) rfl ?_
  refine g_put X hnm [.ref sz, .ref (sz + 1), .ref (sz + 2), .ref (sz + 3), .null, .int 0, .int 0, .int 0] kP_X10_21 rfl rfl (Nat.le_of_ble_eq_true rfl) rfl dX10_init_37 ?_
  refine g_aload_n X (i := 0) 0 rfl dX10_init_40 ?_
  refine g_sipush X (v := 241) dX10_init_41 (by decide) ?_
  refine g_newa X (N := 241) [(h0, .inr (10, [.ref sz, .ref (sz + 1), .ref (sz + 2), .ref (sz + 3), .null, .int 0, .int 0, .int 0]))] (sz + 5) rfl tw_46 (by decide) (by decide) (Nat.le_of_ble_eq_true rfl) (Nat.le_of_ble_eq_true rfl) (Nat.le_of_ble_eq_true rfl) dX10_init_44 ?_
  refine g_as ((h0, .inr (10, [.ref sz, .ref (sz + 1), .ref (sz + 2), .ref (sz + 3), .null, .int 0, .int 0, .int 0])) :: ((sz + 4, .inl (cI, 241, .inl (fun _ => 0))) :: ((sz + 3, .inl (cI, 241, .inl (fun _ => 0))) :: ((sz + 2, .inl (cI, 241, .inl (fun _ => 0))) :: ((sz + 1, .inl (cI, 241, .inl (fun _ => 0))) :: ((sz, .inl (cI, 241, .inl (fun _ => 0))) :: [])))))) rfl ?_
  refine g_put X hnm [.ref sz, .ref (sz + 1), .ref (sz + 2), .ref (sz + 3), .ref (sz + 4), .int 0, .int 0, .int 0] kP_X10_24 rfl rfl (Nat.le_of_ble_eq_true rfl) rfl dX10_init_46 ?_
  refine g_aload_n X (i := 0) 0 rfl dX10_init_49 ?_
  refine g_get X (fs := _) (v := .ref sz) 0 kF_X10_9 rfl rfl dX10_init_50 ?_
  refine g_iconst X (v := 0) dX10_init_53 (by decide) ?_
  refine g_iconst X (v := 2) dX10_init_54 (by decide) ?_
  refine g_iast X 5 ((h0, .inr (10, [.ref sz, .ref (sz + 1), .ref (sz + 2), .ref (sz + 3), .ref (sz + 4), .int 0, .int 0, .int 0])) :: ((sz + 4, .inl (cI, 241, .inl (fun _ => 0))) :: ((sz + 3, .inl (cI, 241, .inl (fun _ => 0))) :: ((sz + 2, .inl (cI, 241, .inl (fun _ => 0))) :: ((sz + 1, .inl (cI, 241, .inl (fun _ => 0))) :: ((sz, .inl (cI, 241, .inl (upd (fun _ => 0) 0 2))) :: [])))))) rfl (by unfold vp_in; decide) rfl dX10_init_55 ?_
  refine g_aload_n X (i := 0) 0 rfl dX10_init_56 ?_
  refine g_iconst X (v := 1) dX10_init_57 (by decide) ?_
  refine g_put X hnm [.ref sz, .ref (sz + 1), .ref (sz + 2), .ref (sz + 3), .ref (sz + 4), .int 1, .int 0, .int 0] kP_X10_27 rfl rfl (Nat.le_of_ble_eq_true rfl) rfl dX10_init_58 ?_
  exact g_vret X (Nat.le_of_ble_eq_true rfl) (Nat.le_of_ble_eq_true rfl) hr hlk dX10_init_61
def wX4 (cI : ClassId) (h0 sz : Nat) (r1 : Nat) : va_W := (h0, .inr (4, [.ref r1, .ref sz, .ref (sz + 1), .ref (sz + 2), .ref (sz + 3), .int 0])) :: ((sz + 3, .inl (cI, 1936, .inl (fun _ => 0))) :: ((sz + 2, .inl (cI, 241, .inl (fun _ => 0))) :: ((sz + 1, .inl (cI, 241, .inl (fun _ => 0))) :: ((sz, .inl (cI, 241, .inl (fun _ => 0))) :: []))))
set_option maxRecDepth 100000 in
theorem gi_X4 (l : Launch) (D : va_G) (cI : ClassId) (h0 : Nat) (r1 : Nat) : g_Ct l yX4_init cX4_init 2 1 4 (2659) D cI [.ref h0, .ref r1] [(h0, .inr (4, [.null, .null, .null, .null, .null, .int 0]))] (fun z => wX4 cI h0 z r1) := by
  intro tys sz ht
  refine g_enter (Qc := g_Q D (sz + 4) (wX4 cI h0 sz r1)) RX4 rfl (by decide +kernel) rfl (Nat.le_of_ble_eq_true rfl) ht (fun p e R s m args below meth c A X hnm hr hlk hsz => ?_)
  show g_W _ _ _ _ _ _ _ _ _ _ _ _ _ _ _ _ _ _ [(0, .ref h0), (1, .ref r1)] _ _
  refine g_aload_n X (i := 0) 0 rfl dX4_init_0 ?_
  refine g_oinit X (Nat.le_of_ble_eq_true rfl) tw_100 tw_28 tw_29 (Nat.le_of_ble_eq_true rfl) dX4_init_1 ?_
  refine g_aload_n X (i := 0) 0 rfl dX4_init_4 ?_
  refine g_sipush X (v := 241) dX4_init_5 (by decide) ?_
  refine g_newa X (N := 241) [(h0, .inr (4, [.null, .null, .null, .null, .null, .int 0]))] (sz + 1) rfl tw_46 (by decide) (by decide) (Nat.le_of_ble_eq_true rfl) (Nat.le_of_ble_eq_true rfl) (Nat.le_of_ble_eq_true rfl) dX4_init_8 ?_
  refine g_as ((h0, .inr (4, [.null, .null, .null, .null, .null, .int 0])) :: ((sz, .inl (cI, 241, .inl (fun _ => 0))) :: [])) rfl ?_
  refine g_put X hnm [.null, .ref sz, .null, .null, .null, .int 0] kP_X4_9 rfl rfl (Nat.le_of_ble_eq_true rfl) rfl dX4_init_10 ?_
  refine g_aload_n X (i := 0) 0 rfl dX4_init_13 ?_
  refine g_sipush X (v := 241) dX4_init_14 (by decide) ?_
  refine g_newa X (N := 241) [(h0, .inr (4, [.null, .ref sz, .null, .null, .null, .int 0]))] (sz + 2) rfl tw_46 (by decide) (by decide) (Nat.le_of_ble_eq_true rfl) (Nat.le_of_ble_eq_true rfl) (Nat.le_of_ble_eq_true rfl) dX4_init_17 ?_
  refine g_as ((h0, .inr (4, [.null, .ref sz, .null, .null, .null, .int 0])) :: ((sz + 1, .inl (cI, 241, .inl (fun _ => 0))) :: ((sz, .inl (cI, 241, .inl (fun _ => 0))) :: []))) rfl ?_
  refine g_put X hnm [.null, .ref sz, .ref (sz + 1), .null, .null, .int 0] kP_X4_15 rfl rfl (Nat.le_of_ble_eq_true rfl) rfl dX4_init_19 ?_
  refine g_aload_n X (i := 0) 0 rfl dX4_init_22 ?_
  refine g_sipush X (v := 241) dX4_init_23 (by decide) ?_
  refine g_newa X (N := 241) [(h0, .inr (4, [.null, .ref sz, .ref (sz + 1), .null, .null, .int 0]))] (sz + 3) rfl tw_46 (by decide) (by decide) (Nat.le_of_ble_eq_true rfl) (Nat.le_of_ble_eq_true rfl) (Nat.le_of_ble_eq_true rfl) dX4_init_26 ?_
  refine g_as ((h0, .inr (4, [.null, .ref sz, .ref (sz + 1), .null, .null, .int 0])) :: ((sz + 2, .inl (cI, 241, .inl (fun _ => 0))) :: ((sz + 1, .inl (cI, 241, .inl (fun _ => 0))) :: ((sz, .inl (cI, 241, .inl (fun _ => 0))) :: [])))) rfl ?_
  refine g_put X hnm [.null, .ref sz, .ref (sz + 1), .ref (sz + 2), .null, .int 0] kP_X4_18 rfl rfl (Nat.le_of_ble_eq_true rfl) rfl dX4_init_28 ?_
  refine g_aload_n X (i := 0) 0 rfl dX4_init_31 ?_
  refine g_sipush X (v := 1936) dX4_init_32 (by decide) ?_
  refine g_newa X (N := 1936) [(h0, .inr (4, [.null, .ref sz, .ref (sz + 1), .ref (sz + 2), .null, .int 0]))] (sz + 4) rfl tw_46 (by decide) (by decide) (Nat.le_of_ble_eq_true rfl) (Nat.le_of_ble_eq_true rfl) (Nat.le_of_ble_eq_true rfl) dX4_init_35 ?_
  refine g_as ((h0, .inr (4, [.null, .ref sz, .ref (sz + 1), .ref (sz + 2), .null, .int 0])) :: ((sz + 3, .inl (cI, 1936, .inl (fun _ => 0))) :: ((sz + 2, .inl (cI, 241, .inl (fun _ => 0))) :: ((sz + 1, .inl (cI, 241, .inl (fun _ => 0))) :: ((sz, .inl (cI, 241, .inl (fun _ => 0))) :: []))))) rfl ?_
  refine g_put X hnm [.null, .ref sz, .ref (sz + 1), .ref (sz + 2), .ref (sz + 3), .int 0] kP_X4_21 rfl rfl (Nat.le_of_ble_eq_true rfl) rfl dX4_init_37 ?_
  refine g_aload_n X (i := 0) 0 rfl dX4_init_40 ?_
  refine g_aload_n X (i := 1) 1 rfl dX4_init_41 ?_
  refine g_put X hnm [.ref r1, .ref sz, .ref (sz + 1), .ref (sz + 2), .ref (sz + 3), .int 0] kP_X4_24 rfl rfl (Nat.le_of_ble_eq_true rfl) rfl dX4_init_42 ?_
  exact g_vret X (Nat.le_of_ble_eq_true rfl) (Nat.le_of_ble_eq_true rfl) hr hlk dX4_init_45
def wX7 (cI : ClassId) (h0 sz : Nat) (r1 r2 : Nat) : va_W := (h0, .inr (7, [.ref r1, .ref r2, .ref sz, .ref (sz + 1), .ref (sz + 2)])) :: ((sz + 2, .inl (cI, 41, .inl (fun _ => 0))) :: ((sz + 1, .inl (cI, 41, .inl (fun _ => 0))) :: ((sz, .inl (cI, 41, .inl (fun _ => 0))) :: [])))
set_option maxRecDepth 100000 in
theorem gi_X7 (l : Launch) (D : va_G) (cI : ClassId) (h0 : Nat) (r1 : Nat) (r2 : Nat) : g_Ct l yX7_init cX7_init 3 1 3 (123) D cI [.ref h0, .ref r1, .ref r2] [(h0, .inr (7, [.null, .null, .null, .null, .null]))] (fun z => wX7 cI h0 z r1 r2) := by
  intro tys sz ht
  refine g_enter (Qc := g_Q D (sz + 3) (wX7 cI h0 sz r1 r2)) RX7 rfl (by decide +kernel) rfl (Nat.le_of_ble_eq_true rfl) ht (fun p e R s m args below meth c A X hnm hr hlk hsz => ?_)
  show g_W _ _ _ _ _ _ _ _ _ _ _ _ _ _ _ _ _ _ [(0, .ref h0), (1, .ref r1), (2, .ref r2)] _ _
  refine g_aload_n X (i := 0) 0 rfl dX7_init_0 ?_
  refine g_oinit X (Nat.le_of_ble_eq_true rfl) tw_140 tw_28 tw_29 (Nat.le_of_ble_eq_true rfl) dX7_init_1 ?_
  refine g_aload_n X (i := 0) 0 rfl dX7_init_4 ?_
  refine g_bipush X (v := 41) dX7_init_5 (by decide) ?_
  refine g_newa X (N := 41) [(h0, .inr (7, [.null, .null, .null, .null, .null]))] (sz + 1) rfl tw_46 (by decide) (by decide) (Nat.le_of_ble_eq_true rfl) (Nat.le_of_ble_eq_true rfl) (Nat.le_of_ble_eq_true rfl) dX7_init_7 ?_
  refine g_as ((h0, .inr (7, [.null, .null, .null, .null, .null])) :: ((sz, .inl (cI, 41, .inl (fun _ => 0))) :: [])) rfl ?_
  refine g_put X hnm [.null, .null, .ref sz, .null, .null] kP_X7_9 rfl rfl (Nat.le_of_ble_eq_true rfl) rfl dX7_init_9 ?_
  refine g_aload_n X (i := 0) 0 rfl dX7_init_12 ?_
  refine g_bipush X (v := 41) dX7_init_13 (by decide) ?_
  refine g_newa X (N := 41) [(h0, .inr (7, [.null, .null, .ref sz, .null, .null]))] (sz + 2) rfl tw_46 (by decide) (by decide) (Nat.le_of_ble_eq_true rfl) (Nat.le_of_ble_eq_true rfl) (Nat.le_of_ble_eq_true rfl) dX7_init_15 ?_
  refine g_as ((h0, .inr (7, [.null, .null, .ref sz, .null, .null])) :: ((sz + 1, .inl (cI, 41, .inl (fun _ => 0))) :: ((sz, .inl (cI, 41, .inl (fun _ => 0))) :: []))) rfl ?_
  refine g_put X hnm [.null, .null, .ref sz, .ref (sz + 1), .null] kP_X7_15 rfl rfl (Nat.le_of_ble_eq_true rfl) rfl dX7_init_17 ?_
  refine g_aload_n X (i := 0) 0 rfl dX7_init_20 ?_
  refine g_bipush X (v := 41) dX7_init_21 (by decide) ?_
  refine g_newa X (N := 41) [(h0, .inr (7, [.null, .null, .ref sz, .ref (sz + 1), .null]))] (sz + 3) rfl tw_46 (by decide) (by decide) (Nat.le_of_ble_eq_true rfl) (Nat.le_of_ble_eq_true rfl) (Nat.le_of_ble_eq_true rfl) dX7_init_23 ?_
  refine g_as ((h0, .inr (7, [.null, .null, .ref sz, .ref (sz + 1), .null])) :: ((sz + 2, .inl (cI, 41, .inl (fun _ => 0))) :: ((sz + 1, .inl (cI, 41, .inl (fun _ => 0))) :: ((sz, .inl (cI, 41, .inl (fun _ => 0))) :: [])))) rfl ?_
  refine g_put X hnm [.null, .null, .ref sz, .ref (sz + 1), .ref (sz + 2)] kP_X7_18 rfl rfl (Nat.le_of_ble_eq_true rfl) rfl dX7_init_25 ?_
  refine g_aload_n X (i := 0) 0 rfl dX7_init_28 ?_
  refine g_aload_n X (i := 1) 1 rfl dX7_init_29 ?_
  refine g_put X hnm [.ref r1, .null, .ref sz, .ref (sz + 1), .ref (sz + 2)] kP_X7_21 rfl rfl (Nat.le_of_ble_eq_true rfl) rfl dX7_init_30 ?_
  refine g_aload_n X (i := 0) 0 rfl dX7_init_33 ?_
  refine g_aload_n X (i := 2) 2 rfl dX7_init_34 ?_
  refine g_put X hnm [.ref r1, .ref r2, .ref sz, .ref (sz + 1), .ref (sz + 2)] kP_X7_25 rfl rfl (Nat.le_of_ble_eq_true rfl) rfl dX7_init_35 ?_
  exact g_vret X (Nat.le_of_ble_eq_true rfl) (Nat.le_of_ble_eq_true rfl) hr hlk dX7_init_38
def wX0 (cI : ClassId) (h0 sz : Nat) (r1 r2 : Nat) : va_W := (h0, .inr (0, [.ref (sz + 2), .ref sz, .ref (sz + 1), .int 0, .int 0])) :: (wX7 cI (sz + 2) (sz + 3) r1 r2 ++ ((sz + 1, .inl (cI, 80, .inl (fun _ => 0))) :: ((sz, .inl (cI, 40, .inl (fun _ => 0))) :: [])))
set_option maxRecDepth 100000 in
theorem gi_X0 (l : Launch) (D : va_G) (cI : ClassId) (h0 : Nat) (r1 : Nat) (r2 : Nat) : g_Ct l yX0_init cX0_init 3 2 6 (248) D cI [.ref h0, .ref r1, .ref r2] [(h0, .inr (0, [.null, .null, .null, .int 0, .int 0]))] (fun z => wX0 cI h0 z r1 r2) := by
  intro tys sz ht
  refine g_enter (Qc := g_Q D (sz + 6) (wX0 cI h0 sz r1 r2)) RX0 rfl (by decide +kernel) rfl (Nat.le_of_ble_eq_true rfl) ht (fun p e R s m args below meth c A X hnm hr hlk hsz => ?_)
  show g_W _ _ _ _ _ _ _ _ _ _ _ _ _ _ _ _ _ _ [(0, .ref h0), (1, .ref r1), (2, .ref r2)] _ _
  refine g_aload_n X (i := 0) 0 rfl dX0_init_0 ?_
  refine g_oinit X (Nat.le_of_ble_eq_true rfl) tw_134 tw_28 tw_29 (Nat.le_of_ble_eq_true rfl) dX0_init_1 ?_
  refine g_aload_n X (i := 0) 0 rfl dX0_init_4 ?_
  refine g_bipush X (v := 40) dX0_init_5 (by decide) ?_
  refine g_newa X (N := 40) [(h0, .inr (0, [.null, .null, .null, .int 0, .int 0]))] (sz + 1) rfl tw_46 (by decide) (by decide) (Nat.le_of_ble_eq_true rfl) (Nat.le_of_ble_eq_true rfl) (Nat.le_of_ble_eq_true rfl) dX0_init_7 ?_
  refine g_as ((h0, .inr (0, [.null, .null, .null, .int 0, .int 0])) :: ((sz, .inl (cI, 40, .inl (fun _ => 0))) :: [])) rfl ?_
  refine g_put X hnm [.null, .ref sz, .null, .int 0, .int 0] kP_X0_9 rfl rfl (Nat.le_of_ble_eq_true rfl) rfl dX0_init_9 ?_
  refine g_aload_n X (i := 0) 0 rfl dX0_init_12 ?_
  refine g_bipush X (v := 80) dX0_init_13 (by decide) ?_
  refine g_newa X (N := 80) [(h0, .inr (0, [.null, .ref sz, .null, .int 0, .int 0]))] (sz + 2) rfl tw_46 (by decide) (by decide) (Nat.le_of_ble_eq_true rfl) (Nat.le_of_ble_eq_true rfl) (Nat.le_of_ble_eq_true rfl) dX0_init_15 ?_
  refine g_as ((h0, .inr (0, [.null, .ref sz, .null, .int 0, .int 0])) :: ((sz + 1, .inl (cI, 80, .inl (fun _ => 0))) :: ((sz, .inl (cI, 40, .inl (fun _ => 0))) :: []))) rfl ?_
  refine g_put X hnm [.null, .ref sz, .ref (sz + 1), .int 0, .int 0] kP_X0_15 rfl rfl (Nat.le_of_ble_eq_true rfl) rfl dX0_init_17 ?_
  refine g_aload_n X (i := 0) 0 rfl dX0_init_20 ?_
  refine g_new X [(h0, .inr (0, [.null, .ref sz, .ref (sz + 1), .int 0, .int 0]))] (sz + 3) rfl kN_X0_18 (Nat.le_of_ble_eq_true rfl) (Nat.le_of_ble_eq_true rfl) dX0_init_21 ?_
  refine g_as ((h0, .inr (0, [.null, .ref sz, .ref (sz + 1), .int 0, .int 0])) :: ((sz + 2, .inr (7, [.null, .null, .null, .null, .null])) :: ((sz + 1, .inl (cI, 80, .inl (fun _ => 0))) :: ((sz, .inl (cI, 40, .inl (fun _ => 0))) :: [])))) rfl ?_
  refine g_dup X rfl dX0_init_24 ?_
  refine g_aload_n X (i := 1) 1 rfl dX0_init_25 ?_
  refine g_aload_n X (i := 2) 2 rfl dX0_init_26 ?_
  refine g_call X [(h0, .inr (0, [.null, .ref sz, .ref (sz + 1), .int 0, .int 0]))] (sz + 6) [.ref r1, .ref r2] (gi_X7 l D cI (sz + 2) r1 r2) rfl kC_X0_20 rfl (Nat.le_of_ble_eq_true rfl) (Nat.le_of_ble_eq_true rfl) (Nat.le_of_ble_eq_true rfl) (Nat.le_of_ble_eq_true rfl) dX0_init_27 ?_
  refine g_as ((h0, .inr (0, [.null, .ref sz, .ref (sz + 1), .int 0, .int 0])) :: (wX7 cI (sz + 2) (sz + 3) r1 r2 ++ ((sz + 1, .inl (cI, 80, .inl (fun _ => 0))) :: ((sz, .inl (cI, 40, .inl (fun _ => 0))) :: [])))) rfl ?_
  refine g_put X hnm [.ref (sz + 2), .ref sz, .ref (sz + 1), .int 0, .int 0] kP_X0_23 rfl rfl (Nat.le_of_ble_eq_true rfl) rfl dX0_init_30 ?_
  exact g_vret X (Nat.le_of_ble_eq_true rfl) (Nat.le_of_ble_eq_true rfl) hr hlk dX0_init_33
def wX2 (cI : ClassId) (h0 sz : Nat) (r1 r2 : Nat) : va_W := (h0, .inr (2, [.ref r1, .ref r2, .ref sz, .ref (sz + 1), .ref (sz + 2), .int 0])) :: ((sz + 2, .inl (cI, 240, .inl (fun _ => 0))) :: ((sz + 1, .inl (cI, 240, .inl (fun _ => 0))) :: ((sz, .inl (cI, 240, .inl (fun _ => 0))) :: [])))
set_option maxRecDepth 100000 in
theorem gi_X2 (l : Launch) (D : va_G) (cI : ClassId) (h0 : Nat) (r1 : Nat) (r2 : Nat) : g_Ct l yX2_init cX2_init 3 1 3 (720) D cI [.ref h0, .ref r1, .ref r2] [(h0, .inr (2, [.null, .null, .null, .null, .null, .int 0]))] (fun z => wX2 cI h0 z r1 r2) := by
  intro tys sz ht
  refine g_enter (Qc := g_Q D (sz + 3) (wX2 cI h0 sz r1 r2)) RX2 rfl (by decide +kernel) rfl (Nat.le_of_ble_eq_true rfl) ht (fun p e R s m args below meth c A X hnm hr hlk hsz => ?_)
  show g_W _ _ _ _ _ _ _ _ _ _ _ _ _ _ _ _ _ _ [(0, .ref h0), (1, .ref r1), (2, .ref r2)] _ _
  refine g_aload_n X (i := 0) 0 rfl dX2_init_0 ?_
  refine g_oinit X (Nat.le_of_ble_eq_true rfl) tw_184 tw_28 tw_29 (Nat.le_of_ble_eq_true rfl) dX2_init_1 ?_
  refine g_aload_n X (i := 0) 0 rfl dX2_init_4 ?_
  refine g_sipush X (v := 240) dX2_init_5 (by decide) ?_
  refine g_newa X (N := 240) [(h0, .inr (2, [.null, .null, .null, .null, .null, .int 0]))] (sz + 1) rfl tw_46 (by decide) (by decide) (Nat.le_of_ble_eq_true rfl) (Nat.le_of_ble_eq_true rfl) (Nat.le_of_ble_eq_true rfl) dX2_init_8 ?_
  refine g_as ((h0, .inr (2, [.null, .null, .null, .null, .null, .int 0])) :: ((sz, .inl (cI, 240, .inl (fun _ => 0))) :: [])) rfl ?_
  refine g_put X hnm [.null, .null, .ref sz, .null, .null, .int 0] kP_X2_9 rfl rfl (Nat.le_of_ble_eq_true rfl) rfl dX2_init_10 ?_
  refine g_aload_n X (i := 0) 0 rfl dX2_init_13 ?_
  refine g_sipush X (v := 240) dX2_init_14 (by decide) ?_
  refine g_newa X (N := 240) [(h0, .inr (2, [.null, .null, .ref sz, .null, .null, .int 0]))] (sz + 2) rfl tw_46 (by decide) (by decide) (Nat.le_of_ble_eq_true rfl) (Nat.le_of_ble_eq_true rfl) (Nat.le_of_ble_eq_true rfl) dX2_init_17 ?_
  refine g_as ((h0, .inr (2, [.null, .null, .ref sz, .null, .null, .int 0])) :: ((sz + 1, .inl (cI, 240, .inl (fun _ => 0))) :: ((sz, .inl (cI, 240, .inl (fun _ => 0))) :: []))) rfl ?_
  refine g_put X hnm [.null, .null, .ref sz, .ref (sz + 1), .null, .int 0] kP_X2_15 rfl rfl (Nat.le_of_ble_eq_true rfl) rfl dX2_init_19 ?_
  refine g_aload_n X (i := 0) 0 rfl dX2_init_22 ?_
  refine g_sipush X (v := 240) dX2_init_23 (by decide) ?_
  refine g_newa X (N := 240) [(h0, .inr (2, [.null, .null, .ref sz, .ref (sz + 1), .null, .int 0]))] (sz + 3) rfl tw_46 (by decide) (by decide) (Nat.le_of_ble_eq_true rfl) (Nat.le_of_ble_eq_true rfl) (Nat.le_of_ble_eq_true rfl) dX2_init_26 ?_
  refine g_as ((h0, .inr (2, [.null, .null, .ref sz, .ref (sz + 1), .null, .int 0])) :: ((sz + 2, .inl (cI, 240, .inl (fun _ => 0))) :: ((sz + 1, .inl (cI, 240, .inl (fun _ => 0))) :: ((sz, .inl (cI, 240, .inl (fun _ => 0))) :: [])))) rfl ?_
  refine g_put X hnm [.null, .null, .ref sz, .ref (sz + 1), .ref (sz + 2), .int 0] kP_X2_18 rfl rfl (Nat.le_of_ble_eq_true rfl) rfl dX2_init_28 ?_
  refine g_aload_n X (i := 0) 0 rfl dX2_init_31 ?_
  refine g_aload_n X (i := 1) 1 rfl dX2_init_32 ?_
  refine g_put X hnm [.ref r1, .null, .ref sz, .ref (sz + 1), .ref (sz + 2), .int 0] kP_X2_21 rfl rfl (Nat.le_of_ble_eq_true rfl) rfl dX2_init_33 ?_
  refine g_aload_n X (i := 0) 0 rfl dX2_init_36 ?_
  refine g_aload_n X (i := 2) 2 rfl dX2_init_37 ?_
  refine g_put X hnm [.ref r1, .ref r2, .ref sz, .ref (sz + 1), .ref (sz + 2), .int 0] kP_X2_25 rfl rfl (Nat.le_of_ble_eq_true rfl) rfl dX2_init_38 ?_
  exact g_vret X (Nat.le_of_ble_eq_true rfl) (Nat.le_of_ble_eq_true rfl) hr hlk dX2_init_41
def wX8 (cI : ClassId) (h0 sz : Nat) (r1 : Nat) : va_W := (h0, .inr (8, [.ref r1, .ref sz, .ref (sz + 1), .ref (sz + 2), .ref (sz + 3), .ref (sz + 4), .int 0, .int 0, .int 0])) :: ((sz + 4, .inl (cI, 240, .inl (fun _ => 0))) :: ((sz + 3, .inl (cI, 240, .inl (fun _ => 0))) :: ((sz + 2, .inl (cI, 240, .inl (fun _ => 0))) :: ((sz + 1, .inl (cI, 240, .inl (fun _ => 0))) :: ((sz, .inl (cI, 241, .inl (fun _ => 0))) :: [])))))
set_option maxRecDepth 100000 in
theorem gi_X8 (l : Launch) (D : va_G) (cI : ClassId) (h0 : Nat) (r1 : Nat) : g_Ct l yX8_init cX8_init 2 1 5 (1201) D cI [.ref h0, .ref r1] [(h0, .inr (8, [.null, .null, .null, .null, .null, .null, .int 0, .int 0, .int 0]))] (fun z => wX8 cI h0 z r1) := by
  intro tys sz ht
  refine g_enter (Qc := g_Q D (sz + 5) (wX8 cI h0 sz r1)) RX8 rfl (by decide +kernel) rfl (Nat.le_of_ble_eq_true rfl) ht (fun p e R s m args below meth c A X hnm hr hlk hsz => ?_)
  show g_W _ _ _ _ _ _ _ _ _ _ _ _ _ _ _ _ _ _ [(0, .ref h0), (1, .ref r1)] _ _
  refine g_aload_n X (i := 0) 0 rfl dX8_init_0 ?_
  refine g_oinit X (Nat.le_of_ble_eq_true rfl) tw_212 tw_28 tw_29 (Nat.le_of_ble_eq_true rfl) dX8_init_1 ?_
  refine g_aload_n X (i := 0) 0 rfl dX8_init_4 ?_
  refine g_sipush X (v := 241) dX8_init_5 (by decide) ?_
  refine g_newa X (N := 241) [(h0, .inr (8, [.null, .null, .null, .null, .null, .null, .int 0, .int 0, .int 0]))] (sz + 1) rfl tw_46 (by decide) (by decide) (Nat.le_of_ble_eq_true rfl) (Nat.le_of_ble_eq_true rfl) (Nat.le_of_ble_eq_true rfl) dX8_init_8 ?_
  refine g_as ((h0, .inr (8, [.null, .null, .null, .null, .null, .null, .int 0, .int 0, .int 0])) :: ((sz, .inl (cI, 241, .inl (fun _ => 0))) :: [])) rfl ?_
  refine g_put X hnm [.null, .ref sz, .null, .null, .null, .null, .int 0, .int 0, .int 0] kP_X8_9 rfl rfl (Nat.le_of_ble_eq_true rfl) rfl dX8_init_10 ?_
  refine g_aload_n X (i := 0) 0 rfl dX8_init_13 ?_
  refine g_sipush X (v := 240) dX8_init_14 (by decide) ?_
  refine g_newa X (N := 240) [(h0, .inr (8, [.null, .ref sz, .null, .null, .null, .null, .int 0, .int 0, .int 0]))] (sz + 2) rfl tw_46 (by decide) (by decide) (Nat.le_of_ble_eq_true rfl) (Nat.le_of_ble_eq_true rfl) (Nat.le_of_ble_eq_true rfl) dX8_init_17 ?_
  refine g_as ((h0, .inr (8, [.null, .ref sz, .null, .null, .null, .null, .int 0, .int 0, .int 0])) :: ((sz + 1, .inl (cI, 240, .inl (fun _ => 0))) :: ((sz, .inl (cI, 241, .inl (fun _ => 0))) :: []))) rfl ?_
  refine g_put X hnm [.null, .ref sz, .ref (sz + 1), .null, .null, .null, .int 0, .int 0, .int 0] kP_X8_15 rfl rfl (Nat.le_of_ble_eq_true rfl) rfl dX8_init_19 ?_
  refine g_aload_n X (i := 0) 0 rfl dX8_init_22 ?_
  refine g_sipush X (v := 240) dX8_init_23 (by decide) ?_
  refine g_newa X (N := 240) [(h0, .inr (8, [.null, .ref sz, .ref (sz + 1), .null, .null, .null, .int 0, .int 0, .int 0]))] (sz + 3) rfl tw_46 (by decide) (by decide) (Nat.le_of_ble_eq_true rfl) (Nat.le_of_ble_eq_true rfl) (Nat.le_of_ble_eq_true rfl) dX8_init_26 ?_
  refine g_as ((h0, .inr (8, [.null, .ref sz, .ref (sz + 1), .null, .null, .null, .int 0, .int 0, .int 0])) :: ((sz + 2, .inl (cI, 240, .inl (fun _ => 0))) :: ((sz + 1, .inl (cI, 240, .inl (fun _ => 0))) :: ((sz, .inl (cI, 241, .inl (fun _ => 0))) :: [])))) rfl ?_
  refine g_put X hnm [.null, .ref sz, .ref (sz + 1), .ref (sz + 2), .null, .null, .int 0, .int 0, .int 0] kP_X8_18 rfl rfl (Nat.le_of_ble_eq_true rfl) rfl dX8_init_28 ?_
  refine g_aload_n X (i := 0) 0 rfl dX8_init_31 ?_
  refine g_sipush X (v := 240) dX8_init_32 (by decide) ?_
  refine g_newa X (N := 240) [(h0, .inr (8, [.null, .ref sz, .ref (sz + 1), .ref (sz + 2), .null, .null, .int 0, .int 0, .int 0]))] (sz + 4) rfl tw_46 (by decide) (by decide) (Nat.le_of_ble_eq_true rfl) (Nat.le_of_ble_eq_true rfl) (Nat.le_of_ble_eq_true rfl) dX8_init_35 ?_
  refine g_as ((h0, .inr (8, [.null, .ref sz, .ref (sz + 1), .ref (sz + 2), .null, .null, .int 0, .int 0, .int 0])) :: ((sz + 3, .inl (cI, 240, .inl (fun _ => 0))) :: ((sz + 2, .inl (cI, 240, .inl (fun _ => 0))) :: ((sz + 1, .inl (cI, 240, .inl (fun _ => 0))) :: ((sz, .inl (cI, 241, .inl (fun _ => 0))) :: []))))) rfl ?_
  refine g_put X hnm [.null, .ref sz, .ref (sz + 1), .ref (sz + 2), .ref (sz + 3), .null, .int 0, .int 0, .int 0] kP_X8_21 rfl rfl (Nat.le_of_ble_eq_true rfl) rfl dX8_init_37 ?_
  refine g_aload_n X (i := 0) 0 rfl dX8_init_40 ?_
  refine g_sipush X (v := 240) dX8_init_41 (by decide) ?_
  refine g_newa X (N := 240) [(h0, .inr (8, [.null, .ref sz, .ref (sz + 1), .ref (sz + 2), .ref (sz + 3), .null, .int 0, .int 0, .int 0]))] (sz + 5) rfl tw_46 (by decide) (by decide) (Nat.le_of_ble_eq_true rfl) (Nat.le_of_ble_eq_true rfl) (Nat.le_of_ble_eq_true rfl) dX8_init_44 ?_
  refine g_as ((h0, .inr (8, [.null, .ref sz, .ref (sz + 1), .ref (sz + 2), .ref (sz + 3), .null, .int 0, .int 0, .int 0])) :: ((sz + 4, .inl (cI, 240, .inl (fun _ => 0))) :: ((sz + 3, .inl (cI, 240, .inl (fun _ => 0))) :: ((sz + 2, .inl (cI, 240, .inl (fun _ => 0))) :: ((sz + 1, .inl (cI, 240, .inl (fun _ => 0))) :: ((sz, .inl (cI, 241, .inl (fun _ => 0))) :: [])))))) rfl ?_
  refine g_put X hnm [.null, .ref sz, .ref (sz + 1), .ref (sz + 2), .ref (sz + 3), .ref (sz + 4), .int 0, .int 0, .int 0] kP_X8_24 rfl rfl (Nat.le_of_ble_eq_true rfl) rfl dX8_init_46 ?_
  refine g_aload_n X (i := 0) 0 rfl dX8_init_49 ?_
  refine g_aload_n X (i := 1) 1 rfl dX8_init_50 ?_
  refine g_put X hnm [.ref r1, .ref sz, .ref (sz + 1), .ref (sz + 2), .ref (sz + 3), .ref (sz + 4), .int 0, .int 0, .int 0] kP_X8_27 rfl rfl (Nat.le_of_ble_eq_true rfl) rfl dX8_init_51 ?_
  exact g_vret X (Nat.le_of_ble_eq_true rfl) (Nat.le_of_ble_eq_true rfl) hr hlk dX8_init_54
def wX1 (cI : ClassId) (h0 sz : Nat) (r1 r2 r3 : Nat) : va_W := (h0, .inr (1, [.ref r1, .ref r2, .ref (sz + 6), .ref sz, .ref (sz + 1), .ref (sz + 2), .ref (sz + 3), .ref (sz + 4), .ref (sz + 5), .int 0, .int 0, .int 0])) :: (wX7 cI (sz + 6) (sz + 7) r2 r3 ++ ((sz + 5, .inl (cI, 241, .inl (fun _ => 0))) :: ((sz + 4, .inl (cI, 241, .inl (fun _ => 0))) :: ((sz + 3, .inl (cI, 24, .inl (fun _ => 0))) :: ((sz + 2, .inl (cI, 24, .inl (fun _ => 0))) :: ((sz + 1, .inl (cI, 24, .inl (fun _ => 0))) :: ((sz, .inl (cI, 24, .inl (fun _ => 0))) :: [])))))))
set_option maxRecDepth 100000 in
theorem gi_X1 (l : Launch) (D : va_G) (cI : ClassId) (h0 : Nat) (r1 : Nat) (r2 : Nat) (r3 : Nat) : g_Ct l yX1_init cX1_init 4 2 10 (706) D cI [.ref h0, .ref r1, .ref r2, .ref r3] [(h0, .inr (1, [.null, .null, .null, .null, .null, .null, .null, .null, .null, .int 0, .int 0, .int 0]))] (fun z => wX1 cI h0 z r1 r2 r3) := by
  intro tys sz ht
  refine g_enter (Qc := g_Q D (sz + 10) (wX1 cI h0 sz r1 r2 r3)) RX1 rfl (by decide +kernel) rfl (Nat.le_of_ble_eq_true rfl) ht (fun p e R s m args below meth c A X hnm hr hlk hsz => ?_)
  show g_W _ _ _ _ _ _ _ _ _ _ _ _ _ _ _ _ _ _ [(0, .ref h0), (1, .ref r1), (2, .ref r2), (3, .ref r3)] _ _
  refine g_aload_n X (i := 0) 0 rfl dX1_init_0 ?_
  refine g_oinit X (Nat.le_of_ble_eq_true rfl) tw_253 tw_28 tw_29 (Nat.le_of_ble_eq_true rfl) dX1_init_1 ?_
  refine g_aload_n X (i := 0) 0 rfl dX1_init_4 ?_
  refine g_bipush X (v := 24) dX1_init_5 (by decide) ?_
  refine g_newa X (N := 24) [(h0, .inr (1, [.null, .null, .null, .null, .null, .null, .null, .null, .null, .int 0, .int 0, .int 0]))] (sz + 1) rfl tw_46 (by decide) (by decide) (Nat.le_of_ble_eq_true rfl) (Nat.le_of_ble_eq_true rfl) (Nat.le_of_ble_eq_true rfl) dX1_init_7 ?_
  refine g_as ((h0, .inr (1, [.null, .null, .null, .null, .null, .null, .null, .null, .null, .int 0, .int 0, .int 0])) :: ((sz, .inl (cI, 24, .inl (fun _ => 0))) :: [])) rfl ?_
  refine g_put X hnm [.null, .null, .null, .ref sz, .null, .null, .null, .null, .null, .int 0, .int 0, .int 0] kP_X1_9 rfl rfl (Nat.le_of_ble_eq_true rfl) rfl dX1_init_9 ?_
  refine g_aload_n X (i := 0) 0 rfl dX1_init_12 ?_
  refine g_bipush X (v := 24) dX1_init_13 (by decide) ?_
  refine g_newa X (N := 24) [(h0, .inr (1, [.null, .null, .null, .ref sz, .null, .null, .null, .null, .null, .int 0, .int 0, .int 0]))] (sz + 2) rfl tw_46 (by decide) (by decide) (Nat.le_of_ble_eq_true rfl) (Nat.le_of_ble_eq_true rfl) (Nat.le_of_ble_eq_true rfl) dX1_init_15 ?_
  refine g_as ((h0, .inr (1, [.null, .null, .null, .ref sz, .null, .null, .null, .null, .null, .int 0, .int 0, .int 0])) :: ((sz + 1, .inl (cI, 24, .inl (fun _ => 0))) :: ((sz, .inl (cI, 24, .inl (fun _ => 0))) :: []))) rfl ?_
  refine g_put X hnm [.null, .null, .null, .ref sz, .ref (sz + 1), .null, .null, .null, .null, .int 0, .int 0, .int 0] kP_X1_15 rfl rfl (Nat.le_of_ble_eq_true rfl) rfl dX1_init_17 ?_
  refine g_aload_n X (i := 0) 0 rfl dX1_init_20 ?_
  refine g_bipush X (v := 24) dX1_init_21 (by decide) ?_
  refine g_newa X (N := 24) [(h0, .inr (1, [.null, .null, .null, .ref sz, .ref (sz + 1), .null, .null, .null, .null, .int 0, .int 0, .int 0]))] (sz + 3) rfl tw_46 (by decide) (by decide) (Nat.le_of_ble_eq_true rfl) (Nat.le_of_ble_eq_true rfl) (Nat.le_of_ble_eq_true rfl) dX1_init_23 ?_
  refine g_as ((h0, .inr (1, [.null, .null, .null, .ref sz, .ref (sz + 1), .null, .null, .null, .null, .int 0, .int 0, .int 0])) :: ((sz + 2, .inl (cI, 24, .inl (fun _ => 0))) :: ((sz + 1, .inl (cI, 24, .inl (fun _ => 0))) :: ((sz, .inl (cI, 24, .inl (fun _ => 0))) :: [])))) rfl ?_
  refine g_put X hnm [.null, .null, .null, .ref sz, .ref (sz + 1), .ref (sz + 2), .null, .null, .null, .int 0, .int 0, .int 0] kP_X1_18 rfl rfl (Nat.le_of_ble_eq_true rfl) rfl dX1_init_25 ?_
  refine g_aload_n X (i := 0) 0 rfl dX1_init_28 ?_
  refine g_bipush X (v := 24) dX1_init_29 (by decide) ?_
  refine g_newa X (N := 24) [(h0, .inr (1, [.null, .null, .null, .ref sz, .ref (sz + 1), .ref (sz + 2), .null, .null, .null, .int 0, .int 0, .int 0]))] (sz + 4) rfl tw_46 (by decide) (by decide) (Nat.le_of_ble_eq_true rfl) (Nat.le_of_ble_eq_true rfl) (Nat.le_of_ble_eq_true rfl) dX1_init_31 ?_
  refine g_as ((h0, .inr (1, [.null, .null, .null, .ref sz, .ref (sz + 1), .ref (sz + 2), .null, .null, .null, .int 0, .int 0, .int 0])) :: ((sz + 3, .inl (cI, 24, .inl (fun _ => 0))) :: ((sz + 2, .inl (cI, 24, .inl (fun _ => 0))) :: ((sz + 1, .inl (cI, 24, .inl (fun _ => 0))) :: ((sz, .inl (cI, 24, .inl (fun _ => 0))) :: []))))) rfl ?_
  refine g_put X hnm [.null, .null, .null, .ref sz, .ref (sz + 1), .ref (sz + 2), .ref (sz + 3), .null, .null, .int 0, .int 0, .int 0] kP_X1_21 rfl rfl (Nat.le_of_ble_eq_true rfl) rfl dX1_init_33 ?_
  refine g_aload_n X (i := 0) 0 rfl dX1_init_36 ?_
  refine g_sipush X (v := 241) dX1_init_37 (by decide) ?_
  refine g_newa X (N := 241) [(h0, .inr (1, [.null, .null, .null, .ref sz, .ref (sz + 1), .ref (sz + 2), .ref (sz + 3), .null, .null, .int 0, .int 0, .int 0]))] (sz + 5) rfl tw_46 (by decide) (by decide) (Nat.le_of_ble_eq_true rfl) (Nat.le_of_ble_eq_true rfl) (Nat.le_of_ble_eq_true rfl) dX1_init_40 ?_
  refine g_as ((h0, .inr (1, [.null, .null, .null, .ref sz, .ref (sz + 1), .ref (sz + 2), .ref (sz + 3), .null, .null, .int 0, .int 0, .int 0])) :: ((sz + 4, .inl (cI, 241, .inl (fun _ => 0))) :: ((sz + 3, .inl (cI, 24, .inl (fun _ => 0))) :: ((sz + 2, .inl (cI, 24, .inl (fun _ => 0))) :: ((sz + 1, .inl (cI, 24, .inl (fun _ => 0))) :: ((sz, .inl (cI, 24, .inl (fun _ => 0))) :: [])))))) rfl ?_
  refine g_put X hnm [.null, .null, .null, .ref sz, .ref (sz + 1), .ref (sz + 2), .ref (sz + 3), .ref (sz + 4), .null, .int 0, .int 0, .int 0] kP_X1_24 rfl rfl (Nat.le_of_ble_eq_true rfl) rfl dX1_init_42 ?_
  refine g_aload_n X (i := 0) 0 rfl dX1_init_45 ?_
  refine g_sipush X (v := 241) dX1_init_46 (by decide) ?_
  refine g_newa X (N := 241) [(h0, .inr (1, [.null, .null, .null, .ref sz, .ref (sz + 1), .ref (sz + 2), .ref (sz + 3), .ref (sz + 4), .null, .int 0, .int 0, .int 0]))] (sz + 6) rfl tw_46 (by decide) (by decide) (Nat.le_of_ble_eq_true rfl) (Nat.le_of_ble_eq_true rfl) (Nat.le_of_ble_eq_true rfl) dX1_init_49 ?_
  refine g_as ((h0, .inr (1, [.null, .null, .null, .ref sz, .ref (sz + 1), .ref (sz + 2), .ref (sz + 3), .ref (sz + 4), .null, .int 0, .int 0, .int 0])) :: ((sz + 5, .inl (cI, 241, .inl (fun _ => 0))) :: ((sz + 4, .inl (cI, 241, .inl (fun _ => 0))) :: ((sz + 3, .inl (cI, 24, .inl (fun _ => 0))) :: ((sz + 2, .inl (cI, 24, .inl (fun _ => 0))) :: ((sz + 1, .inl (cI, 24, .inl (fun _ => 0))) :: ((sz, .inl (cI, 24, .inl (fun _ => 0))) :: []))))))) rfl ?_
  refine g_put X hnm [.null, .null, .null, .ref sz, .ref (sz + 1), .ref (sz + 2), .ref (sz + 3), .ref (sz + 4), .ref (sz + 5), .int 0, .int 0, .int 0] kP_X1_27 rfl rfl (Nat.le_of_ble_eq_true rfl) rfl dX1_init_51 ?_
  refine g_aload_n X (i := 0) 0 rfl dX1_init_54 ?_
  refine g_aload_n X (i := 1) 1 rfl dX1_init_55 ?_
  refine g_put X hnm [.ref r1, .null, .null, .ref sz, .ref (sz + 1), .ref (sz + 2), .ref (sz + 3), .ref (sz + 4), .ref (sz + 5), .int 0, .int 0, .int 0] kP_X1_30 rfl rfl (Nat.le_of_ble_eq_true rfl) rfl dX1_init_56 ?_
  refine g_aload_n X (i := 0) 0 rfl dX1_init_59 ?_
  refine g_aload_n X (i := 2) 2 rfl dX1_init_60 ?_
  refine g_put X hnm [.ref r1, .ref r2, .null, .ref sz, .ref (sz + 1), .ref (sz + 2), .ref (sz + 3), .ref (sz + 4), .ref (sz + 5), .int 0, .int 0, .int 0] kP_X1_34 rfl rfl (Nat.le_of_ble_eq_true rfl) rfl dX1_init_61 ?_
  refine g_aload_n X (i := 0) 0 rfl dX1_init_64 ?_
  refine g_new X [(h0, .inr (1, [.ref r1, .ref r2, .null, .ref sz, .ref (sz + 1), .ref (sz + 2), .ref (sz + 3), .ref (sz + 4), .ref (sz + 5), .int 0, .int 0, .int 0]))] (sz + 7) rfl kN_X1_38 (Nat.le_of_ble_eq_true rfl) (Nat.le_of_ble_eq_true rfl) dX1_init_65 ?_
  refine g_as ((h0, .inr (1, [.ref r1, .ref r2, .null, .ref sz, .ref (sz + 1), .ref (sz + 2), .ref (sz + 3), .ref (sz + 4), .ref (sz + 5), .int 0, .int 0, .int 0])) :: ((sz + 6, .inr (7, [.null, .null, .null, .null, .null])) :: ((sz + 5, .inl (cI, 241, .inl (fun _ => 0))) :: ((sz + 4, .inl (cI, 241, .inl (fun _ => 0))) :: ((sz + 3, .inl (cI, 24, .inl (fun _ => 0))) :: ((sz + 2, .inl (cI, 24, .inl (fun _ => 0))) :: ((sz + 1, .inl (cI, 24, .inl (fun _ => 0))) :: ((sz, .inl (cI, 24, .inl (fun _ => 0))) :: [])))))))) rfl ?_
  refine g_dup X rfl dX1_init_68 ?_
  refine g_aload_n X (i := 2) 2 rfl dX1_init_69 ?_
  refine g_aload_n X (i := 3) 3 rfl dX1_init_70 ?_
  refine g_call X [(h0, .inr (1, [.ref r1, .ref r2, .null, .ref sz, .ref (sz + 1), .ref (sz + 2), .ref (sz + 3), .ref (sz + 4), .ref (sz + 5), .int 0, .int 0, .int 0]))] (sz + 10) [.ref r2, .ref r3] (gi_X7 l D cI (sz + 6) r2 r3) rfl kC_X1_40 rfl (Nat.le_of_ble_eq_true rfl) (Nat.le_of_ble_eq_true rfl) (Nat.le_of_ble_eq_true rfl) (Nat.le_of_ble_eq_true rfl) dX1_init_71 ?_
  refine g_as ((h0, .inr (1, [.ref r1, .ref r2, .null, .ref sz, .ref (sz + 1), .ref (sz + 2), .ref (sz + 3), .ref (sz + 4), .ref (sz + 5), .int 0, .int 0, .int 0])) :: (wX7 cI (sz + 6) (sz + 7) r2 r3 ++ ((sz + 5, .inl (cI, 241, .inl (fun _ => 0))) :: ((sz + 4, .inl (cI, 241, .inl (fun _ => 0))) :: ((sz + 3, .inl (cI, 24, .inl (fun _ => 0))) :: ((sz + 2, .inl (cI, 24, .inl (fun _ => 0))) :: ((sz + 1, .inl (cI, 24, .inl (fun _ => 0))) :: ((sz, .inl (cI, 24, .inl (fun _ => 0))) :: [])))))))) rfl ?_
  refine g_put X hnm [.ref r1, .ref r2, .ref (sz + 6), .ref sz, .ref (sz + 1), .ref (sz + 2), .ref (sz + 3), .ref (sz + 4), .ref (sz + 5), .int 0, .int 0, .int 0] kP_X1_43 rfl rfl (Nat.le_of_ble_eq_true rfl) rfl dX1_init_74 ?_
  exact g_vret X (Nat.le_of_ble_eq_true rfl) (Nat.le_of_ble_eq_true rfl) hr hlk dX1_init_77
def wX3 (cI : ClassId) (h0 sz : Nat) : va_W := (h0, .inr (3, [.ref sz, .ref (sz + 1), .ref (sz + 2), .ref (sz + 3), .int 0, .int 0, .int 0, .int 0, .int 0])) :: ((sz + 3, .inl (cI, 241, .inl (fun _ => 0))) :: ((sz + 2, .inl (cI, 241, .inl (fun _ => 0))) :: ((sz + 1, .inl (cI, 241, .inl (fun _ => 0))) :: ((sz, .inl (cI, 24, .inl (fun _ => 0))) :: []))))
set_option maxRecDepth 100000 in
theorem gi_X3 (l : Launch) (D : va_G) (cI : ClassId) (h0 : Nat)  : g_Ct l yX3_init cX3_init 1 1 4 (747) D cI [.ref h0] [(h0, .inr (3, [.null, .null, .null, .null, .int 0, .int 0, .int 0, .int 0, .int 0]))] (fun z => wX3 cI h0 z) := by
  intro tys sz ht
  refine g_enter (Qc := g_Q D (sz + 4) (wX3 cI h0 sz)) RX3 rfl (by decide +kernel) rfl (Nat.le_of_ble_eq_true rfl) ht (fun p e R s m args below meth c A X hnm hr hlk hsz => ?_)
  show g_W _ _ _ _ _ _ _ _ _ _ _ _ _ _ _ _ _ _ [(0, .ref h0)] _ _
  refine g_aload_n X (i := 0) 0 rfl dX3_init_0 ?_
  refine g_oinit X (Nat.le_of_ble_eq_true rfl) tw_304 tw_28 tw_29 (Nat.le_of_ble_eq_true rfl) dX3_init_1 ?_
  refine g_aload_n X (i := 0) 0 rfl dX3_init_4 ?_
  refine g_bipush X (v := 24) dX3_init_5 (by decide) ?_
  refine g_newa X (N := 24) [(h0, .inr (3, [.null, .null, .null, .null, .int 0, .int 0, .int 0, .int 0, .int 0]))] (sz + 1) rfl tw_46 (by decide) (by decide) (Nat.le_of_ble_eq_true rfl) (Nat.le_of_ble_eq_true rfl) (Nat.le_of_ble_eq_true rfl) dX3_init_7 ?_
  refine g_as ((h0, .inr (3, [.null, .null, .null, .null, .int 0, .int 0, .int 0, .int 0, .int 0])) :: ((sz, .inl (cI, 24, .inl (fun _ => 0))) :: [])) rfl ?_
  refine g_put X hnm [.ref sz, .null, .null, .null, .int 0, .int 0, .int 0, .int 0, .int 0] kP_X3_9 rfl rfl (Nat.le_of_ble_eq_true rfl) rfl dX3_init_9 ?_
  refine g_aload_n X (i := 0) 0 rfl dX3_init_12 ?_
  refine g_sipush X (v := 241) dX3_init_13 (by decide) ?_
  refine g_newa X (N := 241) [(h0, .inr (3, [.ref sz, .null, .null, .null, .int 0, .int 0, .int 0, .int 0, .int 0]))] (sz + 2) rfl tw_46 (by decide) (by decide) (Nat.le_of_ble_eq_true rfl) (Nat.le_of_ble_eq_true rfl) (Nat.le_of_ble_eq_true rfl) dX3_init_16 ?_
  refine g_as ((h0, .inr (3, [.ref sz, .null, .null, .null, .int 0, .int 0, .int 0, .int 0, .int 0])) :: ((sz + 1, .inl (cI, 241, .inl (fun _ => 0))) :: ((sz, .inl (cI, 24, .inl (fun _ => 0))) :: []))) rfl ?_
  refine g_put X hnm [.ref sz, .ref (sz + 1), .null, .null, .int 0, .int 0, .int 0, .int 0, .int 0] kP_X3_15 rfl rfl (Nat.le_of_ble_eq_true rfl) rfl dX3_init_18 ?_
  refine g_aload_n X (i := 0) 0 rfl dX3_init_21 ?_
  refine g_sipush X (v := 241) dX3_init_22 (by decide) ?_
  refine g_newa X (N := 241) [(h0, .inr (3, [.ref sz, .ref (sz + 1), .null, .null, .int 0, .int 0, .int 0, .int 0, .int 0]))] (sz + 3) rfl tw_46 (by decide) (by decide) (Nat.le_of_ble_eq_true rfl) (Nat.le_of_ble_eq_true rfl) (Nat.le_of_ble_eq_true rfl) dX3_init_25 ?_
  refine g_as ((h0, .inr (3, [.ref sz, .ref (sz + 1), .null, .null, .int 0, .int 0, .int 0, .int 0, .int 0])) :: ((sz + 2, .inl (cI, 241, .inl (fun _ => 0))) :: ((sz + 1, .inl (cI, 241, .inl (fun _ => 0))) :: ((sz, .inl (cI, 24, .inl (fun _ => 0))) :: [])))) rfl ?_
  refine g_put X hnm [.ref sz, .ref (sz + 1), .ref (sz + 2), .null, .int 0, .int 0, .int 0, .int 0, .int 0] kP_X3_18 rfl rfl (Nat.le_of_ble_eq_true rfl) rfl dX3_init_27 ?_
  refine g_aload_n X (i := 0) 0 rfl dX3_init_30 ?_
  refine g_sipush X (v := 241) dX3_init_31 (by decide) ?_
  refine g_newa X (N := 241) [(h0, .inr (3, [.ref sz, .ref (sz + 1), .ref (sz + 2), .null, .int 0, .int 0, .int 0, .int 0, .int 0]))] (sz + 4) rfl tw_46 (by decide) (by decide) (Nat.le_of_ble_eq_true rfl) (Nat.le_of_ble_eq_true rfl) (Nat.le_of_ble_eq_true rfl) dX3_init_34 ?_
  refine g_as ((h0, .inr (3, [.ref sz, .ref (sz + 1), .ref (sz + 2), .null, .int 0, .int 0, .int 0, .int 0, .int 0])) :: ((sz + 3, .inl (cI, 241, .inl (fun _ => 0))) :: ((sz + 2, .inl (cI, 241, .inl (fun _ => 0))) :: ((sz + 1, .inl (cI, 241, .inl (fun _ => 0))) :: ((sz, .inl (cI, 24, .inl (fun _ => 0))) :: []))))) rfl ?_
  refine g_put X hnm [.ref sz, .ref (sz + 1), .ref (sz + 2), .ref (sz + 3), .int 0, .int 0, .int 0, .int 0, .int 0] kP_X3_21 rfl rfl (Nat.le_of_ble_eq_true rfl) rfl dX3_init_36 ?_
  exact g_vret X (Nat.le_of_ble_eq_true rfl) (Nat.le_of_ble_eq_true rfl) hr hlk dX3_init_39
def wX6 (cI : ClassId) (h0 sz : Nat) (r1 : Nat) : va_W := (h0, .inr (6, [.ref r1, .int 0, .int 0, .int 0, .int (-1)])) :: []
set_option maxRecDepth 100000 in
theorem gi_X6 (l : Launch) (D : va_G) (cI : ClassId) (h0 : Nat) (r1 : Nat) : g_Ct l yX6_init cX6_init 2 1 0 (0) D cI [.ref h0, .ref r1] [(h0, .inr (6, [.null, .int 0, .int 0, .int 0, .int 0]))] (fun z => wX6 cI h0 z r1) := by
  intro tys sz ht
  refine g_enter (Qc := g_Q D (sz + 0) (wX6 cI h0 sz r1)) RX6 rfl (by decide +kernel) rfl (Nat.le_of_ble_eq_true rfl) ht (fun p e R s m args below meth c A X hnm hr hlk hsz => ?_)
  show g_W _ _ _ _ _ _ _ _ _ _ _ _ _ _ _ _ _ _ [(0, .ref h0), (1, .ref r1)] _ _
  refine g_aload_n X (i := 0) 0 rfl dX6_init_0 ?_
  refine g_oinit X (Nat.le_of_ble_eq_true rfl) tw_347 tw_28 tw_29 (Nat.le_of_ble_eq_true rfl) dX6_init_1 ?_
  refine g_aload_n X (i := 0) 0 rfl dX6_init_4 ?_
  refine g_aload_n X (i := 1) 1 rfl dX6_init_5 ?_
  refine g_put X hnm [.ref r1, .int 0, .int 0, .int 0, .int 0] kP_X6_9 rfl rfl (Nat.le_of_ble_eq_true rfl) rfl dX6_init_6 ?_
  refine g_aload_n X (i := 0) 0 rfl dX6_init_9 ?_
  refine g_iconst X (v := (-1)) dX6_init_10 (by decide) ?_
  refine g_put X hnm [.ref r1, .int 0, .int 0, .int 0, .int (-1)] kP_X6_15 rfl rfl (Nat.le_of_ble_eq_true rfl) rfl dX6_init_11 ?_
  exact g_vret X (Nat.le_of_ble_eq_true rfl) (Nat.le_of_ble_eq_true rfl) hr hlk dX6_init_14
def wX5 (cI : ClassId) (h0 sz : Nat) : va_W := (h0, .inr (5, [.ref sz, .ref (sz + 1), .ref (sz + 2), .ref (sz + 3), .int 1, .int 1, .int 0, .int 0, .int 0, .int 0, .int 0])) :: ((sz + 3, .inl (cI, 5, .inl (fun _ => 0))) :: ((sz + 2, .inl (cI, 40, .inl (fun _ => 0))) :: ((sz + 1, .inl (cI, 40, .inl (fun _ => 0))) :: ((sz, .inl (cI, 40, .inl (fun _ => 0))) :: []))))
set_option maxRecDepth 100000 in
theorem gi_X5 (l : Launch) (D : va_G) (cI : ClassId) (h0 : Nat)  : g_Ct l yX5_init cX5_init 1 1 4 (125) D cI [.ref h0] [(h0, .inr (5, [.null, .null, .null, .null, .int 0, .int 0, .int 0, .int 0, .int 0, .int 0, .int 0]))] (fun z => wX5 cI h0 z) := by
  intro tys sz ht
  refine g_enter (Qc := g_Q D (sz + 4) (wX5 cI h0 sz)) RX5 rfl (by decide +kernel) rfl (Nat.le_of_ble_eq_true rfl) ht (fun p e R s m args below meth c A X hnm hr hlk hsz => ?_)
  show g_W _ _ _ _ _ _ _ _ _ _ _ _ _ _ _ _ _ _ [(0, .ref h0)] _ _
  refine g_aload_n X (i := 0) 0 rfl dX5_init_0 ?_
  refine g_oinit X (Nat.le_of_ble_eq_true rfl) tw_371 tw_28 tw_29 (Nat.le_of_ble_eq_true rfl) dX5_init_1 ?_
  refine g_aload_n X (i := 0) 0 rfl dX5_init_4 ?_
  refine g_bipush X (v := 40) dX5_init_5 (by decide) ?_
  refine g_newa X (N := 40) [(h0, .inr (5, [.null, .null, .null, .null, .int 0, .int 0, .int 0, .int 0, .int 0, .int 0, .int 0]))] (sz + 1) rfl tw_46 (by decide) (by decide) (Nat.le_of_ble_eq_true rfl) (Nat.le_of_ble_eq_true rfl) (Nat.le_of_ble_eq_true rfl) dX5_init_7 ?_
  refine g_as ((h0, .inr (5, [.null, .null, .null, .null, .int 0, .int 0, .int 0, .int 0, .int 0, .int 0, .int 0])) :: ((sz, .inl (cI, 40, .inl (fun _ => 0))) :: [])) rfl ?_
  refine g_put X hnm [.ref sz, .null, .null, .null, .int 0, .int 0, .int 0, .int 0, .int 0, .int 0, .int 0] kP_X5_9 rfl rfl (Nat.le_of_ble_eq_true rfl) rfl dX5_init_9 ?_
  refine g_aload_n X (i := 0) 0 rfl dX5_init_12 ?_
  refine g_bipush X (v := 40) dX5_init_13 (by decide) ?_
  refine g_newa X (N := 40) [(h0, .inr (5, [.ref sz, .null, .null, .null, .int 0, .int 0, .int 0, .int 0, .int 0, .int 0, .int 0]))] (sz + 2) rfl tw_46 (by decide) (by decide) (Nat.le_of_ble_eq_true rfl) (Nat.le_of_ble_eq_true rfl) (Nat.le_of_ble_eq_true rfl) dX5_init_15 ?_
  refine g_as ((h0, .inr (5, [.ref sz, .null, .null, .null, .int 0, .int 0, .int 0, .int 0, .int 0, .int 0, .int 0])) :: ((sz + 1, .inl (cI, 40, .inl (fun _ => 0))) :: ((sz, .inl (cI, 40, .inl (fun _ => 0))) :: []))) rfl ?_
  refine g_put X hnm [.ref sz, .ref (sz + 1), .null, .null, .int 0, .int 0, .int 0, .int 0, .int 0, .int 0, .int 0] kP_X5_15 rfl rfl (Nat.le_of_ble_eq_true rfl) rfl dX5_init_17 ?_
  refine g_aload_n X (i := 0) 0 rfl dX5_init_20 ?_
  refine g_bipush X (v := 40) dX5_init_21 (by decide) ?_
  refine g_newa X (N := 40) [(h0, .inr (5, [.ref sz, .ref (sz + 1), .null, .null, .int 0, .int 0, .int 0, .int 0, .int 0, .int 0, .int 0]))] (sz + 3) rfl tw_46 (by decide) (by decide) (Nat.le_of_ble_eq_true rfl) (Nat.le_of_ble_eq_true rfl) (Nat.le_of_ble_eq_true rfl) dX5_init_23 ?_
  refine g_as ((h0, .inr (5, [.ref sz, .ref (sz + 1), .null, .null, .int 0, .int 0, .int 0, .int 0, .int 0, .int 0, .int 0])) :: ((sz + 2, .inl (cI, 40, .inl (fun _ => 0))) :: ((sz + 1, .inl (cI, 40, .inl (fun _ => 0))) :: ((sz, .inl (cI, 40, .inl (fun _ => 0))) :: [])))) rfl ?_
  refine g_put X hnm [.ref sz, .ref (sz + 1), .ref (sz + 2), .null, .int 0, .int 0, .int 0, .int 0, .int 0, .int 0, .int 0] kP_X5_18 rfl rfl (Nat.le_of_ble_eq_true rfl) rfl dX5_init_25 ?_
  refine g_aload_n X (i := 0) 0 rfl dX5_init_28 ?_
  refine g_iconst X (v := 5) dX5_init_29 (by decide) ?_
  refine g_newa X (N := 5) [(h0, .inr (5, [.ref sz, .ref (sz + 1), .ref (sz + 2), .null, .int 0, .int 0, .int 0, .int 0, .int 0, .int 0, .int 0]))] (sz + 4) rfl tw_46 (by decide) (by decide) (Nat.le_of_ble_eq_true rfl) (Nat.le_of_ble_eq_true rfl) (Nat.le_of_ble_eq_true rfl) dX5_init_30 ?_
  refine g_as ((h0, .inr (5, [.ref sz, .ref (sz + 1), .ref (sz + 2), .null, .int 0, .int 0, .int 0, .int 0, .int 0, .int 0, .int 0])) :: ((sz + 3, .inl (cI, 5, .inl (fun _ => 0))) :: ((sz + 2, .inl (cI, 40, .inl (fun _ => 0))) :: ((sz + 1, .inl (cI, 40, .inl (fun _ => 0))) :: ((sz, .inl (cI, 40, .inl (fun _ => 0))) :: []))))) rfl ?_
  refine g_put X hnm [.ref sz, .ref (sz + 1), .ref (sz + 2), .ref (sz + 3), .int 0, .int 0, .int 0, .int 0, .int 0, .int 0, .int 0] kP_X5_21 rfl rfl (Nat.le_of_ble_eq_true rfl) rfl dX5_init_32 ?_
  refine g_aload_n X (i := 0) 0 rfl dX5_init_35 ?_
  refine g_iconst X (v := 1) dX5_init_36 (by decide) ?_
  refine g_put X hnm [.ref sz, .ref (sz + 1), .ref (sz + 2), .ref (sz + 3), .int 1, .int 0, .int 0, .int 0, .int 0, .int 0, .int 0] kP_X5_24 rfl rfl (Nat.le_of_ble_eq_true rfl) rfl dX5_init_37 ?_
  refine g_aload_n X (i := 0) 0 rfl dX5_init_40 ?_
  refine g_iconst X (v := 1) dX5_init_41 (by decide) ?_
  refine g_put X hnm [.ref sz, .ref (sz + 1), .ref (sz + 2), .ref (sz + 3), .int 1, .int 1, .int 0, .int 0, .int 0, .int 0, .int 0] kP_X5_28 rfl rfl (Nat.le_of_ble_eq_true rfl) rfl dX5_init_42 ?_
  exact g_vret X (Nat.le_of_ble_eq_true rfl) (Nat.le_of_ble_eq_true rfl) hr hlk dX5_init_45
