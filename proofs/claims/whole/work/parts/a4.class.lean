/-! ===== the constructor of the class ===== -/
/-! ===== the memory at the start ===== -/
def mi_1 : Nat → Nat → Int32 := fun i => if i = 0 then upd (fun _ => 0) 12 4 else if i = 3 then upd (fun _ => 0) 5 1 else if i = 4 then upd (fun _ => 0) 0 2 else if i = 52 then upd (fun _ => 0) 4 (-1) else if i = 53 then upd (upd (fun _ => 0) 4 1) 5 1 else if i = 58 then upd (upd (fun _ => 0) 4 1) 5 1 else if i = 63 then upd (upd (upd (upd (upd (upd (fun _ => 0) 3 (-1)) 5 1) 6 4) 10 42) 11 42) 29 (-1) else if i = 77 then upd (upd (fun _ => 0) 0 1) 1 0 else if i = 78 then upd (upd (fun _ => 0) 0 1) 1 0 else fun _ => 0
def mi_M : me_M := (mi_1, fun j => if j = 0 then 53 else 58, fun _ => 0)
def wX11 (cI : ClassId) (h0 sz : Nat) : va_W := (h0, .inr (11, [.ref sz, .ref (sz + 2), .ref (sz + 8), .ref (sz + 13), .ref (sz + 18), .ref (sz + 25), .ref (sz + 29), .ref (sz + 35), .ref (sz + 46), .ref (sz + 51), .ref (sz + 52), .ref (sz + 57), .int 4, .int 0, .int 0, .int 0])) :: (wX5 cI (sz + 57) (sz + 58) ++ (wX5 cI (sz + 52) (sz + 53) ++ (wX6 cI (sz + 51) (sz + 52) sz ++ (wX3 cI (sz + 46) (sz + 47) ++ (wX1 cI (sz + 35) (sz + 36) (sz + 2) (sz + 8) (sz + 13) ++ (wX8 cI (sz + 29) (sz + 30) (sz + 2) ++ (wX2 cI (sz + 25) (sz + 26) (sz + 2) (sz + 8) ++ (wX0 cI (sz + 18) (sz + 19) (sz + 8) (sz + 13) ++ (wX4 cI (sz + 13) (sz + 14) (sz + 4) ++ (wX4 cI (sz + 8) (sz + 9) (sz + 3) ++ (wX10 cI (sz + 2) (sz + 3) ++ (wX9 cI sz (sz + 1) ++ []))))))))))))
def g_off (i : Nat) : Nat := [0, 0, 1, 2, 3, 4, 5, 6, 7, 8, 9, 10, 11, 12, 13, 14, 15, 16, 17, 18, 21, 22, 23, 24, 19, 20, 25, 26, 27, 28, 29, 30, 31, 32, 33, 34, 35, 42, 43, 44, 45, 36, 37, 38, 39, 40, 41, 46, 47, 48, 49, 50, 51, 52, 53, 54, 55, 56, 57, 58, 59, 60, 61].getD i 0
def g_pos (i : Nat) : Nat := [0, 61, 62, 55, 60, 59, 58, 57, 56, 50, 54, 53, 52, 51, 45, 49, 48, 47, 46, 38, 39, 42, 41, 40, 44, 43, 34, 37, 36, 35, 28, 33, 32, 31, 30, 29, 17, 18, 21, 20, 19, 27, 26, 25, 24, 23, 22, 12, 16, 15, 14, 13, 11, 6, 10, 9, 8, 7, 1, 5, 4, 3, 2].getD i 0
def g_ad (h0 sz i : Nat) : Nat := if i = 0 then h0 else sz + g_off i
theorem g_pos_inj : ∀ i, i < 63 → ∀ j, j < 63 → g_pos i = g_pos j → i = j := by decide +kernel
set_option maxRecDepth 100000 in
theorem g_at (cA : Nat → ClassId) (h0 sz : Nat) : ∀ i, i < 63 → (wX11 (cA 0) h0 sz)[g_pos i]? = some (g_ad h0 sz i, me_c (g_ad h0 sz) cA mi_M i)
  | 0, _ => rfl
  | 1, _ => rfl
  | 2, _ => rfl
  | 3, _ => rfl
  | 4, _ => rfl
  | 5, _ => rfl
  | 6, _ => rfl
  | 7, _ => rfl
  | 8, _ => rfl
  | 9, _ => rfl
  | 10, _ => rfl
  | 11, _ => rfl
  | 12, _ => rfl
  | 13, _ => rfl
  | 14, _ => rfl
  | 15, _ => rfl
  | 16, _ => rfl
  | 17, _ => rfl
  | 18, _ => rfl
  | 19, _ => rfl
  | 20, _ => rfl
  | 21, _ => rfl
  | 22, _ => rfl
  | 23, _ => rfl
  | 24, _ => rfl
  | 25, _ => rfl
  | 26, _ => rfl
  | 27, _ => rfl
  | 28, _ => rfl
  | 29, _ => rfl
  | 30, _ => rfl
  | 31, _ => rfl
  | 32, _ => rfl
  | 33, _ => rfl
  | 34, _ => rfl
  | 35, _ => rfl
  | 36, _ => rfl
  | 37, _ => rfl
  | 38, _ => rfl
  | 39, _ => rfl
  | 40, _ => rfl
  | 41, _ => rfl
  | 42, _ => rfl
  | 43, _ => rfl
  | 44, _ => rfl
  | 45, _ => rfl
  | 46, _ => rfl
  | 47, _ => rfl
  | 48, _ => rfl
  | 49, _ => rfl
  | 50, _ => rfl
  | 51, _ => rfl
  | 52, _ => rfl
  | 53, _ => rfl
  | 54, _ => rfl
  | 55, _ => rfl
  | 56, _ => rfl
  | 57, _ => rfl
  | 58, _ => rfl
  | 59, _ => rfl
  | 60, _ => rfl
  | 61, _ => rfl
  | 62, _ => rfl
  | n + 63, h => absurd h (by omega)
set_option maxRecDepth 100000 in
set_option maxHeartbeats 4000000 in
theorem gi_X11 (l : Launch) (D : va_G) (cA : Nat → ClassId) (h0 : Nat) {M1 : me_M} (hM1 : mX11_index_0 mi_M = some M1) (tys : List (ClassId × FieldType)) (sz : Nat) (htys : ∀ k, k < 1 → tys[k]? = (me_tys cA)[k]?) : Met l yX11_init (Cond.code yX11_init cX11_init 1 none :: lw_good) (g_rm 10 62 10725) (va_Pc [.ref h0] (g_B D tys sz [(h0, .inr (11, [.null, .null, .null, .null, .null, .null, .null, .null, .null, .null, .null, .null, .int 0, .int 0, .int 0, .int 0]))])) (me_Qc D cA (g_ad h0 sz) 63 (va_A [(h0, .inr (11, [.null, .null, .null, .null, .null, .null, .null, .null, .null, .null, .null, .null, .int 0, .int 0, .int 0, .int 0]))] sz) none M1) 62 10725 (va_A [(h0, .inr (11, [.null, .null, .null, .null, .null, .null, .null, .null, .null, .null, .null, .null, .int 0, .int 0, .int 0, .int 0]))] sz) := by
  obtain ⟨cI, hcI⟩ : ∃ x, x = cA 0 := ⟨_, rfl⟩
  have ht : tys[0]? = some (cI, .int) := by rw [htys 0 (by decide), hcI]; rfl
  refine g_enter (Qc := fun A => me_Qc D cA (g_ad h0 sz) 63 A none M1) RX11 rfl (by decide +kernel) rfl (Nat.le_of_ble_eq_true rfl) ht (fun p e R s m args below meth c A X hnm hr hlk hsz => ?_)
  show g_W _ _ _ _ _ _ _ _ _ _ _ _ _ _ _ _ _ _ [(0, .ref h0)] _ _
  refine g_aload_n X (i := 0) 0 rfl dX11_init_0 ?_
  refine g_oinit X (Nat.le_of_ble_eq_true rfl) tw_27 tw_28 tw_29 (Nat.le_of_ble_eq_true rfl) dX11_init_1 ?_
  refine g_aload_n X (i := 0) 0 rfl dX11_init_4 ?_
  refine g_new X [(h0, .inr (11, [.null, .null, .null, .null, .null, .null, .null, .null, .null, .null, .null, .null, .int 0, .int 0, .int 0, .int 0]))] (sz + 1) rfl kN_X11_7 (Nat.le_of_ble_eq_true rfl) (Nat.le_of_ble_eq_true rfl) dX11_init_5 ?_
  refine g_as ((h0, .inr (11, [.null, .null, .null, .null, .null, .null, .null, .null, .null, .null, .null, .null, .int 0, .int 0, .int 0, .int 0])) :: ((sz, .inr (9, [.null, .int 0])) :: [])) rfl ?_
  refine g_dup X rfl dX11_init_8 ?_
  refine g_call X [(h0, .inr (11, [.null, .null, .null, .null, .null, .null, .null, .null, .null, .null, .null, .null, .int 0, .int 0, .int 0, .int 0]))] (sz + 2) [] (gi_X9 l D cI sz) rfl kC_X11_9 rfl (Nat.le_of_ble_eq_true rfl) (Nat.le_of_ble_eq_true rfl) (Nat.le_of_ble_eq_true rfl) (Nat.le_of_ble_eq_true rfl) dX11_init_9 ?_
  refine g_as ((h0, .inr (11, [.null, .null, .null, .null, .null, .null, .null, .null, .null, .null, .null, .null, .int 0, .int 0, .int 0, .int 0])) :: (wX9 cI sz (sz + 1) ++ [])) rfl ?_
  refine g_put X hnm [.ref sz, .null, .null, .null, .null, .null, .null, .null, .null, .null, .null, .null, .int 0, .int 0, .int 0, .int 0] kP_X11_10 rfl rfl (Nat.le_of_ble_eq_true rfl) rfl dX11_init_12 ?_
  refine g_aload_n X (i := 0) 0 rfl dX11_init_15 ?_
  refine g_new X [(h0, .inr (11, [.ref sz, .null, .null, .null, .null, .null, .null, .null, .null, .null, .null, .null, .int 0, .int 0, .int 0, .int 0]))] (sz + 3) rfl kN_X11_16 (Nat.le_of_ble_eq_true rfl) (Nat.le_of_ble_eq_true rfl) dX11_init_16 ?_
  refine g_as ((h0, .inr (11, [.ref sz, .null, .null, .null, .null, .null, .null, .null, .null, .null, .null, .null, .int 0, .int 0, .int 0, .int 0])) :: ((sz + 2, .inr (10, [.null, .null, .null, .null, .null, .int 0, .int 0, .int 0])) :: (wX9 cI sz (sz + 1) ++ []))) rfl ?_
  refine g_dup X rfl dX11_init_19 ?_
  refine g_call X [(h0, .inr (11, [.ref sz, .null, .null, .null, .null, .null, .null, .null, .null, .null, .null, .null, .int 0, .int 0, .int 0, .int 0]))] (sz + 8) [] (gi_X10 l D cI (sz + 2)) rfl kC_X11_18 rfl (Nat.le_of_ble_eq_true rfl) (Nat.le_of_ble_eq_true rfl) (Nat.le_of_ble_eq_true rfl) (Nat.le_of_ble_eq_true rfl) dX11_init_20 ?_
  refine g_as ((h0, .inr (11, [.ref sz, .null, .null, .null, .null, .null, .null, .null, .null, .null, .null, .null, .int 0, .int 0, .int 0, .int 0])) :: (wX10 cI (sz + 2) (sz + 3) ++ (wX9 cI sz (sz + 1) ++ []))) rfl ?_
  refine g_put X hnm [.ref sz, .ref (sz + 2), .null, .null, .null, .null, .null, .null, .null, .null, .null, .null, .int 0, .int 0, .int 0, .int 0] kP_X11_19 rfl rfl (Nat.le_of_ble_eq_true rfl) rfl dX11_init_23 ?_
  refine g_aload_n X (i := 0) 0 rfl dX11_init_26 ?_
  refine g_new X [(h0, .inr (11, [.ref sz, .ref (sz + 2), .null, .null, .null, .null, .null, .null, .null, .null, .null, .null, .int 0, .int 0, .int 0, .int 0]))] (sz + 9) rfl kN_X11_23 (Nat.le_of_ble_eq_true rfl) (Nat.le_of_ble_eq_true rfl) dX11_init_27 ?_
  refine g_as ((h0, .inr (11, [.ref sz, .ref (sz + 2), .null, .null, .null, .null, .null, .null, .null, .null, .null, .null, .int 0, .int 0, .int 0, .int 0])) :: ((sz + 8, .inr (4, [.null, .null, .null, .null, .null, .int 0])) :: (wX10 cI (sz + 2) (sz + 3) ++ (wX9 cI sz (sz + 1) ++ [])))) rfl ?_
  refine g_dup X rfl dX11_init_30 ?_
  refine g_aload_n X (i := 0) 0 rfl dX11_init_31 ?_
  refine g_get X (fs := _) (v := .ref (sz + 2)) 0 kF_X11_19 rfl rfl dX11_init_32 ?_
  refine g_get X (fs := _) (v := .ref (sz + 3)) 2 kF_X11_25 rfl rfl dX11_init_35 ?_
  refine g_call X [(h0, .inr (11, [.ref sz, .ref (sz + 2), .null, .null, .null, .null, .null, .null, .null, .null, .null, .null, .int 0, .int 0, .int 0, .int 0]))] (sz + 13) [.ref (sz + 3)] (gi_X4 l D cI (sz + 8) (sz + 3)) rfl kC_X11_29 rfl (Nat.le_of_ble_eq_true rfl) (Nat.le_of_ble_eq_true rfl) (Nat.le_of_ble_eq_true rfl) (Nat.le_of_ble_eq_true rfl) dX11_init_38 ?_
  refine g_as ((h0, .inr (11, [.ref sz, .ref (sz + 2), .null, .null, .null, .null, .null, .null, .null, .null, .null, .null, .int 0, .int 0, .int 0, .int 0])) :: (wX4 cI (sz + 8) (sz + 9) (sz + 3) ++ (wX10 cI (sz + 2) (sz + 3) ++ (wX9 cI sz (sz + 1) ++ [])))) rfl ?_
  refine g_put X hnm [.ref sz, .ref (sz + 2), .ref (sz + 8), .null, .null, .null, .null, .null, .null, .null, .null, .null, .int 0, .int 0, .int 0, .int 0] kP_X11_32 rfl rfl (Nat.le_of_ble_eq_true rfl) rfl dX11_init_41 ?_
  refine g_aload_n X (i := 0) 0 rfl dX11_init_44 ?_
  refine g_new X [(h0, .inr (11, [.ref sz, .ref (sz + 2), .ref (sz + 8), .null, .null, .null, .null, .null, .null, .null, .null, .null, .int 0, .int 0, .int 0, .int 0]))] (sz + 14) rfl kN_X11_23 (Nat.le_of_ble_eq_true rfl) (Nat.le_of_ble_eq_true rfl) dX11_init_45 ?_
  refine g_as ((h0, .inr (11, [.ref sz, .ref (sz + 2), .ref (sz + 8), .null, .null, .null, .null, .null, .null, .null, .null, .null, .int 0, .int 0, .int 0, .int 0])) :: ((sz + 13, .inr (4, [.null, .null, .null, .null, .null, .int 0])) :: (wX4 cI (sz + 8) (sz + 9) (sz + 3) ++ (wX10 cI (sz + 2) (sz + 3) ++ (wX9 cI sz (sz + 1) ++ []))))) rfl ?_
  refine g_dup X rfl dX11_init_48 ?_
  refine g_aload_n X (i := 0) 0 rfl dX11_init_49 ?_
  refine g_get X (fs := _) (v := .ref (sz + 2)) 0 kF_X11_19 rfl rfl dX11_init_50 ?_
  refine g_get X (fs := _) (v := .ref (sz + 4)) 7 kF_X11_36 rfl rfl dX11_init_53 ?_
  refine g_call X [(h0, .inr (11, [.ref sz, .ref (sz + 2), .ref (sz + 8), .null, .null, .null, .null, .null, .null, .null, .null, .null, .int 0, .int 0, .int 0, .int 0]))] (sz + 18) [.ref (sz + 4)] (gi_X4 l D cI (sz + 13) (sz + 4)) rfl kC_X11_29 rfl (Nat.le_of_ble_eq_true rfl) (Nat.le_of_ble_eq_true rfl) (Nat.le_of_ble_eq_true rfl) (Nat.le_of_ble_eq_true rfl) dX11_init_56 ?_
  refine g_as ((h0, .inr (11, [.ref sz, .ref (sz + 2), .ref (sz + 8), .null, .null, .null, .null, .null, .null, .null, .null, .null, .int 0, .int 0, .int 0, .int 0])) :: (wX4 cI (sz + 13) (sz + 14) (sz + 4) ++ (wX4 cI (sz + 8) (sz + 9) (sz + 3) ++ (wX10 cI (sz + 2) (sz + 3) ++ (wX9 cI sz (sz + 1) ++ []))))) rfl ?_
  refine g_put X hnm [.ref sz, .ref (sz + 2), .ref (sz + 8), .ref (sz + 13), .null, .null, .null, .null, .null, .null, .null, .null, .int 0, .int 0, .int 0, .int 0] kP_X11_39 rfl rfl (Nat.le_of_ble_eq_true rfl) rfl dX11_init_59 ?_
  refine g_aload_n X (i := 0) 0 rfl dX11_init_62 ?_
  refine g_new X [(h0, .inr (11, [.ref sz, .ref (sz + 2), .ref (sz + 8), .ref (sz + 13), .null, .null, .null, .null, .null, .null, .null, .null, .int 0, .int 0, .int 0, .int 0]))] (sz + 19) rfl kN_X11_42 (Nat.le_of_ble_eq_true rfl) (Nat.le_of_ble_eq_true rfl) dX11_init_63 ?_
  refine g_as ((h0, .inr (11, [.ref sz, .ref (sz + 2), .ref (sz + 8), .ref (sz + 13), .null, .null, .null, .null, .null, .null, .null, .null, .int 0, .int 0, .int 0, .int 0])) :: ((sz + 18, .inr (0, [.null, .null, .null, .int 0, .int 0])) :: (wX4 cI (sz + 13) (sz + 14) (sz + 4) ++ (wX4 cI (sz + 8) (sz + 9) (sz + 3) ++ (wX10 cI (sz + 2) (sz + 3) ++ (wX9 cI sz (sz + 1) ++ [])))))) rfl ?_
  refine g_dup X rfl dX11_init_66 ?_
  refine g_aload_n X (i := 0) 0 rfl dX11_init_67 ?_
  refine g_get X (fs := _) (v := .ref (sz + 8)) 0 kF_X11_32 rfl rfl dX11_init_68 ?_
  refine g_aload_n X (i := 0) 0 rfl dX11_init_71 ?_
  refine g_get X (fs := _) (v := .ref (sz + 13)) 0 kF_X11_39 rfl rfl dX11_init_72 ?_
  refine g_call X [(h0, .inr (11, [.ref sz, .ref (sz + 2), .ref (sz + 8), .ref (sz + 13), .null, .null, .null, .null, .null, .null, .null, .null, .int 0, .int 0, .int 0, .int 0]))] (sz + 25) [.ref (sz + 8), .ref (sz + 13)] (gi_X0 l D cI (sz + 18) (sz + 8) (sz + 13)) rfl kC_X11_44 rfl (Nat.le_of_ble_eq_true rfl) (Nat.le_of_ble_eq_true rfl) (Nat.le_of_ble_eq_true rfl) (Nat.le_of_ble_eq_true rfl) dX11_init_75 ?_
  refine g_as ((h0, .inr (11, [.ref sz, .ref (sz + 2), .ref (sz + 8), .ref (sz + 13), .null, .null, .null, .null, .null, .null, .null, .null, .int 0, .int 0, .int 0, .int 0])) :: (wX0 cI (sz + 18) (sz + 19) (sz + 8) (sz + 13) ++ (wX4 cI (sz + 13) (sz + 14) (sz + 4) ++ (wX4 cI (sz + 8) (sz + 9) (sz + 3) ++ (wX10 cI (sz + 2) (sz + 3) ++ (wX9 cI sz (sz + 1) ++ [])))))) rfl ?_
  refine g_put X hnm [.ref sz, .ref (sz + 2), .ref (sz + 8), .ref (sz + 13), .ref (sz + 18), .null, .null, .null, .null, .null, .null, .null, .int 0, .int 0, .int 0, .int 0] kP_X11_47 rfl rfl (Nat.le_of_ble_eq_true rfl) rfl dX11_init_78 ?_
  refine g_aload_n X (i := 0) 0 rfl dX11_init_81 ?_
  refine g_new X [(h0, .inr (11, [.ref sz, .ref (sz + 2), .ref (sz + 8), .ref (sz + 13), .ref (sz + 18), .null, .null, .null, .null, .null, .null, .null, .int 0, .int 0, .int 0, .int 0]))] (sz + 26) rfl kN_X11_51 (Nat.le_of_ble_eq_true rfl) (Nat.le_of_ble_eq_true rfl) dX11_init_82 ?_
  refine g_as ((h0, .inr (11, [.ref sz, .ref (sz + 2), .ref (sz + 8), .ref (sz + 13), .ref (sz + 18), .null, .null, .null, .null, .null, .null, .null, .int 0, .int 0, .int 0, .int 0])) :: ((sz + 25, .inr (2, [.null, .null, .null, .null, .null, .int 0])) :: (wX0 cI (sz + 18) (sz + 19) (sz + 8) (sz + 13) ++ (wX4 cI (sz + 13) (sz + 14) (sz + 4) ++ (wX4 cI (sz + 8) (sz + 9) (sz + 3) ++ (wX10 cI (sz + 2) (sz + 3) ++ (wX9 cI sz (sz + 1) ++ []))))))) rfl ?_
  refine g_dup X rfl dX11_init_85 ?_
  refine g_aload_n X (i := 0) 0 rfl dX11_init_86 ?_
  refine g_get X (fs := _) (v := .ref (sz + 2)) 0 kF_X11_19 rfl rfl dX11_init_87 ?_
  refine g_aload_n X (i := 0) 0 rfl dX11_init_90 ?_
  refine g_get X (fs := _) (v := .ref (sz + 8)) 0 kF_X11_32 rfl rfl dX11_init_91 ?_
  refine g_call X [(h0, .inr (11, [.ref sz, .ref (sz + 2), .ref (sz + 8), .ref (sz + 13), .ref (sz + 18), .null, .null, .null, .null, .null, .null, .null, .int 0, .int 0, .int 0, .int 0]))] (sz + 29) [.ref (sz + 2), .ref (sz + 8)] (gi_X2 l D cI (sz + 25) (sz + 2) (sz + 8)) rfl kC_X11_53 rfl (Nat.le_of_ble_eq_true rfl) (Nat.le_of_ble_eq_true rfl) (Nat.le_of_ble_eq_true rfl) (Nat.le_of_ble_eq_true rfl) dX11_init_94 ?_
  refine g_as ((h0, .inr (11, [.ref sz, .ref (sz + 2), .ref (sz + 8), .ref (sz + 13), .ref (sz + 18), .null, .null, .null, .null, .null, .null, .null, .int 0, .int 0, .int 0, .int 0])) :: (wX2 cI (sz + 25) (sz + 26) (sz + 2) (sz + 8) ++ (wX0 cI (sz + 18) (sz + 19) (sz + 8) (sz + 13) ++ (wX4 cI (sz + 13) (sz + 14) (sz + 4) ++ (wX4 cI (sz + 8) (sz + 9) (sz + 3) ++ (wX10 cI (sz + 2) (sz + 3) ++ (wX9 cI sz (sz + 1) ++ []))))))) rfl ?_
  refine g_put X hnm [.ref sz, .ref (sz + 2), .ref (sz + 8), .ref (sz + 13), .ref (sz + 18), .ref (sz + 25), .null, .null, .null, .null, .null, .null, .int 0, .int 0, .int 0, .int 0] kP_X11_56 rfl rfl (Nat.le_of_ble_eq_true rfl) rfl dX11_init_97 ?_
  refine g_aload_n X (i := 0) 0 rfl dX11_init_100 ?_
  refine g_new X [(h0, .inr (11, [.ref sz, .ref (sz + 2), .ref (sz + 8), .ref (sz + 13), .ref (sz + 18), .ref (sz + 25), .null, .null, .null, .null, .null, .null, .int 0, .int 0, .int 0, .int 0]))] (sz + 30) rfl kN_X11_60 (Nat.le_of_ble_eq_true rfl) (Nat.le_of_ble_eq_true rfl) dX11_init_101 ?_
  refine g_as ((h0, .inr (11, [.ref sz, .ref (sz + 2), .ref (sz + 8), .ref (sz + 13), .ref (sz + 18), .ref (sz + 25), .null, .null, .null, .null, .null, .null, .int 0, .int 0, .int 0, .int 0])) :: ((sz + 29, .inr (8, [.null, .null, .null, .null, .null, .null, .int 0, .int 0, .int 0])) :: (wX2 cI (sz + 25) (sz + 26) (sz + 2) (sz + 8) ++ (wX0 cI (sz + 18) (sz + 19) (sz + 8) (sz + 13) ++ (wX4 cI (sz + 13) (sz + 14) (sz + 4) ++ (wX4 cI (sz + 8) (sz + 9) (sz + 3) ++ (wX10 cI (sz + 2) (sz + 3) ++ (wX9 cI sz (sz + 1) ++ [])))))))) rfl ?_
  refine g_dup X rfl dX11_init_104 ?_
  refine g_aload_n X (i := 0) 0 rfl dX11_init_105 ?_
  refine g_get X (fs := _) (v := .ref (sz + 2)) 0 kF_X11_19 rfl rfl dX11_init_106 ?_
  refine g_call X [(h0, .inr (11, [.ref sz, .ref (sz + 2), .ref (sz + 8), .ref (sz + 13), .ref (sz + 18), .ref (sz + 25), .null, .null, .null, .null, .null, .null, .int 0, .int 0, .int 0, .int 0]))] (sz + 35) [.ref (sz + 2)] (gi_X8 l D cI (sz + 29) (sz + 2)) rfl kC_X11_62 rfl (Nat.le_of_ble_eq_true rfl) (Nat.le_of_ble_eq_true rfl) (Nat.le_of_ble_eq_true rfl) (Nat.le_of_ble_eq_true rfl) dX11_init_109 ?_
  refine g_as ((h0, .inr (11, [.ref sz, .ref (sz + 2), .ref (sz + 8), .ref (sz + 13), .ref (sz + 18), .ref (sz + 25), .null, .null, .null, .null, .null, .null, .int 0, .int 0, .int 0, .int 0])) :: (wX8 cI (sz + 29) (sz + 30) (sz + 2) ++ (wX2 cI (sz + 25) (sz + 26) (sz + 2) (sz + 8) ++ (wX0 cI (sz + 18) (sz + 19) (sz + 8) (sz + 13) ++ (wX4 cI (sz + 13) (sz + 14) (sz + 4) ++ (wX4 cI (sz + 8) (sz + 9) (sz + 3) ++ (wX10 cI (sz + 2) (sz + 3) ++ (wX9 cI sz (sz + 1) ++ [])))))))) rfl ?_
  refine g_put X hnm [.ref sz, .ref (sz + 2), .ref (sz + 8), .ref (sz + 13), .ref (sz + 18), .ref (sz + 25), .ref (sz + 29), .null, .null, .null, .null, .null, .int 0, .int 0, .int 0, .int 0] kP_X11_65 rfl rfl (Nat.le_of_ble_eq_true rfl) rfl dX11_init_112 ?_
  refine g_aload_n X (i := 0) 0 rfl dX11_init_115 ?_
  refine g_new X [(h0, .inr (11, [.ref sz, .ref (sz + 2), .ref (sz + 8), .ref (sz + 13), .ref (sz + 18), .ref (sz + 25), .ref (sz + 29), .null, .null, .null, .null, .null, .int 0, .int 0, .int 0, .int 0]))] (sz + 36) rfl kN_X11_69 (Nat.le_of_ble_eq_true rfl) (Nat.le_of_ble_eq_true rfl) dX11_init_116 ?_
  refine g_as ((h0, .inr (11, [.ref sz, .ref (sz + 2), .ref (sz + 8), .ref (sz + 13), .ref (sz + 18), .ref (sz + 25), .ref (sz + 29), .null, .null, .null, .null, .null, .int 0, .int 0, .int 0, .int 0])) :: ((sz + 35, .inr (1, [.null, .null, .null, .null, .null, .null, .null, .null, .null, .int 0, .int 0, .int 0])) :: (wX8 cI (sz + 29) (sz + 30) (sz + 2) ++ (wX2 cI (sz + 25) (sz + 26) (sz + 2) (sz + 8) ++ (wX0 cI (sz + 18) (sz + 19) (sz + 8) (sz + 13) ++ (wX4 cI (sz + 13) (sz + 14) (sz + 4) ++ (wX4 cI (sz + 8) (sz + 9) (sz + 3) ++ (wX10 cI (sz + 2) (sz + 3) ++ (wX9 cI sz (sz + 1) ++ []))))))))) rfl ?_
  refine g_dup X rfl dX11_init_119 ?_
  refine g_aload_n X (i := 0) 0 rfl dX11_init_120 ?_
  refine g_get X (fs := _) (v := .ref (sz + 2)) 0 kF_X11_19 rfl rfl dX11_init_121 ?_
  refine g_aload_n X (i := 0) 0 rfl dX11_init_124 ?_
  refine g_get X (fs := _) (v := .ref (sz + 8)) 0 kF_X11_32 rfl rfl dX11_init_125 ?_
  refine g_aload_n X (i := 0) 0 rfl dX11_init_128 ?_
  refine g_get X (fs := _) (v := .ref (sz + 13)) 0 kF_X11_39 rfl rfl dX11_init_129 ?_
  refine g_call X [(h0, .inr (11, [.ref sz, .ref (sz + 2), .ref (sz + 8), .ref (sz + 13), .ref (sz + 18), .ref (sz + 25), .ref (sz + 29), .null, .null, .null, .null, .null, .int 0, .int 0, .int 0, .int 0]))] (sz + 46) [.ref (sz + 2), .ref (sz + 8), .ref (sz + 13)] (gi_X1 l D cI (sz + 35) (sz + 2) (sz + 8) (sz + 13)) rfl kC_X11_71 rfl (Nat.le_of_ble_eq_true rfl) (Nat.le_of_ble_eq_true rfl) (Nat.le_of_ble_eq_true rfl) (Nat.le_of_ble_eq_true rfl) dX11_init_132 ?_
  refine g_as ((h0, .inr (11, [.ref sz, .ref (sz + 2), .ref (sz + 8), .ref (sz + 13), .ref (sz + 18), .ref (sz + 25), .ref (sz + 29), .null, .null, .null, .null, .null, .int 0, .int 0, .int 0, .int 0])) :: (wX1 cI (sz + 35) (sz + 36) (sz + 2) (sz + 8) (sz + 13) ++ (wX8 cI (sz + 29) (sz + 30) (sz + 2) ++ (wX2 cI (sz + 25) (sz + 26) (sz + 2) (sz + 8) ++ (wX0 cI (sz + 18) (sz + 19) (sz + 8) (sz + 13) ++ (wX4 cI (sz + 13) (sz + 14) (sz + 4) ++ (wX4 cI (sz + 8) (sz + 9) (sz + 3) ++ (wX10 cI (sz + 2) (sz + 3) ++ (wX9 cI sz (sz + 1) ++ []))))))))) rfl ?_
  refine g_put X hnm [.ref sz, .ref (sz + 2), .ref (sz + 8), .ref (sz + 13), .ref (sz + 18), .ref (sz + 25), .ref (sz + 29), .ref (sz + 35), .null, .null, .null, .null, .int 0, .int 0, .int 0, .int 0] kP_X11_74 rfl rfl (Nat.le_of_ble_eq_true rfl) rfl dX11_init_135 ?_
  refine g_aload_n X (i := 0) 0 rfl dX11_init_138 ?_
  refine g_new X [(h0, .inr (11, [.ref sz, .ref (sz + 2), .ref (sz + 8), .ref (sz + 13), .ref (sz + 18), .ref (sz + 25), .ref (sz + 29), .ref (sz + 35), .null, .null, .null, .null, .int 0, .int 0, .int 0, .int 0]))] (sz + 47) rfl kN_X11_78 (Nat.le_of_ble_eq_true rfl) (Nat.le_of_ble_eq_true rfl) dX11_init_139 ?_
  refine g_as ((h0, .inr (11, [.ref sz, .ref (sz + 2), .ref (sz + 8), .ref (sz + 13), .ref (sz + 18), .ref (sz + 25), .ref (sz + 29), .ref (sz + 35), .null, .null, .null, .null, .int 0, .int 0, .int 0, .int 0])) :: ((sz + 46, .inr (3, [.null, .null, .null, .null, .int 0, .int 0, .int 0, .int 0, .int 0])) :: (wX1 cI (sz + 35) (sz + 36) (sz + 2) (sz + 8) (sz + 13) ++ (wX8 cI (sz + 29) (sz + 30) (sz + 2) ++ (wX2 cI (sz + 25) (sz + 26) (sz + 2) (sz + 8) ++ (wX0 cI (sz + 18) (sz + 19) (sz + 8) (sz + 13) ++ (wX4 cI (sz + 13) (sz + 14) (sz + 4) ++ (wX4 cI (sz + 8) (sz + 9) (sz + 3) ++ (wX10 cI (sz + 2) (sz + 3) ++ (wX9 cI sz (sz + 1) ++ [])))))))))) rfl ?_
  refine g_dup X rfl dX11_init_142 ?_
  refine g_call X [(h0, .inr (11, [.ref sz, .ref (sz + 2), .ref (sz + 8), .ref (sz + 13), .ref (sz + 18), .ref (sz + 25), .ref (sz + 29), .ref (sz + 35), .null, .null, .null, .null, .int 0, .int 0, .int 0, .int 0]))] (sz + 51) [] (gi_X3 l D cI (sz + 46)) rfl kC_X11_80 rfl (Nat.le_of_ble_eq_true rfl) (Nat.le_of_ble_eq_true rfl) (Nat.le_of_ble_eq_true rfl) (Nat.le_of_ble_eq_true rfl) dX11_init_143 ?_
  refine g_as ((h0, .inr (11, [.ref sz, .ref (sz + 2), .ref (sz + 8), .ref (sz + 13), .ref (sz + 18), .ref (sz + 25), .ref (sz + 29), .ref (sz + 35), .null, .null, .null, .null, .int 0, .int 0, .int 0, .int 0])) :: (wX3 cI (sz + 46) (sz + 47) ++ (wX1 cI (sz + 35) (sz + 36) (sz + 2) (sz + 8) (sz + 13) ++ (wX8 cI (sz + 29) (sz + 30) (sz + 2) ++ (wX2 cI (sz + 25) (sz + 26) (sz + 2) (sz + 8) ++ (wX0 cI (sz + 18) (sz + 19) (sz + 8) (sz + 13) ++ (wX4 cI (sz + 13) (sz + 14) (sz + 4) ++ (wX4 cI (sz + 8) (sz + 9) (sz + 3) ++ (wX10 cI (sz + 2) (sz + 3) ++ (wX9 cI sz (sz + 1) ++ [])))))))))) rfl ?_
  refine g_put X hnm [.ref sz, .ref (sz + 2), .ref (sz + 8), .ref (sz + 13), .ref (sz + 18), .ref (sz + 25), .ref (sz + 29), .ref (sz + 35), .ref (sz + 46), .null, .null, .null, .int 0, .int 0, .int 0, .int 0] kP_X11_81 rfl rfl (Nat.le_of_ble_eq_true rfl) rfl dX11_init_146 ?_
  refine g_aload_n X (i := 0) 0 rfl dX11_init_149 ?_
  refine g_new X [(h0, .inr (11, [.ref sz, .ref (sz + 2), .ref (sz + 8), .ref (sz + 13), .ref (sz + 18), .ref (sz + 25), .ref (sz + 29), .ref (sz + 35), .ref (sz + 46), .null, .null, .null, .int 0, .int 0, .int 0, .int 0]))] (sz + 52) rfl kN_X11_85 (Nat.le_of_ble_eq_true rfl) (Nat.le_of_ble_eq_true rfl) dX11_init_150 ?_
  refine g_as ((h0, .inr (11, [.ref sz, .ref (sz + 2), .ref (sz + 8), .ref (sz + 13), .ref (sz + 18), .ref (sz + 25), .ref (sz + 29), .ref (sz + 35), .ref (sz + 46), .null, .null, .null, .int 0, .int 0, .int 0, .int 0])) :: ((sz + 51, .inr (6, [.null, .int 0, .int 0, .int 0, .int 0])) :: (wX3 cI (sz + 46) (sz + 47) ++ (wX1 cI (sz + 35) (sz + 36) (sz + 2) (sz + 8) (sz + 13) ++ (wX8 cI (sz + 29) (sz + 30) (sz + 2) ++ (wX2 cI (sz + 25) (sz + 26) (sz + 2) (sz + 8) ++ (wX0 cI (sz + 18) (sz + 19) (sz + 8) (sz + 13) ++ (wX4 cI (sz + 13) (sz + 14) (sz + 4) ++ (wX4 cI (sz + 8) (sz + 9) (sz + 3) ++ (wX10 cI (sz + 2) (sz + 3) ++ (wX9 cI sz (sz + 1) ++ []))))))))))) rfl ?_
  refine g_dup X rfl dX11_init_153 ?_
  refine g_aload_n X (i := 0) 0 rfl dX11_init_154 ?_
  refine g_get X (fs := _) (v := .ref sz) 0 kF_X11_10 rfl rfl dX11_init_155 ?_
  refine g_call X [(h0, .inr (11, [.ref sz, .ref (sz + 2), .ref (sz + 8), .ref (sz + 13), .ref (sz + 18), .ref (sz + 25), .ref (sz + 29), .ref (sz + 35), .ref (sz + 46), .null, .null, .null, .int 0, .int 0, .int 0, .int 0]))] (sz + 52) [.ref sz] (gi_X6 l D cI (sz + 51) sz) rfl kC_X11_87 rfl (Nat.le_of_ble_eq_true rfl) (Nat.le_of_ble_eq_true rfl) (Nat.le_of_ble_eq_true rfl) (Nat.le_of_ble_eq_true rfl) dX11_init_158 ?_
  refine g_as ((h0, .inr (11, [.ref sz, .ref (sz + 2), .ref (sz + 8), .ref (sz + 13), .ref (sz + 18), .ref (sz + 25), .ref (sz + 29), .ref (sz + 35), .ref (sz + 46), .null, .null, .null, .int 0, .int 0, .int 0, .int 0])) :: (wX6 cI (sz + 51) (sz + 52) sz ++ (wX3 cI (sz + 46) (sz + 47) ++ (wX1 cI (sz + 35) (sz + 36) (sz + 2) (sz + 8) (sz + 13) ++ (wX8 cI (sz + 29) (sz + 30) (sz + 2) ++ (wX2 cI (sz + 25) (sz + 26) (sz + 2) (sz + 8) ++ (wX0 cI (sz + 18) (sz + 19) (sz + 8) (sz + 13) ++ (wX4 cI (sz + 13) (sz + 14) (sz + 4) ++ (wX4 cI (sz + 8) (sz + 9) (sz + 3) ++ (wX10 cI (sz + 2) (sz + 3) ++ (wX9 cI sz (sz + 1) ++ []))))))))))) rfl ?_
  refine g_put X hnm [.ref sz, .ref (sz + 2), .ref (sz + 8), .ref (sz + 13), .ref (sz + 18), .ref (sz + 25), .ref (sz + 29), .ref (sz + 35), .ref (sz + 46), .ref (sz + 51), .null, .null, .int 0, .int 0, .int 0, .int 0] kP_X11_90 rfl rfl (Nat.le_of_ble_eq_true rfl) rfl dX11_init_161 ?_
  refine g_aload_n X (i := 0) 0 rfl dX11_init_164 ?_
  refine g_new X [(h0, .inr (11, [.ref sz, .ref (sz + 2), .ref (sz + 8), .ref (sz + 13), .ref (sz + 18), .ref (sz + 25), .ref (sz + 29), .ref (sz + 35), .ref (sz + 46), .ref (sz + 51), .null, .null, .int 0, .int 0, .int 0, .int 0]))] (sz + 53) rfl kN_X11_94 (Nat.le_of_ble_eq_true rfl) (Nat.le_of_ble_eq_true rfl) dX11_init_165 ?_
  refine g_as ((h0, .inr (11, [.ref sz, .ref (sz + 2), .ref (sz + 8), .ref (sz + 13), .ref (sz + 18), .ref (sz + 25), .ref (sz + 29), .ref (sz + 35), .ref (sz + 46), .ref (sz + 51), .null, .null, .int 0, .int 0, .int 0, .int 0])) :: ((sz + 52, .inr (5, [.null, .null, .null, .null, .int 0, .int 0, .int 0, .int 0, .int 0, .int 0, .int 0])) :: (wX6 cI (sz + 51) (sz + 52) sz ++ (wX3 cI (sz + 46) (sz + 47) ++ (wX1 cI (sz + 35) (sz + 36) (sz + 2) (sz + 8) (sz + 13) ++ (wX8 cI (sz + 29) (sz + 30) (sz + 2) ++ (wX2 cI (sz + 25) (sz + 26) (sz + 2) (sz + 8) ++ (wX0 cI (sz + 18) (sz + 19) (sz + 8) (sz + 13) ++ (wX4 cI (sz + 13) (sz + 14) (sz + 4) ++ (wX4 cI (sz + 8) (sz + 9) (sz + 3) ++ (wX10 cI (sz + 2) (sz + 3) ++ (wX9 cI sz (sz + 1) ++ [])))))))))))) rfl ?_
  refine g_dup X rfl dX11_init_168 ?_
  refine g_call X [(h0, .inr (11, [.ref sz, .ref (sz + 2), .ref (sz + 8), .ref (sz + 13), .ref (sz + 18), .ref (sz + 25), .ref (sz + 29), .ref (sz + 35), .ref (sz + 46), .ref (sz + 51), .null, .null, .int 0, .int 0, .int 0, .int 0]))] (sz + 57) [] (gi_X5 l D cI (sz + 52)) rfl kC_X11_96 rfl (Nat.le_of_ble_eq_true rfl) (Nat.le_of_ble_eq_true rfl) (Nat.le_of_ble_eq_true rfl) (Nat.le_of_ble_eq_true rfl) dX11_init_169 ?_
  refine g_as ((h0, .inr (11, [.ref sz, .ref (sz + 2), .ref (sz + 8), .ref (sz + 13), .ref (sz + 18), .ref (sz + 25), .ref (sz + 29), .ref (sz + 35), .ref (sz + 46), .ref (sz + 51), .null, .null, .int 0, .int 0, .int 0, .int 0])) :: (wX5 cI (sz + 52) (sz + 53) ++ (wX6 cI (sz + 51) (sz + 52) sz ++ (wX3 cI (sz + 46) (sz + 47) ++ (wX1 cI (sz + 35) (sz + 36) (sz + 2) (sz + 8) (sz + 13) ++ (wX8 cI (sz + 29) (sz + 30) (sz + 2) ++ (wX2 cI (sz + 25) (sz + 26) (sz + 2) (sz + 8) ++ (wX0 cI (sz + 18) (sz + 19) (sz + 8) (sz + 13) ++ (wX4 cI (sz + 13) (sz + 14) (sz + 4) ++ (wX4 cI (sz + 8) (sz + 9) (sz + 3) ++ (wX10 cI (sz + 2) (sz + 3) ++ (wX9 cI sz (sz + 1) ++ [])))))))))))) rfl ?_
  refine g_put X hnm [.ref sz, .ref (sz + 2), .ref (sz + 8), .ref (sz + 13), .ref (sz + 18), .ref (sz + 25), .ref (sz + 29), .ref (sz + 35), .ref (sz + 46), .ref (sz + 51), .ref (sz + 52), .null, .int 0, .int 0, .int 0, .int 0] kP_X11_97 rfl rfl (Nat.le_of_ble_eq_true rfl) rfl dX11_init_172 ?_
  refine g_aload_n X (i := 0) 0 rfl dX11_init_175 ?_
  refine g_new X [(h0, .inr (11, [.ref sz, .ref (sz + 2), .ref (sz + 8), .ref (sz + 13), .ref (sz + 18), .ref (sz + 25), .ref (sz + 29), .ref (sz + 35), .ref (sz + 46), .ref (sz + 51), .ref (sz + 52), .null, .int 0, .int 0, .int 0, .int 0]))] (sz + 58) rfl kN_X11_94 (Nat.le_of_ble_eq_true rfl) (Nat.le_of_ble_eq_true rfl) dX11_init_176 ?_
  refine g_as ((h0, .inr (11, [.ref sz, .ref (sz + 2), .ref (sz + 8), .ref (sz + 13), .ref (sz + 18), .ref (sz + 25), .ref (sz + 29), .ref (sz + 35), .ref (sz + 46), .ref (sz + 51), .ref (sz + 52), .null, .int 0, .int 0, .int 0, .int 0])) :: ((sz + 57, .inr (5, [.null, .null, .null, .null, .int 0, .int 0, .int 0, .int 0, .int 0, .int 0, .int 0])) :: (wX5 cI (sz + 52) (sz + 53) ++ (wX6 cI (sz + 51) (sz + 52) sz ++ (wX3 cI (sz + 46) (sz + 47) ++ (wX1 cI (sz + 35) (sz + 36) (sz + 2) (sz + 8) (sz + 13) ++ (wX8 cI (sz + 29) (sz + 30) (sz + 2) ++ (wX2 cI (sz + 25) (sz + 26) (sz + 2) (sz + 8) ++ (wX0 cI (sz + 18) (sz + 19) (sz + 8) (sz + 13) ++ (wX4 cI (sz + 13) (sz + 14) (sz + 4) ++ (wX4 cI (sz + 8) (sz + 9) (sz + 3) ++ (wX10 cI (sz + 2) (sz + 3) ++ (wX9 cI sz (sz + 1) ++ []))))))))))))) rfl ?_
  refine g_dup X rfl dX11_init_179 ?_
  refine g_call X [(h0, .inr (11, [.ref sz, .ref (sz + 2), .ref (sz + 8), .ref (sz + 13), .ref (sz + 18), .ref (sz + 25), .ref (sz + 29), .ref (sz + 35), .ref (sz + 46), .ref (sz + 51), .ref (sz + 52), .null, .int 0, .int 0, .int 0, .int 0]))] (sz + 62) [] (gi_X5 l D cI (sz + 57)) rfl kC_X11_96 rfl (Nat.le_of_ble_eq_true rfl) (Nat.le_of_ble_eq_true rfl) (Nat.le_of_ble_eq_true rfl) (Nat.le_of_ble_eq_true rfl) dX11_init_180 ?_
  refine g_as ((h0, .inr (11, [.ref sz, .ref (sz + 2), .ref (sz + 8), .ref (sz + 13), .ref (sz + 18), .ref (sz + 25), .ref (sz + 29), .ref (sz + 35), .ref (sz + 46), .ref (sz + 51), .ref (sz + 52), .null, .int 0, .int 0, .int 0, .int 0])) :: (wX5 cI (sz + 57) (sz + 58) ++ (wX5 cI (sz + 52) (sz + 53) ++ (wX6 cI (sz + 51) (sz + 52) sz ++ (wX3 cI (sz + 46) (sz + 47) ++ (wX1 cI (sz + 35) (sz + 36) (sz + 2) (sz + 8) (sz + 13) ++ (wX8 cI (sz + 29) (sz + 30) (sz + 2) ++ (wX2 cI (sz + 25) (sz + 26) (sz + 2) (sz + 8) ++ (wX0 cI (sz + 18) (sz + 19) (sz + 8) (sz + 13) ++ (wX4 cI (sz + 13) (sz + 14) (sz + 4) ++ (wX4 cI (sz + 8) (sz + 9) (sz + 3) ++ (wX10 cI (sz + 2) (sz + 3) ++ (wX9 cI sz (sz + 1) ++ []))))))))))))) rfl ?_
  refine g_put X hnm [.ref sz, .ref (sz + 2), .ref (sz + 8), .ref (sz + 13), .ref (sz + 18), .ref (sz + 25), .ref (sz + 29), .ref (sz + 35), .ref (sz + 46), .ref (sz + 51), .ref (sz + 52), .ref (sz + 57), .int 0, .int 0, .int 0, .int 0] kP_X11_101 rfl rfl (Nat.le_of_ble_eq_true rfl) rfl dX11_init_183 ?_
  refine g_aload_n X (i := 0) 0 rfl dX11_init_186 ?_
  refine g_iconst X (v := 4) dX11_init_187 (by decide) ?_
  refine g_put X hnm [.ref sz, .ref (sz + 2), .ref (sz + 8), .ref (sz + 13), .ref (sz + 18), .ref (sz + 25), .ref (sz + 29), .ref (sz + 35), .ref (sz + 46), .ref (sz + 51), .ref (sz + 52), .ref (sz + 57), .int 4, .int 0, .int 0, .int 0] kP_X11_104 rfl rfl (Nat.le_of_ble_eq_true rfl) rfl dX11_init_188 ?_
  refine g_aload_n X (i := 0) 0 rfl dX11_init_191 ?_
  refine g_as (wX11 cI h0 sz) rfl ?_
  subst hcI
  refine g_widen 62 10725 (Nat.le_of_ble_eq_true rfl) (Nat.le_of_ble_eq_true rfl) ?_
  refine g_bridge g_pos (g_at cA h0 sz) g_pos_inj (fun hD9 => ?_)
  have X9 : me_X p R s m args c D cA (g_ad h0 sz) 63 1 63 1 62 10725 10 A cX11_init RX11 tys := g_toX X (Nat.le_of_ble_eq_true rfl) (Nat.le_of_ble_eq_true rfl) htys hD9 (Nat.le_refl _) (Nat.le_refl _)
  refine me_callVv X9 [] (ctX11_index_0 (n := 63) (nt := 1) (by decide) (by decide) hM1) kV_X11_108 rfl rfl (Nat.le_of_ble_eq_true rfl) me_k0 (Nat.le_of_ble_eq_true rfl) (Nat.le_refl _) (Nat.le_of_ble_eq_true rfl) dX11_init_192 ?_
  exact g_vretM X9 (Nat.le_of_ble_eq_true rfl) (Nat.le_of_ble_eq_true rfl) hr hlk dX11_init_195
