def mX11_result_0 (M : me_M) (p0 : Int32) : Option Int32 :=
  ((mX11_isWhat p0 4).bind fun v1 => ((mX11_needArgument_0 v1).bind fun _ => (if (M.1 47 4) = 0 then some (-1) else (if p0 = 0 then some (M.1 47 7) else (if p0 = 1 then some (M.1 47 8) else (if p0 = 2 then ((mX3_faultless_47 M).bind fun v3 => some v3) else (if p0 = 3 then ((mX3_mostMismatches_47 M).bind fun v4 => some v4) else some (M.1 47 5))))))))
set_option maxRecDepth 100000 in
set_option maxHeartbeats 4000000 in
theorem ctX11_result_0 {l : Launch} {n nt : Nat} (hn : 63 ≤ n) (hnt : 1 ≤ nt) {M : me_M} {p0 : Int32} {r : Int32} (h : mX11_result_0 M p0 = some r) : me_Ct l yX11_result cX11_result 2 (some .int) 2 n nt (fun ad => [.ref (ad 0), .int p0]) M (fun _ => some (.int r)) M := by
  unfold mX11_result_0 at h
  refine me_enter (N0 := 63) RX11 rfl (plainFor_of_name pl_RX11) hn (Nat.le_trans (by decide) hnt) (fun _ => Nat.le_of_ble_eq_true rfl) ?_
  intro p e R s m args below meth c D cA ad tys A X hr hlk
  refine me_sub (L' := [(0, .ref (ad 0)), (1, .int p0)]) [0, 1] rfl ?_
  refine me_aload_n X (i := 0) 0 rfl dX11_result_0 ?_
  refine me_iload_n X (i := 1) 1 rfl dX11_result_1 ?_
  refine me_iconst X dX11_result_2 ic_4 ?_
  obtain ⟨v1, e1, h⟩ := me_bd h
  refine me_callSi X [.int p0, .int 4] (ctX11_isWhat hn (Nat.le_trans (by decide) hnt) e1) kS_X11_157 rfl rfl (Nat.le_of_ble_eq_true rfl) (Nat.le_refl _) (Nat.le_of_ble_eq_true rfl) dX11_result_3 ?_
  obtain ⟨_, e2, h⟩ := me_bd h
  refine me_callVv X [.int v1] (ctX11_needArgument_0 hn (Nat.le_trans (by decide) hnt) e2) kV_X11_122 rfl rfl (Nat.le_of_ble_eq_true rfl) me_k0 (Nat.le_of_ble_eq_true rfl) (Nat.le_refl _) (Nat.le_of_ble_eq_true rfl) dX11_result_6 ?_
  refine me_aload_n X (i := 0) 0 rfl dX11_result_9 ?_
  refine me_getr X 47 kF_X11_81 (Nat.le_of_ble_eq_true rfl) me_k0 me_f0_8 dX11_result_10 ?_
  refine me_geti X kF_X11_134 (Nat.le_of_ble_eq_true rfl) me_k47 me_f47_4 dX11_result_13 ?_
  refine me_if_ne X 21 (by decide) dX11_result_16 (fun c1 => ?_) (fun c1 => ?_)
  · have h := me_in c1 h
    refine me_iload_n X (i := 1) 1 rfl dX11_result_21 ?_
    by_cases c2 : p0 = 0
    · have h := me_ip c2 h
      refine me_tin X (off := 30) 52 (by rw [c2]; decide) (by rw [c2]; decide) (by rw [c2] <;> decide) (by decide) dX11_result_22 ?_
      refine me_aload_n X (i := 0) 0 rfl dX11_result_52 ?_
      refine me_getr X 47 kF_X11_81 (Nat.le_of_ble_eq_true rfl) me_k0 me_f0_8 dX11_result_53 ?_
      refine me_geti X kF_X11_321 (Nat.le_of_ble_eq_true rfl) me_k47 me_f47_7 dX11_result_56 ?_
      obtain rfl := me_so h
      exact me_iret X hr hlk dX11_result_59
    · have h := me_in c2 h
      by_cases c3 : p0 = 1
      · have h := me_ip c3 h
        refine me_tin X (off := 38) 60 (by rw [c3]; decide) (by rw [c3]; decide) (by rw [c3] <;> decide) (by decide) dX11_result_22 ?_
        refine me_aload_n X (i := 0) 0 rfl dX11_result_60 ?_
        refine me_getr X 47 kF_X11_81 (Nat.le_of_ble_eq_true rfl) me_k0 me_f0_8 dX11_result_61 ?_
        refine me_geti X kF_X11_324 (Nat.le_of_ble_eq_true rfl) me_k47 me_f47_8 dX11_result_64 ?_
        obtain rfl := me_so h
        exact me_iret X hr hlk dX11_result_67
      · have h := me_in c3 h
        by_cases c4 : p0 = 2
        · have h := me_ip c4 h
          refine me_tin X (off := 46) 68 (by rw [c4]; decide) (by rw [c4]; decide) (by rw [c4] <;> decide) (by decide) dX11_result_22 ?_
          refine me_aload_n X (i := 0) 0 rfl dX11_result_68 ?_
          refine me_getr X 47 kF_X11_81 (Nat.le_of_ble_eq_true rfl) me_k0 me_f0_8 dX11_result_69 ?_
          obtain ⟨v3, e3, h⟩ := me_bd h
          refine me_callVi X [] (ctX3_faultless_47 hn (Nat.le_trans (by decide) hnt) e3) kV_X11_327 rfl rfl (Nat.le_of_ble_eq_true rfl) me_k47 (Nat.le_of_ble_eq_true rfl) (Nat.le_refl _) (Nat.le_of_ble_eq_true rfl) dX11_result_72 ?_
          obtain rfl := me_so h
          exact me_iret X hr hlk dX11_result_75
        · have h := me_in c4 h
          by_cases c5 : p0 = 3
          · have h := me_ip c5 h
            refine me_tin X (off := 54) 76 (by rw [c5]; decide) (by rw [c5]; decide) (by rw [c5] <;> decide) (by decide) dX11_result_22 ?_
            refine me_aload_n X (i := 0) 0 rfl dX11_result_76 ?_
            refine me_getr X 47 kF_X11_81 (Nat.le_of_ble_eq_true rfl) me_k0 me_f0_8 dX11_result_77 ?_
            obtain ⟨v4, e4, h⟩ := me_bd h
            refine me_callVi X [] (ctX3_mostMismatches_47 hn (Nat.le_trans (by decide) hnt) e4) kV_X11_330 rfl rfl (Nat.le_of_ble_eq_true rfl) me_k47 (Nat.le_of_ble_eq_true rfl) (Nat.le_refl _) (Nat.le_of_ble_eq_true rfl) dX11_result_80 ?_
            obtain rfl := me_so h
            exact me_iret X hr hlk dX11_result_83
          · have h := me_in c5 h
            refine me_tout X 84 (by have q0 := lv_neT (k := 0) (a := 0) c2 (by decide); have q1 := lv_neT (k := 1) (a := 1) c3 (by decide); have q2 := lv_neT (k := 2) (a := 2) c4 (by decide); have q3 := lv_neT (k := 3) (a := 3) c5 (by decide); omega) (by decide) dX11_result_22 ?_
            refine me_aload_n X (i := 0) 0 rfl dX11_result_84 ?_
            refine me_getr X 47 kF_X11_81 (Nat.le_of_ble_eq_true rfl) me_k0 me_f0_8 dX11_result_85 ?_
            refine me_geti X kF_X11_333 (Nat.le_of_ble_eq_true rfl) me_k47 me_f47_5 dX11_result_88 ?_
            obtain rfl := me_so h
            exact me_iret X hr hlk dX11_result_91
  · have h := me_ip c1 h
    refine me_iconst X dX11_result_19 ic_m1 ?_
    obtain rfl := me_so h
    exact me_iret X hr hlk dX11_result_20
def mX11_ran_0 (M : me_M) (p0 : Int32) (p1 : Int32) : Option (Int32 × me_M) :=
  ((mX11_isSearch_0 M p0).bind fun v1 => ((mX11_needElement_0 v1).bind fun _ => ((mX11_isWhat p1 1).bind fun v3 => ((mX11_needArgument_0 v3).bind fun _ => (if (M.1 47 4) = 0 then some ((-1), M) else (if M.2.1 0 = 53 then (if (M.1 53 5) ≤ (M.1 47 5) then ((mX1_forget_36 M).bind fun M1 => (if M1.2.1 0 = 53 then ((mX1_run_36_53_48 M1 p0 (M1.1 47 5)).bind fun M2 => (if p1 = 0 then some ((M2.1 36 11), M2) else some ((M2.1 36 10), M2))) else if M1.2.1 0 = 58 then ((mX1_run_36_58_48 M1 p0 (M1.1 47 5)).bind fun M3 => (if p1 = 0 then some ((M3.1 36 11), M3) else some ((M3.1 36 10), M3))) else none)) else some ((-1), M)) else if M.2.1 0 = 58 then (if (M.1 58 5) ≤ (M.1 47 5) then ((mX1_forget_36 M).bind fun M4 => (if M4.2.1 0 = 53 then ((mX1_run_36_53_48 M4 p0 (M4.1 47 5)).bind fun M5 => (if p1 = 0 then some ((M5.1 36 11), M5) else some ((M5.1 36 10), M5))) else if M4.2.1 0 = 58 then ((mX1_run_36_58_48 M4 p0 (M4.1 47 5)).bind fun M6 => (if p1 = 0 then some ((M6.1 36 11), M6) else some ((M6.1 36 10), M6))) else none)) else some ((-1), M)) else none))))))
set_option maxRecDepth 100000 in
set_option maxHeartbeats 4000000 in
theorem ctX11_ran_0 {l : Launch} {n nt : Nat} (hn : 63 ≤ n) (hnt : 1 ≤ nt) {M : me_M} {p0 : Int32} {p1 : Int32} {r : Int32} {M' : me_M} (h : mX11_ran_0 M p0 p1 = some (r, M')) : me_Ct l yX11_ran cX11_ran 3 (some .int) 32 n nt (fun ad => [.ref (ad 0), .int p0, .int p1]) M (fun _ => some (.int r)) M' := by
  unfold mX11_ran_0 at h
  refine me_enter (N0 := 63) RX11 rfl (plainFor_of_name pl_RX11) hn (Nat.le_trans (by decide) hnt) (fun _ => Nat.le_of_ble_eq_true rfl) ?_
  intro p e R s m args below meth c D cA ad tys A X hr hlk
  refine me_sub (L' := [(0, .ref (ad 0)), (1, .int p0), (2, .int p1)]) [0, 1, 2] rfl ?_
  refine me_aload_n X (i := 0) 0 rfl dX11_ran_0 ?_
  refine me_aload_n X (i := 0) 0 rfl dX11_ran_1 ?_
  refine me_iload_n X (i := 1) 1 rfl dX11_ran_2 ?_
  obtain ⟨v1, e1, h⟩ := me_bd h
  refine me_callVi X [.int p0] (ctX11_isSearch_0 hn (Nat.le_trans (by decide) hnt) e1) kV_X11_281 rfl rfl (Nat.le_of_ble_eq_true rfl) me_k0 (Nat.le_of_ble_eq_true rfl) (Nat.le_refl _) (Nat.le_of_ble_eq_true rfl) dX11_ran_3 ?_
  obtain ⟨_, e2, h⟩ := me_bd h
  refine me_callVv X [.int v1] (ctX11_needElement_0 hn (Nat.le_trans (by decide) hnt) e2) kV_X11_206 rfl rfl (Nat.le_of_ble_eq_true rfl) me_k0 (Nat.le_of_ble_eq_true rfl) (Nat.le_refl _) (Nat.le_of_ble_eq_true rfl) dX11_ran_6 ?_
  refine me_aload_n X (i := 0) 0 rfl dX11_ran_9 ?_
  refine me_iload_n X (i := 2) 2 rfl dX11_ran_10 ?_
  refine me_iconst X dX11_ran_11 ic_1 ?_
  obtain ⟨v3, e3, h⟩ := me_bd h
  refine me_callSi X [.int p1, .int 1] (ctX11_isWhat hn (Nat.le_trans (by decide) hnt) e3) kS_X11_157 rfl rfl (Nat.le_of_ble_eq_true rfl) (Nat.le_refl _) (Nat.le_of_ble_eq_true rfl) dX11_ran_12 ?_
  obtain ⟨_, e4, h⟩ := me_bd h
  refine me_callVv X [.int v3] (ctX11_needArgument_0 hn (Nat.le_trans (by decide) hnt) e4) kV_X11_122 rfl rfl (Nat.le_of_ble_eq_true rfl) me_k0 (Nat.le_of_ble_eq_true rfl) (Nat.le_refl _) (Nat.le_of_ble_eq_true rfl) dX11_ran_15 ?_
  refine me_aload_n X (i := 0) 0 rfl dX11_ran_18 ?_
  refine me_getr X 47 kF_X11_81 (Nat.le_of_ble_eq_true rfl) me_k0 me_f0_8 dX11_ran_19 ?_
  refine me_geti X kF_X11_134 (Nat.le_of_ble_eq_true rfl) me_k47 me_f47_4 dX11_ran_22 ?_
  refine me_if_eq X 45 (by decide) dX11_ran_25 (fun c1 => ?_) (fun c1 => ?_)
  · have h := me_ip c1 h
    refine me_iconst X dX11_ran_45 ic_m1 ?_
    obtain ⟨rfl, rfl⟩ := me_sp h
    exact me_iret X hr hlk dX11_ran_46
  · have h := me_in c1 h
    refine me_aload_n X (i := 0) 0 rfl dX11_ran_28 ?_
    refine me_getr X 47 kF_X11_81 (Nat.le_of_ble_eq_true rfl) me_k0 me_f0_8 dX11_ran_29 ?_
    refine me_geti X kF_X11_333 (Nat.le_of_ble_eq_true rfl) me_k47 me_f47_5 dX11_ran_32 ?_
    refine me_aload_n X (i := 0) 0 rfl dX11_ran_35 ?_
    by_cases c2 : M.2.1 0 = 53
    · have h := me_ip c2 h
      refine me_getd0 X c2 kF_X11_97 (Nat.le_of_ble_eq_true rfl) me_k0 me_f0_10 dX11_ran_36 ?_
      refine me_geti X kF_X11_196 (Nat.le_of_ble_eq_true rfl) me_k53 me_f53_5 dX11_ran_39 ?_
      refine me_icmp_ge X 47 (by decide) dX11_ran_42 (fun c3 => ?_) (fun c3 => ?_)
      · have h := me_ip c3 h
        refine me_aload_n X (i := 0) 0 rfl dX11_ran_47 ?_
        refine me_getr X 36 kF_X11_74 (Nat.le_of_ble_eq_true rfl) me_k0 me_f0_7 dX11_ran_48 ?_
        obtain ⟨M1, e5, h⟩ := me_bd h
        refine me_callVv X [] (ctX1_forget_36 hn (Nat.le_trans (by decide) hnt) e5) kV_X11_296 rfl rfl (Nat.le_of_ble_eq_true rfl) me_k36 (Nat.le_of_ble_eq_true rfl) (Nat.le_refl _) (Nat.le_of_ble_eq_true rfl) dX11_ran_51 ?_
        refine me_aload_n X (i := 0) 0 rfl dX11_ran_54 ?_
        refine me_getr X 36 kF_X11_74 (Nat.le_of_ble_eq_true rfl) me_k0 me_f0_7 dX11_ran_55 ?_
        refine me_aload_n X (i := 0) 0 rfl dX11_ran_58 ?_
        by_cases c4 : M1.2.1 0 = 53
        · have h := me_ip c4 h
          refine me_getd0 X c4 kF_X11_97 (Nat.le_of_ble_eq_true rfl) me_k0 me_f0_10 dX11_ran_59 ?_
          refine me_iload_n X (i := 1) 1 rfl dX11_ran_62 ?_
          refine me_aload_n X (i := 0) 0 rfl dX11_ran_63 ?_
          refine me_getr X 47 kF_X11_81 (Nat.le_of_ble_eq_true rfl) me_k0 me_f0_8 dX11_ran_64 ?_
          refine me_getr X 48 kF_X11_299 (Nat.le_of_ble_eq_true rfl) me_k47 me_f47_0 dX11_ran_67 ?_
          refine me_aload_n X (i := 0) 0 rfl dX11_ran_70 ?_
          refine me_getr X 47 kF_X11_81 (Nat.le_of_ble_eq_true rfl) me_k0 me_f0_8 dX11_ran_71 ?_
          refine me_geti X kF_X11_333 (Nat.le_of_ble_eq_true rfl) me_k47 me_f47_5 dX11_ran_74 ?_
          obtain ⟨M2, e6, h⟩ := me_bd h
          refine me_callVv X [.ref (ad 53), .int p0, .ref (ad 48), .int (M1.1 47 5)] (ctX1_run_36_53_48 hn (Nat.le_trans (by decide) hnt) e6) kV_X11_302 rfl rfl (Nat.le_of_ble_eq_true rfl) me_k36 (Nat.le_of_ble_eq_true rfl) (Nat.le_refl _) (Nat.le_of_ble_eq_true rfl) dX11_ran_77 ?_
          refine me_iload_n X (i := 2) 2 rfl dX11_ran_80 ?_
          refine me_if_ne X 94 (by decide) dX11_ran_81 (fun c5 => ?_) (fun c5 => ?_)
          · have h := me_in c5 h
            refine me_aload_n X (i := 0) 0 rfl dX11_ran_94 ?_
            refine me_getr X 36 kF_X11_74 (Nat.le_of_ble_eq_true rfl) me_k0 me_f0_7 dX11_ran_95 ?_
            refine me_geti X kF_X11_337 (Nat.le_of_ble_eq_true rfl) me_k36 me_f36_10 dX11_ran_98 ?_
            obtain ⟨rfl, rfl⟩ := me_sp h
            exact me_iret X hr hlk dX11_ran_101
          · have h := me_ip c5 h
            refine me_aload_n X (i := 0) 0 rfl dX11_ran_84 ?_
            refine me_getr X 36 kF_X11_74 (Nat.le_of_ble_eq_true rfl) me_k0 me_f0_7 dX11_ran_85 ?_
            refine me_geti X kF_X11_336 (Nat.le_of_ble_eq_true rfl) me_k36 me_f36_11 dX11_ran_88 ?_
            refine me_goto X 101 (by decide) dX11_ran_91 ?_
            obtain ⟨rfl, rfl⟩ := me_sp h
            exact me_iret X hr hlk dX11_ran_101
        · have h := me_in c4 h
          by_cases c4b : M1.2.1 0 = 58
          · have h := me_ip c4b h
            refine me_getd0 X c4b kF_X11_97 (Nat.le_of_ble_eq_true rfl) me_k0 me_f0_10 dX11_ran_59 ?_
            refine me_iload_n X (i := 1) 1 rfl dX11_ran_62 ?_
            refine me_aload_n X (i := 0) 0 rfl dX11_ran_63 ?_
            refine me_getr X 47 kF_X11_81 (Nat.le_of_ble_eq_true rfl) me_k0 me_f0_8 dX11_ran_64 ?_
            refine me_getr X 48 kF_X11_299 (Nat.le_of_ble_eq_true rfl) me_k47 me_f47_0 dX11_ran_67 ?_
            refine me_aload_n X (i := 0) 0 rfl dX11_ran_70 ?_
            refine me_getr X 47 kF_X11_81 (Nat.le_of_ble_eq_true rfl) me_k0 me_f0_8 dX11_ran_71 ?_
            refine me_geti X kF_X11_333 (Nat.le_of_ble_eq_true rfl) me_k47 me_f47_5 dX11_ran_74 ?_
            obtain ⟨M3, e7, h⟩ := me_bd h
            refine me_callVv X [.ref (ad 58), .int p0, .ref (ad 48), .int (M1.1 47 5)] (ctX1_run_36_58_48 hn (Nat.le_trans (by decide) hnt) e7) kV_X11_302 rfl rfl (Nat.le_of_ble_eq_true rfl) me_k36 (Nat.le_of_ble_eq_true rfl) (Nat.le_refl _) (Nat.le_of_ble_eq_true rfl) dX11_ran_77 ?_
            refine me_iload_n X (i := 2) 2 rfl dX11_ran_80 ?_
            refine me_if_ne X 94 (by decide) dX11_ran_81 (fun c6 => ?_) (fun c6 => ?_)
            · have h := me_in c6 h
              refine me_aload_n X (i := 0) 0 rfl dX11_ran_94 ?_
              refine me_getr X 36 kF_X11_74 (Nat.le_of_ble_eq_true rfl) me_k0 me_f0_7 dX11_ran_95 ?_
              refine me_geti X kF_X11_337 (Nat.le_of_ble_eq_true rfl) me_k36 me_f36_10 dX11_ran_98 ?_
              obtain ⟨rfl, rfl⟩ := me_sp h
              exact me_iret X hr hlk dX11_ran_101
            · have h := me_ip c6 h
              refine me_aload_n X (i := 0) 0 rfl dX11_ran_84 ?_
              refine me_getr X 36 kF_X11_74 (Nat.le_of_ble_eq_true rfl) me_k0 me_f0_7 dX11_ran_85 ?_
              refine me_geti X kF_X11_336 (Nat.le_of_ble_eq_true rfl) me_k36 me_f36_11 dX11_ran_88 ?_
              refine me_goto X 101 (by decide) dX11_ran_91 ?_
              obtain ⟨rfl, rfl⟩ := me_sp h
              exact me_iret X hr hlk dX11_ran_101
          · have h := me_in c4b h
            cases h
      · have h := me_in c3 h
        refine me_iconst X dX11_ran_45 ic_m1 ?_
        obtain ⟨rfl, rfl⟩ := me_sp h
        exact me_iret X hr hlk dX11_ran_46
    · have h := me_in c2 h
      by_cases c2b : M.2.1 0 = 58
      · have h := me_ip c2b h
        refine me_getd0 X c2b kF_X11_97 (Nat.le_of_ble_eq_true rfl) me_k0 me_f0_10 dX11_ran_36 ?_
        refine me_geti X kF_X11_196 (Nat.le_of_ble_eq_true rfl) me_k58 me_f58_5 dX11_ran_39 ?_
        refine me_icmp_ge X 47 (by decide) dX11_ran_42 (fun c7 => ?_) (fun c7 => ?_)
        · have h := me_ip c7 h
          refine me_aload_n X (i := 0) 0 rfl dX11_ran_47 ?_
          refine me_getr X 36 kF_X11_74 (Nat.le_of_ble_eq_true rfl) me_k0 me_f0_7 dX11_ran_48 ?_
          obtain ⟨M4, e8, h⟩ := me_bd h
          refine me_callVv X [] (ctX1_forget_36 hn (Nat.le_trans (by decide) hnt) e8) kV_X11_296 rfl rfl (Nat.le_of_ble_eq_true rfl) me_k36 (Nat.le_of_ble_eq_true rfl) (Nat.le_refl _) (Nat.le_of_ble_eq_true rfl) dX11_ran_51 ?_
          refine me_aload_n X (i := 0) 0 rfl dX11_ran_54 ?_
          refine me_getr X 36 kF_X11_74 (Nat.le_of_ble_eq_true rfl) me_k0 me_f0_7 dX11_ran_55 ?_
          refine me_aload_n X (i := 0) 0 rfl dX11_ran_58 ?_
          by_cases c8 : M4.2.1 0 = 53
          · have h := me_ip c8 h
            refine me_getd0 X c8 kF_X11_97 (Nat.le_of_ble_eq_true rfl) me_k0 me_f0_10 dX11_ran_59 ?_
            refine me_iload_n X (i := 1) 1 rfl dX11_ran_62 ?_
            refine me_aload_n X (i := 0) 0 rfl dX11_ran_63 ?_
            refine me_getr X 47 kF_X11_81 (Nat.le_of_ble_eq_true rfl) me_k0 me_f0_8 dX11_ran_64 ?_
            refine me_getr X 48 kF_X11_299 (Nat.le_of_ble_eq_true rfl) me_k47 me_f47_0 dX11_ran_67 ?_
            refine me_aload_n X (i := 0) 0 rfl dX11_ran_70 ?_
            refine me_getr X 47 kF_X11_81 (Nat.le_of_ble_eq_true rfl) me_k0 me_f0_8 dX11_ran_71 ?_
            refine me_geti X kF_X11_333 (Nat.le_of_ble_eq_true rfl) me_k47 me_f47_5 dX11_ran_74 ?_
            obtain ⟨M5, e9, h⟩ := me_bd h
            refine me_callVv X [.ref (ad 53), .int p0, .ref (ad 48), .int (M4.1 47 5)] (ctX1_run_36_53_48 hn (Nat.le_trans (by decide) hnt) e9) kV_X11_302 rfl rfl (Nat.le_of_ble_eq_true rfl) me_k36 (Nat.le_of_ble_eq_true rfl) (Nat.le_refl _) (Nat.le_of_ble_eq_true rfl) dX11_ran_77 ?_
            refine me_iload_n X (i := 2) 2 rfl dX11_ran_80 ?_
            refine me_if_ne X 94 (by decide) dX11_ran_81 (fun c9 => ?_) (fun c9 => ?_)
            · have h := me_in c9 h
              refine me_aload_n X (i := 0) 0 rfl dX11_ran_94 ?_
              refine me_getr X 36 kF_X11_74 (Nat.le_of_ble_eq_true rfl) me_k0 me_f0_7 dX11_ran_95 ?_
              refine me_geti X kF_X11_337 (Nat.le_of_ble_eq_true rfl) me_k36 me_f36_10 dX11_ran_98 ?_
              obtain ⟨rfl, rfl⟩ := me_sp h
              exact me_iret X hr hlk dX11_ran_101
            · have h := me_ip c9 h
              refine me_aload_n X (i := 0) 0 rfl dX11_ran_84 ?_
              refine me_getr X 36 kF_X11_74 (Nat.le_of_ble_eq_true rfl) me_k0 me_f0_7 dX11_ran_85 ?_
              refine me_geti X kF_X11_336 (Nat.le_of_ble_eq_true rfl) me_k36 me_f36_11 dX11_ran_88 ?_
              refine me_goto X 101 (by decide) dX11_ran_91 ?_
              obtain ⟨rfl, rfl⟩ := me_sp h
              exact me_iret X hr hlk dX11_ran_101
          · have h := me_in c8 h
            by_cases c8b : M4.2.1 0 = 58
            · have h := me_ip c8b h
              refine me_getd0 X c8b kF_X11_97 (Nat.le_of_ble_eq_true rfl) me_k0 me_f0_10 dX11_ran_59 ?_
              refine me_iload_n X (i := 1) 1 rfl dX11_ran_62 ?_
              refine me_aload_n X (i := 0) 0 rfl dX11_ran_63 ?_
              refine me_getr X 47 kF_X11_81 (Nat.le_of_ble_eq_true rfl) me_k0 me_f0_8 dX11_ran_64 ?_
              refine me_getr X 48 kF_X11_299 (Nat.le_of_ble_eq_true rfl) me_k47 me_f47_0 dX11_ran_67 ?_
              refine me_aload_n X (i := 0) 0 rfl dX11_ran_70 ?_
              refine me_getr X 47 kF_X11_81 (Nat.le_of_ble_eq_true rfl) me_k0 me_f0_8 dX11_ran_71 ?_
              refine me_geti X kF_X11_333 (Nat.le_of_ble_eq_true rfl) me_k47 me_f47_5 dX11_ran_74 ?_
              obtain ⟨M6, e10, h⟩ := me_bd h
              refine me_callVv X [.ref (ad 58), .int p0, .ref (ad 48), .int (M4.1 47 5)] (ctX1_run_36_58_48 hn (Nat.le_trans (by decide) hnt) e10) kV_X11_302 rfl rfl (Nat.le_of_ble_eq_true rfl) me_k36 (Nat.le_of_ble_eq_true rfl) (Nat.le_refl _) (Nat.le_of_ble_eq_true rfl) dX11_ran_77 ?_
              refine me_iload_n X (i := 2) 2 rfl dX11_ran_80 ?_
              refine me_if_ne X 94 (by decide) dX11_ran_81 (fun c10 => ?_) (fun c10 => ?_)
              · have h := me_in c10 h
                refine me_aload_n X (i := 0) 0 rfl dX11_ran_94 ?_
                refine me_getr X 36 kF_X11_74 (Nat.le_of_ble_eq_true rfl) me_k0 me_f0_7 dX11_ran_95 ?_
                refine me_geti X kF_X11_337 (Nat.le_of_ble_eq_true rfl) me_k36 me_f36_10 dX11_ran_98 ?_
                obtain ⟨rfl, rfl⟩ := me_sp h
                exact me_iret X hr hlk dX11_ran_101
              · have h := me_ip c10 h
                refine me_aload_n X (i := 0) 0 rfl dX11_ran_84 ?_
                refine me_getr X 36 kF_X11_74 (Nat.le_of_ble_eq_true rfl) me_k0 me_f0_7 dX11_ran_85 ?_
                refine me_geti X kF_X11_336 (Nat.le_of_ble_eq_true rfl) me_k36 me_f36_11 dX11_ran_88 ?_
                refine me_goto X 101 (by decide) dX11_ran_91 ?_
                obtain ⟨rfl, rfl⟩ := me_sp h
                exact me_iret X hr hlk dX11_ran_101
            · have h := me_in c8b h
              cases h
        · have h := me_in c7 h
          refine me_iconst X dX11_ran_45 ic_m1 ?_
          obtain ⟨rfl, rfl⟩ := me_sp h
          exact me_iret X hr hlk dX11_ran_46
      · have h := me_in c2b h
        cases h
def mX11_matches_0_J35 (p0 : Int32) (p1 : Int32) (M : me_M) (s1 : Int32) : Option (Int32 × me_M) :=
  ((mX11_needArgument_0 s1).bind fun _ => ((mX8_compare_30_1 M p0).bind fun M1 => ((mX8_keepMatches_30 M1 p0 p1).bind fun M2 => some (((me_s M2 1 1 0).1 30 6), (me_s M2 1 1 0)))))
def mX11_matches_0_J34 (p0 : Int32) (p1 : Int32) (M : me_M)  : Option (Int32 × me_M) :=
  (mX11_matches_0_J35 p0 p1 M 0)
def mX11_matches_0 (M : me_M) (p0 : Int32) (p1 : Int32) : Option (Int32 × me_M) :=
  ((mX9_holds_1 M p0).bind fun v1 => (if v1 = 0 then (mX11_matches_0_J34 p0 p1 M ) else ((mX11_isLength p1).bind fun v2 => (if v2 = 0 then (mX11_matches_0_J34 p0 p1 M ) else ((mX9_lettersAlone_1 M p0).bind fun v3 => (if v3 = 0 then (mX11_matches_0_J34 p0 p1 M ) else (mX11_matches_0_J35 p0 p1 M 1)))))))
set_option maxRecDepth 100000 in
set_option maxHeartbeats 4000000 in
theorem ctX11_matches_0 {l : Launch} {n nt : Nat} (hn : 63 ≤ n) (hnt : 1 ≤ nt) {M : me_M} {p0 : Int32} {p1 : Int32} {r : Int32} {M' : me_M} (h : mX11_matches_0 M p0 p1 = some (r, M')) : me_Ct l yX11_matches cX11_matches 3 (some .int) 2 n nt (fun ad => [.ref (ad 0), .int p0, .int p1]) M (fun _ => some (.int r)) M' := by
  unfold mX11_matches_0 at h
  refine me_enter (N0 := 63) RX11 rfl (plainFor_of_name pl_RX11) hn (Nat.le_trans (by decide) hnt) (fun _ => Nat.le_of_ble_eq_true rfl) ?_
  intro p e R s m args below meth c D cA ad tys A X hr hlk
  refine me_sub (L' := [(0, .ref (ad 0)), (1, .int p0), (2, .int p1)]) [0, 1, 2] rfl ?_
  refine me_aload_n X (i := 0) 0 rfl dX11_matches_0 ?_
  refine me_aload_n X (i := 0) 0 rfl dX11_matches_1 ?_
  refine me_getr X 1 kF_X11_10 (Nat.le_of_ble_eq_true rfl) me_k0 me_f0_0 dX11_matches_2 ?_
  refine me_iload_n X (i := 1) 1 rfl dX11_matches_5 ?_
  obtain ⟨v1, e1, h⟩ := me_bd h
  refine me_callVi X [.int p0] (ctX9_holds_1 hn (Nat.le_trans (by decide) hnt) e1) kV_X11_118 rfl rfl (Nat.le_of_ble_eq_true rfl) me_k1 (Nat.le_of_ble_eq_true rfl) (Nat.le_refl _) (Nat.le_of_ble_eq_true rfl) dX11_matches_6 ?_
  have hj35_2 : ∀ (s1 : Int32), mX11_matches_0_J35 p0 p1 M s1 = some (r, M') → me_W p l e R s m args below meth c 0 0 (MQ below (me_Qc D cA ad n A (some (.int r)) M') args s 0 0 A) D cA ad n 3 A 35 [(0, .ref (ad 0)), (1, .int p0), (2, .int p1)] [.int s1, .ref (ad 0)] M := by
    intro s1 h
    unfold mX11_matches_0_J35 at h
    obtain ⟨_, e4, h⟩ := me_bd h
    refine me_callVv X [.int s1] (ctX11_needArgument_0 hn (Nat.le_trans (by decide) hnt) e4) kV_X11_122 rfl rfl (Nat.le_of_ble_eq_true rfl) me_k0 (Nat.le_of_ble_eq_true rfl) (Nat.le_refl _) (Nat.le_of_ble_eq_true rfl) dX11_matches_35 ?_
    refine me_aload_n X (i := 0) 0 rfl dX11_matches_38 ?_
    refine me_getr X 30 kF_X11_65 (Nat.le_of_ble_eq_true rfl) me_k0 me_f0_6 dX11_matches_39 ?_
    refine me_aload_n X (i := 0) 0 rfl dX11_matches_42 ?_
    refine me_getr X 1 kF_X11_10 (Nat.le_of_ble_eq_true rfl) me_k0 me_f0_0 dX11_matches_43 ?_
    refine me_iload_n X (i := 1) 1 rfl dX11_matches_46 ?_
    obtain ⟨M1, e5, h⟩ := me_bd h
    refine me_callVv X [.ref (ad 1), .int p0] (ctX8_compare_30_1 hn (Nat.le_trans (by decide) hnt) e5) kV_X11_341 rfl rfl (Nat.le_of_ble_eq_true rfl) me_k30 (Nat.le_of_ble_eq_true rfl) (Nat.le_refl _) (Nat.le_of_ble_eq_true rfl) dX11_matches_47 ?_
    refine me_aload_n X (i := 0) 0 rfl dX11_matches_50 ?_
    refine me_getr X 30 kF_X11_65 (Nat.le_of_ble_eq_true rfl) me_k0 me_f0_6 dX11_matches_51 ?_
    refine me_iload_n X (i := 1) 1 rfl dX11_matches_54 ?_
    refine me_iload_n X (i := 2) 2 rfl dX11_matches_55 ?_
    obtain ⟨M2, e6, h⟩ := me_bd h
    refine me_callVv X [.int p0, .int p1] (ctX8_keepMatches_30 hn (Nat.le_trans (by decide) hnt) e6) kV_X11_344 rfl rfl (Nat.le_of_ble_eq_true rfl) me_k30 (Nat.le_of_ble_eq_true rfl) (Nat.le_refl _) (Nat.le_of_ble_eq_true rfl) dX11_matches_56 ?_
    refine me_aload_n X (i := 0) 0 rfl dX11_matches_59 ?_
    refine me_getr X 1 kF_X11_10 (Nat.le_of_ble_eq_true rfl) me_k0 me_f0_0 dX11_matches_60 ?_
    refine me_iconst X dX11_matches_63 ic_0 ?_
    refine me_puti X kG_X11_111 (Nat.le_of_ble_eq_true rfl) me_k1 me_f1_1 dX11_matches_64 ?_
    refine me_aload_n X (i := 0) 0 rfl dX11_matches_67 ?_
    refine me_getr X 30 kF_X11_65 (Nat.le_of_ble_eq_true rfl) me_k0 me_f0_6 dX11_matches_68 ?_
    refine me_geti X kF_X11_138 (Nat.le_of_ble_eq_true rfl) me_k30 me_f30_6 dX11_matches_71 ?_
    obtain ⟨rfl, rfl⟩ := me_sp h
    exact me_iret X hr hlk dX11_matches_74
  have hj34_1 : mX11_matches_0_J34 p0 p1 M  = some (r, M') → me_W p l e R s m args below meth c 0 0 (MQ below (me_Qc D cA ad n A (some (.int r)) M') args s 0 0 A) D cA ad n 3 A 34 [(0, .ref (ad 0)), (1, .int p0), (2, .int p1)] [.ref (ad 0)] M := by
    intro h
    unfold mX11_matches_0_J34 at h
    refine me_iconst X dX11_matches_34 ic_0 ?_
    exact hj35_2 0 h
  refine me_if_eq X 34 (by decide) dX11_matches_9 (fun c1 => ?_) (fun c1 => ?_)
  · have h := me_ip c1 h
    exact hj34_1  h
  · have h := me_in c1 h
    refine me_iload_n X (i := 2) 2 rfl dX11_matches_12 ?_
    obtain ⟨v2, e2, h⟩ := me_bd h
    refine me_callSi X [.int p1] (ctX11_isLength hn (Nat.le_trans (by decide) hnt) e2) kS_X11_338 rfl rfl (Nat.le_of_ble_eq_true rfl) (Nat.le_refl _) (Nat.le_of_ble_eq_true rfl) dX11_matches_13 ?_
    refine me_if_eq X 34 (by decide) dX11_matches_16 (fun c2 => ?_) (fun c2 => ?_)
    · have h := me_ip c2 h
      exact hj34_1  h
    · have h := me_in c2 h
      refine me_aload_n X (i := 0) 0 rfl dX11_matches_19 ?_
      refine me_getr X 1 kF_X11_10 (Nat.le_of_ble_eq_true rfl) me_k0 me_f0_0 dX11_matches_20 ?_
      refine me_iload_n X (i := 1) 1 rfl dX11_matches_23 ?_
      obtain ⟨v3, e3, h⟩ := me_bd h
      refine me_callVi X [.int p0] (ctX9_lettersAlone_1 hn (Nat.le_trans (by decide) hnt) e3) kV_X11_259 rfl rfl (Nat.le_of_ble_eq_true rfl) me_k1 (Nat.le_of_ble_eq_true rfl) (Nat.le_refl _) (Nat.le_of_ble_eq_true rfl) dX11_matches_24 ?_
      refine me_if_eq X 34 (by decide) dX11_matches_27 (fun c3 => ?_) (fun c3 => ?_)
      · have h := me_ip c3 h
        exact hj34_1  h
      · have h := me_in c3 h
        refine me_iconst X dX11_matches_30 ic_1 ?_
        refine me_goto X 35 (by decide) dX11_matches_31 ?_
        exact hj35_2 1 h
def mX11_match_0_J21 (p0 : Int32) (p1 : Int32) (M : me_M) (s1 : Int32) : Option Int32 :=
  ((mX11_needElement_0 s1).bind fun _ => ((mX11_isWhat p1 3).bind fun v2 => ((mX11_needArgument_0 v2).bind fun _ => (if p1 = 0 then ((me_r M 32 240 p0).bind fun v4 => some v4) else (if p1 = 1 then ((me_r M 33 240 p0).bind fun v5 => some v5) else (if p1 = 2 then ((me_r M 34 240 p0).bind fun v6 => some v6) else ((me_r M 35 240 p0).bind fun v7 => some v7)))))))
def mX11_match_0_J20 (p0 : Int32) (p1 : Int32) (M : me_M)  : Option Int32 :=
  (mX11_match_0_J21 p0 p1 M 0)
def mX11_match_0 (M : me_M) (p0 : Int32) (p1 : Int32) : Option Int32 :=
  (if p0 < 0 then (mX11_match_0_J20 p0 p1 M ) else (if (M.1 30 6) ≤ p0 then (mX11_match_0_J20 p0 p1 M ) else (mX11_match_0_J21 p0 p1 M 1)))
set_option maxRecDepth 100000 in
set_option maxHeartbeats 4000000 in
theorem ctX11_match_0 {l : Launch} {n nt : Nat} (hn : 63 ≤ n) (hnt : 1 ≤ nt) {M : me_M} {p0 : Int32} {p1 : Int32} {r : Int32} (h : mX11_match_0 M p0 p1 = some r) : me_Ct l yX11_match cX11_match 3 (some .int) 1 n nt (fun ad => [.ref (ad 0), .int p0, .int p1]) M (fun _ => some (.int r)) M := by
  unfold mX11_match_0 at h
  refine me_enter (N0 := 63) RX11 rfl (plainFor_of_name pl_RX11) hn (Nat.le_trans (by decide) hnt) (fun _ => Nat.le_of_ble_eq_true rfl) ?_
  intro p e R s m args below meth c D cA ad tys A X hr hlk
  refine me_sub (L' := [(0, .ref (ad 0)), (1, .int p0), (2, .int p1)]) [0, 1, 2] rfl ?_
  refine me_aload_n X (i := 0) 0 rfl dX11_match_0 ?_
  refine me_iload_n X (i := 1) 1 rfl dX11_match_1 ?_
  have hj21_2 : ∀ (s1 : Int32), mX11_match_0_J21 p0 p1 M s1 = some r → me_W p l e R s m args below meth c 0 0 (MQ below (me_Qc D cA ad n A (some (.int r)) M) args s 0 0 A) D cA ad n 3 A 21 [(0, .ref (ad 0)), (1, .int p0), (2, .int p1)] [.int s1, .ref (ad 0)] M := by
    intro s1 h
    unfold mX11_match_0_J21 at h
    obtain ⟨_, e1, h⟩ := me_bd h
    refine me_callVv X [.int s1] (ctX11_needElement_0 hn (Nat.le_trans (by decide) hnt) e1) kV_X11_206 rfl rfl (Nat.le_of_ble_eq_true rfl) me_k0 (Nat.le_of_ble_eq_true rfl) (Nat.le_refl _) (Nat.le_of_ble_eq_true rfl) dX11_match_21 ?_
    refine me_aload_n X (i := 0) 0 rfl dX11_match_24 ?_
    refine me_iload_n X (i := 2) 2 rfl dX11_match_25 ?_
    refine me_iconst X dX11_match_26 ic_3 ?_
    obtain ⟨v2, e2, h⟩ := me_bd h
    refine me_callSi X [.int p1, .int 3] (ctX11_isWhat hn (Nat.le_trans (by decide) hnt) e2) kS_X11_157 rfl rfl (Nat.le_of_ble_eq_true rfl) (Nat.le_refl _) (Nat.le_of_ble_eq_true rfl) dX11_match_27 ?_
    obtain ⟨_, e3, h⟩ := me_bd h
    refine me_callVv X [.int v2] (ctX11_needArgument_0 hn (Nat.le_trans (by decide) hnt) e3) kV_X11_122 rfl rfl (Nat.le_of_ble_eq_true rfl) me_k0 (Nat.le_of_ble_eq_true rfl) (Nat.le_refl _) (Nat.le_of_ble_eq_true rfl) dX11_match_30 ?_
    refine me_iload_n X (i := 2) 2 rfl dX11_match_33 ?_
    by_cases c3 : p1 = 0
    · have h := me_ip c3 h
      refine me_tin X (off := 26) 60 (by rw [c3]; decide) (by rw [c3]; decide) (by rw [c3] <;> decide) (by decide) dX11_match_34 ?_
      refine me_aload_n X (i := 0) 0 rfl dX11_match_60 ?_
      refine me_getr X 30 kF_X11_65 (Nat.le_of_ble_eq_true rfl) me_k0 me_f0_6 dX11_match_61 ?_
      refine me_getr X 32 kF_X11_348 (Nat.le_of_ble_eq_true rfl) me_k30 me_f30_2 dX11_match_64 ?_
      refine me_iload_n X (i := 1) 1 rfl dX11_match_67 ?_
      obtain ⟨v4, e4, h⟩ := me_bd h
      refine me_iald X (Nat.le_of_ble_eq_true rfl) me_k32 e4 dX11_match_68 ?_
      obtain rfl := me_so h
      exact me_iret X hr hlk dX11_match_69
    · have h := me_in c3 h
      by_cases c4 : p1 = 1
      · have h := me_ip c4 h
        refine me_tin X (off := 36) 70 (by rw [c4]; decide) (by rw [c4]; decide) (by rw [c4] <;> decide) (by decide) dX11_match_34 ?_
        refine me_aload_n X (i := 0) 0 rfl dX11_match_70 ?_
        refine me_getr X 30 kF_X11_65 (Nat.le_of_ble_eq_true rfl) me_k0 me_f0_6 dX11_match_71 ?_
        refine me_getr X 33 kF_X11_351 (Nat.le_of_ble_eq_true rfl) me_k30 me_f30_3 dX11_match_74 ?_
        refine me_iload_n X (i := 1) 1 rfl dX11_match_77 ?_
        obtain ⟨v5, e5, h⟩ := me_bd h
        refine me_iald X (Nat.le_of_ble_eq_true rfl) me_k33 e5 dX11_match_78 ?_
        obtain rfl := me_so h
        exact me_iret X hr hlk dX11_match_79
      · have h := me_in c4 h
        by_cases c5 : p1 = 2
        · have h := me_ip c5 h
          refine me_tin X (off := 46) 80 (by rw [c5]; decide) (by rw [c5]; decide) (by rw [c5] <;> decide) (by decide) dX11_match_34 ?_
          refine me_aload_n X (i := 0) 0 rfl dX11_match_80 ?_
          refine me_getr X 30 kF_X11_65 (Nat.le_of_ble_eq_true rfl) me_k0 me_f0_6 dX11_match_81 ?_
          refine me_getr X 34 kF_X11_354 (Nat.le_of_ble_eq_true rfl) me_k30 me_f30_4 dX11_match_84 ?_
          refine me_iload_n X (i := 1) 1 rfl dX11_match_87 ?_
          obtain ⟨v6, e6, h⟩ := me_bd h
          refine me_iald X (Nat.le_of_ble_eq_true rfl) me_k34 e6 dX11_match_88 ?_
          obtain rfl := me_so h
          exact me_iret X hr hlk dX11_match_89
        · have h := me_in c5 h
          refine me_tout X 90 (by have q0 := lv_neT (k := 0) (a := 0) c3 (by decide); have q1 := lv_neT (k := 1) (a := 1) c4 (by decide); have q2 := lv_neT (k := 2) (a := 2) c5 (by decide); omega) (by decide) dX11_match_34 ?_
          refine me_aload_n X (i := 0) 0 rfl dX11_match_90 ?_
          refine me_getr X 30 kF_X11_65 (Nat.le_of_ble_eq_true rfl) me_k0 me_f0_6 dX11_match_91 ?_
          refine me_getr X 35 kF_X11_355 (Nat.le_of_ble_eq_true rfl) me_k30 me_f30_5 dX11_match_94 ?_
          refine me_iload_n X (i := 1) 1 rfl dX11_match_97 ?_
          obtain ⟨v7, e7, h⟩ := me_bd h
          refine me_iald X (Nat.le_of_ble_eq_true rfl) me_k35 e7 dX11_match_98 ?_
          obtain rfl := me_so h
          exact me_iret X hr hlk dX11_match_99
  have hj20_1 : mX11_match_0_J20 p0 p1 M  = some r → me_W p l e R s m args below meth c 0 0 (MQ below (me_Qc D cA ad n A (some (.int r)) M) args s 0 0 A) D cA ad n 3 A 20 [(0, .ref (ad 0)), (1, .int p0), (2, .int p1)] [.ref (ad 0)] M := by
    intro h
    unfold mX11_match_0_J20 at h
    refine me_iconst X dX11_match_20 ic_0 ?_
    exact hj21_2 0 h
  refine me_if_lt X 20 (by decide) dX11_match_2 (fun c1 => ?_) (fun c1 => ?_)
  · have h := me_ip c1 h
    exact hj20_1  h
  · have h := me_in c1 h
    refine me_iload_n X (i := 1) 1 rfl dX11_match_5 ?_
    refine me_aload_n X (i := 0) 0 rfl dX11_match_6 ?_
    refine me_getr X 30 kF_X11_65 (Nat.le_of_ble_eq_true rfl) me_k0 me_f0_6 dX11_match_7 ?_
    refine me_geti X kF_X11_138 (Nat.le_of_ble_eq_true rfl) me_k30 me_f30_6 dX11_match_10 ?_
    refine me_icmp_ge X 20 (by decide) dX11_match_13 (fun c2 => ?_) (fun c2 => ?_)
    · have h := me_ip c2 h
      exact hj20_1  h
    · have h := me_in c2 h
      refine me_iconst X dX11_match_16 ic_1 ?_
      refine me_goto X 21 (by decide) dX11_match_17 ?_
      exact hj21_2 1 h
def mX11_maximals_0_J20 (p0 : Int32) (p1 : Int32) (M : me_M) (s1 : Int32) : Option Int32 :=
  ((mX11_needArgument_0 s1).bind fun _ => ((mX2_countMaximals_26 M p0 p1).bind fun v4 => some v4))
def mX11_maximals_0_J19 (p0 : Int32) (p1 : Int32) (M : me_M)  : Option Int32 :=
  (mX11_maximals_0_J20 p0 p1 M 0)
def mX11_maximals_0 (M : me_M) (p0 : Int32) (p1 : Int32) : Option Int32 :=
  ((mX11_isLength p0).bind fun v1 => (if v1 = 0 then (mX11_maximals_0_J19 p0 p1 M ) else ((mX11_isOften p1).bind fun v2 => (if v2 = 0 then (mX11_maximals_0_J19 p0 p1 M ) else (mX11_maximals_0_J20 p0 p1 M 1)))))
set_option maxRecDepth 100000 in
set_option maxHeartbeats 4000000 in
theorem ctX11_maximals_0 {l : Launch} {n nt : Nat} (hn : 63 ≤ n) (hnt : 1 ≤ nt) {M : me_M} {p0 : Int32} {p1 : Int32} {r : Int32} (h : mX11_maximals_0 M p0 p1 = some r) : me_Ct l yX11_maximals cX11_maximals 3 (some .int) 1 n nt (fun ad => [.ref (ad 0), .int p0, .int p1]) M (fun _ => some (.int r)) M := by
  unfold mX11_maximals_0 at h
  refine me_enter (N0 := 63) RX11 rfl (plainFor_of_name pl_RX11) hn (Nat.le_trans (by decide) hnt) (fun _ => Nat.le_of_ble_eq_true rfl) ?_
  intro p e R s m args below meth c D cA ad tys A X hr hlk
  refine me_sub (L' := [(0, .ref (ad 0)), (1, .int p0), (2, .int p1)]) [0, 1, 2] rfl ?_
  refine me_aload_n X (i := 0) 0 rfl dX11_maximals_0 ?_
  refine me_iload_n X (i := 1) 1 rfl dX11_maximals_1 ?_
  obtain ⟨v1, e1, h⟩ := me_bd h
  refine me_callSi X [.int p0] (ctX11_isLength hn (Nat.le_trans (by decide) hnt) e1) kS_X11_338 rfl rfl (Nat.le_of_ble_eq_true rfl) (Nat.le_refl _) (Nat.le_of_ble_eq_true rfl) dX11_maximals_2 ?_
  have hj20_2 : ∀ (s1 : Int32), mX11_maximals_0_J20 p0 p1 M s1 = some r → me_W p l e R s m args below meth c 0 0 (MQ below (me_Qc D cA ad n A (some (.int r)) M) args s 0 0 A) D cA ad n 3 A 20 [(0, .ref (ad 0)), (1, .int p0), (2, .int p1)] [.int s1, .ref (ad 0)] M := by
    intro s1 h
    unfold mX11_maximals_0_J20 at h
    obtain ⟨_, e3, h⟩ := me_bd h
    refine me_callVv X [.int s1] (ctX11_needArgument_0 hn (Nat.le_trans (by decide) hnt) e3) kV_X11_122 rfl rfl (Nat.le_of_ble_eq_true rfl) me_k0 (Nat.le_of_ble_eq_true rfl) (Nat.le_refl _) (Nat.le_of_ble_eq_true rfl) dX11_maximals_20 ?_
    refine me_aload_n X (i := 0) 0 rfl dX11_maximals_23 ?_
    refine me_getr X 26 kF_X11_56 (Nat.le_of_ble_eq_true rfl) me_k0 me_f0_5 dX11_maximals_24 ?_
    refine me_iload_n X (i := 1) 1 rfl dX11_maximals_27 ?_
    refine me_iload_n X (i := 2) 2 rfl dX11_maximals_28 ?_
    obtain ⟨v4, e4, h⟩ := me_bd h
    refine me_callVi X [.int p0, .int p1] (ctX2_countMaximals_26 hn (Nat.le_trans (by decide) hnt) e4) kV_X11_361 rfl rfl (Nat.le_of_ble_eq_true rfl) me_k26 (Nat.le_of_ble_eq_true rfl) (Nat.le_refl _) (Nat.le_of_ble_eq_true rfl) dX11_maximals_29 ?_
    obtain rfl := me_so h
    exact me_iret X hr hlk dX11_maximals_32
  have hj19_1 : mX11_maximals_0_J19 p0 p1 M  = some r → me_W p l e R s m args below meth c 0 0 (MQ below (me_Qc D cA ad n A (some (.int r)) M) args s 0 0 A) D cA ad n 3 A 19 [(0, .ref (ad 0)), (1, .int p0), (2, .int p1)] [.ref (ad 0)] M := by
    intro h
    unfold mX11_maximals_0_J19 at h
    refine me_iconst X dX11_maximals_19 ic_0 ?_
    exact hj20_2 0 h
  refine me_if_eq X 19 (by decide) dX11_maximals_5 (fun c1 => ?_) (fun c1 => ?_)
  · have h := me_ip c1 h
    exact hj19_1  h
  · have h := me_in c1 h
    refine me_iload_n X (i := 2) 2 rfl dX11_maximals_8 ?_
    obtain ⟨v2, e2, h⟩ := me_bd h
    refine me_callSi X [.int p1] (ctX11_isOften hn (Nat.le_trans (by decide) hnt) e2) kS_X11_358 rfl rfl (Nat.le_of_ble_eq_true rfl) (Nat.le_refl _) (Nat.le_of_ble_eq_true rfl) dX11_maximals_9 ?_
    refine me_if_eq X 19 (by decide) dX11_maximals_12 (fun c2 => ?_) (fun c2 => ?_)
    · have h := me_ip c2 h
      exact hj19_1  h
    · have h := me_in c2 h
      refine me_iconst X dX11_maximals_15 ic_1 ?_
      refine me_goto X 20 (by decide) dX11_maximals_16 ?_
      exact hj20_2 1 h
def mX11_maximal_0_J56 (p3 : Int32) (v5 : Int32) (M : me_M) (s2 : Int32) : Option Int32 :=
  ((mX11_needElement_0 s2).bind fun _ => (if p3 = 0 then ((me_r M 27 240 v5).bind fun v7 => some v7) else (if p3 = 1 then ((me_r M 28 240 v5).bind fun v8 => ((me_r M 29 240 v5).bind fun v9 => ((mX2_firstPlace_26 M v8 v9).bind fun v10 => some v10))) else ((me_r M 29 240 v5).bind fun v11 => some v11))))
def mX11_maximal_0_J29 (p0 : Int32) (p1 : Int32) (p2 : Int32) (p3 : Int32) (M : me_M) (s1 : Int32) : Option Int32 :=
  ((mX11_needArgument_0 s1).bind fun _ => ((mX2_indexOfMaximal_26 M p0 p1 p2).bind fun v5 => (if v5 = (-1) then (mX11_maximal_0_J56 p3 v5 M 0) else (mX11_maximal_0_J56 p3 v5 M 1))))
def mX11_maximal_0_J28 (p0 : Int32) (p1 : Int32) (p2 : Int32) (p3 : Int32) (M : me_M)  : Option Int32 :=
  (mX11_maximal_0_J29 p0 p1 p2 p3 M 0)
def mX11_maximal_0 (M : me_M) (p0 : Int32) (p1 : Int32) (p2 : Int32) (p3 : Int32) : Option Int32 :=
  ((mX11_isLength p1).bind fun v1 => (if v1 = 0 then (mX11_maximal_0_J28 p0 p1 p2 p3 M ) else ((mX11_isOften p2).bind fun v2 => (if v2 = 0 then (mX11_maximal_0_J28 p0 p1 p2 p3 M ) else ((mX11_isWhat p3 2).bind fun v3 => (if v3 = 0 then (mX11_maximal_0_J28 p0 p1 p2 p3 M ) else (mX11_maximal_0_J29 p0 p1 p2 p3 M 1)))))))
set_option maxRecDepth 100000 in
set_option maxHeartbeats 4000000 in
theorem ctX11_maximal_0 {l : Launch} {n nt : Nat} (hn : 63 ≤ n) (hnt : 1 ≤ nt) {M : me_M} {p0 : Int32} {p1 : Int32} {p2 : Int32} {p3 : Int32} {r : Int32} (h : mX11_maximal_0 M p0 p1 p2 p3 = some r) : me_Ct l yX11_maximal cX11_maximal 6 (some .int) 2 n nt (fun ad => [.ref (ad 0), .int p0, .int p1, .int p2, .int p3]) M (fun _ => some (.int r)) M := by
  unfold mX11_maximal_0 at h
  refine me_enter (N0 := 63) RX11 rfl (plainFor_of_name pl_RX11) hn (Nat.le_trans (by decide) hnt) (fun _ => Nat.le_of_ble_eq_true rfl) ?_
  intro p e R s m args below meth c D cA ad tys A X hr hlk
  refine me_sub (L' := [(0, .ref (ad 0)), (1, .int p0), (2, .int p1), (3, .int p2), (4, .int p3)]) [0, 1, 2, 3, 4] rfl ?_
  refine me_aload_n X (i := 0) 0 rfl dX11_maximal_0 ?_
  refine me_iload_n X (i := 2) 2 rfl dX11_maximal_1 ?_
  obtain ⟨v1, e1, h⟩ := me_bd h
  refine me_callSi X [.int p1] (ctX11_isLength hn (Nat.le_trans (by decide) hnt) e1) kS_X11_338 rfl rfl (Nat.le_of_ble_eq_true rfl) (Nat.le_refl _) (Nat.le_of_ble_eq_true rfl) dX11_maximal_2 ?_
  have hj29_2 : ∀ (s1 : Int32), mX11_maximal_0_J29 p0 p1 p2 p3 M s1 = some r → me_W p l e R s m args below meth c 0 0 (MQ below (me_Qc D cA ad n A (some (.int r)) M) args s 0 0 A) D cA ad n 6 A 29 [(0, .ref (ad 0)), (1, .int p0), (2, .int p1), (3, .int p2), (4, .int p3)] [.int s1, .ref (ad 0)] M := by
    intro s1 h
    unfold mX11_maximal_0_J29 at h
    obtain ⟨_, e4, h⟩ := me_bd h
    refine me_callVv X [.int s1] (ctX11_needArgument_0 hn (Nat.le_trans (by decide) hnt) e4) kV_X11_122 rfl rfl (Nat.le_of_ble_eq_true rfl) me_k0 (Nat.le_of_ble_eq_true rfl) (Nat.le_refl _) (Nat.le_of_ble_eq_true rfl) dX11_maximal_29 ?_
    refine me_aload_n X (i := 0) 0 rfl dX11_maximal_32 ?_
    refine me_getr X 26 kF_X11_56 (Nat.le_of_ble_eq_true rfl) me_k0 me_f0_5 dX11_maximal_33 ?_
    refine me_iload_n X (i := 1) 1 rfl dX11_maximal_36 ?_
    refine me_iload_n X (i := 2) 2 rfl dX11_maximal_37 ?_
    refine me_iload_n X (i := 3) 3 rfl dX11_maximal_38 ?_
    obtain ⟨v5, e5, h⟩ := me_bd h
    refine me_callVi X [.int p0, .int p1, .int p2] (ctX2_indexOfMaximal_26 hn (Nat.le_trans (by decide) hnt) e5) kV_X11_364 rfl rfl (Nat.le_of_ble_eq_true rfl) me_k26 (Nat.le_of_ble_eq_true rfl) (Nat.le_refl _) (Nat.le_of_ble_eq_true rfl) dX11_maximal_39 ?_
    refine me_istore X (i := 5) [(5, .int v5), (0, .ref (ad 0)), (1, .int p0), (2, .int p1), (3, .int p2), (4, .int p3)] (Nat.le_of_ble_eq_true rfl) rfl dX11_maximal_42 ?_
    refine me_aload_n X (i := 0) 1 rfl dX11_maximal_44 ?_
    refine me_iload X (i := 5) 0 rfl dX11_maximal_45 ?_
    refine me_iconst X dX11_maximal_47 ic_m1 ?_
    have hj56_3 : ∀ (s2 : Int32), mX11_maximal_0_J56 p3 v5 M s2 = some r → me_W p l e R s m args below meth c 0 0 (MQ below (me_Qc D cA ad n A (some (.int r)) M) args s 0 0 A) D cA ad n 6 A 56 [(0, .ref (ad 0)), (4, .int p3), (5, .int v5)] [.int s2, .ref (ad 0)] M := by
      intro s2 h
      unfold mX11_maximal_0_J56 at h
      obtain ⟨_, e6, h⟩ := me_bd h
      refine me_callVv X [.int s2] (ctX11_needElement_0 hn (Nat.le_trans (by decide) hnt) e6) kV_X11_206 rfl rfl (Nat.le_of_ble_eq_true rfl) me_k0 (Nat.le_of_ble_eq_true rfl) (Nat.le_refl _) (Nat.le_of_ble_eq_true rfl) dX11_maximal_56 ?_
      refine me_iload X (i := 4) 1 rfl dX11_maximal_59 ?_
      by_cases c5 : p3 = 0
      · have h := me_ip c5 h
        refine me_look X (off := 27) 88 (by decide) (by rw [c5] <;> decide) (by decide) dX11_maximal_61 ?_
        refine me_aload_n X (i := 0) 0 rfl dX11_maximal_88 ?_
        refine me_getr X 26 kF_X11_56 (Nat.le_of_ble_eq_true rfl) me_k0 me_f0_5 dX11_maximal_89 ?_
        refine me_getr X 27 kF_X11_368 (Nat.le_of_ble_eq_true rfl) me_k26 me_f26_2 dX11_maximal_92 ?_
        refine me_iload X (i := 5) 2 rfl dX11_maximal_95 ?_
        obtain ⟨v7, e7, h⟩ := me_bd h
        refine me_iald X (Nat.le_of_ble_eq_true rfl) me_k27 e7 dX11_maximal_97 ?_
        obtain rfl := me_so h
        exact me_iret X hr hlk dX11_maximal_98
      · have h := me_in c5 h
        by_cases c6 : p3 = 1
        · have h := me_ip c6 h
          refine me_look X (off := 38) 99 (by decide) (by rw [c6] <;> decide) (by decide) dX11_maximal_61 ?_
          refine me_aload_n X (i := 0) 0 rfl dX11_maximal_99 ?_
          refine me_getr X 26 kF_X11_56 (Nat.le_of_ble_eq_true rfl) me_k0 me_f0_5 dX11_maximal_100 ?_
          refine me_aload_n X (i := 0) 0 rfl dX11_maximal_103 ?_
          refine me_getr X 26 kF_X11_56 (Nat.le_of_ble_eq_true rfl) me_k0 me_f0_5 dX11_maximal_104 ?_
          refine me_getr X 28 kF_X11_369 (Nat.le_of_ble_eq_true rfl) me_k26 me_f26_3 dX11_maximal_107 ?_
          refine me_iload X (i := 5) 2 rfl dX11_maximal_110 ?_
          obtain ⟨v8, e8, h⟩ := me_bd h
          refine me_iald X (Nat.le_of_ble_eq_true rfl) me_k28 e8 dX11_maximal_112 ?_
          refine me_aload_n X (i := 0) 0 rfl dX11_maximal_113 ?_
          refine me_getr X 26 kF_X11_56 (Nat.le_of_ble_eq_true rfl) me_k0 me_f0_5 dX11_maximal_114 ?_
          refine me_getr X 29 kF_X11_372 (Nat.le_of_ble_eq_true rfl) me_k26 me_f26_4 dX11_maximal_117 ?_
          refine me_iload X (i := 5) 2 rfl dX11_maximal_120 ?_
          obtain ⟨v9, e9, h⟩ := me_bd h
          refine me_iald X (Nat.le_of_ble_eq_true rfl) me_k29 e9 dX11_maximal_122 ?_
          obtain ⟨v10, e10, h⟩ := me_bd h
          refine me_callVi X [.int v8, .int v9] (ctX2_firstPlace_26 hn (Nat.le_trans (by decide) hnt) e10) kV_X11_375 rfl rfl (Nat.le_of_ble_eq_true rfl) me_k26 (Nat.le_of_ble_eq_true rfl) (Nat.le_refl _) (Nat.le_of_ble_eq_true rfl) dX11_maximal_123 ?_
          obtain rfl := me_so h
          exact me_iret X hr hlk dX11_maximal_126
        · have h := me_in c6 h
          refine me_look X 127 (off := 66) (by decide) (by show Op.lookupswitch.offset [(0, 27), (1, 38)] 66 _ = _; rw [lv_osw (k := 0) c5 (by decide), lv_osw (k := 1) c6 (by decide)]; rfl) (by decide) dX11_maximal_61 ?_
          refine me_aload_n X (i := 0) 0 rfl dX11_maximal_127 ?_
          refine me_getr X 26 kF_X11_56 (Nat.le_of_ble_eq_true rfl) me_k0 me_f0_5 dX11_maximal_128 ?_
          refine me_getr X 29 kF_X11_372 (Nat.le_of_ble_eq_true rfl) me_k26 me_f26_4 dX11_maximal_131 ?_
          refine me_iload X (i := 5) 2 rfl dX11_maximal_134 ?_
          obtain ⟨v11, e11, h⟩ := me_bd h
          refine me_iald X (Nat.le_of_ble_eq_true rfl) me_k29 e11 dX11_maximal_136 ?_
          obtain rfl := me_so h
          exact me_iret X hr hlk dX11_maximal_137
    refine me_icmp_eq X 55 (by decide) dX11_maximal_48 (fun c4 => ?_) (fun c4 => ?_)
    · have h := me_ip c4 h
      refine me_iconst X dX11_maximal_55 ic_0 ?_
      refine me_sub (L' := [(0, .ref (ad 0)), (4, .int p3), (5, .int v5)]) [1, 5, 0] rfl ?_
      exact hj56_3 0 h
    · have h := me_in c4 h
      refine me_iconst X dX11_maximal_51 ic_1 ?_
      refine me_goto X 56 (by decide) dX11_maximal_52 ?_
      refine me_sub (L' := [(0, .ref (ad 0)), (4, .int p3), (5, .int v5)]) [1, 5, 0] rfl ?_
      exact hj56_3 1 h
  have hj28_1 : mX11_maximal_0_J28 p0 p1 p2 p3 M  = some r → me_W p l e R s m args below meth c 0 0 (MQ below (me_Qc D cA ad n A (some (.int r)) M) args s 0 0 A) D cA ad n 6 A 28 [(0, .ref (ad 0)), (1, .int p0), (2, .int p1), (3, .int p2), (4, .int p3)] [.ref (ad 0)] M := by
    intro h
    unfold mX11_maximal_0_J28 at h
    refine me_iconst X dX11_maximal_28 ic_0 ?_
    exact hj29_2 0 h
  refine me_if_eq X 28 (by decide) dX11_maximal_5 (fun c1 => ?_) (fun c1 => ?_)
  · have h := me_ip c1 h
    exact hj28_1  h
  · have h := me_in c1 h
    refine me_iload_n X (i := 3) 3 rfl dX11_maximal_8 ?_
    obtain ⟨v2, e2, h⟩ := me_bd h
    refine me_callSi X [.int p2] (ctX11_isOften hn (Nat.le_trans (by decide) hnt) e2) kS_X11_358 rfl rfl (Nat.le_of_ble_eq_true rfl) (Nat.le_refl _) (Nat.le_of_ble_eq_true rfl) dX11_maximal_9 ?_
    refine me_if_eq X 28 (by decide) dX11_maximal_12 (fun c2 => ?_) (fun c2 => ?_)
    · have h := me_ip c2 h
      exact hj28_1  h
    · have h := me_in c2 h
      refine me_iload X (i := 4) 4 rfl dX11_maximal_15 ?_
      refine me_iconst X dX11_maximal_17 ic_2 ?_
      obtain ⟨v3, e3, h⟩ := me_bd h
      refine me_callSi X [.int p3, .int 2] (ctX11_isWhat hn (Nat.le_trans (by decide) hnt) e3) kS_X11_157 rfl rfl (Nat.le_of_ble_eq_true rfl) (Nat.le_refl _) (Nat.le_of_ble_eq_true rfl) dX11_maximal_18 ?_
      refine me_if_eq X 28 (by decide) dX11_maximal_21 (fun c3 => ?_) (fun c3 => ?_)
      · have h := me_ip c3 h
        exact hj28_1  h
      · have h := me_in c3 h
        refine me_iconst X dX11_maximal_24 ic_1 ?_
        refine me_goto X 29 (by decide) dX11_maximal_25 ?_
        exact hj29_2 1 h
def mX11_strings_0 (M : me_M) (p0 : Int32) : Option Int32 :=
  ((mX11_isLength p0).bind fun v1 => ((mX11_needArgument_0 v1).bind fun _ => ((mX2_unlikeStrings_26 M p0).bind fun v3 => some v3)))
set_option maxRecDepth 100000 in
set_option maxHeartbeats 4000000 in
theorem ctX11_strings_0 {l : Launch} {n nt : Nat} (hn : 63 ≤ n) (hnt : 1 ≤ nt) {M : me_M} {p0 : Int32} {r : Int32} (h : mX11_strings_0 M p0 = some r) : me_Ct l yX11_strings cX11_strings 2 (some .int) 3 n nt (fun ad => [.ref (ad 0), .int p0]) M (fun _ => some (.int r)) M := by
  unfold mX11_strings_0 at h
  refine me_enter (N0 := 63) RX11 rfl (plainFor_of_name pl_RX11) hn (Nat.le_trans (by decide) hnt) (fun _ => Nat.le_of_ble_eq_true rfl) ?_
  intro p e R s m args below meth c D cA ad tys A X hr hlk
  refine me_sub (L' := [(0, .ref (ad 0)), (1, .int p0)]) [0, 1] rfl ?_
  refine me_aload_n X (i := 0) 0 rfl dX11_strings_0 ?_
  refine me_iload_n X (i := 1) 1 rfl dX11_strings_1 ?_
  obtain ⟨v1, e1, h⟩ := me_bd h
  refine me_callSi X [.int p0] (ctX11_isLength hn (Nat.le_trans (by decide) hnt) e1) kS_X11_338 rfl rfl (Nat.le_of_ble_eq_true rfl) (Nat.le_refl _) (Nat.le_of_ble_eq_true rfl) dX11_strings_2 ?_
  obtain ⟨_, e2, h⟩ := me_bd h
  refine me_callVv X [.int v1] (ctX11_needArgument_0 hn (Nat.le_trans (by decide) hnt) e2) kV_X11_122 rfl rfl (Nat.le_of_ble_eq_true rfl) me_k0 (Nat.le_of_ble_eq_true rfl) (Nat.le_refl _) (Nat.le_of_ble_eq_true rfl) dX11_strings_5 ?_
  refine me_aload_n X (i := 0) 0 rfl dX11_strings_8 ?_
  refine me_getr X 26 kF_X11_56 (Nat.le_of_ble_eq_true rfl) me_k0 me_f0_5 dX11_strings_9 ?_
  refine me_iload_n X (i := 1) 1 rfl dX11_strings_12 ?_
  obtain ⟨v3, e3, h⟩ := me_bd h
  refine me_callVi X [.int p0] (ctX2_unlikeStrings_26 hn (Nat.le_trans (by decide) hnt) e3) kV_X11_378 rfl rfl (Nat.le_of_ble_eq_true rfl) me_k26 (Nat.le_of_ble_eq_true rfl) (Nat.le_refl _) (Nat.le_of_ble_eq_true rfl) dX11_strings_13 ?_
  obtain rfl := me_so h
  exact me_iret X hr hlk dX11_strings_16
def mX11_repeat_0 (M : me_M) (p0 : Int32) : Option Int32 :=
  ((mX11_isWhat p0 2).bind fun v1 => ((mX11_needArgument_0 v1).bind fun _ => ((mX2_longest_26 M).bind fun v3 => (if v3 = 0 then (if p0 = 1 then some (-1) else some 0) else ((mX2_firstOfRepeat_26 M v3).bind fun v4 => (if p0 = 0 then some v3 else (if p0 = 1 then some v4 else ((mX2_timesFrom_26 M v4 v3).bind fun v5 => some v5))))))))
set_option maxRecDepth 100000 in
set_option maxHeartbeats 4000000 in
theorem ctX11_repeat_0 {l : Launch} {n nt : Nat} (hn : 63 ≤ n) (hnt : 1 ≤ nt) {M : me_M} {p0 : Int32} {r : Int32} (h : mX11_repeat_0 M p0 = some r) : me_Ct l yX11_repeat cX11_repeat 4 (some .int) 4 n nt (fun ad => [.ref (ad 0), .int p0]) M (fun _ => some (.int r)) M := by
  unfold mX11_repeat_0 at h
  refine me_enter (N0 := 63) RX11 rfl (plainFor_of_name pl_RX11) hn (Nat.le_trans (by decide) hnt) (fun _ => Nat.le_of_ble_eq_true rfl) ?_
  intro p e R s m args below meth c D cA ad tys A X hr hlk
  refine me_sub (L' := [(0, .ref (ad 0)), (1, .int p0)]) [0, 1] rfl ?_
  refine me_aload_n X (i := 0) 0 rfl dX11_repeat_0 ?_
  refine me_iload_n X (i := 1) 1 rfl dX11_repeat_1 ?_
  refine me_iconst X dX11_repeat_2 ic_2 ?_
  obtain ⟨v1, e1, h⟩ := me_bd h
  refine me_callSi X [.int p0, .int 2] (ctX11_isWhat hn (Nat.le_trans (by decide) hnt) e1) kS_X11_157 rfl rfl (Nat.le_of_ble_eq_true rfl) (Nat.le_refl _) (Nat.le_of_ble_eq_true rfl) dX11_repeat_3 ?_
  obtain ⟨_, e2, h⟩ := me_bd h
  refine me_callVv X [.int v1] (ctX11_needArgument_0 hn (Nat.le_trans (by decide) hnt) e2) kV_X11_122 rfl rfl (Nat.le_of_ble_eq_true rfl) me_k0 (Nat.le_of_ble_eq_true rfl) (Nat.le_refl _) (Nat.le_of_ble_eq_true rfl) dX11_repeat_6 ?_
  refine me_aload_n X (i := 0) 0 rfl dX11_repeat_9 ?_
  refine me_getr X 26 kF_X11_56 (Nat.le_of_ble_eq_true rfl) me_k0 me_f0_5 dX11_repeat_10 ?_
  obtain ⟨v3, e3, h⟩ := me_bd h
  refine me_callVi X [] (ctX2_longest_26 hn (Nat.le_trans (by decide) hnt) e3) kV_X11_381 rfl rfl (Nat.le_of_ble_eq_true rfl) me_k26 (Nat.le_of_ble_eq_true rfl) (Nat.le_refl _) (Nat.le_of_ble_eq_true rfl) dX11_repeat_13 ?_
  refine me_istore_n X (i := 2) [(2, .int v3), (0, .ref (ad 0)), (1, .int p0)] (Nat.le_of_ble_eq_true rfl) rfl dX11_repeat_16 ?_
  refine me_iload_n X (i := 2) 0 rfl dX11_repeat_17 ?_
  refine me_if_ne X 32 (by decide) dX11_repeat_18 (fun c1 => ?_) (fun c1 => ?_)
  · have h := me_in c1 h
    refine me_aload_n X (i := 0) 1 rfl dX11_repeat_32 ?_
    refine me_getr X 26 kF_X11_56 (Nat.le_of_ble_eq_true rfl) me_k0 me_f0_5 dX11_repeat_33 ?_
    refine me_iload_n X (i := 2) 0 rfl dX11_repeat_36 ?_
    obtain ⟨v4, e4, h⟩ := me_bd h
    refine me_callVi X [.int v3] (ctX2_firstOfRepeat_26 hn (Nat.le_trans (by decide) hnt) e4) kV_X11_384 rfl rfl (Nat.le_of_ble_eq_true rfl) me_k26 (Nat.le_of_ble_eq_true rfl) (Nat.le_refl _) (Nat.le_of_ble_eq_true rfl) dX11_repeat_37 ?_
    refine me_istore_n X (i := 3) [(3, .int v4), (2, .int v3), (0, .ref (ad 0)), (1, .int p0)] (Nat.le_of_ble_eq_true rfl) rfl dX11_repeat_40 ?_
    refine me_iload_n X (i := 1) 3 rfl dX11_repeat_41 ?_
    by_cases c2 : p0 = 0
    · have h := me_ip c2 h
      refine me_look X (off := 26) 68 (by decide) (by rw [c2] <;> decide) (by decide) dX11_repeat_42 ?_
      refine me_iload_n X (i := 2) 1 rfl dX11_repeat_68 ?_
      obtain rfl := me_so h
      exact me_iret X hr hlk dX11_repeat_69
    · have h := me_in c2 h
      by_cases c3 : p0 = 1
      · have h := me_ip c3 h
        refine me_look X (off := 28) 70 (by decide) (by rw [c3] <;> decide) (by decide) dX11_repeat_42 ?_
        refine me_iload_n X (i := 3) 0 rfl dX11_repeat_70 ?_
        obtain rfl := me_so h
        exact me_iret X hr hlk dX11_repeat_71
      · have h := me_in c3 h
        refine me_look X 72 (off := 30) (by decide) (by show Op.lookupswitch.offset [(0, 26), (1, 28)] 30 _ = _; rw [lv_osw (k := 0) c2 (by decide), lv_osw (k := 1) c3 (by decide)]; rfl) (by decide) dX11_repeat_42 ?_
        refine me_aload_n X (i := 0) 2 rfl dX11_repeat_72 ?_
        refine me_getr X 26 kF_X11_56 (Nat.le_of_ble_eq_true rfl) me_k0 me_f0_5 dX11_repeat_73 ?_
        refine me_iload_n X (i := 3) 0 rfl dX11_repeat_76 ?_
        refine me_iload_n X (i := 2) 1 rfl dX11_repeat_77 ?_
        obtain ⟨v5, e5, h⟩ := me_bd h
        refine me_callVi X [.int v4, .int v3] (ctX2_timesFrom_26 hn (Nat.le_trans (by decide) hnt) e5) kV_X11_387 rfl rfl (Nat.le_of_ble_eq_true rfl) me_k26 (Nat.le_of_ble_eq_true rfl) (Nat.le_refl _) (Nat.le_of_ble_eq_true rfl) dX11_repeat_78 ?_
        obtain rfl := me_so h
        exact me_iret X hr hlk dX11_repeat_81
  · have h := me_ip c1 h
    refine me_iload_n X (i := 1) 2 rfl dX11_repeat_21 ?_
    refine me_iconst X dX11_repeat_22 ic_1 ?_
    refine me_icmp_ne X 30 (by decide) dX11_repeat_23 (fun c4 => ?_) (fun c4 => ?_)
    · have h := me_in c4 h
      refine me_iconst X dX11_repeat_30 ic_0 ?_
      obtain rfl := me_so h
      exact me_iret X hr hlk dX11_repeat_31
    · have h := me_ip c4 h
      refine me_iconst X dX11_repeat_26 ic_m1 ?_
      refine me_goto X 31 (by decide) dX11_repeat_27 ?_
      obtain rfl := me_so h
      exact me_iret X hr hlk dX11_repeat_31
def mX11_unique_0 (M : me_M) (p0 : Int32) : Option Int32 :=
  ((mX11_isPlace_0 M p0).bind fun v1 => ((mX11_needElement_0 v1).bind fun _ => ((mX2_lettersAlone_26 M p0).bind fun v3 => some v3)))
set_option maxRecDepth 100000 in
set_option maxHeartbeats 4000000 in
theorem ctX11_unique_0 {l : Launch} {n nt : Nat} (hn : 63 ≤ n) (hnt : 1 ≤ nt) {M : me_M} {p0 : Int32} {r : Int32} (h : mX11_unique_0 M p0 = some r) : me_Ct l yX11_unique cX11_unique 2 (some .int) 4 n nt (fun ad => [.ref (ad 0), .int p0]) M (fun _ => some (.int r)) M := by
  unfold mX11_unique_0 at h
  refine me_enter (N0 := 63) RX11 rfl (plainFor_of_name pl_RX11) hn (Nat.le_trans (by decide) hnt) (fun _ => Nat.le_of_ble_eq_true rfl) ?_
  intro p e R s m args below meth c D cA ad tys A X hr hlk
  refine me_sub (L' := [(0, .ref (ad 0)), (1, .int p0)]) [0, 1] rfl ?_
  refine me_aload_n X (i := 0) 0 rfl dX11_unique_0 ?_
  refine me_aload_n X (i := 0) 0 rfl dX11_unique_1 ?_
  refine me_iload_n X (i := 1) 1 rfl dX11_unique_2 ?_
  obtain ⟨v1, e1, h⟩ := me_bd h
  refine me_callVi X [.int p0] (ctX11_isPlace_0 hn (Nat.le_trans (by decide) hnt) e1) kV_X11_203 rfl rfl (Nat.le_of_ble_eq_true rfl) me_k0 (Nat.le_of_ble_eq_true rfl) (Nat.le_refl _) (Nat.le_of_ble_eq_true rfl) dX11_unique_3 ?_
  obtain ⟨_, e2, h⟩ := me_bd h
  refine me_callVv X [.int v1] (ctX11_needElement_0 hn (Nat.le_trans (by decide) hnt) e2) kV_X11_206 rfl rfl (Nat.le_of_ble_eq_true rfl) me_k0 (Nat.le_of_ble_eq_true rfl) (Nat.le_refl _) (Nat.le_of_ble_eq_true rfl) dX11_unique_6 ?_
  refine me_aload_n X (i := 0) 0 rfl dX11_unique_9 ?_
  refine me_getr X 26 kF_X11_56 (Nat.le_of_ble_eq_true rfl) me_k0 me_f0_5 dX11_unique_10 ?_
  refine me_iload_n X (i := 1) 1 rfl dX11_unique_13 ?_
  obtain ⟨v3, e3, h⟩ := me_bd h
  refine me_callVi X [.int p0] (ctX2_lettersAlone_26 hn (Nat.le_trans (by decide) hnt) e3) kV_X11_390 rfl rfl (Nat.le_of_ble_eq_true rfl) me_k26 (Nat.le_of_ble_eq_true rfl) (Nat.le_refl _) (Nat.le_of_ble_eq_true rfl) dX11_unique_14 ?_
  obtain rfl := me_so h
  exact me_iret X hr hlk dX11_unique_17
def mX11_around_0 (M : me_M) (p0 : Int32) (p1 : Int32) : Option Int32 :=
  ((mX11_isPlace_0 M p0).bind fun v1 => ((mX11_needElement_0 v1).bind fun _ => ((mX11_isWhat p1 1).bind fun v3 => ((mX11_needArgument_0 v3).bind fun _ => ((mX2_startAround_26 M p0).bind fun v5 => (if v5 = (-1) then some (-1) else (if p1 = 0 then ((mX2_lettersAround_26 M v5 p0).bind fun v6 => some v6) else some v5)))))))
set_option maxRecDepth 100000 in
set_option maxHeartbeats 4000000 in
theorem ctX11_around_0 {l : Launch} {n nt : Nat} (hn : 63 ≤ n) (hnt : 1 ≤ nt) {M : me_M} {p0 : Int32} {p1 : Int32} {r : Int32} (h : mX11_around_0 M p0 p1 = some r) : me_Ct l yX11_around cX11_around 4 (some .int) 6 n nt (fun ad => [.ref (ad 0), .int p0, .int p1]) M (fun _ => some (.int r)) M := by
  unfold mX11_around_0 at h
  refine me_enter (N0 := 63) RX11 rfl (plainFor_of_name pl_RX11) hn (Nat.le_trans (by decide) hnt) (fun _ => Nat.le_of_ble_eq_true rfl) ?_
  intro p e R s m args below meth c D cA ad tys A X hr hlk
  refine me_sub (L' := [(0, .ref (ad 0)), (1, .int p0), (2, .int p1)]) [0, 1, 2] rfl ?_
  refine me_aload_n X (i := 0) 0 rfl dX11_around_0 ?_
  refine me_aload_n X (i := 0) 0 rfl dX11_around_1 ?_
  refine me_iload_n X (i := 1) 1 rfl dX11_around_2 ?_
  obtain ⟨v1, e1, h⟩ := me_bd h
  refine me_callVi X [.int p0] (ctX11_isPlace_0 hn (Nat.le_trans (by decide) hnt) e1) kV_X11_203 rfl rfl (Nat.le_of_ble_eq_true rfl) me_k0 (Nat.le_of_ble_eq_true rfl) (Nat.le_refl _) (Nat.le_of_ble_eq_true rfl) dX11_around_3 ?_
  obtain ⟨_, e2, h⟩ := me_bd h
  refine me_callVv X [.int v1] (ctX11_needElement_0 hn (Nat.le_trans (by decide) hnt) e2) kV_X11_206 rfl rfl (Nat.le_of_ble_eq_true rfl) me_k0 (Nat.le_of_ble_eq_true rfl) (Nat.le_refl _) (Nat.le_of_ble_eq_true rfl) dX11_around_6 ?_
  refine me_aload_n X (i := 0) 0 rfl dX11_around_9 ?_
  refine me_iload_n X (i := 2) 2 rfl dX11_around_10 ?_
  refine me_iconst X dX11_around_11 ic_1 ?_
  obtain ⟨v3, e3, h⟩ := me_bd h
  refine me_callSi X [.int p1, .int 1] (ctX11_isWhat hn (Nat.le_trans (by decide) hnt) e3) kS_X11_157 rfl rfl (Nat.le_of_ble_eq_true rfl) (Nat.le_refl _) (Nat.le_of_ble_eq_true rfl) dX11_around_12 ?_
  obtain ⟨_, e4, h⟩ := me_bd h
  refine me_callVv X [.int v3] (ctX11_needArgument_0 hn (Nat.le_trans (by decide) hnt) e4) kV_X11_122 rfl rfl (Nat.le_of_ble_eq_true rfl) me_k0 (Nat.le_of_ble_eq_true rfl) (Nat.le_refl _) (Nat.le_of_ble_eq_true rfl) dX11_around_15 ?_
  refine me_aload_n X (i := 0) 0 rfl dX11_around_18 ?_
  refine me_getr X 26 kF_X11_56 (Nat.le_of_ble_eq_true rfl) me_k0 me_f0_5 dX11_around_19 ?_
  refine me_iload_n X (i := 1) 1 rfl dX11_around_22 ?_
  obtain ⟨v5, e5, h⟩ := me_bd h
  refine me_callVi X [.int p0] (ctX2_startAround_26 hn (Nat.le_trans (by decide) hnt) e5) kV_X11_392 rfl rfl (Nat.le_of_ble_eq_true rfl) me_k26 (Nat.le_of_ble_eq_true rfl) (Nat.le_refl _) (Nat.le_of_ble_eq_true rfl) dX11_around_23 ?_
  refine me_istore_n X (i := 3) [(3, .int v5), (0, .ref (ad 0)), (1, .int p0), (2, .int p1)] (Nat.le_of_ble_eq_true rfl) rfl dX11_around_26 ?_
  refine me_iload_n X (i := 3) 0 rfl dX11_around_27 ?_
  refine me_iconst X dX11_around_28 ic_m1 ?_
  refine me_icmp_ne X 34 (by decide) dX11_around_29 (fun c1 => ?_) (fun c1 => ?_)
  · have h := me_in c1 h
    refine me_iload_n X (i := 2) 3 rfl dX11_around_34 ?_
    refine me_if_ne X 50 (by decide) dX11_around_35 (fun c2 => ?_) (fun c2 => ?_)
    · have h := me_in c2 h
      refine me_iload_n X (i := 3) 0 rfl dX11_around_50 ?_
      obtain rfl := me_so h
      exact me_iret X hr hlk dX11_around_51
    · have h := me_ip c2 h
      refine me_aload_n X (i := 0) 1 rfl dX11_around_38 ?_
      refine me_getr X 26 kF_X11_56 (Nat.le_of_ble_eq_true rfl) me_k0 me_f0_5 dX11_around_39 ?_
      refine me_iload_n X (i := 3) 0 rfl dX11_around_42 ?_
      refine me_iload_n X (i := 1) 2 rfl dX11_around_43 ?_
      obtain ⟨v6, e6, h⟩ := me_bd h
      refine me_callVi X [.int v5, .int p0] (ctX2_lettersAround_26 hn (Nat.le_trans (by decide) hnt) e6) kV_X11_395 rfl rfl (Nat.le_of_ble_eq_true rfl) me_k26 (Nat.le_of_ble_eq_true rfl) (Nat.le_refl _) (Nat.le_of_ble_eq_true rfl) dX11_around_44 ?_
      refine me_goto X 51 (by decide) dX11_around_47 ?_
      obtain rfl := me_so h
      exact me_iret X hr hlk dX11_around_51
  · have h := me_ip c1 h
    refine me_iconst X dX11_around_32 ic_m1 ?_
    obtain rfl := me_so h
    exact me_iret X hr hlk dX11_around_33
def mX11_common_0 (M : me_M) (p0 : Int32) : Option (Int32 × me_M) :=
  ((mX11_isWhat p0 1).bind fun v1 => ((mX11_needArgument_0 v1).bind fun _ => ((mX8_findCommon_30 M).bind fun M1 => (if p0 = 0 then some ((M1.1 30 7), M1) else some ((M1.1 30 8), M1)))))
set_option maxRecDepth 100000 in
set_option maxHeartbeats 4000000 in
theorem ctX11_common_0 {l : Launch} {n nt : Nat} (hn : 63 ≤ n) (hnt : 1 ≤ nt) {M : me_M} {p0 : Int32} {r : Int32} {M' : me_M} (h : mX11_common_0 M p0 = some (r, M')) : me_Ct l yX11_common cX11_common 2 (some .int) 4 n nt (fun ad => [.ref (ad 0), .int p0]) M (fun _ => some (.int r)) M' := by
  unfold mX11_common_0 at h
  refine me_enter (N0 := 63) RX11 rfl (plainFor_of_name pl_RX11) hn (Nat.le_trans (by decide) hnt) (fun _ => Nat.le_of_ble_eq_true rfl) ?_
  intro p e R s m args below meth c D cA ad tys A X hr hlk
  refine me_sub (L' := [(0, .ref (ad 0)), (1, .int p0)]) [0, 1] rfl ?_
  refine me_aload_n X (i := 0) 0 rfl dX11_common_0 ?_
  refine me_iload_n X (i := 1) 1 rfl dX11_common_1 ?_
  refine me_iconst X dX11_common_2 ic_1 ?_
  obtain ⟨v1, e1, h⟩ := me_bd h
  refine me_callSi X [.int p0, .int 1] (ctX11_isWhat hn (Nat.le_trans (by decide) hnt) e1) kS_X11_157 rfl rfl (Nat.le_of_ble_eq_true rfl) (Nat.le_refl _) (Nat.le_of_ble_eq_true rfl) dX11_common_3 ?_
  obtain ⟨_, e2, h⟩ := me_bd h
  refine me_callVv X [.int v1] (ctX11_needArgument_0 hn (Nat.le_trans (by decide) hnt) e2) kV_X11_122 rfl rfl (Nat.le_of_ble_eq_true rfl) me_k0 (Nat.le_of_ble_eq_true rfl) (Nat.le_refl _) (Nat.le_of_ble_eq_true rfl) dX11_common_6 ?_
  refine me_aload_n X (i := 0) 0 rfl dX11_common_9 ?_
  refine me_getr X 30 kF_X11_65 (Nat.le_of_ble_eq_true rfl) me_k0 me_f0_6 dX11_common_10 ?_
  obtain ⟨M1, e3, h⟩ := me_bd h
  refine me_callVv X [] (ctX8_findCommon_30 hn (Nat.le_trans (by decide) hnt) e3) kV_X11_398 rfl rfl (Nat.le_of_ble_eq_true rfl) me_k30 (Nat.le_of_ble_eq_true rfl) (Nat.le_refl _) (Nat.le_of_ble_eq_true rfl) dX11_common_13 ?_
  refine me_iload_n X (i := 1) 1 rfl dX11_common_16 ?_
  refine me_if_ne X 30 (by decide) dX11_common_17 (fun c1 => ?_) (fun c1 => ?_)
  · have h := me_in c1 h
    refine me_aload_n X (i := 0) 0 rfl dX11_common_30 ?_
    refine me_getr X 30 kF_X11_65 (Nat.le_of_ble_eq_true rfl) me_k0 me_f0_6 dX11_common_31 ?_
    refine me_geti X kF_X11_404 (Nat.le_of_ble_eq_true rfl) me_k30 me_f30_8 dX11_common_34 ?_
    obtain ⟨rfl, rfl⟩ := me_sp h
    exact me_iret X hr hlk dX11_common_37
  · have h := me_ip c1 h
    refine me_aload_n X (i := 0) 0 rfl dX11_common_20 ?_
    refine me_getr X 30 kF_X11_65 (Nat.le_of_ble_eq_true rfl) me_k0 me_f0_6 dX11_common_21 ?_
    refine me_geti X kF_X11_401 (Nat.le_of_ble_eq_true rfl) me_k30 me_f30_7 dX11_common_24 ?_
    refine me_goto X 37 (by decide) dX11_common_27 ?_
    obtain ⟨rfl, rfl⟩ := me_sp h
    exact me_iret X hr hlk dX11_common_37
def mX11_document_0_J21 (p0 : Int32) (p1 : Int32) (M : me_M) (s1 : Int32) : Option Int32 :=
  ((mX11_needElement_0 s1).bind fun _ => ((mX11_isWhat p1 2).bind fun v2 => ((mX11_needArgument_0 v2).bind fun _ => ((me_r M 8 241 p0).bind fun v4 => (if p1 = 0 then some v4 else (if p1 = 1 then ((me_r M 6 241 v4).bind fun v5 => some v5) else ((mX11_hitsIn_0 M p0).bind fun v6 => some v6)))))))
def mX11_document_0_J20 (p0 : Int32) (p1 : Int32) (M : me_M)  : Option Int32 :=
  (mX11_document_0_J21 p0 p1 M 0)
def mX11_document_0 (M : me_M) (p0 : Int32) (p1 : Int32) : Option Int32 :=
  (if p0 < 0 then (mX11_document_0_J20 p0 p1 M ) else (if (M.1 3 6) ≤ p0 then (mX11_document_0_J20 p0 p1 M ) else (mX11_document_0_J21 p0 p1 M 1)))
set_option maxRecDepth 100000 in
set_option maxHeartbeats 4000000 in
theorem ctX11_document_0 {l : Launch} {n nt : Nat} (hn : 63 ≤ n) (hnt : 1 ≤ nt) {M : me_M} {p0 : Int32} {p1 : Int32} {r : Int32} (h : mX11_document_0 M p0 p1 = some r) : me_Ct l yX11_document cX11_document 4 (some .int) 3 n nt (fun ad => [.ref (ad 0), .int p0, .int p1]) M (fun _ => some (.int r)) M := by
  unfold mX11_document_0 at h
  refine me_enter (N0 := 63) RX11 rfl (plainFor_of_name pl_RX11) hn (Nat.le_trans (by decide) hnt) (fun _ => Nat.le_of_ble_eq_true rfl) ?_
  intro p e R s m args below meth c D cA ad tys A X hr hlk
  refine me_sub (L' := [(0, .ref (ad 0)), (1, .int p0), (2, .int p1)]) [0, 1, 2] rfl ?_
  refine me_aload_n X (i := 0) 0 rfl dX11_document_0 ?_
  refine me_iload_n X (i := 1) 1 rfl dX11_document_1 ?_
  have hj21_2 : ∀ (s1 : Int32), mX11_document_0_J21 p0 p1 M s1 = some r → me_W p l e R s m args below meth c 0 0 (MQ below (me_Qc D cA ad n A (some (.int r)) M) args s 0 0 A) D cA ad n 4 A 21 [(0, .ref (ad 0)), (1, .int p0), (2, .int p1)] [.int s1, .ref (ad 0)] M := by
    intro s1 h
    unfold mX11_document_0_J21 at h
    obtain ⟨_, e1, h⟩ := me_bd h
    refine me_callVv X [.int s1] (ctX11_needElement_0 hn (Nat.le_trans (by decide) hnt) e1) kV_X11_206 rfl rfl (Nat.le_of_ble_eq_true rfl) me_k0 (Nat.le_of_ble_eq_true rfl) (Nat.le_refl _) (Nat.le_of_ble_eq_true rfl) dX11_document_21 ?_
    refine me_aload_n X (i := 0) 0 rfl dX11_document_24 ?_
    refine me_iload_n X (i := 2) 2 rfl dX11_document_25 ?_
    refine me_iconst X dX11_document_26 ic_2 ?_
    obtain ⟨v2, e2, h⟩ := me_bd h
    refine me_callSi X [.int p1, .int 2] (ctX11_isWhat hn (Nat.le_trans (by decide) hnt) e2) kS_X11_157 rfl rfl (Nat.le_of_ble_eq_true rfl) (Nat.le_refl _) (Nat.le_of_ble_eq_true rfl) dX11_document_27 ?_
    obtain ⟨_, e3, h⟩ := me_bd h
    refine me_callVv X [.int v2] (ctX11_needArgument_0 hn (Nat.le_trans (by decide) hnt) e3) kV_X11_122 rfl rfl (Nat.le_of_ble_eq_true rfl) me_k0 (Nat.le_of_ble_eq_true rfl) (Nat.le_refl _) (Nat.le_of_ble_eq_true rfl) dX11_document_30 ?_
    refine me_aload_n X (i := 0) 0 rfl dX11_document_33 ?_
    refine me_getr X 3 kF_X11_19 (Nat.le_of_ble_eq_true rfl) me_k0 me_f0_1 dX11_document_34 ?_
    refine me_getr X 8 kF_X11_250 (Nat.le_of_ble_eq_true rfl) me_k3 me_f3_4 dX11_document_37 ?_
    refine me_iload_n X (i := 1) 1 rfl dX11_document_40 ?_
    obtain ⟨v4, e4, h⟩ := me_bd h
    refine me_iald X (Nat.le_of_ble_eq_true rfl) me_k8 e4 dX11_document_41 ?_
    refine me_istore_n X (i := 3) [(3, .int v4), (0, .ref (ad 0)), (1, .int p0), (2, .int p1)] (Nat.le_of_ble_eq_true rfl) rfl dX11_document_42 ?_
    refine me_iload_n X (i := 2) 3 rfl dX11_document_43 ?_
    by_cases c3 : p1 = 0
    · have h := me_ip c3 h
      refine me_look X (off := 28) 72 (by decide) (by rw [c3] <;> decide) (by decide) dX11_document_44 ?_
      refine me_iload_n X (i := 3) 0 rfl dX11_document_72 ?_
      obtain rfl := me_so h
      exact me_iret X hr hlk dX11_document_73
    · have h := me_in c3 h
      by_cases c4 : p1 = 1
      · have h := me_ip c4 h
        refine me_look X (off := 30) 74 (by decide) (by rw [c4] <;> decide) (by decide) dX11_document_44 ?_
        refine me_aload_n X (i := 0) 1 rfl dX11_document_74 ?_
        refine me_getr X 3 kF_X11_19 (Nat.le_of_ble_eq_true rfl) me_k0 me_f0_1 dX11_document_75 ?_
        refine me_getr X 6 kF_X11_407 (Nat.le_of_ble_eq_true rfl) me_k3 me_f3_2 dX11_document_78 ?_
        refine me_iload_n X (i := 3) 0 rfl dX11_document_81 ?_
        obtain ⟨v5, e5, h⟩ := me_bd h
        refine me_iald X (Nat.le_of_ble_eq_true rfl) me_k6 e5 dX11_document_82 ?_
        obtain rfl := me_so h
        exact me_iret X hr hlk dX11_document_83
      · have h := me_in c4 h
        refine me_look X 84 (off := 40) (by decide) (by show Op.lookupswitch.offset [(0, 28), (1, 30)] 40 _ = _; rw [lv_osw (k := 0) c3 (by decide), lv_osw (k := 1) c4 (by decide)]; rfl) (by decide) dX11_document_44 ?_
        refine me_aload_n X (i := 0) 1 rfl dX11_document_84 ?_
        refine me_iload_n X (i := 1) 2 rfl dX11_document_85 ?_
        obtain ⟨v6, e6, h⟩ := me_bd h
        refine me_callVi X [.int p0] (ctX11_hitsIn_0 hn (Nat.le_trans (by decide) hnt) e6) kV_X11_410 rfl rfl (Nat.le_of_ble_eq_true rfl) me_k0 (Nat.le_of_ble_eq_true rfl) (Nat.le_refl _) (Nat.le_of_ble_eq_true rfl) dX11_document_86 ?_
        obtain rfl := me_so h
        exact me_iret X hr hlk dX11_document_89
  have hj20_1 : mX11_document_0_J20 p0 p1 M  = some r → me_W p l e R s m args below meth c 0 0 (MQ below (me_Qc D cA ad n A (some (.int r)) M) args s 0 0 A) D cA ad n 4 A 20 [(0, .ref (ad 0)), (1, .int p0), (2, .int p1)] [.ref (ad 0)] M := by
    intro h
    unfold mX11_document_0_J20 at h
    refine me_iconst X dX11_document_20 ic_0 ?_
    exact hj21_2 0 h
  refine me_if_lt X 20 (by decide) dX11_document_2 (fun c1 => ?_) (fun c1 => ?_)
  · have h := me_ip c1 h
    exact hj20_1  h
  · have h := me_in c1 h
    refine me_iload_n X (i := 1) 1 rfl dX11_document_5 ?_
    refine me_aload_n X (i := 0) 0 rfl dX11_document_6 ?_
    refine me_getr X 3 kF_X11_19 (Nat.le_of_ble_eq_true rfl) me_k0 me_f0_1 dX11_document_7 ?_
    refine me_geti X kF_X11_177 (Nat.le_of_ble_eq_true rfl) me_k3 me_f3_6 dX11_document_10 ?_
    refine me_icmp_ge X 20 (by decide) dX11_document_13 (fun c2 => ?_) (fun c2 => ?_)
    · have h := me_ip c2 h
      exact hj20_1  h
    · have h := me_in c2 h
      refine me_iconst X dX11_document_16 ic_1 ?_
      refine me_goto X 21 (by decide) dX11_document_17 ?_
      exact hj21_2 1 h
def mX11_print_0_L19 (M : me_M) : (Int64 × Int32) → Option ((Int64 × Int32) ⊕ (Int64))
  | (x3_1, x5_1) => (if (M.1 3 5) < x5_1 then some (.inr x3_1) else ((mX4_before_9 M x5_1).bind fun v4 => ((mX11_byteOf v4).bind fun v5 => some (.inl (((31 * x3_1) + v5.toInt64), (x5_1 + 1))))))
def mX11_print_0_L19_1 (M : me_M) : (Int64 × Int32) → Option ((Int64 × Int32) ⊕ (Int64))
  | (x3_2, x5_2) => (if (M.1 3 5) < x5_2 then some (.inr x3_2) else ((mX4_before_14 M x5_2).bind fun v6 => ((mX11_byteOf v6).bind fun v7 => some (.inl (((31 * x3_2) + v7.toInt64), (x5_2 + 1))))))
def mX11_print_0 (M : me_M) (p0 : Int32) : Option Int64 :=
  ((mX11_isSide p0).bind fun v1 => ((mX11_needElement_0 v1).bind fun _ => ((mX11_rowsOf_0 M p0).bind fun v3 => (if v3 = 9 then ((me_l (mX11_print_0_L19 M) me_fu (0, 0)).bind fun y3_1 => some y3_1) else (if v3 = 14 then ((me_l (mX11_print_0_L19_1 M) me_fu (0, 0)).bind fun y3_2 => some y3_2) else none)))))
set_option maxRecDepth 100000 in
set_option maxHeartbeats 4000000 in
theorem ctX11_print_0 {l : Launch} {n nt : Nat} (hn : 63 ≤ n) (hnt : 1 ≤ nt) {M : me_M} {p0 : Int32} {r : Int64} (h : mX11_print_0 M p0 = some r) : me_Ct l yX11_print cX11_print 6 (some .long) 1 n nt (fun ad => [.ref (ad 0), .int p0]) M (fun _ => some (.long r)) M := by
  unfold mX11_print_0 at h
  refine me_enter (N0 := 63) RX11 rfl (plainFor_of_name pl_RX11) hn (Nat.le_trans (by decide) hnt) (fun _ => Nat.le_of_ble_eq_true rfl) ?_
  intro p e R s m args below meth c D cA ad tys A X hr hlk
  refine me_sub (L' := [(0, .ref (ad 0)), (1, .int p0)]) [0, 1] rfl ?_
  refine me_aload_n X (i := 0) 0 rfl dX11_print_0 ?_
  refine me_iload_n X (i := 1) 1 rfl dX11_print_1 ?_
  obtain ⟨v1, e1, h⟩ := me_bd h
  refine me_callSi X [.int p0] (ctX11_isSide hn (Nat.le_trans (by decide) hnt) e1) kS_X11_212 rfl rfl (Nat.le_of_ble_eq_true rfl) (Nat.le_refl _) (Nat.le_of_ble_eq_true rfl) dX11_print_2 ?_
  obtain ⟨_, e2, h⟩ := me_bd h
  refine me_callVv X [.int v1] (ctX11_needElement_0 hn (Nat.le_trans (by decide) hnt) e2) kV_X11_206 rfl rfl (Nat.le_of_ble_eq_true rfl) me_k0 (Nat.le_of_ble_eq_true rfl) (Nat.le_refl _) (Nat.le_of_ble_eq_true rfl) dX11_print_5 ?_
  refine me_aload_n X (i := 0) 0 rfl dX11_print_8 ?_
  refine me_iload_n X (i := 1) 1 rfl dX11_print_9 ?_
  obtain ⟨v3, e3, h⟩ := me_bd h
  refine me_callVa X [.int p0] (ctX11_rowsOf_0 hn (Nat.le_trans (by decide) hnt) e3) kV_X11_215 rfl rfl (Nat.le_of_ble_eq_true rfl) me_k0 (Nat.le_of_ble_eq_true rfl) (Nat.le_refl _) (Nat.le_of_ble_eq_true rfl) dX11_print_10 ?_
  by_cases c4 : v3 = 9
  · have h := me_ip c4 h
    subst c4
    refine me_astore_n X (i := 2) [(2, .ref (ad 9)), (0, .ref (ad 0)), (1, .int p0)] (Nat.le_of_ble_eq_true rfl) rfl dX11_print_13 ?_
    refine me_lconst (v := 0) X dX11_print_14 (by decide) ?_
    refine me_lstore_n X (i := 3) [(3, .long 0), (2, .ref (ad 9)), (0, .ref (ad 0)), (1, .int p0)] (Nat.le_of_ble_eq_true rfl) rfl dX11_print_15 ?_
    refine me_iconst X dX11_print_16 ic_0 ?_
    refine me_istore X (i := 5) [(5, .int 0), (3, .long 0), (2, .ref (ad 9)), (0, .ref (ad 0)), (1, .int p0)] (Nat.le_of_ble_eq_true rfl) rfl dX11_print_17 ?_
    obtain ⟨y3_1, hq1, h⟩ := me_bd h
    have hx1 : me_W p l e R s m args below meth c 0 0 (MQ below (me_Qc D cA ad n A (some (.long r)) M) args s 0 0 A) D cA ad n 6 A 54 [(3, .long y3_1)] [] M := by
      refine me_lload_n X (i := 3) 0 rfl dX11_print_54 ?_
      obtain rfl := me_so h
      exact me_lret X hr hlk dX11_print_55
    refine me_sub (L' := [(0, .ref (ad 0)), (2, .ref (ad 9)), (3, .long 0), (5, .int 0)]) [3, 2, 1, 0] rfl ?_
    refine me_l_W (b := (mX11_print_0_L19 M)) (P := fun w => me_W p l e R s m args below meth c 0 0 (MQ below (me_Qc D cA ad n A (some (.long r)) M) args s 0 0 A) D cA ad n 6 A 19 [(0, .ref (ad 0)), (2, .ref (ad 9)), (3, .long w.1), (5, .int w.2)] [] M) (r := y3_1) ?_ me_fu (0, 0) hq1
    rintro ⟨x3_1, x5_1⟩ z1 h hb1 - hr1
    unfold mX11_print_0_L19 at h
    refine me_iload X (i := 5) 3 rfl dX11_print_19 ?_
    refine me_aload_n X (i := 0) 0 rfl dX11_print_21 ?_
    refine me_getr X 3 kF_X11_19 (Nat.le_of_ble_eq_true rfl) me_k0 me_f0_1 dX11_print_22 ?_
    refine me_geti X kF_X11_176 (Nat.le_of_ble_eq_true rfl) me_k3 me_f3_5 dX11_print_25 ?_
    refine me_icmp_gt X 54 (by decide) dX11_print_28 (fun c1 => ?_) (fun c1 => ?_)
    · have h := me_ip c1 h
      obtain rfl := me_so h
      have q := hr1 _ rfl
      refine me_sub (L' := [(3, .long x3_1)]) [2] rfl ?_
      cases q
      exact hx1
    · have h := me_in c1 h
      refine me_ldc2 X tw_1298 dX11_print_31 ?_
      refine me_lload_n X (i := 3) 2 rfl dX11_print_34 ?_
      refine me_lmul X dX11_print_35 ?_
      refine me_aload_n X (i := 2) 1 rfl dX11_print_36 ?_
      refine me_iload X (i := 5) 3 rfl dX11_print_37 ?_
      obtain ⟨v4, e4, h⟩ := me_bd h
      refine me_callVi X [.int x5_1] (ctX4_before_9 hn (Nat.le_trans (by decide) hnt) e4) kV_X11_223 rfl rfl (Nat.le_of_ble_eq_true rfl) me_k9 (Nat.le_of_ble_eq_true rfl) (Nat.le_refl _) (Nat.le_of_ble_eq_true rfl) dX11_print_39 ?_
      obtain ⟨v5, e5, h⟩ := me_bd h
      refine me_callSi X [.int v4] (ctX11_byteOf hn (Nat.le_trans (by decide) hnt) e5) kS_X11_209 rfl rfl (Nat.le_of_ble_eq_true rfl) (Nat.le_refl _) (Nat.le_of_ble_eq_true rfl) dX11_print_42 ?_
      refine me_i2l X dX11_print_45 ?_
      refine me_ladd X dX11_print_46 ?_
      refine me_lstore_n X (i := 3) [(3, .long ((31 * x3_1) + v5.toInt64)), (0, .ref (ad 0)), (2, .ref (ad 9)), (5, .int x5_1)] (Nat.le_of_ble_eq_true rfl) rfl dX11_print_47 ?_
      refine me_iinc X (v := (x5_1 + 1)) 3 rfl (in_1 _) [(5, .int (x5_1 + 1)), (3, .long ((31 * x3_1) + v5.toInt64)), (0, .ref (ad 0)), (2, .ref (ad 9))] (Nat.le_of_ble_eq_true rfl) rfl dX11_print_48 ?_
      refine me_goto X 19 (by decide) dX11_print_51 ?_
      obtain rfl := me_so h
      refine me_sub (L' := [(0, .ref (ad 0)), (2, .ref (ad 9)), (3, .long ((31 * x3_1) + v5.toInt64)), (5, .int (x5_1 + 1))]) [2, 3, 1, 0] rfl ?_
      exact hb1 (((31 * x3_1) + v5.toInt64), (x5_1 + 1)) rfl
  · have h := me_in c4 h
    by_cases c3 : v3 = 14
    · have h := me_ip c3 h
      subst c3
      refine me_astore_n X (i := 2) [(2, .ref (ad 14)), (0, .ref (ad 0)), (1, .int p0)] (Nat.le_of_ble_eq_true rfl) rfl dX11_print_13 ?_
      refine me_lconst (v := 0) X dX11_print_14 (by decide) ?_
      refine me_lstore_n X (i := 3) [(3, .long 0), (2, .ref (ad 14)), (0, .ref (ad 0)), (1, .int p0)] (Nat.le_of_ble_eq_true rfl) rfl dX11_print_15 ?_
      refine me_iconst X dX11_print_16 ic_0 ?_
      refine me_istore X (i := 5) [(5, .int 0), (3, .long 0), (2, .ref (ad 14)), (0, .ref (ad 0)), (1, .int p0)] (Nat.le_of_ble_eq_true rfl) rfl dX11_print_17 ?_
      obtain ⟨y3_2, hq2, h⟩ := me_bd h
      have hx2 : me_W p l e R s m args below meth c 0 0 (MQ below (me_Qc D cA ad n A (some (.long r)) M) args s 0 0 A) D cA ad n 6 A 54 [(3, .long y3_2)] [] M := by
        refine me_lload_n X (i := 3) 0 rfl dX11_print_54 ?_
        obtain rfl := me_so h
        exact me_lret X hr hlk dX11_print_55
      refine me_sub (L' := [(0, .ref (ad 0)), (2, .ref (ad 14)), (3, .long 0), (5, .int 0)]) [3, 2, 1, 0] rfl ?_
      refine me_l_W (b := (mX11_print_0_L19_1 M)) (P := fun w => me_W p l e R s m args below meth c 0 0 (MQ below (me_Qc D cA ad n A (some (.long r)) M) args s 0 0 A) D cA ad n 6 A 19 [(0, .ref (ad 0)), (2, .ref (ad 14)), (3, .long w.1), (5, .int w.2)] [] M) (r := y3_2) ?_ me_fu (0, 0) hq2
      rintro ⟨x3_2, x5_2⟩ z2 h hb2 - hr2
      unfold mX11_print_0_L19_1 at h
      refine me_iload X (i := 5) 3 rfl dX11_print_19 ?_
      refine me_aload_n X (i := 0) 0 rfl dX11_print_21 ?_
      refine me_getr X 3 kF_X11_19 (Nat.le_of_ble_eq_true rfl) me_k0 me_f0_1 dX11_print_22 ?_
      refine me_geti X kF_X11_176 (Nat.le_of_ble_eq_true rfl) me_k3 me_f3_5 dX11_print_25 ?_
      refine me_icmp_gt X 54 (by decide) dX11_print_28 (fun c2 => ?_) (fun c2 => ?_)
      · have h := me_ip c2 h
        obtain rfl := me_so h
        have q := hr2 _ rfl
        refine me_sub (L' := [(3, .long x3_2)]) [2] rfl ?_
        cases q
        exact hx2
      · have h := me_in c2 h
        refine me_ldc2 X tw_1298 dX11_print_31 ?_
        refine me_lload_n X (i := 3) 2 rfl dX11_print_34 ?_
        refine me_lmul X dX11_print_35 ?_
        refine me_aload_n X (i := 2) 1 rfl dX11_print_36 ?_
        refine me_iload X (i := 5) 3 rfl dX11_print_37 ?_
        obtain ⟨v6, e6, h⟩ := me_bd h
        refine me_callVi X [.int x5_2] (ctX4_before_14 hn (Nat.le_trans (by decide) hnt) e6) kV_X11_223 rfl rfl (Nat.le_of_ble_eq_true rfl) me_k14 (Nat.le_of_ble_eq_true rfl) (Nat.le_refl _) (Nat.le_of_ble_eq_true rfl) dX11_print_39 ?_
        obtain ⟨v7, e7, h⟩ := me_bd h
        refine me_callSi X [.int v6] (ctX11_byteOf hn (Nat.le_trans (by decide) hnt) e7) kS_X11_209 rfl rfl (Nat.le_of_ble_eq_true rfl) (Nat.le_refl _) (Nat.le_of_ble_eq_true rfl) dX11_print_42 ?_
        refine me_i2l X dX11_print_45 ?_
        refine me_ladd X dX11_print_46 ?_
        refine me_lstore_n X (i := 3) [(3, .long ((31 * x3_2) + v7.toInt64)), (0, .ref (ad 0)), (2, .ref (ad 14)), (5, .int x5_2)] (Nat.le_of_ble_eq_true rfl) rfl dX11_print_47 ?_
        refine me_iinc X (v := (x5_2 + 1)) 3 rfl (in_1 _) [(5, .int (x5_2 + 1)), (3, .long ((31 * x3_2) + v7.toInt64)), (0, .ref (ad 0)), (2, .ref (ad 14))] (Nat.le_of_ble_eq_true rfl) rfl dX11_print_48 ?_
        refine me_goto X 19 (by decide) dX11_print_51 ?_
        obtain rfl := me_so h
        refine me_sub (L' := [(0, .ref (ad 0)), (2, .ref (ad 14)), (3, .long ((31 * x3_2) + v7.toInt64)), (5, .int (x5_2 + 1))]) [2, 3, 1, 0] rfl ?_
        exact hb2 (((31 * x3_2) + v7.toInt64), (x5_2 + 1)) rfl
    · have h := me_in c3 h
      cases h
