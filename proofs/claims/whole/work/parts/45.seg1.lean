def sg_sound (xs : Nat → Int32) (Lx : Nat) (i : Int32) (M : me_M) : Option me_M :=
  ((mX11_sound_0 M).bind fun (v1, M1) => ((mX12_sound_63 M1).bind fun (v2, M2) => (if v1 = v2 then some M2 else none)))
set_option maxRecDepth 100000 in
set_option maxHeartbeats 4000000 in
theorem ct_sg_sound {p : Program} {l : Launch} {e : Env} {R : Room} {s : State} {m : MethodId} {args : Array Value} {below : List Frame} {meth : Method} {c : Code} {cells slots : Nat} {Q : State → Prop} {D : va_G} {cA : Nat → ClassId} {ad : Nat → Nat} {A : Nat → Prop} {tys : List (ClassId × FieldType)} (hl : l.stackTraces = false) (X : me_X p R s m args c D cA ad 425 5 425 8 cells slots 200 A cL_law RL tys) (hz : me_Z A s s.heap) {b Lx : Nat} {xs : Nat → Int32} (hX : va_X b Lx xs s s.heap) (hbl : b < s.heap.size) (hbA : ¬ A b) (hRc : cells + 1 ≤ R.cells) (hRs : slots + 6 ≤ R.slots) {i : Int32} {M M' : me_M} (h : sg_sound xs Lx i M = some M') (hk : me_W p l e R s m args below meth c (cells + 1) (slots + 6) Q D cA ad 425 8 A 2334 [(0, .ref b), (1, .ref (ad 0)), (2, .ref (ad 63)), (3, .ref (ad 424)), (4, .int i)] [] M') : me_W p l e R s m args below meth c cells slots Q D cA ad 425 8 A 1244 [(0, .ref b), (1, .ref (ad 0)), (2, .ref (ad 63)), (3, .ref (ad 424)), (4, .int i)] [] M := by
  have hn : 425 ≤ 425 := Nat.le_refl _
  have hnt : 5 ≤ 5 := Nat.le_refl _
  unfold sg_sound at h
  refine me_aload_n X (i := 1) 1 rfl dL_law_1244 ?_
  obtain ⟨⟨v1, M1⟩, e1, h⟩ := me_bd h
  refine me_callVi X [] (ctX11_sound_0 (n := 425) (nt := 5) (by decide) (by decide) e1) kV_L_188 rfl rfl (Nat.le_of_ble_eq_true rfl) me_k0 (Nat.le_of_ble_eq_true rfl) (Nat.le_refl _) (Nat.le_of_ble_eq_true rfl) dL_law_1245 ?_
  refine me_aload_n X (i := 2) 2 rfl dL_law_1248 ?_
  obtain ⟨⟨v2, M2⟩, e2, h⟩ := me_bd h
  refine me_callVi X [] (ctX12_sound_63 (n := 425) (nt := 5) (by decide) (by decide) e2) kV_L_192 rfl rfl (Nat.le_of_ble_eq_true rfl) me_k63 (Nat.le_of_ble_eq_true rfl) (Nat.le_refl _) (Nat.le_of_ble_eq_true rfl) dL_law_1249 ?_
  refine me_icmp_eq X 2334 (by decide) dL_law_1252 (fun c1 => ?_) (fun c1 => ?_)
  · have h := me_ip c1 h
    obtain rfl := me_so h
    exact me_wid (Nat.le_succ _) (Nat.le_add_right _ _) hk
  · have h := me_in c1 h
    cases h
def sg_needless (xs : Nat → Int32) (Lx : Nat) (i : Int32) (M : me_M) : Option me_M :=
  ((mX11_needless_0 M).bind fun (v1, M1) => ((mX12_needless_63 M1).bind fun (v2, M2) => (if v1 = v2 then some M2 else none)))
set_option maxRecDepth 100000 in
set_option maxHeartbeats 4000000 in
theorem ct_sg_needless {p : Program} {l : Launch} {e : Env} {R : Room} {s : State} {m : MethodId} {args : Array Value} {below : List Frame} {meth : Method} {c : Code} {cells slots : Nat} {Q : State → Prop} {D : va_G} {cA : Nat → ClassId} {ad : Nat → Nat} {A : Nat → Prop} {tys : List (ClassId × FieldType)} (hl : l.stackTraces = false) (X : me_X p R s m args c D cA ad 425 5 425 8 cells slots 200 A cL_law RL tys) (hz : me_Z A s s.heap) {b Lx : Nat} {xs : Nat → Int32} (hX : va_X b Lx xs s s.heap) (hbl : b < s.heap.size) (hbA : ¬ A b) (hRc : cells + 1 ≤ R.cells) (hRs : slots + 6 ≤ R.slots) {i : Int32} {M M' : me_M} (h : sg_needless xs Lx i M = some M') (hk : me_W p l e R s m args below meth c (cells + 1) (slots + 6) Q D cA ad 425 8 A 2334 [(0, .ref b), (1, .ref (ad 0)), (2, .ref (ad 63)), (3, .ref (ad 424)), (4, .int i)] [] M') : me_W p l e R s m args below meth c cells slots Q D cA ad 425 8 A 1257 [(0, .ref b), (1, .ref (ad 0)), (2, .ref (ad 63)), (3, .ref (ad 424)), (4, .int i)] [] M := by
  have hn : 425 ≤ 425 := Nat.le_refl _
  have hnt : 5 ≤ 5 := Nat.le_refl _
  unfold sg_needless at h
  refine me_aload_n X (i := 1) 1 rfl dL_law_1257 ?_
  obtain ⟨⟨v1, M1⟩, e1, h⟩ := me_bd h
  refine me_callVi X [] (ctX11_needless_0 (n := 425) (nt := 5) (by decide) (by decide) e1) kV_L_193 rfl rfl (Nat.le_of_ble_eq_true rfl) me_k0 (Nat.le_of_ble_eq_true rfl) (Nat.le_refl _) (Nat.le_of_ble_eq_true rfl) dL_law_1258 ?_
  refine me_aload_n X (i := 2) 2 rfl dL_law_1261 ?_
  obtain ⟨⟨v2, M2⟩, e2, h⟩ := me_bd h
  refine me_callVi X [] (ctX12_needless_63 (n := 425) (nt := 5) (by decide) (by decide) e2) kV_L_196 rfl rfl (Nat.le_of_ble_eq_true rfl) me_k63 (Nat.le_of_ble_eq_true rfl) (Nat.le_refl _) (Nat.le_of_ble_eq_true rfl) dL_law_1262 ?_
  refine me_icmp_eq X 2334 (by decide) dL_law_1265 (fun c1 => ?_) (fun c1 => ?_)
  · have h := me_ip c1 h
    obtain rfl := me_so h
    exact me_wid (Nat.le_succ _) (Nat.le_add_right _ _) hk
  · have h := me_in c1 h
    cases h
def sg_digit (xs : Nat → Int32) (Lx : Nat) (i : Int32) (M : me_M) : Option me_M :=
  ((me_sr xs Lx (i + 1)).bind fun v1 => ((me_sr xs Lx (i + 2)).bind fun v2 => ((me_sr xs Lx (i + 3)).bind fun v3 => ((hL_digit M v1 v2 v3).bind fun (v4, M1) => ((me_sr xs Lx (i + 1)).bind fun v5 => ((me_sr xs Lx (i + 2)).bind fun v6 => ((me_sr xs Lx (i + 3)).bind fun v7 => ((mX12_digit_63 M1 v5 v6 v7).bind fun (v8, M2) => ((mX12_thrown_63 M2).bind fun v9 => (if v9 = v4 then (if v4 = 0 then (if (lg_cmp (M2.2.2 0) (v8.toInt64)) = 0 then some M2 else none) else some M2) else none))))))))))
set_option maxRecDepth 100000 in
set_option maxHeartbeats 4000000 in
theorem ct_sg_digit {p : Program} {l : Launch} {e : Env} {R : Room} {s : State} {m : MethodId} {args : Array Value} {below : List Frame} {meth : Method} {c : Code} {cells slots : Nat} {Q : State → Prop} {D : va_G} {cA : Nat → ClassId} {ad : Nat → Nat} {A : Nat → Prop} {tys : List (ClassId × FieldType)} (hl : l.stackTraces = false) (X : me_X p R s m args c D cA ad 425 5 425 8 cells slots 200 A cL_law RL tys) (hz : me_Z A s s.heap) {b Lx : Nat} {xs : Nat → Int32} (hX : va_X b Lx xs s s.heap) (hbl : b < s.heap.size) (hbA : ¬ A b) (hRc : cells + 1 ≤ R.cells) (hRs : slots + 6 ≤ R.slots) {i : Int32} {M M' : me_M} (h : sg_digit xs Lx i M = some M') (hk : me_W p l e R s m args below meth c (cells + 1) (slots + 6) Q D cA ad 425 8 A 2334 [(0, .ref b), (1, .ref (ad 0)), (2, .ref (ad 63)), (3, .ref (ad 424)), (4, .int i)] [] M') : me_W p l e R s m args below meth c cells slots Q D cA ad 425 8 A 1270 [(0, .ref b), (1, .ref (ad 0)), (2, .ref (ad 63)), (3, .ref (ad 424)), (4, .int i)] [] M := by
  have hn : 425 ≤ 425 := Nat.le_refl _
  have hnt : 5 ≤ 5 := Nat.le_refl _
  unfold sg_digit at h
  refine me_aload_n X (i := 1) 1 rfl dL_law_1270 ?_
  refine me_aload_n X (i := 0) 0 rfl dL_law_1271 ?_
  refine me_iload X (i := 4) 4 rfl dL_law_1272 ?_
  refine me_iconst X dL_law_1274 ic_1 ?_
  refine me_iadd X dL_law_1275 ?_
  obtain ⟨v1, e1, h⟩ := me_bd h
  refine me_sld X hX hbl hbA e1 dL_law_1276 ?_
  refine me_aload_n X (i := 0) 0 rfl dL_law_1277 ?_
  refine me_iload X (i := 4) 4 rfl dL_law_1278 ?_
  refine me_iconst X dL_law_1280 ic_2 ?_
  refine me_iadd X dL_law_1281 ?_
  obtain ⟨v2, e2, h⟩ := me_bd h
  refine me_sld X hX hbl hbA e2 dL_law_1282 ?_
  refine me_aload_n X (i := 0) 0 rfl dL_law_1283 ?_
  refine me_iload X (i := 4) 4 rfl dL_law_1284 ?_
  refine me_iconst X dL_law_1286 ic_3 ?_
  refine me_iadd X dL_law_1287 ?_
  obtain ⟨v3, e3, h⟩ := me_bd h
  refine me_sld X hX hbl hbA e3 dL_law_1288 ?_
  refine me_aload_n X (i := 3) 3 rfl dL_law_1289 ?_
  obtain ⟨⟨v4, M1⟩, e4, h⟩ := me_bd h
  refine me_callSH X hz hRc hRs [.ref (ad 0), .int v1, .int v2, .int v3, .ref (ad 424)] (chL_digit hl e4) kH_197 rfl rfl (Nat.le_of_ble_eq_true rfl) (Nat.le_refl _) (Nat.le_of_ble_eq_true rfl) dL_law_1290 ?_
  have X1 := me_Xup X hRc hRs
  refine me_istore X1 (i := 5) [(5, .int v4), (0, .ref b), (1, .ref (ad 0)), (2, .ref (ad 63)), (3, .ref (ad 424)), (4, .int i)] (Nat.le_of_ble_eq_true rfl) rfl dL_law_1293 ?_
  refine me_aload_n X1 (i := 2) 3 rfl dL_law_1295 ?_
  refine me_aload_n X1 (i := 0) 1 rfl dL_law_1296 ?_
  refine me_iload X1 (i := 4) 5 rfl dL_law_1297 ?_
  refine me_iconst X1 dL_law_1299 ic_1 ?_
  refine me_iadd X1 dL_law_1300 ?_
  obtain ⟨v5, e5, h⟩ := me_bd h
  refine me_sld X1 hX hbl hbA e5 dL_law_1301 ?_
  refine me_aload_n X1 (i := 0) 1 rfl dL_law_1302 ?_
  refine me_iload X1 (i := 4) 5 rfl dL_law_1303 ?_
  refine me_iconst X1 dL_law_1305 ic_2 ?_
  refine me_iadd X1 dL_law_1306 ?_
  obtain ⟨v6, e6, h⟩ := me_bd h
  refine me_sld X1 hX hbl hbA e6 dL_law_1307 ?_
  refine me_aload_n X1 (i := 0) 1 rfl dL_law_1308 ?_
  refine me_iload X1 (i := 4) 5 rfl dL_law_1309 ?_
  refine me_iconst X1 dL_law_1311 ic_3 ?_
  refine me_iadd X1 dL_law_1312 ?_
  obtain ⟨v7, e7, h⟩ := me_bd h
  refine me_sld X1 hX hbl hbA e7 dL_law_1313 ?_
  obtain ⟨⟨v8, M2⟩, e8, h⟩ := me_bd h
  refine me_callVi X1 [.int v5, .int v6, .int v7] (ctX12_digit_63 (n := 425) (nt := 5) (by decide) (by decide) e8) kV_L_199 rfl rfl (Nat.le_of_ble_eq_true rfl) me_k63 (Nat.le_of_ble_eq_true rfl) (Nat.le_refl _) (Nat.le_of_ble_eq_true rfl) dL_law_1314 ?_
  refine me_istore X1 (i := 6) [(6, .int v8), (5, .int v4), (0, .ref b), (1, .ref (ad 0)), (2, .ref (ad 63)), (3, .ref (ad 424)), (4, .int i)] (Nat.le_of_ble_eq_true rfl) rfl dL_law_1317 ?_
  refine me_aload_n X1 (i := 2) 4 rfl dL_law_1319 ?_
  obtain ⟨v9, e9, h⟩ := me_bd h
  refine me_callVi X1 [] (ctX12_thrown_63 (n := 425) (nt := 5) (by decide) (by decide) e9) kV_L_128 rfl rfl (Nat.le_of_ble_eq_true rfl) me_k63 (Nat.le_of_ble_eq_true rfl) (Nat.le_refl _) (Nat.le_of_ble_eq_true rfl) dL_law_1320 ?_
  refine me_iload X1 (i := 5) 1 rfl dL_law_1323 ?_
  refine me_icmp_eq X1 1330 (by decide) dL_law_1325 (fun c1 => ?_) (fun c1 => ?_)
  · have h := me_ip c1 h
    refine me_iload X1 (i := 5) 1 rfl dL_law_1330 ?_
    refine me_if_ne X1 1347 (by decide) dL_law_1332 (fun c2 => ?_) (fun c2 => ?_)
    · have h := me_in c2 h
      refine me_goto X1 2334 (by decide) dL_law_1347 ?_
      obtain rfl := me_so h
      refine me_sub (L' := [(0, .ref b), (1, .ref (ad 0)), (2, .ref (ad 63)), (3, .ref (ad 424)), (4, .int i)]) [2, 3, 4, 5, 6] rfl ?_
      exact hk
    · have h := me_ip c2 h
      refine me_aload_n X1 (i := 3) 5 rfl dL_law_1335 ?_
      refine me_iconst X1 dL_law_1336 ic_0 ?_
      refine me_lald X1 (by decide) dL_law_1337 ?_
      refine me_iload X1 (i := 6) 0 rfl dL_law_1338 ?_
      refine me_i2l X1 dL_law_1340 ?_
      refine me_lcmp X1 dL_law_1341 ?_
      refine me_if_eq X1 1347 (by decide) dL_law_1342 (fun c3 => ?_) (fun c3 => ?_)
      · have h := me_ip c3 h
        refine me_goto X1 2334 (by decide) dL_law_1347 ?_
        obtain rfl := me_so h
        refine me_sub (L' := [(0, .ref b), (1, .ref (ad 0)), (2, .ref (ad 63)), (3, .ref (ad 424)), (4, .int i)]) [2, 3, 4, 5, 6] rfl ?_
        exact hk
      · have h := me_in c3 h
        cases h
  · have h := me_in c1 h
    cases h
def sg_search (xs : Nat → Int32) (Lx : Nat) (i : Int32) (M : me_M) : Option me_M :=
  ((me_sr xs Lx (i + 1)).bind fun v1 => ((hL_search M v1).bind fun (v2, M1) => ((me_sr xs Lx (i + 1)).bind fun v3 => ((mX12_search_63 M1 v3).bind fun (v4, M2) => ((mX12_thrown_63 M2).bind fun v5 => (if v5 = v2 then (if v2 = 0 then (if (lg_cmp (M2.2.2 0) (v4.toInt64)) = 0 then some M2 else none) else some M2) else none))))))
set_option maxRecDepth 100000 in
set_option maxHeartbeats 4000000 in
theorem ct_sg_search {p : Program} {l : Launch} {e : Env} {R : Room} {s : State} {m : MethodId} {args : Array Value} {below : List Frame} {meth : Method} {c : Code} {cells slots : Nat} {Q : State → Prop} {D : va_G} {cA : Nat → ClassId} {ad : Nat → Nat} {A : Nat → Prop} {tys : List (ClassId × FieldType)} (hl : l.stackTraces = false) (X : me_X p R s m args c D cA ad 425 5 425 8 cells slots 200 A cL_law RL tys) (hz : me_Z A s s.heap) {b Lx : Nat} {xs : Nat → Int32} (hX : va_X b Lx xs s s.heap) (hbl : b < s.heap.size) (hbA : ¬ A b) (hRc : cells + 1 ≤ R.cells) (hRs : slots + 6 ≤ R.slots) {i : Int32} {M M' : me_M} (h : sg_search xs Lx i M = some M') (hk : me_W p l e R s m args below meth c (cells + 1) (slots + 6) Q D cA ad 425 8 A 2334 [(0, .ref b), (1, .ref (ad 0)), (2, .ref (ad 63)), (3, .ref (ad 424)), (4, .int i)] [] M') : me_W p l e R s m args below meth c cells slots Q D cA ad 425 8 A 1350 [(0, .ref b), (1, .ref (ad 0)), (2, .ref (ad 63)), (3, .ref (ad 424)), (4, .int i)] [] M := by
  have hn : 425 ≤ 425 := Nat.le_refl _
  have hnt : 5 ≤ 5 := Nat.le_refl _
  unfold sg_search at h
  refine me_aload_n X (i := 1) 1 rfl dL_law_1350 ?_
  refine me_aload_n X (i := 0) 0 rfl dL_law_1351 ?_
  refine me_iload X (i := 4) 4 rfl dL_law_1352 ?_
  refine me_iconst X dL_law_1354 ic_1 ?_
  refine me_iadd X dL_law_1355 ?_
  obtain ⟨v1, e1, h⟩ := me_bd h
  refine me_sld X hX hbl hbA e1 dL_law_1356 ?_
  refine me_aload_n X (i := 3) 3 rfl dL_law_1357 ?_
  obtain ⟨⟨v2, M1⟩, e2, h⟩ := me_bd h
  refine me_callSH X hz hRc hRs [.ref (ad 0), .int v1, .ref (ad 424)] (chL_search hl e2) kH_200 rfl rfl (Nat.le_of_ble_eq_true rfl) (Nat.le_refl _) (Nat.le_of_ble_eq_true rfl) dL_law_1358 ?_
  have X1 := me_Xup X hRc hRs
  refine me_istore X1 (i := 5) [(5, .int v2), (0, .ref b), (1, .ref (ad 0)), (2, .ref (ad 63)), (3, .ref (ad 424)), (4, .int i)] (Nat.le_of_ble_eq_true rfl) rfl dL_law_1361 ?_
  refine me_aload_n X1 (i := 2) 3 rfl dL_law_1363 ?_
  refine me_aload_n X1 (i := 0) 1 rfl dL_law_1364 ?_
  refine me_iload X1 (i := 4) 5 rfl dL_law_1365 ?_
  refine me_iconst X1 dL_law_1367 ic_1 ?_
  refine me_iadd X1 dL_law_1368 ?_
  obtain ⟨v3, e3, h⟩ := me_bd h
  refine me_sld X1 hX hbl hbA e3 dL_law_1369 ?_
  obtain ⟨⟨v4, M2⟩, e4, h⟩ := me_bd h
  refine me_callVi X1 [.int v3] (ctX12_search_63 (n := 425) (nt := 5) (by decide) (by decide) e4) kV_L_202 rfl rfl (Nat.le_of_ble_eq_true rfl) me_k63 (Nat.le_of_ble_eq_true rfl) (Nat.le_refl _) (Nat.le_of_ble_eq_true rfl) dL_law_1370 ?_
  refine me_istore X1 (i := 6) [(6, .int v4), (5, .int v2), (0, .ref b), (1, .ref (ad 0)), (2, .ref (ad 63)), (3, .ref (ad 424)), (4, .int i)] (Nat.le_of_ble_eq_true rfl) rfl dL_law_1373 ?_
  refine me_aload_n X1 (i := 2) 4 rfl dL_law_1375 ?_
  obtain ⟨v5, e5, h⟩ := me_bd h
  refine me_callVi X1 [] (ctX12_thrown_63 (n := 425) (nt := 5) (by decide) (by decide) e5) kV_L_128 rfl rfl (Nat.le_of_ble_eq_true rfl) me_k63 (Nat.le_of_ble_eq_true rfl) (Nat.le_refl _) (Nat.le_of_ble_eq_true rfl) dL_law_1376 ?_
  refine me_iload X1 (i := 5) 1 rfl dL_law_1379 ?_
  refine me_icmp_eq X1 1386 (by decide) dL_law_1381 (fun c1 => ?_) (fun c1 => ?_)
  · have h := me_ip c1 h
    refine me_iload X1 (i := 5) 1 rfl dL_law_1386 ?_
    refine me_if_ne X1 1403 (by decide) dL_law_1388 (fun c2 => ?_) (fun c2 => ?_)
    · have h := me_in c2 h
      refine me_goto X1 2334 (by decide) dL_law_1403 ?_
      obtain rfl := me_so h
      refine me_sub (L' := [(0, .ref b), (1, .ref (ad 0)), (2, .ref (ad 63)), (3, .ref (ad 424)), (4, .int i)]) [2, 3, 4, 5, 6] rfl ?_
      exact hk
    · have h := me_ip c2 h
      refine me_aload_n X1 (i := 3) 5 rfl dL_law_1391 ?_
      refine me_iconst X1 dL_law_1392 ic_0 ?_
      refine me_lald X1 (by decide) dL_law_1393 ?_
      refine me_iload X1 (i := 6) 0 rfl dL_law_1394 ?_
      refine me_i2l X1 dL_law_1396 ?_
      refine me_lcmp X1 dL_law_1397 ?_
      refine me_if_eq X1 1403 (by decide) dL_law_1398 (fun c3 => ?_) (fun c3 => ?_)
      · have h := me_ip c3 h
        refine me_goto X1 2334 (by decide) dL_law_1403 ?_
        obtain rfl := me_so h
        refine me_sub (L' := [(0, .ref b), (1, .ref (ad 0)), (2, .ref (ad 63)), (3, .ref (ad 424)), (4, .int i)]) [2, 3, 4, 5, 6] rfl ?_
        exact hk
      · have h := me_in c3 h
        cases h
  · have h := me_in c1 h
    cases h
def sg_found (xs : Nat → Int32) (Lx : Nat) (i : Int32) (M : me_M) : Option me_M :=
  ((me_sr xs Lx (i + 1)).bind fun v1 => ((me_sr xs Lx (i + 2)).bind fun v2 => ((hL_found M v1 v2).bind fun (v3, M1) => ((me_sr xs Lx (i + 1)).bind fun v4 => ((me_sr xs Lx (i + 2)).bind fun v5 => ((mX12_found_63 M1 v4 v5).bind fun (v6, M2) => ((mX12_thrown_63 M2).bind fun v7 => (if v7 = v3 then (if v3 = 0 then (if (lg_cmp (M2.2.2 0) (v6.toInt64)) = 0 then some M2 else none) else some M2) else none))))))))
set_option maxRecDepth 100000 in
set_option maxHeartbeats 4000000 in
theorem ct_sg_found {p : Program} {l : Launch} {e : Env} {R : Room} {s : State} {m : MethodId} {args : Array Value} {below : List Frame} {meth : Method} {c : Code} {cells slots : Nat} {Q : State → Prop} {D : va_G} {cA : Nat → ClassId} {ad : Nat → Nat} {A : Nat → Prop} {tys : List (ClassId × FieldType)} (hl : l.stackTraces = false) (X : me_X p R s m args c D cA ad 425 5 425 8 cells slots 200 A cL_law RL tys) (hz : me_Z A s s.heap) {b Lx : Nat} {xs : Nat → Int32} (hX : va_X b Lx xs s s.heap) (hbl : b < s.heap.size) (hbA : ¬ A b) (hRc : cells + 1 ≤ R.cells) (hRs : slots + 6 ≤ R.slots) {i : Int32} {M M' : me_M} (h : sg_found xs Lx i M = some M') (hk : me_W p l e R s m args below meth c (cells + 1) (slots + 6) Q D cA ad 425 8 A 2334 [(0, .ref b), (1, .ref (ad 0)), (2, .ref (ad 63)), (3, .ref (ad 424)), (4, .int i)] [] M') : me_W p l e R s m args below meth c cells slots Q D cA ad 425 8 A 1406 [(0, .ref b), (1, .ref (ad 0)), (2, .ref (ad 63)), (3, .ref (ad 424)), (4, .int i)] [] M := by
  have hn : 425 ≤ 425 := Nat.le_refl _
  have hnt : 5 ≤ 5 := Nat.le_refl _
  unfold sg_found at h
  refine me_aload_n X (i := 1) 1 rfl dL_law_1406 ?_
  refine me_aload_n X (i := 0) 0 rfl dL_law_1407 ?_
  refine me_iload X (i := 4) 4 rfl dL_law_1408 ?_
  refine me_iconst X dL_law_1410 ic_1 ?_
  refine me_iadd X dL_law_1411 ?_
  obtain ⟨v1, e1, h⟩ := me_bd h
  refine me_sld X hX hbl hbA e1 dL_law_1412 ?_
  refine me_aload_n X (i := 0) 0 rfl dL_law_1413 ?_
  refine me_iload X (i := 4) 4 rfl dL_law_1414 ?_
  refine me_iconst X dL_law_1416 ic_2 ?_
  refine me_iadd X dL_law_1417 ?_
  obtain ⟨v2, e2, h⟩ := me_bd h
  refine me_sld X hX hbl hbA e2 dL_law_1418 ?_
  refine me_aload_n X (i := 3) 3 rfl dL_law_1419 ?_
  obtain ⟨⟨v3, M1⟩, e3, h⟩ := me_bd h
  refine me_callSH X hz hRc hRs [.ref (ad 0), .int v1, .int v2, .ref (ad 424)] (chL_found hl e3) kH_203 rfl rfl (Nat.le_of_ble_eq_true rfl) (Nat.le_refl _) (Nat.le_of_ble_eq_true rfl) dL_law_1420 ?_
  have X1 := me_Xup X hRc hRs
  refine me_istore X1 (i := 5) [(5, .int v3), (0, .ref b), (1, .ref (ad 0)), (2, .ref (ad 63)), (3, .ref (ad 424)), (4, .int i)] (Nat.le_of_ble_eq_true rfl) rfl dL_law_1423 ?_
  refine me_aload_n X1 (i := 2) 3 rfl dL_law_1425 ?_
  refine me_aload_n X1 (i := 0) 1 rfl dL_law_1426 ?_
  refine me_iload X1 (i := 4) 5 rfl dL_law_1427 ?_
  refine me_iconst X1 dL_law_1429 ic_1 ?_
  refine me_iadd X1 dL_law_1430 ?_
  obtain ⟨v4, e4, h⟩ := me_bd h
  refine me_sld X1 hX hbl hbA e4 dL_law_1431 ?_
  refine me_aload_n X1 (i := 0) 1 rfl dL_law_1432 ?_
  refine me_iload X1 (i := 4) 5 rfl dL_law_1433 ?_
  refine me_iconst X1 dL_law_1435 ic_2 ?_
  refine me_iadd X1 dL_law_1436 ?_
  obtain ⟨v5, e5, h⟩ := me_bd h
  refine me_sld X1 hX hbl hbA e5 dL_law_1437 ?_
  obtain ⟨⟨v6, M2⟩, e6, h⟩ := me_bd h
  refine me_callVi X1 [.int v4, .int v5] (ctX12_found_63 (n := 425) (nt := 5) (by decide) (by decide) e6) kV_L_205 rfl rfl (Nat.le_of_ble_eq_true rfl) me_k63 (Nat.le_of_ble_eq_true rfl) (Nat.le_refl _) (Nat.le_of_ble_eq_true rfl) dL_law_1438 ?_
  refine me_istore X1 (i := 6) [(6, .int v6), (5, .int v3), (0, .ref b), (1, .ref (ad 0)), (2, .ref (ad 63)), (3, .ref (ad 424)), (4, .int i)] (Nat.le_of_ble_eq_true rfl) rfl dL_law_1441 ?_
  refine me_aload_n X1 (i := 2) 4 rfl dL_law_1443 ?_
  obtain ⟨v7, e7, h⟩ := me_bd h
  refine me_callVi X1 [] (ctX12_thrown_63 (n := 425) (nt := 5) (by decide) (by decide) e7) kV_L_128 rfl rfl (Nat.le_of_ble_eq_true rfl) me_k63 (Nat.le_of_ble_eq_true rfl) (Nat.le_refl _) (Nat.le_of_ble_eq_true rfl) dL_law_1444 ?_
  refine me_iload X1 (i := 5) 1 rfl dL_law_1447 ?_
  refine me_icmp_eq X1 1454 (by decide) dL_law_1449 (fun c1 => ?_) (fun c1 => ?_)
  · have h := me_ip c1 h
    refine me_iload X1 (i := 5) 1 rfl dL_law_1454 ?_
    refine me_if_ne X1 1471 (by decide) dL_law_1456 (fun c2 => ?_) (fun c2 => ?_)
    · have h := me_in c2 h
      refine me_goto X1 2334 (by decide) dL_law_1471 ?_
      obtain rfl := me_so h
      refine me_sub (L' := [(0, .ref b), (1, .ref (ad 0)), (2, .ref (ad 63)), (3, .ref (ad 424)), (4, .int i)]) [2, 3, 4, 5, 6] rfl ?_
      exact hk
    · have h := me_ip c2 h
      refine me_aload_n X1 (i := 3) 5 rfl dL_law_1459 ?_
      refine me_iconst X1 dL_law_1460 ic_0 ?_
      refine me_lald X1 (by decide) dL_law_1461 ?_
      refine me_iload X1 (i := 6) 0 rfl dL_law_1462 ?_
      refine me_i2l X1 dL_law_1464 ?_
      refine me_lcmp X1 dL_law_1465 ?_
      refine me_if_eq X1 1471 (by decide) dL_law_1466 (fun c3 => ?_) (fun c3 => ?_)
      · have h := me_ip c3 h
        refine me_goto X1 2334 (by decide) dL_law_1471 ?_
        obtain rfl := me_so h
        refine me_sub (L' := [(0, .ref b), (1, .ref (ad 0)), (2, .ref (ad 63)), (3, .ref (ad 424)), (4, .int i)]) [2, 3, 4, 5, 6] rfl ?_
        exact hk
      · have h := me_in c3 h
        cases h
  · have h := me_in c1 h
    cases h
def sg_result (xs : Nat → Int32) (Lx : Nat) (i : Int32) (M : me_M) : Option me_M :=
  ((me_sr xs Lx (i + 1)).bind fun v1 => ((hL_result M v1).bind fun (v2, M1) => ((me_sr xs Lx (i + 1)).bind fun v3 => ((mX12_result_63 M1 v3).bind fun (v4, M2) => ((mX12_thrown_63 M2).bind fun v5 => (if v5 = v2 then (if v2 = 0 then (if (lg_cmp (M2.2.2 0) (v4.toInt64)) = 0 then some M2 else none) else some M2) else none))))))
set_option maxRecDepth 100000 in
set_option maxHeartbeats 4000000 in
theorem ct_sg_result {p : Program} {l : Launch} {e : Env} {R : Room} {s : State} {m : MethodId} {args : Array Value} {below : List Frame} {meth : Method} {c : Code} {cells slots : Nat} {Q : State → Prop} {D : va_G} {cA : Nat → ClassId} {ad : Nat → Nat} {A : Nat → Prop} {tys : List (ClassId × FieldType)} (hl : l.stackTraces = false) (X : me_X p R s m args c D cA ad 425 5 425 8 cells slots 200 A cL_law RL tys) (hz : me_Z A s s.heap) {b Lx : Nat} {xs : Nat → Int32} (hX : va_X b Lx xs s s.heap) (hbl : b < s.heap.size) (hbA : ¬ A b) (hRc : cells + 1 ≤ R.cells) (hRs : slots + 6 ≤ R.slots) {i : Int32} {M M' : me_M} (h : sg_result xs Lx i M = some M') (hk : me_W p l e R s m args below meth c (cells + 1) (slots + 6) Q D cA ad 425 8 A 2334 [(0, .ref b), (1, .ref (ad 0)), (2, .ref (ad 63)), (3, .ref (ad 424)), (4, .int i)] [] M') : me_W p l e R s m args below meth c cells slots Q D cA ad 425 8 A 1474 [(0, .ref b), (1, .ref (ad 0)), (2, .ref (ad 63)), (3, .ref (ad 424)), (4, .int i)] [] M := by
  have hn : 425 ≤ 425 := Nat.le_refl _
  have hnt : 5 ≤ 5 := Nat.le_refl _
  unfold sg_result at h
  refine me_aload_n X (i := 1) 1 rfl dL_law_1474 ?_
  refine me_aload_n X (i := 0) 0 rfl dL_law_1475 ?_
  refine me_iload X (i := 4) 4 rfl dL_law_1476 ?_
  refine me_iconst X dL_law_1478 ic_1 ?_
  refine me_iadd X dL_law_1479 ?_
  obtain ⟨v1, e1, h⟩ := me_bd h
  refine me_sld X hX hbl hbA e1 dL_law_1480 ?_
  refine me_aload_n X (i := 3) 3 rfl dL_law_1481 ?_
  obtain ⟨⟨v2, M1⟩, e2, h⟩ := me_bd h
  refine me_callSH X hz hRc hRs [.ref (ad 0), .int v1, .ref (ad 424)] (chL_result hl e2) kH_206 rfl rfl (Nat.le_of_ble_eq_true rfl) (Nat.le_refl _) (Nat.le_of_ble_eq_true rfl) dL_law_1482 ?_
  have X1 := me_Xup X hRc hRs
  refine me_istore X1 (i := 5) [(5, .int v2), (0, .ref b), (1, .ref (ad 0)), (2, .ref (ad 63)), (3, .ref (ad 424)), (4, .int i)] (Nat.le_of_ble_eq_true rfl) rfl dL_law_1485 ?_
  refine me_aload_n X1 (i := 2) 3 rfl dL_law_1487 ?_
  refine me_aload_n X1 (i := 0) 1 rfl dL_law_1488 ?_
  refine me_iload X1 (i := 4) 5 rfl dL_law_1489 ?_
  refine me_iconst X1 dL_law_1491 ic_1 ?_
  refine me_iadd X1 dL_law_1492 ?_
  obtain ⟨v3, e3, h⟩ := me_bd h
  refine me_sld X1 hX hbl hbA e3 dL_law_1493 ?_
  obtain ⟨⟨v4, M2⟩, e4, h⟩ := me_bd h
  refine me_callVi X1 [.int v3] (ctX12_result_63 (n := 425) (nt := 5) (by decide) (by decide) e4) kV_L_208 rfl rfl (Nat.le_of_ble_eq_true rfl) me_k63 (Nat.le_of_ble_eq_true rfl) (Nat.le_refl _) (Nat.le_of_ble_eq_true rfl) dL_law_1494 ?_
  refine me_istore X1 (i := 6) [(6, .int v4), (5, .int v2), (0, .ref b), (1, .ref (ad 0)), (2, .ref (ad 63)), (3, .ref (ad 424)), (4, .int i)] (Nat.le_of_ble_eq_true rfl) rfl dL_law_1497 ?_
  refine me_aload_n X1 (i := 2) 4 rfl dL_law_1499 ?_
  obtain ⟨v5, e5, h⟩ := me_bd h
  refine me_callVi X1 [] (ctX12_thrown_63 (n := 425) (nt := 5) (by decide) (by decide) e5) kV_L_128 rfl rfl (Nat.le_of_ble_eq_true rfl) me_k63 (Nat.le_of_ble_eq_true rfl) (Nat.le_refl _) (Nat.le_of_ble_eq_true rfl) dL_law_1500 ?_
  refine me_iload X1 (i := 5) 1 rfl dL_law_1503 ?_
  refine me_icmp_eq X1 1510 (by decide) dL_law_1505 (fun c1 => ?_) (fun c1 => ?_)
  · have h := me_ip c1 h
    refine me_iload X1 (i := 5) 1 rfl dL_law_1510 ?_
    refine me_if_ne X1 1527 (by decide) dL_law_1512 (fun c2 => ?_) (fun c2 => ?_)
    · have h := me_in c2 h
      refine me_goto X1 2334 (by decide) dL_law_1527 ?_
      obtain rfl := me_so h
      refine me_sub (L' := [(0, .ref b), (1, .ref (ad 0)), (2, .ref (ad 63)), (3, .ref (ad 424)), (4, .int i)]) [2, 3, 4, 5, 6] rfl ?_
      exact hk
    · have h := me_ip c2 h
      refine me_aload_n X1 (i := 3) 5 rfl dL_law_1515 ?_
      refine me_iconst X1 dL_law_1516 ic_0 ?_
      refine me_lald X1 (by decide) dL_law_1517 ?_
      refine me_iload X1 (i := 6) 0 rfl dL_law_1518 ?_
      refine me_i2l X1 dL_law_1520 ?_
      refine me_lcmp X1 dL_law_1521 ?_
      refine me_if_eq X1 1527 (by decide) dL_law_1522 (fun c3 => ?_) (fun c3 => ?_)
      · have h := me_ip c3 h
        refine me_goto X1 2334 (by decide) dL_law_1527 ?_
        obtain rfl := me_so h
        refine me_sub (L' := [(0, .ref b), (1, .ref (ad 0)), (2, .ref (ad 63)), (3, .ref (ad 424)), (4, .int i)]) [2, 3, 4, 5, 6] rfl ?_
        exact hk
      · have h := me_in c3 h
        cases h
  · have h := me_in c1 h
    cases h
def sg_ran (xs : Nat → Int32) (Lx : Nat) (i : Int32) (M : me_M) : Option me_M :=
  ((me_sr xs Lx (i + 1)).bind fun v1 => ((me_sr xs Lx (i + 2)).bind fun v2 => ((hL_ran M v1 v2).bind fun (v3, M1) => ((me_sr xs Lx (i + 1)).bind fun v4 => ((me_sr xs Lx (i + 2)).bind fun v5 => ((mX12_ran_63 M1 v4 v5).bind fun (v6, M2) => ((mX12_thrown_63 M2).bind fun v7 => (if v7 = v3 then (if v3 = 0 then (if (lg_cmp (M2.2.2 0) (v6.toInt64)) = 0 then some M2 else none) else some M2) else none))))))))
set_option maxRecDepth 100000 in
set_option maxHeartbeats 4000000 in
theorem ct_sg_ran {p : Program} {l : Launch} {e : Env} {R : Room} {s : State} {m : MethodId} {args : Array Value} {below : List Frame} {meth : Method} {c : Code} {cells slots : Nat} {Q : State → Prop} {D : va_G} {cA : Nat → ClassId} {ad : Nat → Nat} {A : Nat → Prop} {tys : List (ClassId × FieldType)} (hl : l.stackTraces = false) (X : me_X p R s m args c D cA ad 425 5 425 8 cells slots 200 A cL_law RL tys) (hz : me_Z A s s.heap) {b Lx : Nat} {xs : Nat → Int32} (hX : va_X b Lx xs s s.heap) (hbl : b < s.heap.size) (hbA : ¬ A b) (hRc : cells + 1 ≤ R.cells) (hRs : slots + 6 ≤ R.slots) {i : Int32} {M M' : me_M} (h : sg_ran xs Lx i M = some M') (hk : me_W p l e R s m args below meth c (cells + 1) (slots + 6) Q D cA ad 425 8 A 2334 [(0, .ref b), (1, .ref (ad 0)), (2, .ref (ad 63)), (3, .ref (ad 424)), (4, .int i)] [] M') : me_W p l e R s m args below meth c cells slots Q D cA ad 425 8 A 1530 [(0, .ref b), (1, .ref (ad 0)), (2, .ref (ad 63)), (3, .ref (ad 424)), (4, .int i)] [] M := by
  have hn : 425 ≤ 425 := Nat.le_refl _
  have hnt : 5 ≤ 5 := Nat.le_refl _
  unfold sg_ran at h
  refine me_aload_n X (i := 1) 1 rfl dL_law_1530 ?_
  refine me_aload_n X (i := 0) 0 rfl dL_law_1531 ?_
  refine me_iload X (i := 4) 4 rfl dL_law_1532 ?_
  refine me_iconst X dL_law_1534 ic_1 ?_
  refine me_iadd X dL_law_1535 ?_
  obtain ⟨v1, e1, h⟩ := me_bd h
  refine me_sld X hX hbl hbA e1 dL_law_1536 ?_
  refine me_aload_n X (i := 0) 0 rfl dL_law_1537 ?_
  refine me_iload X (i := 4) 4 rfl dL_law_1538 ?_
  refine me_iconst X dL_law_1540 ic_2 ?_
  refine me_iadd X dL_law_1541 ?_
  obtain ⟨v2, e2, h⟩ := me_bd h
  refine me_sld X hX hbl hbA e2 dL_law_1542 ?_
  refine me_aload_n X (i := 3) 3 rfl dL_law_1543 ?_
  obtain ⟨⟨v3, M1⟩, e3, h⟩ := me_bd h
  refine me_callSH X hz hRc hRs [.ref (ad 0), .int v1, .int v2, .ref (ad 424)] (chL_ran hl e3) kH_209 rfl rfl (Nat.le_of_ble_eq_true rfl) (Nat.le_refl _) (Nat.le_of_ble_eq_true rfl) dL_law_1544 ?_
  have X1 := me_Xup X hRc hRs
  refine me_istore X1 (i := 5) [(5, .int v3), (0, .ref b), (1, .ref (ad 0)), (2, .ref (ad 63)), (3, .ref (ad 424)), (4, .int i)] (Nat.le_of_ble_eq_true rfl) rfl dL_law_1547 ?_
  refine me_aload_n X1 (i := 2) 3 rfl dL_law_1549 ?_
  refine me_aload_n X1 (i := 0) 1 rfl dL_law_1550 ?_
  refine me_iload X1 (i := 4) 5 rfl dL_law_1551 ?_
  refine me_iconst X1 dL_law_1553 ic_1 ?_
  refine me_iadd X1 dL_law_1554 ?_
  obtain ⟨v4, e4, h⟩ := me_bd h
  refine me_sld X1 hX hbl hbA e4 dL_law_1555 ?_
  refine me_aload_n X1 (i := 0) 1 rfl dL_law_1556 ?_
  refine me_iload X1 (i := 4) 5 rfl dL_law_1557 ?_
  refine me_iconst X1 dL_law_1559 ic_2 ?_
  refine me_iadd X1 dL_law_1560 ?_
  obtain ⟨v5, e5, h⟩ := me_bd h
  refine me_sld X1 hX hbl hbA e5 dL_law_1561 ?_
  obtain ⟨⟨v6, M2⟩, e6, h⟩ := me_bd h
  refine me_callVi X1 [.int v4, .int v5] (ctX12_ran_63 (n := 425) (nt := 5) (by decide) (by decide) e6) kV_L_211 rfl rfl (Nat.le_of_ble_eq_true rfl) me_k63 (Nat.le_of_ble_eq_true rfl) (Nat.le_refl _) (Nat.le_of_ble_eq_true rfl) dL_law_1562 ?_
  refine me_istore X1 (i := 6) [(6, .int v6), (5, .int v3), (0, .ref b), (1, .ref (ad 0)), (2, .ref (ad 63)), (3, .ref (ad 424)), (4, .int i)] (Nat.le_of_ble_eq_true rfl) rfl dL_law_1565 ?_
  refine me_aload_n X1 (i := 2) 4 rfl dL_law_1567 ?_
  obtain ⟨v7, e7, h⟩ := me_bd h
  refine me_callVi X1 [] (ctX12_thrown_63 (n := 425) (nt := 5) (by decide) (by decide) e7) kV_L_128 rfl rfl (Nat.le_of_ble_eq_true rfl) me_k63 (Nat.le_of_ble_eq_true rfl) (Nat.le_refl _) (Nat.le_of_ble_eq_true rfl) dL_law_1568 ?_
  refine me_iload X1 (i := 5) 1 rfl dL_law_1571 ?_
  refine me_icmp_eq X1 1578 (by decide) dL_law_1573 (fun c1 => ?_) (fun c1 => ?_)
  · have h := me_ip c1 h
    refine me_iload X1 (i := 5) 1 rfl dL_law_1578 ?_
    refine me_if_ne X1 1595 (by decide) dL_law_1580 (fun c2 => ?_) (fun c2 => ?_)
    · have h := me_in c2 h
      refine me_goto X1 2334 (by decide) dL_law_1595 ?_
      obtain rfl := me_so h
      refine me_sub (L' := [(0, .ref b), (1, .ref (ad 0)), (2, .ref (ad 63)), (3, .ref (ad 424)), (4, .int i)]) [2, 3, 4, 5, 6] rfl ?_
      exact hk
    · have h := me_ip c2 h
      refine me_aload_n X1 (i := 3) 5 rfl dL_law_1583 ?_
      refine me_iconst X1 dL_law_1584 ic_0 ?_
      refine me_lald X1 (by decide) dL_law_1585 ?_
      refine me_iload X1 (i := 6) 0 rfl dL_law_1586 ?_
      refine me_i2l X1 dL_law_1588 ?_
      refine me_lcmp X1 dL_law_1589 ?_
      refine me_if_eq X1 1595 (by decide) dL_law_1590 (fun c3 => ?_) (fun c3 => ?_)
      · have h := me_ip c3 h
        refine me_goto X1 2334 (by decide) dL_law_1595 ?_
        obtain rfl := me_so h
        refine me_sub (L' := [(0, .ref b), (1, .ref (ad 0)), (2, .ref (ad 63)), (3, .ref (ad 424)), (4, .int i)]) [2, 3, 4, 5, 6] rfl ?_
        exact hk
      · have h := me_in c3 h
        cases h
  · have h := me_in c1 h
    cases h
def sg_matches (xs : Nat → Int32) (Lx : Nat) (i : Int32) (M : me_M) : Option me_M :=
  ((me_sr xs Lx (i + 1)).bind fun v1 => ((me_sr xs Lx (i + 2)).bind fun v2 => ((hL_matches M v1 v2).bind fun (v3, M1) => ((me_sr xs Lx (i + 1)).bind fun v4 => ((me_sr xs Lx (i + 2)).bind fun v5 => ((mX12_matches_63 M1 v4 v5).bind fun (v6, M2) => ((mX12_thrown_63 M2).bind fun v7 => (if v7 = v3 then (if v3 = 0 then (if (lg_cmp (M2.2.2 0) (v6.toInt64)) = 0 then some M2 else none) else some M2) else none))))))))
set_option maxRecDepth 100000 in
set_option maxHeartbeats 4000000 in
theorem ct_sg_matches {p : Program} {l : Launch} {e : Env} {R : Room} {s : State} {m : MethodId} {args : Array Value} {below : List Frame} {meth : Method} {c : Code} {cells slots : Nat} {Q : State → Prop} {D : va_G} {cA : Nat → ClassId} {ad : Nat → Nat} {A : Nat → Prop} {tys : List (ClassId × FieldType)} (hl : l.stackTraces = false) (X : me_X p R s m args c D cA ad 425 5 425 8 cells slots 200 A cL_law RL tys) (hz : me_Z A s s.heap) {b Lx : Nat} {xs : Nat → Int32} (hX : va_X b Lx xs s s.heap) (hbl : b < s.heap.size) (hbA : ¬ A b) (hRc : cells + 1 ≤ R.cells) (hRs : slots + 6 ≤ R.slots) {i : Int32} {M M' : me_M} (h : sg_matches xs Lx i M = some M') (hk : me_W p l e R s m args below meth c (cells + 1) (slots + 6) Q D cA ad 425 8 A 2334 [(0, .ref b), (1, .ref (ad 0)), (2, .ref (ad 63)), (3, .ref (ad 424)), (4, .int i)] [] M') : me_W p l e R s m args below meth c cells slots Q D cA ad 425 8 A 1598 [(0, .ref b), (1, .ref (ad 0)), (2, .ref (ad 63)), (3, .ref (ad 424)), (4, .int i)] [] M := by
  have hn : 425 ≤ 425 := Nat.le_refl _
  have hnt : 5 ≤ 5 := Nat.le_refl _
  unfold sg_matches at h
  refine me_aload_n X (i := 1) 1 rfl dL_law_1598 ?_
  refine me_aload_n X (i := 0) 0 rfl dL_law_1599 ?_
  refine me_iload X (i := 4) 4 rfl dL_law_1600 ?_
  refine me_iconst X dL_law_1602 ic_1 ?_
  refine me_iadd X dL_law_1603 ?_
  obtain ⟨v1, e1, h⟩ := me_bd h
  refine me_sld X hX hbl hbA e1 dL_law_1604 ?_
  refine me_aload_n X (i := 0) 0 rfl dL_law_1605 ?_
  refine me_iload X (i := 4) 4 rfl dL_law_1606 ?_
  refine me_iconst X dL_law_1608 ic_2 ?_
  refine me_iadd X dL_law_1609 ?_
  obtain ⟨v2, e2, h⟩ := me_bd h
  refine me_sld X hX hbl hbA e2 dL_law_1610 ?_
  refine me_aload_n X (i := 3) 3 rfl dL_law_1611 ?_
  obtain ⟨⟨v3, M1⟩, e3, h⟩ := me_bd h
  refine me_callSH X hz hRc hRs [.ref (ad 0), .int v1, .int v2, .ref (ad 424)] (chL_matches hl e3) kH_212 rfl rfl (Nat.le_of_ble_eq_true rfl) (Nat.le_refl _) (Nat.le_of_ble_eq_true rfl) dL_law_1612 ?_
  have X1 := me_Xup X hRc hRs
  refine me_istore X1 (i := 5) [(5, .int v3), (0, .ref b), (1, .ref (ad 0)), (2, .ref (ad 63)), (3, .ref (ad 424)), (4, .int i)] (Nat.le_of_ble_eq_true rfl) rfl dL_law_1615 ?_
  refine me_aload_n X1 (i := 2) 3 rfl dL_law_1617 ?_
  refine me_aload_n X1 (i := 0) 1 rfl dL_law_1618 ?_
  refine me_iload X1 (i := 4) 5 rfl dL_law_1619 ?_
  refine me_iconst X1 dL_law_1621 ic_1 ?_
  refine me_iadd X1 dL_law_1622 ?_
  obtain ⟨v4, e4, h⟩ := me_bd h
  refine me_sld X1 hX hbl hbA e4 dL_law_1623 ?_
  refine me_aload_n X1 (i := 0) 1 rfl dL_law_1624 ?_
  refine me_iload X1 (i := 4) 5 rfl dL_law_1625 ?_
  refine me_iconst X1 dL_law_1627 ic_2 ?_
  refine me_iadd X1 dL_law_1628 ?_
  obtain ⟨v5, e5, h⟩ := me_bd h
  refine me_sld X1 hX hbl hbA e5 dL_law_1629 ?_
  obtain ⟨⟨v6, M2⟩, e6, h⟩ := me_bd h
  refine me_callVi X1 [.int v4, .int v5] (ctX12_matches_63 (n := 425) (nt := 5) (by decide) (by decide) e6) kV_L_214 rfl rfl (Nat.le_of_ble_eq_true rfl) me_k63 (Nat.le_of_ble_eq_true rfl) (Nat.le_refl _) (Nat.le_of_ble_eq_true rfl) dL_law_1630 ?_
  refine me_istore X1 (i := 6) [(6, .int v6), (5, .int v3), (0, .ref b), (1, .ref (ad 0)), (2, .ref (ad 63)), (3, .ref (ad 424)), (4, .int i)] (Nat.le_of_ble_eq_true rfl) rfl dL_law_1633 ?_
  refine me_aload_n X1 (i := 2) 4 rfl dL_law_1635 ?_
  obtain ⟨v7, e7, h⟩ := me_bd h
  refine me_callVi X1 [] (ctX12_thrown_63 (n := 425) (nt := 5) (by decide) (by decide) e7) kV_L_128 rfl rfl (Nat.le_of_ble_eq_true rfl) me_k63 (Nat.le_of_ble_eq_true rfl) (Nat.le_refl _) (Nat.le_of_ble_eq_true rfl) dL_law_1636 ?_
  refine me_iload X1 (i := 5) 1 rfl dL_law_1639 ?_
  refine me_icmp_eq X1 1646 (by decide) dL_law_1641 (fun c1 => ?_) (fun c1 => ?_)
  · have h := me_ip c1 h
    refine me_iload X1 (i := 5) 1 rfl dL_law_1646 ?_
    refine me_if_ne X1 1663 (by decide) dL_law_1648 (fun c2 => ?_) (fun c2 => ?_)
    · have h := me_in c2 h
      refine me_goto X1 2334 (by decide) dL_law_1663 ?_
      obtain rfl := me_so h
      refine me_sub (L' := [(0, .ref b), (1, .ref (ad 0)), (2, .ref (ad 63)), (3, .ref (ad 424)), (4, .int i)]) [2, 3, 4, 5, 6] rfl ?_
      exact hk
    · have h := me_ip c2 h
      refine me_aload_n X1 (i := 3) 5 rfl dL_law_1651 ?_
      refine me_iconst X1 dL_law_1652 ic_0 ?_
      refine me_lald X1 (by decide) dL_law_1653 ?_
      refine me_iload X1 (i := 6) 0 rfl dL_law_1654 ?_
      refine me_i2l X1 dL_law_1656 ?_
      refine me_lcmp X1 dL_law_1657 ?_
      refine me_if_eq X1 1663 (by decide) dL_law_1658 (fun c3 => ?_) (fun c3 => ?_)
      · have h := me_ip c3 h
        refine me_goto X1 2334 (by decide) dL_law_1663 ?_
        obtain rfl := me_so h
        refine me_sub (L' := [(0, .ref b), (1, .ref (ad 0)), (2, .ref (ad 63)), (3, .ref (ad 424)), (4, .int i)]) [2, 3, 4, 5, 6] rfl ?_
        exact hk
      · have h := me_in c3 h
        cases h
  · have h := me_in c1 h
    cases h
def sg_match (xs : Nat → Int32) (Lx : Nat) (i : Int32) (M : me_M) : Option me_M :=
  ((me_sr xs Lx (i + 1)).bind fun v1 => ((me_sr xs Lx (i + 2)).bind fun v2 => ((hL_match M v1 v2).bind fun (v3, M1) => ((me_sr xs Lx (i + 1)).bind fun v4 => ((me_sr xs Lx (i + 2)).bind fun v5 => ((mX12_match_63 M1 v4 v5).bind fun (v6, M2) => ((mX12_thrown_63 M2).bind fun v7 => (if v7 = v3 then (if v3 = 0 then (if (lg_cmp (M2.2.2 0) (v6.toInt64)) = 0 then some M2 else none) else some M2) else none))))))))
set_option maxRecDepth 100000 in
set_option maxHeartbeats 4000000 in
theorem ct_sg_match {p : Program} {l : Launch} {e : Env} {R : Room} {s : State} {m : MethodId} {args : Array Value} {below : List Frame} {meth : Method} {c : Code} {cells slots : Nat} {Q : State → Prop} {D : va_G} {cA : Nat → ClassId} {ad : Nat → Nat} {A : Nat → Prop} {tys : List (ClassId × FieldType)} (hl : l.stackTraces = false) (X : me_X p R s m args c D cA ad 425 5 425 8 cells slots 200 A cL_law RL tys) (hz : me_Z A s s.heap) {b Lx : Nat} {xs : Nat → Int32} (hX : va_X b Lx xs s s.heap) (hbl : b < s.heap.size) (hbA : ¬ A b) (hRc : cells + 1 ≤ R.cells) (hRs : slots + 6 ≤ R.slots) {i : Int32} {M M' : me_M} (h : sg_match xs Lx i M = some M') (hk : me_W p l e R s m args below meth c (cells + 1) (slots + 6) Q D cA ad 425 8 A 2334 [(0, .ref b), (1, .ref (ad 0)), (2, .ref (ad 63)), (3, .ref (ad 424)), (4, .int i)] [] M') : me_W p l e R s m args below meth c cells slots Q D cA ad 425 8 A 1666 [(0, .ref b), (1, .ref (ad 0)), (2, .ref (ad 63)), (3, .ref (ad 424)), (4, .int i)] [] M := by
  have hn : 425 ≤ 425 := Nat.le_refl _
  have hnt : 5 ≤ 5 := Nat.le_refl _
  unfold sg_match at h
  refine me_aload_n X (i := 1) 1 rfl dL_law_1666 ?_
  refine me_aload_n X (i := 0) 0 rfl dL_law_1667 ?_
  refine me_iload X (i := 4) 4 rfl dL_law_1668 ?_
  refine me_iconst X dL_law_1670 ic_1 ?_
  refine me_iadd X dL_law_1671 ?_
  obtain ⟨v1, e1, h⟩ := me_bd h
  refine me_sld X hX hbl hbA e1 dL_law_1672 ?_
  refine me_aload_n X (i := 0) 0 rfl dL_law_1673 ?_
  refine me_iload X (i := 4) 4 rfl dL_law_1674 ?_
  refine me_iconst X dL_law_1676 ic_2 ?_
  refine me_iadd X dL_law_1677 ?_
  obtain ⟨v2, e2, h⟩ := me_bd h
  refine me_sld X hX hbl hbA e2 dL_law_1678 ?_
  refine me_aload_n X (i := 3) 3 rfl dL_law_1679 ?_
  obtain ⟨⟨v3, M1⟩, e3, h⟩ := me_bd h
  refine me_callSH X hz hRc hRs [.ref (ad 0), .int v1, .int v2, .ref (ad 424)] (chL_match hl e3) kH_215 rfl rfl (Nat.le_of_ble_eq_true rfl) (Nat.le_refl _) (Nat.le_of_ble_eq_true rfl) dL_law_1680 ?_
  have X1 := me_Xup X hRc hRs
  refine me_istore X1 (i := 5) [(5, .int v3), (0, .ref b), (1, .ref (ad 0)), (2, .ref (ad 63)), (3, .ref (ad 424)), (4, .int i)] (Nat.le_of_ble_eq_true rfl) rfl dL_law_1683 ?_
  refine me_aload_n X1 (i := 2) 3 rfl dL_law_1685 ?_
  refine me_aload_n X1 (i := 0) 1 rfl dL_law_1686 ?_
  refine me_iload X1 (i := 4) 5 rfl dL_law_1687 ?_
  refine me_iconst X1 dL_law_1689 ic_1 ?_
  refine me_iadd X1 dL_law_1690 ?_
  obtain ⟨v4, e4, h⟩ := me_bd h
  refine me_sld X1 hX hbl hbA e4 dL_law_1691 ?_
  refine me_aload_n X1 (i := 0) 1 rfl dL_law_1692 ?_
  refine me_iload X1 (i := 4) 5 rfl dL_law_1693 ?_
  refine me_iconst X1 dL_law_1695 ic_2 ?_
  refine me_iadd X1 dL_law_1696 ?_
  obtain ⟨v5, e5, h⟩ := me_bd h
  refine me_sld X1 hX hbl hbA e5 dL_law_1697 ?_
  obtain ⟨⟨v6, M2⟩, e6, h⟩ := me_bd h
  refine me_callVi X1 [.int v4, .int v5] (ctX12_match_63 (n := 425) (nt := 5) (by decide) (by decide) e6) kV_L_217 rfl rfl (Nat.le_of_ble_eq_true rfl) me_k63 (Nat.le_of_ble_eq_true rfl) (Nat.le_refl _) (Nat.le_of_ble_eq_true rfl) dL_law_1698 ?_
  refine me_istore X1 (i := 6) [(6, .int v6), (5, .int v3), (0, .ref b), (1, .ref (ad 0)), (2, .ref (ad 63)), (3, .ref (ad 424)), (4, .int i)] (Nat.le_of_ble_eq_true rfl) rfl dL_law_1701 ?_
  refine me_aload_n X1 (i := 2) 4 rfl dL_law_1703 ?_
  obtain ⟨v7, e7, h⟩ := me_bd h
  refine me_callVi X1 [] (ctX12_thrown_63 (n := 425) (nt := 5) (by decide) (by decide) e7) kV_L_128 rfl rfl (Nat.le_of_ble_eq_true rfl) me_k63 (Nat.le_of_ble_eq_true rfl) (Nat.le_refl _) (Nat.le_of_ble_eq_true rfl) dL_law_1704 ?_
  refine me_iload X1 (i := 5) 1 rfl dL_law_1707 ?_
  refine me_icmp_eq X1 1714 (by decide) dL_law_1709 (fun c1 => ?_) (fun c1 => ?_)
  · have h := me_ip c1 h
    refine me_iload X1 (i := 5) 1 rfl dL_law_1714 ?_
    refine me_if_ne X1 1731 (by decide) dL_law_1716 (fun c2 => ?_) (fun c2 => ?_)
    · have h := me_in c2 h
      refine me_goto X1 2334 (by decide) dL_law_1731 ?_
      obtain rfl := me_so h
      refine me_sub (L' := [(0, .ref b), (1, .ref (ad 0)), (2, .ref (ad 63)), (3, .ref (ad 424)), (4, .int i)]) [2, 3, 4, 5, 6] rfl ?_
      exact hk
    · have h := me_ip c2 h
      refine me_aload_n X1 (i := 3) 5 rfl dL_law_1719 ?_
      refine me_iconst X1 dL_law_1720 ic_0 ?_
      refine me_lald X1 (by decide) dL_law_1721 ?_
      refine me_iload X1 (i := 6) 0 rfl dL_law_1722 ?_
      refine me_i2l X1 dL_law_1724 ?_
      refine me_lcmp X1 dL_law_1725 ?_
      refine me_if_eq X1 1731 (by decide) dL_law_1726 (fun c3 => ?_) (fun c3 => ?_)
      · have h := me_ip c3 h
        refine me_goto X1 2334 (by decide) dL_law_1731 ?_
        obtain rfl := me_so h
        refine me_sub (L' := [(0, .ref b), (1, .ref (ad 0)), (2, .ref (ad 63)), (3, .ref (ad 424)), (4, .int i)]) [2, 3, 4, 5, 6] rfl ?_
        exact hk
      · have h := me_in c3 h
        cases h
  · have h := me_in c1 h
    cases h
def sg_maximals (xs : Nat → Int32) (Lx : Nat) (i : Int32) (M : me_M) : Option me_M :=
  ((me_sr xs Lx (i + 1)).bind fun v1 => ((me_sr xs Lx (i + 2)).bind fun v2 => ((hL_maximals M v1 v2).bind fun (v3, M1) => ((me_sr xs Lx (i + 1)).bind fun v4 => ((me_sr xs Lx (i + 2)).bind fun v5 => ((mX12_maximals_63 M1 v4 v5).bind fun (v6, M2) => ((mX12_thrown_63 M2).bind fun v7 => (if v7 = v3 then (if v3 = 0 then (if (lg_cmp (M2.2.2 0) (v6.toInt64)) = 0 then some M2 else none) else some M2) else none))))))))
set_option maxRecDepth 100000 in
set_option maxHeartbeats 4000000 in
theorem ct_sg_maximals {p : Program} {l : Launch} {e : Env} {R : Room} {s : State} {m : MethodId} {args : Array Value} {below : List Frame} {meth : Method} {c : Code} {cells slots : Nat} {Q : State → Prop} {D : va_G} {cA : Nat → ClassId} {ad : Nat → Nat} {A : Nat → Prop} {tys : List (ClassId × FieldType)} (hl : l.stackTraces = false) (X : me_X p R s m args c D cA ad 425 5 425 8 cells slots 200 A cL_law RL tys) (hz : me_Z A s s.heap) {b Lx : Nat} {xs : Nat → Int32} (hX : va_X b Lx xs s s.heap) (hbl : b < s.heap.size) (hbA : ¬ A b) (hRc : cells + 1 ≤ R.cells) (hRs : slots + 6 ≤ R.slots) {i : Int32} {M M' : me_M} (h : sg_maximals xs Lx i M = some M') (hk : me_W p l e R s m args below meth c (cells + 1) (slots + 6) Q D cA ad 425 8 A 2334 [(0, .ref b), (1, .ref (ad 0)), (2, .ref (ad 63)), (3, .ref (ad 424)), (4, .int i)] [] M') : me_W p l e R s m args below meth c cells slots Q D cA ad 425 8 A 1734 [(0, .ref b), (1, .ref (ad 0)), (2, .ref (ad 63)), (3, .ref (ad 424)), (4, .int i)] [] M := by
  have hn : 425 ≤ 425 := Nat.le_refl _
  have hnt : 5 ≤ 5 := Nat.le_refl _
  unfold sg_maximals at h
  refine me_aload_n X (i := 1) 1 rfl dL_law_1734 ?_
  refine me_aload_n X (i := 0) 0 rfl dL_law_1735 ?_
  refine me_iload X (i := 4) 4 rfl dL_law_1736 ?_
  refine me_iconst X dL_law_1738 ic_1 ?_
  refine me_iadd X dL_law_1739 ?_
  obtain ⟨v1, e1, h⟩ := me_bd h
  refine me_sld X hX hbl hbA e1 dL_law_1740 ?_
  refine me_aload_n X (i := 0) 0 rfl dL_law_1741 ?_
  refine me_iload X (i := 4) 4 rfl dL_law_1742 ?_
  refine me_iconst X dL_law_1744 ic_2 ?_
  refine me_iadd X dL_law_1745 ?_
  obtain ⟨v2, e2, h⟩ := me_bd h
  refine me_sld X hX hbl hbA e2 dL_law_1746 ?_
  refine me_aload_n X (i := 3) 3 rfl dL_law_1747 ?_
  obtain ⟨⟨v3, M1⟩, e3, h⟩ := me_bd h
  refine me_callSH X hz hRc hRs [.ref (ad 0), .int v1, .int v2, .ref (ad 424)] (chL_maximals hl e3) kH_218 rfl rfl (Nat.le_of_ble_eq_true rfl) (Nat.le_refl _) (Nat.le_of_ble_eq_true rfl) dL_law_1748 ?_
  have X1 := me_Xup X hRc hRs
  refine me_istore X1 (i := 5) [(5, .int v3), (0, .ref b), (1, .ref (ad 0)), (2, .ref (ad 63)), (3, .ref (ad 424)), (4, .int i)] (Nat.le_of_ble_eq_true rfl) rfl dL_law_1751 ?_
  refine me_aload_n X1 (i := 2) 3 rfl dL_law_1753 ?_
  refine me_aload_n X1 (i := 0) 1 rfl dL_law_1754 ?_
  refine me_iload X1 (i := 4) 5 rfl dL_law_1755 ?_
  refine me_iconst X1 dL_law_1757 ic_1 ?_
  refine me_iadd X1 dL_law_1758 ?_
  obtain ⟨v4, e4, h⟩ := me_bd h
  refine me_sld X1 hX hbl hbA e4 dL_law_1759 ?_
  refine me_aload_n X1 (i := 0) 1 rfl dL_law_1760 ?_
  refine me_iload X1 (i := 4) 5 rfl dL_law_1761 ?_
  refine me_iconst X1 dL_law_1763 ic_2 ?_
  refine me_iadd X1 dL_law_1764 ?_
  obtain ⟨v5, e5, h⟩ := me_bd h
  refine me_sld X1 hX hbl hbA e5 dL_law_1765 ?_
  obtain ⟨⟨v6, M2⟩, e6, h⟩ := me_bd h
  refine me_callVi X1 [.int v4, .int v5] (ctX12_maximals_63 (n := 425) (nt := 5) (by decide) (by decide) e6) kV_L_220 rfl rfl (Nat.le_of_ble_eq_true rfl) me_k63 (Nat.le_of_ble_eq_true rfl) (Nat.le_refl _) (Nat.le_of_ble_eq_true rfl) dL_law_1766 ?_
  refine me_istore X1 (i := 6) [(6, .int v6), (5, .int v3), (0, .ref b), (1, .ref (ad 0)), (2, .ref (ad 63)), (3, .ref (ad 424)), (4, .int i)] (Nat.le_of_ble_eq_true rfl) rfl dL_law_1769 ?_
  refine me_aload_n X1 (i := 2) 4 rfl dL_law_1771 ?_
  obtain ⟨v7, e7, h⟩ := me_bd h
  refine me_callVi X1 [] (ctX12_thrown_63 (n := 425) (nt := 5) (by decide) (by decide) e7) kV_L_128 rfl rfl (Nat.le_of_ble_eq_true rfl) me_k63 (Nat.le_of_ble_eq_true rfl) (Nat.le_refl _) (Nat.le_of_ble_eq_true rfl) dL_law_1772 ?_
  refine me_iload X1 (i := 5) 1 rfl dL_law_1775 ?_
  refine me_icmp_eq X1 1782 (by decide) dL_law_1777 (fun c1 => ?_) (fun c1 => ?_)
  · have h := me_ip c1 h
    refine me_iload X1 (i := 5) 1 rfl dL_law_1782 ?_
    refine me_if_ne X1 1799 (by decide) dL_law_1784 (fun c2 => ?_) (fun c2 => ?_)
    · have h := me_in c2 h
      refine me_goto X1 2334 (by decide) dL_law_1799 ?_
      obtain rfl := me_so h
      refine me_sub (L' := [(0, .ref b), (1, .ref (ad 0)), (2, .ref (ad 63)), (3, .ref (ad 424)), (4, .int i)]) [2, 3, 4, 5, 6] rfl ?_
      exact hk
    · have h := me_ip c2 h
      refine me_aload_n X1 (i := 3) 5 rfl dL_law_1787 ?_
      refine me_iconst X1 dL_law_1788 ic_0 ?_
      refine me_lald X1 (by decide) dL_law_1789 ?_
      refine me_iload X1 (i := 6) 0 rfl dL_law_1790 ?_
      refine me_i2l X1 dL_law_1792 ?_
      refine me_lcmp X1 dL_law_1793 ?_
      refine me_if_eq X1 1799 (by decide) dL_law_1794 (fun c3 => ?_) (fun c3 => ?_)
      · have h := me_ip c3 h
        refine me_goto X1 2334 (by decide) dL_law_1799 ?_
        obtain rfl := me_so h
        refine me_sub (L' := [(0, .ref b), (1, .ref (ad 0)), (2, .ref (ad 63)), (3, .ref (ad 424)), (4, .int i)]) [2, 3, 4, 5, 6] rfl ?_
        exact hk
      · have h := me_in c3 h
        cases h
  · have h := me_in c1 h
    cases h
def sg_maximal (xs : Nat → Int32) (Lx : Nat) (i : Int32) (M : me_M) : Option me_M :=
  ((me_sr xs Lx (i + 1)).bind fun v1 => ((me_sr xs Lx (i + 2)).bind fun v2 => ((me_sr xs Lx (i + 3)).bind fun v3 => ((me_sr xs Lx (i + 4)).bind fun v4 => ((hL_maximal M v1 v2 v3 v4).bind fun (v5, M1) => ((me_sr xs Lx (i + 1)).bind fun v6 => ((me_sr xs Lx (i + 2)).bind fun v7 => ((me_sr xs Lx (i + 3)).bind fun v8 => ((me_sr xs Lx (i + 4)).bind fun v9 => ((mX12_maximal_63 M1 v6 v7 v8 v9).bind fun (v10, M2) => ((mX12_thrown_63 M2).bind fun v11 => (if v11 = v5 then (if v5 = 0 then (if (lg_cmp (M2.2.2 0) (v10.toInt64)) = 0 then some M2 else none) else some M2) else none))))))))))))
set_option maxRecDepth 100000 in
set_option maxHeartbeats 4000000 in
theorem ct_sg_maximal {p : Program} {l : Launch} {e : Env} {R : Room} {s : State} {m : MethodId} {args : Array Value} {below : List Frame} {meth : Method} {c : Code} {cells slots : Nat} {Q : State → Prop} {D : va_G} {cA : Nat → ClassId} {ad : Nat → Nat} {A : Nat → Prop} {tys : List (ClassId × FieldType)} (hl : l.stackTraces = false) (X : me_X p R s m args c D cA ad 425 5 425 8 cells slots 200 A cL_law RL tys) (hz : me_Z A s s.heap) {b Lx : Nat} {xs : Nat → Int32} (hX : va_X b Lx xs s s.heap) (hbl : b < s.heap.size) (hbA : ¬ A b) (hRc : cells + 1 ≤ R.cells) (hRs : slots + 6 ≤ R.slots) {i : Int32} {M M' : me_M} (h : sg_maximal xs Lx i M = some M') (hk : me_W p l e R s m args below meth c (cells + 1) (slots + 6) Q D cA ad 425 8 A 2334 [(0, .ref b), (1, .ref (ad 0)), (2, .ref (ad 63)), (3, .ref (ad 424)), (4, .int i)] [] M') : me_W p l e R s m args below meth c cells slots Q D cA ad 425 8 A 1802 [(0, .ref b), (1, .ref (ad 0)), (2, .ref (ad 63)), (3, .ref (ad 424)), (4, .int i)] [] M := by
  have hn : 425 ≤ 425 := Nat.le_refl _
  have hnt : 5 ≤ 5 := Nat.le_refl _
  unfold sg_maximal at h
  refine me_aload_n X (i := 1) 1 rfl dL_law_1802 ?_
  refine me_aload_n X (i := 0) 0 rfl dL_law_1803 ?_
  refine me_iload X (i := 4) 4 rfl dL_law_1804 ?_
  refine me_iconst X dL_law_1806 ic_1 ?_
  refine me_iadd X dL_law_1807 ?_
  obtain ⟨v1, e1, h⟩ := me_bd h
  refine me_sld X hX hbl hbA e1 dL_law_1808 ?_
  refine me_aload_n X (i := 0) 0 rfl dL_law_1809 ?_
  refine me_iload X (i := 4) 4 rfl dL_law_1810 ?_
  refine me_iconst X dL_law_1812 ic_2 ?_
  refine me_iadd X dL_law_1813 ?_
  obtain ⟨v2, e2, h⟩ := me_bd h
  refine me_sld X hX hbl hbA e2 dL_law_1814 ?_
  refine me_aload_n X (i := 0) 0 rfl dL_law_1815 ?_
  refine me_iload X (i := 4) 4 rfl dL_law_1816 ?_
  refine me_iconst X dL_law_1818 ic_3 ?_
  refine me_iadd X dL_law_1819 ?_
  obtain ⟨v3, e3, h⟩ := me_bd h
  refine me_sld X hX hbl hbA e3 dL_law_1820 ?_
  refine me_aload_n X (i := 0) 0 rfl dL_law_1821 ?_
  refine me_iload X (i := 4) 4 rfl dL_law_1822 ?_
  refine me_iconst X dL_law_1824 ic_4 ?_
  refine me_iadd X dL_law_1825 ?_
  obtain ⟨v4, e4, h⟩ := me_bd h
  refine me_sld X hX hbl hbA e4 dL_law_1826 ?_
  refine me_aload_n X (i := 3) 3 rfl dL_law_1827 ?_
  obtain ⟨⟨v5, M1⟩, e5, h⟩ := me_bd h
  refine me_callSH X hz hRc hRs [.ref (ad 0), .int v1, .int v2, .int v3, .int v4, .ref (ad 424)] (chL_maximal hl e5) kH_221 rfl rfl (Nat.le_of_ble_eq_true rfl) (Nat.le_refl _) (Nat.le_of_ble_eq_true rfl) dL_law_1828 ?_
  have X1 := me_Xup X hRc hRs
  refine me_istore X1 (i := 5) [(5, .int v5), (0, .ref b), (1, .ref (ad 0)), (2, .ref (ad 63)), (3, .ref (ad 424)), (4, .int i)] (Nat.le_of_ble_eq_true rfl) rfl dL_law_1831 ?_
  refine me_aload_n X1 (i := 2) 3 rfl dL_law_1833 ?_
  refine me_aload_n X1 (i := 0) 1 rfl dL_law_1834 ?_
  refine me_iload X1 (i := 4) 5 rfl dL_law_1835 ?_
  refine me_iconst X1 dL_law_1837 ic_1 ?_
  refine me_iadd X1 dL_law_1838 ?_
  obtain ⟨v6, e6, h⟩ := me_bd h
  refine me_sld X1 hX hbl hbA e6 dL_law_1839 ?_
  refine me_aload_n X1 (i := 0) 1 rfl dL_law_1840 ?_
  refine me_iload X1 (i := 4) 5 rfl dL_law_1841 ?_
  refine me_iconst X1 dL_law_1843 ic_2 ?_
  refine me_iadd X1 dL_law_1844 ?_
  obtain ⟨v7, e7, h⟩ := me_bd h
  refine me_sld X1 hX hbl hbA e7 dL_law_1845 ?_
  refine me_aload_n X1 (i := 0) 1 rfl dL_law_1846 ?_
  refine me_iload X1 (i := 4) 5 rfl dL_law_1847 ?_
  refine me_iconst X1 dL_law_1849 ic_3 ?_
  refine me_iadd X1 dL_law_1850 ?_
  obtain ⟨v8, e8, h⟩ := me_bd h
  refine me_sld X1 hX hbl hbA e8 dL_law_1851 ?_
  refine me_aload_n X1 (i := 0) 1 rfl dL_law_1852 ?_
  refine me_iload X1 (i := 4) 5 rfl dL_law_1853 ?_
  refine me_iconst X1 dL_law_1855 ic_4 ?_
  refine me_iadd X1 dL_law_1856 ?_
  obtain ⟨v9, e9, h⟩ := me_bd h
  refine me_sld X1 hX hbl hbA e9 dL_law_1857 ?_
  obtain ⟨⟨v10, M2⟩, e10, h⟩ := me_bd h
  refine me_callVi X1 [.int v6, .int v7, .int v8, .int v9] (ctX12_maximal_63 (n := 425) (nt := 5) (by decide) (by decide) e10) kV_L_224 rfl rfl (Nat.le_of_ble_eq_true rfl) me_k63 (Nat.le_of_ble_eq_true rfl) (Nat.le_refl _) (Nat.le_of_ble_eq_true rfl) dL_law_1858 ?_
  refine me_istore X1 (i := 6) [(6, .int v10), (5, .int v5), (0, .ref b), (1, .ref (ad 0)), (2, .ref (ad 63)), (3, .ref (ad 424)), (4, .int i)] (Nat.le_of_ble_eq_true rfl) rfl dL_law_1861 ?_
  refine me_aload_n X1 (i := 2) 4 rfl dL_law_1863 ?_
  obtain ⟨v11, e11, h⟩ := me_bd h
  refine me_callVi X1 [] (ctX12_thrown_63 (n := 425) (nt := 5) (by decide) (by decide) e11) kV_L_128 rfl rfl (Nat.le_of_ble_eq_true rfl) me_k63 (Nat.le_of_ble_eq_true rfl) (Nat.le_refl _) (Nat.le_of_ble_eq_true rfl) dL_law_1864 ?_
  refine me_iload X1 (i := 5) 1 rfl dL_law_1867 ?_
  refine me_icmp_eq X1 1874 (by decide) dL_law_1869 (fun c1 => ?_) (fun c1 => ?_)
  · have h := me_ip c1 h
    refine me_iload X1 (i := 5) 1 rfl dL_law_1874 ?_
    refine me_if_ne X1 1891 (by decide) dL_law_1876 (fun c2 => ?_) (fun c2 => ?_)
    · have h := me_in c2 h
      refine me_goto X1 2334 (by decide) dL_law_1891 ?_
      obtain rfl := me_so h
      refine me_sub (L' := [(0, .ref b), (1, .ref (ad 0)), (2, .ref (ad 63)), (3, .ref (ad 424)), (4, .int i)]) [2, 3, 4, 5, 6] rfl ?_
      exact hk
    · have h := me_ip c2 h
      refine me_aload_n X1 (i := 3) 5 rfl dL_law_1879 ?_
      refine me_iconst X1 dL_law_1880 ic_0 ?_
      refine me_lald X1 (by decide) dL_law_1881 ?_
      refine me_iload X1 (i := 6) 0 rfl dL_law_1882 ?_
      refine me_i2l X1 dL_law_1884 ?_
      refine me_lcmp X1 dL_law_1885 ?_
      refine me_if_eq X1 1891 (by decide) dL_law_1886 (fun c3 => ?_) (fun c3 => ?_)
      · have h := me_ip c3 h
        refine me_goto X1 2334 (by decide) dL_law_1891 ?_
        obtain rfl := me_so h
        refine me_sub (L' := [(0, .ref b), (1, .ref (ad 0)), (2, .ref (ad 63)), (3, .ref (ad 424)), (4, .int i)]) [2, 3, 4, 5, 6] rfl ?_
        exact hk
      · have h := me_in c3 h
        cases h
  · have h := me_in c1 h
    cases h
def sg_strings (xs : Nat → Int32) (Lx : Nat) (i : Int32) (M : me_M) : Option me_M :=
  ((me_sr xs Lx (i + 1)).bind fun v1 => ((hL_strings M v1).bind fun (v2, M1) => ((me_sr xs Lx (i + 1)).bind fun v3 => ((mX12_strings_63 M1 v3).bind fun (v4, M2) => ((mX12_thrown_63 M2).bind fun v5 => (if v5 = v2 then (if v2 = 0 then (if (lg_cmp (M2.2.2 0) (v4.toInt64)) = 0 then some M2 else none) else some M2) else none))))))
set_option maxRecDepth 100000 in
set_option maxHeartbeats 4000000 in
theorem ct_sg_strings {p : Program} {l : Launch} {e : Env} {R : Room} {s : State} {m : MethodId} {args : Array Value} {below : List Frame} {meth : Method} {c : Code} {cells slots : Nat} {Q : State → Prop} {D : va_G} {cA : Nat → ClassId} {ad : Nat → Nat} {A : Nat → Prop} {tys : List (ClassId × FieldType)} (hl : l.stackTraces = false) (X : me_X p R s m args c D cA ad 425 5 425 8 cells slots 200 A cL_law RL tys) (hz : me_Z A s s.heap) {b Lx : Nat} {xs : Nat → Int32} (hX : va_X b Lx xs s s.heap) (hbl : b < s.heap.size) (hbA : ¬ A b) (hRc : cells + 1 ≤ R.cells) (hRs : slots + 6 ≤ R.slots) {i : Int32} {M M' : me_M} (h : sg_strings xs Lx i M = some M') (hk : me_W p l e R s m args below meth c (cells + 1) (slots + 6) Q D cA ad 425 8 A 2334 [(0, .ref b), (1, .ref (ad 0)), (2, .ref (ad 63)), (3, .ref (ad 424)), (4, .int i)] [] M') : me_W p l e R s m args below meth c cells slots Q D cA ad 425 8 A 1894 [(0, .ref b), (1, .ref (ad 0)), (2, .ref (ad 63)), (3, .ref (ad 424)), (4, .int i)] [] M := by
  have hn : 425 ≤ 425 := Nat.le_refl _
  have hnt : 5 ≤ 5 := Nat.le_refl _
  unfold sg_strings at h
  refine me_aload_n X (i := 1) 1 rfl dL_law_1894 ?_
  refine me_aload_n X (i := 0) 0 rfl dL_law_1895 ?_
  refine me_iload X (i := 4) 4 rfl dL_law_1896 ?_
  refine me_iconst X dL_law_1898 ic_1 ?_
  refine me_iadd X dL_law_1899 ?_
  obtain ⟨v1, e1, h⟩ := me_bd h
  refine me_sld X hX hbl hbA e1 dL_law_1900 ?_
  refine me_aload_n X (i := 3) 3 rfl dL_law_1901 ?_
  obtain ⟨⟨v2, M1⟩, e2, h⟩ := me_bd h
  refine me_callSH X hz hRc hRs [.ref (ad 0), .int v1, .ref (ad 424)] (chL_strings hl e2) kH_225 rfl rfl (Nat.le_of_ble_eq_true rfl) (Nat.le_refl _) (Nat.le_of_ble_eq_true rfl) dL_law_1902 ?_
  have X1 := me_Xup X hRc hRs
  refine me_istore X1 (i := 5) [(5, .int v2), (0, .ref b), (1, .ref (ad 0)), (2, .ref (ad 63)), (3, .ref (ad 424)), (4, .int i)] (Nat.le_of_ble_eq_true rfl) rfl dL_law_1905 ?_
  refine me_aload_n X1 (i := 2) 3 rfl dL_law_1907 ?_
  refine me_aload_n X1 (i := 0) 1 rfl dL_law_1908 ?_
  refine me_iload X1 (i := 4) 5 rfl dL_law_1909 ?_
  refine me_iconst X1 dL_law_1911 ic_1 ?_
  refine me_iadd X1 dL_law_1912 ?_
  obtain ⟨v3, e3, h⟩ := me_bd h
  refine me_sld X1 hX hbl hbA e3 dL_law_1913 ?_
  obtain ⟨⟨v4, M2⟩, e4, h⟩ := me_bd h
  refine me_callVi X1 [.int v3] (ctX12_strings_63 (n := 425) (nt := 5) (by decide) (by decide) e4) kV_L_227 rfl rfl (Nat.le_of_ble_eq_true rfl) me_k63 (Nat.le_of_ble_eq_true rfl) (Nat.le_refl _) (Nat.le_of_ble_eq_true rfl) dL_law_1914 ?_
  refine me_istore X1 (i := 6) [(6, .int v4), (5, .int v2), (0, .ref b), (1, .ref (ad 0)), (2, .ref (ad 63)), (3, .ref (ad 424)), (4, .int i)] (Nat.le_of_ble_eq_true rfl) rfl dL_law_1917 ?_
  refine me_aload_n X1 (i := 2) 4 rfl dL_law_1919 ?_
  obtain ⟨v5, e5, h⟩ := me_bd h
  refine me_callVi X1 [] (ctX12_thrown_63 (n := 425) (nt := 5) (by decide) (by decide) e5) kV_L_128 rfl rfl (Nat.le_of_ble_eq_true rfl) me_k63 (Nat.le_of_ble_eq_true rfl) (Nat.le_refl _) (Nat.le_of_ble_eq_true rfl) dL_law_1920 ?_
  refine me_iload X1 (i := 5) 1 rfl dL_law_1923 ?_
  refine me_icmp_eq X1 1930 (by decide) dL_law_1925 (fun c1 => ?_) (fun c1 => ?_)
  · have h := me_ip c1 h
    refine me_iload X1 (i := 5) 1 rfl dL_law_1930 ?_
    refine me_if_ne X1 1947 (by decide) dL_law_1932 (fun c2 => ?_) (fun c2 => ?_)
    · have h := me_in c2 h
      refine me_goto X1 2334 (by decide) dL_law_1947 ?_
      obtain rfl := me_so h
      refine me_sub (L' := [(0, .ref b), (1, .ref (ad 0)), (2, .ref (ad 63)), (3, .ref (ad 424)), (4, .int i)]) [2, 3, 4, 5, 6] rfl ?_
      exact hk
    · have h := me_ip c2 h
      refine me_aload_n X1 (i := 3) 5 rfl dL_law_1935 ?_
      refine me_iconst X1 dL_law_1936 ic_0 ?_
      refine me_lald X1 (by decide) dL_law_1937 ?_
      refine me_iload X1 (i := 6) 0 rfl dL_law_1938 ?_
      refine me_i2l X1 dL_law_1940 ?_
      refine me_lcmp X1 dL_law_1941 ?_
      refine me_if_eq X1 1947 (by decide) dL_law_1942 (fun c3 => ?_) (fun c3 => ?_)
      · have h := me_ip c3 h
        refine me_goto X1 2334 (by decide) dL_law_1947 ?_
        obtain rfl := me_so h
        refine me_sub (L' := [(0, .ref b), (1, .ref (ad 0)), (2, .ref (ad 63)), (3, .ref (ad 424)), (4, .int i)]) [2, 3, 4, 5, 6] rfl ?_
        exact hk
      · have h := me_in c3 h
        cases h
  · have h := me_in c1 h
    cases h
def sg_repeat (xs : Nat → Int32) (Lx : Nat) (i : Int32) (M : me_M) : Option me_M :=
  ((me_sr xs Lx (i + 1)).bind fun v1 => ((hL_repeat M v1).bind fun (v2, M1) => ((me_sr xs Lx (i + 1)).bind fun v3 => ((mX12_repeat_63 M1 v3).bind fun (v4, M2) => ((mX12_thrown_63 M2).bind fun v5 => (if v5 = v2 then (if v2 = 0 then (if (lg_cmp (M2.2.2 0) (v4.toInt64)) = 0 then some M2 else none) else some M2) else none))))))
set_option maxRecDepth 100000 in
set_option maxHeartbeats 4000000 in
theorem ct_sg_repeat {p : Program} {l : Launch} {e : Env} {R : Room} {s : State} {m : MethodId} {args : Array Value} {below : List Frame} {meth : Method} {c : Code} {cells slots : Nat} {Q : State → Prop} {D : va_G} {cA : Nat → ClassId} {ad : Nat → Nat} {A : Nat → Prop} {tys : List (ClassId × FieldType)} (hl : l.stackTraces = false) (X : me_X p R s m args c D cA ad 425 5 425 8 cells slots 200 A cL_law RL tys) (hz : me_Z A s s.heap) {b Lx : Nat} {xs : Nat → Int32} (hX : va_X b Lx xs s s.heap) (hbl : b < s.heap.size) (hbA : ¬ A b) (hRc : cells + 1 ≤ R.cells) (hRs : slots + 6 ≤ R.slots) {i : Int32} {M M' : me_M} (h : sg_repeat xs Lx i M = some M') (hk : me_W p l e R s m args below meth c (cells + 1) (slots + 6) Q D cA ad 425 8 A 2334 [(0, .ref b), (1, .ref (ad 0)), (2, .ref (ad 63)), (3, .ref (ad 424)), (4, .int i)] [] M') : me_W p l e R s m args below meth c cells slots Q D cA ad 425 8 A 1950 [(0, .ref b), (1, .ref (ad 0)), (2, .ref (ad 63)), (3, .ref (ad 424)), (4, .int i)] [] M := by
  have hn : 425 ≤ 425 := Nat.le_refl _
  have hnt : 5 ≤ 5 := Nat.le_refl _
  unfold sg_repeat at h
  refine me_aload_n X (i := 1) 1 rfl dL_law_1950 ?_
  refine me_aload_n X (i := 0) 0 rfl dL_law_1951 ?_
  refine me_iload X (i := 4) 4 rfl dL_law_1952 ?_
  refine me_iconst X dL_law_1954 ic_1 ?_
  refine me_iadd X dL_law_1955 ?_
  obtain ⟨v1, e1, h⟩ := me_bd h
  refine me_sld X hX hbl hbA e1 dL_law_1956 ?_
  refine me_aload_n X (i := 3) 3 rfl dL_law_1957 ?_
  obtain ⟨⟨v2, M1⟩, e2, h⟩ := me_bd h
  refine me_callSH X hz hRc hRs [.ref (ad 0), .int v1, .ref (ad 424)] (chL_repeat hl e2) kH_228 rfl rfl (Nat.le_of_ble_eq_true rfl) (Nat.le_refl _) (Nat.le_of_ble_eq_true rfl) dL_law_1958 ?_
  have X1 := me_Xup X hRc hRs
  refine me_istore X1 (i := 5) [(5, .int v2), (0, .ref b), (1, .ref (ad 0)), (2, .ref (ad 63)), (3, .ref (ad 424)), (4, .int i)] (Nat.le_of_ble_eq_true rfl) rfl dL_law_1961 ?_
  refine me_aload_n X1 (i := 2) 3 rfl dL_law_1963 ?_
  refine me_aload_n X1 (i := 0) 1 rfl dL_law_1964 ?_
  refine me_iload X1 (i := 4) 5 rfl dL_law_1965 ?_
  refine me_iconst X1 dL_law_1967 ic_1 ?_
  refine me_iadd X1 dL_law_1968 ?_
  obtain ⟨v3, e3, h⟩ := me_bd h
  refine me_sld X1 hX hbl hbA e3 dL_law_1969 ?_
  obtain ⟨⟨v4, M2⟩, e4, h⟩ := me_bd h
  refine me_callVi X1 [.int v3] (ctX12_repeat_63 (n := 425) (nt := 5) (by decide) (by decide) e4) kV_L_230 rfl rfl (Nat.le_of_ble_eq_true rfl) me_k63 (Nat.le_of_ble_eq_true rfl) (Nat.le_refl _) (Nat.le_of_ble_eq_true rfl) dL_law_1970 ?_
  refine me_istore X1 (i := 6) [(6, .int v4), (5, .int v2), (0, .ref b), (1, .ref (ad 0)), (2, .ref (ad 63)), (3, .ref (ad 424)), (4, .int i)] (Nat.le_of_ble_eq_true rfl) rfl dL_law_1973 ?_
  refine me_aload_n X1 (i := 2) 4 rfl dL_law_1975 ?_
  obtain ⟨v5, e5, h⟩ := me_bd h
  refine me_callVi X1 [] (ctX12_thrown_63 (n := 425) (nt := 5) (by decide) (by decide) e5) kV_L_128 rfl rfl (Nat.le_of_ble_eq_true rfl) me_k63 (Nat.le_of_ble_eq_true rfl) (Nat.le_refl _) (Nat.le_of_ble_eq_true rfl) dL_law_1976 ?_
  refine me_iload X1 (i := 5) 1 rfl dL_law_1979 ?_
  refine me_icmp_eq X1 1986 (by decide) dL_law_1981 (fun c1 => ?_) (fun c1 => ?_)
  · have h := me_ip c1 h
    refine me_iload X1 (i := 5) 1 rfl dL_law_1986 ?_
    refine me_if_ne X1 2003 (by decide) dL_law_1988 (fun c2 => ?_) (fun c2 => ?_)
    · have h := me_in c2 h
      refine me_goto X1 2334 (by decide) dL_law_2003 ?_
      obtain rfl := me_so h
      refine me_sub (L' := [(0, .ref b), (1, .ref (ad 0)), (2, .ref (ad 63)), (3, .ref (ad 424)), (4, .int i)]) [2, 3, 4, 5, 6] rfl ?_
      exact hk
    · have h := me_ip c2 h
      refine me_aload_n X1 (i := 3) 5 rfl dL_law_1991 ?_
      refine me_iconst X1 dL_law_1992 ic_0 ?_
      refine me_lald X1 (by decide) dL_law_1993 ?_
      refine me_iload X1 (i := 6) 0 rfl dL_law_1994 ?_
      refine me_i2l X1 dL_law_1996 ?_
      refine me_lcmp X1 dL_law_1997 ?_
      refine me_if_eq X1 2003 (by decide) dL_law_1998 (fun c3 => ?_) (fun c3 => ?_)
      · have h := me_ip c3 h
        refine me_goto X1 2334 (by decide) dL_law_2003 ?_
        obtain rfl := me_so h
        refine me_sub (L' := [(0, .ref b), (1, .ref (ad 0)), (2, .ref (ad 63)), (3, .ref (ad 424)), (4, .int i)]) [2, 3, 4, 5, 6] rfl ?_
        exact hk
      · have h := me_in c3 h
        cases h
  · have h := me_in c1 h
    cases h
def sg_unique (xs : Nat → Int32) (Lx : Nat) (i : Int32) (M : me_M) : Option me_M :=
  ((me_sr xs Lx (i + 1)).bind fun v1 => ((hL_unique M v1).bind fun (v2, M1) => ((me_sr xs Lx (i + 1)).bind fun v3 => ((mX12_unique_63 M1 v3).bind fun (v4, M2) => ((mX12_thrown_63 M2).bind fun v5 => (if v5 = v2 then (if v2 = 0 then (if (lg_cmp (M2.2.2 0) (v4.toInt64)) = 0 then some M2 else none) else some M2) else none))))))
set_option maxRecDepth 100000 in
set_option maxHeartbeats 4000000 in
theorem ct_sg_unique {p : Program} {l : Launch} {e : Env} {R : Room} {s : State} {m : MethodId} {args : Array Value} {below : List Frame} {meth : Method} {c : Code} {cells slots : Nat} {Q : State → Prop} {D : va_G} {cA : Nat → ClassId} {ad : Nat → Nat} {A : Nat → Prop} {tys : List (ClassId × FieldType)} (hl : l.stackTraces = false) (X : me_X p R s m args c D cA ad 425 5 425 8 cells slots 200 A cL_law RL tys) (hz : me_Z A s s.heap) {b Lx : Nat} {xs : Nat → Int32} (hX : va_X b Lx xs s s.heap) (hbl : b < s.heap.size) (hbA : ¬ A b) (hRc : cells + 1 ≤ R.cells) (hRs : slots + 6 ≤ R.slots) {i : Int32} {M M' : me_M} (h : sg_unique xs Lx i M = some M') (hk : me_W p l e R s m args below meth c (cells + 1) (slots + 6) Q D cA ad 425 8 A 2334 [(0, .ref b), (1, .ref (ad 0)), (2, .ref (ad 63)), (3, .ref (ad 424)), (4, .int i)] [] M') : me_W p l e R s m args below meth c cells slots Q D cA ad 425 8 A 2006 [(0, .ref b), (1, .ref (ad 0)), (2, .ref (ad 63)), (3, .ref (ad 424)), (4, .int i)] [] M := by
  have hn : 425 ≤ 425 := Nat.le_refl _
  have hnt : 5 ≤ 5 := Nat.le_refl _
  unfold sg_unique at h
  refine me_aload_n X (i := 1) 1 rfl dL_law_2006 ?_
  refine me_aload_n X (i := 0) 0 rfl dL_law_2007 ?_
  refine me_iload X (i := 4) 4 rfl dL_law_2008 ?_
  refine me_iconst X dL_law_2010 ic_1 ?_
  refine me_iadd X dL_law_2011 ?_
  obtain ⟨v1, e1, h⟩ := me_bd h
  refine me_sld X hX hbl hbA e1 dL_law_2012 ?_
  refine me_aload_n X (i := 3) 3 rfl dL_law_2013 ?_
  obtain ⟨⟨v2, M1⟩, e2, h⟩ := me_bd h
  refine me_callSH X hz hRc hRs [.ref (ad 0), .int v1, .ref (ad 424)] (chL_unique hl e2) kH_231 rfl rfl (Nat.le_of_ble_eq_true rfl) (Nat.le_refl _) (Nat.le_of_ble_eq_true rfl) dL_law_2014 ?_
  have X1 := me_Xup X hRc hRs
  refine me_istore X1 (i := 5) [(5, .int v2), (0, .ref b), (1, .ref (ad 0)), (2, .ref (ad 63)), (3, .ref (ad 424)), (4, .int i)] (Nat.le_of_ble_eq_true rfl) rfl dL_law_2017 ?_
  refine me_aload_n X1 (i := 2) 3 rfl dL_law_2019 ?_
  refine me_aload_n X1 (i := 0) 1 rfl dL_law_2020 ?_
  refine me_iload X1 (i := 4) 5 rfl dL_law_2021 ?_
  refine me_iconst X1 dL_law_2023 ic_1 ?_
  refine me_iadd X1 dL_law_2024 ?_
  obtain ⟨v3, e3, h⟩ := me_bd h
  refine me_sld X1 hX hbl hbA e3 dL_law_2025 ?_
  obtain ⟨⟨v4, M2⟩, e4, h⟩ := me_bd h
  refine me_callVi X1 [.int v3] (ctX12_unique_63 (n := 425) (nt := 5) (by decide) (by decide) e4) kV_L_233 rfl rfl (Nat.le_of_ble_eq_true rfl) me_k63 (Nat.le_of_ble_eq_true rfl) (Nat.le_refl _) (Nat.le_of_ble_eq_true rfl) dL_law_2026 ?_
  refine me_istore X1 (i := 6) [(6, .int v4), (5, .int v2), (0, .ref b), (1, .ref (ad 0)), (2, .ref (ad 63)), (3, .ref (ad 424)), (4, .int i)] (Nat.le_of_ble_eq_true rfl) rfl dL_law_2029 ?_
  refine me_aload_n X1 (i := 2) 4 rfl dL_law_2031 ?_
  obtain ⟨v5, e5, h⟩ := me_bd h
  refine me_callVi X1 [] (ctX12_thrown_63 (n := 425) (nt := 5) (by decide) (by decide) e5) kV_L_128 rfl rfl (Nat.le_of_ble_eq_true rfl) me_k63 (Nat.le_of_ble_eq_true rfl) (Nat.le_refl _) (Nat.le_of_ble_eq_true rfl) dL_law_2032 ?_
  refine me_iload X1 (i := 5) 1 rfl dL_law_2035 ?_
  refine me_icmp_eq X1 2042 (by decide) dL_law_2037 (fun c1 => ?_) (fun c1 => ?_)
  · have h := me_ip c1 h
    refine me_iload X1 (i := 5) 1 rfl dL_law_2042 ?_
    refine me_if_ne X1 2059 (by decide) dL_law_2044 (fun c2 => ?_) (fun c2 => ?_)
    · have h := me_in c2 h
      refine me_goto X1 2334 (by decide) dL_law_2059 ?_
      obtain rfl := me_so h
      refine me_sub (L' := [(0, .ref b), (1, .ref (ad 0)), (2, .ref (ad 63)), (3, .ref (ad 424)), (4, .int i)]) [2, 3, 4, 5, 6] rfl ?_
      exact hk
    · have h := me_ip c2 h
      refine me_aload_n X1 (i := 3) 5 rfl dL_law_2047 ?_
      refine me_iconst X1 dL_law_2048 ic_0 ?_
      refine me_lald X1 (by decide) dL_law_2049 ?_
      refine me_iload X1 (i := 6) 0 rfl dL_law_2050 ?_
      refine me_i2l X1 dL_law_2052 ?_
      refine me_lcmp X1 dL_law_2053 ?_
      refine me_if_eq X1 2059 (by decide) dL_law_2054 (fun c3 => ?_) (fun c3 => ?_)
      · have h := me_ip c3 h
        refine me_goto X1 2334 (by decide) dL_law_2059 ?_
        obtain rfl := me_so h
        refine me_sub (L' := [(0, .ref b), (1, .ref (ad 0)), (2, .ref (ad 63)), (3, .ref (ad 424)), (4, .int i)]) [2, 3, 4, 5, 6] rfl ?_
        exact hk
      · have h := me_in c3 h
        cases h
  · have h := me_in c1 h
    cases h
def sg_around (xs : Nat → Int32) (Lx : Nat) (i : Int32) (M : me_M) : Option me_M :=
  ((me_sr xs Lx (i + 1)).bind fun v1 => ((me_sr xs Lx (i + 2)).bind fun v2 => ((hL_around M v1 v2).bind fun (v3, M1) => ((me_sr xs Lx (i + 1)).bind fun v4 => ((me_sr xs Lx (i + 2)).bind fun v5 => ((mX12_around_63 M1 v4 v5).bind fun (v6, M2) => ((mX12_thrown_63 M2).bind fun v7 => (if v7 = v3 then (if v3 = 0 then (if (lg_cmp (M2.2.2 0) (v6.toInt64)) = 0 then some M2 else none) else some M2) else none))))))))
set_option maxRecDepth 100000 in
set_option maxHeartbeats 4000000 in
theorem ct_sg_around {p : Program} {l : Launch} {e : Env} {R : Room} {s : State} {m : MethodId} {args : Array Value} {below : List Frame} {meth : Method} {c : Code} {cells slots : Nat} {Q : State → Prop} {D : va_G} {cA : Nat → ClassId} {ad : Nat → Nat} {A : Nat → Prop} {tys : List (ClassId × FieldType)} (hl : l.stackTraces = false) (X : me_X p R s m args c D cA ad 425 5 425 8 cells slots 200 A cL_law RL tys) (hz : me_Z A s s.heap) {b Lx : Nat} {xs : Nat → Int32} (hX : va_X b Lx xs s s.heap) (hbl : b < s.heap.size) (hbA : ¬ A b) (hRc : cells + 1 ≤ R.cells) (hRs : slots + 6 ≤ R.slots) {i : Int32} {M M' : me_M} (h : sg_around xs Lx i M = some M') (hk : me_W p l e R s m args below meth c (cells + 1) (slots + 6) Q D cA ad 425 8 A 2334 [(0, .ref b), (1, .ref (ad 0)), (2, .ref (ad 63)), (3, .ref (ad 424)), (4, .int i)] [] M') : me_W p l e R s m args below meth c cells slots Q D cA ad 425 8 A 2062 [(0, .ref b), (1, .ref (ad 0)), (2, .ref (ad 63)), (3, .ref (ad 424)), (4, .int i)] [] M := by
  have hn : 425 ≤ 425 := Nat.le_refl _
  have hnt : 5 ≤ 5 := Nat.le_refl _
  unfold sg_around at h
  refine me_aload_n X (i := 1) 1 rfl dL_law_2062 ?_
  refine me_aload_n X (i := 0) 0 rfl dL_law_2063 ?_
  refine me_iload X (i := 4) 4 rfl dL_law_2064 ?_
  refine me_iconst X dL_law_2066 ic_1 ?_
  refine me_iadd X dL_law_2067 ?_
  obtain ⟨v1, e1, h⟩ := me_bd h
  refine me_sld X hX hbl hbA e1 dL_law_2068 ?_
  refine me_aload_n X (i := 0) 0 rfl dL_law_2069 ?_
  refine me_iload X (i := 4) 4 rfl dL_law_2070 ?_
  refine me_iconst X dL_law_2072 ic_2 ?_
  refine me_iadd X dL_law_2073 ?_
  obtain ⟨v2, e2, h⟩ := me_bd h
  refine me_sld X hX hbl hbA e2 dL_law_2074 ?_
  refine me_aload_n X (i := 3) 3 rfl dL_law_2075 ?_
  obtain ⟨⟨v3, M1⟩, e3, h⟩ := me_bd h
  refine me_callSH X hz hRc hRs [.ref (ad 0), .int v1, .int v2, .ref (ad 424)] (chL_around hl e3) kH_234 rfl rfl (Nat.le_of_ble_eq_true rfl) (Nat.le_refl _) (Nat.le_of_ble_eq_true rfl) dL_law_2076 ?_
  have X1 := me_Xup X hRc hRs
  refine me_istore X1 (i := 5) [(5, .int v3), (0, .ref b), (1, .ref (ad 0)), (2, .ref (ad 63)), (3, .ref (ad 424)), (4, .int i)] (Nat.le_of_ble_eq_true rfl) rfl dL_law_2079 ?_
  refine me_aload_n X1 (i := 2) 3 rfl dL_law_2081 ?_
  refine me_aload_n X1 (i := 0) 1 rfl dL_law_2082 ?_
  refine me_iload X1 (i := 4) 5 rfl dL_law_2083 ?_
  refine me_iconst X1 dL_law_2085 ic_1 ?_
  refine me_iadd X1 dL_law_2086 ?_
  obtain ⟨v4, e4, h⟩ := me_bd h
  refine me_sld X1 hX hbl hbA e4 dL_law_2087 ?_
  refine me_aload_n X1 (i := 0) 1 rfl dL_law_2088 ?_
  refine me_iload X1 (i := 4) 5 rfl dL_law_2089 ?_
  refine me_iconst X1 dL_law_2091 ic_2 ?_
  refine me_iadd X1 dL_law_2092 ?_
  obtain ⟨v5, e5, h⟩ := me_bd h
  refine me_sld X1 hX hbl hbA e5 dL_law_2093 ?_
  obtain ⟨⟨v6, M2⟩, e6, h⟩ := me_bd h
  refine me_callVi X1 [.int v4, .int v5] (ctX12_around_63 (n := 425) (nt := 5) (by decide) (by decide) e6) kV_L_236 rfl rfl (Nat.le_of_ble_eq_true rfl) me_k63 (Nat.le_of_ble_eq_true rfl) (Nat.le_refl _) (Nat.le_of_ble_eq_true rfl) dL_law_2094 ?_
  refine me_istore X1 (i := 6) [(6, .int v6), (5, .int v3), (0, .ref b), (1, .ref (ad 0)), (2, .ref (ad 63)), (3, .ref (ad 424)), (4, .int i)] (Nat.le_of_ble_eq_true rfl) rfl dL_law_2097 ?_
  refine me_aload_n X1 (i := 2) 4 rfl dL_law_2099 ?_
  obtain ⟨v7, e7, h⟩ := me_bd h
  refine me_callVi X1 [] (ctX12_thrown_63 (n := 425) (nt := 5) (by decide) (by decide) e7) kV_L_128 rfl rfl (Nat.le_of_ble_eq_true rfl) me_k63 (Nat.le_of_ble_eq_true rfl) (Nat.le_refl _) (Nat.le_of_ble_eq_true rfl) dL_law_2100 ?_
  refine me_iload X1 (i := 5) 1 rfl dL_law_2103 ?_
  refine me_icmp_eq X1 2110 (by decide) dL_law_2105 (fun c1 => ?_) (fun c1 => ?_)
  · have h := me_ip c1 h
    refine me_iload X1 (i := 5) 1 rfl dL_law_2110 ?_
    refine me_if_ne X1 2127 (by decide) dL_law_2112 (fun c2 => ?_) (fun c2 => ?_)
    · have h := me_in c2 h
      refine me_goto X1 2334 (by decide) dL_law_2127 ?_
      obtain rfl := me_so h
      refine me_sub (L' := [(0, .ref b), (1, .ref (ad 0)), (2, .ref (ad 63)), (3, .ref (ad 424)), (4, .int i)]) [2, 3, 4, 5, 6] rfl ?_
      exact hk
    · have h := me_ip c2 h
      refine me_aload_n X1 (i := 3) 5 rfl dL_law_2115 ?_
      refine me_iconst X1 dL_law_2116 ic_0 ?_
      refine me_lald X1 (by decide) dL_law_2117 ?_
      refine me_iload X1 (i := 6) 0 rfl dL_law_2118 ?_
      refine me_i2l X1 dL_law_2120 ?_
      refine me_lcmp X1 dL_law_2121 ?_
      refine me_if_eq X1 2127 (by decide) dL_law_2122 (fun c3 => ?_) (fun c3 => ?_)
      · have h := me_ip c3 h
        refine me_goto X1 2334 (by decide) dL_law_2127 ?_
        obtain rfl := me_so h
        refine me_sub (L' := [(0, .ref b), (1, .ref (ad 0)), (2, .ref (ad 63)), (3, .ref (ad 424)), (4, .int i)]) [2, 3, 4, 5, 6] rfl ?_
        exact hk
      · have h := me_in c3 h
        cases h
  · have h := me_in c1 h
    cases h
def sg_common (xs : Nat → Int32) (Lx : Nat) (i : Int32) (M : me_M) : Option me_M :=
  ((me_sr xs Lx (i + 1)).bind fun v1 => ((hL_common M v1).bind fun (v2, M1) => ((me_sr xs Lx (i + 1)).bind fun v3 => ((mX12_common_63 M1 v3).bind fun (v4, M2) => ((mX12_thrown_63 M2).bind fun v5 => (if v5 = v2 then (if v2 = 0 then (if (lg_cmp (M2.2.2 0) (v4.toInt64)) = 0 then some M2 else none) else some M2) else none))))))
set_option maxRecDepth 100000 in
set_option maxHeartbeats 4000000 in
theorem ct_sg_common {p : Program} {l : Launch} {e : Env} {R : Room} {s : State} {m : MethodId} {args : Array Value} {below : List Frame} {meth : Method} {c : Code} {cells slots : Nat} {Q : State → Prop} {D : va_G} {cA : Nat → ClassId} {ad : Nat → Nat} {A : Nat → Prop} {tys : List (ClassId × FieldType)} (hl : l.stackTraces = false) (X : me_X p R s m args c D cA ad 425 5 425 8 cells slots 200 A cL_law RL tys) (hz : me_Z A s s.heap) {b Lx : Nat} {xs : Nat → Int32} (hX : va_X b Lx xs s s.heap) (hbl : b < s.heap.size) (hbA : ¬ A b) (hRc : cells + 1 ≤ R.cells) (hRs : slots + 6 ≤ R.slots) {i : Int32} {M M' : me_M} (h : sg_common xs Lx i M = some M') (hk : me_W p l e R s m args below meth c (cells + 1) (slots + 6) Q D cA ad 425 8 A 2334 [(0, .ref b), (1, .ref (ad 0)), (2, .ref (ad 63)), (3, .ref (ad 424)), (4, .int i)] [] M') : me_W p l e R s m args below meth c cells slots Q D cA ad 425 8 A 2130 [(0, .ref b), (1, .ref (ad 0)), (2, .ref (ad 63)), (3, .ref (ad 424)), (4, .int i)] [] M := by
  have hn : 425 ≤ 425 := Nat.le_refl _
  have hnt : 5 ≤ 5 := Nat.le_refl _
  unfold sg_common at h
  refine me_aload_n X (i := 1) 1 rfl dL_law_2130 ?_
  refine me_aload_n X (i := 0) 0 rfl dL_law_2131 ?_
  refine me_iload X (i := 4) 4 rfl dL_law_2132 ?_
  refine me_iconst X dL_law_2134 ic_1 ?_
  refine me_iadd X dL_law_2135 ?_
  obtain ⟨v1, e1, h⟩ := me_bd h
  refine me_sld X hX hbl hbA e1 dL_law_2136 ?_
  refine me_aload_n X (i := 3) 3 rfl dL_law_2137 ?_
  obtain ⟨⟨v2, M1⟩, e2, h⟩ := me_bd h
  refine me_callSH X hz hRc hRs [.ref (ad 0), .int v1, .ref (ad 424)] (chL_common hl e2) kH_237 rfl rfl (Nat.le_of_ble_eq_true rfl) (Nat.le_refl _) (Nat.le_of_ble_eq_true rfl) dL_law_2138 ?_
  have X1 := me_Xup X hRc hRs
  refine me_istore X1 (i := 5) [(5, .int v2), (0, .ref b), (1, .ref (ad 0)), (2, .ref (ad 63)), (3, .ref (ad 424)), (4, .int i)] (Nat.le_of_ble_eq_true rfl) rfl dL_law_2141 ?_
  refine me_aload_n X1 (i := 2) 3 rfl dL_law_2143 ?_
  refine me_aload_n X1 (i := 0) 1 rfl dL_law_2144 ?_
  refine me_iload X1 (i := 4) 5 rfl dL_law_2145 ?_
  refine me_iconst X1 dL_law_2147 ic_1 ?_
  refine me_iadd X1 dL_law_2148 ?_
  obtain ⟨v3, e3, h⟩ := me_bd h
  refine me_sld X1 hX hbl hbA e3 dL_law_2149 ?_
  obtain ⟨⟨v4, M2⟩, e4, h⟩ := me_bd h
  refine me_callVi X1 [.int v3] (ctX12_common_63 (n := 425) (nt := 5) (by decide) (by decide) e4) kV_L_239 rfl rfl (Nat.le_of_ble_eq_true rfl) me_k63 (Nat.le_of_ble_eq_true rfl) (Nat.le_refl _) (Nat.le_of_ble_eq_true rfl) dL_law_2150 ?_
  refine me_istore X1 (i := 6) [(6, .int v4), (5, .int v2), (0, .ref b), (1, .ref (ad 0)), (2, .ref (ad 63)), (3, .ref (ad 424)), (4, .int i)] (Nat.le_of_ble_eq_true rfl) rfl dL_law_2153 ?_
  refine me_aload_n X1 (i := 2) 4 rfl dL_law_2155 ?_
  obtain ⟨v5, e5, h⟩ := me_bd h
  refine me_callVi X1 [] (ctX12_thrown_63 (n := 425) (nt := 5) (by decide) (by decide) e5) kV_L_128 rfl rfl (Nat.le_of_ble_eq_true rfl) me_k63 (Nat.le_of_ble_eq_true rfl) (Nat.le_refl _) (Nat.le_of_ble_eq_true rfl) dL_law_2156 ?_
  refine me_iload X1 (i := 5) 1 rfl dL_law_2159 ?_
  refine me_icmp_eq X1 2166 (by decide) dL_law_2161 (fun c1 => ?_) (fun c1 => ?_)
  · have h := me_ip c1 h
    refine me_iload X1 (i := 5) 1 rfl dL_law_2166 ?_
    refine me_if_ne X1 2183 (by decide) dL_law_2168 (fun c2 => ?_) (fun c2 => ?_)
    · have h := me_in c2 h
      refine me_goto X1 2334 (by decide) dL_law_2183 ?_
      obtain rfl := me_so h
      refine me_sub (L' := [(0, .ref b), (1, .ref (ad 0)), (2, .ref (ad 63)), (3, .ref (ad 424)), (4, .int i)]) [2, 3, 4, 5, 6] rfl ?_
      exact hk
    · have h := me_ip c2 h
      refine me_aload_n X1 (i := 3) 5 rfl dL_law_2171 ?_
      refine me_iconst X1 dL_law_2172 ic_0 ?_
      refine me_lald X1 (by decide) dL_law_2173 ?_
      refine me_iload X1 (i := 6) 0 rfl dL_law_2174 ?_
      refine me_i2l X1 dL_law_2176 ?_
      refine me_lcmp X1 dL_law_2177 ?_
      refine me_if_eq X1 2183 (by decide) dL_law_2178 (fun c3 => ?_) (fun c3 => ?_)
      · have h := me_ip c3 h
        refine me_goto X1 2334 (by decide) dL_law_2183 ?_
        obtain rfl := me_so h
        refine me_sub (L' := [(0, .ref b), (1, .ref (ad 0)), (2, .ref (ad 63)), (3, .ref (ad 424)), (4, .int i)]) [2, 3, 4, 5, 6] rfl ?_
        exact hk
      · have h := me_in c3 h
        cases h
  · have h := me_in c1 h
    cases h
def sg_document (xs : Nat → Int32) (Lx : Nat) (i : Int32) (M : me_M) : Option me_M :=
  ((me_sr xs Lx (i + 1)).bind fun v1 => ((me_sr xs Lx (i + 2)).bind fun v2 => ((hL_document M v1 v2).bind fun (v3, M1) => ((me_sr xs Lx (i + 1)).bind fun v4 => ((me_sr xs Lx (i + 2)).bind fun v5 => ((mX12_document_63 M1 v4 v5).bind fun (v6, M2) => ((mX12_thrown_63 M2).bind fun v7 => (if v7 = v3 then (if v3 = 0 then (if (lg_cmp (M2.2.2 0) (v6.toInt64)) = 0 then some M2 else none) else some M2) else none))))))))
set_option maxRecDepth 100000 in
set_option maxHeartbeats 4000000 in
theorem ct_sg_document {p : Program} {l : Launch} {e : Env} {R : Room} {s : State} {m : MethodId} {args : Array Value} {below : List Frame} {meth : Method} {c : Code} {cells slots : Nat} {Q : State → Prop} {D : va_G} {cA : Nat → ClassId} {ad : Nat → Nat} {A : Nat → Prop} {tys : List (ClassId × FieldType)} (hl : l.stackTraces = false) (X : me_X p R s m args c D cA ad 425 5 425 8 cells slots 200 A cL_law RL tys) (hz : me_Z A s s.heap) {b Lx : Nat} {xs : Nat → Int32} (hX : va_X b Lx xs s s.heap) (hbl : b < s.heap.size) (hbA : ¬ A b) (hRc : cells + 1 ≤ R.cells) (hRs : slots + 6 ≤ R.slots) {i : Int32} {M M' : me_M} (h : sg_document xs Lx i M = some M') (hk : me_W p l e R s m args below meth c (cells + 1) (slots + 6) Q D cA ad 425 8 A 2334 [(0, .ref b), (1, .ref (ad 0)), (2, .ref (ad 63)), (3, .ref (ad 424)), (4, .int i)] [] M') : me_W p l e R s m args below meth c cells slots Q D cA ad 425 8 A 2186 [(0, .ref b), (1, .ref (ad 0)), (2, .ref (ad 63)), (3, .ref (ad 424)), (4, .int i)] [] M := by
  have hn : 425 ≤ 425 := Nat.le_refl _
  have hnt : 5 ≤ 5 := Nat.le_refl _
  unfold sg_document at h
  refine me_aload_n X (i := 1) 1 rfl dL_law_2186 ?_
  refine me_aload_n X (i := 0) 0 rfl dL_law_2187 ?_
  refine me_iload X (i := 4) 4 rfl dL_law_2188 ?_
  refine me_iconst X dL_law_2190 ic_1 ?_
  refine me_iadd X dL_law_2191 ?_
  obtain ⟨v1, e1, h⟩ := me_bd h
  refine me_sld X hX hbl hbA e1 dL_law_2192 ?_
  refine me_aload_n X (i := 0) 0 rfl dL_law_2193 ?_
  refine me_iload X (i := 4) 4 rfl dL_law_2194 ?_
  refine me_iconst X dL_law_2196 ic_2 ?_
  refine me_iadd X dL_law_2197 ?_
  obtain ⟨v2, e2, h⟩ := me_bd h
  refine me_sld X hX hbl hbA e2 dL_law_2198 ?_
  refine me_aload_n X (i := 3) 3 rfl dL_law_2199 ?_
  obtain ⟨⟨v3, M1⟩, e3, h⟩ := me_bd h
  refine me_callSH X hz hRc hRs [.ref (ad 0), .int v1, .int v2, .ref (ad 424)] (chL_document hl e3) kH_240 rfl rfl (Nat.le_of_ble_eq_true rfl) (Nat.le_refl _) (Nat.le_of_ble_eq_true rfl) dL_law_2200 ?_
  have X1 := me_Xup X hRc hRs
  refine me_istore X1 (i := 5) [(5, .int v3), (0, .ref b), (1, .ref (ad 0)), (2, .ref (ad 63)), (3, .ref (ad 424)), (4, .int i)] (Nat.le_of_ble_eq_true rfl) rfl dL_law_2203 ?_
  refine me_aload_n X1 (i := 2) 3 rfl dL_law_2205 ?_
  refine me_aload_n X1 (i := 0) 1 rfl dL_law_2206 ?_
  refine me_iload X1 (i := 4) 5 rfl dL_law_2207 ?_
  refine me_iconst X1 dL_law_2209 ic_1 ?_
  refine me_iadd X1 dL_law_2210 ?_
  obtain ⟨v4, e4, h⟩ := me_bd h
  refine me_sld X1 hX hbl hbA e4 dL_law_2211 ?_
  refine me_aload_n X1 (i := 0) 1 rfl dL_law_2212 ?_
  refine me_iload X1 (i := 4) 5 rfl dL_law_2213 ?_
  refine me_iconst X1 dL_law_2215 ic_2 ?_
  refine me_iadd X1 dL_law_2216 ?_
  obtain ⟨v5, e5, h⟩ := me_bd h
  refine me_sld X1 hX hbl hbA e5 dL_law_2217 ?_
  obtain ⟨⟨v6, M2⟩, e6, h⟩ := me_bd h
  refine me_callVi X1 [.int v4, .int v5] (ctX12_document_63 (n := 425) (nt := 5) (by decide) (by decide) e6) kV_L_242 rfl rfl (Nat.le_of_ble_eq_true rfl) me_k63 (Nat.le_of_ble_eq_true rfl) (Nat.le_refl _) (Nat.le_of_ble_eq_true rfl) dL_law_2218 ?_
  refine me_istore X1 (i := 6) [(6, .int v6), (5, .int v3), (0, .ref b), (1, .ref (ad 0)), (2, .ref (ad 63)), (3, .ref (ad 424)), (4, .int i)] (Nat.le_of_ble_eq_true rfl) rfl dL_law_2221 ?_
  refine me_aload_n X1 (i := 2) 4 rfl dL_law_2223 ?_
  obtain ⟨v7, e7, h⟩ := me_bd h
  refine me_callVi X1 [] (ctX12_thrown_63 (n := 425) (nt := 5) (by decide) (by decide) e7) kV_L_128 rfl rfl (Nat.le_of_ble_eq_true rfl) me_k63 (Nat.le_of_ble_eq_true rfl) (Nat.le_refl _) (Nat.le_of_ble_eq_true rfl) dL_law_2224 ?_
  refine me_iload X1 (i := 5) 1 rfl dL_law_2227 ?_
  refine me_icmp_eq X1 2234 (by decide) dL_law_2229 (fun c1 => ?_) (fun c1 => ?_)
  · have h := me_ip c1 h
    refine me_iload X1 (i := 5) 1 rfl dL_law_2234 ?_
    refine me_if_ne X1 2251 (by decide) dL_law_2236 (fun c2 => ?_) (fun c2 => ?_)
    · have h := me_in c2 h
      refine me_goto X1 2334 (by decide) dL_law_2251 ?_
      obtain rfl := me_so h
      refine me_sub (L' := [(0, .ref b), (1, .ref (ad 0)), (2, .ref (ad 63)), (3, .ref (ad 424)), (4, .int i)]) [2, 3, 4, 5, 6] rfl ?_
      exact hk
    · have h := me_ip c2 h
      refine me_aload_n X1 (i := 3) 5 rfl dL_law_2239 ?_
      refine me_iconst X1 dL_law_2240 ic_0 ?_
      refine me_lald X1 (by decide) dL_law_2241 ?_
      refine me_iload X1 (i := 6) 0 rfl dL_law_2242 ?_
      refine me_i2l X1 dL_law_2244 ?_
      refine me_lcmp X1 dL_law_2245 ?_
      refine me_if_eq X1 2251 (by decide) dL_law_2246 (fun c3 => ?_) (fun c3 => ?_)
      · have h := me_ip c3 h
        refine me_goto X1 2334 (by decide) dL_law_2251 ?_
        obtain rfl := me_so h
        refine me_sub (L' := [(0, .ref b), (1, .ref (ad 0)), (2, .ref (ad 63)), (3, .ref (ad 424)), (4, .int i)]) [2, 3, 4, 5, 6] rfl ?_
        exact hk
      · have h := me_in c3 h
        cases h
  · have h := me_in c1 h
    cases h
def sg_print (xs : Nat → Int32) (Lx : Nat) (i : Int32) (M : me_M) : Option me_M :=
  ((me_sr xs Lx (i + 1)).bind fun v1 => ((hL_print M v1).bind fun (v2, M1) => ((me_sr xs Lx (i + 1)).bind fun v3 => ((mX12_print_63 M1 v3).bind fun (v4, M2) => ((mX12_thrown_63 M2).bind fun v5 => (if v5 = v2 then (if v2 = 0 then (if (lg_cmp (M2.2.2 0) v4) = 0 then some M2 else none) else some M2) else none))))))
set_option maxRecDepth 100000 in
set_option maxHeartbeats 4000000 in
theorem ct_sg_print {p : Program} {l : Launch} {e : Env} {R : Room} {s : State} {m : MethodId} {args : Array Value} {below : List Frame} {meth : Method} {c : Code} {cells slots : Nat} {Q : State → Prop} {D : va_G} {cA : Nat → ClassId} {ad : Nat → Nat} {A : Nat → Prop} {tys : List (ClassId × FieldType)} (hl : l.stackTraces = false) (X : me_X p R s m args c D cA ad 425 5 425 8 cells slots 200 A cL_law RL tys) (hz : me_Z A s s.heap) {b Lx : Nat} {xs : Nat → Int32} (hX : va_X b Lx xs s s.heap) (hbl : b < s.heap.size) (hbA : ¬ A b) (hRc : cells + 1 ≤ R.cells) (hRs : slots + 6 ≤ R.slots) {i : Int32} {M M' : me_M} (h : sg_print xs Lx i M = some M') (hk : me_W p l e R s m args below meth c (cells + 1) (slots + 6) Q D cA ad 425 8 A 2334 [(0, .ref b), (1, .ref (ad 0)), (2, .ref (ad 63)), (3, .ref (ad 424)), (4, .int i)] [] M') : me_W p l e R s m args below meth c cells slots Q D cA ad 425 8 A 2254 [(0, .ref b), (1, .ref (ad 0)), (2, .ref (ad 63)), (3, .ref (ad 424)), (4, .int i)] [] M := by
  have hn : 425 ≤ 425 := Nat.le_refl _
  have hnt : 5 ≤ 5 := Nat.le_refl _
  unfold sg_print at h
  refine me_aload_n X (i := 1) 1 rfl dL_law_2254 ?_
  refine me_aload_n X (i := 0) 0 rfl dL_law_2255 ?_
  refine me_iload X (i := 4) 4 rfl dL_law_2256 ?_
  refine me_iconst X dL_law_2258 ic_1 ?_
  refine me_iadd X dL_law_2259 ?_
  obtain ⟨v1, e1, h⟩ := me_bd h
  refine me_sld X hX hbl hbA e1 dL_law_2260 ?_
  refine me_aload_n X (i := 3) 3 rfl dL_law_2261 ?_
  obtain ⟨⟨v2, M1⟩, e2, h⟩ := me_bd h
  refine me_callSH X hz hRc hRs [.ref (ad 0), .int v1, .ref (ad 424)] (chL_print hl e2) kH_243 rfl rfl (Nat.le_of_ble_eq_true rfl) (Nat.le_refl _) (Nat.le_of_ble_eq_true rfl) dL_law_2262 ?_
  have X1 := me_Xup X hRc hRs
  refine me_istore X1 (i := 5) [(5, .int v2), (0, .ref b), (1, .ref (ad 0)), (2, .ref (ad 63)), (3, .ref (ad 424)), (4, .int i)] (Nat.le_of_ble_eq_true rfl) rfl dL_law_2265 ?_
  refine me_aload_n X1 (i := 2) 3 rfl dL_law_2267 ?_
  refine me_aload_n X1 (i := 0) 1 rfl dL_law_2268 ?_
  refine me_iload X1 (i := 4) 5 rfl dL_law_2269 ?_
  refine me_iconst X1 dL_law_2271 ic_1 ?_
  refine me_iadd X1 dL_law_2272 ?_
  obtain ⟨v3, e3, h⟩ := me_bd h
  refine me_sld X1 hX hbl hbA e3 dL_law_2273 ?_
  obtain ⟨⟨v4, M2⟩, e4, h⟩ := me_bd h
  refine me_callVj X1 [.int v3] (ctX12_print_63 (n := 425) (nt := 5) (by decide) (by decide) e4) kV_L_245 rfl rfl (Nat.le_of_ble_eq_true rfl) me_k63 (Nat.le_of_ble_eq_true rfl) (Nat.le_refl _) (Nat.le_of_ble_eq_true rfl) dL_law_2274 ?_
  refine me_lstore X1 (i := 6) [(6, .long v4), (5, .int v2), (0, .ref b), (1, .ref (ad 0)), (2, .ref (ad 63)), (3, .ref (ad 424)), (4, .int i)] (Nat.le_of_ble_eq_true rfl) rfl dL_law_2277 ?_
  refine me_aload_n X1 (i := 2) 4 rfl dL_law_2279 ?_
  obtain ⟨v5, e5, h⟩ := me_bd h
  refine me_callVi X1 [] (ctX12_thrown_63 (n := 425) (nt := 5) (by decide) (by decide) e5) kV_L_128 rfl rfl (Nat.le_of_ble_eq_true rfl) me_k63 (Nat.le_of_ble_eq_true rfl) (Nat.le_refl _) (Nat.le_of_ble_eq_true rfl) dL_law_2280 ?_
  refine me_iload X1 (i := 5) 1 rfl dL_law_2283 ?_
  refine me_icmp_eq X1 2290 (by decide) dL_law_2285 (fun c1 => ?_) (fun c1 => ?_)
  · have h := me_ip c1 h
    refine me_iload X1 (i := 5) 1 rfl dL_law_2290 ?_
    refine me_if_ne X1 2306 (by decide) dL_law_2292 (fun c2 => ?_) (fun c2 => ?_)
    · have h := me_in c2 h
      refine me_goto X1 2334 (by decide) dL_law_2306 ?_
      obtain rfl := me_so h
      refine me_sub (L' := [(0, .ref b), (1, .ref (ad 0)), (2, .ref (ad 63)), (3, .ref (ad 424)), (4, .int i)]) [2, 3, 4, 5, 6] rfl ?_
      exact hk
    · have h := me_ip c2 h
      refine me_aload_n X1 (i := 3) 5 rfl dL_law_2295 ?_
      refine me_iconst X1 dL_law_2296 ic_0 ?_
      refine me_lald X1 (by decide) dL_law_2297 ?_
      refine me_lload X1 (i := 6) 0 rfl dL_law_2298 ?_
      refine me_lcmp X1 dL_law_2300 ?_
      refine me_if_eq X1 2306 (by decide) dL_law_2301 (fun c3 => ?_) (fun c3 => ?_)
      · have h := me_ip c3 h
        refine me_goto X1 2334 (by decide) dL_law_2306 ?_
        obtain rfl := me_so h
        refine me_sub (L' := [(0, .ref b), (1, .ref (ad 0)), (2, .ref (ad 63)), (3, .ref (ad 424)), (4, .int i)]) [2, 3, 4, 5, 6] rfl ?_
        exact hk
      · have h := me_in c3 h
        cases h
  · have h := me_in c1 h
    cases h
def sg_status (xs : Nat → Int32) (Lx : Nat) (i : Int32) (M : me_M) : Option me_M :=
  ((me_sr xs Lx (i + 1)).bind fun v1 => ((mX11_status_0 M v1).bind fun v2 => ((me_sr xs Lx (i + 1)).bind fun v3 => ((mX12_status_63 M v3).bind fun (v4, M1) => (if v2 = v4 then some M1 else none)))))
set_option maxRecDepth 100000 in
set_option maxHeartbeats 4000000 in
theorem ct_sg_status {p : Program} {l : Launch} {e : Env} {R : Room} {s : State} {m : MethodId} {args : Array Value} {below : List Frame} {meth : Method} {c : Code} {cells slots : Nat} {Q : State → Prop} {D : va_G} {cA : Nat → ClassId} {ad : Nat → Nat} {A : Nat → Prop} {tys : List (ClassId × FieldType)} (hl : l.stackTraces = false) (X : me_X p R s m args c D cA ad 425 5 425 8 cells slots 200 A cL_law RL tys) (hz : me_Z A s s.heap) {b Lx : Nat} {xs : Nat → Int32} (hX : va_X b Lx xs s s.heap) (hbl : b < s.heap.size) (hbA : ¬ A b) (hRc : cells + 1 ≤ R.cells) (hRs : slots + 6 ≤ R.slots) {i : Int32} {M M' : me_M} (h : sg_status xs Lx i M = some M') (hk : me_W p l e R s m args below meth c (cells + 1) (slots + 6) Q D cA ad 425 8 A 2334 [(0, .ref b), (1, .ref (ad 0)), (2, .ref (ad 63)), (3, .ref (ad 424)), (4, .int i)] [] M') : me_W p l e R s m args below meth c cells slots Q D cA ad 425 8 A 2309 [(0, .ref b), (1, .ref (ad 0)), (2, .ref (ad 63)), (3, .ref (ad 424)), (4, .int i)] [] M := by
  have hn : 425 ≤ 425 := Nat.le_refl _
  have hnt : 5 ≤ 5 := Nat.le_refl _
  unfold sg_status at h
  refine me_aload_n X (i := 1) 1 rfl dL_law_2309 ?_
  refine me_aload_n X (i := 0) 0 rfl dL_law_2310 ?_
  refine me_iload X (i := 4) 4 rfl dL_law_2311 ?_
  refine me_iconst X dL_law_2313 ic_1 ?_
  refine me_iadd X dL_law_2314 ?_
  obtain ⟨v1, e1, h⟩ := me_bd h
  refine me_sld X hX hbl hbA e1 dL_law_2315 ?_
  obtain ⟨v2, e2, h⟩ := me_bd h
  refine me_callVi X [.int v1] (ctX11_status_0 (n := 425) (nt := 5) (by decide) (by decide) e2) kV_L_246 rfl rfl (Nat.le_of_ble_eq_true rfl) me_k0 (Nat.le_of_ble_eq_true rfl) (Nat.le_refl _) (Nat.le_of_ble_eq_true rfl) dL_law_2316 ?_
  refine me_aload_n X (i := 2) 2 rfl dL_law_2319 ?_
  refine me_aload_n X (i := 0) 0 rfl dL_law_2320 ?_
  refine me_iload X (i := 4) 4 rfl dL_law_2321 ?_
  refine me_iconst X dL_law_2323 ic_1 ?_
  refine me_iadd X dL_law_2324 ?_
  obtain ⟨v3, e3, h⟩ := me_bd h
  refine me_sld X hX hbl hbA e3 dL_law_2325 ?_
  obtain ⟨⟨v4, M1⟩, e4, h⟩ := me_bd h
  refine me_callVi X [.int v3] (ctX12_status_63 (n := 425) (nt := 5) (by decide) (by decide) e4) kV_L_249 rfl rfl (Nat.le_of_ble_eq_true rfl) me_k63 (Nat.le_of_ble_eq_true rfl) (Nat.le_refl _) (Nat.le_of_ble_eq_true rfl) dL_law_2326 ?_
  refine me_icmp_eq X 2334 (by decide) dL_law_2329 (fun c1 => ?_) (fun c1 => ?_)
  · have h := me_ip c1 h
    obtain rfl := me_so h
    exact me_wid (Nat.le_succ _) (Nat.le_add_right _ _) hk
  · have h := me_in c1 h
    cases h
