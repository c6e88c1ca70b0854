/-! ===== steps of a bind, told at once ===== -/
theorem bnd {α β : Type} {x : Option α} {v : α} (h : x = some v) (f : α → Option β) : x.bind f = f v := by rw [h]; rfl
theorem needEb {β : Type} {b : Bool} {f : Unit → Option β} : (mX11_needElement_0 (bI b)).bind f = if b = true then f () else none := by cases b <;> rfl
theorem needAb {β : Type} {b : Bool} {f : Unit → Option β} : (mX11_needArgument_0 (bI b)).bind f = if b = true then f () else none := by cases b <;> rfl
theorem needSb {β : Type} {b : Bool} {f : Unit → Option β} : (mX11_needState_0 (bI b)).bind f = if b = true then f () else none := by cases b <;> rfl
theorem needE0l {β : Type} {f : Unit → Option β} : (mX11_needElement_0 0).bind f = none := rfl
theorem needE1l {β : Type} {f : Unit → Option β} : (mX11_needElement_0 1).bind f = f () := rfl
theorem needA0l {β : Type} {f : Unit → Option β} : (mX11_needArgument_0 0).bind f = none := rfl
theorem needA1l {β : Type} {f : Unit → Option β} : (mX11_needArgument_0 1).bind f = f () := rfl
theorem needS0l {β : Type} {f : Unit → Option β} : (mX11_needState_0 0).bind f = none := rfl
theorem needS1l {β : Type} {f : Unit → Option β} : (mX11_needState_0 1).bind f = f () := rfl
theorem r_bad0l {M : me_M} {w k : Int32} (h : M.1 63 0 = nI 0) : mX12_bad_63 M 0 w k = some (nI 0, M) := by rw [li0]; exact r_bad0 h
theorem r_bad10 {M : me_M} (h : M.1 63 0 = nI 0) : mX12_bad_63 M 1 1 0 = some (nI 1, me_s (me_s M 63 0 (nI 1)) 64 0 (M.1 64 0 + nI 1)) := by
  rw [li0, li1]; exact r_bad1 h (by omega) (by omega) (by omega)
theorem r_bad11 {M : me_M} (h : M.1 63 0 = nI 0) : mX12_bad_63 M 1 1 1 = some (nI 1, me_s (me_s M 63 0 (nI 1)) 64 1 (M.1 64 1 + nI 1)) := by
  rw [li1]; exact r_bad1 h (by omega) (by omega) (by omega)
theorem r_bad21 {M : me_M} (h : M.1 63 0 = nI 0) : mX12_bad_63 M 1 2 1 = some (nI 1, me_s (me_s M 63 0 (nI 2)) 64 1 (M.1 64 1 + nI 1)) := by
  rw [li1, li2]; exact r_bad1 h (by omega) (by omega) (by omega)
theorem r_bad22 {M : me_M} (h : M.1 63 0 = nI 0) : mX12_bad_63 M 1 2 2 = some (nI 1, me_s (me_s M 63 0 (nI 2)) 64 2 (M.1 64 2 + nI 1)) := by
  rw [li1, li2]; exact r_bad1 h (by omega) (by omega) (by omega)
