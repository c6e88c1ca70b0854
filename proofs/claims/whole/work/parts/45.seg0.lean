section MEWID
theorem me_wid {p : Program} {l : Launch} {e : Env} {R : Room} {s : State} {m : MethodId} {args : Array Value} {below : List Frame} {meth : Method} {c : Code} {Q : State → Prop} {D : va_G} {cA : Nat → ClassId} {ad : Nat → Nat} {n nL pc k1 k2 c1 c2 : Nat} {A : Nat → Prop} {L : List (Nat × Value)} {st : List Value} {M : me_M} (h1 : c1 ≤ k1) (h2 : c2 ≤ k2) (k : me_W p l e R s m args below meth c k1 k2 Q D cA ad n nL A pc L st M) : me_W p l e R s m args below meth c c1 c2 Q D cA ad n nL A pc L st M := fun H locs ls hP hS hl => W.widen h1 h2 (k H locs ls hP hS hl)
end MEWID
theorem tw_567 : Cond.methodLink RL 117 yX11_feed ∈ lw_good := lw_in (List.mem_of_getElem? (i := 567) (by decide +kernel)) rfl
theorem tw_568 : Cond.instanceMethod yX11_feed ∈ lw_good := lw_in (List.mem_of_getElem? (i := 568) (by decide +kernel)) rfl
theorem tw_569 : Cond.selects RX11 yX11_feed yX11_feed ∈ lw_good := lw_in (List.mem_of_getElem? (i := 569) (by decide +kernel)) rfl
theorem tw_570 : Cond.code yX11_feed cX11_feed 6 (some .int) ∈ lw_good := lw_in (List.mem_of_getElem? (i := 570) (by decide +kernel)) rfl
theorem kV_L_117 : me_V RL 117 yX11_feed cX11_feed 6 (some .int) 11 5 := ⟨⟨TX11, 16, rfl⟩, Or.inl tw_567, tw_568, tw_569, tw_1, tw_570, by decide +kernel, by decide +kernel, by decide +kernel, by decide⟩
theorem tw_1452 : Cond.methodLink RL 121 yX12_feed ∈ lw_good := lw_in (List.mem_of_getElem? (i := 1452) (by decide +kernel)) rfl
theorem tw_1453 : Cond.instanceMethod yX12_feed ∈ lw_good := lw_in (List.mem_of_getElem? (i := 1453) (by decide +kernel)) rfl
theorem tw_1454 : Cond.selects RX12 yX12_feed yX12_feed ∈ lw_good := lw_in (List.mem_of_getElem? (i := 1454) (by decide +kernel)) rfl
theorem tw_1455 : Cond.code yX12_feed cX12_feed 8 (some .int) ∈ lw_good := lw_in (List.mem_of_getElem? (i := 1455) (by decide +kernel)) rfl
theorem kV_L_121 : me_V RL 121 yX12_feed cX12_feed 8 (some .int) 12 5 := ⟨⟨TX12, 43, rfl⟩, Or.inl tw_1452, tw_1453, tw_1454, tw_14, tw_1455, by decide +kernel, by decide +kernel, by decide +kernel, by decide⟩
theorem tw_1456 : Cond.methodLink RL 127 yX12_text ∈ lw_good := lw_in (List.mem_of_getElem? (i := 1456) (by decide +kernel)) rfl
theorem tw_1457 : Cond.instanceMethod yX12_text ∈ lw_good := lw_in (List.mem_of_getElem? (i := 1457) (by decide +kernel)) rfl
theorem tw_1458 : Cond.selects RX12 yX12_text yX12_text ∈ lw_good := lw_in (List.mem_of_getElem? (i := 1458) (by decide +kernel)) rfl
theorem tw_1459 : Cond.code yX12_text cX12_text 4 (some .int) ∈ lw_good := lw_in (List.mem_of_getElem? (i := 1459) (by decide +kernel)) rfl
theorem kV_L_127 : me_V RL 127 yX12_text cX12_text 4 (some .int) 12 1 := ⟨⟨TX12, 43, rfl⟩, Or.inl tw_1456, tw_1457, tw_1458, tw_14, tw_1459, by decide +kernel, by decide +kernel, by decide +kernel, by decide⟩
theorem tw_1448 : Cond.methodLink RL 128 yX12_thrown ∈ lw_good := lw_in (List.mem_of_getElem? (i := 1448) (by decide +kernel)) rfl
theorem tw_1449 : Cond.instanceMethod yX12_thrown ∈ lw_good := lw_in (List.mem_of_getElem? (i := 1449) (by decide +kernel)) rfl
theorem tw_1450 : Cond.selects RX12 yX12_thrown yX12_thrown ∈ lw_good := lw_in (List.mem_of_getElem? (i := 1450) (by decide +kernel)) rfl
theorem tw_1451 : Cond.code yX12_thrown cX12_thrown 1 (some .int) ∈ lw_good := lw_in (List.mem_of_getElem? (i := 1451) (by decide +kernel)) rfl
theorem kV_L_128 : me_V RL 128 yX12_thrown cX12_thrown 1 (some .int) 12 0 := ⟨⟨TX12, 43, rfl⟩, Or.inl tw_1448, tw_1449, tw_1450, tw_14, tw_1451, by decide +kernel, by decide +kernel, by decide +kernel, by decide⟩
theorem tw_1474 : Cond.methodLink RL 134 yX12_scheme ∈ lw_good := lw_in (List.mem_of_getElem? (i := 1474) (by decide +kernel)) rfl
theorem tw_1475 : Cond.instanceMethod yX12_scheme ∈ lw_good := lw_in (List.mem_of_getElem? (i := 1475) (by decide +kernel)) rfl
theorem tw_1476 : Cond.selects RX12 yX12_scheme yX12_scheme ∈ lw_good := lw_in (List.mem_of_getElem? (i := 1476) (by decide +kernel)) rfl
theorem tw_1477 : Cond.code yX12_scheme cX12_scheme 5 (some .int) ∈ lw_good := lw_in (List.mem_of_getElem? (i := 1477) (by decide +kernel)) rfl
theorem kV_L_134 : me_V RL 134 yX12_scheme cX12_scheme 5 (some .int) 12 1 := ⟨⟨TX12, 43, rfl⟩, Or.inl tw_1474, tw_1475, tw_1476, tw_14, tw_1477, by decide +kernel, by decide +kernel, by decide +kernel, by decide⟩
theorem tw_575 : Cond.methodLink RL 135 yX11_fault ∈ lw_good := lw_in (List.mem_of_getElem? (i := 575) (by decide +kernel)) rfl
theorem tw_576 : Cond.instanceMethod yX11_fault ∈ lw_good := lw_in (List.mem_of_getElem? (i := 576) (by decide +kernel)) rfl
theorem tw_577 : Cond.selects RX11 yX11_fault yX11_fault ∈ lw_good := lw_in (List.mem_of_getElem? (i := 577) (by decide +kernel)) rfl
theorem tw_578 : Cond.code yX11_fault cX11_fault 1 (some .int) ∈ lw_good := lw_in (List.mem_of_getElem? (i := 578) (by decide +kernel)) rfl
theorem kV_L_135 : me_V RL 135 yX11_fault cX11_fault 1 (some .int) 11 0 := ⟨⟨TX11, 16, rfl⟩, Or.inl tw_575, tw_576, tw_577, tw_1, tw_578, by decide +kernel, by decide +kernel, by decide +kernel, by decide⟩
theorem tw_1512 : Cond.methodLink RL 138 yX12_fault ∈ lw_good := lw_in (List.mem_of_getElem? (i := 1512) (by decide +kernel)) rfl
theorem tw_1513 : Cond.instanceMethod yX12_fault ∈ lw_good := lw_in (List.mem_of_getElem? (i := 1513) (by decide +kernel)) rfl
theorem tw_1514 : Cond.selects RX12 yX12_fault yX12_fault ∈ lw_good := lw_in (List.mem_of_getElem? (i := 1514) (by decide +kernel)) rfl
theorem tw_1515 : Cond.code yX12_fault cX12_fault 1 (some .int) ∈ lw_good := lw_in (List.mem_of_getElem? (i := 1515) (by decide +kernel)) rfl
theorem kV_L_138 : me_V RL 138 yX12_fault cX12_fault 1 (some .int) 12 0 := ⟨⟨TX12, 43, rfl⟩, Or.inl tw_1512, tw_1513, tw_1514, tw_14, tw_1515, by decide +kernel, by decide +kernel, by decide +kernel, by decide⟩
theorem tw_1516 : Cond.methodLink RL 141 yX12_step ∈ lw_good := lw_in (List.mem_of_getElem? (i := 1516) (by decide +kernel)) rfl
theorem tw_1517 : Cond.instanceMethod yX12_step ∈ lw_good := lw_in (List.mem_of_getElem? (i := 1517) (by decide +kernel)) rfl
theorem tw_1518 : Cond.selects RX12 yX12_step yX12_step ∈ lw_good := lw_in (List.mem_of_getElem? (i := 1518) (by decide +kernel)) rfl
theorem tw_1519 : Cond.code yX12_step cX12_step 3 (some .int) ∈ lw_good := lw_in (List.mem_of_getElem? (i := 1519) (by decide +kernel)) rfl
theorem kV_L_141 : me_V RL 141 yX12_step cX12_step 3 (some .int) 12 1 := ⟨⟨TX12, 43, rfl⟩, Or.inl tw_1516, tw_1517, tw_1518, tw_14, tw_1519, by decide +kernel, by decide +kernel, by decide +kernel, by decide⟩
theorem tw_1520 : Cond.methodLink RL 145 yX12_grow ∈ lw_good := lw_in (List.mem_of_getElem? (i := 1520) (by decide +kernel)) rfl
theorem tw_1521 : Cond.instanceMethod yX12_grow ∈ lw_good := lw_in (List.mem_of_getElem? (i := 1521) (by decide +kernel)) rfl
theorem tw_1522 : Cond.selects RX12 yX12_grow yX12_grow ∈ lw_good := lw_in (List.mem_of_getElem? (i := 1522) (by decide +kernel)) rfl
theorem tw_1523 : Cond.code yX12_grow cX12_grow 4 (some .int) ∈ lw_good := lw_in (List.mem_of_getElem? (i := 1523) (by decide +kernel)) rfl
theorem kV_L_145 : me_V RL 145 yX12_grow cX12_grow 4 (some .int) 12 2 := ⟨⟨TX12, 43, rfl⟩, Or.inl tw_1520, tw_1521, tw_1522, tw_14, tw_1523, by decide +kernel, by decide +kernel, by decide +kernel, by decide⟩
theorem tw_579 : Cond.methodLink RL 146 yX11_shrink ∈ lw_good := lw_in (List.mem_of_getElem? (i := 579) (by decide +kernel)) rfl
theorem tw_580 : Cond.instanceMethod yX11_shrink ∈ lw_good := lw_in (List.mem_of_getElem? (i := 580) (by decide +kernel)) rfl
theorem tw_581 : Cond.selects RX11 yX11_shrink yX11_shrink ∈ lw_good := lw_in (List.mem_of_getElem? (i := 581) (by decide +kernel)) rfl
theorem tw_582 : Cond.code yX11_shrink cX11_shrink 1 (some .int) ∈ lw_good := lw_in (List.mem_of_getElem? (i := 582) (by decide +kernel)) rfl
theorem kV_L_146 : me_V RL 146 yX11_shrink cX11_shrink 1 (some .int) 11 0 := ⟨⟨TX11, 16, rfl⟩, Or.inl tw_579, tw_580, tw_581, tw_1, tw_582, by decide +kernel, by decide +kernel, by decide +kernel, by decide⟩
theorem tw_1544 : Cond.methodLink RL 149 yX12_shrink ∈ lw_good := lw_in (List.mem_of_getElem? (i := 1544) (by decide +kernel)) rfl
theorem tw_1545 : Cond.instanceMethod yX12_shrink ∈ lw_good := lw_in (List.mem_of_getElem? (i := 1545) (by decide +kernel)) rfl
theorem tw_1546 : Cond.selects RX12 yX12_shrink yX12_shrink ∈ lw_good := lw_in (List.mem_of_getElem? (i := 1546) (by decide +kernel)) rfl
theorem tw_1547 : Cond.code yX12_shrink cX12_shrink 1 (some .int) ∈ lw_good := lw_in (List.mem_of_getElem? (i := 1547) (by decide +kernel)) rfl
theorem kV_L_149 : me_V RL 149 yX12_shrink cX12_shrink 1 (some .int) 12 0 := ⟨⟨TX12, 43, rfl⟩, Or.inl tw_1544, tw_1545, tw_1546, tw_14, tw_1547, by decide +kernel, by decide +kernel, by decide +kernel, by decide⟩
theorem tw_591 : Cond.methodLink RL 150 yX11_clear ∈ lw_good := lw_in (List.mem_of_getElem? (i := 591) (by decide +kernel)) rfl
theorem tw_592 : Cond.instanceMethod yX11_clear ∈ lw_good := lw_in (List.mem_of_getElem? (i := 592) (by decide +kernel)) rfl
theorem tw_593 : Cond.selects RX11 yX11_clear yX11_clear ∈ lw_good := lw_in (List.mem_of_getElem? (i := 593) (by decide +kernel)) rfl
theorem tw_594 : Cond.code yX11_clear cX11_clear 2 (some .int) ∈ lw_good := lw_in (List.mem_of_getElem? (i := 594) (by decide +kernel)) rfl
theorem kV_L_150 : me_V RL 150 yX11_clear cX11_clear 2 (some .int) 11 0 := ⟨⟨TX11, 16, rfl⟩, Or.inl tw_591, tw_592, tw_593, tw_1, tw_594, by decide +kernel, by decide +kernel, by decide +kernel, by decide⟩
theorem tw_1548 : Cond.methodLink RL 153 yX12_clear ∈ lw_good := lw_in (List.mem_of_getElem? (i := 1548) (by decide +kernel)) rfl
theorem tw_1549 : Cond.instanceMethod yX12_clear ∈ lw_good := lw_in (List.mem_of_getElem? (i := 1549) (by decide +kernel)) rfl
theorem tw_1550 : Cond.selects RX12 yX12_clear yX12_clear ∈ lw_good := lw_in (List.mem_of_getElem? (i := 1550) (by decide +kernel)) rfl
theorem tw_1551 : Cond.code yX12_clear cX12_clear 2 (some .int) ∈ lw_good := lw_in (List.mem_of_getElem? (i := 1551) (by decide +kernel)) rfl
theorem kV_L_153 : me_V RL 153 yX12_clear cX12_clear 2 (some .int) 12 0 := ⟨⟨TX12, 43, rfl⟩, Or.inl tw_1548, tw_1549, tw_1550, tw_14, tw_1551, by decide +kernel, by decide +kernel, by decide +kernel, by decide⟩
theorem tw_1552 : Cond.methodLink RL 156 yX12_told ∈ lw_good := lw_in (List.mem_of_getElem? (i := 1552) (by decide +kernel)) rfl
theorem tw_1553 : Cond.instanceMethod yX12_told ∈ lw_good := lw_in (List.mem_of_getElem? (i := 1553) (by decide +kernel)) rfl
theorem tw_1554 : Cond.selects RX12 yX12_told yX12_told ∈ lw_good := lw_in (List.mem_of_getElem? (i := 1554) (by decide +kernel)) rfl
theorem tw_1555 : Cond.code yX12_told cX12_told 2 (some .int) ∈ lw_good := lw_in (List.mem_of_getElem? (i := 1555) (by decide +kernel)) rfl
theorem kV_L_156 : me_V RL 156 yX12_told cX12_told 2 (some .int) 12 1 := ⟨⟨TX12, 43, rfl⟩, Or.inl tw_1552, tw_1553, tw_1554, tw_14, tw_1555, by decide +kernel, by decide +kernel, by decide +kernel, by decide⟩
theorem tw_1583 : Cond.methodLink RL 159 yX12_sign ∈ lw_good := lw_in (List.mem_of_getElem? (i := 1583) (by decide +kernel)) rfl
theorem tw_1584 : Cond.instanceMethod yX12_sign ∈ lw_good := lw_in (List.mem_of_getElem? (i := 1584) (by decide +kernel)) rfl
theorem tw_1585 : Cond.selects RX12 yX12_sign yX12_sign ∈ lw_good := lw_in (List.mem_of_getElem? (i := 1585) (by decide +kernel)) rfl
theorem tw_1586 : Cond.code yX12_sign cX12_sign 2 (some .int) ∈ lw_good := lw_in (List.mem_of_getElem? (i := 1586) (by decide +kernel)) rfl
theorem kV_L_159 : me_V RL 159 yX12_sign cX12_sign 2 (some .int) 12 1 := ⟨⟨TX12, 43, rfl⟩, Or.inl tw_1583, tw_1584, tw_1585, tw_14, tw_1586, by decide +kernel, by decide +kernel, by decide +kernel, by decide⟩
theorem tw_1594 : Cond.methodLink RL 163 yX12_row ∈ lw_good := lw_in (List.mem_of_getElem? (i := 1594) (by decide +kernel)) rfl
theorem tw_1595 : Cond.instanceMethod yX12_row ∈ lw_good := lw_in (List.mem_of_getElem? (i := 1595) (by decide +kernel)) rfl
theorem tw_1596 : Cond.selects RX12 yX12_row yX12_row ∈ lw_good := lw_in (List.mem_of_getElem? (i := 1596) (by decide +kernel)) rfl
theorem tw_1597 : Cond.code yX12_row cX12_row 5 (some .int) ∈ lw_good := lw_in (List.mem_of_getElem? (i := 1597) (by decide +kernel)) rfl
theorem kV_L_163 : me_V RL 163 yX12_row cX12_row 5 (some .int) 12 3 := ⟨⟨TX12, 43, rfl⟩, Or.inl tw_1594, tw_1595, tw_1596, tw_14, tw_1597, by decide +kernel, by decide +kernel, by decide +kernel, by decide⟩
theorem tw_1610 : Cond.methodLink RL 166 yX12_rowOf ∈ lw_good := lw_in (List.mem_of_getElem? (i := 1610) (by decide +kernel)) rfl
theorem tw_1611 : Cond.instanceMethod yX12_rowOf ∈ lw_good := lw_in (List.mem_of_getElem? (i := 1611) (by decide +kernel)) rfl
theorem tw_1612 : Cond.selects RX12 yX12_rowOf yX12_rowOf ∈ lw_good := lw_in (List.mem_of_getElem? (i := 1612) (by decide +kernel)) rfl
theorem tw_1613 : Cond.code yX12_rowOf cX12_rowOf 3 (some .int) ∈ lw_good := lw_in (List.mem_of_getElem? (i := 1613) (by decide +kernel)) rfl
theorem kV_L_166 : me_V RL 166 yX12_rowOf cX12_rowOf 3 (some .int) 12 2 := ⟨⟨TX12, 43, rfl⟩, Or.inl tw_1610, tw_1611, tw_1612, tw_14, tw_1613, by decide +kernel, by decide +kernel, by decide +kernel, by decide⟩
theorem tw_1614 : Cond.methodLink RL 169 yX12_count ∈ lw_good := lw_in (List.mem_of_getElem? (i := 1614) (by decide +kernel)) rfl
theorem tw_1615 : Cond.instanceMethod yX12_count ∈ lw_good := lw_in (List.mem_of_getElem? (i := 1615) (by decide +kernel)) rfl
theorem tw_1616 : Cond.selects RX12 yX12_count yX12_count ∈ lw_good := lw_in (List.mem_of_getElem? (i := 1616) (by decide +kernel)) rfl
theorem tw_1617 : Cond.code yX12_count cX12_count 6 (some .int) ∈ lw_good := lw_in (List.mem_of_getElem? (i := 1617) (by decide +kernel)) rfl
theorem kV_L_169 : me_V RL 169 yX12_count cX12_count 6 (some .int) 12 3 := ⟨⟨TX12, 43, rfl⟩, Or.inl tw_1614, tw_1615, tw_1616, tw_14, tw_1617, by decide +kernel, by decide +kernel, by decide +kernel, by decide⟩
theorem tw_1618 : Cond.methodLink RL 172 yX12_letter ∈ lw_good := lw_in (List.mem_of_getElem? (i := 1618) (by decide +kernel)) rfl
theorem tw_1619 : Cond.instanceMethod yX12_letter ∈ lw_good := lw_in (List.mem_of_getElem? (i := 1619) (by decide +kernel)) rfl
theorem tw_1620 : Cond.selects RX12 yX12_letter yX12_letter ∈ lw_good := lw_in (List.mem_of_getElem? (i := 1620) (by decide +kernel)) rfl
theorem tw_1621 : Cond.code yX12_letter cX12_letter 2 (some .int) ∈ lw_good := lw_in (List.mem_of_getElem? (i := 1621) (by decide +kernel)) rfl
theorem kV_L_172 : me_V RL 172 yX12_letter cX12_letter 2 (some .int) 12 1 := ⟨⟨TX12, 43, rfl⟩, Or.inl tw_1618, tw_1619, tw_1620, tw_14, tw_1621, by decide +kernel, by decide +kernel, by decide +kernel, by decide⟩
theorem tw_1622 : Cond.methodLink RL 175 yX12_grows ∈ lw_good := lw_in (List.mem_of_getElem? (i := 1622) (by decide +kernel)) rfl
theorem tw_1623 : Cond.instanceMethod yX12_grows ∈ lw_good := lw_in (List.mem_of_getElem? (i := 1623) (by decide +kernel)) rfl
theorem tw_1624 : Cond.selects RX12 yX12_grows yX12_grows ∈ lw_good := lw_in (List.mem_of_getElem? (i := 1624) (by decide +kernel)) rfl
theorem tw_1625 : Cond.code yX12_grows cX12_grows 4 (some .int) ∈ lw_good := lw_in (List.mem_of_getElem? (i := 1625) (by decide +kernel)) rfl
theorem kV_L_175 : me_V RL 175 yX12_grows cX12_grows 4 (some .int) 12 1 := ⟨⟨TX12, 43, rfl⟩, Or.inl tw_1622, tw_1623, tw_1624, tw_14, tw_1625, by decide +kernel, by decide +kernel, by decide +kernel, by decide⟩
theorem tw_1626 : Cond.methodLink RL 178 yX12_hit ∈ lw_good := lw_in (List.mem_of_getElem? (i := 1626) (by decide +kernel)) rfl
theorem tw_1627 : Cond.instanceMethod yX12_hit ∈ lw_good := lw_in (List.mem_of_getElem? (i := 1627) (by decide +kernel)) rfl
theorem tw_1628 : Cond.selects RX12 yX12_hit yX12_hit ∈ lw_good := lw_in (List.mem_of_getElem? (i := 1628) (by decide +kernel)) rfl
theorem tw_1629 : Cond.code yX12_hit cX12_hit 5 (some .int) ∈ lw_good := lw_in (List.mem_of_getElem? (i := 1629) (by decide +kernel)) rfl
theorem kV_L_178 : me_V RL 178 yX12_hit cX12_hit 5 (some .int) 12 2 := ⟨⟨TX12, 43, rfl⟩, Or.inl tw_1626, tw_1627, tw_1628, tw_14, tw_1629, by decide +kernel, by decide +kernel, by decide +kernel, by decide⟩
theorem tw_1646 : Cond.methodLink RL 181 yX12_hits ∈ lw_good := lw_in (List.mem_of_getElem? (i := 1646) (by decide +kernel)) rfl
theorem tw_1647 : Cond.instanceMethod yX12_hits ∈ lw_good := lw_in (List.mem_of_getElem? (i := 1647) (by decide +kernel)) rfl
theorem tw_1648 : Cond.selects RX12 yX12_hits yX12_hits ∈ lw_good := lw_in (List.mem_of_getElem? (i := 1648) (by decide +kernel)) rfl
theorem tw_1649 : Cond.code yX12_hits cX12_hits 8 (some .int) ∈ lw_good := lw_in (List.mem_of_getElem? (i := 1649) (by decide +kernel)) rfl
theorem kV_L_181 : me_V RL 181 yX12_hits cX12_hits 8 (some .int) 12 1 := ⟨⟨TX12, 43, rfl⟩, Or.inl tw_1646, tw_1647, tw_1648, tw_14, tw_1649, by decide +kernel, by decide +kernel, by decide +kernel, by decide⟩
theorem tw_1657 : Cond.methodLink RL 184 yX12_often ∈ lw_good := lw_in (List.mem_of_getElem? (i := 1657) (by decide +kernel)) rfl
theorem tw_1658 : Cond.instanceMethod yX12_often ∈ lw_good := lw_in (List.mem_of_getElem? (i := 1658) (by decide +kernel)) rfl
theorem tw_1659 : Cond.selects RX12 yX12_often yX12_often ∈ lw_good := lw_in (List.mem_of_getElem? (i := 1659) (by decide +kernel)) rfl
theorem tw_1660 : Cond.code yX12_often cX12_often 5 (some .int) ∈ lw_good := lw_in (List.mem_of_getElem? (i := 1660) (by decide +kernel)) rfl
theorem kV_L_184 : me_V RL 184 yX12_often cX12_often 5 (some .int) 12 1 := ⟨⟨TX12, 43, rfl⟩, Or.inl tw_1657, tw_1658, tw_1659, tw_14, tw_1660, by decide +kernel, by decide +kernel, by decide +kernel, by decide⟩
theorem tw_1665 : Cond.methodLink RL 187 yX12_shares ∈ lw_good := lw_in (List.mem_of_getElem? (i := 1665) (by decide +kernel)) rfl
theorem tw_1666 : Cond.instanceMethod yX12_shares ∈ lw_good := lw_in (List.mem_of_getElem? (i := 1666) (by decide +kernel)) rfl
theorem tw_1667 : Cond.selects RX12 yX12_shares yX12_shares ∈ lw_good := lw_in (List.mem_of_getElem? (i := 1667) (by decide +kernel)) rfl
theorem tw_1668 : Cond.code yX12_shares cX12_shares 2 (some .int) ∈ lw_good := lw_in (List.mem_of_getElem? (i := 1668) (by decide +kernel)) rfl
theorem kV_L_187 : me_V RL 187 yX12_shares cX12_shares 2 (some .int) 12 1 := ⟨⟨TX12, 43, rfl⟩, Or.inl tw_1665, tw_1666, tw_1667, tw_14, tw_1668, by decide +kernel, by decide +kernel, by decide +kernel, by decide⟩
theorem tw_595 : Cond.methodLink RL 188 yX11_sound ∈ lw_good := lw_in (List.mem_of_getElem? (i := 595) (by decide +kernel)) rfl
theorem tw_596 : Cond.instanceMethod yX11_sound ∈ lw_good := lw_in (List.mem_of_getElem? (i := 596) (by decide +kernel)) rfl
theorem tw_597 : Cond.selects RX11 yX11_sound yX11_sound ∈ lw_good := lw_in (List.mem_of_getElem? (i := 597) (by decide +kernel)) rfl
theorem tw_598 : Cond.code yX11_sound cX11_sound 1 (some .boolean) ∈ lw_good := lw_in (List.mem_of_getElem? (i := 598) (by decide +kernel)) rfl
theorem kV_L_188 : me_V RL 188 yX11_sound cX11_sound 1 (some .boolean) 11 0 := ⟨⟨TX11, 16, rfl⟩, Or.inl tw_595, tw_596, tw_597, tw_1, tw_598, by decide +kernel, by decide +kernel, by decide +kernel, by decide⟩
theorem tw_1677 : Cond.methodLink RL 192 yX12_sound ∈ lw_good := lw_in (List.mem_of_getElem? (i := 1677) (by decide +kernel)) rfl
theorem tw_1678 : Cond.instanceMethod yX12_sound ∈ lw_good := lw_in (List.mem_of_getElem? (i := 1678) (by decide +kernel)) rfl
theorem tw_1679 : Cond.selects RX12 yX12_sound yX12_sound ∈ lw_good := lw_in (List.mem_of_getElem? (i := 1679) (by decide +kernel)) rfl
theorem tw_1680 : Cond.code yX12_sound cX12_sound 1 (some .boolean) ∈ lw_good := lw_in (List.mem_of_getElem? (i := 1680) (by decide +kernel)) rfl
theorem kV_L_192 : me_V RL 192 yX12_sound cX12_sound 1 (some .boolean) 12 0 := ⟨⟨TX12, 43, rfl⟩, Or.inl tw_1677, tw_1678, tw_1679, tw_14, tw_1680, by decide +kernel, by decide +kernel, by decide +kernel, by decide⟩
theorem tw_634 : Cond.methodLink RL 193 yX11_needless ∈ lw_good := lw_in (List.mem_of_getElem? (i := 634) (by decide +kernel)) rfl
theorem tw_635 : Cond.instanceMethod yX11_needless ∈ lw_good := lw_in (List.mem_of_getElem? (i := 635) (by decide +kernel)) rfl
theorem tw_636 : Cond.selects RX11 yX11_needless yX11_needless ∈ lw_good := lw_in (List.mem_of_getElem? (i := 636) (by decide +kernel)) rfl
theorem tw_637 : Cond.code yX11_needless cX11_needless 1 (some .int) ∈ lw_good := lw_in (List.mem_of_getElem? (i := 637) (by decide +kernel)) rfl
theorem kV_L_193 : me_V RL 193 yX11_needless cX11_needless 1 (some .int) 11 0 := ⟨⟨TX11, 16, rfl⟩, Or.inl tw_634, tw_635, tw_636, tw_1, tw_637, by decide +kernel, by decide +kernel, by decide +kernel, by decide⟩
theorem tw_1681 : Cond.methodLink RL 196 yX12_needless ∈ lw_good := lw_in (List.mem_of_getElem? (i := 1681) (by decide +kernel)) rfl
theorem tw_1682 : Cond.instanceMethod yX12_needless ∈ lw_good := lw_in (List.mem_of_getElem? (i := 1682) (by decide +kernel)) rfl
theorem tw_1683 : Cond.selects RX12 yX12_needless yX12_needless ∈ lw_good := lw_in (List.mem_of_getElem? (i := 1683) (by decide +kernel)) rfl
theorem tw_1684 : Cond.code yX12_needless cX12_needless 4 (some .int) ∈ lw_good := lw_in (List.mem_of_getElem? (i := 1684) (by decide +kernel)) rfl
theorem kV_L_196 : me_V RL 196 yX12_needless cX12_needless 4 (some .int) 12 0 := ⟨⟨TX12, 43, rfl⟩, Or.inl tw_1681, tw_1682, tw_1683, tw_14, tw_1684, by decide +kernel, by decide +kernel, by decide +kernel, by decide⟩
theorem tw_1685 : Cond.methodLink RL 199 yX12_digit ∈ lw_good := lw_in (List.mem_of_getElem? (i := 1685) (by decide +kernel)) rfl
theorem tw_1686 : Cond.instanceMethod yX12_digit ∈ lw_good := lw_in (List.mem_of_getElem? (i := 1686) (by decide +kernel)) rfl
theorem tw_1687 : Cond.selects RX12 yX12_digit yX12_digit ∈ lw_good := lw_in (List.mem_of_getElem? (i := 1687) (by decide +kernel)) rfl
theorem tw_1688 : Cond.code yX12_digit cX12_digit 4 (some .int) ∈ lw_good := lw_in (List.mem_of_getElem? (i := 1688) (by decide +kernel)) rfl
theorem kV_L_199 : me_V RL 199 yX12_digit cX12_digit 4 (some .int) 12 3 := ⟨⟨TX12, 43, rfl⟩, Or.inl tw_1685, tw_1686, tw_1687, tw_14, tw_1688, by decide +kernel, by decide +kernel, by decide +kernel, by decide⟩
theorem tw_1689 : Cond.methodLink RL 202 yX12_search ∈ lw_good := lw_in (List.mem_of_getElem? (i := 1689) (by decide +kernel)) rfl
theorem tw_1690 : Cond.instanceMethod yX12_search ∈ lw_good := lw_in (List.mem_of_getElem? (i := 1690) (by decide +kernel)) rfl
theorem tw_1691 : Cond.selects RX12 yX12_search yX12_search ∈ lw_good := lw_in (List.mem_of_getElem? (i := 1691) (by decide +kernel)) rfl
theorem tw_1692 : Cond.code yX12_search cX12_search 3 (some .int) ∈ lw_good := lw_in (List.mem_of_getElem? (i := 1692) (by decide +kernel)) rfl
theorem kV_L_202 : me_V RL 202 yX12_search cX12_search 3 (some .int) 12 1 := ⟨⟨TX12, 43, rfl⟩, Or.inl tw_1689, tw_1690, tw_1691, tw_14, tw_1692, by decide +kernel, by decide +kernel, by decide +kernel, by decide⟩
theorem tw_1709 : Cond.methodLink RL 205 yX12_found ∈ lw_good := lw_in (List.mem_of_getElem? (i := 1709) (by decide +kernel)) rfl
theorem tw_1710 : Cond.instanceMethod yX12_found ∈ lw_good := lw_in (List.mem_of_getElem? (i := 1710) (by decide +kernel)) rfl
theorem tw_1711 : Cond.selects RX12 yX12_found yX12_found ∈ lw_good := lw_in (List.mem_of_getElem? (i := 1711) (by decide +kernel)) rfl
theorem tw_1712 : Cond.code yX12_found cX12_found 6 (some .int) ∈ lw_good := lw_in (List.mem_of_getElem? (i := 1712) (by decide +kernel)) rfl
theorem kV_L_205 : me_V RL 205 yX12_found cX12_found 6 (some .int) 12 2 := ⟨⟨TX12, 43, rfl⟩, Or.inl tw_1709, tw_1710, tw_1711, tw_14, tw_1712, by decide +kernel, by decide +kernel, by decide +kernel, by decide⟩
theorem tw_1717 : Cond.methodLink RL 208 yX12_result ∈ lw_good := lw_in (List.mem_of_getElem? (i := 1717) (by decide +kernel)) rfl
theorem tw_1718 : Cond.instanceMethod yX12_result ∈ lw_good := lw_in (List.mem_of_getElem? (i := 1718) (by decide +kernel)) rfl
theorem tw_1719 : Cond.selects RX12 yX12_result yX12_result ∈ lw_good := lw_in (List.mem_of_getElem? (i := 1719) (by decide +kernel)) rfl
theorem tw_1720 : Cond.code yX12_result cX12_result 5 (some .int) ∈ lw_good := lw_in (List.mem_of_getElem? (i := 1720) (by decide +kernel)) rfl
theorem kV_L_208 : me_V RL 208 yX12_result cX12_result 5 (some .int) 12 1 := ⟨⟨TX12, 43, rfl⟩, Or.inl tw_1717, tw_1718, tw_1719, tw_14, tw_1720, by decide +kernel, by decide +kernel, by decide +kernel, by decide⟩
theorem tw_1721 : Cond.methodLink RL 211 yX12_ran ∈ lw_good := lw_in (List.mem_of_getElem? (i := 1721) (by decide +kernel)) rfl
theorem tw_1722 : Cond.instanceMethod yX12_ran ∈ lw_good := lw_in (List.mem_of_getElem? (i := 1722) (by decide +kernel)) rfl
theorem tw_1723 : Cond.selects RX12 yX12_ran yX12_ran ∈ lw_good := lw_in (List.mem_of_getElem? (i := 1723) (by decide +kernel)) rfl
theorem tw_1724 : Cond.code yX12_ran cX12_ran 3 (some .int) ∈ lw_good := lw_in (List.mem_of_getElem? (i := 1724) (by decide +kernel)) rfl
theorem kV_L_211 : me_V RL 211 yX12_ran cX12_ran 3 (some .int) 12 2 := ⟨⟨TX12, 43, rfl⟩, Or.inl tw_1721, tw_1722, tw_1723, tw_14, tw_1724, by decide +kernel, by decide +kernel, by decide +kernel, by decide⟩
theorem tw_1725 : Cond.methodLink RL 214 yX12_matches ∈ lw_good := lw_in (List.mem_of_getElem? (i := 1725) (by decide +kernel)) rfl
theorem tw_1726 : Cond.instanceMethod yX12_matches ∈ lw_good := lw_in (List.mem_of_getElem? (i := 1726) (by decide +kernel)) rfl
theorem tw_1727 : Cond.selects RX12 yX12_matches yX12_matches ∈ lw_good := lw_in (List.mem_of_getElem? (i := 1727) (by decide +kernel)) rfl
theorem tw_1728 : Cond.code yX12_matches cX12_matches 5 (some .int) ∈ lw_good := lw_in (List.mem_of_getElem? (i := 1728) (by decide +kernel)) rfl
theorem kV_L_214 : me_V RL 214 yX12_matches cX12_matches 5 (some .int) 12 2 := ⟨⟨TX12, 43, rfl⟩, Or.inl tw_1725, tw_1726, tw_1727, tw_14, tw_1728, by decide +kernel, by decide +kernel, by decide +kernel, by decide⟩
theorem tw_1737 : Cond.methodLink RL 217 yX12_match ∈ lw_good := lw_in (List.mem_of_getElem? (i := 1737) (by decide +kernel)) rfl
theorem tw_1738 : Cond.instanceMethod yX12_match ∈ lw_good := lw_in (List.mem_of_getElem? (i := 1738) (by decide +kernel)) rfl
theorem tw_1739 : Cond.selects RX12 yX12_match yX12_match ∈ lw_good := lw_in (List.mem_of_getElem? (i := 1739) (by decide +kernel)) rfl
theorem tw_1740 : Cond.code yX12_match cX12_match 3 (some .int) ∈ lw_good := lw_in (List.mem_of_getElem? (i := 1740) (by decide +kernel)) rfl
theorem kV_L_217 : me_V RL 217 yX12_match cX12_match 3 (some .int) 12 2 := ⟨⟨TX12, 43, rfl⟩, Or.inl tw_1737, tw_1738, tw_1739, tw_14, tw_1740, by decide +kernel, by decide +kernel, by decide +kernel, by decide⟩
theorem tw_1741 : Cond.methodLink RL 220 yX12_maximals ∈ lw_good := lw_in (List.mem_of_getElem? (i := 1741) (by decide +kernel)) rfl
theorem tw_1742 : Cond.instanceMethod yX12_maximals ∈ lw_good := lw_in (List.mem_of_getElem? (i := 1742) (by decide +kernel)) rfl
theorem tw_1743 : Cond.selects RX12 yX12_maximals yX12_maximals ∈ lw_good := lw_in (List.mem_of_getElem? (i := 1743) (by decide +kernel)) rfl
theorem tw_1744 : Cond.code yX12_maximals cX12_maximals 3 (some .int) ∈ lw_good := lw_in (List.mem_of_getElem? (i := 1744) (by decide +kernel)) rfl
theorem kV_L_220 : me_V RL 220 yX12_maximals cX12_maximals 3 (some .int) 12 2 := ⟨⟨TX12, 43, rfl⟩, Or.inl tw_1741, tw_1742, tw_1743, tw_14, tw_1744, by decide +kernel, by decide +kernel, by decide +kernel, by decide⟩
theorem tw_1777 : Cond.methodLink RL 224 yX12_maximal ∈ lw_good := lw_in (List.mem_of_getElem? (i := 1777) (by decide +kernel)) rfl
theorem tw_1778 : Cond.instanceMethod yX12_maximal ∈ lw_good := lw_in (List.mem_of_getElem? (i := 1778) (by decide +kernel)) rfl
theorem tw_1779 : Cond.selects RX12 yX12_maximal yX12_maximal ∈ lw_good := lw_in (List.mem_of_getElem? (i := 1779) (by decide +kernel)) rfl
theorem tw_1780 : Cond.code yX12_maximal cX12_maximal 5 (some .int) ∈ lw_good := lw_in (List.mem_of_getElem? (i := 1780) (by decide +kernel)) rfl
theorem kV_L_224 : me_V RL 224 yX12_maximal cX12_maximal 5 (some .int) 12 4 := ⟨⟨TX12, 43, rfl⟩, Or.inl tw_1777, tw_1778, tw_1779, tw_14, tw_1780, by decide +kernel, by decide +kernel, by decide +kernel, by decide⟩
theorem tw_1781 : Cond.methodLink RL 227 yX12_strings ∈ lw_good := lw_in (List.mem_of_getElem? (i := 1781) (by decide +kernel)) rfl
theorem tw_1782 : Cond.instanceMethod yX12_strings ∈ lw_good := lw_in (List.mem_of_getElem? (i := 1782) (by decide +kernel)) rfl
theorem tw_1783 : Cond.selects RX12 yX12_strings yX12_strings ∈ lw_good := lw_in (List.mem_of_getElem? (i := 1783) (by decide +kernel)) rfl
theorem tw_1784 : Cond.code yX12_strings cX12_strings 6 (some .int) ∈ lw_good := lw_in (List.mem_of_getElem? (i := 1784) (by decide +kernel)) rfl
theorem kV_L_227 : me_V RL 227 yX12_strings cX12_strings 6 (some .int) 12 1 := ⟨⟨TX12, 43, rfl⟩, Or.inl tw_1781, tw_1782, tw_1783, tw_14, tw_1784, by decide +kernel, by decide +kernel, by decide +kernel, by decide⟩
theorem tw_1789 : Cond.methodLink RL 230 yX12_repeat ∈ lw_good := lw_in (List.mem_of_getElem? (i := 1789) (by decide +kernel)) rfl
theorem tw_1790 : Cond.instanceMethod yX12_repeat ∈ lw_good := lw_in (List.mem_of_getElem? (i := 1790) (by decide +kernel)) rfl
theorem tw_1791 : Cond.selects RX12 yX12_repeat yX12_repeat ∈ lw_good := lw_in (List.mem_of_getElem? (i := 1791) (by decide +kernel)) rfl
theorem tw_1792 : Cond.code yX12_repeat cX12_repeat 6 (some .int) ∈ lw_good := lw_in (List.mem_of_getElem? (i := 1792) (by decide +kernel)) rfl
theorem kV_L_230 : me_V RL 230 yX12_repeat cX12_repeat 6 (some .int) 12 1 := ⟨⟨TX12, 43, rfl⟩, Or.inl tw_1789, tw_1790, tw_1791, tw_14, tw_1792, by decide +kernel, by decide +kernel, by decide +kernel, by decide⟩
theorem tw_1793 : Cond.methodLink RL 233 yX12_unique ∈ lw_good := lw_in (List.mem_of_getElem? (i := 1793) (by decide +kernel)) rfl
theorem tw_1794 : Cond.instanceMethod yX12_unique ∈ lw_good := lw_in (List.mem_of_getElem? (i := 1794) (by decide +kernel)) rfl
theorem tw_1795 : Cond.selects RX12 yX12_unique yX12_unique ∈ lw_good := lw_in (List.mem_of_getElem? (i := 1795) (by decide +kernel)) rfl
theorem tw_1796 : Cond.code yX12_unique cX12_unique 2 (some .int) ∈ lw_good := lw_in (List.mem_of_getElem? (i := 1796) (by decide +kernel)) rfl
theorem kV_L_233 : me_V RL 233 yX12_unique cX12_unique 2 (some .int) 12 1 := ⟨⟨TX12, 43, rfl⟩, Or.inl tw_1793, tw_1794, tw_1795, tw_14, tw_1796, by decide +kernel, by decide +kernel, by decide +kernel, by decide⟩
theorem tw_1801 : Cond.methodLink RL 236 yX12_around ∈ lw_good := lw_in (List.mem_of_getElem? (i := 1801) (by decide +kernel)) rfl
theorem tw_1802 : Cond.instanceMethod yX12_around ∈ lw_good := lw_in (List.mem_of_getElem? (i := 1802) (by decide +kernel)) rfl
theorem tw_1803 : Cond.selects RX12 yX12_around yX12_around ∈ lw_good := lw_in (List.mem_of_getElem? (i := 1803) (by decide +kernel)) rfl
theorem tw_1804 : Cond.code yX12_around cX12_around 7 (some .int) ∈ lw_good := lw_in (List.mem_of_getElem? (i := 1804) (by decide +kernel)) rfl
theorem kV_L_236 : me_V RL 236 yX12_around cX12_around 7 (some .int) 12 2 := ⟨⟨TX12, 43, rfl⟩, Or.inl tw_1801, tw_1802, tw_1803, tw_14, tw_1804, by decide +kernel, by decide +kernel, by decide +kernel, by decide⟩
theorem tw_1805 : Cond.methodLink RL 239 yX12_common ∈ lw_good := lw_in (List.mem_of_getElem? (i := 1805) (by decide +kernel)) rfl
theorem tw_1806 : Cond.instanceMethod yX12_common ∈ lw_good := lw_in (List.mem_of_getElem? (i := 1806) (by decide +kernel)) rfl
theorem tw_1807 : Cond.selects RX12 yX12_common yX12_common ∈ lw_good := lw_in (List.mem_of_getElem? (i := 1807) (by decide +kernel)) rfl
theorem tw_1808 : Cond.code yX12_common cX12_common 6 (some .int) ∈ lw_good := lw_in (List.mem_of_getElem? (i := 1808) (by decide +kernel)) rfl
theorem kV_L_239 : me_V RL 239 yX12_common cX12_common 6 (some .int) 12 1 := ⟨⟨TX12, 43, rfl⟩, Or.inl tw_1805, tw_1806, tw_1807, tw_14, tw_1808, by decide +kernel, by decide +kernel, by decide +kernel, by decide⟩
theorem tw_1813 : Cond.methodLink RL 242 yX12_document ∈ lw_good := lw_in (List.mem_of_getElem? (i := 1813) (by decide +kernel)) rfl
theorem tw_1814 : Cond.instanceMethod yX12_document ∈ lw_good := lw_in (List.mem_of_getElem? (i := 1814) (by decide +kernel)) rfl
theorem tw_1815 : Cond.selects RX12 yX12_document yX12_document ∈ lw_good := lw_in (List.mem_of_getElem? (i := 1815) (by decide +kernel)) rfl
theorem tw_1816 : Cond.code yX12_document cX12_document 3 (some .int) ∈ lw_good := lw_in (List.mem_of_getElem? (i := 1816) (by decide +kernel)) rfl
theorem kV_L_242 : me_V RL 242 yX12_document cX12_document 3 (some .int) 12 2 := ⟨⟨TX12, 43, rfl⟩, Or.inl tw_1813, tw_1814, tw_1815, tw_14, tw_1816, by decide +kernel, by decide +kernel, by decide +kernel, by decide⟩
theorem tw_1817 : Cond.methodLink RL 245 yX12_print ∈ lw_good := lw_in (List.mem_of_getElem? (i := 1817) (by decide +kernel)) rfl
theorem tw_1818 : Cond.instanceMethod yX12_print ∈ lw_good := lw_in (List.mem_of_getElem? (i := 1818) (by decide +kernel)) rfl
theorem tw_1819 : Cond.selects RX12 yX12_print yX12_print ∈ lw_good := lw_in (List.mem_of_getElem? (i := 1819) (by decide +kernel)) rfl
theorem tw_1820 : Cond.code yX12_print cX12_print 5 (some .long) ∈ lw_good := lw_in (List.mem_of_getElem? (i := 1820) (by decide +kernel)) rfl
theorem kV_L_245 : me_V RL 245 yX12_print cX12_print 5 (some .long) 12 1 := ⟨⟨TX12, 43, rfl⟩, Or.inl tw_1817, tw_1818, tw_1819, tw_14, tw_1820, by decide +kernel, by decide +kernel, by decide +kernel, by decide⟩
theorem tw_638 : Cond.methodLink RL 246 yX11_status ∈ lw_good := lw_in (List.mem_of_getElem? (i := 638) (by decide +kernel)) rfl
theorem tw_639 : Cond.instanceMethod yX11_status ∈ lw_good := lw_in (List.mem_of_getElem? (i := 639) (by decide +kernel)) rfl
theorem tw_640 : Cond.selects RX11 yX11_status yX11_status ∈ lw_good := lw_in (List.mem_of_getElem? (i := 640) (by decide +kernel)) rfl
theorem tw_641 : Cond.code yX11_status cX11_status 2 (some .int) ∈ lw_good := lw_in (List.mem_of_getElem? (i := 641) (by decide +kernel)) rfl
theorem kV_L_246 : me_V RL 246 yX11_status cX11_status 2 (some .int) 11 1 := ⟨⟨TX11, 16, rfl⟩, Or.inl tw_638, tw_639, tw_640, tw_1, tw_641, by decide +kernel, by decide +kernel, by decide +kernel, by decide⟩
theorem tw_1822 : Cond.methodLink RL 249 yX12_status ∈ lw_good := lw_in (List.mem_of_getElem? (i := 1822) (by decide +kernel)) rfl
theorem tw_1823 : Cond.instanceMethod yX12_status ∈ lw_good := lw_in (List.mem_of_getElem? (i := 1823) (by decide +kernel)) rfl
theorem tw_1824 : Cond.selects RX12 yX12_status yX12_status ∈ lw_good := lw_in (List.mem_of_getElem? (i := 1824) (by decide +kernel)) rfl
theorem tw_1825 : Cond.code yX12_status cX12_status 2 (some .int) ∈ lw_good := lw_in (List.mem_of_getElem? (i := 1825) (by decide +kernel)) rfl
theorem kV_L_249 : me_V RL 249 yX12_status cX12_status 2 (some .int) 12 1 := ⟨⟨TX12, 43, rfl⟩, Or.inl tw_1822, tw_1823, tw_1824, tw_14, tw_1825, by decide +kernel, by decide +kernel, by decide +kernel, by decide⟩
theorem tw_642 : Cond.methodLink RL 122 yL_text ∈ lw_good := lw_in (List.mem_of_getElem? (i := 642) (by decide +kernel)) rfl
theorem tw_643 : Cond.static yL_text ∈ lw_good := lw_in (List.mem_of_getElem? (i := 643) (by decide +kernel)) rfl
theorem tw_0 : Cond.initialized RL ∈ lw_good := lw_in (List.mem_of_getElem? (i := 0) (by decide +kernel)) rfl
theorem tw_644 : Cond.codeWith yL_text cL_text 4 (some .int) [(0, 9, 12, 13)] ∈ lw_good := lw_in (List.mem_of_getElem? (i := 644) (by decide +kernel)) rfl
theorem kH_122 : me_SH RL 122 yL_text cL_text 4 (some .int) [(0, 9, 12, 13)] 3 := ⟨tw_642, tw_643, tw_0, tw_644, by decide +kernel, by decide +kernel, by decide +kernel, by decide⟩
theorem tw_741 : Cond.methodLink RL 132 yL_scheme ∈ lw_good := lw_in (List.mem_of_getElem? (i := 741) (by decide +kernel)) rfl
theorem tw_742 : Cond.static yL_scheme ∈ lw_good := lw_in (List.mem_of_getElem? (i := 742) (by decide +kernel)) rfl
theorem tw_743 : Cond.codeWith yL_scheme cL_scheme 4 (some .int) [(0, 9, 12, 13)] ∈ lw_good := lw_in (List.mem_of_getElem? (i := 743) (by decide +kernel)) rfl
theorem kH_132 : me_SH RL 132 yL_scheme cL_scheme 4 (some .int) [(0, 9, 12, 13)] 3 := ⟨tw_741, tw_742, tw_0, tw_743, by decide +kernel, by decide +kernel, by decide +kernel, by decide⟩
theorem tw_812 : Cond.methodLink RL 139 yL_step ∈ lw_good := lw_in (List.mem_of_getElem? (i := 812) (by decide +kernel)) rfl
theorem tw_813 : Cond.static yL_step ∈ lw_good := lw_in (List.mem_of_getElem? (i := 813) (by decide +kernel)) rfl
theorem tw_814 : Cond.codeWith yL_step cL_step 4 (some .int) [(0, 9, 12, 13)] ∈ lw_good := lw_in (List.mem_of_getElem? (i := 814) (by decide +kernel)) rfl
theorem kH_139 : me_SH RL 139 yL_step cL_step 4 (some .int) [(0, 9, 12, 13)] 3 := ⟨tw_812, tw_813, tw_0, tw_814, by decide +kernel, by decide +kernel, by decide +kernel, by decide⟩
theorem tw_819 : Cond.methodLink RL 142 yL_grow ∈ lw_good := lw_in (List.mem_of_getElem? (i := 819) (by decide +kernel)) rfl
theorem tw_820 : Cond.static yL_grow ∈ lw_good := lw_in (List.mem_of_getElem? (i := 820) (by decide +kernel)) rfl
theorem tw_821 : Cond.codeWith yL_grow cL_grow 5 (some .int) [(0, 10, 13, 13), (0, 10, 17, 25)] ∈ lw_good := lw_in (List.mem_of_getElem? (i := 821) (by decide +kernel)) rfl
theorem kH_142 : me_SH RL 142 yL_grow cL_grow 5 (some .int) [(0, 10, 13, 13), (0, 10, 17, 25)] 4 := ⟨tw_819, tw_820, tw_0, tw_821, by decide +kernel, by decide +kernel, by decide +kernel, by decide⟩
theorem tw_865 : Cond.methodLink RL 154 yL_told ∈ lw_good := lw_in (List.mem_of_getElem? (i := 865) (by decide +kernel)) rfl
theorem tw_866 : Cond.static yL_told ∈ lw_good := lw_in (List.mem_of_getElem? (i := 866) (by decide +kernel)) rfl
theorem tw_867 : Cond.codeWith yL_told cL_told 4 (some .int) [(0, 9, 12, 13)] ∈ lw_good := lw_in (List.mem_of_getElem? (i := 867) (by decide +kernel)) rfl
theorem kH_154 : me_SH RL 154 yL_told cL_told 4 (some .int) [(0, 9, 12, 13)] 3 := ⟨tw_865, tw_866, tw_0, tw_867, by decide +kernel, by decide +kernel, by decide +kernel, by decide⟩
theorem tw_883 : Cond.methodLink RL 157 yL_sign ∈ lw_good := lw_in (List.mem_of_getElem? (i := 883) (by decide +kernel)) rfl
theorem tw_884 : Cond.static yL_sign ∈ lw_good := lw_in (List.mem_of_getElem? (i := 884) (by decide +kernel)) rfl
theorem tw_885 : Cond.codeWith yL_sign cL_sign 4 (some .int) [(0, 9, 12, 33)] ∈ lw_good := lw_in (List.mem_of_getElem? (i := 885) (by decide +kernel)) rfl
theorem kH_157 : me_SH RL 157 yL_sign cL_sign 4 (some .int) [(0, 9, 12, 33)] 3 := ⟨tw_883, tw_884, tw_0, tw_885, by decide +kernel, by decide +kernel, by decide +kernel, by decide⟩
theorem tw_918 : Cond.methodLink RL 160 yL_row ∈ lw_good := lw_in (List.mem_of_getElem? (i := 918) (by decide +kernel)) rfl
theorem tw_919 : Cond.static yL_row ∈ lw_good := lw_in (List.mem_of_getElem? (i := 919) (by decide +kernel)) rfl
theorem tw_920 : Cond.codeWith yL_row cL_row 6 (some .int) [(0, 12, 15, 33), (0, 12, 19, 13)] ∈ lw_good := lw_in (List.mem_of_getElem? (i := 920) (by decide +kernel)) rfl
theorem kH_160 : me_SH RL 160 yL_row cL_row 6 (some .int) [(0, 12, 15, 33), (0, 12, 19, 13)] 5 := ⟨tw_918, tw_919, tw_0, tw_920, by decide +kernel, by decide +kernel, by decide +kernel, by decide⟩
theorem tw_937 : Cond.methodLink RL 164 yL_rowOf ∈ lw_good := lw_in (List.mem_of_getElem? (i := 937) (by decide +kernel)) rfl
theorem tw_938 : Cond.static yL_rowOf ∈ lw_good := lw_in (List.mem_of_getElem? (i := 938) (by decide +kernel)) rfl
theorem tw_939 : Cond.codeWith yL_rowOf cL_rowOf 5 (some .int) [(0, 10, 13, 33)] ∈ lw_good := lw_in (List.mem_of_getElem? (i := 939) (by decide +kernel)) rfl
theorem kH_164 : me_SH RL 164 yL_rowOf cL_rowOf 5 (some .int) [(0, 10, 13, 33)] 4 := ⟨tw_937, tw_938, tw_0, tw_939, by decide +kernel, by decide +kernel, by decide +kernel, by decide⟩
theorem tw_944 : Cond.methodLink RL 167 yL_count ∈ lw_good := lw_in (List.mem_of_getElem? (i := 944) (by decide +kernel)) rfl
theorem tw_945 : Cond.static yL_count ∈ lw_good := lw_in (List.mem_of_getElem? (i := 945) (by decide +kernel)) rfl
theorem tw_946 : Cond.codeWith yL_count cL_count 6 (some .int) [(0, 12, 15, 33), (0, 12, 19, 13)] ∈ lw_good := lw_in (List.mem_of_getElem? (i := 946) (by decide +kernel)) rfl
theorem kH_167 : me_SH RL 167 yL_count cL_count 6 (some .int) [(0, 12, 15, 33), (0, 12, 19, 13)] 5 := ⟨tw_944, tw_945, tw_0, tw_946, by decide +kernel, by decide +kernel, by decide +kernel, by decide⟩
theorem tw_952 : Cond.methodLink RL 170 yL_letter ∈ lw_good := lw_in (List.mem_of_getElem? (i := 952) (by decide +kernel)) rfl
theorem tw_953 : Cond.static yL_letter ∈ lw_good := lw_in (List.mem_of_getElem? (i := 953) (by decide +kernel)) rfl
theorem tw_954 : Cond.codeWith yL_letter cL_letter 4 (some .int) [(0, 9, 12, 33)] ∈ lw_good := lw_in (List.mem_of_getElem? (i := 954) (by decide +kernel)) rfl
theorem kH_170 : me_SH RL 170 yL_letter cL_letter 4 (some .int) [(0, 9, 12, 33)] 3 := ⟨tw_952, tw_953, tw_0, tw_954, by decide +kernel, by decide +kernel, by decide +kernel, by decide⟩
theorem tw_963 : Cond.methodLink RL 173 yL_grows ∈ lw_good := lw_in (List.mem_of_getElem? (i := 963) (by decide +kernel)) rfl
theorem tw_964 : Cond.static yL_grows ∈ lw_good := lw_in (List.mem_of_getElem? (i := 964) (by decide +kernel)) rfl
theorem tw_965 : Cond.codeWith yL_grows cL_grows 4 (some .int) [(0, 9, 12, 13)] ∈ lw_good := lw_in (List.mem_of_getElem? (i := 965) (by decide +kernel)) rfl
theorem kH_173 : me_SH RL 173 yL_grows cL_grows 4 (some .int) [(0, 9, 12, 13)] 3 := ⟨tw_963, tw_964, tw_0, tw_965, by decide +kernel, by decide +kernel, by decide +kernel, by decide⟩
theorem tw_974 : Cond.methodLink RL 176 yL_hit ∈ lw_good := lw_in (List.mem_of_getElem? (i := 974) (by decide +kernel)) rfl
theorem tw_975 : Cond.static yL_hit ∈ lw_good := lw_in (List.mem_of_getElem? (i := 975) (by decide +kernel)) rfl
theorem tw_976 : Cond.codeWith yL_hit cL_hit 5 (some .int) [(0, 10, 13, 33), (0, 10, 17, 13)] ∈ lw_good := lw_in (List.mem_of_getElem? (i := 976) (by decide +kernel)) rfl
theorem kH_176 : me_SH RL 176 yL_hit cL_hit 5 (some .int) [(0, 10, 13, 33), (0, 10, 17, 13)] 4 := ⟨tw_974, tw_975, tw_0, tw_976, by decide +kernel, by decide +kernel, by decide +kernel, by decide⟩
theorem tw_993 : Cond.methodLink RL 179 yL_hits ∈ lw_good := lw_in (List.mem_of_getElem? (i := 993) (by decide +kernel)) rfl
theorem tw_994 : Cond.static yL_hits ∈ lw_good := lw_in (List.mem_of_getElem? (i := 994) (by decide +kernel)) rfl
theorem tw_995 : Cond.codeWith yL_hits cL_hits 4 (some .int) [(0, 9, 12, 13)] ∈ lw_good := lw_in (List.mem_of_getElem? (i := 995) (by decide +kernel)) rfl
theorem kH_179 : me_SH RL 179 yL_hits cL_hits 4 (some .int) [(0, 9, 12, 13)] 3 := ⟨tw_993, tw_994, tw_0, tw_995, by decide +kernel, by decide +kernel, by decide +kernel, by decide⟩
theorem tw_1014 : Cond.methodLink RL 182 yL_often ∈ lw_good := lw_in (List.mem_of_getElem? (i := 1014) (by decide +kernel)) rfl
theorem tw_1015 : Cond.static yL_often ∈ lw_good := lw_in (List.mem_of_getElem? (i := 1015) (by decide +kernel)) rfl
theorem tw_1016 : Cond.codeWith yL_often cL_often 4 (some .int) [(0, 9, 12, 13)] ∈ lw_good := lw_in (List.mem_of_getElem? (i := 1016) (by decide +kernel)) rfl
theorem kH_182 : me_SH RL 182 yL_often cL_often 4 (some .int) [(0, 9, 12, 13)] 3 := ⟨tw_1014, tw_1015, tw_0, tw_1016, by decide +kernel, by decide +kernel, by decide +kernel, by decide⟩
theorem tw_1030 : Cond.methodLink RL 185 yL_shares ∈ lw_good := lw_in (List.mem_of_getElem? (i := 1030) (by decide +kernel)) rfl
theorem tw_1031 : Cond.static yL_shares ∈ lw_good := lw_in (List.mem_of_getElem? (i := 1031) (by decide +kernel)) rfl
theorem tw_1032 : Cond.codeWith yL_shares cL_shares 4 (some .int) [(0, 9, 12, 13)] ∈ lw_good := lw_in (List.mem_of_getElem? (i := 1032) (by decide +kernel)) rfl
theorem kH_185 : me_SH RL 185 yL_shares cL_shares 4 (some .int) [(0, 9, 12, 13)] 3 := ⟨tw_1030, tw_1031, tw_0, tw_1032, by decide +kernel, by decide +kernel, by decide +kernel, by decide⟩
theorem tw_1037 : Cond.methodLink RL 197 yL_digit ∈ lw_good := lw_in (List.mem_of_getElem? (i := 1037) (by decide +kernel)) rfl
theorem tw_1038 : Cond.static yL_digit ∈ lw_good := lw_in (List.mem_of_getElem? (i := 1038) (by decide +kernel)) rfl
theorem tw_1039 : Cond.codeWith yL_digit cL_digit 6 (some .int) [(0, 12, 15, 33), (0, 12, 19, 13)] ∈ lw_good := lw_in (List.mem_of_getElem? (i := 1039) (by decide +kernel)) rfl
theorem kH_197 : me_SH RL 197 yL_digit cL_digit 6 (some .int) [(0, 12, 15, 33), (0, 12, 19, 13)] 5 := ⟨tw_1037, tw_1038, tw_0, tw_1039, by decide +kernel, by decide +kernel, by decide +kernel, by decide⟩
theorem tw_1048 : Cond.methodLink RL 200 yL_search ∈ lw_good := lw_in (List.mem_of_getElem? (i := 1048) (by decide +kernel)) rfl
theorem tw_1049 : Cond.static yL_search ∈ lw_good := lw_in (List.mem_of_getElem? (i := 1049) (by decide +kernel)) rfl
theorem tw_1050 : Cond.codeWith yL_search cL_search 4 (some .int) [(0, 9, 12, 13)] ∈ lw_good := lw_in (List.mem_of_getElem? (i := 1050) (by decide +kernel)) rfl
theorem kH_200 : me_SH RL 200 yL_search cL_search 4 (some .int) [(0, 9, 12, 13)] 3 := ⟨tw_1048, tw_1049, tw_0, tw_1050, by decide +kernel, by decide +kernel, by decide +kernel, by decide⟩
theorem tw_1099 : Cond.methodLink RL 203 yL_found ∈ lw_good := lw_in (List.mem_of_getElem? (i := 1099) (by decide +kernel)) rfl
theorem tw_1100 : Cond.static yL_found ∈ lw_good := lw_in (List.mem_of_getElem? (i := 1100) (by decide +kernel)) rfl
theorem tw_1101 : Cond.codeWith yL_found cL_found 5 (some .int) [(0, 10, 13, 33), (0, 10, 17, 13)] ∈ lw_good := lw_in (List.mem_of_getElem? (i := 1101) (by decide +kernel)) rfl
theorem kH_203 : me_SH RL 203 yL_found cL_found 5 (some .int) [(0, 10, 13, 33), (0, 10, 17, 13)] 4 := ⟨tw_1099, tw_1100, tw_0, tw_1101, by decide +kernel, by decide +kernel, by decide +kernel, by decide⟩
theorem tw_1110 : Cond.methodLink RL 206 yL_result ∈ lw_good := lw_in (List.mem_of_getElem? (i := 1110) (by decide +kernel)) rfl
theorem tw_1111 : Cond.static yL_result ∈ lw_good := lw_in (List.mem_of_getElem? (i := 1111) (by decide +kernel)) rfl
theorem tw_1112 : Cond.codeWith yL_result cL_result 4 (some .int) [(0, 9, 12, 13)] ∈ lw_good := lw_in (List.mem_of_getElem? (i := 1112) (by decide +kernel)) rfl
theorem kH_206 : me_SH RL 206 yL_result cL_result 4 (some .int) [(0, 9, 12, 13)] 3 := ⟨tw_1110, tw_1111, tw_0, tw_1112, by decide +kernel, by decide +kernel, by decide +kernel, by decide⟩
theorem tw_1126 : Cond.methodLink RL 209 yL_ran ∈ lw_good := lw_in (List.mem_of_getElem? (i := 1126) (by decide +kernel)) rfl
theorem tw_1127 : Cond.static yL_ran ∈ lw_good := lw_in (List.mem_of_getElem? (i := 1127) (by decide +kernel)) rfl
theorem tw_1128 : Cond.codeWith yL_ran cL_ran 5 (some .int) [(0, 10, 13, 33), (0, 10, 17, 13)] ∈ lw_good := lw_in (List.mem_of_getElem? (i := 1128) (by decide +kernel)) rfl
theorem kH_209 : me_SH RL 209 yL_ran cL_ran 5 (some .int) [(0, 10, 13, 33), (0, 10, 17, 13)] 4 := ⟨tw_1126, tw_1127, tw_0, tw_1128, by decide +kernel, by decide +kernel, by decide +kernel, by decide⟩
theorem tw_1133 : Cond.methodLink RL 212 yL_matches ∈ lw_good := lw_in (List.mem_of_getElem? (i := 1133) (by decide +kernel)) rfl
theorem tw_1134 : Cond.static yL_matches ∈ lw_good := lw_in (List.mem_of_getElem? (i := 1134) (by decide +kernel)) rfl
theorem tw_1135 : Cond.codeWith yL_matches cL_matches 5 (some .int) [(0, 10, 13, 13)] ∈ lw_good := lw_in (List.mem_of_getElem? (i := 1135) (by decide +kernel)) rfl
theorem kH_212 : me_SH RL 212 yL_matches cL_matches 5 (some .int) [(0, 10, 13, 13)] 4 := ⟨tw_1133, tw_1134, tw_0, tw_1135, by decide +kernel, by decide +kernel, by decide +kernel, by decide⟩
theorem tw_1164 : Cond.methodLink RL 215 yL_match ∈ lw_good := lw_in (List.mem_of_getElem? (i := 1164) (by decide +kernel)) rfl
theorem tw_1165 : Cond.static yL_match ∈ lw_good := lw_in (List.mem_of_getElem? (i := 1165) (by decide +kernel)) rfl
theorem tw_1166 : Cond.codeWith yL_match cL_match 5 (some .int) [(0, 10, 13, 33), (0, 10, 17, 13)] ∈ lw_good := lw_in (List.mem_of_getElem? (i := 1166) (by decide +kernel)) rfl
theorem kH_215 : me_SH RL 215 yL_match cL_match 5 (some .int) [(0, 10, 13, 33), (0, 10, 17, 13)] 4 := ⟨tw_1164, tw_1165, tw_0, tw_1166, by decide +kernel, by decide +kernel, by decide +kernel, by decide⟩
theorem tw_1171 : Cond.methodLink RL 218 yL_maximals ∈ lw_good := lw_in (List.mem_of_getElem? (i := 1171) (by decide +kernel)) rfl
theorem tw_1172 : Cond.static yL_maximals ∈ lw_good := lw_in (List.mem_of_getElem? (i := 1172) (by decide +kernel)) rfl
theorem tw_1173 : Cond.codeWith yL_maximals cL_maximals 5 (some .int) [(0, 10, 13, 13)] ∈ lw_good := lw_in (List.mem_of_getElem? (i := 1173) (by decide +kernel)) rfl
theorem kH_218 : me_SH RL 218 yL_maximals cL_maximals 5 (some .int) [(0, 10, 13, 13)] 4 := ⟨tw_1171, tw_1172, tw_0, tw_1173, by decide +kernel, by decide +kernel, by decide +kernel, by decide⟩
theorem tw_1185 : Cond.methodLink RL 221 yL_maximal ∈ lw_good := lw_in (List.mem_of_getElem? (i := 1185) (by decide +kernel)) rfl
theorem tw_1186 : Cond.static yL_maximal ∈ lw_good := lw_in (List.mem_of_getElem? (i := 1186) (by decide +kernel)) rfl
theorem tw_1187 : Cond.codeWith yL_maximal cL_maximal 7 (some .int) [(0, 14, 17, 33), (0, 14, 21, 13)] ∈ lw_good := lw_in (List.mem_of_getElem? (i := 1187) (by decide +kernel)) rfl
theorem kH_221 : me_SH RL 221 yL_maximal cL_maximal 7 (some .int) [(0, 14, 17, 33), (0, 14, 21, 13)] 6 := ⟨tw_1185, tw_1186, tw_0, tw_1187, by decide +kernel, by decide +kernel, by decide +kernel, by decide⟩
theorem tw_1200 : Cond.methodLink RL 225 yL_strings ∈ lw_good := lw_in (List.mem_of_getElem? (i := 1200) (by decide +kernel)) rfl
theorem tw_1201 : Cond.static yL_strings ∈ lw_good := lw_in (List.mem_of_getElem? (i := 1201) (by decide +kernel)) rfl
theorem tw_1202 : Cond.codeWith yL_strings cL_strings 4 (some .int) [(0, 9, 12, 13)] ∈ lw_good := lw_in (List.mem_of_getElem? (i := 1202) (by decide +kernel)) rfl
theorem kH_225 : me_SH RL 225 yL_strings cL_strings 4 (some .int) [(0, 9, 12, 13)] 3 := ⟨tw_1200, tw_1201, tw_0, tw_1202, by decide +kernel, by decide +kernel, by decide +kernel, by decide⟩
theorem tw_1211 : Cond.methodLink RL 228 yL_repeat ∈ lw_good := lw_in (List.mem_of_getElem? (i := 1211) (by decide +kernel)) rfl
theorem tw_1212 : Cond.static yL_repeat ∈ lw_good := lw_in (List.mem_of_getElem? (i := 1212) (by decide +kernel)) rfl
theorem tw_1213 : Cond.codeWith yL_repeat cL_repeat 4 (some .int) [(0, 9, 12, 13)] ∈ lw_good := lw_in (List.mem_of_getElem? (i := 1213) (by decide +kernel)) rfl
theorem kH_228 : me_SH RL 228 yL_repeat cL_repeat 4 (some .int) [(0, 9, 12, 13)] 3 := ⟨tw_1211, tw_1212, tw_0, tw_1213, by decide +kernel, by decide +kernel, by decide +kernel, by decide⟩
theorem tw_1235 : Cond.methodLink RL 231 yL_unique ∈ lw_good := lw_in (List.mem_of_getElem? (i := 1235) (by decide +kernel)) rfl
theorem tw_1236 : Cond.static yL_unique ∈ lw_good := lw_in (List.mem_of_getElem? (i := 1236) (by decide +kernel)) rfl
theorem tw_1237 : Cond.codeWith yL_unique cL_unique 4 (some .int) [(0, 9, 12, 33)] ∈ lw_good := lw_in (List.mem_of_getElem? (i := 1237) (by decide +kernel)) rfl
theorem kH_231 : me_SH RL 231 yL_unique cL_unique 4 (some .int) [(0, 9, 12, 33)] 3 := ⟨tw_1235, tw_1236, tw_0, tw_1237, by decide +kernel, by decide +kernel, by decide +kernel, by decide⟩
theorem tw_1246 : Cond.methodLink RL 234 yL_around ∈ lw_good := lw_in (List.mem_of_getElem? (i := 1246) (by decide +kernel)) rfl
theorem tw_1247 : Cond.static yL_around ∈ lw_good := lw_in (List.mem_of_getElem? (i := 1247) (by decide +kernel)) rfl
theorem tw_1248 : Cond.codeWith yL_around cL_around 5 (some .int) [(0, 10, 13, 33), (0, 10, 17, 13)] ∈ lw_good := lw_in (List.mem_of_getElem? (i := 1248) (by decide +kernel)) rfl
theorem kH_234 : me_SH RL 234 yL_around cL_around 5 (some .int) [(0, 10, 13, 33), (0, 10, 17, 13)] 4 := ⟨tw_1246, tw_1247, tw_0, tw_1248, by decide +kernel, by decide +kernel, by decide +kernel, by decide⟩
theorem tw_1263 : Cond.methodLink RL 237 yL_common ∈ lw_good := lw_in (List.mem_of_getElem? (i := 1263) (by decide +kernel)) rfl
theorem tw_1264 : Cond.static yL_common ∈ lw_good := lw_in (List.mem_of_getElem? (i := 1264) (by decide +kernel)) rfl
theorem tw_1265 : Cond.codeWith yL_common cL_common 4 (some .int) [(0, 9, 12, 13)] ∈ lw_good := lw_in (List.mem_of_getElem? (i := 1265) (by decide +kernel)) rfl
theorem kH_237 : me_SH RL 237 yL_common cL_common 4 (some .int) [(0, 9, 12, 13)] 3 := ⟨tw_1263, tw_1264, tw_0, tw_1265, by decide +kernel, by decide +kernel, by decide +kernel, by decide⟩
theorem tw_1284 : Cond.methodLink RL 240 yL_document ∈ lw_good := lw_in (List.mem_of_getElem? (i := 1284) (by decide +kernel)) rfl
theorem tw_1285 : Cond.static yL_document ∈ lw_good := lw_in (List.mem_of_getElem? (i := 1285) (by decide +kernel)) rfl
theorem tw_1286 : Cond.codeWith yL_document cL_document 5 (some .int) [(0, 10, 13, 33), (0, 10, 17, 13)] ∈ lw_good := lw_in (List.mem_of_getElem? (i := 1286) (by decide +kernel)) rfl
theorem kH_240 : me_SH RL 240 yL_document cL_document 5 (some .int) [(0, 10, 13, 33), (0, 10, 17, 13)] 4 := ⟨tw_1284, tw_1285, tw_0, tw_1286, by decide +kernel, by decide +kernel, by decide +kernel, by decide⟩
theorem tw_1291 : Cond.methodLink RL 243 yL_print ∈ lw_good := lw_in (List.mem_of_getElem? (i := 1291) (by decide +kernel)) rfl
theorem tw_1292 : Cond.static yL_print ∈ lw_good := lw_in (List.mem_of_getElem? (i := 1292) (by decide +kernel)) rfl
theorem tw_1293 : Cond.codeWith yL_print cL_print 4 (some .int) [(0, 8, 11, 33)] ∈ lw_good := lw_in (List.mem_of_getElem? (i := 1293) (by decide +kernel)) rfl
theorem kH_243 : me_SH RL 243 yL_print cL_print 4 (some .int) [(0, 8, 11, 33)] 3 := ⟨tw_1291, tw_1292, tw_0, tw_1293, by decide +kernel, by decide +kernel, by decide +kernel, by decide⟩
def sg_feed (xs : Nat → Int32) (Lx : Nat) (i : Int32) (M : me_M) : Option me_M :=
  ((me_sr xs Lx (i + 1)).bind fun v1 => ((me_sr xs Lx (i + 2)).bind fun v2 => ((me_sr xs Lx (i + 3)).bind fun v3 => ((me_sr xs Lx (i + 4)).bind fun v4 => ((me_sr xs Lx (i + 5)).bind fun v5 => ((mX11_feed_0 M v1 v2 v3 v4 v5).bind fun (v6, M1) => ((me_sr xs Lx (i + 1)).bind fun v7 => ((me_sr xs Lx (i + 2)).bind fun v8 => ((me_sr xs Lx (i + 3)).bind fun v9 => ((me_sr xs Lx (i + 4)).bind fun v10 => ((me_sr xs Lx (i + 5)).bind fun v11 => ((mX12_feed_63 M1 v7 v8 v9 v10 v11).bind fun (v12, M2) => (if v6 = v12 then some M2 else none)))))))))))))
set_option maxRecDepth 100000 in
set_option maxHeartbeats 4000000 in
theorem ct_sg_feed {p : Program} {l : Launch} {e : Env} {R : Room} {s : State} {m : MethodId} {args : Array Value} {below : List Frame} {meth : Method} {c : Code} {cells slots : Nat} {Q : State → Prop} {D : va_G} {cA : Nat → ClassId} {ad : Nat → Nat} {A : Nat → Prop} {tys : List (ClassId × FieldType)} (hl : l.stackTraces = false) (X : me_X p R s m args c D cA ad 425 5 425 8 cells slots 200 A cL_law RL tys) (hz : me_Z A s s.heap) {b Lx : Nat} {xs : Nat → Int32} (hX : va_X b Lx xs s s.heap) (hbl : b < s.heap.size) (hbA : ¬ A b) (hRc : cells + 1 ≤ R.cells) (hRs : slots + 6 ≤ R.slots) {i : Int32} {M M' : me_M} (h : sg_feed xs Lx i M = some M') (hk : me_W p l e R s m args below meth c (cells + 1) (slots + 6) Q D cA ad 425 8 A 2334 [(0, .ref b), (1, .ref (ad 0)), (2, .ref (ad 63)), (3, .ref (ad 424)), (4, .int i)] [] M') : me_W p l e R s m args below meth c cells slots Q D cA ad 425 8 A 208 [(0, .ref b), (1, .ref (ad 0)), (2, .ref (ad 63)), (3, .ref (ad 424)), (4, .int i)] [] M := by
  have hn : 425 ≤ 425 := Nat.le_refl _
  have hnt : 5 ≤ 5 := Nat.le_refl _
  unfold sg_feed at h
  refine me_aload_n X (i := 1) 1 rfl dL_law_208 ?_
  refine me_aload_n X (i := 0) 0 rfl dL_law_209 ?_
  refine me_iload X (i := 4) 4 rfl dL_law_210 ?_
  refine me_iconst X dL_law_212 ic_1 ?_
  refine me_iadd X dL_law_213 ?_
  obtain ⟨v1, e1, h⟩ := me_bd h
  refine me_sld X hX hbl hbA e1 dL_law_214 ?_
  refine me_aload_n X (i := 0) 0 rfl dL_law_215 ?_
  refine me_iload X (i := 4) 4 rfl dL_law_216 ?_
  refine me_iconst X dL_law_218 ic_2 ?_
  refine me_iadd X dL_law_219 ?_
  obtain ⟨v2, e2, h⟩ := me_bd h
  refine me_sld X hX hbl hbA e2 dL_law_220 ?_
  refine me_aload_n X (i := 0) 0 rfl dL_law_221 ?_
  refine me_iload X (i := 4) 4 rfl dL_law_222 ?_
  refine me_iconst X dL_law_224 ic_3 ?_
  refine me_iadd X dL_law_225 ?_
  obtain ⟨v3, e3, h⟩ := me_bd h
  refine me_sld X hX hbl hbA e3 dL_law_226 ?_
  refine me_aload_n X (i := 0) 0 rfl dL_law_227 ?_
  refine me_iload X (i := 4) 4 rfl dL_law_228 ?_
  refine me_iconst X dL_law_230 ic_4 ?_
  refine me_iadd X dL_law_231 ?_
  obtain ⟨v4, e4, h⟩ := me_bd h
  refine me_sld X hX hbl hbA e4 dL_law_232 ?_
  refine me_aload_n X (i := 0) 0 rfl dL_law_233 ?_
  refine me_iload X (i := 4) 4 rfl dL_law_234 ?_
  refine me_iconst X dL_law_236 ic_5 ?_
  refine me_iadd X dL_law_237 ?_
  obtain ⟨v5, e5, h⟩ := me_bd h
  refine me_sld X hX hbl hbA e5 dL_law_238 ?_
  obtain ⟨⟨v6, M1⟩, e6, h⟩ := me_bd h
  refine me_callVi X [.int v1, .int v2, .int v3, .int v4, .int v5] (ctX11_feed_0 (n := 425) (nt := 5) (by decide) (by decide) e6) kV_L_117 rfl rfl (Nat.le_of_ble_eq_true rfl) me_k0 (Nat.le_of_ble_eq_true rfl) (Nat.le_refl _) (Nat.le_of_ble_eq_true rfl) dL_law_239 ?_
  refine me_aload_n X (i := 2) 2 rfl dL_law_242 ?_
  refine me_aload_n X (i := 0) 0 rfl dL_law_243 ?_
  refine me_iload X (i := 4) 4 rfl dL_law_244 ?_
  refine me_iconst X dL_law_246 ic_1 ?_
  refine me_iadd X dL_law_247 ?_
  obtain ⟨v7, e7, h⟩ := me_bd h
  refine me_sld X hX hbl hbA e7 dL_law_248 ?_
  refine me_aload_n X (i := 0) 0 rfl dL_law_249 ?_
  refine me_iload X (i := 4) 4 rfl dL_law_250 ?_
  refine me_iconst X dL_law_252 ic_2 ?_
  refine me_iadd X dL_law_253 ?_
  obtain ⟨v8, e8, h⟩ := me_bd h
  refine me_sld X hX hbl hbA e8 dL_law_254 ?_
  refine me_aload_n X (i := 0) 0 rfl dL_law_255 ?_
  refine me_iload X (i := 4) 4 rfl dL_law_256 ?_
  refine me_iconst X dL_law_258 ic_3 ?_
  refine me_iadd X dL_law_259 ?_
  obtain ⟨v9, e9, h⟩ := me_bd h
  refine me_sld X hX hbl hbA e9 dL_law_260 ?_
  refine me_aload_n X (i := 0) 0 rfl dL_law_261 ?_
  refine me_iload X (i := 4) 4 rfl dL_law_262 ?_
  refine me_iconst X dL_law_264 ic_4 ?_
  refine me_iadd X dL_law_265 ?_
  obtain ⟨v10, e10, h⟩ := me_bd h
  refine me_sld X hX hbl hbA e10 dL_law_266 ?_
  refine me_aload_n X (i := 0) 0 rfl dL_law_267 ?_
  refine me_iload X (i := 4) 4 rfl dL_law_268 ?_
  refine me_iconst X dL_law_270 ic_5 ?_
  refine me_iadd X dL_law_271 ?_
  obtain ⟨v11, e11, h⟩ := me_bd h
  refine me_sld X hX hbl hbA e11 dL_law_272 ?_
  obtain ⟨⟨v12, M2⟩, e12, h⟩ := me_bd h
  refine me_callVi X [.int v7, .int v8, .int v9, .int v10, .int v11] (ctX12_feed_63 (n := 425) (nt := 5) (by decide) (by decide) e12) kV_L_121 rfl rfl (Nat.le_of_ble_eq_true rfl) me_k63 (Nat.le_of_ble_eq_true rfl) (Nat.le_refl _) (Nat.le_of_ble_eq_true rfl) dL_law_273 ?_
  refine me_icmp_eq X 2334 (by decide) dL_law_276 (fun c1 => ?_) (fun c1 => ?_)
  · have h := me_ip c1 h
    obtain rfl := me_so h
    exact me_wid (Nat.le_succ _) (Nat.le_add_right _ _) hk
  · have h := me_in c1 h
    cases h
def sg_text (xs : Nat → Int32) (Lx : Nat) (i : Int32) (M : me_M) : Option me_M :=
  ((me_sr xs Lx (i + 1)).bind fun v1 => ((hL_text M v1).bind fun (v2, M1) => ((me_sr xs Lx (i + 1)).bind fun v3 => ((mX12_text_63 M1 v3).bind fun (v4, M2) => ((mX12_thrown_63 M2).bind fun v5 => (if v5 = v2 then (if v2 = 0 then (if (lg_cmp (M2.2.2 0) (v4.toInt64)) = 0 then some M2 else none) else some M2) else none))))))
set_option maxRecDepth 100000 in
set_option maxHeartbeats 4000000 in
theorem ct_sg_text {p : Program} {l : Launch} {e : Env} {R : Room} {s : State} {m : MethodId} {args : Array Value} {below : List Frame} {meth : Method} {c : Code} {cells slots : Nat} {Q : State → Prop} {D : va_G} {cA : Nat → ClassId} {ad : Nat → Nat} {A : Nat → Prop} {tys : List (ClassId × FieldType)} (hl : l.stackTraces = false) (X : me_X p R s m args c D cA ad 425 5 425 8 cells slots 200 A cL_law RL tys) (hz : me_Z A s s.heap) {b Lx : Nat} {xs : Nat → Int32} (hX : va_X b Lx xs s s.heap) (hbl : b < s.heap.size) (hbA : ¬ A b) (hRc : cells + 1 ≤ R.cells) (hRs : slots + 6 ≤ R.slots) {i : Int32} {M M' : me_M} (h : sg_text xs Lx i M = some M') (hk : me_W p l e R s m args below meth c (cells + 1) (slots + 6) Q D cA ad 425 8 A 2334 [(0, .ref b), (1, .ref (ad 0)), (2, .ref (ad 63)), (3, .ref (ad 424)), (4, .int i)] [] M') : me_W p l e R s m args below meth c cells slots Q D cA ad 425 8 A 281 [(0, .ref b), (1, .ref (ad 0)), (2, .ref (ad 63)), (3, .ref (ad 424)), (4, .int i)] [] M := by
  have hn : 425 ≤ 425 := Nat.le_refl _
  have hnt : 5 ≤ 5 := Nat.le_refl _
  unfold sg_text at h
  refine me_aload_n X (i := 1) 1 rfl dL_law_281 ?_
  refine me_aload_n X (i := 0) 0 rfl dL_law_282 ?_
  refine me_iload X (i := 4) 4 rfl dL_law_283 ?_
  refine me_iconst X dL_law_285 ic_1 ?_
  refine me_iadd X dL_law_286 ?_
  obtain ⟨v1, e1, h⟩ := me_bd h
  refine me_sld X hX hbl hbA e1 dL_law_287 ?_
  refine me_aload_n X (i := 3) 3 rfl dL_law_288 ?_
  obtain ⟨⟨v2, M1⟩, e2, h⟩ := me_bd h
  refine me_callSH X hz hRc hRs [.ref (ad 0), .int v1, .ref (ad 424)] (chL_text hl e2) kH_122 rfl rfl (Nat.le_of_ble_eq_true rfl) (Nat.le_refl _) (Nat.le_of_ble_eq_true rfl) dL_law_289 ?_
  have X1 := me_Xup X hRc hRs
  refine me_istore X1 (i := 5) [(5, .int v2), (0, .ref b), (1, .ref (ad 0)), (2, .ref (ad 63)), (3, .ref (ad 424)), (4, .int i)] (Nat.le_of_ble_eq_true rfl) rfl dL_law_292 ?_
  refine me_aload_n X1 (i := 2) 3 rfl dL_law_294 ?_
  refine me_aload_n X1 (i := 0) 1 rfl dL_law_295 ?_
  refine me_iload X1 (i := 4) 5 rfl dL_law_296 ?_
  refine me_iconst X1 dL_law_298 ic_1 ?_
  refine me_iadd X1 dL_law_299 ?_
  obtain ⟨v3, e3, h⟩ := me_bd h
  refine me_sld X1 hX hbl hbA e3 dL_law_300 ?_
  obtain ⟨⟨v4, M2⟩, e4, h⟩ := me_bd h
  refine me_callVi X1 [.int v3] (ctX12_text_63 (n := 425) (nt := 5) (by decide) (by decide) e4) kV_L_127 rfl rfl (Nat.le_of_ble_eq_true rfl) me_k63 (Nat.le_of_ble_eq_true rfl) (Nat.le_refl _) (Nat.le_of_ble_eq_true rfl) dL_law_301 ?_
  refine me_istore X1 (i := 6) [(6, .int v4), (5, .int v2), (0, .ref b), (1, .ref (ad 0)), (2, .ref (ad 63)), (3, .ref (ad 424)), (4, .int i)] (Nat.le_of_ble_eq_true rfl) rfl dL_law_304 ?_
  refine me_aload_n X1 (i := 2) 4 rfl dL_law_306 ?_
  obtain ⟨v5, e5, h⟩ := me_bd h
  refine me_callVi X1 [] (ctX12_thrown_63 (n := 425) (nt := 5) (by decide) (by decide) e5) kV_L_128 rfl rfl (Nat.le_of_ble_eq_true rfl) me_k63 (Nat.le_of_ble_eq_true rfl) (Nat.le_refl _) (Nat.le_of_ble_eq_true rfl) dL_law_307 ?_
  refine me_iload X1 (i := 5) 1 rfl dL_law_310 ?_
  refine me_icmp_eq X1 317 (by decide) dL_law_312 (fun c1 => ?_) (fun c1 => ?_)
  · have h := me_ip c1 h
    refine me_iload X1 (i := 5) 1 rfl dL_law_317 ?_
    refine me_if_ne X1 334 (by decide) dL_law_319 (fun c2 => ?_) (fun c2 => ?_)
    · have h := me_in c2 h
      refine me_goto X1 2334 (by decide) dL_law_334 ?_
      obtain rfl := me_so h
      refine me_sub (L' := [(0, .ref b), (1, .ref (ad 0)), (2, .ref (ad 63)), (3, .ref (ad 424)), (4, .int i)]) [2, 3, 4, 5, 6] rfl ?_
      exact hk
    · have h := me_ip c2 h
      refine me_aload_n X1 (i := 3) 5 rfl dL_law_322 ?_
      refine me_iconst X1 dL_law_323 ic_0 ?_
      refine me_lald X1 (by decide) dL_law_324 ?_
      refine me_iload X1 (i := 6) 0 rfl dL_law_325 ?_
      refine me_i2l X1 dL_law_327 ?_
      refine me_lcmp X1 dL_law_328 ?_
      refine me_if_eq X1 334 (by decide) dL_law_329 (fun c3 => ?_) (fun c3 => ?_)
      · have h := me_ip c3 h
        refine me_goto X1 2334 (by decide) dL_law_334 ?_
        obtain rfl := me_so h
        refine me_sub (L' := [(0, .ref b), (1, .ref (ad 0)), (2, .ref (ad 63)), (3, .ref (ad 424)), (4, .int i)]) [2, 3, 4, 5, 6] rfl ?_
        exact hk
      · have h := me_in c3 h
        cases h
  · have h := me_in c1 h
    cases h
def sg_scheme (xs : Nat → Int32) (Lx : Nat) (i : Int32) (M : me_M) : Option me_M :=
  ((me_sr xs Lx (i + 1)).bind fun v1 => ((hL_scheme M v1).bind fun (v2, M1) => ((me_sr xs Lx (i + 1)).bind fun v3 => ((mX12_scheme_63 M1 v3).bind fun (v4, M2) => ((mX12_thrown_63 M2).bind fun v5 => (if v5 = v2 then (if v2 = 0 then (if (lg_cmp (M2.2.2 0) (v4.toInt64)) = 0 then some M2 else none) else some M2) else none))))))
set_option maxRecDepth 100000 in
set_option maxHeartbeats 4000000 in
theorem ct_sg_scheme {p : Program} {l : Launch} {e : Env} {R : Room} {s : State} {m : MethodId} {args : Array Value} {below : List Frame} {meth : Method} {c : Code} {cells slots : Nat} {Q : State → Prop} {D : va_G} {cA : Nat → ClassId} {ad : Nat → Nat} {A : Nat → Prop} {tys : List (ClassId × FieldType)} (hl : l.stackTraces = false) (X : me_X p R s m args c D cA ad 425 5 425 8 cells slots 200 A cL_law RL tys) (hz : me_Z A s s.heap) {b Lx : Nat} {xs : Nat → Int32} (hX : va_X b Lx xs s s.heap) (hbl : b < s.heap.size) (hbA : ¬ A b) (hRc : cells + 1 ≤ R.cells) (hRs : slots + 6 ≤ R.slots) {i : Int32} {M M' : me_M} (h : sg_scheme xs Lx i M = some M') (hk : me_W p l e R s m args below meth c (cells + 1) (slots + 6) Q D cA ad 425 8 A 2334 [(0, .ref b), (1, .ref (ad 0)), (2, .ref (ad 63)), (3, .ref (ad 424)), (4, .int i)] [] M') : me_W p l e R s m args below meth c cells slots Q D cA ad 425 8 A 337 [(0, .ref b), (1, .ref (ad 0)), (2, .ref (ad 63)), (3, .ref (ad 424)), (4, .int i)] [] M := by
  have hn : 425 ≤ 425 := Nat.le_refl _
  have hnt : 5 ≤ 5 := Nat.le_refl _
  unfold sg_scheme at h
  refine me_aload_n X (i := 1) 1 rfl dL_law_337 ?_
  refine me_aload_n X (i := 0) 0 rfl dL_law_338 ?_
  refine me_iload X (i := 4) 4 rfl dL_law_339 ?_
  refine me_iconst X dL_law_341 ic_1 ?_
  refine me_iadd X dL_law_342 ?_
  obtain ⟨v1, e1, h⟩ := me_bd h
  refine me_sld X hX hbl hbA e1 dL_law_343 ?_
  refine me_aload_n X (i := 3) 3 rfl dL_law_344 ?_
  obtain ⟨⟨v2, M1⟩, e2, h⟩ := me_bd h
  refine me_callSH X hz hRc hRs [.ref (ad 0), .int v1, .ref (ad 424)] (chL_scheme hl e2) kH_132 rfl rfl (Nat.le_of_ble_eq_true rfl) (Nat.le_refl _) (Nat.le_of_ble_eq_true rfl) dL_law_345 ?_
  have X1 := me_Xup X hRc hRs
  refine me_istore X1 (i := 5) [(5, .int v2), (0, .ref b), (1, .ref (ad 0)), (2, .ref (ad 63)), (3, .ref (ad 424)), (4, .int i)] (Nat.le_of_ble_eq_true rfl) rfl dL_law_348 ?_
  refine me_aload_n X1 (i := 2) 3 rfl dL_law_350 ?_
  refine me_aload_n X1 (i := 0) 1 rfl dL_law_351 ?_
  refine me_iload X1 (i := 4) 5 rfl dL_law_352 ?_
  refine me_iconst X1 dL_law_354 ic_1 ?_
  refine me_iadd X1 dL_law_355 ?_
  obtain ⟨v3, e3, h⟩ := me_bd h
  refine me_sld X1 hX hbl hbA e3 dL_law_356 ?_
  obtain ⟨⟨v4, M2⟩, e4, h⟩ := me_bd h
  refine me_callVi X1 [.int v3] (ctX12_scheme_63 (n := 425) (nt := 5) (by decide) (by decide) e4) kV_L_134 rfl rfl (Nat.le_of_ble_eq_true rfl) me_k63 (Nat.le_of_ble_eq_true rfl) (Nat.le_refl _) (Nat.le_of_ble_eq_true rfl) dL_law_357 ?_
  refine me_istore X1 (i := 6) [(6, .int v4), (5, .int v2), (0, .ref b), (1, .ref (ad 0)), (2, .ref (ad 63)), (3, .ref (ad 424)), (4, .int i)] (Nat.le_of_ble_eq_true rfl) rfl dL_law_360 ?_
  refine me_aload_n X1 (i := 2) 4 rfl dL_law_362 ?_
  obtain ⟨v5, e5, h⟩ := me_bd h
  refine me_callVi X1 [] (ctX12_thrown_63 (n := 425) (nt := 5) (by decide) (by decide) e5) kV_L_128 rfl rfl (Nat.le_of_ble_eq_true rfl) me_k63 (Nat.le_of_ble_eq_true rfl) (Nat.le_refl _) (Nat.le_of_ble_eq_true rfl) dL_law_363 ?_
  refine me_iload X1 (i := 5) 1 rfl dL_law_366 ?_
  refine me_icmp_eq X1 373 (by decide) dL_law_368 (fun c1 => ?_) (fun c1 => ?_)
  · have h := me_ip c1 h
    refine me_iload X1 (i := 5) 1 rfl dL_law_373 ?_
    refine me_if_ne X1 390 (by decide) dL_law_375 (fun c2 => ?_) (fun c2 => ?_)
    · have h := me_in c2 h
      refine me_goto X1 2334 (by decide) dL_law_390 ?_
      obtain rfl := me_so h
      refine me_sub (L' := [(0, .ref b), (1, .ref (ad 0)), (2, .ref (ad 63)), (3, .ref (ad 424)), (4, .int i)]) [2, 3, 4, 5, 6] rfl ?_
      exact hk
    · have h := me_ip c2 h
      refine me_aload_n X1 (i := 3) 5 rfl dL_law_378 ?_
      refine me_iconst X1 dL_law_379 ic_0 ?_
      refine me_lald X1 (by decide) dL_law_380 ?_
      refine me_iload X1 (i := 6) 0 rfl dL_law_381 ?_
      refine me_i2l X1 dL_law_383 ?_
      refine me_lcmp X1 dL_law_384 ?_
      refine me_if_eq X1 390 (by decide) dL_law_385 (fun c3 => ?_) (fun c3 => ?_)
      · have h := me_ip c3 h
        refine me_goto X1 2334 (by decide) dL_law_390 ?_
        obtain rfl := me_so h
        refine me_sub (L' := [(0, .ref b), (1, .ref (ad 0)), (2, .ref (ad 63)), (3, .ref (ad 424)), (4, .int i)]) [2, 3, 4, 5, 6] rfl ?_
        exact hk
      · have h := me_in c3 h
        cases h
  · have h := me_in c1 h
    cases h
def sg_fault (xs : Nat → Int32) (Lx : Nat) (i : Int32) (M : me_M) : Option me_M :=
  ((mX11_fault_0 M).bind fun v1 => ((mX12_fault_63 M).bind fun (v2, M1) => (if v1 = v2 then some M1 else none)))
set_option maxRecDepth 100000 in
set_option maxHeartbeats 4000000 in
theorem ct_sg_fault {p : Program} {l : Launch} {e : Env} {R : Room} {s : State} {m : MethodId} {args : Array Value} {below : List Frame} {meth : Method} {c : Code} {cells slots : Nat} {Q : State → Prop} {D : va_G} {cA : Nat → ClassId} {ad : Nat → Nat} {A : Nat → Prop} {tys : List (ClassId × FieldType)} (hl : l.stackTraces = false) (X : me_X p R s m args c D cA ad 425 5 425 8 cells slots 200 A cL_law RL tys) (hz : me_Z A s s.heap) {b Lx : Nat} {xs : Nat → Int32} (hX : va_X b Lx xs s s.heap) (hbl : b < s.heap.size) (hbA : ¬ A b) (hRc : cells + 1 ≤ R.cells) (hRs : slots + 6 ≤ R.slots) {i : Int32} {M M' : me_M} (h : sg_fault xs Lx i M = some M') (hk : me_W p l e R s m args below meth c (cells + 1) (slots + 6) Q D cA ad 425 8 A 2334 [(0, .ref b), (1, .ref (ad 0)), (2, .ref (ad 63)), (3, .ref (ad 424)), (4, .int i)] [] M') : me_W p l e R s m args below meth c cells slots Q D cA ad 425 8 A 393 [(0, .ref b), (1, .ref (ad 0)), (2, .ref (ad 63)), (3, .ref (ad 424)), (4, .int i)] [] M := by
  have hn : 425 ≤ 425 := Nat.le_refl _
  have hnt : 5 ≤ 5 := Nat.le_refl _
  unfold sg_fault at h
  refine me_aload_n X (i := 1) 1 rfl dL_law_393 ?_
  obtain ⟨v1, e1, h⟩ := me_bd h
  refine me_callVi X [] (ctX11_fault_0 (n := 425) (nt := 5) (by decide) (by decide) e1) kV_L_135 rfl rfl (Nat.le_of_ble_eq_true rfl) me_k0 (Nat.le_of_ble_eq_true rfl) (Nat.le_refl _) (Nat.le_of_ble_eq_true rfl) dL_law_394 ?_
  refine me_aload_n X (i := 2) 2 rfl dL_law_397 ?_
  obtain ⟨⟨v2, M1⟩, e2, h⟩ := me_bd h
  refine me_callVi X [] (ctX12_fault_63 (n := 425) (nt := 5) (by decide) (by decide) e2) kV_L_138 rfl rfl (Nat.le_of_ble_eq_true rfl) me_k63 (Nat.le_of_ble_eq_true rfl) (Nat.le_refl _) (Nat.le_of_ble_eq_true rfl) dL_law_398 ?_
  refine me_icmp_eq X 2334 (by decide) dL_law_401 (fun c1 => ?_) (fun c1 => ?_)
  · have h := me_ip c1 h
    obtain rfl := me_so h
    exact me_wid (Nat.le_succ _) (Nat.le_add_right _ _) hk
  · have h := me_in c1 h
    cases h
def sg_step (xs : Nat → Int32) (Lx : Nat) (i : Int32) (M : me_M) : Option me_M :=
  ((me_sr xs Lx (i + 1)).bind fun v1 => ((hL_step M v1).bind fun (v2, M1) => ((me_sr xs Lx (i + 1)).bind fun v3 => ((mX12_step_63 M1 v3).bind fun (v4, M2) => ((mX12_thrown_63 M2).bind fun v5 => (if v5 = v2 then (if v2 = 0 then (if (lg_cmp (M2.2.2 0) (v4.toInt64)) = 0 then some M2 else none) else some M2) else none))))))
set_option maxRecDepth 100000 in
set_option maxHeartbeats 4000000 in
theorem ct_sg_step {p : Program} {l : Launch} {e : Env} {R : Room} {s : State} {m : MethodId} {args : Array Value} {below : List Frame} {meth : Method} {c : Code} {cells slots : Nat} {Q : State → Prop} {D : va_G} {cA : Nat → ClassId} {ad : Nat → Nat} {A : Nat → Prop} {tys : List (ClassId × FieldType)} (hl : l.stackTraces = false) (X : me_X p R s m args c D cA ad 425 5 425 8 cells slots 200 A cL_law RL tys) (hz : me_Z A s s.heap) {b Lx : Nat} {xs : Nat → Int32} (hX : va_X b Lx xs s s.heap) (hbl : b < s.heap.size) (hbA : ¬ A b) (hRc : cells + 1 ≤ R.cells) (hRs : slots + 6 ≤ R.slots) {i : Int32} {M M' : me_M} (h : sg_step xs Lx i M = some M') (hk : me_W p l e R s m args below meth c (cells + 1) (slots + 6) Q D cA ad 425 8 A 2334 [(0, .ref b), (1, .ref (ad 0)), (2, .ref (ad 63)), (3, .ref (ad 424)), (4, .int i)] [] M') : me_W p l e R s m args below meth c cells slots Q D cA ad 425 8 A 406 [(0, .ref b), (1, .ref (ad 0)), (2, .ref (ad 63)), (3, .ref (ad 424)), (4, .int i)] [] M := by
  have hn : 425 ≤ 425 := Nat.le_refl _
  have hnt : 5 ≤ 5 := Nat.le_refl _
  unfold sg_step at h
  refine me_aload_n X (i := 1) 1 rfl dL_law_406 ?_
  refine me_aload_n X (i := 0) 0 rfl dL_law_407 ?_
  refine me_iload X (i := 4) 4 rfl dL_law_408 ?_
  refine me_iconst X dL_law_410 ic_1 ?_
  refine me_iadd X dL_law_411 ?_
  obtain ⟨v1, e1, h⟩ := me_bd h
  refine me_sld X hX hbl hbA e1 dL_law_412 ?_
  refine me_aload_n X (i := 3) 3 rfl dL_law_413 ?_
  obtain ⟨⟨v2, M1⟩, e2, h⟩ := me_bd h
  refine me_callSH X hz hRc hRs [.ref (ad 0), .int v1, .ref (ad 424)] (chL_step hl e2) kH_139 rfl rfl (Nat.le_of_ble_eq_true rfl) (Nat.le_refl _) (Nat.le_of_ble_eq_true rfl) dL_law_414 ?_
  have X1 := me_Xup X hRc hRs
  refine me_istore X1 (i := 5) [(5, .int v2), (0, .ref b), (1, .ref (ad 0)), (2, .ref (ad 63)), (3, .ref (ad 424)), (4, .int i)] (Nat.le_of_ble_eq_true rfl) rfl dL_law_417 ?_
  refine me_aload_n X1 (i := 2) 3 rfl dL_law_419 ?_
  refine me_aload_n X1 (i := 0) 1 rfl dL_law_420 ?_
  refine me_iload X1 (i := 4) 5 rfl dL_law_421 ?_
  refine me_iconst X1 dL_law_423 ic_1 ?_
  refine me_iadd X1 dL_law_424 ?_
  obtain ⟨v3, e3, h⟩ := me_bd h
  refine me_sld X1 hX hbl hbA e3 dL_law_425 ?_
  obtain ⟨⟨v4, M2⟩, e4, h⟩ := me_bd h
  refine me_callVi X1 [.int v3] (ctX12_step_63 (n := 425) (nt := 5) (by decide) (by decide) e4) kV_L_141 rfl rfl (Nat.le_of_ble_eq_true rfl) me_k63 (Nat.le_of_ble_eq_true rfl) (Nat.le_refl _) (Nat.le_of_ble_eq_true rfl) dL_law_426 ?_
  refine me_istore X1 (i := 6) [(6, .int v4), (5, .int v2), (0, .ref b), (1, .ref (ad 0)), (2, .ref (ad 63)), (3, .ref (ad 424)), (4, .int i)] (Nat.le_of_ble_eq_true rfl) rfl dL_law_429 ?_
  refine me_aload_n X1 (i := 2) 4 rfl dL_law_431 ?_
  obtain ⟨v5, e5, h⟩ := me_bd h
  refine me_callVi X1 [] (ctX12_thrown_63 (n := 425) (nt := 5) (by decide) (by decide) e5) kV_L_128 rfl rfl (Nat.le_of_ble_eq_true rfl) me_k63 (Nat.le_of_ble_eq_true rfl) (Nat.le_refl _) (Nat.le_of_ble_eq_true rfl) dL_law_432 ?_
  refine me_iload X1 (i := 5) 1 rfl dL_law_435 ?_
  refine me_icmp_eq X1 442 (by decide) dL_law_437 (fun c1 => ?_) (fun c1 => ?_)
  · have h := me_ip c1 h
    refine me_iload X1 (i := 5) 1 rfl dL_law_442 ?_
    refine me_if_ne X1 459 (by decide) dL_law_444 (fun c2 => ?_) (fun c2 => ?_)
    · have h := me_in c2 h
      refine me_goto X1 2334 (by decide) dL_law_459 ?_
      obtain rfl := me_so h
      refine me_sub (L' := [(0, .ref b), (1, .ref (ad 0)), (2, .ref (ad 63)), (3, .ref (ad 424)), (4, .int i)]) [2, 3, 4, 5, 6] rfl ?_
      exact hk
    · have h := me_ip c2 h
      refine me_aload_n X1 (i := 3) 5 rfl dL_law_447 ?_
      refine me_iconst X1 dL_law_448 ic_0 ?_
      refine me_lald X1 (by decide) dL_law_449 ?_
      refine me_iload X1 (i := 6) 0 rfl dL_law_450 ?_
      refine me_i2l X1 dL_law_452 ?_
      refine me_lcmp X1 dL_law_453 ?_
      refine me_if_eq X1 459 (by decide) dL_law_454 (fun c3 => ?_) (fun c3 => ?_)
      · have h := me_ip c3 h
        refine me_goto X1 2334 (by decide) dL_law_459 ?_
        obtain rfl := me_so h
        refine me_sub (L' := [(0, .ref b), (1, .ref (ad 0)), (2, .ref (ad 63)), (3, .ref (ad 424)), (4, .int i)]) [2, 3, 4, 5, 6] rfl ?_
        exact hk
      · have h := me_in c3 h
        cases h
  · have h := me_in c1 h
    cases h
def sg_grow (xs : Nat → Int32) (Lx : Nat) (i : Int32) (M : me_M) : Option me_M :=
  ((me_sr xs Lx (i + 1)).bind fun v1 => ((me_sr xs Lx (i + 2)).bind fun v2 => ((hL_grow M v1 v2).bind fun (v3, M1) => ((me_sr xs Lx (i + 1)).bind fun v4 => ((me_sr xs Lx (i + 2)).bind fun v5 => ((mX12_grow_63 M1 v4 v5).bind fun (v6, M2) => ((mX12_thrown_63 M2).bind fun v7 => (if v7 = v3 then (if v3 = 0 then (if (lg_cmp (M2.2.2 0) (v6.toInt64)) = 0 then some M2 else none) else some M2) else none))))))))
set_option maxRecDepth 100000 in
set_option maxHeartbeats 4000000 in
theorem ct_sg_grow {p : Program} {l : Launch} {e : Env} {R : Room} {s : State} {m : MethodId} {args : Array Value} {below : List Frame} {meth : Method} {c : Code} {cells slots : Nat} {Q : State → Prop} {D : va_G} {cA : Nat → ClassId} {ad : Nat → Nat} {A : Nat → Prop} {tys : List (ClassId × FieldType)} (hl : l.stackTraces = false) (X : me_X p R s m args c D cA ad 425 5 425 8 cells slots 200 A cL_law RL tys) (hz : me_Z A s s.heap) {b Lx : Nat} {xs : Nat → Int32} (hX : va_X b Lx xs s s.heap) (hbl : b < s.heap.size) (hbA : ¬ A b) (hRc : cells + 1 ≤ R.cells) (hRs : slots + 6 ≤ R.slots) {i : Int32} {M M' : me_M} (h : sg_grow xs Lx i M = some M') (hk : me_W p l e R s m args below meth c (cells + 1) (slots + 6) Q D cA ad 425 8 A 2334 [(0, .ref b), (1, .ref (ad 0)), (2, .ref (ad 63)), (3, .ref (ad 424)), (4, .int i)] [] M') : me_W p l e R s m args below meth c cells slots Q D cA ad 425 8 A 462 [(0, .ref b), (1, .ref (ad 0)), (2, .ref (ad 63)), (3, .ref (ad 424)), (4, .int i)] [] M := by
  have hn : 425 ≤ 425 := Nat.le_refl _
  have hnt : 5 ≤ 5 := Nat.le_refl _
  unfold sg_grow at h
  refine me_aload_n X (i := 1) 1 rfl dL_law_462 ?_
  refine me_aload_n X (i := 0) 0 rfl dL_law_463 ?_
  refine me_iload X (i := 4) 4 rfl dL_law_464 ?_
  refine me_iconst X dL_law_466 ic_1 ?_
  refine me_iadd X dL_law_467 ?_
  obtain ⟨v1, e1, h⟩ := me_bd h
  refine me_sld X hX hbl hbA e1 dL_law_468 ?_
  refine me_aload_n X (i := 0) 0 rfl dL_law_469 ?_
  refine me_iload X (i := 4) 4 rfl dL_law_470 ?_
  refine me_iconst X dL_law_472 ic_2 ?_
  refine me_iadd X dL_law_473 ?_
  obtain ⟨v2, e2, h⟩ := me_bd h
  refine me_sld X hX hbl hbA e2 dL_law_474 ?_
  refine me_aload_n X (i := 3) 3 rfl dL_law_475 ?_
  obtain ⟨⟨v3, M1⟩, e3, h⟩ := me_bd h
  refine me_callSH X hz hRc hRs [.ref (ad 0), .int v1, .int v2, .ref (ad 424)] (chL_grow hl e3) kH_142 rfl rfl (Nat.le_of_ble_eq_true rfl) (Nat.le_refl _) (Nat.le_of_ble_eq_true rfl) dL_law_476 ?_
  have X1 := me_Xup X hRc hRs
  refine me_istore X1 (i := 5) [(5, .int v3), (0, .ref b), (1, .ref (ad 0)), (2, .ref (ad 63)), (3, .ref (ad 424)), (4, .int i)] (Nat.le_of_ble_eq_true rfl) rfl dL_law_479 ?_
  refine me_aload_n X1 (i := 2) 3 rfl dL_law_481 ?_
  refine me_aload_n X1 (i := 0) 1 rfl dL_law_482 ?_
  refine me_iload X1 (i := 4) 5 rfl dL_law_483 ?_
  refine me_iconst X1 dL_law_485 ic_1 ?_
  refine me_iadd X1 dL_law_486 ?_
  obtain ⟨v4, e4, h⟩ := me_bd h
  refine me_sld X1 hX hbl hbA e4 dL_law_487 ?_
  refine me_aload_n X1 (i := 0) 1 rfl dL_law_488 ?_
  refine me_iload X1 (i := 4) 5 rfl dL_law_489 ?_
  refine me_iconst X1 dL_law_491 ic_2 ?_
  refine me_iadd X1 dL_law_492 ?_
  obtain ⟨v5, e5, h⟩ := me_bd h
  refine me_sld X1 hX hbl hbA e5 dL_law_493 ?_
  obtain ⟨⟨v6, M2⟩, e6, h⟩ := me_bd h
  refine me_callVi X1 [.int v4, .int v5] (ctX12_grow_63 (n := 425) (nt := 5) (by decide) (by decide) e6) kV_L_145 rfl rfl (Nat.le_of_ble_eq_true rfl) me_k63 (Nat.le_of_ble_eq_true rfl) (Nat.le_refl _) (Nat.le_of_ble_eq_true rfl) dL_law_494 ?_
  refine me_istore X1 (i := 6) [(6, .int v6), (5, .int v3), (0, .ref b), (1, .ref (ad 0)), (2, .ref (ad 63)), (3, .ref (ad 424)), (4, .int i)] (Nat.le_of_ble_eq_true rfl) rfl dL_law_497 ?_
  refine me_aload_n X1 (i := 2) 4 rfl dL_law_499 ?_
  obtain ⟨v7, e7, h⟩ := me_bd h
  refine me_callVi X1 [] (ctX12_thrown_63 (n := 425) (nt := 5) (by decide) (by decide) e7) kV_L_128 rfl rfl (Nat.le_of_ble_eq_true rfl) me_k63 (Nat.le_of_ble_eq_true rfl) (Nat.le_refl _) (Nat.le_of_ble_eq_true rfl) dL_law_500 ?_
  refine me_iload X1 (i := 5) 1 rfl dL_law_503 ?_
  refine me_icmp_eq X1 510 (by decide) dL_law_505 (fun c1 => ?_) (fun c1 => ?_)
  · have h := me_ip c1 h
    refine me_iload X1 (i := 5) 1 rfl dL_law_510 ?_
    refine me_if_ne X1 527 (by decide) dL_law_512 (fun c2 => ?_) (fun c2 => ?_)
    · have h := me_in c2 h
      refine me_goto X1 2334 (by decide) dL_law_527 ?_
      obtain rfl := me_so h
      refine me_sub (L' := [(0, .ref b), (1, .ref (ad 0)), (2, .ref (ad 63)), (3, .ref (ad 424)), (4, .int i)]) [2, 3, 4, 5, 6] rfl ?_
      exact hk
    · have h := me_ip c2 h
      refine me_aload_n X1 (i := 3) 5 rfl dL_law_515 ?_
      refine me_iconst X1 dL_law_516 ic_0 ?_
      refine me_lald X1 (by decide) dL_law_517 ?_
      refine me_iload X1 (i := 6) 0 rfl dL_law_518 ?_
      refine me_i2l X1 dL_law_520 ?_
      refine me_lcmp X1 dL_law_521 ?_
      refine me_if_eq X1 527 (by decide) dL_law_522 (fun c3 => ?_) (fun c3 => ?_)
      · have h := me_ip c3 h
        refine me_goto X1 2334 (by decide) dL_law_527 ?_
        obtain rfl := me_so h
        refine me_sub (L' := [(0, .ref b), (1, .ref (ad 0)), (2, .ref (ad 63)), (3, .ref (ad 424)), (4, .int i)]) [2, 3, 4, 5, 6] rfl ?_
        exact hk
      · have h := me_in c3 h
        cases h
  · have h := me_in c1 h
    cases h
def sg_shrink (xs : Nat → Int32) (Lx : Nat) (i : Int32) (M : me_M) : Option me_M :=
  ((mX11_shrink_0 M).bind fun (v1, M1) => ((mX12_shrink_63 M1).bind fun (v2, M2) => (if v1 = v2 then some M2 else none)))
set_option maxRecDepth 100000 in
set_option maxHeartbeats 4000000 in
theorem ct_sg_shrink {p : Program} {l : Launch} {e : Env} {R : Room} {s : State} {m : MethodId} {args : Array Value} {below : List Frame} {meth : Method} {c : Code} {cells slots : Nat} {Q : State → Prop} {D : va_G} {cA : Nat → ClassId} {ad : Nat → Nat} {A : Nat → Prop} {tys : List (ClassId × FieldType)} (hl : l.stackTraces = false) (X : me_X p R s m args c D cA ad 425 5 425 8 cells slots 200 A cL_law RL tys) (hz : me_Z A s s.heap) {b Lx : Nat} {xs : Nat → Int32} (hX : va_X b Lx xs s s.heap) (hbl : b < s.heap.size) (hbA : ¬ A b) (hRc : cells + 1 ≤ R.cells) (hRs : slots + 6 ≤ R.slots) {i : Int32} {M M' : me_M} (h : sg_shrink xs Lx i M = some M') (hk : me_W p l e R s m args below meth c (cells + 1) (slots + 6) Q D cA ad 425 8 A 2334 [(0, .ref b), (1, .ref (ad 0)), (2, .ref (ad 63)), (3, .ref (ad 424)), (4, .int i)] [] M') : me_W p l e R s m args below meth c cells slots Q D cA ad 425 8 A 530 [(0, .ref b), (1, .ref (ad 0)), (2, .ref (ad 63)), (3, .ref (ad 424)), (4, .int i)] [] M := by
  have hn : 425 ≤ 425 := Nat.le_refl _
  have hnt : 5 ≤ 5 := Nat.le_refl _
  unfold sg_shrink at h
  refine me_aload_n X (i := 1) 1 rfl dL_law_530 ?_
  obtain ⟨⟨v1, M1⟩, e1, h⟩ := me_bd h
  refine me_callVi X [] (ctX11_shrink_0 (n := 425) (nt := 5) (by decide) (by decide) e1) kV_L_146 rfl rfl (Nat.le_of_ble_eq_true rfl) me_k0 (Nat.le_of_ble_eq_true rfl) (Nat.le_refl _) (Nat.le_of_ble_eq_true rfl) dL_law_531 ?_
  refine me_aload_n X (i := 2) 2 rfl dL_law_534 ?_
  obtain ⟨⟨v2, M2⟩, e2, h⟩ := me_bd h
  refine me_callVi X [] (ctX12_shrink_63 (n := 425) (nt := 5) (by decide) (by decide) e2) kV_L_149 rfl rfl (Nat.le_of_ble_eq_true rfl) me_k63 (Nat.le_of_ble_eq_true rfl) (Nat.le_refl _) (Nat.le_of_ble_eq_true rfl) dL_law_535 ?_
  refine me_icmp_eq X 2334 (by decide) dL_law_538 (fun c1 => ?_) (fun c1 => ?_)
  · have h := me_ip c1 h
    obtain rfl := me_so h
    exact me_wid (Nat.le_succ _) (Nat.le_add_right _ _) hk
  · have h := me_in c1 h
    cases h
def sg_clear (xs : Nat → Int32) (Lx : Nat) (i : Int32) (M : me_M) : Option me_M :=
  ((mX11_clear_0 M).bind fun (v1, M1) => ((mX12_clear_63 M1).bind fun (v2, M2) => (if v1 = v2 then some M2 else none)))
set_option maxRecDepth 100000 in
set_option maxHeartbeats 4000000 in
theorem ct_sg_clear {p : Program} {l : Launch} {e : Env} {R : Room} {s : State} {m : MethodId} {args : Array Value} {below : List Frame} {meth : Method} {c : Code} {cells slots : Nat} {Q : State → Prop} {D : va_G} {cA : Nat → ClassId} {ad : Nat → Nat} {A : Nat → Prop} {tys : List (ClassId × FieldType)} (hl : l.stackTraces = false) (X : me_X p R s m args c D cA ad 425 5 425 8 cells slots 200 A cL_law RL tys) (hz : me_Z A s s.heap) {b Lx : Nat} {xs : Nat → Int32} (hX : va_X b Lx xs s s.heap) (hbl : b < s.heap.size) (hbA : ¬ A b) (hRc : cells + 1 ≤ R.cells) (hRs : slots + 6 ≤ R.slots) {i : Int32} {M M' : me_M} (h : sg_clear xs Lx i M = some M') (hk : me_W p l e R s m args below meth c (cells + 1) (slots + 6) Q D cA ad 425 8 A 2334 [(0, .ref b), (1, .ref (ad 0)), (2, .ref (ad 63)), (3, .ref (ad 424)), (4, .int i)] [] M') : me_W p l e R s m args below meth c cells slots Q D cA ad 425 8 A 543 [(0, .ref b), (1, .ref (ad 0)), (2, .ref (ad 63)), (3, .ref (ad 424)), (4, .int i)] [] M := by
  have hn : 425 ≤ 425 := Nat.le_refl _
  have hnt : 5 ≤ 5 := Nat.le_refl _
  unfold sg_clear at h
  refine me_aload_n X (i := 1) 1 rfl dL_law_543 ?_
  obtain ⟨⟨v1, M1⟩, e1, h⟩ := me_bd h
  refine me_callVi X [] (ctX11_clear_0 (n := 425) (nt := 5) (by decide) (by decide) e1) kV_L_150 rfl rfl (Nat.le_of_ble_eq_true rfl) me_k0 (Nat.le_of_ble_eq_true rfl) (Nat.le_refl _) (Nat.le_of_ble_eq_true rfl) dL_law_544 ?_
  refine me_aload_n X (i := 2) 2 rfl dL_law_547 ?_
  obtain ⟨⟨v2, M2⟩, e2, h⟩ := me_bd h
  refine me_callVi X [] (ctX12_clear_63 (n := 425) (nt := 5) (by decide) (by decide) e2) kV_L_153 rfl rfl (Nat.le_of_ble_eq_true rfl) me_k63 (Nat.le_of_ble_eq_true rfl) (Nat.le_refl _) (Nat.le_of_ble_eq_true rfl) dL_law_548 ?_
  refine me_icmp_eq X 2334 (by decide) dL_law_551 (fun c1 => ?_) (fun c1 => ?_)
  · have h := me_ip c1 h
    obtain rfl := me_so h
    exact me_wid (Nat.le_succ _) (Nat.le_add_right _ _) hk
  · have h := me_in c1 h
    cases h
def sg_told (xs : Nat → Int32) (Lx : Nat) (i : Int32) (M : me_M) : Option me_M :=
  ((me_sr xs Lx (i + 1)).bind fun v1 => ((hL_told M v1).bind fun (v2, M1) => ((me_sr xs Lx (i + 1)).bind fun v3 => ((mX12_told_63 M1 v3).bind fun (v4, M2) => ((mX12_thrown_63 M2).bind fun v5 => (if v5 = v2 then (if v2 = 0 then (if (lg_cmp (M2.2.2 0) (v4.toInt64)) = 0 then some M2 else none) else some M2) else none))))))
set_option maxRecDepth 100000 in
set_option maxHeartbeats 4000000 in
theorem ct_sg_told {p : Program} {l : Launch} {e : Env} {R : Room} {s : State} {m : MethodId} {args : Array Value} {below : List Frame} {meth : Method} {c : Code} {cells slots : Nat} {Q : State → Prop} {D : va_G} {cA : Nat → ClassId} {ad : Nat → Nat} {A : Nat → Prop} {tys : List (ClassId × FieldType)} (hl : l.stackTraces = false) (X : me_X p R s m args c D cA ad 425 5 425 8 cells slots 200 A cL_law RL tys) (hz : me_Z A s s.heap) {b Lx : Nat} {xs : Nat → Int32} (hX : va_X b Lx xs s s.heap) (hbl : b < s.heap.size) (hbA : ¬ A b) (hRc : cells + 1 ≤ R.cells) (hRs : slots + 6 ≤ R.slots) {i : Int32} {M M' : me_M} (h : sg_told xs Lx i M = some M') (hk : me_W p l e R s m args below meth c (cells + 1) (slots + 6) Q D cA ad 425 8 A 2334 [(0, .ref b), (1, .ref (ad 0)), (2, .ref (ad 63)), (3, .ref (ad 424)), (4, .int i)] [] M') : me_W p l e R s m args below meth c cells slots Q D cA ad 425 8 A 556 [(0, .ref b), (1, .ref (ad 0)), (2, .ref (ad 63)), (3, .ref (ad 424)), (4, .int i)] [] M := by
  have hn : 425 ≤ 425 := Nat.le_refl _
  have hnt : 5 ≤ 5 := Nat.le_refl _
  unfold sg_told at h
  refine me_aload_n X (i := 1) 1 rfl dL_law_556 ?_
  refine me_aload_n X (i := 0) 0 rfl dL_law_557 ?_
  refine me_iload X (i := 4) 4 rfl dL_law_558 ?_
  refine me_iconst X dL_law_560 ic_1 ?_
  refine me_iadd X dL_law_561 ?_
  obtain ⟨v1, e1, h⟩ := me_bd h
  refine me_sld X hX hbl hbA e1 dL_law_562 ?_
  refine me_aload_n X (i := 3) 3 rfl dL_law_563 ?_
  obtain ⟨⟨v2, M1⟩, e2, h⟩ := me_bd h
  refine me_callSH X hz hRc hRs [.ref (ad 0), .int v1, .ref (ad 424)] (chL_told hl e2) kH_154 rfl rfl (Nat.le_of_ble_eq_true rfl) (Nat.le_refl _) (Nat.le_of_ble_eq_true rfl) dL_law_564 ?_
  have X1 := me_Xup X hRc hRs
  refine me_istore X1 (i := 5) [(5, .int v2), (0, .ref b), (1, .ref (ad 0)), (2, .ref (ad 63)), (3, .ref (ad 424)), (4, .int i)] (Nat.le_of_ble_eq_true rfl) rfl dL_law_567 ?_
  refine me_aload_n X1 (i := 2) 3 rfl dL_law_569 ?_
  refine me_aload_n X1 (i := 0) 1 rfl dL_law_570 ?_
  refine me_iload X1 (i := 4) 5 rfl dL_law_571 ?_
  refine me_iconst X1 dL_law_573 ic_1 ?_
  refine me_iadd X1 dL_law_574 ?_
  obtain ⟨v3, e3, h⟩ := me_bd h
  refine me_sld X1 hX hbl hbA e3 dL_law_575 ?_
  obtain ⟨⟨v4, M2⟩, e4, h⟩ := me_bd h
  refine me_callVi X1 [.int v3] (ctX12_told_63 (n := 425) (nt := 5) (by decide) (by decide) e4) kV_L_156 rfl rfl (Nat.le_of_ble_eq_true rfl) me_k63 (Nat.le_of_ble_eq_true rfl) (Nat.le_refl _) (Nat.le_of_ble_eq_true rfl) dL_law_576 ?_
  refine me_istore X1 (i := 6) [(6, .int v4), (5, .int v2), (0, .ref b), (1, .ref (ad 0)), (2, .ref (ad 63)), (3, .ref (ad 424)), (4, .int i)] (Nat.le_of_ble_eq_true rfl) rfl dL_law_579 ?_
  refine me_aload_n X1 (i := 2) 4 rfl dL_law_581 ?_
  obtain ⟨v5, e5, h⟩ := me_bd h
  refine me_callVi X1 [] (ctX12_thrown_63 (n := 425) (nt := 5) (by decide) (by decide) e5) kV_L_128 rfl rfl (Nat.le_of_ble_eq_true rfl) me_k63 (Nat.le_of_ble_eq_true rfl) (Nat.le_refl _) (Nat.le_of_ble_eq_true rfl) dL_law_582 ?_
  refine me_iload X1 (i := 5) 1 rfl dL_law_585 ?_
  refine me_icmp_eq X1 592 (by decide) dL_law_587 (fun c1 => ?_) (fun c1 => ?_)
  · have h := me_ip c1 h
    refine me_iload X1 (i := 5) 1 rfl dL_law_592 ?_
    refine me_if_ne X1 609 (by decide) dL_law_594 (fun c2 => ?_) (fun c2 => ?_)
    · have h := me_in c2 h
      refine me_goto X1 2334 (by decide) dL_law_609 ?_
      obtain rfl := me_so h
      refine me_sub (L' := [(0, .ref b), (1, .ref (ad 0)), (2, .ref (ad 63)), (3, .ref (ad 424)), (4, .int i)]) [2, 3, 4, 5, 6] rfl ?_
      exact hk
    · have h := me_ip c2 h
      refine me_aload_n X1 (i := 3) 5 rfl dL_law_597 ?_
      refine me_iconst X1 dL_law_598 ic_0 ?_
      refine me_lald X1 (by decide) dL_law_599 ?_
      refine me_iload X1 (i := 6) 0 rfl dL_law_600 ?_
      refine me_i2l X1 dL_law_602 ?_
      refine me_lcmp X1 dL_law_603 ?_
      refine me_if_eq X1 609 (by decide) dL_law_604 (fun c3 => ?_) (fun c3 => ?_)
      · have h := me_ip c3 h
        refine me_goto X1 2334 (by decide) dL_law_609 ?_
        obtain rfl := me_so h
        refine me_sub (L' := [(0, .ref b), (1, .ref (ad 0)), (2, .ref (ad 63)), (3, .ref (ad 424)), (4, .int i)]) [2, 3, 4, 5, 6] rfl ?_
        exact hk
      · have h := me_in c3 h
        cases h
  · have h := me_in c1 h
    cases h
def sg_sign (xs : Nat → Int32) (Lx : Nat) (i : Int32) (M : me_M) : Option me_M :=
  ((me_sr xs Lx (i + 1)).bind fun v1 => ((hL_sign M v1).bind fun (v2, M1) => ((me_sr xs Lx (i + 1)).bind fun v3 => ((mX12_sign_63 M1 v3).bind fun (v4, M2) => ((mX12_thrown_63 M2).bind fun v5 => (if v5 = v2 then (if v2 = 0 then (if (lg_cmp (M2.2.2 0) (v4.toInt64)) = 0 then some M2 else none) else some M2) else none))))))
set_option maxRecDepth 100000 in
set_option maxHeartbeats 4000000 in
theorem ct_sg_sign {p : Program} {l : Launch} {e : Env} {R : Room} {s : State} {m : MethodId} {args : Array Value} {below : List Frame} {meth : Method} {c : Code} {cells slots : Nat} {Q : State → Prop} {D : va_G} {cA : Nat → ClassId} {ad : Nat → Nat} {A : Nat → Prop} {tys : List (ClassId × FieldType)} (hl : l.stackTraces = false) (X : me_X p R s m args c D cA ad 425 5 425 8 cells slots 200 A cL_law RL tys) (hz : me_Z A s s.heap) {b Lx : Nat} {xs : Nat → Int32} (hX : va_X b Lx xs s s.heap) (hbl : b < s.heap.size) (hbA : ¬ A b) (hRc : cells + 1 ≤ R.cells) (hRs : slots + 6 ≤ R.slots) {i : Int32} {M M' : me_M} (h : sg_sign xs Lx i M = some M') (hk : me_W p l e R s m args below meth c (cells + 1) (slots + 6) Q D cA ad 425 8 A 2334 [(0, .ref b), (1, .ref (ad 0)), (2, .ref (ad 63)), (3, .ref (ad 424)), (4, .int i)] [] M') : me_W p l e R s m args below meth c cells slots Q D cA ad 425 8 A 612 [(0, .ref b), (1, .ref (ad 0)), (2, .ref (ad 63)), (3, .ref (ad 424)), (4, .int i)] [] M := by
  have hn : 425 ≤ 425 := Nat.le_refl _
  have hnt : 5 ≤ 5 := Nat.le_refl _
  unfold sg_sign at h
  refine me_aload_n X (i := 1) 1 rfl dL_law_612 ?_
  refine me_aload_n X (i := 0) 0 rfl dL_law_613 ?_
  refine me_iload X (i := 4) 4 rfl dL_law_614 ?_
  refine me_iconst X dL_law_616 ic_1 ?_
  refine me_iadd X dL_law_617 ?_
  obtain ⟨v1, e1, h⟩ := me_bd h
  refine me_sld X hX hbl hbA e1 dL_law_618 ?_
  refine me_aload_n X (i := 3) 3 rfl dL_law_619 ?_
  obtain ⟨⟨v2, M1⟩, e2, h⟩ := me_bd h
  refine me_callSH X hz hRc hRs [.ref (ad 0), .int v1, .ref (ad 424)] (chL_sign hl e2) kH_157 rfl rfl (Nat.le_of_ble_eq_true rfl) (Nat.le_refl _) (Nat.le_of_ble_eq_true rfl) dL_law_620 ?_
  have X1 := me_Xup X hRc hRs
  refine me_istore X1 (i := 5) [(5, .int v2), (0, .ref b), (1, .ref (ad 0)), (2, .ref (ad 63)), (3, .ref (ad 424)), (4, .int i)] (Nat.le_of_ble_eq_true rfl) rfl dL_law_623 ?_
  refine me_aload_n X1 (i := 2) 3 rfl dL_law_625 ?_
  refine me_aload_n X1 (i := 0) 1 rfl dL_law_626 ?_
  refine me_iload X1 (i := 4) 5 rfl dL_law_627 ?_
  refine me_iconst X1 dL_law_629 ic_1 ?_
  refine me_iadd X1 dL_law_630 ?_
  obtain ⟨v3, e3, h⟩ := me_bd h
  refine me_sld X1 hX hbl hbA e3 dL_law_631 ?_
  obtain ⟨⟨v4, M2⟩, e4, h⟩ := me_bd h
  refine me_callVi X1 [.int v3] (ctX12_sign_63 (n := 425) (nt := 5) (by decide) (by decide) e4) kV_L_159 rfl rfl (Nat.le_of_ble_eq_true rfl) me_k63 (Nat.le_of_ble_eq_true rfl) (Nat.le_refl _) (Nat.le_of_ble_eq_true rfl) dL_law_632 ?_
  refine me_istore X1 (i := 6) [(6, .int v4), (5, .int v2), (0, .ref b), (1, .ref (ad 0)), (2, .ref (ad 63)), (3, .ref (ad 424)), (4, .int i)] (Nat.le_of_ble_eq_true rfl) rfl dL_law_635 ?_
  refine me_aload_n X1 (i := 2) 4 rfl dL_law_637 ?_
  obtain ⟨v5, e5, h⟩ := me_bd h
  refine me_callVi X1 [] (ctX12_thrown_63 (n := 425) (nt := 5) (by decide) (by decide) e5) kV_L_128 rfl rfl (Nat.le_of_ble_eq_true rfl) me_k63 (Nat.le_of_ble_eq_true rfl) (Nat.le_refl _) (Nat.le_of_ble_eq_true rfl) dL_law_638 ?_
  refine me_iload X1 (i := 5) 1 rfl dL_law_641 ?_
  refine me_icmp_eq X1 648 (by decide) dL_law_643 (fun c1 => ?_) (fun c1 => ?_)
  · have h := me_ip c1 h
    refine me_iload X1 (i := 5) 1 rfl dL_law_648 ?_
    refine me_if_ne X1 665 (by decide) dL_law_650 (fun c2 => ?_) (fun c2 => ?_)
    · have h := me_in c2 h
      refine me_goto X1 2334 (by decide) dL_law_665 ?_
      obtain rfl := me_so h
      refine me_sub (L' := [(0, .ref b), (1, .ref (ad 0)), (2, .ref (ad 63)), (3, .ref (ad 424)), (4, .int i)]) [2, 3, 4, 5, 6] rfl ?_
      exact hk
    · have h := me_ip c2 h
      refine me_aload_n X1 (i := 3) 5 rfl dL_law_653 ?_
      refine me_iconst X1 dL_law_654 ic_0 ?_
      refine me_lald X1 (by decide) dL_law_655 ?_
      refine me_iload X1 (i := 6) 0 rfl dL_law_656 ?_
      refine me_i2l X1 dL_law_658 ?_
      refine me_lcmp X1 dL_law_659 ?_
      refine me_if_eq X1 665 (by decide) dL_law_660 (fun c3 => ?_) (fun c3 => ?_)
      · have h := me_ip c3 h
        refine me_goto X1 2334 (by decide) dL_law_665 ?_
        obtain rfl := me_so h
        refine me_sub (L' := [(0, .ref b), (1, .ref (ad 0)), (2, .ref (ad 63)), (3, .ref (ad 424)), (4, .int i)]) [2, 3, 4, 5, 6] rfl ?_
        exact hk
      · have h := me_in c3 h
        cases h
  · have h := me_in c1 h
    cases h
def sg_row (xs : Nat → Int32) (Lx : Nat) (i : Int32) (M : me_M) : Option me_M :=
  ((me_sr xs Lx (i + 1)).bind fun v1 => ((me_sr xs Lx (i + 2)).bind fun v2 => ((me_sr xs Lx (i + 3)).bind fun v3 => ((hL_row M v1 v2 v3).bind fun (v4, M1) => ((me_sr xs Lx (i + 1)).bind fun v5 => ((me_sr xs Lx (i + 2)).bind fun v6 => ((me_sr xs Lx (i + 3)).bind fun v7 => ((mX12_row_63 M1 v5 v6 v7).bind fun (v8, M2) => ((mX12_thrown_63 M2).bind fun v9 => (if v9 = v4 then (if v4 = 0 then (if (lg_cmp (M2.2.2 0) (v8.toInt64)) = 0 then some M2 else none) else some M2) else none))))))))))
set_option maxRecDepth 100000 in
set_option maxHeartbeats 4000000 in
theorem ct_sg_row {p : Program} {l : Launch} {e : Env} {R : Room} {s : State} {m : MethodId} {args : Array Value} {below : List Frame} {meth : Method} {c : Code} {cells slots : Nat} {Q : State → Prop} {D : va_G} {cA : Nat → ClassId} {ad : Nat → Nat} {A : Nat → Prop} {tys : List (ClassId × FieldType)} (hl : l.stackTraces = false) (X : me_X p R s m args c D cA ad 425 5 425 8 cells slots 200 A cL_law RL tys) (hz : me_Z A s s.heap) {b Lx : Nat} {xs : Nat → Int32} (hX : va_X b Lx xs s s.heap) (hbl : b < s.heap.size) (hbA : ¬ A b) (hRc : cells + 1 ≤ R.cells) (hRs : slots + 6 ≤ R.slots) {i : Int32} {M M' : me_M} (h : sg_row xs Lx i M = some M') (hk : me_W p l e R s m args below meth c (cells + 1) (slots + 6) Q D cA ad 425 8 A 2334 [(0, .ref b), (1, .ref (ad 0)), (2, .ref (ad 63)), (3, .ref (ad 424)), (4, .int i)] [] M') : me_W p l e R s m args below meth c cells slots Q D cA ad 425 8 A 668 [(0, .ref b), (1, .ref (ad 0)), (2, .ref (ad 63)), (3, .ref (ad 424)), (4, .int i)] [] M := by
  have hn : 425 ≤ 425 := Nat.le_refl _
  have hnt : 5 ≤ 5 := Nat.le_refl _
  unfold sg_row at h
  refine me_aload_n X (i := 1) 1 rfl dL_law_668 ?_
  refine me_aload_n X (i := 0) 0 rfl dL_law_669 ?_
  refine me_iload X (i := 4) 4 rfl dL_law_670 ?_
  refine me_iconst X dL_law_672 ic_1 ?_
  refine me_iadd X dL_law_673 ?_
  obtain ⟨v1, e1, h⟩ := me_bd h
  refine me_sld X hX hbl hbA e1 dL_law_674 ?_
  refine me_aload_n X (i := 0) 0 rfl dL_law_675 ?_
  refine me_iload X (i := 4) 4 rfl dL_law_676 ?_
  refine me_iconst X dL_law_678 ic_2 ?_
  refine me_iadd X dL_law_679 ?_
  obtain ⟨v2, e2, h⟩ := me_bd h
  refine me_sld X hX hbl hbA e2 dL_law_680 ?_
  refine me_aload_n X (i := 0) 0 rfl dL_law_681 ?_
  refine me_iload X (i := 4) 4 rfl dL_law_682 ?_
  refine me_iconst X dL_law_684 ic_3 ?_
  refine me_iadd X dL_law_685 ?_
  obtain ⟨v3, e3, h⟩ := me_bd h
  refine me_sld X hX hbl hbA e3 dL_law_686 ?_
  refine me_aload_n X (i := 3) 3 rfl dL_law_687 ?_
  obtain ⟨⟨v4, M1⟩, e4, h⟩ := me_bd h
  refine me_callSH X hz hRc hRs [.ref (ad 0), .int v1, .int v2, .int v3, .ref (ad 424)] (chL_row hl e4) kH_160 rfl rfl (Nat.le_of_ble_eq_true rfl) (Nat.le_refl _) (Nat.le_of_ble_eq_true rfl) dL_law_688 ?_
  have X1 := me_Xup X hRc hRs
  refine me_istore X1 (i := 5) [(5, .int v4), (0, .ref b), (1, .ref (ad 0)), (2, .ref (ad 63)), (3, .ref (ad 424)), (4, .int i)] (Nat.le_of_ble_eq_true rfl) rfl dL_law_691 ?_
  refine me_aload_n X1 (i := 2) 3 rfl dL_law_693 ?_
  refine me_aload_n X1 (i := 0) 1 rfl dL_law_694 ?_
  refine me_iload X1 (i := 4) 5 rfl dL_law_695 ?_
  refine me_iconst X1 dL_law_697 ic_1 ?_
  refine me_iadd X1 dL_law_698 ?_
  obtain ⟨v5, e5, h⟩ := me_bd h
  refine me_sld X1 hX hbl hbA e5 dL_law_699 ?_
  refine me_aload_n X1 (i := 0) 1 rfl dL_law_700 ?_
  refine me_iload X1 (i := 4) 5 rfl dL_law_701 ?_
  refine me_iconst X1 dL_law_703 ic_2 ?_
  refine me_iadd X1 dL_law_704 ?_
  obtain ⟨v6, e6, h⟩ := me_bd h
  refine me_sld X1 hX hbl hbA e6 dL_law_705 ?_
  refine me_aload_n X1 (i := 0) 1 rfl dL_law_706 ?_
  refine me_iload X1 (i := 4) 5 rfl dL_law_707 ?_
  refine me_iconst X1 dL_law_709 ic_3 ?_
  refine me_iadd X1 dL_law_710 ?_
  obtain ⟨v7, e7, h⟩ := me_bd h
  refine me_sld X1 hX hbl hbA e7 dL_law_711 ?_
  obtain ⟨⟨v8, M2⟩, e8, h⟩ := me_bd h
  refine me_callVi X1 [.int v5, .int v6, .int v7] (ctX12_row_63 (n := 425) (nt := 5) (by decide) (by decide) e8) kV_L_163 rfl rfl (Nat.le_of_ble_eq_true rfl) me_k63 (Nat.le_of_ble_eq_true rfl) (Nat.le_refl _) (Nat.le_of_ble_eq_true rfl) dL_law_712 ?_
  refine me_istore X1 (i := 6) [(6, .int v8), (5, .int v4), (0, .ref b), (1, .ref (ad 0)), (2, .ref (ad 63)), (3, .ref (ad 424)), (4, .int i)] (Nat.le_of_ble_eq_true rfl) rfl dL_law_715 ?_
  refine me_aload_n X1 (i := 2) 4 rfl dL_law_717 ?_
  obtain ⟨v9, e9, h⟩ := me_bd h
  refine me_callVi X1 [] (ctX12_thrown_63 (n := 425) (nt := 5) (by decide) (by decide) e9) kV_L_128 rfl rfl (Nat.le_of_ble_eq_true rfl) me_k63 (Nat.le_of_ble_eq_true rfl) (Nat.le_refl _) (Nat.le_of_ble_eq_true rfl) dL_law_718 ?_
  refine me_iload X1 (i := 5) 1 rfl dL_law_721 ?_
  refine me_icmp_eq X1 728 (by decide) dL_law_723 (fun c1 => ?_) (fun c1 => ?_)
  · have h := me_ip c1 h
    refine me_iload X1 (i := 5) 1 rfl dL_law_728 ?_
    refine me_if_ne X1 745 (by decide) dL_law_730 (fun c2 => ?_) (fun c2 => ?_)
    · have h := me_in c2 h
      refine me_goto X1 2334 (by decide) dL_law_745 ?_
      obtain rfl := me_so h
      refine me_sub (L' := [(0, .ref b), (1, .ref (ad 0)), (2, .ref (ad 63)), (3, .ref (ad 424)), (4, .int i)]) [2, 3, 4, 5, 6] rfl ?_
      exact hk
    · have h := me_ip c2 h
      refine me_aload_n X1 (i := 3) 5 rfl dL_law_733 ?_
      refine me_iconst X1 dL_law_734 ic_0 ?_
      refine me_lald X1 (by decide) dL_law_735 ?_
      refine me_iload X1 (i := 6) 0 rfl dL_law_736 ?_
      refine me_i2l X1 dL_law_738 ?_
      refine me_lcmp X1 dL_law_739 ?_
      refine me_if_eq X1 745 (by decide) dL_law_740 (fun c3 => ?_) (fun c3 => ?_)
      · have h := me_ip c3 h
        refine me_goto X1 2334 (by decide) dL_law_745 ?_
        obtain rfl := me_so h
        refine me_sub (L' := [(0, .ref b), (1, .ref (ad 0)), (2, .ref (ad 63)), (3, .ref (ad 424)), (4, .int i)]) [2, 3, 4, 5, 6] rfl ?_
        exact hk
      · have h := me_in c3 h
        cases h
  · have h := me_in c1 h
    cases h
def sg_rowOf (xs : Nat → Int32) (Lx : Nat) (i : Int32) (M : me_M) : Option me_M :=
  ((me_sr xs Lx (i + 1)).bind fun v1 => ((me_sr xs Lx (i + 2)).bind fun v2 => ((hL_rowOf M v1 v2).bind fun (v3, M1) => ((me_sr xs Lx (i + 1)).bind fun v4 => ((me_sr xs Lx (i + 2)).bind fun v5 => ((mX12_rowOf_63 M1 v4 v5).bind fun (v6, M2) => ((mX12_thrown_63 M2).bind fun v7 => (if v7 = v3 then (if v3 = 0 then (if (lg_cmp (M2.2.2 0) (v6.toInt64)) = 0 then some M2 else none) else some M2) else none))))))))
set_option maxRecDepth 100000 in
set_option maxHeartbeats 4000000 in
theorem ct_sg_rowOf {p : Program} {l : Launch} {e : Env} {R : Room} {s : State} {m : MethodId} {args : Array Value} {below : List Frame} {meth : Method} {c : Code} {cells slots : Nat} {Q : State → Prop} {D : va_G} {cA : Nat → ClassId} {ad : Nat → Nat} {A : Nat → Prop} {tys : List (ClassId × FieldType)} (hl : l.stackTraces = false) (X : me_X p R s m args c D cA ad 425 5 425 8 cells slots 200 A cL_law RL tys) (hz : me_Z A s s.heap) {b Lx : Nat} {xs : Nat → Int32} (hX : va_X b Lx xs s s.heap) (hbl : b < s.heap.size) (hbA : ¬ A b) (hRc : cells + 1 ≤ R.cells) (hRs : slots + 6 ≤ R.slots) {i : Int32} {M M' : me_M} (h : sg_rowOf xs Lx i M = some M') (hk : me_W p l e R s m args below meth c (cells + 1) (slots + 6) Q D cA ad 425 8 A 2334 [(0, .ref b), (1, .ref (ad 0)), (2, .ref (ad 63)), (3, .ref (ad 424)), (4, .int i)] [] M') : me_W p l e R s m args below meth c cells slots Q D cA ad 425 8 A 748 [(0, .ref b), (1, .ref (ad 0)), (2, .ref (ad 63)), (3, .ref (ad 424)), (4, .int i)] [] M := by
  have hn : 425 ≤ 425 := Nat.le_refl _
  have hnt : 5 ≤ 5 := Nat.le_refl _
  unfold sg_rowOf at h
  refine me_aload_n X (i := 1) 1 rfl dL_law_748 ?_
  refine me_aload_n X (i := 0) 0 rfl dL_law_749 ?_
  refine me_iload X (i := 4) 4 rfl dL_law_750 ?_
  refine me_iconst X dL_law_752 ic_1 ?_
  refine me_iadd X dL_law_753 ?_
  obtain ⟨v1, e1, h⟩ := me_bd h
  refine me_sld X hX hbl hbA e1 dL_law_754 ?_
  refine me_aload_n X (i := 0) 0 rfl dL_law_755 ?_
  refine me_iload X (i := 4) 4 rfl dL_law_756 ?_
  refine me_iconst X dL_law_758 ic_2 ?_
  refine me_iadd X dL_law_759 ?_
  obtain ⟨v2, e2, h⟩ := me_bd h
  refine me_sld X hX hbl hbA e2 dL_law_760 ?_
  refine me_aload_n X (i := 3) 3 rfl dL_law_761 ?_
  obtain ⟨⟨v3, M1⟩, e3, h⟩ := me_bd h
  refine me_callSH X hz hRc hRs [.ref (ad 0), .int v1, .int v2, .ref (ad 424)] (chL_rowOf hl e3) kH_164 rfl rfl (Nat.le_of_ble_eq_true rfl) (Nat.le_refl _) (Nat.le_of_ble_eq_true rfl) dL_law_762 ?_
  have X1 := me_Xup X hRc hRs
  refine me_istore X1 (i := 5) [(5, .int v3), (0, .ref b), (1, .ref (ad 0)), (2, .ref (ad 63)), (3, .ref (ad 424)), (4, .int i)] (Nat.le_of_ble_eq_true rfl) rfl dL_law_765 ?_
  refine me_aload_n X1 (i := 2) 3 rfl dL_law_767 ?_
  refine me_aload_n X1 (i := 0) 1 rfl dL_law_768 ?_
  refine me_iload X1 (i := 4) 5 rfl dL_law_769 ?_
  refine me_iconst X1 dL_law_771 ic_1 ?_
  refine me_iadd X1 dL_law_772 ?_
  obtain ⟨v4, e4, h⟩ := me_bd h
  refine me_sld X1 hX hbl hbA e4 dL_law_773 ?_
  refine me_aload_n X1 (i := 0) 1 rfl dL_law_774 ?_
  refine me_iload X1 (i := 4) 5 rfl dL_law_775 ?_
  refine me_iconst X1 dL_law_777 ic_2 ?_
  refine me_iadd X1 dL_law_778 ?_
  obtain ⟨v5, e5, h⟩ := me_bd h
  refine me_sld X1 hX hbl hbA e5 dL_law_779 ?_
  obtain ⟨⟨v6, M2⟩, e6, h⟩ := me_bd h
  refine me_callVi X1 [.int v4, .int v5] (ctX12_rowOf_63 (n := 425) (nt := 5) (by decide) (by decide) e6) kV_L_166 rfl rfl (Nat.le_of_ble_eq_true rfl) me_k63 (Nat.le_of_ble_eq_true rfl) (Nat.le_refl _) (Nat.le_of_ble_eq_true rfl) dL_law_780 ?_
  refine me_istore X1 (i := 6) [(6, .int v6), (5, .int v3), (0, .ref b), (1, .ref (ad 0)), (2, .ref (ad 63)), (3, .ref (ad 424)), (4, .int i)] (Nat.le_of_ble_eq_true rfl) rfl dL_law_783 ?_
  refine me_aload_n X1 (i := 2) 4 rfl dL_law_785 ?_
  obtain ⟨v7, e7, h⟩ := me_bd h
  refine me_callVi X1 [] (ctX12_thrown_63 (n := 425) (nt := 5) (by decide) (by decide) e7) kV_L_128 rfl rfl (Nat.le_of_ble_eq_true rfl) me_k63 (Nat.le_of_ble_eq_true rfl) (Nat.le_refl _) (Nat.le_of_ble_eq_true rfl) dL_law_786 ?_
  refine me_iload X1 (i := 5) 1 rfl dL_law_789 ?_
  refine me_icmp_eq X1 796 (by decide) dL_law_791 (fun c1 => ?_) (fun c1 => ?_)
  · have h := me_ip c1 h
    refine me_iload X1 (i := 5) 1 rfl dL_law_796 ?_
    refine me_if_ne X1 813 (by decide) dL_law_798 (fun c2 => ?_) (fun c2 => ?_)
    · have h := me_in c2 h
      refine me_goto X1 2334 (by decide) dL_law_813 ?_
      obtain rfl := me_so h
      refine me_sub (L' := [(0, .ref b), (1, .ref (ad 0)), (2, .ref (ad 63)), (3, .ref (ad 424)), (4, .int i)]) [2, 3, 4, 5, 6] rfl ?_
      exact hk
    · have h := me_ip c2 h
      refine me_aload_n X1 (i := 3) 5 rfl dL_law_801 ?_
      refine me_iconst X1 dL_law_802 ic_0 ?_
      refine me_lald X1 (by decide) dL_law_803 ?_
      refine me_iload X1 (i := 6) 0 rfl dL_law_804 ?_
      refine me_i2l X1 dL_law_806 ?_
      refine me_lcmp X1 dL_law_807 ?_
      refine me_if_eq X1 813 (by decide) dL_law_808 (fun c3 => ?_) (fun c3 => ?_)
      · have h := me_ip c3 h
        refine me_goto X1 2334 (by decide) dL_law_813 ?_
        obtain rfl := me_so h
        refine me_sub (L' := [(0, .ref b), (1, .ref (ad 0)), (2, .ref (ad 63)), (3, .ref (ad 424)), (4, .int i)]) [2, 3, 4, 5, 6] rfl ?_
        exact hk
      · have h := me_in c3 h
        cases h
  · have h := me_in c1 h
    cases h
def sg_count (xs : Nat → Int32) (Lx : Nat) (i : Int32) (M : me_M) : Option me_M :=
  ((me_sr xs Lx (i + 1)).bind fun v1 => ((me_sr xs Lx (i + 2)).bind fun v2 => ((me_sr xs Lx (i + 3)).bind fun v3 => ((hL_count M v1 v2 v3).bind fun (v4, M1) => ((me_sr xs Lx (i + 1)).bind fun v5 => ((me_sr xs Lx (i + 2)).bind fun v6 => ((me_sr xs Lx (i + 3)).bind fun v7 => ((mX12_count_63 M1 v5 v6 v7).bind fun (v8, M2) => ((mX12_thrown_63 M2).bind fun v9 => (if v9 = v4 then (if v4 = 0 then (if (lg_cmp (M2.2.2 0) (v8.toInt64)) = 0 then some M2 else none) else some M2) else none))))))))))
set_option maxRecDepth 100000 in
set_option maxHeartbeats 4000000 in
theorem ct_sg_count {p : Program} {l : Launch} {e : Env} {R : Room} {s : State} {m : MethodId} {args : Array Value} {below : List Frame} {meth : Method} {c : Code} {cells slots : Nat} {Q : State → Prop} {D : va_G} {cA : Nat → ClassId} {ad : Nat → Nat} {A : Nat → Prop} {tys : List (ClassId × FieldType)} (hl : l.stackTraces = false) (X : me_X p R s m args c D cA ad 425 5 425 8 cells slots 200 A cL_law RL tys) (hz : me_Z A s s.heap) {b Lx : Nat} {xs : Nat → Int32} (hX : va_X b Lx xs s s.heap) (hbl : b < s.heap.size) (hbA : ¬ A b) (hRc : cells + 1 ≤ R.cells) (hRs : slots + 6 ≤ R.slots) {i : Int32} {M M' : me_M} (h : sg_count xs Lx i M = some M') (hk : me_W p l e R s m args below meth c (cells + 1) (slots + 6) Q D cA ad 425 8 A 2334 [(0, .ref b), (1, .ref (ad 0)), (2, .ref (ad 63)), (3, .ref (ad 424)), (4, .int i)] [] M') : me_W p l e R s m args below meth c cells slots Q D cA ad 425 8 A 816 [(0, .ref b), (1, .ref (ad 0)), (2, .ref (ad 63)), (3, .ref (ad 424)), (4, .int i)] [] M := by
  have hn : 425 ≤ 425 := Nat.le_refl _
  have hnt : 5 ≤ 5 := Nat.le_refl _
  unfold sg_count at h
  refine me_aload_n X (i := 1) 1 rfl dL_law_816 ?_
  refine me_aload_n X (i := 0) 0 rfl dL_law_817 ?_
  refine me_iload X (i := 4) 4 rfl dL_law_818 ?_
  refine me_iconst X dL_law_820 ic_1 ?_
  refine me_iadd X dL_law_821 ?_
  obtain ⟨v1, e1, h⟩ := me_bd h
  refine me_sld X hX hbl hbA e1 dL_law_822 ?_
  refine me_aload_n X (i := 0) 0 rfl dL_law_823 ?_
  refine me_iload X (i := 4) 4 rfl dL_law_824 ?_
  refine me_iconst X dL_law_826 ic_2 ?_
  refine me_iadd X dL_law_827 ?_
  obtain ⟨v2, e2, h⟩ := me_bd h
  refine me_sld X hX hbl hbA e2 dL_law_828 ?_
  refine me_aload_n X (i := 0) 0 rfl dL_law_829 ?_
  refine me_iload X (i := 4) 4 rfl dL_law_830 ?_
  refine me_iconst X dL_law_832 ic_3 ?_
  refine me_iadd X dL_law_833 ?_
  obtain ⟨v3, e3, h⟩ := me_bd h
  refine me_sld X hX hbl hbA e3 dL_law_834 ?_
  refine me_aload_n X (i := 3) 3 rfl dL_law_835 ?_
  obtain ⟨⟨v4, M1⟩, e4, h⟩ := me_bd h
  refine me_callSH X hz hRc hRs [.ref (ad 0), .int v1, .int v2, .int v3, .ref (ad 424)] (chL_count hl e4) kH_167 rfl rfl (Nat.le_of_ble_eq_true rfl) (Nat.le_refl _) (Nat.le_of_ble_eq_true rfl) dL_law_836 ?_
  have X1 := me_Xup X hRc hRs
  refine me_istore X1 (i := 5) [(5, .int v4), (0, .ref b), (1, .ref (ad 0)), (2, .ref (ad 63)), (3, .ref (ad 424)), (4, .int i)] (Nat.le_of_ble_eq_true rfl) rfl dL_law_839 ?_
  refine me_aload_n X1 (i := 2) 3 rfl dL_law_841 ?_
  refine me_aload_n X1 (i := 0) 1 rfl dL_law_842 ?_
  refine me_iload X1 (i := 4) 5 rfl dL_law_843 ?_
  refine me_iconst X1 dL_law_845 ic_1 ?_
  refine me_iadd X1 dL_law_846 ?_
  obtain ⟨v5, e5, h⟩ := me_bd h
  refine me_sld X1 hX hbl hbA e5 dL_law_847 ?_
  refine me_aload_n X1 (i := 0) 1 rfl dL_law_848 ?_
  refine me_iload X1 (i := 4) 5 rfl dL_law_849 ?_
  refine me_iconst X1 dL_law_851 ic_2 ?_
  refine me_iadd X1 dL_law_852 ?_
  obtain ⟨v6, e6, h⟩ := me_bd h
  refine me_sld X1 hX hbl hbA e6 dL_law_853 ?_
  refine me_aload_n X1 (i := 0) 1 rfl dL_law_854 ?_
  refine me_iload X1 (i := 4) 5 rfl dL_law_855 ?_
  refine me_iconst X1 dL_law_857 ic_3 ?_
  refine me_iadd X1 dL_law_858 ?_
  obtain ⟨v7, e7, h⟩ := me_bd h
  refine me_sld X1 hX hbl hbA e7 dL_law_859 ?_
  obtain ⟨⟨v8, M2⟩, e8, h⟩ := me_bd h
  refine me_callVi X1 [.int v5, .int v6, .int v7] (ctX12_count_63 (n := 425) (nt := 5) (by decide) (by decide) e8) kV_L_169 rfl rfl (Nat.le_of_ble_eq_true rfl) me_k63 (Nat.le_of_ble_eq_true rfl) (Nat.le_refl _) (Nat.le_of_ble_eq_true rfl) dL_law_860 ?_
  refine me_istore X1 (i := 6) [(6, .int v8), (5, .int v4), (0, .ref b), (1, .ref (ad 0)), (2, .ref (ad 63)), (3, .ref (ad 424)), (4, .int i)] (Nat.le_of_ble_eq_true rfl) rfl dL_law_863 ?_
  refine me_aload_n X1 (i := 2) 4 rfl dL_law_865 ?_
  obtain ⟨v9, e9, h⟩ := me_bd h
  refine me_callVi X1 [] (ctX12_thrown_63 (n := 425) (nt := 5) (by decide) (by decide) e9) kV_L_128 rfl rfl (Nat.le_of_ble_eq_true rfl) me_k63 (Nat.le_of_ble_eq_true rfl) (Nat.le_refl _) (Nat.le_of_ble_eq_true rfl) dL_law_866 ?_
  refine me_iload X1 (i := 5) 1 rfl dL_law_869 ?_
  refine me_icmp_eq X1 876 (by decide) dL_law_871 (fun c1 => ?_) (fun c1 => ?_)
  · have h := me_ip c1 h
    refine me_iload X1 (i := 5) 1 rfl dL_law_876 ?_
    refine me_if_ne X1 893 (by decide) dL_law_878 (fun c2 => ?_) (fun c2 => ?_)
    · have h := me_in c2 h
      refine me_goto X1 2334 (by decide) dL_law_893 ?_
      obtain rfl := me_so h
      refine me_sub (L' := [(0, .ref b), (1, .ref (ad 0)), (2, .ref (ad 63)), (3, .ref (ad 424)), (4, .int i)]) [2, 3, 4, 5, 6] rfl ?_
      exact hk
    · have h := me_ip c2 h
      refine me_aload_n X1 (i := 3) 5 rfl dL_law_881 ?_
      refine me_iconst X1 dL_law_882 ic_0 ?_
      refine me_lald X1 (by decide) dL_law_883 ?_
      refine me_iload X1 (i := 6) 0 rfl dL_law_884 ?_
      refine me_i2l X1 dL_law_886 ?_
      refine me_lcmp X1 dL_law_887 ?_
      refine me_if_eq X1 893 (by decide) dL_law_888 (fun c3 => ?_) (fun c3 => ?_)
      · have h := me_ip c3 h
        refine me_goto X1 2334 (by decide) dL_law_893 ?_
        obtain rfl := me_so h
        refine me_sub (L' := [(0, .ref b), (1, .ref (ad 0)), (2, .ref (ad 63)), (3, .ref (ad 424)), (4, .int i)]) [2, 3, 4, 5, 6] rfl ?_
        exact hk
      · have h := me_in c3 h
        cases h
  · have h := me_in c1 h
    cases h
def sg_letter (xs : Nat → Int32) (Lx : Nat) (i : Int32) (M : me_M) : Option me_M :=
  ((me_sr xs Lx (i + 1)).bind fun v1 => ((hL_letter M v1).bind fun (v2, M1) => ((me_sr xs Lx (i + 1)).bind fun v3 => ((mX12_letter_63 M1 v3).bind fun (v4, M2) => ((mX12_thrown_63 M2).bind fun v5 => (if v5 = v2 then (if v2 = 0 then (if (lg_cmp (M2.2.2 0) (v4.toInt64)) = 0 then some M2 else none) else some M2) else none))))))
set_option maxRecDepth 100000 in
set_option maxHeartbeats 4000000 in
theorem ct_sg_letter {p : Program} {l : Launch} {e : Env} {R : Room} {s : State} {m : MethodId} {args : Array Value} {below : List Frame} {meth : Method} {c : Code} {cells slots : Nat} {Q : State → Prop} {D : va_G} {cA : Nat → ClassId} {ad : Nat → Nat} {A : Nat → Prop} {tys : List (ClassId × FieldType)} (hl : l.stackTraces = false) (X : me_X p R s m args c D cA ad 425 5 425 8 cells slots 200 A cL_law RL tys) (hz : me_Z A s s.heap) {b Lx : Nat} {xs : Nat → Int32} (hX : va_X b Lx xs s s.heap) (hbl : b < s.heap.size) (hbA : ¬ A b) (hRc : cells + 1 ≤ R.cells) (hRs : slots + 6 ≤ R.slots) {i : Int32} {M M' : me_M} (h : sg_letter xs Lx i M = some M') (hk : me_W p l e R s m args below meth c (cells + 1) (slots + 6) Q D cA ad 425 8 A 2334 [(0, .ref b), (1, .ref (ad 0)), (2, .ref (ad 63)), (3, .ref (ad 424)), (4, .int i)] [] M') : me_W p l e R s m args below meth c cells slots Q D cA ad 425 8 A 896 [(0, .ref b), (1, .ref (ad 0)), (2, .ref (ad 63)), (3, .ref (ad 424)), (4, .int i)] [] M := by
  have hn : 425 ≤ 425 := Nat.le_refl _
  have hnt : 5 ≤ 5 := Nat.le_refl _
  unfold sg_letter at h
  refine me_aload_n X (i := 1) 1 rfl dL_law_896 ?_
  refine me_aload_n X (i := 0) 0 rfl dL_law_897 ?_
  refine me_iload X (i := 4) 4 rfl dL_law_898 ?_
  refine me_iconst X dL_law_900 ic_1 ?_
  refine me_iadd X dL_law_901 ?_
  obtain ⟨v1, e1, h⟩ := me_bd h
  refine me_sld X hX hbl hbA e1 dL_law_902 ?_
  refine me_aload_n X (i := 3) 3 rfl dL_law_903 ?_
  obtain ⟨⟨v2, M1⟩, e2, h⟩ := me_bd h
  refine me_callSH X hz hRc hRs [.ref (ad 0), .int v1, .ref (ad 424)] (chL_letter hl e2) kH_170 rfl rfl (Nat.le_of_ble_eq_true rfl) (Nat.le_refl _) (Nat.le_of_ble_eq_true rfl) dL_law_904 ?_
  have X1 := me_Xup X hRc hRs
  refine me_istore X1 (i := 5) [(5, .int v2), (0, .ref b), (1, .ref (ad 0)), (2, .ref (ad 63)), (3, .ref (ad 424)), (4, .int i)] (Nat.le_of_ble_eq_true rfl) rfl dL_law_907 ?_
  refine me_aload_n X1 (i := 2) 3 rfl dL_law_909 ?_
  refine me_aload_n X1 (i := 0) 1 rfl dL_law_910 ?_
  refine me_iload X1 (i := 4) 5 rfl dL_law_911 ?_
  refine me_iconst X1 dL_law_913 ic_1 ?_
  refine me_iadd X1 dL_law_914 ?_
  obtain ⟨v3, e3, h⟩ := me_bd h
  refine me_sld X1 hX hbl hbA e3 dL_law_915 ?_
  obtain ⟨⟨v4, M2⟩, e4, h⟩ := me_bd h
  refine me_callVi X1 [.int v3] (ctX12_letter_63 (n := 425) (nt := 5) (by decide) (by decide) e4) kV_L_172 rfl rfl (Nat.le_of_ble_eq_true rfl) me_k63 (Nat.le_of_ble_eq_true rfl) (Nat.le_refl _) (Nat.le_of_ble_eq_true rfl) dL_law_916 ?_
  refine me_istore X1 (i := 6) [(6, .int v4), (5, .int v2), (0, .ref b), (1, .ref (ad 0)), (2, .ref (ad 63)), (3, .ref (ad 424)), (4, .int i)] (Nat.le_of_ble_eq_true rfl) rfl dL_law_919 ?_
  refine me_aload_n X1 (i := 2) 4 rfl dL_law_921 ?_
  obtain ⟨v5, e5, h⟩ := me_bd h
  refine me_callVi X1 [] (ctX12_thrown_63 (n := 425) (nt := 5) (by decide) (by decide) e5) kV_L_128 rfl rfl (Nat.le_of_ble_eq_true rfl) me_k63 (Nat.le_of_ble_eq_true rfl) (Nat.le_refl _) (Nat.le_of_ble_eq_true rfl) dL_law_922 ?_
  refine me_iload X1 (i := 5) 1 rfl dL_law_925 ?_
  refine me_icmp_eq X1 932 (by decide) dL_law_927 (fun c1 => ?_) (fun c1 => ?_)
  · have h := me_ip c1 h
    refine me_iload X1 (i := 5) 1 rfl dL_law_932 ?_
    refine me_if_ne X1 949 (by decide) dL_law_934 (fun c2 => ?_) (fun c2 => ?_)
    · have h := me_in c2 h
      refine me_goto X1 2334 (by decide) dL_law_949 ?_
      obtain rfl := me_so h
      refine me_sub (L' := [(0, .ref b), (1, .ref (ad 0)), (2, .ref (ad 63)), (3, .ref (ad 424)), (4, .int i)]) [2, 3, 4, 5, 6] rfl ?_
      exact hk
    · have h := me_ip c2 h
      refine me_aload_n X1 (i := 3) 5 rfl dL_law_937 ?_
      refine me_iconst X1 dL_law_938 ic_0 ?_
      refine me_lald X1 (by decide) dL_law_939 ?_
      refine me_iload X1 (i := 6) 0 rfl dL_law_940 ?_
      refine me_i2l X1 dL_law_942 ?_
      refine me_lcmp X1 dL_law_943 ?_
      refine me_if_eq X1 949 (by decide) dL_law_944 (fun c3 => ?_) (fun c3 => ?_)
      · have h := me_ip c3 h
        refine me_goto X1 2334 (by decide) dL_law_949 ?_
        obtain rfl := me_so h
        refine me_sub (L' := [(0, .ref b), (1, .ref (ad 0)), (2, .ref (ad 63)), (3, .ref (ad 424)), (4, .int i)]) [2, 3, 4, 5, 6] rfl ?_
        exact hk
      · have h := me_in c3 h
        cases h
  · have h := me_in c1 h
    cases h
def sg_grows (xs : Nat → Int32) (Lx : Nat) (i : Int32) (M : me_M) : Option me_M :=
  ((me_sr xs Lx (i + 1)).bind fun v1 => ((hL_grows M v1).bind fun (v2, M1) => ((me_sr xs Lx (i + 1)).bind fun v3 => ((mX12_grows_63 M1 v3).bind fun (v4, M2) => ((mX12_thrown_63 M2).bind fun v5 => (if v5 = v2 then (if v2 = 0 then (if (lg_cmp (M2.2.2 0) (v4.toInt64)) = 0 then some M2 else none) else some M2) else none))))))
set_option maxRecDepth 100000 in
set_option maxHeartbeats 4000000 in
theorem ct_sg_grows {p : Program} {l : Launch} {e : Env} {R : Room} {s : State} {m : MethodId} {args : Array Value} {below : List Frame} {meth : Method} {c : Code} {cells slots : Nat} {Q : State → Prop} {D : va_G} {cA : Nat → ClassId} {ad : Nat → Nat} {A : Nat → Prop} {tys : List (ClassId × FieldType)} (hl : l.stackTraces = false) (X : me_X p R s m args c D cA ad 425 5 425 8 cells slots 200 A cL_law RL tys) (hz : me_Z A s s.heap) {b Lx : Nat} {xs : Nat → Int32} (hX : va_X b Lx xs s s.heap) (hbl : b < s.heap.size) (hbA : ¬ A b) (hRc : cells + 1 ≤ R.cells) (hRs : slots + 6 ≤ R.slots) {i : Int32} {M M' : me_M} (h : sg_grows xs Lx i M = some M') (hk : me_W p l e R s m args below meth c (cells + 1) (slots + 6) Q D cA ad 425 8 A 2334 [(0, .ref b), (1, .ref (ad 0)), (2, .ref (ad 63)), (3, .ref (ad 424)), (4, .int i)] [] M') : me_W p l e R s m args below meth c cells slots Q D cA ad 425 8 A 952 [(0, .ref b), (1, .ref (ad 0)), (2, .ref (ad 63)), (3, .ref (ad 424)), (4, .int i)] [] M := by
  have hn : 425 ≤ 425 := Nat.le_refl _
  have hnt : 5 ≤ 5 := Nat.le_refl _
  unfold sg_grows at h
  refine me_aload_n X (i := 1) 1 rfl dL_law_952 ?_
  refine me_aload_n X (i := 0) 0 rfl dL_law_953 ?_
  refine me_iload X (i := 4) 4 rfl dL_law_954 ?_
  refine me_iconst X dL_law_956 ic_1 ?_
  refine me_iadd X dL_law_957 ?_
  obtain ⟨v1, e1, h⟩ := me_bd h
  refine me_sld X hX hbl hbA e1 dL_law_958 ?_
  refine me_aload_n X (i := 3) 3 rfl dL_law_959 ?_
  obtain ⟨⟨v2, M1⟩, e2, h⟩ := me_bd h
  refine me_callSH X hz hRc hRs [.ref (ad 0), .int v1, .ref (ad 424)] (chL_grows hl e2) kH_173 rfl rfl (Nat.le_of_ble_eq_true rfl) (Nat.le_refl _) (Nat.le_of_ble_eq_true rfl) dL_law_960 ?_
  have X1 := me_Xup X hRc hRs
  refine me_istore X1 (i := 5) [(5, .int v2), (0, .ref b), (1, .ref (ad 0)), (2, .ref (ad 63)), (3, .ref (ad 424)), (4, .int i)] (Nat.le_of_ble_eq_true rfl) rfl dL_law_963 ?_
  refine me_aload_n X1 (i := 2) 3 rfl dL_law_965 ?_
  refine me_aload_n X1 (i := 0) 1 rfl dL_law_966 ?_
  refine me_iload X1 (i := 4) 5 rfl dL_law_967 ?_
  refine me_iconst X1 dL_law_969 ic_1 ?_
  refine me_iadd X1 dL_law_970 ?_
  obtain ⟨v3, e3, h⟩ := me_bd h
  refine me_sld X1 hX hbl hbA e3 dL_law_971 ?_
  obtain ⟨⟨v4, M2⟩, e4, h⟩ := me_bd h
  refine me_callVi X1 [.int v3] (ctX12_grows_63 (n := 425) (nt := 5) (by decide) (by decide) e4) kV_L_175 rfl rfl (Nat.le_of_ble_eq_true rfl) me_k63 (Nat.le_of_ble_eq_true rfl) (Nat.le_refl _) (Nat.le_of_ble_eq_true rfl) dL_law_972 ?_
  refine me_istore X1 (i := 6) [(6, .int v4), (5, .int v2), (0, .ref b), (1, .ref (ad 0)), (2, .ref (ad 63)), (3, .ref (ad 424)), (4, .int i)] (Nat.le_of_ble_eq_true rfl) rfl dL_law_975 ?_
  refine me_aload_n X1 (i := 2) 4 rfl dL_law_977 ?_
  obtain ⟨v5, e5, h⟩ := me_bd h
  refine me_callVi X1 [] (ctX12_thrown_63 (n := 425) (nt := 5) (by decide) (by decide) e5) kV_L_128 rfl rfl (Nat.le_of_ble_eq_true rfl) me_k63 (Nat.le_of_ble_eq_true rfl) (Nat.le_refl _) (Nat.le_of_ble_eq_true rfl) dL_law_978 ?_
  refine me_iload X1 (i := 5) 1 rfl dL_law_981 ?_
  refine me_icmp_eq X1 988 (by decide) dL_law_983 (fun c1 => ?_) (fun c1 => ?_)
  · have h := me_ip c1 h
    refine me_iload X1 (i := 5) 1 rfl dL_law_988 ?_
    refine me_if_ne X1 1005 (by decide) dL_law_990 (fun c2 => ?_) (fun c2 => ?_)
    · have h := me_in c2 h
      refine me_goto X1 2334 (by decide) dL_law_1005 ?_
      obtain rfl := me_so h
      refine me_sub (L' := [(0, .ref b), (1, .ref (ad 0)), (2, .ref (ad 63)), (3, .ref (ad 424)), (4, .int i)]) [2, 3, 4, 5, 6] rfl ?_
      exact hk
    · have h := me_ip c2 h
      refine me_aload_n X1 (i := 3) 5 rfl dL_law_993 ?_
      refine me_iconst X1 dL_law_994 ic_0 ?_
      refine me_lald X1 (by decide) dL_law_995 ?_
      refine me_iload X1 (i := 6) 0 rfl dL_law_996 ?_
      refine me_i2l X1 dL_law_998 ?_
      refine me_lcmp X1 dL_law_999 ?_
      refine me_if_eq X1 1005 (by decide) dL_law_1000 (fun c3 => ?_) (fun c3 => ?_)
      · have h := me_ip c3 h
        refine me_goto X1 2334 (by decide) dL_law_1005 ?_
        obtain rfl := me_so h
        refine me_sub (L' := [(0, .ref b), (1, .ref (ad 0)), (2, .ref (ad 63)), (3, .ref (ad 424)), (4, .int i)]) [2, 3, 4, 5, 6] rfl ?_
        exact hk
      · have h := me_in c3 h
        cases h
  · have h := me_in c1 h
    cases h
def sg_hit (xs : Nat → Int32) (Lx : Nat) (i : Int32) (M : me_M) : Option me_M :=
  ((me_sr xs Lx (i + 1)).bind fun v1 => ((me_sr xs Lx (i + 2)).bind fun v2 => ((hL_hit M v1 v2).bind fun (v3, M1) => ((me_sr xs Lx (i + 1)).bind fun v4 => ((me_sr xs Lx (i + 2)).bind fun v5 => ((mX12_hit_63 M1 v4 v5).bind fun (v6, M2) => ((mX12_thrown_63 M2).bind fun v7 => (if v7 = v3 then (if v3 = 0 then (if (lg_cmp (M2.2.2 0) (v6.toInt64)) = 0 then some M2 else none) else some M2) else none))))))))
set_option maxRecDepth 100000 in
set_option maxHeartbeats 4000000 in
theorem ct_sg_hit {p : Program} {l : Launch} {e : Env} {R : Room} {s : State} {m : MethodId} {args : Array Value} {below : List Frame} {meth : Method} {c : Code} {cells slots : Nat} {Q : State → Prop} {D : va_G} {cA : Nat → ClassId} {ad : Nat → Nat} {A : Nat → Prop} {tys : List (ClassId × FieldType)} (hl : l.stackTraces = false) (X : me_X p R s m args c D cA ad 425 5 425 8 cells slots 200 A cL_law RL tys) (hz : me_Z A s s.heap) {b Lx : Nat} {xs : Nat → Int32} (hX : va_X b Lx xs s s.heap) (hbl : b < s.heap.size) (hbA : ¬ A b) (hRc : cells + 1 ≤ R.cells) (hRs : slots + 6 ≤ R.slots) {i : Int32} {M M' : me_M} (h : sg_hit xs Lx i M = some M') (hk : me_W p l e R s m args below meth c (cells + 1) (slots + 6) Q D cA ad 425 8 A 2334 [(0, .ref b), (1, .ref (ad 0)), (2, .ref (ad 63)), (3, .ref (ad 424)), (4, .int i)] [] M') : me_W p l e R s m args below meth c cells slots Q D cA ad 425 8 A 1008 [(0, .ref b), (1, .ref (ad 0)), (2, .ref (ad 63)), (3, .ref (ad 424)), (4, .int i)] [] M := by
  have hn : 425 ≤ 425 := Nat.le_refl _
  have hnt : 5 ≤ 5 := Nat.le_refl _
  unfold sg_hit at h
  refine me_aload_n X (i := 1) 1 rfl dL_law_1008 ?_
  refine me_aload_n X (i := 0) 0 rfl dL_law_1009 ?_
  refine me_iload X (i := 4) 4 rfl dL_law_1010 ?_
  refine me_iconst X dL_law_1012 ic_1 ?_
  refine me_iadd X dL_law_1013 ?_
  obtain ⟨v1, e1, h⟩ := me_bd h
  refine me_sld X hX hbl hbA e1 dL_law_1014 ?_
  refine me_aload_n X (i := 0) 0 rfl dL_law_1015 ?_
  refine me_iload X (i := 4) 4 rfl dL_law_1016 ?_
  refine me_iconst X dL_law_1018 ic_2 ?_
  refine me_iadd X dL_law_1019 ?_
  obtain ⟨v2, e2, h⟩ := me_bd h
  refine me_sld X hX hbl hbA e2 dL_law_1020 ?_
  refine me_aload_n X (i := 3) 3 rfl dL_law_1021 ?_
  obtain ⟨⟨v3, M1⟩, e3, h⟩ := me_bd h
  refine me_callSH X hz hRc hRs [.ref (ad 0), .int v1, .int v2, .ref (ad 424)] (chL_hit hl e3) kH_176 rfl rfl (Nat.le_of_ble_eq_true rfl) (Nat.le_refl _) (Nat.le_of_ble_eq_true rfl) dL_law_1022 ?_
  have X1 := me_Xup X hRc hRs
  refine me_istore X1 (i := 5) [(5, .int v3), (0, .ref b), (1, .ref (ad 0)), (2, .ref (ad 63)), (3, .ref (ad 424)), (4, .int i)] (Nat.le_of_ble_eq_true rfl) rfl dL_law_1025 ?_
  refine me_aload_n X1 (i := 2) 3 rfl dL_law_1027 ?_
  refine me_aload_n X1 (i := 0) 1 rfl dL_law_1028 ?_
  refine me_iload X1 (i := 4) 5 rfl dL_law_1029 ?_
  refine me_iconst X1 dL_law_1031 ic_1 ?_
  refine me_iadd X1 dL_law_1032 ?_
  obtain ⟨v4, e4, h⟩ := me_bd h
  refine me_sld X1 hX hbl hbA e4 dL_law_1033 ?_
  refine me_aload_n X1 (i := 0) 1 rfl dL_law_1034 ?_
  refine me_iload X1 (i := 4) 5 rfl dL_law_1035 ?_
  refine me_iconst X1 dL_law_1037 ic_2 ?_
  refine me_iadd X1 dL_law_1038 ?_
  obtain ⟨v5, e5, h⟩ := me_bd h
  refine me_sld X1 hX hbl hbA e5 dL_law_1039 ?_
  obtain ⟨⟨v6, M2⟩, e6, h⟩ := me_bd h
  refine me_callVi X1 [.int v4, .int v5] (ctX12_hit_63 (n := 425) (nt := 5) (by decide) (by decide) e6) kV_L_178 rfl rfl (Nat.le_of_ble_eq_true rfl) me_k63 (Nat.le_of_ble_eq_true rfl) (Nat.le_refl _) (Nat.le_of_ble_eq_true rfl) dL_law_1040 ?_
  refine me_istore X1 (i := 6) [(6, .int v6), (5, .int v3), (0, .ref b), (1, .ref (ad 0)), (2, .ref (ad 63)), (3, .ref (ad 424)), (4, .int i)] (Nat.le_of_ble_eq_true rfl) rfl dL_law_1043 ?_
  refine me_aload_n X1 (i := 2) 4 rfl dL_law_1045 ?_
  obtain ⟨v7, e7, h⟩ := me_bd h
  refine me_callVi X1 [] (ctX12_thrown_63 (n := 425) (nt := 5) (by decide) (by decide) e7) kV_L_128 rfl rfl (Nat.le_of_ble_eq_true rfl) me_k63 (Nat.le_of_ble_eq_true rfl) (Nat.le_refl _) (Nat.le_of_ble_eq_true rfl) dL_law_1046 ?_
  refine me_iload X1 (i := 5) 1 rfl dL_law_1049 ?_
  refine me_icmp_eq X1 1056 (by decide) dL_law_1051 (fun c1 => ?_) (fun c1 => ?_)
  · have h := me_ip c1 h
    refine me_iload X1 (i := 5) 1 rfl dL_law_1056 ?_
    refine me_if_ne X1 1073 (by decide) dL_law_1058 (fun c2 => ?_) (fun c2 => ?_)
    · have h := me_in c2 h
      refine me_goto X1 2334 (by decide) dL_law_1073 ?_
      obtain rfl := me_so h
      refine me_sub (L' := [(0, .ref b), (1, .ref (ad 0)), (2, .ref (ad 63)), (3, .ref (ad 424)), (4, .int i)]) [2, 3, 4, 5, 6] rfl ?_
      exact hk
    · have h := me_ip c2 h
      refine me_aload_n X1 (i := 3) 5 rfl dL_law_1061 ?_
      refine me_iconst X1 dL_law_1062 ic_0 ?_
      refine me_lald X1 (by decide) dL_law_1063 ?_
      refine me_iload X1 (i := 6) 0 rfl dL_law_1064 ?_
      refine me_i2l X1 dL_law_1066 ?_
      refine me_lcmp X1 dL_law_1067 ?_
      refine me_if_eq X1 1073 (by decide) dL_law_1068 (fun c3 => ?_) (fun c3 => ?_)
      · have h := me_ip c3 h
        refine me_goto X1 2334 (by decide) dL_law_1073 ?_
        obtain rfl := me_so h
        refine me_sub (L' := [(0, .ref b), (1, .ref (ad 0)), (2, .ref (ad 63)), (3, .ref (ad 424)), (4, .int i)]) [2, 3, 4, 5, 6] rfl ?_
        exact hk
      · have h := me_in c3 h
        cases h
  · have h := me_in c1 h
    cases h
def sg_hits (xs : Nat → Int32) (Lx : Nat) (i : Int32) (M : me_M) : Option me_M :=
  ((me_sr xs Lx (i + 1)).bind fun v1 => ((hL_hits M v1).bind fun (v2, M1) => ((me_sr xs Lx (i + 1)).bind fun v3 => ((mX12_hits_63 M1 v3).bind fun (v4, M2) => ((mX12_thrown_63 M2).bind fun v5 => (if v5 = v2 then (if v2 = 0 then (if (lg_cmp (M2.2.2 0) (v4.toInt64)) = 0 then some M2 else none) else some M2) else none))))))
set_option maxRecDepth 100000 in
set_option maxHeartbeats 4000000 in
theorem ct_sg_hits {p : Program} {l : Launch} {e : Env} {R : Room} {s : State} {m : MethodId} {args : Array Value} {below : List Frame} {meth : Method} {c : Code} {cells slots : Nat} {Q : State → Prop} {D : va_G} {cA : Nat → ClassId} {ad : Nat → Nat} {A : Nat → Prop} {tys : List (ClassId × FieldType)} (hl : l.stackTraces = false) (X : me_X p R s m args c D cA ad 425 5 425 8 cells slots 200 A cL_law RL tys) (hz : me_Z A s s.heap) {b Lx : Nat} {xs : Nat → Int32} (hX : va_X b Lx xs s s.heap) (hbl : b < s.heap.size) (hbA : ¬ A b) (hRc : cells + 1 ≤ R.cells) (hRs : slots + 6 ≤ R.slots) {i : Int32} {M M' : me_M} (h : sg_hits xs Lx i M = some M') (hk : me_W p l e R s m args below meth c (cells + 1) (slots + 6) Q D cA ad 425 8 A 2334 [(0, .ref b), (1, .ref (ad 0)), (2, .ref (ad 63)), (3, .ref (ad 424)), (4, .int i)] [] M') : me_W p l e R s m args below meth c cells slots Q D cA ad 425 8 A 1076 [(0, .ref b), (1, .ref (ad 0)), (2, .ref (ad 63)), (3, .ref (ad 424)), (4, .int i)] [] M := by
  have hn : 425 ≤ 425 := Nat.le_refl _
  have hnt : 5 ≤ 5 := Nat.le_refl _
  unfold sg_hits at h
  refine me_aload_n X (i := 1) 1 rfl dL_law_1076 ?_
  refine me_aload_n X (i := 0) 0 rfl dL_law_1077 ?_
  refine me_iload X (i := 4) 4 rfl dL_law_1078 ?_
  refine me_iconst X dL_law_1080 ic_1 ?_
  refine me_iadd X dL_law_1081 ?_
  obtain ⟨v1, e1, h⟩ := me_bd h
  refine me_sld X hX hbl hbA e1 dL_law_1082 ?_
  refine me_aload_n X (i := 3) 3 rfl dL_law_1083 ?_
  obtain ⟨⟨v2, M1⟩, e2, h⟩ := me_bd h
  refine me_callSH X hz hRc hRs [.ref (ad 0), .int v1, .ref (ad 424)] (chL_hits hl e2) kH_179 rfl rfl (Nat.le_of_ble_eq_true rfl) (Nat.le_refl _) (Nat.le_of_ble_eq_true rfl) dL_law_1084 ?_
  have X1 := me_Xup X hRc hRs
  refine me_istore X1 (i := 5) [(5, .int v2), (0, .ref b), (1, .ref (ad 0)), (2, .ref (ad 63)), (3, .ref (ad 424)), (4, .int i)] (Nat.le_of_ble_eq_true rfl) rfl dL_law_1087 ?_
  refine me_aload_n X1 (i := 2) 3 rfl dL_law_1089 ?_
  refine me_aload_n X1 (i := 0) 1 rfl dL_law_1090 ?_
  refine me_iload X1 (i := 4) 5 rfl dL_law_1091 ?_
  refine me_iconst X1 dL_law_1093 ic_1 ?_
  refine me_iadd X1 dL_law_1094 ?_
  obtain ⟨v3, e3, h⟩ := me_bd h
  refine me_sld X1 hX hbl hbA e3 dL_law_1095 ?_
  obtain ⟨⟨v4, M2⟩, e4, h⟩ := me_bd h
  refine me_callVi X1 [.int v3] (ctX12_hits_63 (n := 425) (nt := 5) (by decide) (by decide) e4) kV_L_181 rfl rfl (Nat.le_of_ble_eq_true rfl) me_k63 (Nat.le_of_ble_eq_true rfl) (Nat.le_refl _) (Nat.le_of_ble_eq_true rfl) dL_law_1096 ?_
  refine me_istore X1 (i := 6) [(6, .int v4), (5, .int v2), (0, .ref b), (1, .ref (ad 0)), (2, .ref (ad 63)), (3, .ref (ad 424)), (4, .int i)] (Nat.le_of_ble_eq_true rfl) rfl dL_law_1099 ?_
  refine me_aload_n X1 (i := 2) 4 rfl dL_law_1101 ?_
  obtain ⟨v5, e5, h⟩ := me_bd h
  refine me_callVi X1 [] (ctX12_thrown_63 (n := 425) (nt := 5) (by decide) (by decide) e5) kV_L_128 rfl rfl (Nat.le_of_ble_eq_true rfl) me_k63 (Nat.le_of_ble_eq_true rfl) (Nat.le_refl _) (Nat.le_of_ble_eq_true rfl) dL_law_1102 ?_
  refine me_iload X1 (i := 5) 1 rfl dL_law_1105 ?_
  refine me_icmp_eq X1 1112 (by decide) dL_law_1107 (fun c1 => ?_) (fun c1 => ?_)
  · have h := me_ip c1 h
    refine me_iload X1 (i := 5) 1 rfl dL_law_1112 ?_
    refine me_if_ne X1 1129 (by decide) dL_law_1114 (fun c2 => ?_) (fun c2 => ?_)
    · have h := me_in c2 h
      refine me_goto X1 2334 (by decide) dL_law_1129 ?_
      obtain rfl := me_so h
      refine me_sub (L' := [(0, .ref b), (1, .ref (ad 0)), (2, .ref (ad 63)), (3, .ref (ad 424)), (4, .int i)]) [2, 3, 4, 5, 6] rfl ?_
      exact hk
    · have h := me_ip c2 h
      refine me_aload_n X1 (i := 3) 5 rfl dL_law_1117 ?_
      refine me_iconst X1 dL_law_1118 ic_0 ?_
      refine me_lald X1 (by decide) dL_law_1119 ?_
      refine me_iload X1 (i := 6) 0 rfl dL_law_1120 ?_
      refine me_i2l X1 dL_law_1122 ?_
      refine me_lcmp X1 dL_law_1123 ?_
      refine me_if_eq X1 1129 (by decide) dL_law_1124 (fun c3 => ?_) (fun c3 => ?_)
      · have h := me_ip c3 h
        refine me_goto X1 2334 (by decide) dL_law_1129 ?_
        obtain rfl := me_so h
        refine me_sub (L' := [(0, .ref b), (1, .ref (ad 0)), (2, .ref (ad 63)), (3, .ref (ad 424)), (4, .int i)]) [2, 3, 4, 5, 6] rfl ?_
        exact hk
      · have h := me_in c3 h
        cases h
  · have h := me_in c1 h
    cases h
def sg_often (xs : Nat → Int32) (Lx : Nat) (i : Int32) (M : me_M) : Option me_M :=
  ((me_sr xs Lx (i + 1)).bind fun v1 => ((hL_often M v1).bind fun (v2, M1) => ((me_sr xs Lx (i + 1)).bind fun v3 => ((mX12_often_63 M1 v3).bind fun (v4, M2) => ((mX12_thrown_63 M2).bind fun v5 => (if v5 = v2 then (if v2 = 0 then (if (lg_cmp (M2.2.2 0) (v4.toInt64)) = 0 then some M2 else none) else some M2) else none))))))
set_option maxRecDepth 100000 in
set_option maxHeartbeats 4000000 in
theorem ct_sg_often {p : Program} {l : Launch} {e : Env} {R : Room} {s : State} {m : MethodId} {args : Array Value} {below : List Frame} {meth : Method} {c : Code} {cells slots : Nat} {Q : State → Prop} {D : va_G} {cA : Nat → ClassId} {ad : Nat → Nat} {A : Nat → Prop} {tys : List (ClassId × FieldType)} (hl : l.stackTraces = false) (X : me_X p R s m args c D cA ad 425 5 425 8 cells slots 200 A cL_law RL tys) (hz : me_Z A s s.heap) {b Lx : Nat} {xs : Nat → Int32} (hX : va_X b Lx xs s s.heap) (hbl : b < s.heap.size) (hbA : ¬ A b) (hRc : cells + 1 ≤ R.cells) (hRs : slots + 6 ≤ R.slots) {i : Int32} {M M' : me_M} (h : sg_often xs Lx i M = some M') (hk : me_W p l e R s m args below meth c (cells + 1) (slots + 6) Q D cA ad 425 8 A 2334 [(0, .ref b), (1, .ref (ad 0)), (2, .ref (ad 63)), (3, .ref (ad 424)), (4, .int i)] [] M') : me_W p l e R s m args below meth c cells slots Q D cA ad 425 8 A 1132 [(0, .ref b), (1, .ref (ad 0)), (2, .ref (ad 63)), (3, .ref (ad 424)), (4, .int i)] [] M := by
  have hn : 425 ≤ 425 := Nat.le_refl _
  have hnt : 5 ≤ 5 := Nat.le_refl _
  unfold sg_often at h
  refine me_aload_n X (i := 1) 1 rfl dL_law_1132 ?_
  refine me_aload_n X (i := 0) 0 rfl dL_law_1133 ?_
  refine me_iload X (i := 4) 4 rfl dL_law_1134 ?_
  refine me_iconst X dL_law_1136 ic_1 ?_
  refine me_iadd X dL_law_1137 ?_
  obtain ⟨v1, e1, h⟩ := me_bd h
  refine me_sld X hX hbl hbA e1 dL_law_1138 ?_
  refine me_aload_n X (i := 3) 3 rfl dL_law_1139 ?_
  obtain ⟨⟨v2, M1⟩, e2, h⟩ := me_bd h
  refine me_callSH X hz hRc hRs [.ref (ad 0), .int v1, .ref (ad 424)] (chL_often hl e2) kH_182 rfl rfl (Nat.le_of_ble_eq_true rfl) (Nat.le_refl _) (Nat.le_of_ble_eq_true rfl) dL_law_1140 ?_
  have X1 := me_Xup X hRc hRs
  refine me_istore X1 (i := 5) [(5, .int v2), (0, .ref b), (1, .ref (ad 0)), (2, .ref (ad 63)), (3, .ref (ad 424)), (4, .int i)] (Nat.le_of_ble_eq_true rfl) rfl dL_law_1143 ?_
  refine me_aload_n X1 (i := 2) 3 rfl dL_law_1145 ?_
  refine me_aload_n X1 (i := 0) 1 rfl dL_law_1146 ?_
  refine me_iload X1 (i := 4) 5 rfl dL_law_1147 ?_
  refine me_iconst X1 dL_law_1149 ic_1 ?_
  refine me_iadd X1 dL_law_1150 ?_
  obtain ⟨v3, e3, h⟩ := me_bd h
  refine me_sld X1 hX hbl hbA e3 dL_law_1151 ?_
  obtain ⟨⟨v4, M2⟩, e4, h⟩ := me_bd h
  refine me_callVi X1 [.int v3] (ctX12_often_63 (n := 425) (nt := 5) (by decide) (by decide) e4) kV_L_184 rfl rfl (Nat.le_of_ble_eq_true rfl) me_k63 (Nat.le_of_ble_eq_true rfl) (Nat.le_refl _) (Nat.le_of_ble_eq_true rfl) dL_law_1152 ?_
  refine me_istore X1 (i := 6) [(6, .int v4), (5, .int v2), (0, .ref b), (1, .ref (ad 0)), (2, .ref (ad 63)), (3, .ref (ad 424)), (4, .int i)] (Nat.le_of_ble_eq_true rfl) rfl dL_law_1155 ?_
  refine me_aload_n X1 (i := 2) 4 rfl dL_law_1157 ?_
  obtain ⟨v5, e5, h⟩ := me_bd h
  refine me_callVi X1 [] (ctX12_thrown_63 (n := 425) (nt := 5) (by decide) (by decide) e5) kV_L_128 rfl rfl (Nat.le_of_ble_eq_true rfl) me_k63 (Nat.le_of_ble_eq_true rfl) (Nat.le_refl _) (Nat.le_of_ble_eq_true rfl) dL_law_1158 ?_
  refine me_iload X1 (i := 5) 1 rfl dL_law_1161 ?_
  refine me_icmp_eq X1 1168 (by decide) dL_law_1163 (fun c1 => ?_) (fun c1 => ?_)
  · have h := me_ip c1 h
    refine me_iload X1 (i := 5) 1 rfl dL_law_1168 ?_
    refine me_if_ne X1 1185 (by decide) dL_law_1170 (fun c2 => ?_) (fun c2 => ?_)
    · have h := me_in c2 h
      refine me_goto X1 2334 (by decide) dL_law_1185 ?_
      obtain rfl := me_so h
      refine me_sub (L' := [(0, .ref b), (1, .ref (ad 0)), (2, .ref (ad 63)), (3, .ref (ad 424)), (4, .int i)]) [2, 3, 4, 5, 6] rfl ?_
      exact hk
    · have h := me_ip c2 h
      refine me_aload_n X1 (i := 3) 5 rfl dL_law_1173 ?_
      refine me_iconst X1 dL_law_1174 ic_0 ?_
      refine me_lald X1 (by decide) dL_law_1175 ?_
      refine me_iload X1 (i := 6) 0 rfl dL_law_1176 ?_
      refine me_i2l X1 dL_law_1178 ?_
      refine me_lcmp X1 dL_law_1179 ?_
      refine me_if_eq X1 1185 (by decide) dL_law_1180 (fun c3 => ?_) (fun c3 => ?_)
      · have h := me_ip c3 h
        refine me_goto X1 2334 (by decide) dL_law_1185 ?_
        obtain rfl := me_so h
        refine me_sub (L' := [(0, .ref b), (1, .ref (ad 0)), (2, .ref (ad 63)), (3, .ref (ad 424)), (4, .int i)]) [2, 3, 4, 5, 6] rfl ?_
        exact hk
      · have h := me_in c3 h
        cases h
  · have h := me_in c1 h
    cases h
def sg_shares (xs : Nat → Int32) (Lx : Nat) (i : Int32) (M : me_M) : Option me_M :=
  ((me_sr xs Lx (i + 1)).bind fun v1 => ((hL_shares M v1).bind fun (v2, M1) => ((me_sr xs Lx (i + 1)).bind fun v3 => ((mX12_shares_63 M1 v3).bind fun (v4, M2) => ((mX12_thrown_63 M2).bind fun v5 => (if v5 = v2 then (if v2 = 0 then (if (lg_cmp (M2.2.2 0) (v4.toInt64)) = 0 then some M2 else none) else some M2) else none))))))
set_option maxRecDepth 100000 in
set_option maxHeartbeats 4000000 in
theorem ct_sg_shares {p : Program} {l : Launch} {e : Env} {R : Room} {s : State} {m : MethodId} {args : Array Value} {below : List Frame} {meth : Method} {c : Code} {cells slots : Nat} {Q : State → Prop} {D : va_G} {cA : Nat → ClassId} {ad : Nat → Nat} {A : Nat → Prop} {tys : List (ClassId × FieldType)} (hl : l.stackTraces = false) (X : me_X p R s m args c D cA ad 425 5 425 8 cells slots 200 A cL_law RL tys) (hz : me_Z A s s.heap) {b Lx : Nat} {xs : Nat → Int32} (hX : va_X b Lx xs s s.heap) (hbl : b < s.heap.size) (hbA : ¬ A b) (hRc : cells + 1 ≤ R.cells) (hRs : slots + 6 ≤ R.slots) {i : Int32} {M M' : me_M} (h : sg_shares xs Lx i M = some M') (hk : me_W p l e R s m args below meth c (cells + 1) (slots + 6) Q D cA ad 425 8 A 2334 [(0, .ref b), (1, .ref (ad 0)), (2, .ref (ad 63)), (3, .ref (ad 424)), (4, .int i)] [] M') : me_W p l e R s m args below meth c cells slots Q D cA ad 425 8 A 1188 [(0, .ref b), (1, .ref (ad 0)), (2, .ref (ad 63)), (3, .ref (ad 424)), (4, .int i)] [] M := by
  have hn : 425 ≤ 425 := Nat.le_refl _
  have hnt : 5 ≤ 5 := Nat.le_refl _
  unfold sg_shares at h
  refine me_aload_n X (i := 1) 1 rfl dL_law_1188 ?_
  refine me_aload_n X (i := 0) 0 rfl dL_law_1189 ?_
  refine me_iload X (i := 4) 4 rfl dL_law_1190 ?_
  refine me_iconst X dL_law_1192 ic_1 ?_
  refine me_iadd X dL_law_1193 ?_
  obtain ⟨v1, e1, h⟩ := me_bd h
  refine me_sld X hX hbl hbA e1 dL_law_1194 ?_
  refine me_aload_n X (i := 3) 3 rfl dL_law_1195 ?_
  obtain ⟨⟨v2, M1⟩, e2, h⟩ := me_bd h
  refine me_callSH X hz hRc hRs [.ref (ad 0), .int v1, .ref (ad 424)] (chL_shares hl e2) kH_185 rfl rfl (Nat.le_of_ble_eq_true rfl) (Nat.le_refl _) (Nat.le_of_ble_eq_true rfl) dL_law_1196 ?_
  have X1 := me_Xup X hRc hRs
  refine me_istore X1 (i := 5) [(5, .int v2), (0, .ref b), (1, .ref (ad 0)), (2, .ref (ad 63)), (3, .ref (ad 424)), (4, .int i)] (Nat.le_of_ble_eq_true rfl) rfl dL_law_1199 ?_
  refine me_aload_n X1 (i := 2) 3 rfl dL_law_1201 ?_
  refine me_aload_n X1 (i := 0) 1 rfl dL_law_1202 ?_
  refine me_iload X1 (i := 4) 5 rfl dL_law_1203 ?_
  refine me_iconst X1 dL_law_1205 ic_1 ?_
  refine me_iadd X1 dL_law_1206 ?_
  obtain ⟨v3, e3, h⟩ := me_bd h
  refine me_sld X1 hX hbl hbA e3 dL_law_1207 ?_
  obtain ⟨⟨v4, M2⟩, e4, h⟩ := me_bd h
  refine me_callVi X1 [.int v3] (ctX12_shares_63 (n := 425) (nt := 5) (by decide) (by decide) e4) kV_L_187 rfl rfl (Nat.le_of_ble_eq_true rfl) me_k63 (Nat.le_of_ble_eq_true rfl) (Nat.le_refl _) (Nat.le_of_ble_eq_true rfl) dL_law_1208 ?_
  refine me_istore X1 (i := 6) [(6, .int v4), (5, .int v2), (0, .ref b), (1, .ref (ad 0)), (2, .ref (ad 63)), (3, .ref (ad 424)), (4, .int i)] (Nat.le_of_ble_eq_true rfl) rfl dL_law_1211 ?_
  refine me_aload_n X1 (i := 2) 4 rfl dL_law_1213 ?_
  obtain ⟨v5, e5, h⟩ := me_bd h
  refine me_callVi X1 [] (ctX12_thrown_63 (n := 425) (nt := 5) (by decide) (by decide) e5) kV_L_128 rfl rfl (Nat.le_of_ble_eq_true rfl) me_k63 (Nat.le_of_ble_eq_true rfl) (Nat.le_refl _) (Nat.le_of_ble_eq_true rfl) dL_law_1214 ?_
  refine me_iload X1 (i := 5) 1 rfl dL_law_1217 ?_
  refine me_icmp_eq X1 1224 (by decide) dL_law_1219 (fun c1 => ?_) (fun c1 => ?_)
  · have h := me_ip c1 h
    refine me_iload X1 (i := 5) 1 rfl dL_law_1224 ?_
    refine me_if_ne X1 1241 (by decide) dL_law_1226 (fun c2 => ?_) (fun c2 => ?_)
    · have h := me_in c2 h
      refine me_goto X1 2334 (by decide) dL_law_1241 ?_
      obtain rfl := me_so h
      refine me_sub (L' := [(0, .ref b), (1, .ref (ad 0)), (2, .ref (ad 63)), (3, .ref (ad 424)), (4, .int i)]) [2, 3, 4, 5, 6] rfl ?_
      exact hk
    · have h := me_ip c2 h
      refine me_aload_n X1 (i := 3) 5 rfl dL_law_1229 ?_
      refine me_iconst X1 dL_law_1230 ic_0 ?_
      refine me_lald X1 (by decide) dL_law_1231 ?_
      refine me_iload X1 (i := 6) 0 rfl dL_law_1232 ?_
      refine me_i2l X1 dL_law_1234 ?_
      refine me_lcmp X1 dL_law_1235 ?_
      refine me_if_eq X1 1241 (by decide) dL_law_1236 (fun c3 => ?_) (fun c3 => ?_)
      · have h := me_ip c3 h
        refine me_goto X1 2334 (by decide) dL_law_1241 ?_
        obtain rfl := me_so h
        refine me_sub (L' := [(0, .ref b), (1, .ref (ad 0)), (2, .ref (ad 63)), (3, .ref (ad 424)), (4, .int i)]) [2, 3, 4, 5, 6] rfl ?_
        exact hk
      · have h := me_in c3 h
        cases h
  · have h := me_in c1 h
    cases h
