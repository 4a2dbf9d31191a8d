set_option maxHeartbeats 0 in
set_option maxRecDepth 100000 in
theorem cs_24 {p : Program} {l : Launch} {e : Env} {s : State} {m : MethodId} {args : Array Value} {below : List Frame} {meth : Method} {c : Code} {Q : State → Prop} {D : va_G} {o w : Nat → Nat} {v : Nat} {y : Nat → ClassId} {A : Nat → Prop} {b L : Nat} {xs : Nat → Int32} {x4 a1 a2 a3 : Int32} (hfl : l.stackTraces = false) (hx : p.tables.exec = Jvm.exec) (hb : c.code = code) (hml : c.maxLocals = 7) (hown : s.vm.findClass RL = some m.cls) (hts : ∀ w ∈ wsL_law, w.before args s = true) (hA : ∀ q, s.heap.size ≤ q → A q) (hK : va_K D vwCl (TY y) s) (hEX : EXC A s s.heap) (hX : va_X b L xs s s.heap) (hbl : b < s.heap.size) (hbA : ¬ A b) (hi1 : vp_in (x4 + (1 : Int32)) L) (hi2 : vp_in (x4 + (2 : Int32)) L) (hi3 : vp_in (x4 + (3 : Int32)) L) (ha1 : xs (x4 + (1 : Int32)).toNatClampNeg = a1) (ha2 : xs (x4 + (2 : Int32)).toNatClampNeg = a2) (ha3 : xs (x4 + (3 : Int32)).toNatClampNeg = a3) (pl : Nat → Int64) (te : Nat → Int32) (be : Nat → Int64) (cn : Int32) (ch : Nat → Int32) (le : Int32) (rE : Int32) (rL : Int32) (rP : Int32) (rF : Int32) (rS : Int32) (rD : Int32) (hs : Nat → Int64) (ho : Int32) (hc : Int32) (sl : Nat → Int64) (fi : Nat → Int32) (th : Int32) (ms : Nat → Int32) (mst : Nat → Int32) (smn : Int32) (msl : Nat → Int32) (mhs : Nat → Int32) (mtx : Nat → Int32) (mle : Int32) (mat : Int32) (mwl : Int32) (mrd : Nat → Int32) (mrm : Int32) (mtp : Int64) (mbt : Int64) (mtm : Nat → Int32) (mtn : Int32) (mnt : Int32) (mnb : Int32) (mun : Nat → Int32) (mum : Int32) (mau : Int32) (ou : Nat → Int64) (te' : Nat → Int32) (be' : Nat → Int64) (cn' : Int32) (th' : Int32) (mtm' : Nat → Int32) (mtn' : Int32) (ou' : Nat → Int64) (h : G_24 pl te be cn th ms mtm mtn ou a1 a2 a3 = some (te', be', cn', th', mtm', mtn', ou')) {H : Heap} {locs : List Loc} {ls : Array Slot} {cells slots : Nat} (hP : va_P D vwCl (LW o w v y pl te be cn ch le rE rL rP rF rS rD hs ho hc sl fi th ms mst smn msl mhs mtx mle mat mwl mrd mrm mtp mbt mtm mtn mnt mnb mun mum mau ou) H) (hD : va_D A (LW o w v y pl te be cn ch le rE rL rP rF rS rD hs ho hc sl fi th ms mst smn msl mhs mtx mle mat mwl mrd mrm mtp mbt mtm mtn mnt mnb mun mum mau ou)) (hS : va_S A s.heap H locs) (hl : lv_has ls 7 [(0, .ref b), (1, .ref (o 0)), (2, .ref (w 0)), (3, .ref v), (4, .int x4)]) (bcl : cells + 1 ≤ 1063) (bsl : slots + 6 ≤ 8907)
    (kk : ∀ (H : Heap) (locs : List Loc) (ls : Array Slot), va_P D vwCl (LW o w v y pl te' be' cn' ch le rE rL rP rF rS rD hs ho hc sl fi th' ms mst smn msl mhs mtx mle mat mwl mrd mrm mtp mbt mtm' mtn' mnt mnb mun mum mau ou') H → va_D A (LW o w v y pl te' be' cn' ch le rE rL rP rF rS rD hs ho hc sl fi th' ms mst smn msl mhs mtx mle mat mwl mrd mrm mtp mbt mtm' mtn' mnt mnb mun mum mau ou') → va_S A s.heap H locs → lv_has ls 7 [(0, .ref b), (1, .ref (o 0)), (2, .ref (w 0)), (3, .ref v), (4, .int x4)] → W p l e room_1 s m args below meth c H locs (cells + 1) (slots + 6) Q (F0 m 2109 ls [])) : W p l e room_1 s m args below meth c H locs cells slots Q (F0 m 1650 ls []) := by
  unfold G_24 at h
  refine lv_aload_n hx hb dL_law_1650 rfl (lv_at hl 1 rfl) ?_
  refine lv_aload_n hx hb dL_law_1651 rfl (lv_at hl 0 rfl) ?_
  refine lv_iload hx hb dL_law_1652 (lv_at hl 4 rfl) ?_
  refine lv_iconst (v := (1 : Int32)) hx hb dL_law_1654 (by decide) ?_
  refine lv_iadd hx hb dL_law_1655 ?_
  refine va_sld hx hb hX hbl hbA hS hi1 dL_law_1656 ?_
  refine eqi ha1 ?_
  refine lv_aload_n hx hb dL_law_1657 rfl (lv_at hl 3 rfl) ?_
  obtain ⟨r1, te2, be3, cn4, ou5, g6, h⟩ := fB5 h
  refine cW_i (As := [.ref (o 0), .int a1, .ref v]) (rest := []) (ws1 := (LW o w v y pl te2 be3 cn4 ch le rE rL rP rF rS rD hs ho hc sl fi th ms mst smn msl mhs mtx mle mat mwl mrd mrm mtp mbt mtm mtn mnt mnb mun mum mau ou5)) ⟨hx, hb, hml, hown, hts⟩ (c_L_wayTurns l hfl D o v y _ pl te be cn ch le rE rL rP rF rS rD hs ho hc sl fi ou a1 r1 te2 be3 cn4 ou5 g6) (vx_cwSW 3 hts gL_law_L_wayTurns rfl rfl rfl hd_L_wayTurns ⟨Nat.le_of_ble_eq_true rfl, Nat.le_of_ble_eq_true rfl⟩) hK hP hD hS hA hEX [0, 1, 2, 3, 4, 5, 6, 7, 8, 9, 10, 11, 21] [12, 13, 14, 15, 16, 17, 18, 19, 20] [9, 10, 11, 12, 13, 14, 15, 16, 17, 18, 19, 20, 0, 1, 2, 3, 4, 5, 6, 7, 8, 21] rfl rfl rfl (by decide) rfl rfl rfl rfl hl.1 rfl (Nat.le_of_ble_eq_true rfl) dL_law_1658 ⟨bcl, bsl⟩ (fun H locs hP hD hS => ?_)
  refine lv_istore (lv' := [(5, .int r1), (0, .ref b), (1, .ref (o 0)), (2, .ref (w 0)), (3, .ref v), (4, .int x4)]) hx hb dL_law_1661 hl (by decide) rfl (fun ls hl => ?_)
  refine lv_aload_n hx hb dL_law_1663 rfl (lv_at hl 3 rfl) ?_
  refine lv_aload_n hx hb dL_law_1664 rfl (lv_at hl 1 rfl) ?_
  refine lv_iload hx hb dL_law_1665 (lv_at hl 5 rfl) ?_
  refine lv_iconst (v := (1 : Int32)) hx hb dL_law_1667 (by decide) ?_
  refine lv_iadd hx hb dL_law_1668 ?_
  refine va_sld hx hb hX hbl hbA hS hi1 dL_law_1669 ?_
  refine eqi ha1 ?_
  obtain ⟨r7, th8, mtm9, mtn10, g11, h⟩ := fB4 h
  refine cV_i (As := [.int a1]) (rest := []) (ws1 := (LW o w v y pl te2 be3 cn4 ch le rE rL rP rF rS rD hs ho hc sl fi th8 ms mst smn msl mhs mtx mle mat mwl mrd mrm mtp mbt mtm9 mtn10 mnt mnb mun mum mau ou5)) ⟨hx, hb, hml, hown, hts⟩ (c_X7_wayTurns l D w y _ th ms mst smn msl mhs mtx mle mat mwl mrd mrm mtp mbt mtm mtn mnt mnb mun mum mau a1 r7 th8 mtm9 mtn10 g11) (cwV 1 hts gL_law_X7_wayTurns rfl rfl rfl hd_X7_wayTurns ⟨Nat.le_of_ble_eq_true rfl, Nat.le_of_ble_eq_true rfl⟩) hK hP hD hS hA [12, 13, 14, 15, 16, 17, 18, 19, 20] [0, 1, 2, 3, 4, 5, 6, 7, 8, 9, 10, 11, 21] [0, 1, 2, 3, 4, 5, 6, 7, 8, 9, 10, 11, 13, 14, 15, 16, 17, 18, 19, 20, 21, 12] rfl rfl rfl (by decide) rfl rfl rfl 0 (ci := 5) rfl rfl rfl hl.1 rfl (Nat.le_of_ble_eq_true rfl) dL_law_1670 ⟨bcl, bsl⟩ (fun H locs hP hD hS => ?_)
  refine lv_istore (lv' := [(6, .int r7), (5, .int r1), (0, .ref b), (1, .ref (o 0)), (2, .ref (w 0)), (3, .ref v), (4, .int x4)]) hx hb dL_law_1673 hl (by decide) rfl (fun ls hl => ?_)
  refine lv_aload_n hx hb dL_law_1675 rfl (lv_at hl 4 rfl) ?_
  refine cV_i (As := []) (rest := []) (ws1 := (LW o w v y pl te2 be3 cn4 ch le rE rL rP rF rS rD hs ho hc sl fi th8 ms mst smn msl mhs mtx mle mat mwl mrd mrm mtp mbt mtm9 mtn10 mnt mnb mun mum mau ou5)) ⟨hx, hb, hml, hown, hts⟩ (c_X7_thrown l D w y _ th8 ms mst smn msl mhs mtx mle mat mwl mrd mrm mtp mbt mtm9 mtn10 mnt mnb mun mum mau ) (cwV 0 hts gL_law_X7_thrown rfl rfl rfl hd_X7_thrown ⟨Nat.le_of_ble_eq_true rfl, Nat.le_of_ble_eq_true rfl⟩) hK hP hD hS hA [12, 13, 14, 15, 16, 17, 18, 19, 20] [0, 1, 2, 3, 4, 5, 6, 7, 8, 9, 10, 11, 21] [0, 1, 2, 3, 4, 5, 6, 7, 8, 9, 10, 11, 13, 14, 15, 16, 17, 18, 19, 20, 21, 12] rfl rfl rfl (by decide) rfl rfl rfl 0 (ci := 5) rfl rfl rfl hl.1 rfl (Nat.le_of_ble_eq_true rfl) dL_law_1676 ⟨bcl, bsl⟩ (fun H locs hP hD hS => ?_)
  refine lv_iload hx hb dL_law_1679 (lv_at hl 1 rfl) ?_
  refine lv_icmp_eq (tgt := 1686) hx hb dL_law_1681 (by decide) (fun c12 => ?_) (fun c12 => ?_)
  · replace h := fT c12 h
    refine lv_iload hx hb dL_law_1686 (lv_at hl 1 rfl) ?_
    refine lv_if_ne (tgt := 1703) hx hb dL_law_1688 (by decide) (fun c13 => ?_) (fun c13 => ?_)
    · replace h := fF c13 h
      refine lv_goto (tgt := 2109) hx hb dL_law_1703 (by decide) ?_
      cases h
      exact kk _ _ _ hP hD hS (lv_sub hl [2, 3, 4, 5, 6] rfl)
    · replace h := fT c13 h
      refine lv_aload_n hx hb dL_law_1691 rfl (lv_at hl 5 rfl) ?_
      refine lv_iconst (v := (0 : Int32)) hx hb dL_law_1692 (by decide) ?_
      refine va_lald hx hb hK hP 21 1 rfl rfl (show ¬ ((0 : Int32) < 0 ∨ 1 ≤ (0 : Int32).toNatClampNeg) from by decide) dL_law_1693 ?_
      refine lv_iload hx hb dL_law_1694 (lv_at hl 0 rfl) ?_
      refine lv_i2l (v := r7.toInt64) hx hb dL_law_1696 rfl ?_
      refine lx_eq (tgt := 1703) hx hb dL_law_1697 dL_law_1698 (by decide) (fun c14 => ?_) (fun c14 => ?_)
      · replace h := fT c14 h
        refine lv_goto (tgt := 2109) hx hb dL_law_1703 (by decide) ?_
        cases h
        exact kk _ _ _ hP hD hS (lv_sub hl [2, 3, 4, 5, 6] rfl)
      · replace h := fF c14 h
        refine lv_iconst (v := (0 : Int32)) hx hb dL_law_1701 (by decide) ?_
        exact fN h
  · replace h := fF c12 h
    refine lv_iconst (v := (0 : Int32)) hx hb dL_law_1684 (by decide) ?_
    exact fN h
set_option maxHeartbeats 0 in
set_option maxRecDepth 100000 in
theorem cs_25 {p : Program} {l : Launch} {e : Env} {s : State} {m : MethodId} {args : Array Value} {below : List Frame} {meth : Method} {c : Code} {Q : State → Prop} {D : va_G} {o w : Nat → Nat} {v : Nat} {y : Nat → ClassId} {A : Nat → Prop} {b L : Nat} {xs : Nat → Int32} {x4 a1 a2 a3 : Int32} (hfl : l.stackTraces = false) (hx : p.tables.exec = Jvm.exec) (hb : c.code = code) (hml : c.maxLocals = 7) (hown : s.vm.findClass RL = some m.cls) (hts : ∀ w ∈ wsL_law, w.before args s = true) (hA : ∀ q, s.heap.size ≤ q → A q) (hK : va_K D vwCl (TY y) s) (hEX : EXC A s s.heap) (hX : va_X b L xs s s.heap) (hbl : b < s.heap.size) (hbA : ¬ A b) (hi1 : vp_in (x4 + (1 : Int32)) L) (hi2 : vp_in (x4 + (2 : Int32)) L) (hi3 : vp_in (x4 + (3 : Int32)) L) (ha1 : xs (x4 + (1 : Int32)).toNatClampNeg = a1) (ha2 : xs (x4 + (2 : Int32)).toNatClampNeg = a2) (ha3 : xs (x4 + (3 : Int32)).toNatClampNeg = a3) (pl : Nat → Int64) (te : Nat → Int32) (be : Nat → Int64) (cn : Int32) (ch : Nat → Int32) (le : Int32) (rE : Int32) (rL : Int32) (rP : Int32) (rF : Int32) (rS : Int32) (rD : Int32) (hs : Nat → Int64) (ho : Int32) (hc : Int32) (sl : Nat → Int64) (fi : Nat → Int32) (th : Int32) (ms : Nat → Int32) (mst : Nat → Int32) (smn : Int32) (msl : Nat → Int32) (mhs : Nat → Int32) (mtx : Nat → Int32) (mle : Int32) (mat : Int32) (mwl : Int32) (mrd : Nat → Int32) (mrm : Int32) (mtp : Int64) (mbt : Int64) (mtm : Nat → Int32) (mtn : Int32) (mnt : Int32) (mnb : Int32) (mun : Nat → Int32) (mum : Int32) (mau : Int32) (ou : Nat → Int64) (th' : Int32) (ou' : Nat → Int64) (h : G_25 pl th ms ou a1 a2 a3 = some (th', ou')) {H : Heap} {locs : List Loc} {ls : Array Slot} {cells slots : Nat} (hP : va_P D vwCl (LW o w v y pl te be cn ch le rE rL rP rF rS rD hs ho hc sl fi th ms mst smn msl mhs mtx mle mat mwl mrd mrm mtp mbt mtm mtn mnt mnb mun mum mau ou) H) (hD : va_D A (LW o w v y pl te be cn ch le rE rL rP rF rS rD hs ho hc sl fi th ms mst smn msl mhs mtx mle mat mwl mrd mrm mtp mbt mtm mtn mnt mnb mun mum mau ou)) (hS : va_S A s.heap H locs) (hl : lv_has ls 7 [(0, .ref b), (1, .ref (o 0)), (2, .ref (w 0)), (3, .ref v), (4, .int x4)]) (bcl : cells + 1 ≤ 1063) (bsl : slots + 6 ≤ 8907)
    (kk : ∀ (H : Heap) (locs : List Loc) (ls : Array Slot), va_P D vwCl (LW o w v y pl te be cn ch le rE rL rP rF rS rD hs ho hc sl fi th' ms mst smn msl mhs mtx mle mat mwl mrd mrm mtp mbt mtm mtn mnt mnb mun mum mau ou') H → va_D A (LW o w v y pl te be cn ch le rE rL rP rF rS rD hs ho hc sl fi th' ms mst smn msl mhs mtx mle mat mwl mrd mrm mtp mbt mtm mtn mnt mnb mun mum mau ou') → va_S A s.heap H locs → lv_has ls 7 [(0, .ref b), (1, .ref (o 0)), (2, .ref (w 0)), (3, .ref v), (4, .int x4)] → W p l e room_1 s m args below meth c H locs (cells + 1) (slots + 6) Q (F0 m 2109 ls [])) : W p l e room_1 s m args below meth c H locs cells slots Q (F0 m 1706 ls []) := by
  unfold G_25 at h
  refine lv_aload_n hx hb dL_law_1706 rfl (lv_at hl 1 rfl) ?_
  refine lv_aload_n hx hb dL_law_1707 rfl (lv_at hl 0 rfl) ?_
  refine lv_iload hx hb dL_law_1708 (lv_at hl 4 rfl) ?_
  refine lv_iconst (v := (1 : Int32)) hx hb dL_law_1710 (by decide) ?_
  refine lv_iadd hx hb dL_law_1711 ?_
  refine va_sld hx hb hX hbl hbA hS hi1 dL_law_1712 ?_
  refine eqi ha1 ?_
  refine lv_aload_n hx hb dL_law_1713 rfl (lv_at hl 3 rfl) ?_
  obtain ⟨r1, ou2, g3, h⟩ := fB2 h
  refine cW_i (As := [.ref (o 0), .int a1, .ref v]) (rest := []) (ws1 := (LW o w v y pl te be cn ch le rE rL rP rF rS rD hs ho hc sl fi th ms mst smn msl mhs mtx mle mat mwl mrd mrm mtp mbt mtm mtn mnt mnb mun mum mau ou2)) ⟨hx, hb, hml, hown, hts⟩ (c_L_beginsRight l hfl D o v y _ pl te be cn ch le rE rL rP rF rS rD hs ho hc sl fi ou a1 r1 ou2 g3) (vx_cwSW 3 hts gL_law_L_beginsRight rfl rfl rfl hd_L_beginsRight ⟨Nat.le_of_ble_eq_true rfl, Nat.le_of_ble_eq_true rfl⟩) hK hP hD hS hA hEX [0, 1, 2, 3, 4, 5, 6, 7, 8, 9, 10, 11, 21] [12, 13, 14, 15, 16, 17, 18, 19, 20] [9, 10, 11, 12, 13, 14, 15, 16, 17, 18, 19, 20, 0, 1, 2, 3, 4, 5, 6, 7, 8, 21] rfl rfl rfl (by decide) rfl rfl rfl rfl hl.1 rfl (Nat.le_of_ble_eq_true rfl) dL_law_1714 ⟨bcl, bsl⟩ (fun H locs hP hD hS => ?_)
  refine lv_istore (lv' := [(5, .int r1), (0, .ref b), (1, .ref (o 0)), (2, .ref (w 0)), (3, .ref v), (4, .int x4)]) hx hb dL_law_1717 hl (by decide) rfl (fun ls hl => ?_)
  refine lv_aload_n hx hb dL_law_1719 rfl (lv_at hl 3 rfl) ?_
  refine lv_aload_n hx hb dL_law_1720 rfl (lv_at hl 1 rfl) ?_
  refine lv_iload hx hb dL_law_1721 (lv_at hl 5 rfl) ?_
  refine lv_iconst (v := (1 : Int32)) hx hb dL_law_1723 (by decide) ?_
  refine lv_iadd hx hb dL_law_1724 ?_
  refine va_sld hx hb hX hbl hbA hS hi1 dL_law_1725 ?_
  refine eqi ha1 ?_
  obtain ⟨r4, th5, g6, h⟩ := fB2 h
  refine cV_i (As := [.int a1]) (rest := []) (ws1 := (LW o w v y pl te be cn ch le rE rL rP rF rS rD hs ho hc sl fi th5 ms mst smn msl mhs mtx mle mat mwl mrd mrm mtp mbt mtm mtn mnt mnb mun mum mau ou2)) ⟨hx, hb, hml, hown, hts⟩ (c_X7_beginsRight l D w y _ th ms mst smn msl mhs mtx mle mat mwl mrd mrm mtp mbt mtm mtn mnt mnb mun mum mau a1 r4 th5 g6) (cwV 1 hts gL_law_X7_beginsRight rfl rfl rfl hd_X7_beginsRight ⟨Nat.le_of_ble_eq_true rfl, Nat.le_of_ble_eq_true rfl⟩) hK hP hD hS hA [12, 13, 14, 15, 16, 17, 18, 19, 20] [0, 1, 2, 3, 4, 5, 6, 7, 8, 9, 10, 11, 21] [0, 1, 2, 3, 4, 5, 6, 7, 8, 9, 10, 11, 13, 14, 15, 16, 17, 18, 19, 20, 21, 12] rfl rfl rfl (by decide) rfl rfl rfl 0 (ci := 5) rfl rfl rfl hl.1 rfl (Nat.le_of_ble_eq_true rfl) dL_law_1726 ⟨bcl, bsl⟩ (fun H locs hP hD hS => ?_)
  refine lv_istore (lv' := [(6, .int r4), (5, .int r1), (0, .ref b), (1, .ref (o 0)), (2, .ref (w 0)), (3, .ref v), (4, .int x4)]) hx hb dL_law_1729 hl (by decide) rfl (fun ls hl => ?_)
  refine lv_aload_n hx hb dL_law_1731 rfl (lv_at hl 4 rfl) ?_
  refine cV_i (As := []) (rest := []) (ws1 := (LW o w v y pl te be cn ch le rE rL rP rF rS rD hs ho hc sl fi th5 ms mst smn msl mhs mtx mle mat mwl mrd mrm mtp mbt mtm mtn mnt mnb mun mum mau ou2)) ⟨hx, hb, hml, hown, hts⟩ (c_X7_thrown l D w y _ th5 ms mst smn msl mhs mtx mle mat mwl mrd mrm mtp mbt mtm mtn mnt mnb mun mum mau ) (cwV 0 hts gL_law_X7_thrown rfl rfl rfl hd_X7_thrown ⟨Nat.le_of_ble_eq_true rfl, Nat.le_of_ble_eq_true rfl⟩) hK hP hD hS hA [12, 13, 14, 15, 16, 17, 18, 19, 20] [0, 1, 2, 3, 4, 5, 6, 7, 8, 9, 10, 11, 21] [0, 1, 2, 3, 4, 5, 6, 7, 8, 9, 10, 11, 13, 14, 15, 16, 17, 18, 19, 20, 21, 12] rfl rfl rfl (by decide) rfl rfl rfl 0 (ci := 5) rfl rfl rfl hl.1 rfl (Nat.le_of_ble_eq_true rfl) dL_law_1732 ⟨bcl, bsl⟩ (fun H locs hP hD hS => ?_)
  refine lv_iload hx hb dL_law_1735 (lv_at hl 1 rfl) ?_
  refine lv_icmp_eq (tgt := 1742) hx hb dL_law_1737 (by decide) (fun c7 => ?_) (fun c7 => ?_)
  · replace h := fT c7 h
    refine lv_iload hx hb dL_law_1742 (lv_at hl 1 rfl) ?_
    refine lv_if_ne (tgt := 1766) hx hb dL_law_1744 (by decide) (fun c8 => ?_) (fun c8 => ?_)
    · replace h := fF c8 h
      refine lv_goto (tgt := 2109) hx hb dL_law_1766 (by decide) ?_
      cases h
      exact kk _ _ _ hP hD hS (lv_sub hl [2, 3, 4, 5, 6] rfl)
    · replace h := fT c8 h
      refine lv_aload_n hx hb dL_law_1747 rfl (lv_at hl 5 rfl) ?_
      refine lv_iconst (v := (0 : Int32)) hx hb dL_law_1748 (by decide) ?_
      refine va_lald hx hb hK hP 21 1 rfl rfl (show ¬ ((0 : Int32) < 0 ∨ 1 ≤ (0 : Int32).toNatClampNeg) from by decide) dL_law_1749 ?_
      refine lv_iload hx hb dL_law_1750 (lv_at hl 0 rfl) ?_
      have J9 : ∀ (v10 : Int64) (ls : Array Slot), v10 = (if r4 = (0 : Int32) then (0 : Int64) else (1 : Int64)) → lv_has ls 7 [(0, .ref b), (1, .ref (o 0)), (2, .ref (w 0)), (3, .ref v), (4, .int x4), (5, .int r1), (6, .int r4)] → W p l e room_1 s m args below meth c H locs (cells + 1) (slots + 6) Q (F0 m 1760 ls [.long v10, .long (ou2 (0 : Int32).toNatClampNeg)]) := by
        intro v10 ls ev10 hl
        subst ev10
        refine lx_eq (tgt := 1766) hx hb dL_law_1760 dL_law_1761 (by decide) (fun c11 => ?_) (fun c11 => ?_)
        · replace h := fT c11 h
          refine lv_goto (tgt := 2109) hx hb dL_law_1766 (by decide) ?_
          cases h
          exact kk _ _ _ hP hD hS (lv_sub hl [0, 1, 2, 3, 4] rfl)
        · replace h := fF c11 h
          refine lv_iconst (v := (0 : Int32)) hx hb dL_law_1764 (by decide) ?_
          exact fN h
      refine lv_if_eq (tgt := 1759) hx hb dL_law_1752 (by decide) (fun c12 => ?_) (fun c12 => ?_)
      · refine lv_lconst (v := (0 : Int64)) hx hb dL_law_1759 rfl ?_
        exact J9 _ _ (by rw [if_pos c12]) (lv_sub hl [2, 3, 4, 5, 6, 1, 0] rfl)
      · refine lv_lconst (v := (1 : Int64)) hx hb dL_law_1755 rfl ?_
        refine lv_goto (tgt := 1760) hx hb dL_law_1756 (by decide) ?_
        exact J9 _ _ (by rw [if_neg c12]) (lv_sub hl [2, 3, 4, 5, 6, 1, 0] rfl)
  · replace h := fF c7 h
    refine lv_iconst (v := (0 : Int32)) hx hb dL_law_1740 (by decide) ?_
    exact fN h
set_option maxHeartbeats 0 in
set_option maxRecDepth 100000 in
theorem cs_26 {p : Program} {l : Launch} {e : Env} {s : State} {m : MethodId} {args : Array Value} {below : List Frame} {meth : Method} {c : Code} {Q : State → Prop} {D : va_G} {o w : Nat → Nat} {v : Nat} {y : Nat → ClassId} {A : Nat → Prop} {b L : Nat} {xs : Nat → Int32} {x4 a1 a2 a3 : Int32} (hfl : l.stackTraces = false) (hx : p.tables.exec = Jvm.exec) (hb : c.code = code) (hml : c.maxLocals = 7) (hown : s.vm.findClass RL = some m.cls) (hts : ∀ w ∈ wsL_law, w.before args s = true) (hA : ∀ q, s.heap.size ≤ q → A q) (hK : va_K D vwCl (TY y) s) (hEX : EXC A s s.heap) (hX : va_X b L xs s s.heap) (hbl : b < s.heap.size) (hbA : ¬ A b) (hi1 : vp_in (x4 + (1 : Int32)) L) (hi2 : vp_in (x4 + (2 : Int32)) L) (hi3 : vp_in (x4 + (3 : Int32)) L) (ha1 : xs (x4 + (1 : Int32)).toNatClampNeg = a1) (ha2 : xs (x4 + (2 : Int32)).toNatClampNeg = a2) (ha3 : xs (x4 + (3 : Int32)).toNatClampNeg = a3) (pl : Nat → Int64) (te : Nat → Int32) (be : Nat → Int64) (cn : Int32) (ch : Nat → Int32) (le : Int32) (rE : Int32) (rL : Int32) (rP : Int32) (rF : Int32) (rS : Int32) (rD : Int32) (hs : Nat → Int64) (ho : Int32) (hc : Int32) (sl : Nat → Int64) (fi : Nat → Int32) (th : Int32) (ms : Nat → Int32) (mst : Nat → Int32) (smn : Int32) (msl : Nat → Int32) (mhs : Nat → Int32) (mtx : Nat → Int32) (mle : Int32) (mat : Int32) (mwl : Int32) (mrd : Nat → Int32) (mrm : Int32) (mtp : Int64) (mbt : Int64) (mtm : Nat → Int32) (mtn : Int32) (mnt : Int32) (mnb : Int32) (mun : Nat → Int32) (mum : Int32) (mau : Int32) (ou : Nat → Int64) (ch' : Nat → Int32) (le' : Int32) (th' : Int32) (mtx' : Nat → Int32) (mle' : Int32) (ou' : Nat → Int64) (h : G_26 ch le th mtx mle ou a1 a2 a3 = some (ch', le', th', mtx', mle', ou')) {H : Heap} {locs : List Loc} {ls : Array Slot} {cells slots : Nat} (hP : va_P D vwCl (LW o w v y pl te be cn ch le rE rL rP rF rS rD hs ho hc sl fi th ms mst smn msl mhs mtx mle mat mwl mrd mrm mtp mbt mtm mtn mnt mnb mun mum mau ou) H) (hD : va_D A (LW o w v y pl te be cn ch le rE rL rP rF rS rD hs ho hc sl fi th ms mst smn msl mhs mtx mle mat mwl mrd mrm mtp mbt mtm mtn mnt mnb mun mum mau ou)) (hS : va_S A s.heap H locs) (hl : lv_has ls 7 [(0, .ref b), (1, .ref (o 0)), (2, .ref (w 0)), (3, .ref v), (4, .int x4)]) (bcl : cells + 1 ≤ 1063) (bsl : slots + 6 ≤ 8907)
    (kk : ∀ (H : Heap) (locs : List Loc) (ls : Array Slot), va_P D vwCl (LW o w v y pl te be cn ch' le' rE rL rP rF rS rD hs ho hc sl fi th' ms mst smn msl mhs mtx' mle' mat mwl mrd mrm mtp mbt mtm mtn mnt mnb mun mum mau ou') H → va_D A (LW o w v y pl te be cn ch' le' rE rL rP rF rS rD hs ho hc sl fi th' ms mst smn msl mhs mtx' mle' mat mwl mrd mrm mtp mbt mtm mtn mnt mnb mun mum mau ou') → va_S A s.heap H locs → lv_has ls 7 [(0, .ref b), (1, .ref (o 0)), (2, .ref (w 0)), (3, .ref v), (4, .int x4)] → W p l e room_1 s m args below meth c H locs (cells + 1) (slots + 6) Q (F0 m 2109 ls [])) : W p l e room_1 s m args below meth c H locs cells slots Q (F0 m 1769 ls []) := by
  have q0 := hts (.constantLong RL 202 (4294967295)) (by decide +kernel)
  unfold G_26 at h
  refine lv_aload_n hx hb dL_law_1769 rfl (lv_at hl 1 rfl) ?_
  refine lv_aload_n hx hb dL_law_1770 rfl (lv_at hl 0 rfl) ?_
  refine lv_iload hx hb dL_law_1771 (lv_at hl 4 rfl) ?_
  refine lv_iconst (v := (1 : Int32)) hx hb dL_law_1773 (by decide) ?_
  refine lv_iadd hx hb dL_law_1774 ?_
  refine va_sld hx hb hX hbl hbA hS hi1 dL_law_1775 ?_
  refine eqi ha1 ?_
  refine lv_i2l (v := a1.toInt64) hx hb dL_law_1776 rfl ?_
  refine lv_bipush (v := (32 : Int32)) hx hb dL_law_1777 (by decide) ?_
  refine lv_lshl (v := a1.toInt64 <<< ((32 : Int32).toInt64 &&& 63)) hx hb dL_law_1779 rfl ?_
  refine lv_aload_n hx hb dL_law_1780 rfl (lv_at hl 0 rfl) ?_
  refine lv_iload hx hb dL_law_1781 (lv_at hl 4 rfl) ?_
  refine lv_iconst (v := (2 : Int32)) hx hb dL_law_1783 (by decide) ?_
  refine lv_iadd hx hb dL_law_1784 ?_
  refine va_sld hx hb hX hbl hbA hS hi2 dL_law_1785 ?_
  refine eqi ha2 ?_
  refine lv_i2l (v := a2.toInt64) hx hb dL_law_1786 rfl ?_
  refine lv_ldc2 (v := (4294967295 : Int64)) hx hb hown q0 dL_law_1787 ?_
  refine lv_land hx hb dL_law_1790 ?_
  refine lv_lor hx hb dL_law_1791 ?_
  refine lv_aload_n hx hb dL_law_1792 rfl (lv_at hl 3 rfl) ?_
  obtain ⟨r1, ch2, le3, ou4, g5, h⟩ := fB4 h
  refine cW_i (As := [.ref (o 0), .long ((a1.toInt64 <<< ((32 : Int32).toInt64 &&& 63)) ||| (a2.toInt64 &&& (4294967295 : Int64))), .ref v]) (rest := []) (ws1 := (LW o w v y pl te be cn ch2 le3 rE rL rP rF rS rD hs ho hc sl fi th ms mst smn msl mhs mtx mle mat mwl mrd mrm mtp mbt mtm mtn mnt mnb mun mum mau ou4)) ⟨hx, hb, hml, hown, hts⟩ (c_L_appendText l hfl D o v y _ pl te be cn ch le rE rL rP rF rS rD hs ho hc sl fi ou ((a1.toInt64 <<< ((32 : Int32).toInt64 &&& 63)) ||| (a2.toInt64 &&& (4294967295 : Int64))) r1 ch2 le3 ou4 g5) (vx_cwSW 3 hts gL_law_L_appendText rfl rfl rfl hd_L_appendText ⟨Nat.le_of_ble_eq_true rfl, Nat.le_of_ble_eq_true rfl⟩) hK hP hD hS hA hEX [0, 1, 2, 3, 4, 5, 6, 7, 8, 9, 10, 11, 21] [12, 13, 14, 15, 16, 17, 18, 19, 20] [9, 10, 11, 12, 13, 14, 15, 16, 17, 18, 19, 20, 0, 1, 2, 3, 4, 5, 6, 7, 8, 21] rfl rfl rfl (by decide) rfl rfl rfl rfl hl.1 rfl (Nat.le_of_ble_eq_true rfl) dL_law_1793 ⟨bcl, bsl⟩ (fun H locs hP hD hS => ?_)
  refine lv_istore (lv' := [(5, .int r1), (0, .ref b), (1, .ref (o 0)), (2, .ref (w 0)), (3, .ref v), (4, .int x4)]) hx hb dL_law_1796 hl (by decide) rfl (fun ls hl => ?_)
  refine lv_aload_n hx hb dL_law_1798 rfl (lv_at hl 3 rfl) ?_
  refine lv_aload_n hx hb dL_law_1799 rfl (lv_at hl 1 rfl) ?_
  refine lv_iload hx hb dL_law_1800 (lv_at hl 5 rfl) ?_
  refine lv_iconst (v := (1 : Int32)) hx hb dL_law_1802 (by decide) ?_
  refine lv_iadd hx hb dL_law_1803 ?_
  refine va_sld hx hb hX hbl hbA hS hi1 dL_law_1804 ?_
  refine eqi ha1 ?_
  refine lv_i2l (v := a1.toInt64) hx hb dL_law_1805 rfl ?_
  refine lv_bipush (v := (32 : Int32)) hx hb dL_law_1806 (by decide) ?_
  refine lv_lshl (v := a1.toInt64 <<< ((32 : Int32).toInt64 &&& 63)) hx hb dL_law_1808 rfl ?_
  refine lv_aload_n hx hb dL_law_1809 rfl (lv_at hl 1 rfl) ?_
  refine lv_iload hx hb dL_law_1810 (lv_at hl 5 rfl) ?_
  refine lv_iconst (v := (2 : Int32)) hx hb dL_law_1812 (by decide) ?_
  refine lv_iadd hx hb dL_law_1813 ?_
  refine va_sld hx hb hX hbl hbA hS hi2 dL_law_1814 ?_
  refine eqi ha2 ?_
  refine lv_i2l (v := a2.toInt64) hx hb dL_law_1815 rfl ?_
  refine lv_ldc2 (v := (4294967295 : Int64)) hx hb hown q0 dL_law_1816 ?_
  refine lv_land hx hb dL_law_1819 ?_
  refine lv_lor hx hb dL_law_1820 ?_
  obtain ⟨r6, th7, mtx8, mle9, g10, h⟩ := fB4 h
  refine cV_i (As := [.long ((a1.toInt64 <<< ((32 : Int32).toInt64 &&& 63)) ||| (a2.toInt64 &&& (4294967295 : Int64)))]) (rest := []) (ws1 := (LW o w v y pl te be cn ch2 le3 rE rL rP rF rS rD hs ho hc sl fi th7 ms mst smn msl mhs mtx8 mle9 mat mwl mrd mrm mtp mbt mtm mtn mnt mnb mun mum mau ou4)) ⟨hx, hb, hml, hown, hts⟩ (c_X7_appendText l D w y _ th ms mst smn msl mhs mtx mle mat mwl mrd mrm mtp mbt mtm mtn mnt mnb mun mum mau ((a1.toInt64 <<< ((32 : Int32).toInt64 &&& 63)) ||| (a2.toInt64 &&& (4294967295 : Int64))) r6 th7 mtx8 mle9 g10) (cwV 1 hts gL_law_X7_appendText rfl rfl rfl hd_X7_appendText ⟨Nat.le_of_ble_eq_true rfl, Nat.le_of_ble_eq_true rfl⟩) hK hP hD hS hA [12, 13, 14, 15, 16, 17, 18, 19, 20] [0, 1, 2, 3, 4, 5, 6, 7, 8, 9, 10, 11, 21] [0, 1, 2, 3, 4, 5, 6, 7, 8, 9, 10, 11, 13, 14, 15, 16, 17, 18, 19, 20, 21, 12] rfl rfl rfl (by decide) rfl rfl rfl 0 (ci := 5) rfl rfl rfl hl.1 rfl (Nat.le_of_ble_eq_true rfl) dL_law_1821 ⟨bcl, bsl⟩ (fun H locs hP hD hS => ?_)
  refine lv_istore (lv' := [(6, .int r6), (5, .int r1), (0, .ref b), (1, .ref (o 0)), (2, .ref (w 0)), (3, .ref v), (4, .int x4)]) hx hb dL_law_1824 hl (by decide) rfl (fun ls hl => ?_)
  refine lv_aload_n hx hb dL_law_1826 rfl (lv_at hl 4 rfl) ?_
  refine cV_i (As := []) (rest := []) (ws1 := (LW o w v y pl te be cn ch2 le3 rE rL rP rF rS rD hs ho hc sl fi th7 ms mst smn msl mhs mtx8 mle9 mat mwl mrd mrm mtp mbt mtm mtn mnt mnb mun mum mau ou4)) ⟨hx, hb, hml, hown, hts⟩ (c_X7_thrown l D w y _ th7 ms mst smn msl mhs mtx8 mle9 mat mwl mrd mrm mtp mbt mtm mtn mnt mnb mun mum mau ) (cwV 0 hts gL_law_X7_thrown rfl rfl rfl hd_X7_thrown ⟨Nat.le_of_ble_eq_true rfl, Nat.le_of_ble_eq_true rfl⟩) hK hP hD hS hA [12, 13, 14, 15, 16, 17, 18, 19, 20] [0, 1, 2, 3, 4, 5, 6, 7, 8, 9, 10, 11, 21] [0, 1, 2, 3, 4, 5, 6, 7, 8, 9, 10, 11, 13, 14, 15, 16, 17, 18, 19, 20, 21, 12] rfl rfl rfl (by decide) rfl rfl rfl 0 (ci := 5) rfl rfl rfl hl.1 rfl (Nat.le_of_ble_eq_true rfl) dL_law_1827 ⟨bcl, bsl⟩ (fun H locs hP hD hS => ?_)
  refine lv_iload hx hb dL_law_1830 (lv_at hl 1 rfl) ?_
  refine lv_icmp_eq (tgt := 1837) hx hb dL_law_1832 (by decide) (fun c11 => ?_) (fun c11 => ?_)
  · replace h := fT c11 h
    refine lv_iload hx hb dL_law_1837 (lv_at hl 1 rfl) ?_
    refine lv_if_ne (tgt := 1854) hx hb dL_law_1839 (by decide) (fun c12 => ?_) (fun c12 => ?_)
    · replace h := fF c12 h
      refine lv_goto (tgt := 2109) hx hb dL_law_1854 (by decide) ?_
      cases h
      exact kk _ _ _ hP hD hS (lv_sub hl [2, 3, 4, 5, 6] rfl)
    · replace h := fT c12 h
      refine lv_aload_n hx hb dL_law_1842 rfl (lv_at hl 5 rfl) ?_
      refine lv_iconst (v := (0 : Int32)) hx hb dL_law_1843 (by decide) ?_
      refine va_lald hx hb hK hP 21 1 rfl rfl (show ¬ ((0 : Int32) < 0 ∨ 1 ≤ (0 : Int32).toNatClampNeg) from by decide) dL_law_1844 ?_
      refine lv_iload hx hb dL_law_1845 (lv_at hl 0 rfl) ?_
      refine lv_i2l (v := r6.toInt64) hx hb dL_law_1847 rfl ?_
      refine lx_eq (tgt := 1854) hx hb dL_law_1848 dL_law_1849 (by decide) (fun c13 => ?_) (fun c13 => ?_)
      · replace h := fT c13 h
        refine lv_goto (tgt := 2109) hx hb dL_law_1854 (by decide) ?_
        cases h
        exact kk _ _ _ hP hD hS (lv_sub hl [2, 3, 4, 5, 6] rfl)
      · replace h := fF c13 h
        refine lv_iconst (v := (0 : Int32)) hx hb dL_law_1852 (by decide) ?_
        exact fN h
  · replace h := fF c11 h
    refine lv_iconst (v := (0 : Int32)) hx hb dL_law_1835 (by decide) ?_
    exact fN h
set_option maxHeartbeats 0 in
set_option maxRecDepth 100000 in
theorem cs_27 {p : Program} {l : Launch} {e : Env} {s : State} {m : MethodId} {args : Array Value} {below : List Frame} {meth : Method} {c : Code} {Q : State → Prop} {D : va_G} {o w : Nat → Nat} {v : Nat} {y : Nat → ClassId} {A : Nat → Prop} {b L : Nat} {xs : Nat → Int32} {x4 a1 a2 a3 : Int32} (hfl : l.stackTraces = false) (hx : p.tables.exec = Jvm.exec) (hb : c.code = code) (hml : c.maxLocals = 7) (hown : s.vm.findClass RL = some m.cls) (hts : ∀ w ∈ wsL_law, w.before args s = true) (hA : ∀ q, s.heap.size ≤ q → A q) (hK : va_K D vwCl (TY y) s) (hEX : EXC A s s.heap) (hX : va_X b L xs s s.heap) (hbl : b < s.heap.size) (hbA : ¬ A b) (hi1 : vp_in (x4 + (1 : Int32)) L) (hi2 : vp_in (x4 + (2 : Int32)) L) (hi3 : vp_in (x4 + (3 : Int32)) L) (ha1 : xs (x4 + (1 : Int32)).toNatClampNeg = a1) (ha2 : xs (x4 + (2 : Int32)).toNatClampNeg = a2) (ha3 : xs (x4 + (3 : Int32)).toNatClampNeg = a3) (pl : Nat → Int64) (te : Nat → Int32) (be : Nat → Int64) (cn : Int32) (ch : Nat → Int32) (le : Int32) (rE : Int32) (rL : Int32) (rP : Int32) (rF : Int32) (rS : Int32) (rD : Int32) (hs : Nat → Int64) (ho : Int32) (hc : Int32) (sl : Nat → Int64) (fi : Nat → Int32) (th : Int32) (ms : Nat → Int32) (mst : Nat → Int32) (smn : Int32) (msl : Nat → Int32) (mhs : Nat → Int32) (mtx : Nat → Int32) (mle : Int32) (mat : Int32) (mwl : Int32) (mrd : Nat → Int32) (mrm : Int32) (mtp : Int64) (mbt : Int64) (mtm : Nat → Int32) (mtn : Int32) (mnt : Int32) (mnb : Int32) (mun : Nat → Int32) (mum : Int32) (mau : Int32) (ou : Nat → Int64) (le' : Int32) (th' : Int32) (mle' : Int32) (h : G_27 le th mle a1 a2 a3 = some (le', th', mle')) {H : Heap} {locs : List Loc} {ls : Array Slot} {cells slots : Nat} (hP : va_P D vwCl (LW o w v y pl te be cn ch le rE rL rP rF rS rD hs ho hc sl fi th ms mst smn msl mhs mtx mle mat mwl mrd mrm mtp mbt mtm mtn mnt mnb mun mum mau ou) H) (hD : va_D A (LW o w v y pl te be cn ch le rE rL rP rF rS rD hs ho hc sl fi th ms mst smn msl mhs mtx mle mat mwl mrd mrm mtp mbt mtm mtn mnt mnb mun mum mau ou)) (hS : va_S A s.heap H locs) (hl : lv_has ls 7 [(0, .ref b), (1, .ref (o 0)), (2, .ref (w 0)), (3, .ref v), (4, .int x4)]) (bcl : cells + 1 ≤ 1063) (bsl : slots + 6 ≤ 8907)
    (kk : ∀ (H : Heap) (locs : List Loc) (ls : Array Slot), va_P D vwCl (LW o w v y pl te be cn ch le' rE rL rP rF rS rD hs ho hc sl fi th' ms mst smn msl mhs mtx mle' mat mwl mrd mrm mtp mbt mtm mtn mnt mnb mun mum mau ou) H → va_D A (LW o w v y pl te be cn ch le' rE rL rP rF rS rD hs ho hc sl fi th' ms mst smn msl mhs mtx mle' mat mwl mrd mrm mtp mbt mtm mtn mnt mnb mun mum mau ou) → va_S A s.heap H locs → lv_has ls 7 [(0, .ref b), (1, .ref (o 0)), (2, .ref (w 0)), (3, .ref v), (4, .int x4)] → W p l e room_1 s m args below meth c H locs (cells + 1) (slots + 6) Q (F0 m 2109 ls [])) : W p l e room_1 s m args below meth c H locs cells slots Q (F0 m 1857 ls []) := by
  unfold G_27 at h
  refine lv_aload_n hx hb dL_law_1857 rfl (lv_at hl 1 rfl) ?_
  obtain ⟨r1, le2, g3, h⟩ := fB2 h
  refine cV_i (As := []) (rest := []) (ws1 := (LW o w v y pl te be cn ch le2 rE rL rP rF rS rD hs ho hc sl fi th ms mst smn msl mhs mtx mle mat mwl mrd mrm mtp mbt mtm mtn mnt mnb mun mum mau ou)) ⟨hx, hb, hml, hown, hts⟩ (c_X6_clearText l D o y _ pl te be cn ch le rE rL rP rF rS rD hs ho hc sl fi r1 le2 g3) (cwV 0 hts gL_law_X6_clearText rfl rfl rfl hd_X6_clearText ⟨Nat.le_of_ble_eq_true rfl, Nat.le_of_ble_eq_true rfl⟩) hK hP hD hS hA [0, 1, 2, 3, 4, 5, 6, 7, 8, 9, 10, 11] [12, 13, 14, 15, 16, 17, 18, 19, 20, 21] [10, 11, 12, 13, 14, 15, 16, 17, 18, 19, 20, 21, 0, 1, 2, 3, 4, 5, 6, 7, 8, 9] rfl rfl rfl (by decide) rfl rfl rfl 0 (ci := 4) rfl rfl rfl hl.1 rfl (Nat.le_of_ble_eq_true rfl) dL_law_1858 ⟨Nat.le_of_succ_le bcl, Nat.le_trans (Nat.le_add_right _ 6) bsl⟩ (fun H locs hP hD hS => ?_)
  refine lv_aload_n hx hb dL_law_1861 rfl (lv_at hl 2 rfl) ?_
  obtain ⟨r4, th5, mle6, g7, h⟩ := fB3 h
  refine cV_i (As := []) (rest := [.int r1]) (ws1 := (LW o w v y pl te be cn ch le2 rE rL rP rF rS rD hs ho hc sl fi th5 ms mst smn msl mhs mtx mle6 mat mwl mrd mrm mtp mbt mtm mtn mnt mnb mun mum mau ou)) ⟨hx, hb, hml, hown, hts⟩ (c_X7_clearText l D w y _ th ms mst smn msl mhs mtx mle mat mwl mrd mrm mtp mbt mtm mtn mnt mnb mun mum mau r4 th5 mle6 g7) (cwV 0 hts gL_law_X7_clearText rfl rfl rfl hd_X7_clearText ⟨Nat.le_of_ble_eq_true rfl, Nat.le_of_ble_eq_true rfl⟩) hK hP hD hS hA [12, 13, 14, 15, 16, 17, 18, 19, 20] [0, 1, 2, 3, 4, 5, 6, 7, 8, 9, 10, 11, 21] [0, 1, 2, 3, 4, 5, 6, 7, 8, 9, 10, 11, 13, 14, 15, 16, 17, 18, 19, 20, 21, 12] rfl rfl rfl (by decide) rfl rfl rfl 0 (ci := 5) rfl rfl rfl hl.1 rfl (Nat.le_of_ble_eq_true rfl) dL_law_1862 ⟨Nat.le_of_succ_le bcl, Nat.le_trans (Nat.le_add_right _ 6) bsl⟩ (fun H locs hP hD hS => ?_)
  refine lv_icmp_eq (tgt := 2109) hx hb dL_law_1865 (by decide) (fun c8 => ?_) (fun c8 => ?_)
  · replace h := fT c8 h
    refine W.widen (k := cells + 1) (n := slots + 6) (Nat.le_succ _) (Nat.le_add_right _ 6) ?_
    cases h
    exact kk _ _ _ hP hD hS (lv_sub hl [0, 1, 2, 3, 4] rfl)
  · replace h := fF c8 h
    refine lv_iconst (v := (0 : Int32)) hx hb dL_law_1868 (by decide) ?_
    exact fN h
set_option maxHeartbeats 0 in
set_option maxRecDepth 100000 in
theorem cs_28 {p : Program} {l : Launch} {e : Env} {s : State} {m : MethodId} {args : Array Value} {below : List Frame} {meth : Method} {c : Code} {Q : State → Prop} {D : va_G} {o w : Nat → Nat} {v : Nat} {y : Nat → ClassId} {A : Nat → Prop} {b L : Nat} {xs : Nat → Int32} {x4 a1 a2 a3 : Int32} (hfl : l.stackTraces = false) (hx : p.tables.exec = Jvm.exec) (hb : c.code = code) (hml : c.maxLocals = 7) (hown : s.vm.findClass RL = some m.cls) (hts : ∀ w ∈ wsL_law, w.before args s = true) (hA : ∀ q, s.heap.size ≤ q → A q) (hK : va_K D vwCl (TY y) s) (hEX : EXC A s s.heap) (hX : va_X b L xs s s.heap) (hbl : b < s.heap.size) (hbA : ¬ A b) (hi1 : vp_in (x4 + (1 : Int32)) L) (hi2 : vp_in (x4 + (2 : Int32)) L) (hi3 : vp_in (x4 + (3 : Int32)) L) (ha1 : xs (x4 + (1 : Int32)).toNatClampNeg = a1) (ha2 : xs (x4 + (2 : Int32)).toNatClampNeg = a2) (ha3 : xs (x4 + (3 : Int32)).toNatClampNeg = a3) (pl : Nat → Int64) (te : Nat → Int32) (be : Nat → Int64) (cn : Int32) (ch : Nat → Int32) (le : Int32) (rE : Int32) (rL : Int32) (rP : Int32) (rF : Int32) (rS : Int32) (rD : Int32) (hs : Nat → Int64) (ho : Int32) (hc : Int32) (sl : Nat → Int64) (fi : Nat → Int32) (th : Int32) (ms : Nat → Int32) (mst : Nat → Int32) (smn : Int32) (msl : Nat → Int32) (mhs : Nat → Int32) (mtx : Nat → Int32) (mle : Int32) (mat : Int32) (mwl : Int32) (mrd : Nat → Int32) (mrm : Int32) (mtp : Int64) (mbt : Int64) (mtm : Nat → Int32) (mtn : Int32) (mnt : Int32) (mnb : Int32) (mun : Nat → Int32) (mum : Int32) (mau : Int32) (ou : Nat → Int64) (th' : Int32) (h : G_28 le th mle a1 a2 a3 = some th') {H : Heap} {locs : List Loc} {ls : Array Slot} {cells slots : Nat} (hP : va_P D vwCl (LW o w v y pl te be cn ch le rE rL rP rF rS rD hs ho hc sl fi th ms mst smn msl mhs mtx mle mat mwl mrd mrm mtp mbt mtm mtn mnt mnb mun mum mau ou) H) (hD : va_D A (LW o w v y pl te be cn ch le rE rL rP rF rS rD hs ho hc sl fi th ms mst smn msl mhs mtx mle mat mwl mrd mrm mtp mbt mtm mtn mnt mnb mun mum mau ou)) (hS : va_S A s.heap H locs) (hl : lv_has ls 7 [(0, .ref b), (1, .ref (o 0)), (2, .ref (w 0)), (3, .ref v), (4, .int x4)]) (bcl : cells + 1 ≤ 1063) (bsl : slots + 6 ≤ 8907)
    (kk : ∀ (H : Heap) (locs : List Loc) (ls : Array Slot), va_P D vwCl (LW o w v y pl te be cn ch le rE rL rP rF rS rD hs ho hc sl fi th' ms mst smn msl mhs mtx mle mat mwl mrd mrm mtp mbt mtm mtn mnt mnb mun mum mau ou) H → va_D A (LW o w v y pl te be cn ch le rE rL rP rF rS rD hs ho hc sl fi th' ms mst smn msl mhs mtx mle mat mwl mrd mrm mtp mbt mtm mtn mnt mnb mun mum mau ou) → va_S A s.heap H locs → lv_has ls 7 [(0, .ref b), (1, .ref (o 0)), (2, .ref (w 0)), (3, .ref v), (4, .int x4)] → W p l e room_1 s m args below meth c H locs (cells + 1) (slots + 6) Q (F0 m 2109 ls [])) : W p l e room_1 s m args below meth c H locs cells slots Q (F0 m 1870 ls []) := by
  unfold G_28 at h
  refine lv_aload_n hx hb dL_law_1870 rfl (lv_at hl 1 rfl) ?_
  refine cV_i (As := []) (rest := []) (ws1 := (LW o w v y pl te be cn ch le rE rL rP rF rS rD hs ho hc sl fi th ms mst smn msl mhs mtx mle mat mwl mrd mrm mtp mbt mtm mtn mnt mnb mun mum mau ou)) ⟨hx, hb, hml, hown, hts⟩ (c_X6_textLength l D o y _ pl te be cn ch le rE rL rP rF rS rD hs ho hc sl fi ) (cwV 0 hts gL_law_X6_textLength rfl rfl rfl hd_X6_textLength ⟨Nat.le_of_ble_eq_true rfl, Nat.le_of_ble_eq_true rfl⟩) hK hP hD hS hA [0, 1, 2, 3, 4, 5, 6, 7, 8, 9, 10, 11] [12, 13, 14, 15, 16, 17, 18, 19, 20, 21] [10, 11, 12, 13, 14, 15, 16, 17, 18, 19, 20, 21, 0, 1, 2, 3, 4, 5, 6, 7, 8, 9] rfl rfl rfl (by decide) rfl rfl rfl 0 (ci := 4) rfl rfl rfl hl.1 rfl (Nat.le_of_ble_eq_true rfl) dL_law_1871 ⟨Nat.le_of_succ_le bcl, Nat.le_trans (Nat.le_add_right _ 6) bsl⟩ (fun H locs hP hD hS => ?_)
  refine lv_aload_n hx hb dL_law_1874 rfl (lv_at hl 2 rfl) ?_
  obtain ⟨r1, th2, g3, h⟩ := fB2 h
  refine cV_i (As := []) (rest := [.int (F_X6_textLength le)]) (ws1 := (LW o w v y pl te be cn ch le rE rL rP rF rS rD hs ho hc sl fi th2 ms mst smn msl mhs mtx mle mat mwl mrd mrm mtp mbt mtm mtn mnt mnb mun mum mau ou)) ⟨hx, hb, hml, hown, hts⟩ (c_X7_textLength l D w y _ th ms mst smn msl mhs mtx mle mat mwl mrd mrm mtp mbt mtm mtn mnt mnb mun mum mau r1 th2 g3) (cwV 0 hts gL_law_X7_textLength rfl rfl rfl hd_X7_textLength ⟨Nat.le_of_ble_eq_true rfl, Nat.le_of_ble_eq_true rfl⟩) hK hP hD hS hA [12, 13, 14, 15, 16, 17, 18, 19, 20] [0, 1, 2, 3, 4, 5, 6, 7, 8, 9, 10, 11, 21] [0, 1, 2, 3, 4, 5, 6, 7, 8, 9, 10, 11, 13, 14, 15, 16, 17, 18, 19, 20, 21, 12] rfl rfl rfl (by decide) rfl rfl rfl 0 (ci := 5) rfl rfl rfl hl.1 rfl (Nat.le_of_ble_eq_true rfl) dL_law_1875 ⟨Nat.le_of_succ_le bcl, Nat.le_trans (Nat.le_add_right _ 6) bsl⟩ (fun H locs hP hD hS => ?_)
  refine lv_icmp_eq (tgt := 2109) hx hb dL_law_1878 (by decide) (fun c4 => ?_) (fun c4 => ?_)
  · replace h := fT c4 h
    refine W.widen (k := cells + 1) (n := slots + 6) (Nat.le_succ _) (Nat.le_add_right _ 6) ?_
    cases h
    exact kk _ _ _ hP hD hS (lv_sub hl [0, 1, 2, 3, 4] rfl)
  · replace h := fF c4 h
    refine lv_iconst (v := (0 : Int32)) hx hb dL_law_1881 (by decide) ?_
    exact fN h
set_option maxHeartbeats 0 in
set_option maxRecDepth 100000 in
theorem cs_29 {p : Program} {l : Launch} {e : Env} {s : State} {m : MethodId} {args : Array Value} {below : List Frame} {meth : Method} {c : Code} {Q : State → Prop} {D : va_G} {o w : Nat → Nat} {v : Nat} {y : Nat → ClassId} {A : Nat → Prop} {b L : Nat} {xs : Nat → Int32} {x4 a1 a2 a3 : Int32} (hfl : l.stackTraces = false) (hx : p.tables.exec = Jvm.exec) (hb : c.code = code) (hml : c.maxLocals = 7) (hown : s.vm.findClass RL = some m.cls) (hts : ∀ w ∈ wsL_law, w.before args s = true) (hA : ∀ q, s.heap.size ≤ q → A q) (hK : va_K D vwCl (TY y) s) (hEX : EXC A s s.heap) (hX : va_X b L xs s s.heap) (hbl : b < s.heap.size) (hbA : ¬ A b) (hi1 : vp_in (x4 + (1 : Int32)) L) (hi2 : vp_in (x4 + (2 : Int32)) L) (hi3 : vp_in (x4 + (3 : Int32)) L) (ha1 : xs (x4 + (1 : Int32)).toNatClampNeg = a1) (ha2 : xs (x4 + (2 : Int32)).toNatClampNeg = a2) (ha3 : xs (x4 + (3 : Int32)).toNatClampNeg = a3) (pl : Nat → Int64) (te : Nat → Int32) (be : Nat → Int64) (cn : Int32) (ch : Nat → Int32) (le : Int32) (rE : Int32) (rL : Int32) (rP : Int32) (rF : Int32) (rS : Int32) (rD : Int32) (hs : Nat → Int64) (ho : Int32) (hc : Int32) (sl : Nat → Int64) (fi : Nat → Int32) (th : Int32) (ms : Nat → Int32) (mst : Nat → Int32) (smn : Int32) (msl : Nat → Int32) (mhs : Nat → Int32) (mtx : Nat → Int32) (mle : Int32) (mat : Int32) (mwl : Int32) (mrd : Nat → Int32) (mrm : Int32) (mtp : Int64) (mbt : Int64) (mtm : Nat → Int32) (mtn : Int32) (mnt : Int32) (mnb : Int32) (mun : Nat → Int32) (mum : Int32) (mau : Int32) (ou : Nat → Int64) (rE' : Int32) (rL' : Int32) (rP' : Int32) (rF' : Int32) (rS' : Int32) (rD' : Int32) (th' : Int32) (mat' : Int32) (mwl' : Int32) (mrd' : Nat → Int32) (mrm' : Int32) (h : G_29 ch le rE rL rP rF rS rD th mtx mle mat mwl mrd mrm a1 a2 a3 = some (rE', rL', rP', rF', rS', rD', th', mat', mwl', mrd', mrm')) {H : Heap} {locs : List Loc} {ls : Array Slot} {cells slots : Nat} (hP : va_P D vwCl (LW o w v y pl te be cn ch le rE rL rP rF rS rD hs ho hc sl fi th ms mst smn msl mhs mtx mle mat mwl mrd mrm mtp mbt mtm mtn mnt mnb mun mum mau ou) H) (hD : va_D A (LW o w v y pl te be cn ch le rE rL rP rF rS rD hs ho hc sl fi th ms mst smn msl mhs mtx mle mat mwl mrd mrm mtp mbt mtm mtn mnt mnb mun mum mau ou)) (hS : va_S A s.heap H locs) (hl : lv_has ls 7 [(0, .ref b), (1, .ref (o 0)), (2, .ref (w 0)), (3, .ref v), (4, .int x4)]) (bcl : cells + 1 ≤ 1063) (bsl : slots + 6 ≤ 8907)
    (kk : ∀ (H : Heap) (locs : List Loc) (ls : Array Slot), va_P D vwCl (LW o w v y pl te be cn ch le rE' rL' rP' rF' rS' rD' hs ho hc sl fi th' ms mst smn msl mhs mtx mle mat' mwl' mrd' mrm' mtp mbt mtm mtn mnt mnb mun mum mau ou) H → va_D A (LW o w v y pl te be cn ch le rE' rL' rP' rF' rS' rD' hs ho hc sl fi th' ms mst smn msl mhs mtx mle mat' mwl' mrd' mrm' mtp mbt mtm mtn mnt mnb mun mum mau ou) → va_S A s.heap H locs → lv_has ls 7 [(0, .ref b), (1, .ref (o 0)), (2, .ref (w 0)), (3, .ref v), (4, .int x4)] → W p l e room_1 s m args below meth c H locs (cells + 1) (slots + 6) Q (F0 m 2109 ls [])) : W p l e room_1 s m args below meth c H locs cells slots Q (F0 m 1883 ls []) := by
  unfold G_29 at h
  refine lv_aload_n hx hb dL_law_1883 rfl (lv_at hl 1 rfl) ?_
  obtain ⟨r1, rE2, rL3, rP4, rF5, rS6, rD7, g8, h⟩ := fB7 h
  refine cV_i (As := []) (rest := []) (ws1 := (LW o w v y pl te be cn ch le rE2 rL3 rP4 rF5 rS6 rD7 hs ho hc sl fi th ms mst smn msl mhs mtx mle mat mwl mrd mrm mtp mbt mtm mtn mnt mnb mun mum mau ou)) ⟨hx, hb, hml, hown, hts⟩ (c_X6_textError l D o y _ pl te be cn ch le rE rL rP rF rS rD hs ho hc sl fi r1 rE2 rL3 rP4 rF5 rS6 rD7 g8) (cwV 0 hts gL_law_X6_textError rfl rfl rfl hd_X6_textError ⟨Nat.le_of_ble_eq_true rfl, Nat.le_of_ble_eq_true rfl⟩) hK hP hD hS hA [0, 1, 2, 3, 4, 5, 6, 7, 8, 9, 10, 11] [12, 13, 14, 15, 16, 17, 18, 19, 20, 21] [10, 11, 12, 13, 14, 15, 16, 17, 18, 19, 20, 21, 0, 1, 2, 3, 4, 5, 6, 7, 8, 9] rfl rfl rfl (by decide) rfl rfl rfl 0 (ci := 4) rfl rfl rfl hl.1 rfl (Nat.le_of_ble_eq_true rfl) dL_law_1884 ⟨Nat.le_of_succ_le bcl, Nat.le_trans (Nat.le_add_right _ 6) bsl⟩ (fun H locs hP hD hS => ?_)
  refine lv_aload_n hx hb dL_law_1887 rfl (lv_at hl 2 rfl) ?_
  obtain ⟨r9, th10, mat11, mwl12, mrd13, mrm14, g15, h⟩ := fB6 h
  refine cV_i (As := []) (rest := [.int r1]) (ws1 := (LW o w v y pl te be cn ch le rE2 rL3 rP4 rF5 rS6 rD7 hs ho hc sl fi th10 ms mst smn msl mhs mtx mle mat11 mwl12 mrd13 mrm14 mtp mbt mtm mtn mnt mnb mun mum mau ou)) ⟨hx, hb, hml, hown, hts⟩ (c_X7_textError l D w y _ th ms mst smn msl mhs mtx mle mat mwl mrd mrm mtp mbt mtm mtn mnt mnb mun mum mau r9 th10 mat11 mwl12 mrd13 mrm14 g15) (cwV 0 hts gL_law_X7_textError rfl rfl rfl hd_X7_textError ⟨Nat.le_of_ble_eq_true rfl, Nat.le_of_ble_eq_true rfl⟩) hK hP hD hS hA [12, 13, 14, 15, 16, 17, 18, 19, 20] [0, 1, 2, 3, 4, 5, 6, 7, 8, 9, 10, 11, 21] [0, 1, 2, 3, 4, 5, 6, 7, 8, 9, 10, 11, 13, 14, 15, 16, 17, 18, 19, 20, 21, 12] rfl rfl rfl (by decide) rfl rfl rfl 0 (ci := 5) rfl rfl rfl hl.1 rfl (Nat.le_of_ble_eq_true rfl) dL_law_1888 ⟨Nat.le_of_succ_le bcl, Nat.le_trans (Nat.le_add_right _ 6) bsl⟩ (fun H locs hP hD hS => ?_)
  refine lv_icmp_eq (tgt := 2109) hx hb dL_law_1891 (by decide) (fun c16 => ?_) (fun c16 => ?_)
  · replace h := fT c16 h
    refine W.widen (k := cells + 1) (n := slots + 6) (Nat.le_succ _) (Nat.le_add_right _ 6) ?_
    cases h
    exact kk _ _ _ hP hD hS (lv_sub hl [0, 1, 2, 3, 4] rfl)
  · replace h := fF c16 h
    refine lv_iconst (v := (0 : Int32)) hx hb dL_law_1894 (by decide) ?_
    exact fN h
set_option maxHeartbeats 0 in
set_option maxRecDepth 100000 in
theorem cs_30 {p : Program} {l : Launch} {e : Env} {s : State} {m : MethodId} {args : Array Value} {below : List Frame} {meth : Method} {c : Code} {Q : State → Prop} {D : va_G} {o w : Nat → Nat} {v : Nat} {y : Nat → ClassId} {A : Nat → Prop} {b L : Nat} {xs : Nat → Int32} {x4 a1 a2 a3 : Int32} (hfl : l.stackTraces = false) (hx : p.tables.exec = Jvm.exec) (hb : c.code = code) (hml : c.maxLocals = 7) (hown : s.vm.findClass RL = some m.cls) (hts : ∀ w ∈ wsL_law, w.before args s = true) (hA : ∀ q, s.heap.size ≤ q → A q) (hK : va_K D vwCl (TY y) s) (hEX : EXC A s s.heap) (hX : va_X b L xs s s.heap) (hbl : b < s.heap.size) (hbA : ¬ A b) (hi1 : vp_in (x4 + (1 : Int32)) L) (hi2 : vp_in (x4 + (2 : Int32)) L) (hi3 : vp_in (x4 + (3 : Int32)) L) (ha1 : xs (x4 + (1 : Int32)).toNatClampNeg = a1) (ha2 : xs (x4 + (2 : Int32)).toNatClampNeg = a2) (ha3 : xs (x4 + (3 : Int32)).toNatClampNeg = a3) (pl : Nat → Int64) (te : Nat → Int32) (be : Nat → Int64) (cn : Int32) (ch : Nat → Int32) (le : Int32) (rE : Int32) (rL : Int32) (rP : Int32) (rF : Int32) (rS : Int32) (rD : Int32) (hs : Nat → Int64) (ho : Int32) (hc : Int32) (sl : Nat → Int64) (fi : Nat → Int32) (th : Int32) (ms : Nat → Int32) (mst : Nat → Int32) (smn : Int32) (msl : Nat → Int32) (mhs : Nat → Int32) (mtx : Nat → Int32) (mle : Int32) (mat : Int32) (mwl : Int32) (mrd : Nat → Int32) (mrm : Int32) (mtp : Int64) (mbt : Int64) (mtm : Nat → Int32) (mtn : Int32) (mnt : Int32) (mnb : Int32) (mun : Nat → Int32) (mum : Int32) (mau : Int32) (ou : Nat → Int64) (pl' : Nat → Int64) (le' : Int32) (rE' : Int32) (rL' : Int32) (rP' : Int32) (rF' : Int32) (rS' : Int32) (rD' : Int32) (hs' : Nat → Int64) (ho' : Int32) (hc' : Int32) (th' : Int32) (ms' : Nat → Int32) (mst' : Nat → Int32) (smn' : Int32) (mle' : Int32) (mat' : Int32) (mwl' : Int32) (mrd' : Nat → Int32) (mrm' : Int32) (mtp' : Int64) (mbt' : Int64) (ou' : Nat → Int64) (h : G_30 pl ch le rE rL rP rF rS rD hs ho hc th ms mst smn mtx mle mat mwl mrd mrm mtp mbt ou a1 a2 a3 = some (pl', le', rE', rL', rP', rF', rS', rD', hs', ho', hc', th', ms', mst', smn', mle', mat', mwl', mrd', mrm', mtp', mbt', ou')) {H : Heap} {locs : List Loc} {ls : Array Slot} {cells slots : Nat} (hP : va_P D vwCl (LW o w v y pl te be cn ch le rE rL rP rF rS rD hs ho hc sl fi th ms mst smn msl mhs mtx mle mat mwl mrd mrm mtp mbt mtm mtn mnt mnb mun mum mau ou) H) (hD : va_D A (LW o w v y pl te be cn ch le rE rL rP rF rS rD hs ho hc sl fi th ms mst smn msl mhs mtx mle mat mwl mrd mrm mtp mbt mtm mtn mnt mnb mun mum mau ou)) (hS : va_S A s.heap H locs) (hl : lv_has ls 7 [(0, .ref b), (1, .ref (o 0)), (2, .ref (w 0)), (3, .ref v), (4, .int x4)]) (bcl : cells + 1 ≤ 1063) (bsl : slots + 6 ≤ 8907)
    (kk : ∀ (H : Heap) (locs : List Loc) (ls : Array Slot), va_P D vwCl (LW o w v y pl' te be cn ch le' rE' rL' rP' rF' rS' rD' hs' ho' hc' sl fi th' ms' mst' smn' msl mhs mtx mle' mat' mwl' mrd' mrm' mtp' mbt' mtm mtn mnt mnb mun mum mau ou') H → va_D A (LW o w v y pl' te be cn ch le' rE' rL' rP' rF' rS' rD' hs' ho' hc' sl fi th' ms' mst' smn' msl mhs mtx mle' mat' mwl' mrd' mrm' mtp' mbt' mtm mtn mnt mnb mun mum mau ou') → va_S A s.heap H locs → lv_has ls 7 [(0, .ref b), (1, .ref (o 0)), (2, .ref (w 0)), (3, .ref v), (4, .int x4)] → W p l e room_1 s m args below meth c H locs (cells + 1) (slots + 6) Q (F0 m 2109 ls [])) : W p l e room_1 s m args below meth c H locs cells slots Q (F0 m 1896 ls []) := by
  unfold G_30 at h
  refine lv_aload_n hx hb dL_law_1896 rfl (lv_at hl 1 rfl) ?_
  refine lv_aload_n hx hb dL_law_1897 rfl (lv_at hl 3 rfl) ?_
  obtain ⟨r1, pl2, le3, rE4, rL5, rP6, rF7, rS8, rD9, hs10, ho11, hc12, ou13, g14, h⟩ := fB13 h
  refine cW_i (As := [.ref (o 0), .ref v]) (rest := []) (ws1 := (LW o w v y pl2 te be cn ch le3 rE4 rL5 rP6 rF7 rS8 rD9 hs10 ho11 hc12 sl fi th ms mst smn msl mhs mtx mle mat mwl mrd mrm mtp mbt mtm mtn mnt mnb mun mum mau ou13)) ⟨hx, hb, hml, hown, hts⟩ (c_L_runText l hfl D o v y _ pl te be cn ch le rE rL rP rF rS rD hs ho hc sl fi ou r1 pl2 le3 rE4 rL5 rP6 rF7 rS8 rD9 hs10 ho11 hc12 ou13 g14) (vx_cwSW 2 hts gL_law_L_runText rfl rfl rfl hd_L_runText ⟨Nat.le_of_ble_eq_true rfl, Nat.le_of_ble_eq_true rfl⟩) hK hP hD hS hA hEX [0, 1, 2, 3, 4, 5, 6, 7, 8, 9, 10, 11, 21] [12, 13, 14, 15, 16, 17, 18, 19, 20] [9, 10, 11, 12, 13, 14, 15, 16, 17, 18, 19, 20, 0, 1, 2, 3, 4, 5, 6, 7, 8, 21] rfl rfl rfl (by decide) rfl rfl rfl rfl hl.1 rfl (Nat.le_of_ble_eq_true rfl) dL_law_1898 ⟨bcl, bsl⟩ (fun H locs hP hD hS => ?_)
  refine lv_istore (lv' := [(5, .int r1), (0, .ref b), (1, .ref (o 0)), (2, .ref (w 0)), (3, .ref v), (4, .int x4)]) hx hb dL_law_1901 hl (by decide) rfl (fun ls hl => ?_)
  refine lv_aload_n hx hb dL_law_1903 rfl (lv_at hl 3 rfl) ?_
  obtain ⟨r15, th16, ms17, mst18, smn19, mle20, mat21, mwl22, mrd23, mrm24, mtp25, mbt26, g27, h⟩ := fB12 h
  refine cV_i (As := []) (rest := []) (ws1 := (LW o w v y pl2 te be cn ch le3 rE4 rL5 rP6 rF7 rS8 rD9 hs10 ho11 hc12 sl fi th16 ms17 mst18 smn19 msl mhs mtx mle20 mat21 mwl22 mrd23 mrm24 mtp25 mbt26 mtm mtn mnt mnb mun mum mau ou13)) ⟨hx, hb, hml, hown, hts⟩ (c_X7_runText l D w y _ th ms mst smn msl mhs mtx mle mat mwl mrd mrm mtp mbt mtm mtn mnt mnb mun mum mau r15 th16 ms17 mst18 smn19 mle20 mat21 mwl22 mrd23 mrm24 mtp25 mbt26 g27) (cwV 0 hts gL_law_X7_runText rfl rfl rfl hd_X7_runText ⟨Nat.le_of_ble_eq_true rfl, Nat.le_of_ble_eq_true rfl⟩) hK hP hD hS hA [12, 13, 14, 15, 16, 17, 18, 19, 20] [0, 1, 2, 3, 4, 5, 6, 7, 8, 9, 10, 11, 21] [0, 1, 2, 3, 4, 5, 6, 7, 8, 9, 10, 11, 13, 14, 15, 16, 17, 18, 19, 20, 21, 12] rfl rfl rfl (by decide) rfl rfl rfl 0 (ci := 5) rfl rfl rfl hl.1 rfl (Nat.le_of_ble_eq_true rfl) dL_law_1904 ⟨bcl, bsl⟩ (fun H locs hP hD hS => ?_)
  refine lv_istore (lv' := [(6, .int r15), (5, .int r1), (0, .ref b), (1, .ref (o 0)), (2, .ref (w 0)), (3, .ref v), (4, .int x4)]) hx hb dL_law_1907 hl (by decide) rfl (fun ls hl => ?_)
  refine lv_aload_n hx hb dL_law_1909 rfl (lv_at hl 4 rfl) ?_
  refine cV_i (As := []) (rest := []) (ws1 := (LW o w v y pl2 te be cn ch le3 rE4 rL5 rP6 rF7 rS8 rD9 hs10 ho11 hc12 sl fi th16 ms17 mst18 smn19 msl mhs mtx mle20 mat21 mwl22 mrd23 mrm24 mtp25 mbt26 mtm mtn mnt mnb mun mum mau ou13)) ⟨hx, hb, hml, hown, hts⟩ (c_X7_thrown l D w y _ th16 ms17 mst18 smn19 msl mhs mtx mle20 mat21 mwl22 mrd23 mrm24 mtp25 mbt26 mtm mtn mnt mnb mun mum mau ) (cwV 0 hts gL_law_X7_thrown rfl rfl rfl hd_X7_thrown ⟨Nat.le_of_ble_eq_true rfl, Nat.le_of_ble_eq_true rfl⟩) hK hP hD hS hA [12, 13, 14, 15, 16, 17, 18, 19, 20] [0, 1, 2, 3, 4, 5, 6, 7, 8, 9, 10, 11, 21] [0, 1, 2, 3, 4, 5, 6, 7, 8, 9, 10, 11, 13, 14, 15, 16, 17, 18, 19, 20, 21, 12] rfl rfl rfl (by decide) rfl rfl rfl 0 (ci := 5) rfl rfl rfl hl.1 rfl (Nat.le_of_ble_eq_true rfl) dL_law_1910 ⟨bcl, bsl⟩ (fun H locs hP hD hS => ?_)
  refine lv_iload hx hb dL_law_1913 (lv_at hl 1 rfl) ?_
  refine lv_icmp_eq (tgt := 1920) hx hb dL_law_1915 (by decide) (fun c28 => ?_) (fun c28 => ?_)
  · replace h := fT c28 h
    refine lv_iload hx hb dL_law_1920 (lv_at hl 1 rfl) ?_
    refine lv_if_ne (tgt := 1937) hx hb dL_law_1922 (by decide) (fun c29 => ?_) (fun c29 => ?_)
    · replace h := fF c29 h
      refine lv_goto (tgt := 2109) hx hb dL_law_1937 (by decide) ?_
      cases h
      exact kk _ _ _ hP hD hS (lv_sub hl [2, 3, 4, 5, 6] rfl)
    · replace h := fT c29 h
      refine lv_aload_n hx hb dL_law_1925 rfl (lv_at hl 5 rfl) ?_
      refine lv_iconst (v := (0 : Int32)) hx hb dL_law_1926 (by decide) ?_
      refine va_lald hx hb hK hP 21 1 rfl rfl (show ¬ ((0 : Int32) < 0 ∨ 1 ≤ (0 : Int32).toNatClampNeg) from by decide) dL_law_1927 ?_
      refine lv_iload hx hb dL_law_1928 (lv_at hl 0 rfl) ?_
      refine lv_i2l (v := r15.toInt64) hx hb dL_law_1930 rfl ?_
      refine lx_eq (tgt := 1937) hx hb dL_law_1931 dL_law_1932 (by decide) (fun c30 => ?_) (fun c30 => ?_)
      · replace h := fT c30 h
        refine lv_goto (tgt := 2109) hx hb dL_law_1937 (by decide) ?_
        cases h
        exact kk _ _ _ hP hD hS (lv_sub hl [2, 3, 4, 5, 6] rfl)
      · replace h := fF c30 h
        refine lv_iconst (v := (0 : Int32)) hx hb dL_law_1935 (by decide) ?_
        exact fN h
  · replace h := fF c28 h
    refine lv_iconst (v := (0 : Int32)) hx hb dL_law_1918 (by decide) ?_
    exact fN h
set_option maxHeartbeats 0 in
set_option maxRecDepth 100000 in
theorem cs_31 {p : Program} {l : Launch} {e : Env} {s : State} {m : MethodId} {args : Array Value} {below : List Frame} {meth : Method} {c : Code} {Q : State → Prop} {D : va_G} {o w : Nat → Nat} {v : Nat} {y : Nat → ClassId} {A : Nat → Prop} {b L : Nat} {xs : Nat → Int32} {x4 a1 a2 a3 : Int32} (hfl : l.stackTraces = false) (hx : p.tables.exec = Jvm.exec) (hb : c.code = code) (hml : c.maxLocals = 7) (hown : s.vm.findClass RL = some m.cls) (hts : ∀ w ∈ wsL_law, w.before args s = true) (hA : ∀ q, s.heap.size ≤ q → A q) (hK : va_K D vwCl (TY y) s) (hEX : EXC A s s.heap) (hX : va_X b L xs s s.heap) (hbl : b < s.heap.size) (hbA : ¬ A b) (hi1 : vp_in (x4 + (1 : Int32)) L) (hi2 : vp_in (x4 + (2 : Int32)) L) (hi3 : vp_in (x4 + (3 : Int32)) L) (ha1 : xs (x4 + (1 : Int32)).toNatClampNeg = a1) (ha2 : xs (x4 + (2 : Int32)).toNatClampNeg = a2) (ha3 : xs (x4 + (3 : Int32)).toNatClampNeg = a3) (pl : Nat → Int64) (te : Nat → Int32) (be : Nat → Int64) (cn : Int32) (ch : Nat → Int32) (le : Int32) (rE : Int32) (rL : Int32) (rP : Int32) (rF : Int32) (rS : Int32) (rD : Int32) (hs : Nat → Int64) (ho : Int32) (hc : Int32) (sl : Nat → Int64) (fi : Nat → Int32) (th : Int32) (ms : Nat → Int32) (mst : Nat → Int32) (smn : Int32) (msl : Nat → Int32) (mhs : Nat → Int32) (mtx : Nat → Int32) (mle : Int32) (mat : Int32) (mwl : Int32) (mrd : Nat → Int32) (mrm : Int32) (mtp : Int64) (mbt : Int64) (mtm : Nat → Int32) (mtn : Int32) (mnt : Int32) (mnb : Int32) (mun : Nat → Int32) (mum : Int32) (mau : Int32) (ou : Nat → Int64) (pl' : Nat → Int64) (hc' : Int32) (th' : Int32) (ms' : Nat → Int32) (smn' : Int32) (ou' : Nat → Int64) (h : G_31 pl hs ho hc th ms mst smn ou a1 a2 a3 = some (pl', hc', th', ms', smn', ou')) {H : Heap} {locs : List Loc} {ls : Array Slot} {cells slots : Nat} (hP : va_P D vwCl (LW o w v y pl te be cn ch le rE rL rP rF rS rD hs ho hc sl fi th ms mst smn msl mhs mtx mle mat mwl mrd mrm mtp mbt mtm mtn mnt mnb mun mum mau ou) H) (hD : va_D A (LW o w v y pl te be cn ch le rE rL rP rF rS rD hs ho hc sl fi th ms mst smn msl mhs mtx mle mat mwl mrd mrm mtp mbt mtm mtn mnt mnb mun mum mau ou)) (hS : va_S A s.heap H locs) (hl : lv_has ls 7 [(0, .ref b), (1, .ref (o 0)), (2, .ref (w 0)), (3, .ref v), (4, .int x4)]) (bcl : cells + 1 ≤ 1063) (bsl : slots + 6 ≤ 8907)
    (kk : ∀ (H : Heap) (locs : List Loc) (ls : Array Slot), va_P D vwCl (LW o w v y pl' te be cn ch le rE rL rP rF rS rD hs ho hc' sl fi th' ms' mst smn' msl mhs mtx mle mat mwl mrd mrm mtp mbt mtm mtn mnt mnb mun mum mau ou') H → va_D A (LW o w v y pl' te be cn ch le rE rL rP rF rS rD hs ho hc' sl fi th' ms' mst smn' msl mhs mtx mle mat mwl mrd mrm mtp mbt mtm mtn mnt mnb mun mum mau ou') → va_S A s.heap H locs → lv_has ls 7 [(0, .ref b), (1, .ref (o 0)), (2, .ref (w 0)), (3, .ref v), (4, .int x4)] → W p l e room_1 s m args below meth c H locs (cells + 1) (slots + 6) Q (F0 m 2109 ls [])) : W p l e room_1 s m args below meth c H locs cells slots Q (F0 m 1940 ls []) := by
  unfold G_31 at h
  refine lv_aload_n hx hb dL_law_1940 rfl (lv_at hl 1 rfl) ?_
  refine lv_aload_n hx hb dL_law_1941 rfl (lv_at hl 3 rfl) ?_
  obtain ⟨r1, pl2, hc3, ou4, g5, h⟩ := fB4 h
  refine cW_i (As := [.ref (o 0), .ref v]) (rest := []) (ws1 := (LW o w v y pl2 te be cn ch le rE rL rP rF rS rD hs ho hc3 sl fi th ms mst smn msl mhs mtx mle mat mwl mrd mrm mtp mbt mtm mtn mnt mnb mun mum mau ou4)) ⟨hx, hb, hml, hown, hts⟩ (c_L_undo l hfl D o v y _ pl te be cn ch le rE rL rP rF rS rD hs ho hc sl fi ou r1 pl2 hc3 ou4 g5) (vx_cwSW 2 hts gL_law_L_undo rfl rfl rfl hd_L_undo ⟨Nat.le_of_ble_eq_true rfl, Nat.le_of_ble_eq_true rfl⟩) hK hP hD hS hA hEX [0, 1, 2, 3, 4, 5, 6, 7, 8, 9, 10, 11, 21] [12, 13, 14, 15, 16, 17, 18, 19, 20] [9, 10, 11, 12, 13, 14, 15, 16, 17, 18, 19, 20, 0, 1, 2, 3, 4, 5, 6, 7, 8, 21] rfl rfl rfl (by decide) rfl rfl rfl rfl hl.1 rfl (Nat.le_of_ble_eq_true rfl) dL_law_1942 ⟨bcl, bsl⟩ (fun H locs hP hD hS => ?_)
  refine lv_istore (lv' := [(5, .int r1), (0, .ref b), (1, .ref (o 0)), (2, .ref (w 0)), (3, .ref v), (4, .int x4)]) hx hb dL_law_1945 hl (by decide) rfl (fun ls hl => ?_)
  refine lv_aload_n hx hb dL_law_1947 rfl (lv_at hl 3 rfl) ?_
  obtain ⟨r6, th7, ms8, smn9, g10, h⟩ := fB4 h
  refine cV_i (As := []) (rest := []) (ws1 := (LW o w v y pl2 te be cn ch le rE rL rP rF rS rD hs ho hc3 sl fi th7 ms8 mst smn9 msl mhs mtx mle mat mwl mrd mrm mtp mbt mtm mtn mnt mnb mun mum mau ou4)) ⟨hx, hb, hml, hown, hts⟩ (c_X7_undo l D w y _ th ms mst smn msl mhs mtx mle mat mwl mrd mrm mtp mbt mtm mtn mnt mnb mun mum mau r6 th7 ms8 smn9 g10) (cwV 0 hts gL_law_X7_undo rfl rfl rfl hd_X7_undo ⟨Nat.le_of_ble_eq_true rfl, Nat.le_of_ble_eq_true rfl⟩) hK hP hD hS hA [12, 13, 14, 15, 16, 17, 18, 19, 20] [0, 1, 2, 3, 4, 5, 6, 7, 8, 9, 10, 11, 21] [0, 1, 2, 3, 4, 5, 6, 7, 8, 9, 10, 11, 13, 14, 15, 16, 17, 18, 19, 20, 21, 12] rfl rfl rfl (by decide) rfl rfl rfl 0 (ci := 5) rfl rfl rfl hl.1 rfl (Nat.le_of_ble_eq_true rfl) dL_law_1948 ⟨bcl, bsl⟩ (fun H locs hP hD hS => ?_)
  refine lv_istore (lv' := [(6, .int r6), (5, .int r1), (0, .ref b), (1, .ref (o 0)), (2, .ref (w 0)), (3, .ref v), (4, .int x4)]) hx hb dL_law_1951 hl (by decide) rfl (fun ls hl => ?_)
  refine lv_aload_n hx hb dL_law_1953 rfl (lv_at hl 4 rfl) ?_
  refine cV_i (As := []) (rest := []) (ws1 := (LW o w v y pl2 te be cn ch le rE rL rP rF rS rD hs ho hc3 sl fi th7 ms8 mst smn9 msl mhs mtx mle mat mwl mrd mrm mtp mbt mtm mtn mnt mnb mun mum mau ou4)) ⟨hx, hb, hml, hown, hts⟩ (c_X7_thrown l D w y _ th7 ms8 mst smn9 msl mhs mtx mle mat mwl mrd mrm mtp mbt mtm mtn mnt mnb mun mum mau ) (cwV 0 hts gL_law_X7_thrown rfl rfl rfl hd_X7_thrown ⟨Nat.le_of_ble_eq_true rfl, Nat.le_of_ble_eq_true rfl⟩) hK hP hD hS hA [12, 13, 14, 15, 16, 17, 18, 19, 20] [0, 1, 2, 3, 4, 5, 6, 7, 8, 9, 10, 11, 21] [0, 1, 2, 3, 4, 5, 6, 7, 8, 9, 10, 11, 13, 14, 15, 16, 17, 18, 19, 20, 21, 12] rfl rfl rfl (by decide) rfl rfl rfl 0 (ci := 5) rfl rfl rfl hl.1 rfl (Nat.le_of_ble_eq_true rfl) dL_law_1954 ⟨bcl, bsl⟩ (fun H locs hP hD hS => ?_)
  refine lv_iload hx hb dL_law_1957 (lv_at hl 1 rfl) ?_
  refine lv_icmp_eq (tgt := 1964) hx hb dL_law_1959 (by decide) (fun c11 => ?_) (fun c11 => ?_)
  · replace h := fT c11 h
    refine lv_iload hx hb dL_law_1964 (lv_at hl 1 rfl) ?_
    refine lv_if_ne (tgt := 1981) hx hb dL_law_1966 (by decide) (fun c12 => ?_) (fun c12 => ?_)
    · replace h := fF c12 h
      refine lv_goto (tgt := 2109) hx hb dL_law_1981 (by decide) ?_
      cases h
      exact kk _ _ _ hP hD hS (lv_sub hl [2, 3, 4, 5, 6] rfl)
    · replace h := fT c12 h
      refine lv_aload_n hx hb dL_law_1969 rfl (lv_at hl 5 rfl) ?_
      refine lv_iconst (v := (0 : Int32)) hx hb dL_law_1970 (by decide) ?_
      refine va_lald hx hb hK hP 21 1 rfl rfl (show ¬ ((0 : Int32) < 0 ∨ 1 ≤ (0 : Int32).toNatClampNeg) from by decide) dL_law_1971 ?_
      refine lv_iload hx hb dL_law_1972 (lv_at hl 0 rfl) ?_
      refine lv_i2l (v := r6.toInt64) hx hb dL_law_1974 rfl ?_
      refine lx_eq (tgt := 1981) hx hb dL_law_1975 dL_law_1976 (by decide) (fun c13 => ?_) (fun c13 => ?_)
      · replace h := fT c13 h
        refine lv_goto (tgt := 2109) hx hb dL_law_1981 (by decide) ?_
        cases h
        exact kk _ _ _ hP hD hS (lv_sub hl [2, 3, 4, 5, 6] rfl)
      · replace h := fF c13 h
        refine lv_iconst (v := (0 : Int32)) hx hb dL_law_1979 (by decide) ?_
        exact fN h
  · replace h := fF c11 h
    refine lv_iconst (v := (0 : Int32)) hx hb dL_law_1962 (by decide) ?_
    exact fN h
set_option maxHeartbeats 0 in
set_option maxRecDepth 100000 in
theorem cs_32 {p : Program} {l : Launch} {e : Env} {s : State} {m : MethodId} {args : Array Value} {below : List Frame} {meth : Method} {c : Code} {Q : State → Prop} {D : va_G} {o w : Nat → Nat} {v : Nat} {y : Nat → ClassId} {A : Nat → Prop} {b L : Nat} {xs : Nat → Int32} {x4 a1 a2 a3 : Int32} (hfl : l.stackTraces = false) (hx : p.tables.exec = Jvm.exec) (hb : c.code = code) (hml : c.maxLocals = 7) (hown : s.vm.findClass RL = some m.cls) (hts : ∀ w ∈ wsL_law, w.before args s = true) (hA : ∀ q, s.heap.size ≤ q → A q) (hK : va_K D vwCl (TY y) s) (hEX : EXC A s s.heap) (hX : va_X b L xs s s.heap) (hbl : b < s.heap.size) (hbA : ¬ A b) (hi1 : vp_in (x4 + (1 : Int32)) L) (hi2 : vp_in (x4 + (2 : Int32)) L) (hi3 : vp_in (x4 + (3 : Int32)) L) (ha1 : xs (x4 + (1 : Int32)).toNatClampNeg = a1) (ha2 : xs (x4 + (2 : Int32)).toNatClampNeg = a2) (ha3 : xs (x4 + (3 : Int32)).toNatClampNeg = a3) (pl : Nat → Int64) (te : Nat → Int32) (be : Nat → Int64) (cn : Int32) (ch : Nat → Int32) (le : Int32) (rE : Int32) (rL : Int32) (rP : Int32) (rF : Int32) (rS : Int32) (rD : Int32) (hs : Nat → Int64) (ho : Int32) (hc : Int32) (sl : Nat → Int64) (fi : Nat → Int32) (th : Int32) (ms : Nat → Int32) (mst : Nat → Int32) (smn : Int32) (msl : Nat → Int32) (mhs : Nat → Int32) (mtx : Nat → Int32) (mle : Int32) (mat : Int32) (mwl : Int32) (mrd : Nat → Int32) (mrm : Int32) (mtp : Int64) (mbt : Int64) (mtm : Nat → Int32) (mtn : Int32) (mnt : Int32) (mnb : Int32) (mun : Nat → Int32) (mum : Int32) (mau : Int32) (ou : Nat → Int64) (th' : Int32) (h : G_32 hc th smn a1 a2 a3 = some th') {H : Heap} {locs : List Loc} {ls : Array Slot} {cells slots : Nat} (hP : va_P D vwCl (LW o w v y pl te be cn ch le rE rL rP rF rS rD hs ho hc sl fi th ms mst smn msl mhs mtx mle mat mwl mrd mrm mtp mbt mtm mtn mnt mnb mun mum mau ou) H) (hD : va_D A (LW o w v y pl te be cn ch le rE rL rP rF rS rD hs ho hc sl fi th ms mst smn msl mhs mtx mle mat mwl mrd mrm mtp mbt mtm mtn mnt mnb mun mum mau ou)) (hS : va_S A s.heap H locs) (hl : lv_has ls 7 [(0, .ref b), (1, .ref (o 0)), (2, .ref (w 0)), (3, .ref v), (4, .int x4)]) (bcl : cells + 1 ≤ 1063) (bsl : slots + 6 ≤ 8907)
    (kk : ∀ (H : Heap) (locs : List Loc) (ls : Array Slot), va_P D vwCl (LW o w v y pl te be cn ch le rE rL rP rF rS rD hs ho hc sl fi th' ms mst smn msl mhs mtx mle mat mwl mrd mrm mtp mbt mtm mtn mnt mnb mun mum mau ou) H → va_D A (LW o w v y pl te be cn ch le rE rL rP rF rS rD hs ho hc sl fi th' ms mst smn msl mhs mtx mle mat mwl mrd mrm mtp mbt mtm mtn mnt mnb mun mum mau ou) → va_S A s.heap H locs → lv_has ls 7 [(0, .ref b), (1, .ref (o 0)), (2, .ref (w 0)), (3, .ref v), (4, .int x4)] → W p l e room_1 s m args below meth c H locs (cells + 1) (slots + 6) Q (F0 m 2109 ls [])) : W p l e room_1 s m args below meth c H locs cells slots Q (F0 m 1984 ls []) := by
  unfold G_32 at h
  refine lv_aload_n hx hb dL_law_1984 rfl (lv_at hl 1 rfl) ?_
  refine cV_i (As := []) (rest := []) (ws1 := (LW o w v y pl te be cn ch le rE rL rP rF rS rD hs ho hc sl fi th ms mst smn msl mhs mtx mle mat mwl mrd mrm mtp mbt mtm mtn mnt mnb mun mum mau ou)) ⟨hx, hb, hml, hown, hts⟩ (c_X6_undoCount l D o y _ pl te be cn ch le rE rL rP rF rS rD hs ho hc sl fi ) (cwV 0 hts gL_law_X6_undoCount rfl rfl rfl hd_X6_undoCount ⟨Nat.le_of_ble_eq_true rfl, Nat.le_of_ble_eq_true rfl⟩) hK hP hD hS hA [0, 1, 2, 3, 4, 5, 6, 7, 8, 9, 10, 11] [12, 13, 14, 15, 16, 17, 18, 19, 20, 21] [10, 11, 12, 13, 14, 15, 16, 17, 18, 19, 20, 21, 0, 1, 2, 3, 4, 5, 6, 7, 8, 9] rfl rfl rfl (by decide) rfl rfl rfl 0 (ci := 4) rfl rfl rfl hl.1 rfl (Nat.le_of_ble_eq_true rfl) dL_law_1985 ⟨Nat.le_of_succ_le bcl, Nat.le_trans (Nat.le_add_right _ 6) bsl⟩ (fun H locs hP hD hS => ?_)
  refine lv_aload_n hx hb dL_law_1988 rfl (lv_at hl 2 rfl) ?_
  obtain ⟨r1, th2, g3, h⟩ := fB2 h
  refine cV_i (As := []) (rest := [.int (F_X6_undoCount hc)]) (ws1 := (LW o w v y pl te be cn ch le rE rL rP rF rS rD hs ho hc sl fi th2 ms mst smn msl mhs mtx mle mat mwl mrd mrm mtp mbt mtm mtn mnt mnb mun mum mau ou)) ⟨hx, hb, hml, hown, hts⟩ (c_X7_undoCount l D w y _ th ms mst smn msl mhs mtx mle mat mwl mrd mrm mtp mbt mtm mtn mnt mnb mun mum mau r1 th2 g3) (cwV 0 hts gL_law_X7_undoCount rfl rfl rfl hd_X7_undoCount ⟨Nat.le_of_ble_eq_true rfl, Nat.le_of_ble_eq_true rfl⟩) hK hP hD hS hA [12, 13, 14, 15, 16, 17, 18, 19, 20] [0, 1, 2, 3, 4, 5, 6, 7, 8, 9, 10, 11, 21] [0, 1, 2, 3, 4, 5, 6, 7, 8, 9, 10, 11, 13, 14, 15, 16, 17, 18, 19, 20, 21, 12] rfl rfl rfl (by decide) rfl rfl rfl 0 (ci := 5) rfl rfl rfl hl.1 rfl (Nat.le_of_ble_eq_true rfl) dL_law_1989 ⟨Nat.le_of_succ_le bcl, Nat.le_trans (Nat.le_add_right _ 6) bsl⟩ (fun H locs hP hD hS => ?_)
  refine lv_icmp_eq (tgt := 2109) hx hb dL_law_1992 (by decide) (fun c4 => ?_) (fun c4 => ?_)
  · replace h := fT c4 h
    refine W.widen (k := cells + 1) (n := slots + 6) (Nat.le_succ _) (Nat.le_add_right _ 6) ?_
    cases h
    exact kk _ _ _ hP hD hS (lv_sub hl [0, 1, 2, 3, 4] rfl)
  · replace h := fF c4 h
    refine lv_iconst (v := (0 : Int32)) hx hb dL_law_1995 (by decide) ?_
    exact fN h
set_option maxHeartbeats 0 in
set_option maxRecDepth 100000 in
theorem cs_33 {p : Program} {l : Launch} {e : Env} {s : State} {m : MethodId} {args : Array Value} {below : List Frame} {meth : Method} {c : Code} {Q : State → Prop} {D : va_G} {o w : Nat → Nat} {v : Nat} {y : Nat → ClassId} {A : Nat → Prop} {b L : Nat} {xs : Nat → Int32} {x4 a1 a2 a3 : Int32} (hfl : l.stackTraces = false) (hx : p.tables.exec = Jvm.exec) (hb : c.code = code) (hml : c.maxLocals = 7) (hown : s.vm.findClass RL = some m.cls) (hts : ∀ w ∈ wsL_law, w.before args s = true) (hA : ∀ q, s.heap.size ≤ q → A q) (hK : va_K D vwCl (TY y) s) (hEX : EXC A s s.heap) (hX : va_X b L xs s s.heap) (hbl : b < s.heap.size) (hbA : ¬ A b) (hi1 : vp_in (x4 + (1 : Int32)) L) (hi2 : vp_in (x4 + (2 : Int32)) L) (hi3 : vp_in (x4 + (3 : Int32)) L) (ha1 : xs (x4 + (1 : Int32)).toNatClampNeg = a1) (ha2 : xs (x4 + (2 : Int32)).toNatClampNeg = a2) (ha3 : xs (x4 + (3 : Int32)).toNatClampNeg = a3) (pl : Nat → Int64) (te : Nat → Int32) (be : Nat → Int64) (cn : Int32) (ch : Nat → Int32) (le : Int32) (rE : Int32) (rL : Int32) (rP : Int32) (rF : Int32) (rS : Int32) (rD : Int32) (hs : Nat → Int64) (ho : Int32) (hc : Int32) (sl : Nat → Int64) (fi : Nat → Int32) (th : Int32) (ms : Nat → Int32) (mst : Nat → Int32) (smn : Int32) (msl : Nat → Int32) (mhs : Nat → Int32) (mtx : Nat → Int32) (mle : Int32) (mat : Int32) (mwl : Int32) (mrd : Nat → Int32) (mrm : Int32) (mtp : Int64) (mbt : Int64) (mtm : Nat → Int32) (mtn : Int32) (mnt : Int32) (mnb : Int32) (mun : Nat → Int32) (mum : Int32) (mau : Int32) (ou : Nat → Int64) (sl' : Nat → Int64) (fi' : Nat → Int32) (th' : Int32) (msl' : Nat → Int32) (mhs' : Nat → Int32) (ou' : Nat → Int64) (h : G_33 pl sl fi th ms msl mhs ou a1 a2 a3 = some (sl', fi', th', msl', mhs', ou')) {H : Heap} {locs : List Loc} {ls : Array Slot} {cells slots : Nat} (hP : va_P D vwCl (LW o w v y pl te be cn ch le rE rL rP rF rS rD hs ho hc sl fi th ms mst smn msl mhs mtx mle mat mwl mrd mrm mtp mbt mtm mtn mnt mnb mun mum mau ou) H) (hD : va_D A (LW o w v y pl te be cn ch le rE rL rP rF rS rD hs ho hc sl fi th ms mst smn msl mhs mtx mle mat mwl mrd mrm mtp mbt mtm mtn mnt mnb mun mum mau ou)) (hS : va_S A s.heap H locs) (hl : lv_has ls 7 [(0, .ref b), (1, .ref (o 0)), (2, .ref (w 0)), (3, .ref v), (4, .int x4)]) (bcl : cells + 1 ≤ 1063) (bsl : slots + 6 ≤ 8907)
    (kk : ∀ (H : Heap) (locs : List Loc) (ls : Array Slot), va_P D vwCl (LW o w v y pl te be cn ch le rE rL rP rF rS rD hs ho hc sl' fi' th' ms mst smn msl' mhs' mtx mle mat mwl mrd mrm mtp mbt mtm mtn mnt mnb mun mum mau ou') H → va_D A (LW o w v y pl te be cn ch le rE rL rP rF rS rD hs ho hc sl' fi' th' ms mst smn msl' mhs' mtx mle mat mwl mrd mrm mtp mbt mtm mtn mnt mnb mun mum mau ou') → va_S A s.heap H locs → lv_has ls 7 [(0, .ref b), (1, .ref (o 0)), (2, .ref (w 0)), (3, .ref v), (4, .int x4)] → W p l e room_1 s m args below meth c H locs (cells + 1) (slots + 6) Q (F0 m 2109 ls [])) : W p l e room_1 s m args below meth c H locs cells slots Q (F0 m 1997 ls []) := by
  unfold G_33 at h
  refine lv_aload_n hx hb dL_law_1997 rfl (lv_at hl 1 rfl) ?_
  refine lv_aload_n hx hb dL_law_1998 rfl (lv_at hl 0 rfl) ?_
  refine lv_iload hx hb dL_law_1999 (lv_at hl 4 rfl) ?_
  refine lv_iconst (v := (1 : Int32)) hx hb dL_law_2001 (by decide) ?_
  refine lv_iadd hx hb dL_law_2002 ?_
  refine va_sld hx hb hX hbl hbA hS hi1 dL_law_2003 ?_
  refine eqi ha1 ?_
  refine lv_aload_n hx hb dL_law_2004 rfl (lv_at hl 3 rfl) ?_
  obtain ⟨r1, sl2, fi3, ou4, g5, h⟩ := fB4 h
  refine cW_i (As := [.ref (o 0), .int a1, .ref v]) (rest := []) (ws1 := (LW o w v y pl te be cn ch le rE rL rP rF rS rD hs ho hc sl2 fi3 th ms mst smn msl mhs mtx mle mat mwl mrd mrm mtp mbt mtm mtn mnt mnb mun mum mau ou4)) ⟨hx, hb, hml, hown, hts⟩ (c_L_saveState l hfl D o v y _ pl te be cn ch le rE rL rP rF rS rD hs ho hc sl fi ou a1 r1 sl2 fi3 ou4 g5) (vx_cwSW 3 hts gL_law_L_saveState rfl rfl rfl hd_L_saveState ⟨Nat.le_of_ble_eq_true rfl, Nat.le_of_ble_eq_true rfl⟩) hK hP hD hS hA hEX [0, 1, 2, 3, 4, 5, 6, 7, 8, 9, 10, 11, 21] [12, 13, 14, 15, 16, 17, 18, 19, 20] [9, 10, 11, 12, 13, 14, 15, 16, 17, 18, 19, 20, 0, 1, 2, 3, 4, 5, 6, 7, 8, 21] rfl rfl rfl (by decide) rfl rfl rfl rfl hl.1 rfl (Nat.le_of_ble_eq_true rfl) dL_law_2005 ⟨bcl, bsl⟩ (fun H locs hP hD hS => ?_)
  refine lv_istore (lv' := [(5, .int r1), (0, .ref b), (1, .ref (o 0)), (2, .ref (w 0)), (3, .ref v), (4, .int x4)]) hx hb dL_law_2008 hl (by decide) rfl (fun ls hl => ?_)
  refine lv_aload_n hx hb dL_law_2010 rfl (lv_at hl 3 rfl) ?_
  refine lv_aload_n hx hb dL_law_2011 rfl (lv_at hl 1 rfl) ?_
  refine lv_iload hx hb dL_law_2012 (lv_at hl 5 rfl) ?_
  refine lv_iconst (v := (1 : Int32)) hx hb dL_law_2014 (by decide) ?_
  refine lv_iadd hx hb dL_law_2015 ?_
  refine va_sld hx hb hX hbl hbA hS hi1 dL_law_2016 ?_
  refine eqi ha1 ?_
  obtain ⟨r6, th7, msl8, mhs9, g10, h⟩ := fB4 h
  refine cV_i (As := [.int a1]) (rest := []) (ws1 := (LW o w v y pl te be cn ch le rE rL rP rF rS rD hs ho hc sl2 fi3 th7 ms mst smn msl8 mhs9 mtx mle mat mwl mrd mrm mtp mbt mtm mtn mnt mnb mun mum mau ou4)) ⟨hx, hb, hml, hown, hts⟩ (c_X7_saveState l D w y _ th ms mst smn msl mhs mtx mle mat mwl mrd mrm mtp mbt mtm mtn mnt mnb mun mum mau a1 r6 th7 msl8 mhs9 g10) (cwV 1 hts gL_law_X7_saveState rfl rfl rfl hd_X7_saveState ⟨Nat.le_of_ble_eq_true rfl, Nat.le_of_ble_eq_true rfl⟩) hK hP hD hS hA [12, 13, 14, 15, 16, 17, 18, 19, 20] [0, 1, 2, 3, 4, 5, 6, 7, 8, 9, 10, 11, 21] [0, 1, 2, 3, 4, 5, 6, 7, 8, 9, 10, 11, 13, 14, 15, 16, 17, 18, 19, 20, 21, 12] rfl rfl rfl (by decide) rfl rfl rfl 0 (ci := 5) rfl rfl rfl hl.1 rfl (Nat.le_of_ble_eq_true rfl) dL_law_2017 ⟨bcl, bsl⟩ (fun H locs hP hD hS => ?_)
  refine lv_istore (lv' := [(6, .int r6), (5, .int r1), (0, .ref b), (1, .ref (o 0)), (2, .ref (w 0)), (3, .ref v), (4, .int x4)]) hx hb dL_law_2020 hl (by decide) rfl (fun ls hl => ?_)
  refine lv_aload_n hx hb dL_law_2022 rfl (lv_at hl 4 rfl) ?_
  refine cV_i (As := []) (rest := []) (ws1 := (LW o w v y pl te be cn ch le rE rL rP rF rS rD hs ho hc sl2 fi3 th7 ms mst smn msl8 mhs9 mtx mle mat mwl mrd mrm mtp mbt mtm mtn mnt mnb mun mum mau ou4)) ⟨hx, hb, hml, hown, hts⟩ (c_X7_thrown l D w y _ th7 ms mst smn msl8 mhs9 mtx mle mat mwl mrd mrm mtp mbt mtm mtn mnt mnb mun mum mau ) (cwV 0 hts gL_law_X7_thrown rfl rfl rfl hd_X7_thrown ⟨Nat.le_of_ble_eq_true rfl, Nat.le_of_ble_eq_true rfl⟩) hK hP hD hS hA [12, 13, 14, 15, 16, 17, 18, 19, 20] [0, 1, 2, 3, 4, 5, 6, 7, 8, 9, 10, 11, 21] [0, 1, 2, 3, 4, 5, 6, 7, 8, 9, 10, 11, 13, 14, 15, 16, 17, 18, 19, 20, 21, 12] rfl rfl rfl (by decide) rfl rfl rfl 0 (ci := 5) rfl rfl rfl hl.1 rfl (Nat.le_of_ble_eq_true rfl) dL_law_2023 ⟨bcl, bsl⟩ (fun H locs hP hD hS => ?_)
  refine lv_iload hx hb dL_law_2026 (lv_at hl 1 rfl) ?_
  refine lv_icmp_eq (tgt := 2033) hx hb dL_law_2028 (by decide) (fun c11 => ?_) (fun c11 => ?_)
  · replace h := fT c11 h
    refine lv_iload hx hb dL_law_2033 (lv_at hl 1 rfl) ?_
    refine lv_if_ne (tgt := 2050) hx hb dL_law_2035 (by decide) (fun c12 => ?_) (fun c12 => ?_)
    · replace h := fF c12 h
      refine lv_goto (tgt := 2109) hx hb dL_law_2050 (by decide) ?_
      cases h
      exact kk _ _ _ hP hD hS (lv_sub hl [2, 3, 4, 5, 6] rfl)
    · replace h := fT c12 h
      refine lv_aload_n hx hb dL_law_2038 rfl (lv_at hl 5 rfl) ?_
      refine lv_iconst (v := (0 : Int32)) hx hb dL_law_2039 (by decide) ?_
      refine va_lald hx hb hK hP 21 1 rfl rfl (show ¬ ((0 : Int32) < 0 ∨ 1 ≤ (0 : Int32).toNatClampNeg) from by decide) dL_law_2040 ?_
      refine lv_iload hx hb dL_law_2041 (lv_at hl 0 rfl) ?_
      refine lv_i2l (v := r6.toInt64) hx hb dL_law_2043 rfl ?_
      refine lx_eq (tgt := 2050) hx hb dL_law_2044 dL_law_2045 (by decide) (fun c13 => ?_) (fun c13 => ?_)
      · replace h := fT c13 h
        refine lv_goto (tgt := 2109) hx hb dL_law_2050 (by decide) ?_
        cases h
        exact kk _ _ _ hP hD hS (lv_sub hl [2, 3, 4, 5, 6] rfl)
      · replace h := fF c13 h
        refine lv_iconst (v := (0 : Int32)) hx hb dL_law_2048 (by decide) ?_
        exact fN h
  · replace h := fF c11 h
    refine lv_iconst (v := (0 : Int32)) hx hb dL_law_2031 (by decide) ?_
    exact fN h
set_option maxHeartbeats 0 in
set_option maxRecDepth 100000 in
theorem cs_34 {p : Program} {l : Launch} {e : Env} {s : State} {m : MethodId} {args : Array Value} {below : List Frame} {meth : Method} {c : Code} {Q : State → Prop} {D : va_G} {o w : Nat → Nat} {v : Nat} {y : Nat → ClassId} {A : Nat → Prop} {b L : Nat} {xs : Nat → Int32} {x4 a1 a2 a3 : Int32} (hfl : l.stackTraces = false) (hx : p.tables.exec = Jvm.exec) (hb : c.code = code) (hml : c.maxLocals = 7) (hown : s.vm.findClass RL = some m.cls) (hts : ∀ w ∈ wsL_law, w.before args s = true) (hA : ∀ q, s.heap.size ≤ q → A q) (hK : va_K D vwCl (TY y) s) (hEX : EXC A s s.heap) (hX : va_X b L xs s s.heap) (hbl : b < s.heap.size) (hbA : ¬ A b) (hi1 : vp_in (x4 + (1 : Int32)) L) (hi2 : vp_in (x4 + (2 : Int32)) L) (hi3 : vp_in (x4 + (3 : Int32)) L) (ha1 : xs (x4 + (1 : Int32)).toNatClampNeg = a1) (ha2 : xs (x4 + (2 : Int32)).toNatClampNeg = a2) (ha3 : xs (x4 + (3 : Int32)).toNatClampNeg = a3) (pl : Nat → Int64) (te : Nat → Int32) (be : Nat → Int64) (cn : Int32) (ch : Nat → Int32) (le : Int32) (rE : Int32) (rL : Int32) (rP : Int32) (rF : Int32) (rS : Int32) (rD : Int32) (hs : Nat → Int64) (ho : Int32) (hc : Int32) (sl : Nat → Int64) (fi : Nat → Int32) (th : Int32) (ms : Nat → Int32) (mst : Nat → Int32) (smn : Int32) (msl : Nat → Int32) (mhs : Nat → Int32) (mtx : Nat → Int32) (mle : Int32) (mat : Int32) (mwl : Int32) (mrd : Nat → Int32) (mrm : Int32) (mtp : Int64) (mbt : Int64) (mtm : Nat → Int32) (mtn : Int32) (mnt : Int32) (mnb : Int32) (mun : Nat → Int32) (mum : Int32) (mau : Int32) (ou : Nat → Int64) (pl' : Nat → Int64) (hs' : Nat → Int64) (ho' : Int32) (hc' : Int32) (th' : Int32) (ms' : Nat → Int32) (mst' : Nat → Int32) (smn' : Int32) (ou' : Nat → Int64) (h : G_34 pl hs ho hc sl fi th ms mst smn msl mhs ou a1 a2 a3 = some (pl', hs', ho', hc', th', ms', mst', smn', ou')) {H : Heap} {locs : List Loc} {ls : Array Slot} {cells slots : Nat} (hP : va_P D vwCl (LW o w v y pl te be cn ch le rE rL rP rF rS rD hs ho hc sl fi th ms mst smn msl mhs mtx mle mat mwl mrd mrm mtp mbt mtm mtn mnt mnb mun mum mau ou) H) (hD : va_D A (LW o w v y pl te be cn ch le rE rL rP rF rS rD hs ho hc sl fi th ms mst smn msl mhs mtx mle mat mwl mrd mrm mtp mbt mtm mtn mnt mnb mun mum mau ou)) (hS : va_S A s.heap H locs) (hl : lv_has ls 7 [(0, .ref b), (1, .ref (o 0)), (2, .ref (w 0)), (3, .ref v), (4, .int x4)]) (bcl : cells + 1 ≤ 1063) (bsl : slots + 6 ≤ 8907)
    (kk : ∀ (H : Heap) (locs : List Loc) (ls : Array Slot), va_P D vwCl (LW o w v y pl' te be cn ch le rE rL rP rF rS rD hs' ho' hc' sl fi th' ms' mst' smn' msl mhs mtx mle mat mwl mrd mrm mtp mbt mtm mtn mnt mnb mun mum mau ou') H → va_D A (LW o w v y pl' te be cn ch le rE rL rP rF rS rD hs' ho' hc' sl fi th' ms' mst' smn' msl mhs mtx mle mat mwl mrd mrm mtp mbt mtm mtn mnt mnb mun mum mau ou') → va_S A s.heap H locs → lv_has ls 7 [(0, .ref b), (1, .ref (o 0)), (2, .ref (w 0)), (3, .ref v), (4, .int x4)] → W p l e room_1 s m args below meth c H locs (cells + 1) (slots + 6) Q (F0 m 2109 ls [])) : W p l e room_1 s m args below meth c H locs cells slots Q (F0 m 2053 ls []) := by
  unfold G_34 at h
  refine lv_aload_n hx hb dL_law_2053 rfl (lv_at hl 1 rfl) ?_
  refine lv_aload_n hx hb dL_law_2054 rfl (lv_at hl 0 rfl) ?_
  refine lv_iload hx hb dL_law_2055 (lv_at hl 4 rfl) ?_
  refine lv_iconst (v := (1 : Int32)) hx hb dL_law_2057 (by decide) ?_
  refine lv_iadd hx hb dL_law_2058 ?_
  refine va_sld hx hb hX hbl hbA hS hi1 dL_law_2059 ?_
  refine eqi ha1 ?_
  refine lv_aload_n hx hb dL_law_2060 rfl (lv_at hl 3 rfl) ?_
  obtain ⟨r1, pl2, hs3, ho4, hc5, ou6, g7, h⟩ := fB6 h
  refine cW_i (As := [.ref (o 0), .int a1, .ref v]) (rest := []) (ws1 := (LW o w v y pl2 te be cn ch le rE rL rP rF rS rD hs3 ho4 hc5 sl fi th ms mst smn msl mhs mtx mle mat mwl mrd mrm mtp mbt mtm mtn mnt mnb mun mum mau ou6)) ⟨hx, hb, hml, hown, hts⟩ (c_L_loadState l hfl D o v y _ pl te be cn ch le rE rL rP rF rS rD hs ho hc sl fi ou a1 r1 pl2 hs3 ho4 hc5 ou6 g7) (vx_cwSW 3 hts gL_law_L_loadState rfl rfl rfl hd_L_loadState ⟨Nat.le_of_ble_eq_true rfl, Nat.le_of_ble_eq_true rfl⟩) hK hP hD hS hA hEX [0, 1, 2, 3, 4, 5, 6, 7, 8, 9, 10, 11, 21] [12, 13, 14, 15, 16, 17, 18, 19, 20] [9, 10, 11, 12, 13, 14, 15, 16, 17, 18, 19, 20, 0, 1, 2, 3, 4, 5, 6, 7, 8, 21] rfl rfl rfl (by decide) rfl rfl rfl rfl hl.1 rfl (Nat.le_of_ble_eq_true rfl) dL_law_2061 ⟨bcl, bsl⟩ (fun H locs hP hD hS => ?_)
  refine lv_istore (lv' := [(5, .int r1), (0, .ref b), (1, .ref (o 0)), (2, .ref (w 0)), (3, .ref v), (4, .int x4)]) hx hb dL_law_2064 hl (by decide) rfl (fun ls hl => ?_)
  refine lv_aload_n hx hb dL_law_2066 rfl (lv_at hl 3 rfl) ?_
  refine lv_aload_n hx hb dL_law_2067 rfl (lv_at hl 1 rfl) ?_
  refine lv_iload hx hb dL_law_2068 (lv_at hl 5 rfl) ?_
  refine lv_iconst (v := (1 : Int32)) hx hb dL_law_2070 (by decide) ?_
  refine lv_iadd hx hb dL_law_2071 ?_
  refine va_sld hx hb hX hbl hbA hS hi1 dL_law_2072 ?_
  refine eqi ha1 ?_
  obtain ⟨r8, th9, ms10, mst11, smn12, g13, h⟩ := fB5 h
  refine cV_i (As := [.int a1]) (rest := []) (ws1 := (LW o w v y pl2 te be cn ch le rE rL rP rF rS rD hs3 ho4 hc5 sl fi th9 ms10 mst11 smn12 msl mhs mtx mle mat mwl mrd mrm mtp mbt mtm mtn mnt mnb mun mum mau ou6)) ⟨hx, hb, hml, hown, hts⟩ (c_X7_loadState l D w y _ th ms mst smn msl mhs mtx mle mat mwl mrd mrm mtp mbt mtm mtn mnt mnb mun mum mau a1 r8 th9 ms10 mst11 smn12 g13) (cwV 1 hts gL_law_X7_loadState rfl rfl rfl hd_X7_loadState ⟨Nat.le_of_ble_eq_true rfl, Nat.le_of_ble_eq_true rfl⟩) hK hP hD hS hA [12, 13, 14, 15, 16, 17, 18, 19, 20] [0, 1, 2, 3, 4, 5, 6, 7, 8, 9, 10, 11, 21] [0, 1, 2, 3, 4, 5, 6, 7, 8, 9, 10, 11, 13, 14, 15, 16, 17, 18, 19, 20, 21, 12] rfl rfl rfl (by decide) rfl rfl rfl 0 (ci := 5) rfl rfl rfl hl.1 rfl (Nat.le_of_ble_eq_true rfl) dL_law_2073 ⟨bcl, bsl⟩ (fun H locs hP hD hS => ?_)
  refine lv_istore (lv' := [(6, .int r8), (5, .int r1), (0, .ref b), (1, .ref (o 0)), (2, .ref (w 0)), (3, .ref v), (4, .int x4)]) hx hb dL_law_2076 hl (by decide) rfl (fun ls hl => ?_)
  refine lv_aload_n hx hb dL_law_2078 rfl (lv_at hl 4 rfl) ?_
  refine cV_i (As := []) (rest := []) (ws1 := (LW o w v y pl2 te be cn ch le rE rL rP rF rS rD hs3 ho4 hc5 sl fi th9 ms10 mst11 smn12 msl mhs mtx mle mat mwl mrd mrm mtp mbt mtm mtn mnt mnb mun mum mau ou6)) ⟨hx, hb, hml, hown, hts⟩ (c_X7_thrown l D w y _ th9 ms10 mst11 smn12 msl mhs mtx mle mat mwl mrd mrm mtp mbt mtm mtn mnt mnb mun mum mau ) (cwV 0 hts gL_law_X7_thrown rfl rfl rfl hd_X7_thrown ⟨Nat.le_of_ble_eq_true rfl, Nat.le_of_ble_eq_true rfl⟩) hK hP hD hS hA [12, 13, 14, 15, 16, 17, 18, 19, 20] [0, 1, 2, 3, 4, 5, 6, 7, 8, 9, 10, 11, 21] [0, 1, 2, 3, 4, 5, 6, 7, 8, 9, 10, 11, 13, 14, 15, 16, 17, 18, 19, 20, 21, 12] rfl rfl rfl (by decide) rfl rfl rfl 0 (ci := 5) rfl rfl rfl hl.1 rfl (Nat.le_of_ble_eq_true rfl) dL_law_2079 ⟨bcl, bsl⟩ (fun H locs hP hD hS => ?_)
  refine lv_iload hx hb dL_law_2082 (lv_at hl 1 rfl) ?_
  refine lv_icmp_eq (tgt := 2089) hx hb dL_law_2084 (by decide) (fun c14 => ?_) (fun c14 => ?_)
  · replace h := fT c14 h
    refine lv_iload hx hb dL_law_2089 (lv_at hl 1 rfl) ?_
    refine lv_if_ne (tgt := 2106) hx hb dL_law_2091 (by decide) (fun c15 => ?_) (fun c15 => ?_)
    · replace h := fF c15 h
      refine lv_goto (tgt := 2109) hx hb dL_law_2106 (by decide) ?_
      cases h
      exact kk _ _ _ hP hD hS (lv_sub hl [2, 3, 4, 5, 6] rfl)
    · replace h := fT c15 h
      refine lv_aload_n hx hb dL_law_2094 rfl (lv_at hl 5 rfl) ?_
      refine lv_iconst (v := (0 : Int32)) hx hb dL_law_2095 (by decide) ?_
      refine va_lald hx hb hK hP 21 1 rfl rfl (show ¬ ((0 : Int32) < 0 ∨ 1 ≤ (0 : Int32).toNatClampNeg) from by decide) dL_law_2096 ?_
      refine lv_iload hx hb dL_law_2097 (lv_at hl 0 rfl) ?_
      refine lv_i2l (v := r8.toInt64) hx hb dL_law_2099 rfl ?_
      refine lx_eq (tgt := 2106) hx hb dL_law_2100 dL_law_2101 (by decide) (fun c16 => ?_) (fun c16 => ?_)
      · replace h := fT c16 h
        refine lv_goto (tgt := 2109) hx hb dL_law_2106 (by decide) ?_
        cases h
        exact kk _ _ _ hP hD hS (lv_sub hl [2, 3, 4, 5, 6] rfl)
      · replace h := fF c16 h
        refine lv_iconst (v := (0 : Int32)) hx hb dL_law_2104 (by decide) ?_
        exact fN h
  · replace h := fF c14 h
    refine lv_iconst (v := (0 : Int32)) hx hb dL_law_2087 (by decide) ?_
    exact fN h
