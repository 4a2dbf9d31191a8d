set_option maxHeartbeats 0 in
set_option maxRecDepth 100000 in
theorem cs_12 {p : Program} {l : Launch} {e : Env} {s : State} {m : MethodId} {args : Array Value} {below : List Frame} {meth : Method} {c : Code} {Q : State → Prop} {D : va_G} {o w : Nat → Nat} {v : Nat} {y : Nat → ClassId} {A : Nat → Prop} {b L : Nat} {xs : Nat → Int32} {x4 a1 a2 a3 : Int32} (hfl : l.stackTraces = false) (hx : p.tables.exec = Jvm.exec) (hb : c.code = code) (hml : c.maxLocals = 7) (hown : s.vm.findClass RL = some m.cls) (hts : ∀ w ∈ wsL_law, w.before args s = true) (hA : ∀ q, s.heap.size ≤ q → A q) (hK : va_K D vwCl (TY y) s) (hEX : EXC A s s.heap) (hX : va_X b L xs s s.heap) (hbl : b < s.heap.size) (hbA : ¬ A b) (hi1 : vp_in (x4 + (1 : Int32)) L) (hi2 : vp_in (x4 + (2 : Int32)) L) (hi3 : vp_in (x4 + (3 : Int32)) L) (ha1 : xs (x4 + (1 : Int32)).toNatClampNeg = a1) (ha2 : xs (x4 + (2 : Int32)).toNatClampNeg = a2) (ha3 : xs (x4 + (3 : Int32)).toNatClampNeg = a3) (pl : Nat → Int64) (te : Nat → Int32) (be : Nat → Int64) (cn : Int32) (ch : Nat → Int32) (le : Int32) (rE : Int32) (rL : Int32) (rP : Int32) (rF : Int32) (rS : Int32) (rD : Int32) (hs : Nat → Int64) (ho : Int32) (hc : Int32) (sl : Nat → Int64) (fi : Nat → Int32) (th : Int32) (ms : Nat → Int32) (mst : Nat → Int32) (smn : Int32) (msl : Nat → Int32) (mhs : Nat → Int32) (mtx : Nat → Int32) (mle : Int32) (mat : Int32) (mwl : Int32) (mrd : Nat → Int32) (mrm : Int32) (mtp : Int64) (mbt : Int64) (mtm : Nat → Int32) (mtn : Int32) (mnt : Int32) (mnb : Int32) (mun : Nat → Int32) (mum : Int32) (mau : Int32) (ou : Nat → Int64) (th' : Int32) (h : G_12 pl th ms a1 a2 a3 = some th') {H : Heap} {locs : List Loc} {ls : Array Slot} {cells slots : Nat} (hP : va_P D vwCl (LW o w v y pl te be cn ch le rE rL rP rF rS rD hs ho hc sl fi th ms mst smn msl mhs mtx mle mat mwl mrd mrm mtp mbt mtm mtn mnt mnb mun mum mau ou) H) (hD : va_D A (LW o w v y pl te be cn ch le rE rL rP rF rS rD hs ho hc sl fi th ms mst smn msl mhs mtx mle mat mwl mrd mrm mtp mbt mtm mtn mnt mnb mun mum mau ou)) (hS : va_S A s.heap H locs) (hl : lv_has ls 7 [(0, .ref b), (1, .ref (o 0)), (2, .ref (w 0)), (3, .ref v), (4, .int x4)]) (bcl : cells + 1 ≤ 1063) (bsl : slots + 6 ≤ 8907)
    (kk : ∀ (H : Heap) (locs : List Loc) (ls : Array Slot), va_P D vwCl (LW o w v y pl te be cn ch le rE rL rP rF rS rD hs ho hc sl fi th' ms mst smn msl mhs mtx mle mat mwl mrd mrm mtp mbt mtm mtn mnt mnb mun mum mau ou) H → va_D A (LW o w v y pl te be cn ch le rE rL rP rF rS rD hs ho hc sl fi th' ms mst smn msl mhs mtx mle mat mwl mrd mrm mtp mbt mtm mtn mnt mnb mun mum mau ou) → va_S A s.heap H locs → lv_has ls 7 [(0, .ref b), (1, .ref (o 0)), (2, .ref (w 0)), (3, .ref v), (4, .int x4)] → W p l e room_1 s m args below meth c H locs (cells + 1) (slots + 6) Q (F0 m 2109 ls [])) : W p l e room_1 s m args below meth c H locs cells slots Q (F0 m 979 ls []) := by
  unfold G_12 at h
  refine lv_aload_n hx hb dL_law_979 rfl (lv_at hl 1 rfl) ?_
  obtain ⟨r1, g2, h⟩ := fB1 h
  refine cV_l (As := []) (rest := []) (ws1 := (LW o w v y pl te be cn ch le rE rL rP rF rS rD hs ho hc sl fi th ms mst smn msl mhs mtx mle mat mwl mrd mrm mtp mbt mtm mtn mnt mnb mun mum mau ou)) ⟨hx, hb, hml, hown, hts⟩ (c_X6_commonParts l D o y _ pl te be cn ch le rE rL rP rF rS rD hs ho hc sl fi r1 g2) (cwV 0 hts gL_law_X6_commonParts rfl rfl rfl hd_X6_commonParts ⟨Nat.le_of_ble_eq_true rfl, Nat.le_of_ble_eq_true rfl⟩) hK hP hD hS hA [0, 1, 2, 3, 4, 5, 6, 7, 8, 9, 10, 11] [12, 13, 14, 15, 16, 17, 18, 19, 20, 21] [10, 11, 12, 13, 14, 15, 16, 17, 18, 19, 20, 21, 0, 1, 2, 3, 4, 5, 6, 7, 8, 9] rfl rfl rfl (by decide) rfl rfl rfl 0 (ci := 4) rfl rfl rfl hl.1 rfl (Nat.le_of_ble_eq_true rfl) dL_law_980 ⟨Nat.le_of_succ_le bcl, Nat.le_trans (Nat.le_add_right _ 6) bsl⟩ (fun H locs hP hD hS => ?_)
  refine lv_aload_n hx hb dL_law_983 rfl (lv_at hl 2 rfl) ?_
  obtain ⟨r3, th4, g5, h⟩ := fB2 h
  refine cV_l (As := []) (rest := [.long r1]) (ws1 := (LW o w v y pl te be cn ch le rE rL rP rF rS rD hs ho hc sl fi th4 ms mst smn msl mhs mtx mle mat mwl mrd mrm mtp mbt mtm mtn mnt mnb mun mum mau ou)) ⟨hx, hb, hml, hown, hts⟩ (c_X7_commonParts l D w y _ th ms mst smn msl mhs mtx mle mat mwl mrd mrm mtp mbt mtm mtn mnt mnb mun mum mau r3 th4 g5) (cwV 0 hts gL_law_X7_commonParts rfl rfl rfl hd_X7_commonParts ⟨Nat.le_of_ble_eq_true rfl, Nat.le_of_ble_eq_true rfl⟩) hK hP hD hS hA [12, 13, 14, 15, 16, 17, 18, 19, 20] [0, 1, 2, 3, 4, 5, 6, 7, 8, 9, 10, 11, 21] [0, 1, 2, 3, 4, 5, 6, 7, 8, 9, 10, 11, 13, 14, 15, 16, 17, 18, 19, 20, 21, 12] rfl rfl rfl (by decide) rfl rfl rfl 0 (ci := 5) rfl rfl rfl hl.1 rfl (Nat.le_of_ble_eq_true rfl) dL_law_984 ⟨Nat.le_of_succ_le bcl, Nat.le_trans (Nat.le_add_right _ 6) bsl⟩ (fun H locs hP hD hS => ?_)
  refine lx_eq (tgt := 2109) hx hb dL_law_987 dL_law_988 (by decide) (fun c6 => ?_) (fun c6 => ?_)
  · replace h := fT c6 h
    refine W.widen (k := cells + 1) (n := slots + 6) (Nat.le_succ _) (Nat.le_add_right _ 6) ?_
    cases h
    exact kk _ _ _ hP hD hS (lv_sub hl [0, 1, 2, 3, 4] rfl)
  · replace h := fF c6 h
    refine lv_iconst (v := (0 : Int32)) hx hb dL_law_991 (by decide) ?_
    exact fN h
set_option maxHeartbeats 0 in
set_option maxRecDepth 100000 in
theorem cs_13 {p : Program} {l : Launch} {e : Env} {s : State} {m : MethodId} {args : Array Value} {below : List Frame} {meth : Method} {c : Code} {Q : State → Prop} {D : va_G} {o w : Nat → Nat} {v : Nat} {y : Nat → ClassId} {A : Nat → Prop} {b L : Nat} {xs : Nat → Int32} {x4 a1 a2 a3 : Int32} (hfl : l.stackTraces = false) (hx : p.tables.exec = Jvm.exec) (hb : c.code = code) (hml : c.maxLocals = 7) (hown : s.vm.findClass RL = some m.cls) (hts : ∀ w ∈ wsL_law, w.before args s = true) (hA : ∀ q, s.heap.size ≤ q → A q) (hK : va_K D vwCl (TY y) s) (hEX : EXC A s s.heap) (hX : va_X b L xs s s.heap) (hbl : b < s.heap.size) (hbA : ¬ A b) (hi1 : vp_in (x4 + (1 : Int32)) L) (hi2 : vp_in (x4 + (2 : Int32)) L) (hi3 : vp_in (x4 + (3 : Int32)) L) (ha1 : xs (x4 + (1 : Int32)).toNatClampNeg = a1) (ha2 : xs (x4 + (2 : Int32)).toNatClampNeg = a2) (ha3 : xs (x4 + (3 : Int32)).toNatClampNeg = a3) (pl : Nat → Int64) (te : Nat → Int32) (be : Nat → Int64) (cn : Int32) (ch : Nat → Int32) (le : Int32) (rE : Int32) (rL : Int32) (rP : Int32) (rF : Int32) (rS : Int32) (rD : Int32) (hs : Nat → Int64) (ho : Int32) (hc : Int32) (sl : Nat → Int64) (fi : Nat → Int32) (th : Int32) (ms : Nat → Int32) (mst : Nat → Int32) (smn : Int32) (msl : Nat → Int32) (mhs : Nat → Int32) (mtx : Nat → Int32) (mle : Int32) (mat : Int32) (mwl : Int32) (mrd : Nat → Int32) (mrm : Int32) (mtp : Int64) (mbt : Int64) (mtm : Nat → Int32) (mtn : Int32) (mnt : Int32) (mnb : Int32) (mun : Nat → Int32) (mum : Int32) (mau : Int32) (ou : Nat → Int64) (th' : Int32) (h : G_13 pl th ms a1 a2 a3 = some th') {H : Heap} {locs : List Loc} {ls : Array Slot} {cells slots : Nat} (hP : va_P D vwCl (LW o w v y pl te be cn ch le rE rL rP rF rS rD hs ho hc sl fi th ms mst smn msl mhs mtx mle mat mwl mrd mrm mtp mbt mtm mtn mnt mnb mun mum mau ou) H) (hD : va_D A (LW o w v y pl te be cn ch le rE rL rP rF rS rD hs ho hc sl fi th ms mst smn msl mhs mtx mle mat mwl mrd mrm mtp mbt mtm mtn mnt mnb mun mum mau ou)) (hS : va_S A s.heap H locs) (hl : lv_has ls 7 [(0, .ref b), (1, .ref (o 0)), (2, .ref (w 0)), (3, .ref v), (4, .int x4)]) (bcl : cells + 1 ≤ 1063) (bsl : slots + 6 ≤ 8907)
    (kk : ∀ (H : Heap) (locs : List Loc) (ls : Array Slot), va_P D vwCl (LW o w v y pl te be cn ch le rE rL rP rF rS rD hs ho hc sl fi th' ms mst smn msl mhs mtx mle mat mwl mrd mrm mtp mbt mtm mtn mnt mnb mun mum mau ou) H → va_D A (LW o w v y pl te be cn ch le rE rL rP rF rS rD hs ho hc sl fi th' ms mst smn msl mhs mtx mle mat mwl mrd mrm mtp mbt mtm mtn mnt mnb mun mum mau ou) → va_S A s.heap H locs → lv_has ls 7 [(0, .ref b), (1, .ref (o 0)), (2, .ref (w 0)), (3, .ref v), (4, .int x4)] → W p l e room_1 s m args below meth c H locs (cells + 1) (slots + 6) Q (F0 m 2109 ls [])) : W p l e room_1 s m args below meth c H locs cells slots Q (F0 m 993 ls []) := by
  unfold G_13 at h
  refine lv_aload_n hx hb dL_law_993 rfl (lv_at hl 1 rfl) ?_
  obtain ⟨r1, g2, h⟩ := fB1 h
  refine cV_i (As := []) (rest := []) (ws1 := (LW o w v y pl te be cn ch le rE rL rP rF rS rD hs ho hc sl fi th ms mst smn msl mhs mtx mle mat mwl mrd mrm mtp mbt mtm mtn mnt mnb mun mum mau ou)) ⟨hx, hb, hml, hown, hts⟩ (c_X6_differentFractions l D o y _ pl te be cn ch le rE rL rP rF rS rD hs ho hc sl fi r1 g2) (cwV 0 hts gL_law_X6_differentFractions rfl rfl rfl hd_X6_differentFractions ⟨Nat.le_of_ble_eq_true rfl, Nat.le_of_ble_eq_true rfl⟩) hK hP hD hS hA [0, 1, 2, 3, 4, 5, 6, 7, 8, 9, 10, 11] [12, 13, 14, 15, 16, 17, 18, 19, 20, 21] [10, 11, 12, 13, 14, 15, 16, 17, 18, 19, 20, 21, 0, 1, 2, 3, 4, 5, 6, 7, 8, 9] rfl rfl rfl (by decide) rfl rfl rfl 0 (ci := 4) rfl rfl rfl hl.1 rfl (Nat.le_of_ble_eq_true rfl) dL_law_994 ⟨Nat.le_of_succ_le bcl, Nat.le_trans (Nat.le_add_right _ 6) bsl⟩ (fun H locs hP hD hS => ?_)
  refine lv_aload_n hx hb dL_law_997 rfl (lv_at hl 2 rfl) ?_
  obtain ⟨r3, th4, g5, h⟩ := fB2 h
  refine cV_i (As := []) (rest := [.int r1]) (ws1 := (LW o w v y pl te be cn ch le rE rL rP rF rS rD hs ho hc sl fi th4 ms mst smn msl mhs mtx mle mat mwl mrd mrm mtp mbt mtm mtn mnt mnb mun mum mau ou)) ⟨hx, hb, hml, hown, hts⟩ (c_X7_differentFractions l D w y _ th ms mst smn msl mhs mtx mle mat mwl mrd mrm mtp mbt mtm mtn mnt mnb mun mum mau r3 th4 g5) (cwV 0 hts gL_law_X7_differentFractions rfl rfl rfl hd_X7_differentFractions ⟨Nat.le_of_ble_eq_true rfl, Nat.le_of_ble_eq_true rfl⟩) hK hP hD hS hA [12, 13, 14, 15, 16, 17, 18, 19, 20] [0, 1, 2, 3, 4, 5, 6, 7, 8, 9, 10, 11, 21] [0, 1, 2, 3, 4, 5, 6, 7, 8, 9, 10, 11, 13, 14, 15, 16, 17, 18, 19, 20, 21, 12] rfl rfl rfl (by decide) rfl rfl rfl 0 (ci := 5) rfl rfl rfl hl.1 rfl (Nat.le_of_ble_eq_true rfl) dL_law_998 ⟨Nat.le_of_succ_le bcl, Nat.le_trans (Nat.le_add_right _ 6) bsl⟩ (fun H locs hP hD hS => ?_)
  refine lv_icmp_eq (tgt := 2109) hx hb dL_law_1001 (by decide) (fun c6 => ?_) (fun c6 => ?_)
  · replace h := fT c6 h
    refine W.widen (k := cells + 1) (n := slots + 6) (Nat.le_succ _) (Nat.le_add_right _ 6) ?_
    cases h
    exact kk _ _ _ hP hD hS (lv_sub hl [0, 1, 2, 3, 4] rfl)
  · replace h := fF c6 h
    refine lv_iconst (v := (0 : Int32)) hx hb dL_law_1004 (by decide) ?_
    exact fN h
set_option maxHeartbeats 0 in
set_option maxRecDepth 100000 in
theorem cs_14 {p : Program} {l : Launch} {e : Env} {s : State} {m : MethodId} {args : Array Value} {below : List Frame} {meth : Method} {c : Code} {Q : State → Prop} {D : va_G} {o w : Nat → Nat} {v : Nat} {y : Nat → ClassId} {A : Nat → Prop} {b L : Nat} {xs : Nat → Int32} {x4 a1 a2 a3 : Int32} (hfl : l.stackTraces = false) (hx : p.tables.exec = Jvm.exec) (hb : c.code = code) (hml : c.maxLocals = 7) (hown : s.vm.findClass RL = some m.cls) (hts : ∀ w ∈ wsL_law, w.before args s = true) (hA : ∀ q, s.heap.size ≤ q → A q) (hK : va_K D vwCl (TY y) s) (hEX : EXC A s s.heap) (hX : va_X b L xs s s.heap) (hbl : b < s.heap.size) (hbA : ¬ A b) (hi1 : vp_in (x4 + (1 : Int32)) L) (hi2 : vp_in (x4 + (2 : Int32)) L) (hi3 : vp_in (x4 + (3 : Int32)) L) (ha1 : xs (x4 + (1 : Int32)).toNatClampNeg = a1) (ha2 : xs (x4 + (2 : Int32)).toNatClampNeg = a2) (ha3 : xs (x4 + (3 : Int32)).toNatClampNeg = a3) (pl : Nat → Int64) (te : Nat → Int32) (be : Nat → Int64) (cn : Int32) (ch : Nat → Int32) (le : Int32) (rE : Int32) (rL : Int32) (rP : Int32) (rF : Int32) (rS : Int32) (rD : Int32) (hs : Nat → Int64) (ho : Int32) (hc : Int32) (sl : Nat → Int64) (fi : Nat → Int32) (th : Int32) (ms : Nat → Int32) (mst : Nat → Int32) (smn : Int32) (msl : Nat → Int32) (mhs : Nat → Int32) (mtx : Nat → Int32) (mle : Int32) (mat : Int32) (mwl : Int32) (mrd : Nat → Int32) (mrm : Int32) (mtp : Int64) (mbt : Int64) (mtm : Nat → Int32) (mtn : Int32) (mnt : Int32) (mnb : Int32) (mun : Nat → Int32) (mum : Int32) (mau : Int32) (ou : Nat → Int64) (te' : Nat → Int32) (be' : Nat → Int64) (cn' : Int32) (th' : Int32) (mtm' : Nat → Int32) (mtn' : Int32) (ou' : Nat → Int64) (h : G_14 pl te be cn th ms mtm mtn ou a1 a2 a3 = some (te', be', cn', th', mtm', mtn', ou')) {H : Heap} {locs : List Loc} {ls : Array Slot} {cells slots : Nat} (hP : va_P D vwCl (LW o w v y pl te be cn ch le rE rL rP rF rS rD hs ho hc sl fi th ms mst smn msl mhs mtx mle mat mwl mrd mrm mtp mbt mtm mtn mnt mnb mun mum mau ou) H) (hD : va_D A (LW o w v y pl te be cn ch le rE rL rP rF rS rD hs ho hc sl fi th ms mst smn msl mhs mtx mle mat mwl mrd mrm mtp mbt mtm mtn mnt mnb mun mum mau ou)) (hS : va_S A s.heap H locs) (hl : lv_has ls 7 [(0, .ref b), (1, .ref (o 0)), (2, .ref (w 0)), (3, .ref v), (4, .int x4)]) (bcl : cells + 1 ≤ 1063) (bsl : slots + 6 ≤ 8907)
    (kk : ∀ (H : Heap) (locs : List Loc) (ls : Array Slot), va_P D vwCl (LW o w v y pl te' be' cn' ch le rE rL rP rF rS rD hs ho hc sl fi th' ms mst smn msl mhs mtx mle mat mwl mrd mrm mtp mbt mtm' mtn' mnt mnb mun mum mau ou') H → va_D A (LW o w v y pl te' be' cn' ch le rE rL rP rF rS rD hs ho hc sl fi th' ms mst smn msl mhs mtx mle mat mwl mrd mrm mtp mbt mtm' mtn' mnt mnb mun mum mau ou') → va_S A s.heap H locs → lv_has ls 7 [(0, .ref b), (1, .ref (o 0)), (2, .ref (w 0)), (3, .ref v), (4, .int x4)] → W p l e room_1 s m args below meth c H locs (cells + 1) (slots + 6) Q (F0 m 2109 ls [])) : W p l e room_1 s m args below meth c H locs cells slots Q (F0 m 1006 ls []) := by
  unfold G_14 at h
  refine lv_aload_n hx hb dL_law_1006 rfl (lv_at hl 1 rfl) ?_
  refine lv_aload_n hx hb dL_law_1007 rfl (lv_at hl 0 rfl) ?_
  refine lv_iload hx hb dL_law_1008 (lv_at hl 4 rfl) ?_
  refine lv_iconst (v := (1 : Int32)) hx hb dL_law_1010 (by decide) ?_
  refine lv_iadd hx hb dL_law_1011 ?_
  refine va_sld hx hb hX hbl hbA hS hi1 dL_law_1012 ?_
  refine eqi ha1 ?_
  refine lv_aload_n hx hb dL_law_1013 rfl (lv_at hl 3 rfl) ?_
  obtain ⟨r1, te2, be3, cn4, ou5, g6, h⟩ := fB5 h
  refine cW_i (As := [.ref (o 0), .int a1, .ref v]) (rest := []) (ws1 := (LW o w v y pl te2 be3 cn4 ch le rE rL rP rF rS rD hs ho hc sl fi th ms mst smn msl mhs mtx mle mat mwl mrd mrm mtp mbt mtm mtn mnt mnb mun mum mau ou5)) ⟨hx, hb, hml, hown, hts⟩ (c_L_termCount l hfl D o v y _ pl te be cn ch le rE rL rP rF rS rD hs ho hc sl fi ou a1 r1 te2 be3 cn4 ou5 g6) (vx_cwSW 3 hts gL_law_L_termCount rfl rfl rfl hd_L_termCount ⟨Nat.le_of_ble_eq_true rfl, Nat.le_of_ble_eq_true rfl⟩) hK hP hD hS hA hEX [0, 1, 2, 3, 4, 5, 6, 7, 8, 9, 10, 11, 21] [12, 13, 14, 15, 16, 17, 18, 19, 20] [9, 10, 11, 12, 13, 14, 15, 16, 17, 18, 19, 20, 0, 1, 2, 3, 4, 5, 6, 7, 8, 21] rfl rfl rfl (by decide) rfl rfl rfl rfl hl.1 rfl (Nat.le_of_ble_eq_true rfl) dL_law_1014 ⟨bcl, bsl⟩ (fun H locs hP hD hS => ?_)
  refine lv_istore (lv' := [(5, .int r1), (0, .ref b), (1, .ref (o 0)), (2, .ref (w 0)), (3, .ref v), (4, .int x4)]) hx hb dL_law_1017 hl (by decide) rfl (fun ls hl => ?_)
  refine lv_aload_n hx hb dL_law_1019 rfl (lv_at hl 3 rfl) ?_
  refine lv_aload_n hx hb dL_law_1020 rfl (lv_at hl 1 rfl) ?_
  refine lv_iload hx hb dL_law_1021 (lv_at hl 5 rfl) ?_
  refine lv_iconst (v := (1 : Int32)) hx hb dL_law_1023 (by decide) ?_
  refine lv_iadd hx hb dL_law_1024 ?_
  refine va_sld hx hb hX hbl hbA hS hi1 dL_law_1025 ?_
  refine eqi ha1 ?_
  obtain ⟨r7, th8, mtm9, mtn10, g11, h⟩ := fB4 h
  refine cV_i (As := [.int a1]) (rest := []) (ws1 := (LW o w v y pl te2 be3 cn4 ch le rE rL rP rF rS rD hs ho hc sl fi th8 ms mst smn msl mhs mtx mle mat mwl mrd mrm mtp mbt mtm9 mtn10 mnt mnb mun mum mau ou5)) ⟨hx, hb, hml, hown, hts⟩ (c_X7_termCount l D w y _ th ms mst smn msl mhs mtx mle mat mwl mrd mrm mtp mbt mtm mtn mnt mnb mun mum mau a1 r7 th8 mtm9 mtn10 g11) (cwV 1 hts gL_law_X7_termCount rfl rfl rfl hd_X7_termCount ⟨Nat.le_of_ble_eq_true rfl, Nat.le_of_ble_eq_true rfl⟩) hK hP hD hS hA [12, 13, 14, 15, 16, 17, 18, 19, 20] [0, 1, 2, 3, 4, 5, 6, 7, 8, 9, 10, 11, 21] [0, 1, 2, 3, 4, 5, 6, 7, 8, 9, 10, 11, 13, 14, 15, 16, 17, 18, 19, 20, 21, 12] rfl rfl rfl (by decide) rfl rfl rfl 0 (ci := 5) rfl rfl rfl hl.1 rfl (Nat.le_of_ble_eq_true rfl) dL_law_1026 ⟨bcl, bsl⟩ (fun H locs hP hD hS => ?_)
  refine lv_istore (lv' := [(6, .int r7), (5, .int r1), (0, .ref b), (1, .ref (o 0)), (2, .ref (w 0)), (3, .ref v), (4, .int x4)]) hx hb dL_law_1029 hl (by decide) rfl (fun ls hl => ?_)
  refine lv_aload_n hx hb dL_law_1031 rfl (lv_at hl 4 rfl) ?_
  refine cV_i (As := []) (rest := []) (ws1 := (LW o w v y pl te2 be3 cn4 ch le rE rL rP rF rS rD hs ho hc sl fi th8 ms mst smn msl mhs mtx mle mat mwl mrd mrm mtp mbt mtm9 mtn10 mnt mnb mun mum mau ou5)) ⟨hx, hb, hml, hown, hts⟩ (c_X7_thrown l D w y _ th8 ms mst smn msl mhs mtx mle mat mwl mrd mrm mtp mbt mtm9 mtn10 mnt mnb mun mum mau ) (cwV 0 hts gL_law_X7_thrown rfl rfl rfl hd_X7_thrown ⟨Nat.le_of_ble_eq_true rfl, Nat.le_of_ble_eq_true rfl⟩) hK hP hD hS hA [12, 13, 14, 15, 16, 17, 18, 19, 20] [0, 1, 2, 3, 4, 5, 6, 7, 8, 9, 10, 11, 21] [0, 1, 2, 3, 4, 5, 6, 7, 8, 9, 10, 11, 13, 14, 15, 16, 17, 18, 19, 20, 21, 12] rfl rfl rfl (by decide) rfl rfl rfl 0 (ci := 5) rfl rfl rfl hl.1 rfl (Nat.le_of_ble_eq_true rfl) dL_law_1032 ⟨bcl, bsl⟩ (fun H locs hP hD hS => ?_)
  refine lv_iload hx hb dL_law_1035 (lv_at hl 1 rfl) ?_
  refine lv_icmp_eq (tgt := 1042) hx hb dL_law_1037 (by decide) (fun c12 => ?_) (fun c12 => ?_)
  · replace h := fT c12 h
    refine lv_iload hx hb dL_law_1042 (lv_at hl 1 rfl) ?_
    refine lv_if_ne (tgt := 1059) hx hb dL_law_1044 (by decide) (fun c13 => ?_) (fun c13 => ?_)
    · replace h := fF c13 h
      refine lv_goto (tgt := 2109) hx hb dL_law_1059 (by decide) ?_
      cases h
      exact kk _ _ _ hP hD hS (lv_sub hl [2, 3, 4, 5, 6] rfl)
    · replace h := fT c13 h
      refine lv_aload_n hx hb dL_law_1047 rfl (lv_at hl 5 rfl) ?_
      refine lv_iconst (v := (0 : Int32)) hx hb dL_law_1048 (by decide) ?_
      refine va_lald hx hb hK hP 21 1 rfl rfl (show ¬ ((0 : Int32) < 0 ∨ 1 ≤ (0 : Int32).toNatClampNeg) from by decide) dL_law_1049 ?_
      refine lv_iload hx hb dL_law_1050 (lv_at hl 0 rfl) ?_
      refine lv_i2l (v := r7.toInt64) hx hb dL_law_1052 rfl ?_
      refine lx_eq (tgt := 1059) hx hb dL_law_1053 dL_law_1054 (by decide) (fun c14 => ?_) (fun c14 => ?_)
      · replace h := fT c14 h
        refine lv_goto (tgt := 2109) hx hb dL_law_1059 (by decide) ?_
        cases h
        exact kk _ _ _ hP hD hS (lv_sub hl [2, 3, 4, 5, 6] rfl)
      · replace h := fF c14 h
        refine lv_iconst (v := (0 : Int32)) hx hb dL_law_1057 (by decide) ?_
        exact fN h
  · replace h := fF c12 h
    refine lv_iconst (v := (0 : Int32)) hx hb dL_law_1040 (by decide) ?_
    exact fN h
set_option maxHeartbeats 0 in
set_option maxRecDepth 100000 in
theorem cs_15 {p : Program} {l : Launch} {e : Env} {s : State} {m : MethodId} {args : Array Value} {below : List Frame} {meth : Method} {c : Code} {Q : State → Prop} {D : va_G} {o w : Nat → Nat} {v : Nat} {y : Nat → ClassId} {A : Nat → Prop} {b L : Nat} {xs : Nat → Int32} {x4 a1 a2 a3 : Int32} (hfl : l.stackTraces = false) (hx : p.tables.exec = Jvm.exec) (hb : c.code = code) (hml : c.maxLocals = 7) (hown : s.vm.findClass RL = some m.cls) (hts : ∀ w ∈ wsL_law, w.before args s = true) (hA : ∀ q, s.heap.size ≤ q → A q) (hK : va_K D vwCl (TY y) s) (hEX : EXC A s s.heap) (hX : va_X b L xs s s.heap) (hbl : b < s.heap.size) (hbA : ¬ A b) (hi1 : vp_in (x4 + (1 : Int32)) L) (hi2 : vp_in (x4 + (2 : Int32)) L) (hi3 : vp_in (x4 + (3 : Int32)) L) (ha1 : xs (x4 + (1 : Int32)).toNatClampNeg = a1) (ha2 : xs (x4 + (2 : Int32)).toNatClampNeg = a2) (ha3 : xs (x4 + (3 : Int32)).toNatClampNeg = a3) (pl : Nat → Int64) (te : Nat → Int32) (be : Nat → Int64) (cn : Int32) (ch : Nat → Int32) (le : Int32) (rE : Int32) (rL : Int32) (rP : Int32) (rF : Int32) (rS : Int32) (rD : Int32) (hs : Nat → Int64) (ho : Int32) (hc : Int32) (sl : Nat → Int64) (fi : Nat → Int32) (th : Int32) (ms : Nat → Int32) (mst : Nat → Int32) (smn : Int32) (msl : Nat → Int32) (mhs : Nat → Int32) (mtx : Nat → Int32) (mle : Int32) (mat : Int32) (mwl : Int32) (mrd : Nat → Int32) (mrm : Int32) (mtp : Int64) (mbt : Int64) (mtm : Nat → Int32) (mtn : Int32) (mnt : Int32) (mnb : Int32) (mun : Nat → Int32) (mum : Int32) (mau : Int32) (ou : Nat → Int64) (te' : Nat → Int32) (be' : Nat → Int64) (cn' : Int32) (th' : Int32) (mtm' : Nat → Int32) (mtn' : Int32) (ou' : Nat → Int64) (h : G_15 pl te be cn th ms mtm mtn ou a1 a2 a3 = some (te', be', cn', th', mtm', mtn', ou')) {H : Heap} {locs : List Loc} {ls : Array Slot} {cells slots : Nat} (hP : va_P D vwCl (LW o w v y pl te be cn ch le rE rL rP rF rS rD hs ho hc sl fi th ms mst smn msl mhs mtx mle mat mwl mrd mrm mtp mbt mtm mtn mnt mnb mun mum mau ou) H) (hD : va_D A (LW o w v y pl te be cn ch le rE rL rP rF rS rD hs ho hc sl fi th ms mst smn msl mhs mtx mle mat mwl mrd mrm mtp mbt mtm mtn mnt mnb mun mum mau ou)) (hS : va_S A s.heap H locs) (hl : lv_has ls 7 [(0, .ref b), (1, .ref (o 0)), (2, .ref (w 0)), (3, .ref v), (4, .int x4)]) (bcl : cells + 1 ≤ 1063) (bsl : slots + 6 ≤ 8907)
    (kk : ∀ (H : Heap) (locs : List Loc) (ls : Array Slot), va_P D vwCl (LW o w v y pl te' be' cn' ch le rE rL rP rF rS rD hs ho hc sl fi th' ms mst smn msl mhs mtx mle mat mwl mrd mrm mtp mbt mtm' mtn' mnt mnb mun mum mau ou') H → va_D A (LW o w v y pl te' be' cn' ch le rE rL rP rF rS rD hs ho hc sl fi th' ms mst smn msl mhs mtx mle mat mwl mrd mrm mtp mbt mtm' mtn' mnt mnb mun mum mau ou') → va_S A s.heap H locs → lv_has ls 7 [(0, .ref b), (1, .ref (o 0)), (2, .ref (w 0)), (3, .ref v), (4, .int x4)] → W p l e room_1 s m args below meth c H locs (cells + 1) (slots + 6) Q (F0 m 2109 ls [])) : W p l e room_1 s m args below meth c H locs cells slots Q (F0 m 1062 ls []) := by
  unfold G_15 at h
  refine lv_aload_n hx hb dL_law_1062 rfl (lv_at hl 1 rfl) ?_
  refine lv_aload_n hx hb dL_law_1063 rfl (lv_at hl 0 rfl) ?_
  refine lv_iload hx hb dL_law_1064 (lv_at hl 4 rfl) ?_
  refine lv_iconst (v := (1 : Int32)) hx hb dL_law_1066 (by decide) ?_
  refine lv_iadd hx hb dL_law_1067 ?_
  refine va_sld hx hb hX hbl hbA hS hi1 dL_law_1068 ?_
  refine eqi ha1 ?_
  refine lv_aload_n hx hb dL_law_1069 rfl (lv_at hl 0 rfl) ?_
  refine lv_iload hx hb dL_law_1070 (lv_at hl 4 rfl) ?_
  refine lv_iconst (v := (2 : Int32)) hx hb dL_law_1072 (by decide) ?_
  refine lv_iadd hx hb dL_law_1073 ?_
  refine va_sld hx hb hX hbl hbA hS hi2 dL_law_1074 ?_
  refine eqi ha2 ?_
  refine lv_aload_n hx hb dL_law_1075 rfl (lv_at hl 3 rfl) ?_
  obtain ⟨r1, te2, be3, cn4, ou5, g6, h⟩ := fB5 h
  refine cW_i (As := [.ref (o 0), .int a1, .int a2, .ref v]) (rest := []) (ws1 := (LW o w v y pl te2 be3 cn4 ch le rE rL rP rF rS rD hs ho hc sl fi th ms mst smn msl mhs mtx mle mat mwl mrd mrm mtp mbt mtm mtn mnt mnb mun mum mau ou5)) ⟨hx, hb, hml, hown, hts⟩ (c_L_termAt l hfl D o v y _ pl te be cn ch le rE rL rP rF rS rD hs ho hc sl fi ou a1 a2 r1 te2 be3 cn4 ou5 g6) (vx_cwSW 4 hts gL_law_L_termAt rfl rfl rfl hd_L_termAt ⟨Nat.le_of_ble_eq_true rfl, Nat.le_of_ble_eq_true rfl⟩) hK hP hD hS hA hEX [0, 1, 2, 3, 4, 5, 6, 7, 8, 9, 10, 11, 21] [12, 13, 14, 15, 16, 17, 18, 19, 20] [9, 10, 11, 12, 13, 14, 15, 16, 17, 18, 19, 20, 0, 1, 2, 3, 4, 5, 6, 7, 8, 21] rfl rfl rfl (by decide) rfl rfl rfl rfl hl.1 rfl (Nat.le_of_ble_eq_true rfl) dL_law_1076 ⟨bcl, bsl⟩ (fun H locs hP hD hS => ?_)
  refine lv_istore (lv' := [(5, .int r1), (0, .ref b), (1, .ref (o 0)), (2, .ref (w 0)), (3, .ref v), (4, .int x4)]) hx hb dL_law_1079 hl (by decide) rfl (fun ls hl => ?_)
  refine lv_aload_n hx hb dL_law_1081 rfl (lv_at hl 3 rfl) ?_
  refine lv_aload_n hx hb dL_law_1082 rfl (lv_at hl 1 rfl) ?_
  refine lv_iload hx hb dL_law_1083 (lv_at hl 5 rfl) ?_
  refine lv_iconst (v := (1 : Int32)) hx hb dL_law_1085 (by decide) ?_
  refine lv_iadd hx hb dL_law_1086 ?_
  refine va_sld hx hb hX hbl hbA hS hi1 dL_law_1087 ?_
  refine eqi ha1 ?_
  refine lv_aload_n hx hb dL_law_1088 rfl (lv_at hl 1 rfl) ?_
  refine lv_iload hx hb dL_law_1089 (lv_at hl 5 rfl) ?_
  refine lv_iconst (v := (2 : Int32)) hx hb dL_law_1091 (by decide) ?_
  refine lv_iadd hx hb dL_law_1092 ?_
  refine va_sld hx hb hX hbl hbA hS hi2 dL_law_1093 ?_
  refine eqi ha2 ?_
  obtain ⟨r7, th8, mtm9, mtn10, g11, h⟩ := fB4 h
  refine cV_i (As := [.int a1, .int a2]) (rest := []) (ws1 := (LW o w v y pl te2 be3 cn4 ch le rE rL rP rF rS rD hs ho hc sl fi th8 ms mst smn msl mhs mtx mle mat mwl mrd mrm mtp mbt mtm9 mtn10 mnt mnb mun mum mau ou5)) ⟨hx, hb, hml, hown, hts⟩ (c_X7_termAt l D w y _ th ms mst smn msl mhs mtx mle mat mwl mrd mrm mtp mbt mtm mtn mnt mnb mun mum mau a1 a2 r7 th8 mtm9 mtn10 g11) (cwV 2 hts gL_law_X7_termAt rfl rfl rfl hd_X7_termAt ⟨Nat.le_of_ble_eq_true rfl, Nat.le_of_ble_eq_true rfl⟩) hK hP hD hS hA [12, 13, 14, 15, 16, 17, 18, 19, 20] [0, 1, 2, 3, 4, 5, 6, 7, 8, 9, 10, 11, 21] [0, 1, 2, 3, 4, 5, 6, 7, 8, 9, 10, 11, 13, 14, 15, 16, 17, 18, 19, 20, 21, 12] rfl rfl rfl (by decide) rfl rfl rfl 0 (ci := 5) rfl rfl rfl hl.1 rfl (Nat.le_of_ble_eq_true rfl) dL_law_1094 ⟨bcl, bsl⟩ (fun H locs hP hD hS => ?_)
  refine lv_istore (lv' := [(6, .int r7), (5, .int r1), (0, .ref b), (1, .ref (o 0)), (2, .ref (w 0)), (3, .ref v), (4, .int x4)]) hx hb dL_law_1097 hl (by decide) rfl (fun ls hl => ?_)
  refine lv_aload_n hx hb dL_law_1099 rfl (lv_at hl 4 rfl) ?_
  refine cV_i (As := []) (rest := []) (ws1 := (LW o w v y pl te2 be3 cn4 ch le rE rL rP rF rS rD hs ho hc sl fi th8 ms mst smn msl mhs mtx mle mat mwl mrd mrm mtp mbt mtm9 mtn10 mnt mnb mun mum mau ou5)) ⟨hx, hb, hml, hown, hts⟩ (c_X7_thrown l D w y _ th8 ms mst smn msl mhs mtx mle mat mwl mrd mrm mtp mbt mtm9 mtn10 mnt mnb mun mum mau ) (cwV 0 hts gL_law_X7_thrown rfl rfl rfl hd_X7_thrown ⟨Nat.le_of_ble_eq_true rfl, Nat.le_of_ble_eq_true rfl⟩) hK hP hD hS hA [12, 13, 14, 15, 16, 17, 18, 19, 20] [0, 1, 2, 3, 4, 5, 6, 7, 8, 9, 10, 11, 21] [0, 1, 2, 3, 4, 5, 6, 7, 8, 9, 10, 11, 13, 14, 15, 16, 17, 18, 19, 20, 21, 12] rfl rfl rfl (by decide) rfl rfl rfl 0 (ci := 5) rfl rfl rfl hl.1 rfl (Nat.le_of_ble_eq_true rfl) dL_law_1100 ⟨bcl, bsl⟩ (fun H locs hP hD hS => ?_)
  refine lv_iload hx hb dL_law_1103 (lv_at hl 1 rfl) ?_
  refine lv_icmp_eq (tgt := 1110) hx hb dL_law_1105 (by decide) (fun c12 => ?_) (fun c12 => ?_)
  · replace h := fT c12 h
    refine lv_iload hx hb dL_law_1110 (lv_at hl 1 rfl) ?_
    refine lv_if_ne (tgt := 1127) hx hb dL_law_1112 (by decide) (fun c13 => ?_) (fun c13 => ?_)
    · replace h := fF c13 h
      refine lv_goto (tgt := 2109) hx hb dL_law_1127 (by decide) ?_
      cases h
      exact kk _ _ _ hP hD hS (lv_sub hl [2, 3, 4, 5, 6] rfl)
    · replace h := fT c13 h
      refine lv_aload_n hx hb dL_law_1115 rfl (lv_at hl 5 rfl) ?_
      refine lv_iconst (v := (0 : Int32)) hx hb dL_law_1116 (by decide) ?_
      refine va_lald hx hb hK hP 21 1 rfl rfl (show ¬ ((0 : Int32) < 0 ∨ 1 ≤ (0 : Int32).toNatClampNeg) from by decide) dL_law_1117 ?_
      refine lv_iload hx hb dL_law_1118 (lv_at hl 0 rfl) ?_
      refine lv_i2l (v := r7.toInt64) hx hb dL_law_1120 rfl ?_
      refine lx_eq (tgt := 1127) hx hb dL_law_1121 dL_law_1122 (by decide) (fun c14 => ?_) (fun c14 => ?_)
      · replace h := fT c14 h
        refine lv_goto (tgt := 2109) hx hb dL_law_1127 (by decide) ?_
        cases h
        exact kk _ _ _ hP hD hS (lv_sub hl [2, 3, 4, 5, 6] rfl)
      · replace h := fF c14 h
        refine lv_iconst (v := (0 : Int32)) hx hb dL_law_1125 (by decide) ?_
        exact fN h
  · replace h := fF c12 h
    refine lv_iconst (v := (0 : Int32)) hx hb dL_law_1108 (by decide) ?_
    exact fN h
set_option maxHeartbeats 0 in
set_option maxRecDepth 100000 in
theorem cs_16 {p : Program} {l : Launch} {e : Env} {s : State} {m : MethodId} {args : Array Value} {below : List Frame} {meth : Method} {c : Code} {Q : State → Prop} {D : va_G} {o w : Nat → Nat} {v : Nat} {y : Nat → ClassId} {A : Nat → Prop} {b L : Nat} {xs : Nat → Int32} {x4 a1 a2 a3 : Int32} (hfl : l.stackTraces = false) (hx : p.tables.exec = Jvm.exec) (hb : c.code = code) (hml : c.maxLocals = 7) (hown : s.vm.findClass RL = some m.cls) (hts : ∀ w ∈ wsL_law, w.before args s = true) (hA : ∀ q, s.heap.size ≤ q → A q) (hK : va_K D vwCl (TY y) s) (hEX : EXC A s s.heap) (hX : va_X b L xs s s.heap) (hbl : b < s.heap.size) (hbA : ¬ A b) (hi1 : vp_in (x4 + (1 : Int32)) L) (hi2 : vp_in (x4 + (2 : Int32)) L) (hi3 : vp_in (x4 + (3 : Int32)) L) (ha1 : xs (x4 + (1 : Int32)).toNatClampNeg = a1) (ha2 : xs (x4 + (2 : Int32)).toNatClampNeg = a2) (ha3 : xs (x4 + (3 : Int32)).toNatClampNeg = a3) (pl : Nat → Int64) (te : Nat → Int32) (be : Nat → Int64) (cn : Int32) (ch : Nat → Int32) (le : Int32) (rE : Int32) (rL : Int32) (rP : Int32) (rF : Int32) (rS : Int32) (rD : Int32) (hs : Nat → Int64) (ho : Int32) (hc : Int32) (sl : Nat → Int64) (fi : Nat → Int32) (th : Int32) (ms : Nat → Int32) (mst : Nat → Int32) (smn : Int32) (msl : Nat → Int32) (mhs : Nat → Int32) (mtx : Nat → Int32) (mle : Int32) (mat : Int32) (mwl : Int32) (mrd : Nat → Int32) (mrm : Int32) (mtp : Int64) (mbt : Int64) (mtm : Nat → Int32) (mtn : Int32) (mnt : Int32) (mnb : Int32) (mun : Nat → Int32) (mum : Int32) (mau : Int32) (ou : Nat → Int64) (te' : Nat → Int32) (be' : Nat → Int64) (cn' : Int32) (th' : Int32) (mtp' : Int64) (mbt' : Int64) (mtm' : Nat → Int32) (mtn' : Int32) (ou' : Nat → Int64) (h : G_16 pl te be cn th ms mtp mbt mtm mtn ou a1 a2 a3 = some (te', be', cn', th', mtp', mbt', mtm', mtn', ou')) {H : Heap} {locs : List Loc} {ls : Array Slot} {cells slots : Nat} (hP : va_P D vwCl (LW o w v y pl te be cn ch le rE rL rP rF rS rD hs ho hc sl fi th ms mst smn msl mhs mtx mle mat mwl mrd mrm mtp mbt mtm mtn mnt mnb mun mum mau ou) H) (hD : va_D A (LW o w v y pl te be cn ch le rE rL rP rF rS rD hs ho hc sl fi th ms mst smn msl mhs mtx mle mat mwl mrd mrm mtp mbt mtm mtn mnt mnb mun mum mau ou)) (hS : va_S A s.heap H locs) (hl : lv_has ls 7 [(0, .ref b), (1, .ref (o 0)), (2, .ref (w 0)), (3, .ref v), (4, .int x4)]) (bcl : cells + 1 ≤ 1063) (bsl : slots + 6 ≤ 8907)
    (kk : ∀ (H : Heap) (locs : List Loc) (ls : Array Slot), va_P D vwCl (LW o w v y pl te' be' cn' ch le rE rL rP rF rS rD hs ho hc sl fi th' ms mst smn msl mhs mtx mle mat mwl mrd mrm mtp' mbt' mtm' mtn' mnt mnb mun mum mau ou') H → va_D A (LW o w v y pl te' be' cn' ch le rE rL rP rF rS rD hs ho hc sl fi th' ms mst smn msl mhs mtx mle mat mwl mrd mrm mtp' mbt' mtm' mtn' mnt mnb mun mum mau ou') → va_S A s.heap H locs → lv_has ls 7 [(0, .ref b), (1, .ref (o 0)), (2, .ref (w 0)), (3, .ref v), (4, .int x4)] → W p l e room_1 s m args below meth c H locs (cells + 1) (slots + 6) Q (F0 m 2109 ls [])) : W p l e room_1 s m args below meth c H locs cells slots Q (F0 m 1130 ls []) := by
  unfold G_16 at h
  refine lv_aload_n hx hb dL_law_1130 rfl (lv_at hl 1 rfl) ?_
  refine lv_aload_n hx hb dL_law_1131 rfl (lv_at hl 0 rfl) ?_
  refine lv_iload hx hb dL_law_1132 (lv_at hl 4 rfl) ?_
  refine lv_iconst (v := (1 : Int32)) hx hb dL_law_1134 (by decide) ?_
  refine lv_iadd hx hb dL_law_1135 ?_
  refine va_sld hx hb hX hbl hbA hS hi1 dL_law_1136 ?_
  refine eqi ha1 ?_
  refine lv_aload_n hx hb dL_law_1137 rfl (lv_at hl 0 rfl) ?_
  refine lv_iload hx hb dL_law_1138 (lv_at hl 4 rfl) ?_
  refine lv_iconst (v := (2 : Int32)) hx hb dL_law_1140 (by decide) ?_
  refine lv_iadd hx hb dL_law_1141 ?_
  refine va_sld hx hb hX hbl hbA hS hi2 dL_law_1142 ?_
  refine eqi ha2 ?_
  refine lv_aload_n hx hb dL_law_1143 rfl (lv_at hl 3 rfl) ?_
  obtain ⟨r1, te2, be3, cn4, ou5, g6, h⟩ := fB5 h
  refine cW_i (As := [.ref (o 0), .int a1, .int a2, .ref v]) (rest := []) (ws1 := (LW o w v y pl te2 be3 cn4 ch le rE rL rP rF rS rD hs ho hc sl fi th ms mst smn msl mhs mtx mle mat mwl mrd mrm mtp mbt mtm mtn mnt mnb mun mum mau ou5)) ⟨hx, hb, hml, hown, hts⟩ (c_L_beginningNumerator l hfl D o v y _ pl te be cn ch le rE rL rP rF rS rD hs ho hc sl fi ou a1 a2 r1 te2 be3 cn4 ou5 g6) (vx_cwSW 4 hts gL_law_L_beginningNumerator rfl rfl rfl hd_L_beginningNumerator ⟨Nat.le_of_ble_eq_true rfl, Nat.le_of_ble_eq_true rfl⟩) hK hP hD hS hA hEX [0, 1, 2, 3, 4, 5, 6, 7, 8, 9, 10, 11, 21] [12, 13, 14, 15, 16, 17, 18, 19, 20] [9, 10, 11, 12, 13, 14, 15, 16, 17, 18, 19, 20, 0, 1, 2, 3, 4, 5, 6, 7, 8, 21] rfl rfl rfl (by decide) rfl rfl rfl rfl hl.1 rfl (Nat.le_of_ble_eq_true rfl) dL_law_1144 ⟨bcl, bsl⟩ (fun H locs hP hD hS => ?_)
  refine lv_istore (lv' := [(5, .int r1), (0, .ref b), (1, .ref (o 0)), (2, .ref (w 0)), (3, .ref v), (4, .int x4)]) hx hb dL_law_1147 hl (by decide) rfl (fun ls hl => ?_)
  refine lv_aload_n hx hb dL_law_1149 rfl (lv_at hl 3 rfl) ?_
  refine lv_aload_n hx hb dL_law_1150 rfl (lv_at hl 1 rfl) ?_
  refine lv_iload hx hb dL_law_1151 (lv_at hl 5 rfl) ?_
  refine lv_iconst (v := (1 : Int32)) hx hb dL_law_1153 (by decide) ?_
  refine lv_iadd hx hb dL_law_1154 ?_
  refine va_sld hx hb hX hbl hbA hS hi1 dL_law_1155 ?_
  refine eqi ha1 ?_
  refine lv_aload_n hx hb dL_law_1156 rfl (lv_at hl 1 rfl) ?_
  refine lv_iload hx hb dL_law_1157 (lv_at hl 5 rfl) ?_
  refine lv_iconst (v := (2 : Int32)) hx hb dL_law_1159 (by decide) ?_
  refine lv_iadd hx hb dL_law_1160 ?_
  refine va_sld hx hb hX hbl hbA hS hi2 dL_law_1161 ?_
  refine eqi ha2 ?_
  obtain ⟨r7, th8, mtp9, mbt10, mtm11, mtn12, g13, h⟩ := fB6 h
  refine cV_i (As := [.int a1, .int a2]) (rest := []) (ws1 := (LW o w v y pl te2 be3 cn4 ch le rE rL rP rF rS rD hs ho hc sl fi th8 ms mst smn msl mhs mtx mle mat mwl mrd mrm mtp9 mbt10 mtm11 mtn12 mnt mnb mun mum mau ou5)) ⟨hx, hb, hml, hown, hts⟩ (c_X7_beginningNumerator l D w y _ th ms mst smn msl mhs mtx mle mat mwl mrd mrm mtp mbt mtm mtn mnt mnb mun mum mau a1 a2 r7 th8 mtp9 mbt10 mtm11 mtn12 g13) (cwV 2 hts gL_law_X7_beginningNumerator rfl rfl rfl hd_X7_beginningNumerator ⟨Nat.le_of_ble_eq_true rfl, Nat.le_of_ble_eq_true rfl⟩) hK hP hD hS hA [12, 13, 14, 15, 16, 17, 18, 19, 20] [0, 1, 2, 3, 4, 5, 6, 7, 8, 9, 10, 11, 21] [0, 1, 2, 3, 4, 5, 6, 7, 8, 9, 10, 11, 13, 14, 15, 16, 17, 18, 19, 20, 21, 12] rfl rfl rfl (by decide) rfl rfl rfl 0 (ci := 5) rfl rfl rfl hl.1 rfl (Nat.le_of_ble_eq_true rfl) dL_law_1162 ⟨bcl, bsl⟩ (fun H locs hP hD hS => ?_)
  refine lv_istore (lv' := [(6, .int r7), (5, .int r1), (0, .ref b), (1, .ref (o 0)), (2, .ref (w 0)), (3, .ref v), (4, .int x4)]) hx hb dL_law_1165 hl (by decide) rfl (fun ls hl => ?_)
  refine lv_aload_n hx hb dL_law_1167 rfl (lv_at hl 4 rfl) ?_
  refine cV_i (As := []) (rest := []) (ws1 := (LW o w v y pl te2 be3 cn4 ch le rE rL rP rF rS rD hs ho hc sl fi th8 ms mst smn msl mhs mtx mle mat mwl mrd mrm mtp9 mbt10 mtm11 mtn12 mnt mnb mun mum mau ou5)) ⟨hx, hb, hml, hown, hts⟩ (c_X7_thrown l D w y _ th8 ms mst smn msl mhs mtx mle mat mwl mrd mrm mtp9 mbt10 mtm11 mtn12 mnt mnb mun mum mau ) (cwV 0 hts gL_law_X7_thrown rfl rfl rfl hd_X7_thrown ⟨Nat.le_of_ble_eq_true rfl, Nat.le_of_ble_eq_true rfl⟩) hK hP hD hS hA [12, 13, 14, 15, 16, 17, 18, 19, 20] [0, 1, 2, 3, 4, 5, 6, 7, 8, 9, 10, 11, 21] [0, 1, 2, 3, 4, 5, 6, 7, 8, 9, 10, 11, 13, 14, 15, 16, 17, 18, 19, 20, 21, 12] rfl rfl rfl (by decide) rfl rfl rfl 0 (ci := 5) rfl rfl rfl hl.1 rfl (Nat.le_of_ble_eq_true rfl) dL_law_1168 ⟨bcl, bsl⟩ (fun H locs hP hD hS => ?_)
  refine lv_iload hx hb dL_law_1171 (lv_at hl 1 rfl) ?_
  refine lv_icmp_eq (tgt := 1178) hx hb dL_law_1173 (by decide) (fun c14 => ?_) (fun c14 => ?_)
  · replace h := fT c14 h
    refine lv_iload hx hb dL_law_1178 (lv_at hl 1 rfl) ?_
    refine lv_if_ne (tgt := 1195) hx hb dL_law_1180 (by decide) (fun c15 => ?_) (fun c15 => ?_)
    · replace h := fF c15 h
      refine lv_goto (tgt := 2109) hx hb dL_law_1195 (by decide) ?_
      cases h
      exact kk _ _ _ hP hD hS (lv_sub hl [2, 3, 4, 5, 6] rfl)
    · replace h := fT c15 h
      refine lv_aload_n hx hb dL_law_1183 rfl (lv_at hl 5 rfl) ?_
      refine lv_iconst (v := (0 : Int32)) hx hb dL_law_1184 (by decide) ?_
      refine va_lald hx hb hK hP 21 1 rfl rfl (show ¬ ((0 : Int32) < 0 ∨ 1 ≤ (0 : Int32).toNatClampNeg) from by decide) dL_law_1185 ?_
      refine lv_iload hx hb dL_law_1186 (lv_at hl 0 rfl) ?_
      refine lv_i2l (v := r7.toInt64) hx hb dL_law_1188 rfl ?_
      refine lx_eq (tgt := 1195) hx hb dL_law_1189 dL_law_1190 (by decide) (fun c16 => ?_) (fun c16 => ?_)
      · replace h := fT c16 h
        refine lv_goto (tgt := 2109) hx hb dL_law_1195 (by decide) ?_
        cases h
        exact kk _ _ _ hP hD hS (lv_sub hl [2, 3, 4, 5, 6] rfl)
      · replace h := fF c16 h
        refine lv_iconst (v := (0 : Int32)) hx hb dL_law_1193 (by decide) ?_
        exact fN h
  · replace h := fF c14 h
    refine lv_iconst (v := (0 : Int32)) hx hb dL_law_1176 (by decide) ?_
    exact fN h
set_option maxHeartbeats 0 in
set_option maxRecDepth 100000 in
theorem cs_17 {p : Program} {l : Launch} {e : Env} {s : State} {m : MethodId} {args : Array Value} {below : List Frame} {meth : Method} {c : Code} {Q : State → Prop} {D : va_G} {o w : Nat → Nat} {v : Nat} {y : Nat → ClassId} {A : Nat → Prop} {b L : Nat} {xs : Nat → Int32} {x4 a1 a2 a3 : Int32} (hfl : l.stackTraces = false) (hx : p.tables.exec = Jvm.exec) (hb : c.code = code) (hml : c.maxLocals = 7) (hown : s.vm.findClass RL = some m.cls) (hts : ∀ w ∈ wsL_law, w.before args s = true) (hA : ∀ q, s.heap.size ≤ q → A q) (hK : va_K D vwCl (TY y) s) (hEX : EXC A s s.heap) (hX : va_X b L xs s s.heap) (hbl : b < s.heap.size) (hbA : ¬ A b) (hi1 : vp_in (x4 + (1 : Int32)) L) (hi2 : vp_in (x4 + (2 : Int32)) L) (hi3 : vp_in (x4 + (3 : Int32)) L) (ha1 : xs (x4 + (1 : Int32)).toNatClampNeg = a1) (ha2 : xs (x4 + (2 : Int32)).toNatClampNeg = a2) (ha3 : xs (x4 + (3 : Int32)).toNatClampNeg = a3) (pl : Nat → Int64) (te : Nat → Int32) (be : Nat → Int64) (cn : Int32) (ch : Nat → Int32) (le : Int32) (rE : Int32) (rL : Int32) (rP : Int32) (rF : Int32) (rS : Int32) (rD : Int32) (hs : Nat → Int64) (ho : Int32) (hc : Int32) (sl : Nat → Int64) (fi : Nat → Int32) (th : Int32) (ms : Nat → Int32) (mst : Nat → Int32) (smn : Int32) (msl : Nat → Int32) (mhs : Nat → Int32) (mtx : Nat → Int32) (mle : Int32) (mat : Int32) (mwl : Int32) (mrd : Nat → Int32) (mrm : Int32) (mtp : Int64) (mbt : Int64) (mtm : Nat → Int32) (mtn : Int32) (mnt : Int32) (mnb : Int32) (mun : Nat → Int32) (mum : Int32) (mau : Int32) (ou : Nat → Int64) (te' : Nat → Int32) (be' : Nat → Int64) (cn' : Int32) (th' : Int32) (mtp' : Int64) (mbt' : Int64) (mtm' : Nat → Int32) (mtn' : Int32) (ou' : Nat → Int64) (h : G_17 pl te be cn th ms mtp mbt mtm mtn ou a1 a2 a3 = some (te', be', cn', th', mtp', mbt', mtm', mtn', ou')) {H : Heap} {locs : List Loc} {ls : Array Slot} {cells slots : Nat} (hP : va_P D vwCl (LW o w v y pl te be cn ch le rE rL rP rF rS rD hs ho hc sl fi th ms mst smn msl mhs mtx mle mat mwl mrd mrm mtp mbt mtm mtn mnt mnb mun mum mau ou) H) (hD : va_D A (LW o w v y pl te be cn ch le rE rL rP rF rS rD hs ho hc sl fi th ms mst smn msl mhs mtx mle mat mwl mrd mrm mtp mbt mtm mtn mnt mnb mun mum mau ou)) (hS : va_S A s.heap H locs) (hl : lv_has ls 7 [(0, .ref b), (1, .ref (o 0)), (2, .ref (w 0)), (3, .ref v), (4, .int x4)]) (bcl : cells + 1 ≤ 1063) (bsl : slots + 6 ≤ 8907)
    (kk : ∀ (H : Heap) (locs : List Loc) (ls : Array Slot), va_P D vwCl (LW o w v y pl te' be' cn' ch le rE rL rP rF rS rD hs ho hc sl fi th' ms mst smn msl mhs mtx mle mat mwl mrd mrm mtp' mbt' mtm' mtn' mnt mnb mun mum mau ou') H → va_D A (LW o w v y pl te' be' cn' ch le rE rL rP rF rS rD hs ho hc sl fi th' ms mst smn msl mhs mtx mle mat mwl mrd mrm mtp' mbt' mtm' mtn' mnt mnb mun mum mau ou') → va_S A s.heap H locs → lv_has ls 7 [(0, .ref b), (1, .ref (o 0)), (2, .ref (w 0)), (3, .ref v), (4, .int x4)] → W p l e room_1 s m args below meth c H locs (cells + 1) (slots + 6) Q (F0 m 2109 ls [])) : W p l e room_1 s m args below meth c H locs cells slots Q (F0 m 1198 ls []) := by
  unfold G_17 at h
  refine lv_aload_n hx hb dL_law_1198 rfl (lv_at hl 1 rfl) ?_
  refine lv_aload_n hx hb dL_law_1199 rfl (lv_at hl 0 rfl) ?_
  refine lv_iload hx hb dL_law_1200 (lv_at hl 4 rfl) ?_
  refine lv_iconst (v := (1 : Int32)) hx hb dL_law_1202 (by decide) ?_
  refine lv_iadd hx hb dL_law_1203 ?_
  refine va_sld hx hb hX hbl hbA hS hi1 dL_law_1204 ?_
  refine eqi ha1 ?_
  refine lv_aload_n hx hb dL_law_1205 rfl (lv_at hl 0 rfl) ?_
  refine lv_iload hx hb dL_law_1206 (lv_at hl 4 rfl) ?_
  refine lv_iconst (v := (2 : Int32)) hx hb dL_law_1208 (by decide) ?_
  refine lv_iadd hx hb dL_law_1209 ?_
  refine va_sld hx hb hX hbl hbA hS hi2 dL_law_1210 ?_
  refine eqi ha2 ?_
  refine lv_aload_n hx hb dL_law_1211 rfl (lv_at hl 3 rfl) ?_
  obtain ⟨r1, te2, be3, cn4, ou5, g6, h⟩ := fB5 h
  refine cW_i (As := [.ref (o 0), .int a1, .int a2, .ref v]) (rest := []) (ws1 := (LW o w v y pl te2 be3 cn4 ch le rE rL rP rF rS rD hs ho hc sl fi th ms mst smn msl mhs mtx mle mat mwl mrd mrm mtp mbt mtm mtn mnt mnb mun mum mau ou5)) ⟨hx, hb, hml, hown, hts⟩ (c_L_beginningDenominator l hfl D o v y _ pl te be cn ch le rE rL rP rF rS rD hs ho hc sl fi ou a1 a2 r1 te2 be3 cn4 ou5 g6) (vx_cwSW 4 hts gL_law_L_beginningDenominator rfl rfl rfl hd_L_beginningDenominator ⟨Nat.le_of_ble_eq_true rfl, Nat.le_of_ble_eq_true rfl⟩) hK hP hD hS hA hEX [0, 1, 2, 3, 4, 5, 6, 7, 8, 9, 10, 11, 21] [12, 13, 14, 15, 16, 17, 18, 19, 20] [9, 10, 11, 12, 13, 14, 15, 16, 17, 18, 19, 20, 0, 1, 2, 3, 4, 5, 6, 7, 8, 21] rfl rfl rfl (by decide) rfl rfl rfl rfl hl.1 rfl (Nat.le_of_ble_eq_true rfl) dL_law_1212 ⟨bcl, bsl⟩ (fun H locs hP hD hS => ?_)
  refine lv_istore (lv' := [(5, .int r1), (0, .ref b), (1, .ref (o 0)), (2, .ref (w 0)), (3, .ref v), (4, .int x4)]) hx hb dL_law_1215 hl (by decide) rfl (fun ls hl => ?_)
  refine lv_aload_n hx hb dL_law_1217 rfl (lv_at hl 3 rfl) ?_
  refine lv_aload_n hx hb dL_law_1218 rfl (lv_at hl 1 rfl) ?_
  refine lv_iload hx hb dL_law_1219 (lv_at hl 5 rfl) ?_
  refine lv_iconst (v := (1 : Int32)) hx hb dL_law_1221 (by decide) ?_
  refine lv_iadd hx hb dL_law_1222 ?_
  refine va_sld hx hb hX hbl hbA hS hi1 dL_law_1223 ?_
  refine eqi ha1 ?_
  refine lv_aload_n hx hb dL_law_1224 rfl (lv_at hl 1 rfl) ?_
  refine lv_iload hx hb dL_law_1225 (lv_at hl 5 rfl) ?_
  refine lv_iconst (v := (2 : Int32)) hx hb dL_law_1227 (by decide) ?_
  refine lv_iadd hx hb dL_law_1228 ?_
  refine va_sld hx hb hX hbl hbA hS hi2 dL_law_1229 ?_
  refine eqi ha2 ?_
  obtain ⟨r7, th8, mtp9, mbt10, mtm11, mtn12, g13, h⟩ := fB6 h
  refine cV_i (As := [.int a1, .int a2]) (rest := []) (ws1 := (LW o w v y pl te2 be3 cn4 ch le rE rL rP rF rS rD hs ho hc sl fi th8 ms mst smn msl mhs mtx mle mat mwl mrd mrm mtp9 mbt10 mtm11 mtn12 mnt mnb mun mum mau ou5)) ⟨hx, hb, hml, hown, hts⟩ (c_X7_beginningDenominator l D w y _ th ms mst smn msl mhs mtx mle mat mwl mrd mrm mtp mbt mtm mtn mnt mnb mun mum mau a1 a2 r7 th8 mtp9 mbt10 mtm11 mtn12 g13) (cwV 2 hts gL_law_X7_beginningDenominator rfl rfl rfl hd_X7_beginningDenominator ⟨Nat.le_of_ble_eq_true rfl, Nat.le_of_ble_eq_true rfl⟩) hK hP hD hS hA [12, 13, 14, 15, 16, 17, 18, 19, 20] [0, 1, 2, 3, 4, 5, 6, 7, 8, 9, 10, 11, 21] [0, 1, 2, 3, 4, 5, 6, 7, 8, 9, 10, 11, 13, 14, 15, 16, 17, 18, 19, 20, 21, 12] rfl rfl rfl (by decide) rfl rfl rfl 0 (ci := 5) rfl rfl rfl hl.1 rfl (Nat.le_of_ble_eq_true rfl) dL_law_1230 ⟨bcl, bsl⟩ (fun H locs hP hD hS => ?_)
  refine lv_istore (lv' := [(6, .int r7), (5, .int r1), (0, .ref b), (1, .ref (o 0)), (2, .ref (w 0)), (3, .ref v), (4, .int x4)]) hx hb dL_law_1233 hl (by decide) rfl (fun ls hl => ?_)
  refine lv_aload_n hx hb dL_law_1235 rfl (lv_at hl 4 rfl) ?_
  refine cV_i (As := []) (rest := []) (ws1 := (LW o w v y pl te2 be3 cn4 ch le rE rL rP rF rS rD hs ho hc sl fi th8 ms mst smn msl mhs mtx mle mat mwl mrd mrm mtp9 mbt10 mtm11 mtn12 mnt mnb mun mum mau ou5)) ⟨hx, hb, hml, hown, hts⟩ (c_X7_thrown l D w y _ th8 ms mst smn msl mhs mtx mle mat mwl mrd mrm mtp9 mbt10 mtm11 mtn12 mnt mnb mun mum mau ) (cwV 0 hts gL_law_X7_thrown rfl rfl rfl hd_X7_thrown ⟨Nat.le_of_ble_eq_true rfl, Nat.le_of_ble_eq_true rfl⟩) hK hP hD hS hA [12, 13, 14, 15, 16, 17, 18, 19, 20] [0, 1, 2, 3, 4, 5, 6, 7, 8, 9, 10, 11, 21] [0, 1, 2, 3, 4, 5, 6, 7, 8, 9, 10, 11, 13, 14, 15, 16, 17, 18, 19, 20, 21, 12] rfl rfl rfl (by decide) rfl rfl rfl 0 (ci := 5) rfl rfl rfl hl.1 rfl (Nat.le_of_ble_eq_true rfl) dL_law_1236 ⟨bcl, bsl⟩ (fun H locs hP hD hS => ?_)
  refine lv_iload hx hb dL_law_1239 (lv_at hl 1 rfl) ?_
  refine lv_icmp_eq (tgt := 1246) hx hb dL_law_1241 (by decide) (fun c14 => ?_) (fun c14 => ?_)
  · replace h := fT c14 h
    refine lv_iload hx hb dL_law_1246 (lv_at hl 1 rfl) ?_
    refine lv_if_ne (tgt := 1263) hx hb dL_law_1248 (by decide) (fun c15 => ?_) (fun c15 => ?_)
    · replace h := fF c15 h
      refine lv_goto (tgt := 2109) hx hb dL_law_1263 (by decide) ?_
      cases h
      exact kk _ _ _ hP hD hS (lv_sub hl [2, 3, 4, 5, 6] rfl)
    · replace h := fT c15 h
      refine lv_aload_n hx hb dL_law_1251 rfl (lv_at hl 5 rfl) ?_
      refine lv_iconst (v := (0 : Int32)) hx hb dL_law_1252 (by decide) ?_
      refine va_lald hx hb hK hP 21 1 rfl rfl (show ¬ ((0 : Int32) < 0 ∨ 1 ≤ (0 : Int32).toNatClampNeg) from by decide) dL_law_1253 ?_
      refine lv_iload hx hb dL_law_1254 (lv_at hl 0 rfl) ?_
      refine lv_i2l (v := r7.toInt64) hx hb dL_law_1256 rfl ?_
      refine lx_eq (tgt := 1263) hx hb dL_law_1257 dL_law_1258 (by decide) (fun c16 => ?_) (fun c16 => ?_)
      · replace h := fT c16 h
        refine lv_goto (tgt := 2109) hx hb dL_law_1263 (by decide) ?_
        cases h
        exact kk _ _ _ hP hD hS (lv_sub hl [2, 3, 4, 5, 6] rfl)
      · replace h := fF c16 h
        refine lv_iconst (v := (0 : Int32)) hx hb dL_law_1261 (by decide) ?_
        exact fN h
  · replace h := fF c14 h
    refine lv_iconst (v := (0 : Int32)) hx hb dL_law_1244 (by decide) ?_
    exact fN h
set_option maxHeartbeats 0 in
set_option maxRecDepth 100000 in
theorem cs_18 {p : Program} {l : Launch} {e : Env} {s : State} {m : MethodId} {args : Array Value} {below : List Frame} {meth : Method} {c : Code} {Q : State → Prop} {D : va_G} {o w : Nat → Nat} {v : Nat} {y : Nat → ClassId} {A : Nat → Prop} {b L : Nat} {xs : Nat → Int32} {x4 a1 a2 a3 : Int32} (hfl : l.stackTraces = false) (hx : p.tables.exec = Jvm.exec) (hb : c.code = code) (hml : c.maxLocals = 7) (hown : s.vm.findClass RL = some m.cls) (hts : ∀ w ∈ wsL_law, w.before args s = true) (hA : ∀ q, s.heap.size ≤ q → A q) (hK : va_K D vwCl (TY y) s) (hEX : EXC A s s.heap) (hX : va_X b L xs s s.heap) (hbl : b < s.heap.size) (hbA : ¬ A b) (hi1 : vp_in (x4 + (1 : Int32)) L) (hi2 : vp_in (x4 + (2 : Int32)) L) (hi3 : vp_in (x4 + (3 : Int32)) L) (ha1 : xs (x4 + (1 : Int32)).toNatClampNeg = a1) (ha2 : xs (x4 + (2 : Int32)).toNatClampNeg = a2) (ha3 : xs (x4 + (3 : Int32)).toNatClampNeg = a3) (pl : Nat → Int64) (te : Nat → Int32) (be : Nat → Int64) (cn : Int32) (ch : Nat → Int32) (le : Int32) (rE : Int32) (rL : Int32) (rP : Int32) (rF : Int32) (rS : Int32) (rD : Int32) (hs : Nat → Int64) (ho : Int32) (hc : Int32) (sl : Nat → Int64) (fi : Nat → Int32) (th : Int32) (ms : Nat → Int32) (mst : Nat → Int32) (smn : Int32) (msl : Nat → Int32) (mhs : Nat → Int32) (mtx : Nat → Int32) (mle : Int32) (mat : Int32) (mwl : Int32) (mrd : Nat → Int32) (mrm : Int32) (mtp : Int64) (mbt : Int64) (mtm : Nat → Int32) (mtn : Int32) (mnt : Int32) (mnb : Int32) (mun : Nat → Int32) (mum : Int32) (mau : Int32) (ou : Nat → Int64) (te' : Nat → Int32) (be' : Nat → Int64) (cn' : Int32) (th' : Int32) (mnt' : Int32) (mnb' : Int32) (ou' : Nat → Int64) (h : G_18 pl te be cn th ms mnt mnb ou a1 a2 a3 = some (te', be', cn', th', mnt', mnb', ou')) {H : Heap} {locs : List Loc} {ls : Array Slot} {cells slots : Nat} (hP : va_P D vwCl (LW o w v y pl te be cn ch le rE rL rP rF rS rD hs ho hc sl fi th ms mst smn msl mhs mtx mle mat mwl mrd mrm mtp mbt mtm mtn mnt mnb mun mum mau ou) H) (hD : va_D A (LW o w v y pl te be cn ch le rE rL rP rF rS rD hs ho hc sl fi th ms mst smn msl mhs mtx mle mat mwl mrd mrm mtp mbt mtm mtn mnt mnb mun mum mau ou)) (hS : va_S A s.heap H locs) (hl : lv_has ls 7 [(0, .ref b), (1, .ref (o 0)), (2, .ref (w 0)), (3, .ref v), (4, .int x4)]) (bcl : cells + 1 ≤ 1063) (bsl : slots + 6 ≤ 8907)
    (kk : ∀ (H : Heap) (locs : List Loc) (ls : Array Slot), va_P D vwCl (LW o w v y pl te' be' cn' ch le rE rL rP rF rS rD hs ho hc sl fi th' ms mst smn msl mhs mtx mle mat mwl mrd mrm mtp mbt mtm mtn mnt' mnb' mun mum mau ou') H → va_D A (LW o w v y pl te' be' cn' ch le rE rL rP rF rS rD hs ho hc sl fi th' ms mst smn msl mhs mtx mle mat mwl mrd mrm mtp mbt mtm mtn mnt' mnb' mun mum mau ou') → va_S A s.heap H locs → lv_has ls 7 [(0, .ref b), (1, .ref (o 0)), (2, .ref (w 0)), (3, .ref v), (4, .int x4)] → W p l e room_1 s m args below meth c H locs (cells + 1) (slots + 6) Q (F0 m 2109 ls [])) : W p l e room_1 s m args below meth c H locs cells slots Q (F0 m 1266 ls []) := by
  unfold G_18 at h
  refine lv_aload_n hx hb dL_law_1266 rfl (lv_at hl 1 rfl) ?_
  refine lv_aload_n hx hb dL_law_1267 rfl (lv_at hl 0 rfl) ?_
  refine lv_iload hx hb dL_law_1268 (lv_at hl 4 rfl) ?_
  refine lv_iconst (v := (1 : Int32)) hx hb dL_law_1270 (by decide) ?_
  refine lv_iadd hx hb dL_law_1271 ?_
  refine va_sld hx hb hX hbl hbA hS hi1 dL_law_1272 ?_
  refine eqi ha1 ?_
  refine lv_aload_n hx hb dL_law_1273 rfl (lv_at hl 0 rfl) ?_
  refine lv_iload hx hb dL_law_1274 (lv_at hl 4 rfl) ?_
  refine lv_iconst (v := (2 : Int32)) hx hb dL_law_1276 (by decide) ?_
  refine lv_iadd hx hb dL_law_1277 ?_
  refine va_sld hx hb hX hbl hbA hS hi2 dL_law_1278 ?_
  refine eqi ha2 ?_
  refine lv_aload_n hx hb dL_law_1279 rfl (lv_at hl 3 rfl) ?_
  obtain ⟨r1, te2, be3, cn4, ou5, g6, h⟩ := fB5 h
  refine cW_i (As := [.ref (o 0), .int a1, .int a2, .ref v]) (rest := []) (ws1 := (LW o w v y pl te2 be3 cn4 ch le rE rL rP rF rS rD hs ho hc sl fi th ms mst smn msl mhs mtx mle mat mwl mrd mrm mtp mbt mtm mtn mnt mnb mun mum mau ou5)) ⟨hx, hb, hml, hown, hts⟩ (c_L_nearestDenominator l hfl D o v y _ pl te be cn ch le rE rL rP rF rS rD hs ho hc sl fi ou a1 a2 r1 te2 be3 cn4 ou5 g6) (vx_cwSW 4 hts gL_law_L_nearestDenominator rfl rfl rfl hd_L_nearestDenominator ⟨Nat.le_of_ble_eq_true rfl, Nat.le_of_ble_eq_true rfl⟩) hK hP hD hS hA hEX [0, 1, 2, 3, 4, 5, 6, 7, 8, 9, 10, 11, 21] [12, 13, 14, 15, 16, 17, 18, 19, 20] [9, 10, 11, 12, 13, 14, 15, 16, 17, 18, 19, 20, 0, 1, 2, 3, 4, 5, 6, 7, 8, 21] rfl rfl rfl (by decide) rfl rfl rfl rfl hl.1 rfl (Nat.le_of_ble_eq_true rfl) dL_law_1280 ⟨bcl, bsl⟩ (fun H locs hP hD hS => ?_)
  refine lv_istore (lv' := [(5, .int r1), (0, .ref b), (1, .ref (o 0)), (2, .ref (w 0)), (3, .ref v), (4, .int x4)]) hx hb dL_law_1283 hl (by decide) rfl (fun ls hl => ?_)
  refine lv_aload_n hx hb dL_law_1285 rfl (lv_at hl 3 rfl) ?_
  refine lv_aload_n hx hb dL_law_1286 rfl (lv_at hl 1 rfl) ?_
  refine lv_iload hx hb dL_law_1287 (lv_at hl 5 rfl) ?_
  refine lv_iconst (v := (1 : Int32)) hx hb dL_law_1289 (by decide) ?_
  refine lv_iadd hx hb dL_law_1290 ?_
  refine va_sld hx hb hX hbl hbA hS hi1 dL_law_1291 ?_
  refine eqi ha1 ?_
  refine lv_aload_n hx hb dL_law_1292 rfl (lv_at hl 1 rfl) ?_
  refine lv_iload hx hb dL_law_1293 (lv_at hl 5 rfl) ?_
  refine lv_iconst (v := (2 : Int32)) hx hb dL_law_1295 (by decide) ?_
  refine lv_iadd hx hb dL_law_1296 ?_
  refine va_sld hx hb hX hbl hbA hS hi2 dL_law_1297 ?_
  refine eqi ha2 ?_
  obtain ⟨r7, th8, mnt9, mnb10, g11, h⟩ := fB4 h
  refine cV_i (As := [.int a1, .int a2]) (rest := []) (ws1 := (LW o w v y pl te2 be3 cn4 ch le rE rL rP rF rS rD hs ho hc sl fi th8 ms mst smn msl mhs mtx mle mat mwl mrd mrm mtp mbt mtm mtn mnt9 mnb10 mun mum mau ou5)) ⟨hx, hb, hml, hown, hts⟩ (c_X7_nearestDenominator l D w y _ th ms mst smn msl mhs mtx mle mat mwl mrd mrm mtp mbt mtm mtn mnt mnb mun mum mau a1 a2 r7 th8 mnt9 mnb10 g11) (cwV 2 hts gL_law_X7_nearestDenominator rfl rfl rfl hd_X7_nearestDenominator ⟨Nat.le_of_ble_eq_true rfl, Nat.le_of_ble_eq_true rfl⟩) hK hP hD hS hA [12, 13, 14, 15, 16, 17, 18, 19, 20] [0, 1, 2, 3, 4, 5, 6, 7, 8, 9, 10, 11, 21] [0, 1, 2, 3, 4, 5, 6, 7, 8, 9, 10, 11, 13, 14, 15, 16, 17, 18, 19, 20, 21, 12] rfl rfl rfl (by decide) rfl rfl rfl 0 (ci := 5) rfl rfl rfl hl.1 rfl (Nat.le_of_ble_eq_true rfl) dL_law_1298 ⟨bcl, bsl⟩ (fun H locs hP hD hS => ?_)
  refine lv_istore (lv' := [(6, .int r7), (5, .int r1), (0, .ref b), (1, .ref (o 0)), (2, .ref (w 0)), (3, .ref v), (4, .int x4)]) hx hb dL_law_1301 hl (by decide) rfl (fun ls hl => ?_)
  refine lv_aload_n hx hb dL_law_1303 rfl (lv_at hl 4 rfl) ?_
  refine cV_i (As := []) (rest := []) (ws1 := (LW o w v y pl te2 be3 cn4 ch le rE rL rP rF rS rD hs ho hc sl fi th8 ms mst smn msl mhs mtx mle mat mwl mrd mrm mtp mbt mtm mtn mnt9 mnb10 mun mum mau ou5)) ⟨hx, hb, hml, hown, hts⟩ (c_X7_thrown l D w y _ th8 ms mst smn msl mhs mtx mle mat mwl mrd mrm mtp mbt mtm mtn mnt9 mnb10 mun mum mau ) (cwV 0 hts gL_law_X7_thrown rfl rfl rfl hd_X7_thrown ⟨Nat.le_of_ble_eq_true rfl, Nat.le_of_ble_eq_true rfl⟩) hK hP hD hS hA [12, 13, 14, 15, 16, 17, 18, 19, 20] [0, 1, 2, 3, 4, 5, 6, 7, 8, 9, 10, 11, 21] [0, 1, 2, 3, 4, 5, 6, 7, 8, 9, 10, 11, 13, 14, 15, 16, 17, 18, 19, 20, 21, 12] rfl rfl rfl (by decide) rfl rfl rfl 0 (ci := 5) rfl rfl rfl hl.1 rfl (Nat.le_of_ble_eq_true rfl) dL_law_1304 ⟨bcl, bsl⟩ (fun H locs hP hD hS => ?_)
  refine lv_iload hx hb dL_law_1307 (lv_at hl 1 rfl) ?_
  refine lv_icmp_eq (tgt := 1314) hx hb dL_law_1309 (by decide) (fun c12 => ?_) (fun c12 => ?_)
  · replace h := fT c12 h
    refine lv_iload hx hb dL_law_1314 (lv_at hl 1 rfl) ?_
    refine lv_if_ne (tgt := 1331) hx hb dL_law_1316 (by decide) (fun c13 => ?_) (fun c13 => ?_)
    · replace h := fF c13 h
      refine lv_goto (tgt := 2109) hx hb dL_law_1331 (by decide) ?_
      cases h
      exact kk _ _ _ hP hD hS (lv_sub hl [2, 3, 4, 5, 6] rfl)
    · replace h := fT c13 h
      refine lv_aload_n hx hb dL_law_1319 rfl (lv_at hl 5 rfl) ?_
      refine lv_iconst (v := (0 : Int32)) hx hb dL_law_1320 (by decide) ?_
      refine va_lald hx hb hK hP 21 1 rfl rfl (show ¬ ((0 : Int32) < 0 ∨ 1 ≤ (0 : Int32).toNatClampNeg) from by decide) dL_law_1321 ?_
      refine lv_iload hx hb dL_law_1322 (lv_at hl 0 rfl) ?_
      refine lv_i2l (v := r7.toInt64) hx hb dL_law_1324 rfl ?_
      refine lx_eq (tgt := 1331) hx hb dL_law_1325 dL_law_1326 (by decide) (fun c14 => ?_) (fun c14 => ?_)
      · replace h := fT c14 h
        refine lv_goto (tgt := 2109) hx hb dL_law_1331 (by decide) ?_
        cases h
        exact kk _ _ _ hP hD hS (lv_sub hl [2, 3, 4, 5, 6] rfl)
      · replace h := fF c14 h
        refine lv_iconst (v := (0 : Int32)) hx hb dL_law_1329 (by decide) ?_
        exact fN h
  · replace h := fF c12 h
    refine lv_iconst (v := (0 : Int32)) hx hb dL_law_1312 (by decide) ?_
    exact fN h
set_option maxHeartbeats 0 in
set_option maxRecDepth 100000 in
theorem cs_19 {p : Program} {l : Launch} {e : Env} {s : State} {m : MethodId} {args : Array Value} {below : List Frame} {meth : Method} {c : Code} {Q : State → Prop} {D : va_G} {o w : Nat → Nat} {v : Nat} {y : Nat → ClassId} {A : Nat → Prop} {b L : Nat} {xs : Nat → Int32} {x4 a1 a2 a3 : Int32} (hfl : l.stackTraces = false) (hx : p.tables.exec = Jvm.exec) (hb : c.code = code) (hml : c.maxLocals = 7) (hown : s.vm.findClass RL = some m.cls) (hts : ∀ w ∈ wsL_law, w.before args s = true) (hA : ∀ q, s.heap.size ≤ q → A q) (hK : va_K D vwCl (TY y) s) (hEX : EXC A s s.heap) (hX : va_X b L xs s s.heap) (hbl : b < s.heap.size) (hbA : ¬ A b) (hi1 : vp_in (x4 + (1 : Int32)) L) (hi2 : vp_in (x4 + (2 : Int32)) L) (hi3 : vp_in (x4 + (3 : Int32)) L) (ha1 : xs (x4 + (1 : Int32)).toNatClampNeg = a1) (ha2 : xs (x4 + (2 : Int32)).toNatClampNeg = a2) (ha3 : xs (x4 + (3 : Int32)).toNatClampNeg = a3) (pl : Nat → Int64) (te : Nat → Int32) (be : Nat → Int64) (cn : Int32) (ch : Nat → Int32) (le : Int32) (rE : Int32) (rL : Int32) (rP : Int32) (rF : Int32) (rS : Int32) (rD : Int32) (hs : Nat → Int64) (ho : Int32) (hc : Int32) (sl : Nat → Int64) (fi : Nat → Int32) (th : Int32) (ms : Nat → Int32) (mst : Nat → Int32) (smn : Int32) (msl : Nat → Int32) (mhs : Nat → Int32) (mtx : Nat → Int32) (mle : Int32) (mat : Int32) (mwl : Int32) (mrd : Nat → Int32) (mrm : Int32) (mtp : Int64) (mbt : Int64) (mtm : Nat → Int32) (mtn : Int32) (mnt : Int32) (mnb : Int32) (mun : Nat → Int32) (mum : Int32) (mau : Int32) (ou : Nat → Int64) (th' : Int32) (mnt' : Int32) (mnb' : Int32) (ou' : Nat → Int64) (h : G_19 pl th ms mnt mnb ou a1 a2 a3 = some (th', mnt', mnb', ou')) {H : Heap} {locs : List Loc} {ls : Array Slot} {cells slots : Nat} (hP : va_P D vwCl (LW o w v y pl te be cn ch le rE rL rP rF rS rD hs ho hc sl fi th ms mst smn msl mhs mtx mle mat mwl mrd mrm mtp mbt mtm mtn mnt mnb mun mum mau ou) H) (hD : va_D A (LW o w v y pl te be cn ch le rE rL rP rF rS rD hs ho hc sl fi th ms mst smn msl mhs mtx mle mat mwl mrd mrm mtp mbt mtm mtn mnt mnb mun mum mau ou)) (hS : va_S A s.heap H locs) (hl : lv_has ls 7 [(0, .ref b), (1, .ref (o 0)), (2, .ref (w 0)), (3, .ref v), (4, .int x4)]) (bcl : cells + 1 ≤ 1063) (bsl : slots + 6 ≤ 8907)
    (kk : ∀ (H : Heap) (locs : List Loc) (ls : Array Slot), va_P D vwCl (LW o w v y pl te be cn ch le rE rL rP rF rS rD hs ho hc sl fi th' ms mst smn msl mhs mtx mle mat mwl mrd mrm mtp mbt mtm mtn mnt' mnb' mun mum mau ou') H → va_D A (LW o w v y pl te be cn ch le rE rL rP rF rS rD hs ho hc sl fi th' ms mst smn msl mhs mtx mle mat mwl mrd mrm mtp mbt mtm mtn mnt' mnb' mun mum mau ou') → va_S A s.heap H locs → lv_has ls 7 [(0, .ref b), (1, .ref (o 0)), (2, .ref (w 0)), (3, .ref v), (4, .int x4)] → W p l e room_1 s m args below meth c H locs (cells + 1) (slots + 6) Q (F0 m 2109 ls [])) : W p l e room_1 s m args below meth c H locs cells slots Q (F0 m 1334 ls []) := by
  unfold G_19 at h
  refine lv_aload_n hx hb dL_law_1334 rfl (lv_at hl 1 rfl) ?_
  refine lv_aload_n hx hb dL_law_1335 rfl (lv_at hl 0 rfl) ?_
  refine lv_iload hx hb dL_law_1336 (lv_at hl 4 rfl) ?_
  refine lv_iconst (v := (1 : Int32)) hx hb dL_law_1338 (by decide) ?_
  refine lv_iadd hx hb dL_law_1339 ?_
  refine va_sld hx hb hX hbl hbA hS hi1 dL_law_1340 ?_
  refine eqi ha1 ?_
  refine lv_aload_n hx hb dL_law_1341 rfl (lv_at hl 0 rfl) ?_
  refine lv_iload hx hb dL_law_1342 (lv_at hl 4 rfl) ?_
  refine lv_iconst (v := (2 : Int32)) hx hb dL_law_1344 (by decide) ?_
  refine lv_iadd hx hb dL_law_1345 ?_
  refine va_sld hx hb hX hbl hbA hS hi2 dL_law_1346 ?_
  refine eqi ha2 ?_
  refine lv_aload_n hx hb dL_law_1347 rfl (lv_at hl 3 rfl) ?_
  obtain ⟨r1, ou2, g3, h⟩ := fB2 h
  refine cW_i (As := [.ref (o 0), .int a1, .int a2, .ref v]) (rest := []) (ws1 := (LW o w v y pl te be cn ch le rE rL rP rF rS rD hs ho hc sl fi th ms mst smn msl mhs mtx mle mat mwl mrd mrm mtp mbt mtm mtn mnt mnb mun mum mau ou2)) ⟨hx, hb, hml, hown, hts⟩ (c_L_nearestByTrying l hfl D o v y _ pl te be cn ch le rE rL rP rF rS rD hs ho hc sl fi ou a1 a2 r1 ou2 g3) (vx_cwSW 4 hts gL_law_L_nearestByTrying rfl rfl rfl hd_L_nearestByTrying ⟨Nat.le_of_ble_eq_true rfl, Nat.le_of_ble_eq_true rfl⟩) hK hP hD hS hA hEX [0, 1, 2, 3, 4, 5, 6, 7, 8, 9, 10, 11, 21] [12, 13, 14, 15, 16, 17, 18, 19, 20] [9, 10, 11, 12, 13, 14, 15, 16, 17, 18, 19, 20, 0, 1, 2, 3, 4, 5, 6, 7, 8, 21] rfl rfl rfl (by decide) rfl rfl rfl rfl hl.1 rfl (Nat.le_of_ble_eq_true rfl) dL_law_1348 ⟨bcl, bsl⟩ (fun H locs hP hD hS => ?_)
  refine lv_istore (lv' := [(5, .int r1), (0, .ref b), (1, .ref (o 0)), (2, .ref (w 0)), (3, .ref v), (4, .int x4)]) hx hb dL_law_1351 hl (by decide) rfl (fun ls hl => ?_)
  refine lv_aload_n hx hb dL_law_1353 rfl (lv_at hl 3 rfl) ?_
  refine lv_aload_n hx hb dL_law_1354 rfl (lv_at hl 1 rfl) ?_
  refine lv_iload hx hb dL_law_1355 (lv_at hl 5 rfl) ?_
  refine lv_iconst (v := (1 : Int32)) hx hb dL_law_1357 (by decide) ?_
  refine lv_iadd hx hb dL_law_1358 ?_
  refine va_sld hx hb hX hbl hbA hS hi1 dL_law_1359 ?_
  refine eqi ha1 ?_
  refine lv_aload_n hx hb dL_law_1360 rfl (lv_at hl 1 rfl) ?_
  refine lv_iload hx hb dL_law_1361 (lv_at hl 5 rfl) ?_
  refine lv_iconst (v := (2 : Int32)) hx hb dL_law_1363 (by decide) ?_
  refine lv_iadd hx hb dL_law_1364 ?_
  refine va_sld hx hb hX hbl hbA hS hi2 dL_law_1365 ?_
  refine eqi ha2 ?_
  obtain ⟨r4, th5, mnt6, mnb7, g8, h⟩ := fB4 h
  refine cV_i (As := [.int a1, .int a2]) (rest := []) (ws1 := (LW o w v y pl te be cn ch le rE rL rP rF rS rD hs ho hc sl fi th5 ms mst smn msl mhs mtx mle mat mwl mrd mrm mtp mbt mtm mtn mnt6 mnb7 mun mum mau ou2)) ⟨hx, hb, hml, hown, hts⟩ (c_X7_nearestByTrying l D w y _ th ms mst smn msl mhs mtx mle mat mwl mrd mrm mtp mbt mtm mtn mnt mnb mun mum mau a1 a2 r4 th5 mnt6 mnb7 g8) (cwV 2 hts gL_law_X7_nearestByTrying rfl rfl rfl hd_X7_nearestByTrying ⟨Nat.le_of_ble_eq_true rfl, Nat.le_of_ble_eq_true rfl⟩) hK hP hD hS hA [12, 13, 14, 15, 16, 17, 18, 19, 20] [0, 1, 2, 3, 4, 5, 6, 7, 8, 9, 10, 11, 21] [0, 1, 2, 3, 4, 5, 6, 7, 8, 9, 10, 11, 13, 14, 15, 16, 17, 18, 19, 20, 21, 12] rfl rfl rfl (by decide) rfl rfl rfl 0 (ci := 5) rfl rfl rfl hl.1 rfl (Nat.le_of_ble_eq_true rfl) dL_law_1366 ⟨bcl, bsl⟩ (fun H locs hP hD hS => ?_)
  refine lv_istore (lv' := [(6, .int r4), (5, .int r1), (0, .ref b), (1, .ref (o 0)), (2, .ref (w 0)), (3, .ref v), (4, .int x4)]) hx hb dL_law_1369 hl (by decide) rfl (fun ls hl => ?_)
  refine lv_aload_n hx hb dL_law_1371 rfl (lv_at hl 4 rfl) ?_
  refine cV_i (As := []) (rest := []) (ws1 := (LW o w v y pl te be cn ch le rE rL rP rF rS rD hs ho hc sl fi th5 ms mst smn msl mhs mtx mle mat mwl mrd mrm mtp mbt mtm mtn mnt6 mnb7 mun mum mau ou2)) ⟨hx, hb, hml, hown, hts⟩ (c_X7_thrown l D w y _ th5 ms mst smn msl mhs mtx mle mat mwl mrd mrm mtp mbt mtm mtn mnt6 mnb7 mun mum mau ) (cwV 0 hts gL_law_X7_thrown rfl rfl rfl hd_X7_thrown ⟨Nat.le_of_ble_eq_true rfl, Nat.le_of_ble_eq_true rfl⟩) hK hP hD hS hA [12, 13, 14, 15, 16, 17, 18, 19, 20] [0, 1, 2, 3, 4, 5, 6, 7, 8, 9, 10, 11, 21] [0, 1, 2, 3, 4, 5, 6, 7, 8, 9, 10, 11, 13, 14, 15, 16, 17, 18, 19, 20, 21, 12] rfl rfl rfl (by decide) rfl rfl rfl 0 (ci := 5) rfl rfl rfl hl.1 rfl (Nat.le_of_ble_eq_true rfl) dL_law_1372 ⟨bcl, bsl⟩ (fun H locs hP hD hS => ?_)
  refine lv_iload hx hb dL_law_1375 (lv_at hl 1 rfl) ?_
  refine lv_icmp_eq (tgt := 1382) hx hb dL_law_1377 (by decide) (fun c9 => ?_) (fun c9 => ?_)
  · replace h := fT c9 h
    refine lv_iload hx hb dL_law_1382 (lv_at hl 1 rfl) ?_
    refine lv_if_ne (tgt := 1399) hx hb dL_law_1384 (by decide) (fun c10 => ?_) (fun c10 => ?_)
    · replace h := fF c10 h
      refine lv_goto (tgt := 2109) hx hb dL_law_1399 (by decide) ?_
      cases h
      exact kk _ _ _ hP hD hS (lv_sub hl [2, 3, 4, 5, 6] rfl)
    · replace h := fT c10 h
      refine lv_aload_n hx hb dL_law_1387 rfl (lv_at hl 5 rfl) ?_
      refine lv_iconst (v := (0 : Int32)) hx hb dL_law_1388 (by decide) ?_
      refine va_lald hx hb hK hP 21 1 rfl rfl (show ¬ ((0 : Int32) < 0 ∨ 1 ≤ (0 : Int32).toNatClampNeg) from by decide) dL_law_1389 ?_
      refine lv_iload hx hb dL_law_1390 (lv_at hl 0 rfl) ?_
      refine lv_i2l (v := r4.toInt64) hx hb dL_law_1392 rfl ?_
      refine lx_eq (tgt := 1399) hx hb dL_law_1393 dL_law_1394 (by decide) (fun c11 => ?_) (fun c11 => ?_)
      · replace h := fT c11 h
        refine lv_goto (tgt := 2109) hx hb dL_law_1399 (by decide) ?_
        cases h
        exact kk _ _ _ hP hD hS (lv_sub hl [2, 3, 4, 5, 6] rfl)
      · replace h := fF c11 h
        refine lv_iconst (v := (0 : Int32)) hx hb dL_law_1397 (by decide) ?_
        exact fN h
  · replace h := fF c9 h
    refine lv_iconst (v := (0 : Int32)) hx hb dL_law_1380 (by decide) ?_
    exact fN h
set_option maxHeartbeats 0 in
set_option maxRecDepth 100000 in
theorem cs_20 {p : Program} {l : Launch} {e : Env} {s : State} {m : MethodId} {args : Array Value} {below : List Frame} {meth : Method} {c : Code} {Q : State → Prop} {D : va_G} {o w : Nat → Nat} {v : Nat} {y : Nat → ClassId} {A : Nat → Prop} {b L : Nat} {xs : Nat → Int32} {x4 a1 a2 a3 : Int32} (hfl : l.stackTraces = false) (hx : p.tables.exec = Jvm.exec) (hb : c.code = code) (hml : c.maxLocals = 7) (hown : s.vm.findClass RL = some m.cls) (hts : ∀ w ∈ wsL_law, w.before args s = true) (hA : ∀ q, s.heap.size ≤ q → A q) (hK : va_K D vwCl (TY y) s) (hEX : EXC A s s.heap) (hX : va_X b L xs s s.heap) (hbl : b < s.heap.size) (hbA : ¬ A b) (hi1 : vp_in (x4 + (1 : Int32)) L) (hi2 : vp_in (x4 + (2 : Int32)) L) (hi3 : vp_in (x4 + (3 : Int32)) L) (ha1 : xs (x4 + (1 : Int32)).toNatClampNeg = a1) (ha2 : xs (x4 + (2 : Int32)).toNatClampNeg = a2) (ha3 : xs (x4 + (3 : Int32)).toNatClampNeg = a3) (pl : Nat → Int64) (te : Nat → Int32) (be : Nat → Int64) (cn : Int32) (ch : Nat → Int32) (le : Int32) (rE : Int32) (rL : Int32) (rP : Int32) (rF : Int32) (rS : Int32) (rD : Int32) (hs : Nat → Int64) (ho : Int32) (hc : Int32) (sl : Nat → Int64) (fi : Nat → Int32) (th : Int32) (ms : Nat → Int32) (mst : Nat → Int32) (smn : Int32) (msl : Nat → Int32) (mhs : Nat → Int32) (mtx : Nat → Int32) (mle : Int32) (mat : Int32) (mwl : Int32) (mrd : Nat → Int32) (mrm : Int32) (mtp : Int64) (mbt : Int64) (mtm : Nat → Int32) (mtn : Int32) (mnt : Int32) (mnb : Int32) (mun : Nat → Int32) (mum : Int32) (mau : Int32) (ou : Nat → Int64) (te' : Nat → Int32) (be' : Nat → Int64) (cn' : Int32) (th' : Int32) (mnt' : Int32) (mnb' : Int32) (ou' : Nat → Int64) (h : G_20 pl te be cn th ms mnt mnb ou a1 a2 a3 = some (te', be', cn', th', mnt', mnb', ou')) {H : Heap} {locs : List Loc} {ls : Array Slot} {cells slots : Nat} (hP : va_P D vwCl (LW o w v y pl te be cn ch le rE rL rP rF rS rD hs ho hc sl fi th ms mst smn msl mhs mtx mle mat mwl mrd mrm mtp mbt mtm mtn mnt mnb mun mum mau ou) H) (hD : va_D A (LW o w v y pl te be cn ch le rE rL rP rF rS rD hs ho hc sl fi th ms mst smn msl mhs mtx mle mat mwl mrd mrm mtp mbt mtm mtn mnt mnb mun mum mau ou)) (hS : va_S A s.heap H locs) (hl : lv_has ls 7 [(0, .ref b), (1, .ref (o 0)), (2, .ref (w 0)), (3, .ref v), (4, .int x4)]) (bcl : cells + 1 ≤ 1063) (bsl : slots + 6 ≤ 8907)
    (kk : ∀ (H : Heap) (locs : List Loc) (ls : Array Slot), va_P D vwCl (LW o w v y pl te' be' cn' ch le rE rL rP rF rS rD hs ho hc sl fi th' ms mst smn msl mhs mtx mle mat mwl mrd mrm mtp mbt mtm mtn mnt' mnb' mun mum mau ou') H → va_D A (LW o w v y pl te' be' cn' ch le rE rL rP rF rS rD hs ho hc sl fi th' ms mst smn msl mhs mtx mle mat mwl mrd mrm mtp mbt mtm mtn mnt' mnb' mun mum mau ou') → va_S A s.heap H locs → lv_has ls 7 [(0, .ref b), (1, .ref (o 0)), (2, .ref (w 0)), (3, .ref v), (4, .int x4)] → W p l e room_1 s m args below meth c H locs (cells + 1) (slots + 6) Q (F0 m 2109 ls [])) : W p l e room_1 s m args below meth c H locs cells slots Q (F0 m 1402 ls []) := by
  unfold G_20 at h
  refine lv_aload_n hx hb dL_law_1402 rfl (lv_at hl 1 rfl) ?_
  refine lv_aload_n hx hb dL_law_1403 rfl (lv_at hl 0 rfl) ?_
  refine lv_iload hx hb dL_law_1404 (lv_at hl 4 rfl) ?_
  refine lv_iconst (v := (1 : Int32)) hx hb dL_law_1406 (by decide) ?_
  refine lv_iadd hx hb dL_law_1407 ?_
  refine va_sld hx hb hX hbl hbA hS hi1 dL_law_1408 ?_
  refine eqi ha1 ?_
  refine lv_aload_n hx hb dL_law_1409 rfl (lv_at hl 0 rfl) ?_
  refine lv_iload hx hb dL_law_1410 (lv_at hl 4 rfl) ?_
  refine lv_iconst (v := (2 : Int32)) hx hb dL_law_1412 (by decide) ?_
  refine lv_iadd hx hb dL_law_1413 ?_
  refine va_sld hx hb hX hbl hbA hS hi2 dL_law_1414 ?_
  refine eqi ha2 ?_
  refine lv_aload_n hx hb dL_law_1415 rfl (lv_at hl 3 rfl) ?_
  obtain ⟨r1, te2, be3, cn4, ou5, g6, h⟩ := fB5 h
  refine cW_i (As := [.ref (o 0), .int a1, .int a2, .ref v]) (rest := []) (ws1 := (LW o w v y pl te2 be3 cn4 ch le rE rL rP rF rS rD hs ho hc sl fi th ms mst smn msl mhs mtx mle mat mwl mrd mrm mtp mbt mtm mtn mnt mnb mun mum mau ou5)) ⟨hx, hb, hml, hown, hts⟩ (c_L_nearestNumerator l hfl D o v y _ pl te be cn ch le rE rL rP rF rS rD hs ho hc sl fi ou a1 a2 r1 te2 be3 cn4 ou5 g6) (vx_cwSW 4 hts gL_law_L_nearestNumerator rfl rfl rfl hd_L_nearestNumerator ⟨Nat.le_of_ble_eq_true rfl, Nat.le_of_ble_eq_true rfl⟩) hK hP hD hS hA hEX [0, 1, 2, 3, 4, 5, 6, 7, 8, 9, 10, 11, 21] [12, 13, 14, 15, 16, 17, 18, 19, 20] [9, 10, 11, 12, 13, 14, 15, 16, 17, 18, 19, 20, 0, 1, 2, 3, 4, 5, 6, 7, 8, 21] rfl rfl rfl (by decide) rfl rfl rfl rfl hl.1 rfl (Nat.le_of_ble_eq_true rfl) dL_law_1416 ⟨bcl, bsl⟩ (fun H locs hP hD hS => ?_)
  refine lv_istore (lv' := [(5, .int r1), (0, .ref b), (1, .ref (o 0)), (2, .ref (w 0)), (3, .ref v), (4, .int x4)]) hx hb dL_law_1419 hl (by decide) rfl (fun ls hl => ?_)
  refine lv_aload_n hx hb dL_law_1421 rfl (lv_at hl 3 rfl) ?_
  refine lv_aload_n hx hb dL_law_1422 rfl (lv_at hl 1 rfl) ?_
  refine lv_iload hx hb dL_law_1423 (lv_at hl 5 rfl) ?_
  refine lv_iconst (v := (1 : Int32)) hx hb dL_law_1425 (by decide) ?_
  refine lv_iadd hx hb dL_law_1426 ?_
  refine va_sld hx hb hX hbl hbA hS hi1 dL_law_1427 ?_
  refine eqi ha1 ?_
  refine lv_aload_n hx hb dL_law_1428 rfl (lv_at hl 1 rfl) ?_
  refine lv_iload hx hb dL_law_1429 (lv_at hl 5 rfl) ?_
  refine lv_iconst (v := (2 : Int32)) hx hb dL_law_1431 (by decide) ?_
  refine lv_iadd hx hb dL_law_1432 ?_
  refine va_sld hx hb hX hbl hbA hS hi2 dL_law_1433 ?_
  refine eqi ha2 ?_
  obtain ⟨r7, th8, mnt9, mnb10, g11, h⟩ := fB4 h
  refine cV_i (As := [.int a1, .int a2]) (rest := []) (ws1 := (LW o w v y pl te2 be3 cn4 ch le rE rL rP rF rS rD hs ho hc sl fi th8 ms mst smn msl mhs mtx mle mat mwl mrd mrm mtp mbt mtm mtn mnt9 mnb10 mun mum mau ou5)) ⟨hx, hb, hml, hown, hts⟩ (c_X7_nearestNumerator l D w y _ th ms mst smn msl mhs mtx mle mat mwl mrd mrm mtp mbt mtm mtn mnt mnb mun mum mau a1 a2 r7 th8 mnt9 mnb10 g11) (cwV 2 hts gL_law_X7_nearestNumerator rfl rfl rfl hd_X7_nearestNumerator ⟨Nat.le_of_ble_eq_true rfl, Nat.le_of_ble_eq_true rfl⟩) hK hP hD hS hA [12, 13, 14, 15, 16, 17, 18, 19, 20] [0, 1, 2, 3, 4, 5, 6, 7, 8, 9, 10, 11, 21] [0, 1, 2, 3, 4, 5, 6, 7, 8, 9, 10, 11, 13, 14, 15, 16, 17, 18, 19, 20, 21, 12] rfl rfl rfl (by decide) rfl rfl rfl 0 (ci := 5) rfl rfl rfl hl.1 rfl (Nat.le_of_ble_eq_true rfl) dL_law_1434 ⟨bcl, bsl⟩ (fun H locs hP hD hS => ?_)
  refine lv_istore (lv' := [(6, .int r7), (5, .int r1), (0, .ref b), (1, .ref (o 0)), (2, .ref (w 0)), (3, .ref v), (4, .int x4)]) hx hb dL_law_1437 hl (by decide) rfl (fun ls hl => ?_)
  refine lv_aload_n hx hb dL_law_1439 rfl (lv_at hl 4 rfl) ?_
  refine cV_i (As := []) (rest := []) (ws1 := (LW o w v y pl te2 be3 cn4 ch le rE rL rP rF rS rD hs ho hc sl fi th8 ms mst smn msl mhs mtx mle mat mwl mrd mrm mtp mbt mtm mtn mnt9 mnb10 mun mum mau ou5)) ⟨hx, hb, hml, hown, hts⟩ (c_X7_thrown l D w y _ th8 ms mst smn msl mhs mtx mle mat mwl mrd mrm mtp mbt mtm mtn mnt9 mnb10 mun mum mau ) (cwV 0 hts gL_law_X7_thrown rfl rfl rfl hd_X7_thrown ⟨Nat.le_of_ble_eq_true rfl, Nat.le_of_ble_eq_true rfl⟩) hK hP hD hS hA [12, 13, 14, 15, 16, 17, 18, 19, 20] [0, 1, 2, 3, 4, 5, 6, 7, 8, 9, 10, 11, 21] [0, 1, 2, 3, 4, 5, 6, 7, 8, 9, 10, 11, 13, 14, 15, 16, 17, 18, 19, 20, 21, 12] rfl rfl rfl (by decide) rfl rfl rfl 0 (ci := 5) rfl rfl rfl hl.1 rfl (Nat.le_of_ble_eq_true rfl) dL_law_1440 ⟨bcl, bsl⟩ (fun H locs hP hD hS => ?_)
  refine lv_iload hx hb dL_law_1443 (lv_at hl 1 rfl) ?_
  refine lv_icmp_eq (tgt := 1450) hx hb dL_law_1445 (by decide) (fun c12 => ?_) (fun c12 => ?_)
  · replace h := fT c12 h
    refine lv_iload hx hb dL_law_1450 (lv_at hl 1 rfl) ?_
    refine lv_if_ne (tgt := 1467) hx hb dL_law_1452 (by decide) (fun c13 => ?_) (fun c13 => ?_)
    · replace h := fF c13 h
      refine lv_goto (tgt := 2109) hx hb dL_law_1467 (by decide) ?_
      cases h
      exact kk _ _ _ hP hD hS (lv_sub hl [2, 3, 4, 5, 6] rfl)
    · replace h := fT c13 h
      refine lv_aload_n hx hb dL_law_1455 rfl (lv_at hl 5 rfl) ?_
      refine lv_iconst (v := (0 : Int32)) hx hb dL_law_1456 (by decide) ?_
      refine va_lald hx hb hK hP 21 1 rfl rfl (show ¬ ((0 : Int32) < 0 ∨ 1 ≤ (0 : Int32).toNatClampNeg) from by decide) dL_law_1457 ?_
      refine lv_iload hx hb dL_law_1458 (lv_at hl 0 rfl) ?_
      refine lv_i2l (v := r7.toInt64) hx hb dL_law_1460 rfl ?_
      refine lx_eq (tgt := 1467) hx hb dL_law_1461 dL_law_1462 (by decide) (fun c14 => ?_) (fun c14 => ?_)
      · replace h := fT c14 h
        refine lv_goto (tgt := 2109) hx hb dL_law_1467 (by decide) ?_
        cases h
        exact kk _ _ _ hP hD hS (lv_sub hl [2, 3, 4, 5, 6] rfl)
      · replace h := fF c14 h
        refine lv_iconst (v := (0 : Int32)) hx hb dL_law_1465 (by decide) ?_
        exact fN h
  · replace h := fF c12 h
    refine lv_iconst (v := (0 : Int32)) hx hb dL_law_1448 (by decide) ?_
    exact fN h
set_option maxHeartbeats 0 in
set_option maxRecDepth 100000 in
theorem cs_21 {p : Program} {l : Launch} {e : Env} {s : State} {m : MethodId} {args : Array Value} {below : List Frame} {meth : Method} {c : Code} {Q : State → Prop} {D : va_G} {o w : Nat → Nat} {v : Nat} {y : Nat → ClassId} {A : Nat → Prop} {b L : Nat} {xs : Nat → Int32} {x4 a1 a2 a3 : Int32} (hfl : l.stackTraces = false) (hx : p.tables.exec = Jvm.exec) (hb : c.code = code) (hml : c.maxLocals = 7) (hown : s.vm.findClass RL = some m.cls) (hts : ∀ w ∈ wsL_law, w.before args s = true) (hA : ∀ q, s.heap.size ≤ q → A q) (hK : va_K D vwCl (TY y) s) (hEX : EXC A s s.heap) (hX : va_X b L xs s s.heap) (hbl : b < s.heap.size) (hbA : ¬ A b) (hi1 : vp_in (x4 + (1 : Int32)) L) (hi2 : vp_in (x4 + (2 : Int32)) L) (hi3 : vp_in (x4 + (3 : Int32)) L) (ha1 : xs (x4 + (1 : Int32)).toNatClampNeg = a1) (ha2 : xs (x4 + (2 : Int32)).toNatClampNeg = a2) (ha3 : xs (x4 + (3 : Int32)).toNatClampNeg = a3) (pl : Nat → Int64) (te : Nat → Int32) (be : Nat → Int64) (cn : Int32) (ch : Nat → Int32) (le : Int32) (rE : Int32) (rL : Int32) (rP : Int32) (rF : Int32) (rS : Int32) (rD : Int32) (hs : Nat → Int64) (ho : Int32) (hc : Int32) (sl : Nat → Int64) (fi : Nat → Int32) (th : Int32) (ms : Nat → Int32) (mst : Nat → Int32) (smn : Int32) (msl : Nat → Int32) (mhs : Nat → Int32) (mtx : Nat → Int32) (mle : Int32) (mat : Int32) (mwl : Int32) (mrd : Nat → Int32) (mrm : Int32) (mtp : Int64) (mbt : Int64) (mtm : Nat → Int32) (mtn : Int32) (mnt : Int32) (mnb : Int32) (mun : Nat → Int32) (mum : Int32) (mau : Int32) (ou : Nat → Int64) (th' : Int32) (mun' : Nat → Int32) (mum' : Int32) (mau' : Int32) (ou' : Nat → Int64) (h : G_21 pl th ms mun mum mau ou a1 a2 a3 = some (th', mun', mum', mau', ou')) {H : Heap} {locs : List Loc} {ls : Array Slot} {cells slots : Nat} (hP : va_P D vwCl (LW o w v y pl te be cn ch le rE rL rP rF rS rD hs ho hc sl fi th ms mst smn msl mhs mtx mle mat mwl mrd mrm mtp mbt mtm mtn mnt mnb mun mum mau ou) H) (hD : va_D A (LW o w v y pl te be cn ch le rE rL rP rF rS rD hs ho hc sl fi th ms mst smn msl mhs mtx mle mat mwl mrd mrm mtp mbt mtm mtn mnt mnb mun mum mau ou)) (hS : va_S A s.heap H locs) (hl : lv_has ls 7 [(0, .ref b), (1, .ref (o 0)), (2, .ref (w 0)), (3, .ref v), (4, .int x4)]) (bcl : cells + 1 ≤ 1063) (bsl : slots + 6 ≤ 8907)
    (kk : ∀ (H : Heap) (locs : List Loc) (ls : Array Slot), va_P D vwCl (LW o w v y pl te be cn ch le rE rL rP rF rS rD hs ho hc sl fi th' ms mst smn msl mhs mtx mle mat mwl mrd mrm mtp mbt mtm mtn mnt mnb mun' mum' mau' ou') H → va_D A (LW o w v y pl te be cn ch le rE rL rP rF rS rD hs ho hc sl fi th' ms mst smn msl mhs mtx mle mat mwl mrd mrm mtp mbt mtm mtn mnt mnb mun' mum' mau' ou') → va_S A s.heap H locs → lv_has ls 7 [(0, .ref b), (1, .ref (o 0)), (2, .ref (w 0)), (3, .ref v), (4, .int x4)] → W p l e room_1 s m args below meth c H locs (cells + 1) (slots + 6) Q (F0 m 2109 ls [])) : W p l e room_1 s m args below meth c H locs cells slots Q (F0 m 1470 ls []) := by
  unfold G_21 at h
  refine lv_aload_n hx hb dL_law_1470 rfl (lv_at hl 1 rfl) ?_
  refine lv_aload_n hx hb dL_law_1471 rfl (lv_at hl 0 rfl) ?_
  refine lv_iload hx hb dL_law_1472 (lv_at hl 4 rfl) ?_
  refine lv_iconst (v := (1 : Int32)) hx hb dL_law_1474 (by decide) ?_
  refine lv_iadd hx hb dL_law_1475 ?_
  refine va_sld hx hb hX hbl hbA hS hi1 dL_law_1476 ?_
  refine eqi ha1 ?_
  refine lv_aload_n hx hb dL_law_1477 rfl (lv_at hl 3 rfl) ?_
  obtain ⟨r1, ou2, g3, h⟩ := fB2 h
  refine cW_i (As := [.ref (o 0), .int a1, .ref v]) (rest := []) (ws1 := (LW o w v y pl te be cn ch le rE rL rP rF rS rD hs ho hc sl fi th ms mst smn msl mhs mtx mle mat mwl mrd mrm mtp mbt mtm mtn mnt mnb mun mum mau ou2)) ⟨hx, hb, hml, hown, hts⟩ (c_L_unitCount l hfl D o v y _ pl te be cn ch le rE rL rP rF rS rD hs ho hc sl fi ou a1 r1 ou2 g3) (vx_cwSW 3 hts gL_law_L_unitCount rfl rfl rfl hd_L_unitCount ⟨Nat.le_of_ble_eq_true rfl, Nat.le_of_ble_eq_true rfl⟩) hK hP hD hS hA hEX [0, 1, 2, 3, 4, 5, 6, 7, 8, 9, 10, 11, 21] [12, 13, 14, 15, 16, 17, 18, 19, 20] [9, 10, 11, 12, 13, 14, 15, 16, 17, 18, 19, 20, 0, 1, 2, 3, 4, 5, 6, 7, 8, 21] rfl rfl rfl (by decide) rfl rfl rfl rfl hl.1 rfl (Nat.le_of_ble_eq_true rfl) dL_law_1478 ⟨bcl, bsl⟩ (fun H locs hP hD hS => ?_)
  refine lv_istore (lv' := [(5, .int r1), (0, .ref b), (1, .ref (o 0)), (2, .ref (w 0)), (3, .ref v), (4, .int x4)]) hx hb dL_law_1481 hl (by decide) rfl (fun ls hl => ?_)
  refine lv_aload_n hx hb dL_law_1483 rfl (lv_at hl 3 rfl) ?_
  refine lv_aload_n hx hb dL_law_1484 rfl (lv_at hl 1 rfl) ?_
  refine lv_iload hx hb dL_law_1485 (lv_at hl 5 rfl) ?_
  refine lv_iconst (v := (1 : Int32)) hx hb dL_law_1487 (by decide) ?_
  refine lv_iadd hx hb dL_law_1488 ?_
  refine va_sld hx hb hX hbl hbA hS hi1 dL_law_1489 ?_
  refine eqi ha1 ?_
  obtain ⟨r4, th5, mun6, mum7, mau8, g9, h⟩ := fB5 h
  refine cV_i (As := [.int a1]) (rest := []) (ws1 := (LW o w v y pl te be cn ch le rE rL rP rF rS rD hs ho hc sl fi th5 ms mst smn msl mhs mtx mle mat mwl mrd mrm mtp mbt mtm mtn mnt mnb mun6 mum7 mau8 ou2)) ⟨hx, hb, hml, hown, hts⟩ (c_X7_unitCount l D w y _ th ms mst smn msl mhs mtx mle mat mwl mrd mrm mtp mbt mtm mtn mnt mnb mun mum mau a1 r4 th5 mun6 mum7 mau8 g9) (cwV 1 hts gL_law_X7_unitCount rfl rfl rfl hd_X7_unitCount ⟨Nat.le_of_ble_eq_true rfl, Nat.le_of_ble_eq_true rfl⟩) hK hP hD hS hA [12, 13, 14, 15, 16, 17, 18, 19, 20] [0, 1, 2, 3, 4, 5, 6, 7, 8, 9, 10, 11, 21] [0, 1, 2, 3, 4, 5, 6, 7, 8, 9, 10, 11, 13, 14, 15, 16, 17, 18, 19, 20, 21, 12] rfl rfl rfl (by decide) rfl rfl rfl 0 (ci := 5) rfl rfl rfl hl.1 rfl (Nat.le_of_ble_eq_true rfl) dL_law_1490 ⟨bcl, bsl⟩ (fun H locs hP hD hS => ?_)
  refine lv_istore (lv' := [(6, .int r4), (5, .int r1), (0, .ref b), (1, .ref (o 0)), (2, .ref (w 0)), (3, .ref v), (4, .int x4)]) hx hb dL_law_1493 hl (by decide) rfl (fun ls hl => ?_)
  refine lv_aload_n hx hb dL_law_1495 rfl (lv_at hl 4 rfl) ?_
  refine cV_i (As := []) (rest := []) (ws1 := (LW o w v y pl te be cn ch le rE rL rP rF rS rD hs ho hc sl fi th5 ms mst smn msl mhs mtx mle mat mwl mrd mrm mtp mbt mtm mtn mnt mnb mun6 mum7 mau8 ou2)) ⟨hx, hb, hml, hown, hts⟩ (c_X7_thrown l D w y _ th5 ms mst smn msl mhs mtx mle mat mwl mrd mrm mtp mbt mtm mtn mnt mnb mun6 mum7 mau8 ) (cwV 0 hts gL_law_X7_thrown rfl rfl rfl hd_X7_thrown ⟨Nat.le_of_ble_eq_true rfl, Nat.le_of_ble_eq_true rfl⟩) hK hP hD hS hA [12, 13, 14, 15, 16, 17, 18, 19, 20] [0, 1, 2, 3, 4, 5, 6, 7, 8, 9, 10, 11, 21] [0, 1, 2, 3, 4, 5, 6, 7, 8, 9, 10, 11, 13, 14, 15, 16, 17, 18, 19, 20, 21, 12] rfl rfl rfl (by decide) rfl rfl rfl 0 (ci := 5) rfl rfl rfl hl.1 rfl (Nat.le_of_ble_eq_true rfl) dL_law_1496 ⟨bcl, bsl⟩ (fun H locs hP hD hS => ?_)
  refine lv_iload hx hb dL_law_1499 (lv_at hl 1 rfl) ?_
  refine lv_icmp_eq (tgt := 1506) hx hb dL_law_1501 (by decide) (fun c10 => ?_) (fun c10 => ?_)
  · replace h := fT c10 h
    refine lv_iload hx hb dL_law_1506 (lv_at hl 1 rfl) ?_
    refine lv_if_ne (tgt := 1523) hx hb dL_law_1508 (by decide) (fun c11 => ?_) (fun c11 => ?_)
    · replace h := fF c11 h
      refine lv_goto (tgt := 2109) hx hb dL_law_1523 (by decide) ?_
      cases h
      exact kk _ _ _ hP hD hS (lv_sub hl [2, 3, 4, 5, 6] rfl)
    · replace h := fT c11 h
      refine lv_aload_n hx hb dL_law_1511 rfl (lv_at hl 5 rfl) ?_
      refine lv_iconst (v := (0 : Int32)) hx hb dL_law_1512 (by decide) ?_
      refine va_lald hx hb hK hP 21 1 rfl rfl (show ¬ ((0 : Int32) < 0 ∨ 1 ≤ (0 : Int32).toNatClampNeg) from by decide) dL_law_1513 ?_
      refine lv_iload hx hb dL_law_1514 (lv_at hl 0 rfl) ?_
      refine lv_i2l (v := r4.toInt64) hx hb dL_law_1516 rfl ?_
      refine lx_eq (tgt := 1523) hx hb dL_law_1517 dL_law_1518 (by decide) (fun c12 => ?_) (fun c12 => ?_)
      · replace h := fT c12 h
        refine lv_goto (tgt := 2109) hx hb dL_law_1523 (by decide) ?_
        cases h
        exact kk _ _ _ hP hD hS (lv_sub hl [2, 3, 4, 5, 6] rfl)
      · replace h := fF c12 h
        refine lv_iconst (v := (0 : Int32)) hx hb dL_law_1521 (by decide) ?_
        exact fN h
  · replace h := fF c10 h
    refine lv_iconst (v := (0 : Int32)) hx hb dL_law_1504 (by decide) ?_
    exact fN h
set_option maxHeartbeats 0 in
set_option maxRecDepth 100000 in
theorem cs_22 {p : Program} {l : Launch} {e : Env} {s : State} {m : MethodId} {args : Array Value} {below : List Frame} {meth : Method} {c : Code} {Q : State → Prop} {D : va_G} {o w : Nat → Nat} {v : Nat} {y : Nat → ClassId} {A : Nat → Prop} {b L : Nat} {xs : Nat → Int32} {x4 a1 a2 a3 : Int32} (hfl : l.stackTraces = false) (hx : p.tables.exec = Jvm.exec) (hb : c.code = code) (hml : c.maxLocals = 7) (hown : s.vm.findClass RL = some m.cls) (hts : ∀ w ∈ wsL_law, w.before args s = true) (hA : ∀ q, s.heap.size ≤ q → A q) (hK : va_K D vwCl (TY y) s) (hEX : EXC A s s.heap) (hX : va_X b L xs s s.heap) (hbl : b < s.heap.size) (hbA : ¬ A b) (hi1 : vp_in (x4 + (1 : Int32)) L) (hi2 : vp_in (x4 + (2 : Int32)) L) (hi3 : vp_in (x4 + (3 : Int32)) L) (ha1 : xs (x4 + (1 : Int32)).toNatClampNeg = a1) (ha2 : xs (x4 + (2 : Int32)).toNatClampNeg = a2) (ha3 : xs (x4 + (3 : Int32)).toNatClampNeg = a3) (pl : Nat → Int64) (te : Nat → Int32) (be : Nat → Int64) (cn : Int32) (ch : Nat → Int32) (le : Int32) (rE : Int32) (rL : Int32) (rP : Int32) (rF : Int32) (rS : Int32) (rD : Int32) (hs : Nat → Int64) (ho : Int32) (hc : Int32) (sl : Nat → Int64) (fi : Nat → Int32) (th : Int32) (ms : Nat → Int32) (mst : Nat → Int32) (smn : Int32) (msl : Nat → Int32) (mhs : Nat → Int32) (mtx : Nat → Int32) (mle : Int32) (mat : Int32) (mwl : Int32) (mrd : Nat → Int32) (mrm : Int32) (mtp : Int64) (mbt : Int64) (mtm : Nat → Int32) (mtn : Int32) (mnt : Int32) (mnb : Int32) (mun : Nat → Int32) (mum : Int32) (mau : Int32) (ou : Nat → Int64) (th' : Int32) (mun' : Nat → Int32) (mum' : Int32) (mau' : Int32) (ou' : Nat → Int64) (h : G_22 pl th ms mun mum mau ou a1 a2 a3 = some (th', mun', mum', mau', ou')) {H : Heap} {locs : List Loc} {ls : Array Slot} {cells slots : Nat} (hP : va_P D vwCl (LW o w v y pl te be cn ch le rE rL rP rF rS rD hs ho hc sl fi th ms mst smn msl mhs mtx mle mat mwl mrd mrm mtp mbt mtm mtn mnt mnb mun mum mau ou) H) (hD : va_D A (LW o w v y pl te be cn ch le rE rL rP rF rS rD hs ho hc sl fi th ms mst smn msl mhs mtx mle mat mwl mrd mrm mtp mbt mtm mtn mnt mnb mun mum mau ou)) (hS : va_S A s.heap H locs) (hl : lv_has ls 7 [(0, .ref b), (1, .ref (o 0)), (2, .ref (w 0)), (3, .ref v), (4, .int x4)]) (bcl : cells + 1 ≤ 1063) (bsl : slots + 6 ≤ 8907)
    (kk : ∀ (H : Heap) (locs : List Loc) (ls : Array Slot), va_P D vwCl (LW o w v y pl te be cn ch le rE rL rP rF rS rD hs ho hc sl fi th' ms mst smn msl mhs mtx mle mat mwl mrd mrm mtp mbt mtm mtn mnt mnb mun' mum' mau' ou') H → va_D A (LW o w v y pl te be cn ch le rE rL rP rF rS rD hs ho hc sl fi th' ms mst smn msl mhs mtx mle mat mwl mrd mrm mtp mbt mtm mtn mnt mnb mun' mum' mau' ou') → va_S A s.heap H locs → lv_has ls 7 [(0, .ref b), (1, .ref (o 0)), (2, .ref (w 0)), (3, .ref v), (4, .int x4)] → W p l e room_1 s m args below meth c H locs (cells + 1) (slots + 6) Q (F0 m 2109 ls [])) : W p l e room_1 s m args below meth c H locs cells slots Q (F0 m 1526 ls []) := by
  unfold G_22 at h
  refine lv_aload_n hx hb dL_law_1526 rfl (lv_at hl 1 rfl) ?_
  refine lv_aload_n hx hb dL_law_1527 rfl (lv_at hl 0 rfl) ?_
  refine lv_iload hx hb dL_law_1528 (lv_at hl 4 rfl) ?_
  refine lv_iconst (v := (1 : Int32)) hx hb dL_law_1530 (by decide) ?_
  refine lv_iadd hx hb dL_law_1531 ?_
  refine va_sld hx hb hX hbl hbA hS hi1 dL_law_1532 ?_
  refine eqi ha1 ?_
  refine lv_aload_n hx hb dL_law_1533 rfl (lv_at hl 0 rfl) ?_
  refine lv_iload hx hb dL_law_1534 (lv_at hl 4 rfl) ?_
  refine lv_iconst (v := (2 : Int32)) hx hb dL_law_1536 (by decide) ?_
  refine lv_iadd hx hb dL_law_1537 ?_
  refine va_sld hx hb hX hbl hbA hS hi2 dL_law_1538 ?_
  refine eqi ha2 ?_
  refine lv_aload_n hx hb dL_law_1539 rfl (lv_at hl 3 rfl) ?_
  obtain ⟨r1, ou2, g3, h⟩ := fB2 h
  refine cW_i (As := [.ref (o 0), .int a1, .int a2, .ref v]) (rest := []) (ws1 := (LW o w v y pl te be cn ch le rE rL rP rF rS rD hs ho hc sl fi th ms mst smn msl mhs mtx mle mat mwl mrd mrm mtp mbt mtm mtn mnt mnb mun mum mau ou2)) ⟨hx, hb, hml, hown, hts⟩ (c_L_unitAt l hfl D o v y _ pl te be cn ch le rE rL rP rF rS rD hs ho hc sl fi ou a1 a2 r1 ou2 g3) (vx_cwSW 4 hts gL_law_L_unitAt rfl rfl rfl hd_L_unitAt ⟨Nat.le_of_ble_eq_true rfl, Nat.le_of_ble_eq_true rfl⟩) hK hP hD hS hA hEX [0, 1, 2, 3, 4, 5, 6, 7, 8, 9, 10, 11, 21] [12, 13, 14, 15, 16, 17, 18, 19, 20] [9, 10, 11, 12, 13, 14, 15, 16, 17, 18, 19, 20, 0, 1, 2, 3, 4, 5, 6, 7, 8, 21] rfl rfl rfl (by decide) rfl rfl rfl rfl hl.1 rfl (Nat.le_of_ble_eq_true rfl) dL_law_1540 ⟨bcl, bsl⟩ (fun H locs hP hD hS => ?_)
  refine lv_istore (lv' := [(5, .int r1), (0, .ref b), (1, .ref (o 0)), (2, .ref (w 0)), (3, .ref v), (4, .int x4)]) hx hb dL_law_1543 hl (by decide) rfl (fun ls hl => ?_)
  refine lv_aload_n hx hb dL_law_1545 rfl (lv_at hl 3 rfl) ?_
  refine lv_aload_n hx hb dL_law_1546 rfl (lv_at hl 1 rfl) ?_
  refine lv_iload hx hb dL_law_1547 (lv_at hl 5 rfl) ?_
  refine lv_iconst (v := (1 : Int32)) hx hb dL_law_1549 (by decide) ?_
  refine lv_iadd hx hb dL_law_1550 ?_
  refine va_sld hx hb hX hbl hbA hS hi1 dL_law_1551 ?_
  refine eqi ha1 ?_
  refine lv_aload_n hx hb dL_law_1552 rfl (lv_at hl 1 rfl) ?_
  refine lv_iload hx hb dL_law_1553 (lv_at hl 5 rfl) ?_
  refine lv_iconst (v := (2 : Int32)) hx hb dL_law_1555 (by decide) ?_
  refine lv_iadd hx hb dL_law_1556 ?_
  refine va_sld hx hb hX hbl hbA hS hi2 dL_law_1557 ?_
  refine eqi ha2 ?_
  obtain ⟨r4, th5, mun6, mum7, mau8, g9, h⟩ := fB5 h
  refine cV_i (As := [.int a1, .int a2]) (rest := []) (ws1 := (LW o w v y pl te be cn ch le rE rL rP rF rS rD hs ho hc sl fi th5 ms mst smn msl mhs mtx mle mat mwl mrd mrm mtp mbt mtm mtn mnt mnb mun6 mum7 mau8 ou2)) ⟨hx, hb, hml, hown, hts⟩ (c_X7_unitAt l D w y _ th ms mst smn msl mhs mtx mle mat mwl mrd mrm mtp mbt mtm mtn mnt mnb mun mum mau a1 a2 r4 th5 mun6 mum7 mau8 g9) (cwV 2 hts gL_law_X7_unitAt rfl rfl rfl hd_X7_unitAt ⟨Nat.le_of_ble_eq_true rfl, Nat.le_of_ble_eq_true rfl⟩) hK hP hD hS hA [12, 13, 14, 15, 16, 17, 18, 19, 20] [0, 1, 2, 3, 4, 5, 6, 7, 8, 9, 10, 11, 21] [0, 1, 2, 3, 4, 5, 6, 7, 8, 9, 10, 11, 13, 14, 15, 16, 17, 18, 19, 20, 21, 12] rfl rfl rfl (by decide) rfl rfl rfl 0 (ci := 5) rfl rfl rfl hl.1 rfl (Nat.le_of_ble_eq_true rfl) dL_law_1558 ⟨bcl, bsl⟩ (fun H locs hP hD hS => ?_)
  refine lv_istore (lv' := [(6, .int r4), (5, .int r1), (0, .ref b), (1, .ref (o 0)), (2, .ref (w 0)), (3, .ref v), (4, .int x4)]) hx hb dL_law_1561 hl (by decide) rfl (fun ls hl => ?_)
  refine lv_aload_n hx hb dL_law_1563 rfl (lv_at hl 4 rfl) ?_
  refine cV_i (As := []) (rest := []) (ws1 := (LW o w v y pl te be cn ch le rE rL rP rF rS rD hs ho hc sl fi th5 ms mst smn msl mhs mtx mle mat mwl mrd mrm mtp mbt mtm mtn mnt mnb mun6 mum7 mau8 ou2)) ⟨hx, hb, hml, hown, hts⟩ (c_X7_thrown l D w y _ th5 ms mst smn msl mhs mtx mle mat mwl mrd mrm mtp mbt mtm mtn mnt mnb mun6 mum7 mau8 ) (cwV 0 hts gL_law_X7_thrown rfl rfl rfl hd_X7_thrown ⟨Nat.le_of_ble_eq_true rfl, Nat.le_of_ble_eq_true rfl⟩) hK hP hD hS hA [12, 13, 14, 15, 16, 17, 18, 19, 20] [0, 1, 2, 3, 4, 5, 6, 7, 8, 9, 10, 11, 21] [0, 1, 2, 3, 4, 5, 6, 7, 8, 9, 10, 11, 13, 14, 15, 16, 17, 18, 19, 20, 21, 12] rfl rfl rfl (by decide) rfl rfl rfl 0 (ci := 5) rfl rfl rfl hl.1 rfl (Nat.le_of_ble_eq_true rfl) dL_law_1564 ⟨bcl, bsl⟩ (fun H locs hP hD hS => ?_)
  refine lv_iload hx hb dL_law_1567 (lv_at hl 1 rfl) ?_
  refine lv_icmp_eq (tgt := 1574) hx hb dL_law_1569 (by decide) (fun c10 => ?_) (fun c10 => ?_)
  · replace h := fT c10 h
    refine lv_iload hx hb dL_law_1574 (lv_at hl 1 rfl) ?_
    refine lv_if_ne (tgt := 1591) hx hb dL_law_1576 (by decide) (fun c11 => ?_) (fun c11 => ?_)
    · replace h := fF c11 h
      refine lv_goto (tgt := 2109) hx hb dL_law_1591 (by decide) ?_
      cases h
      exact kk _ _ _ hP hD hS (lv_sub hl [2, 3, 4, 5, 6] rfl)
    · replace h := fT c11 h
      refine lv_aload_n hx hb dL_law_1579 rfl (lv_at hl 5 rfl) ?_
      refine lv_iconst (v := (0 : Int32)) hx hb dL_law_1580 (by decide) ?_
      refine va_lald hx hb hK hP 21 1 rfl rfl (show ¬ ((0 : Int32) < 0 ∨ 1 ≤ (0 : Int32).toNatClampNeg) from by decide) dL_law_1581 ?_
      refine lv_iload hx hb dL_law_1582 (lv_at hl 0 rfl) ?_
      refine lv_i2l (v := r4.toInt64) hx hb dL_law_1584 rfl ?_
      refine lx_eq (tgt := 1591) hx hb dL_law_1585 dL_law_1586 (by decide) (fun c12 => ?_) (fun c12 => ?_)
      · replace h := fT c12 h
        refine lv_goto (tgt := 2109) hx hb dL_law_1591 (by decide) ?_
        cases h
        exact kk _ _ _ hP hD hS (lv_sub hl [2, 3, 4, 5, 6] rfl)
      · replace h := fF c12 h
        refine lv_iconst (v := (0 : Int32)) hx hb dL_law_1589 (by decide) ?_
        exact fN h
  · replace h := fF c10 h
    refine lv_iconst (v := (0 : Int32)) hx hb dL_law_1572 (by decide) ?_
    exact fN h
set_option maxHeartbeats 0 in
set_option maxRecDepth 100000 in
theorem cs_23 {p : Program} {l : Launch} {e : Env} {s : State} {m : MethodId} {args : Array Value} {below : List Frame} {meth : Method} {c : Code} {Q : State → Prop} {D : va_G} {o w : Nat → Nat} {v : Nat} {y : Nat → ClassId} {A : Nat → Prop} {b L : Nat} {xs : Nat → Int32} {x4 a1 a2 a3 : Int32} (hfl : l.stackTraces = false) (hx : p.tables.exec = Jvm.exec) (hb : c.code = code) (hml : c.maxLocals = 7) (hown : s.vm.findClass RL = some m.cls) (hts : ∀ w ∈ wsL_law, w.before args s = true) (hA : ∀ q, s.heap.size ≤ q → A q) (hK : va_K D vwCl (TY y) s) (hEX : EXC A s s.heap) (hX : va_X b L xs s s.heap) (hbl : b < s.heap.size) (hbA : ¬ A b) (hi1 : vp_in (x4 + (1 : Int32)) L) (hi2 : vp_in (x4 + (2 : Int32)) L) (hi3 : vp_in (x4 + (3 : Int32)) L) (ha1 : xs (x4 + (1 : Int32)).toNatClampNeg = a1) (ha2 : xs (x4 + (2 : Int32)).toNatClampNeg = a2) (ha3 : xs (x4 + (3 : Int32)).toNatClampNeg = a3) (pl : Nat → Int64) (te : Nat → Int32) (be : Nat → Int64) (cn : Int32) (ch : Nat → Int32) (le : Int32) (rE : Int32) (rL : Int32) (rP : Int32) (rF : Int32) (rS : Int32) (rD : Int32) (hs : Nat → Int64) (ho : Int32) (hc : Int32) (sl : Nat → Int64) (fi : Nat → Int32) (th : Int32) (ms : Nat → Int32) (mst : Nat → Int32) (smn : Int32) (msl : Nat → Int32) (mhs : Nat → Int32) (mtx : Nat → Int32) (mle : Int32) (mat : Int32) (mwl : Int32) (mrd : Nat → Int32) (mrm : Int32) (mtp : Int64) (mbt : Int64) (mtm : Nat → Int32) (mtn : Int32) (mnt : Int32) (mnb : Int32) (mun : Nat → Int32) (mum : Int32) (mau : Int32) (ou : Nat → Int64) (te' : Nat → Int32) (be' : Nat → Int64) (cn' : Int32) (th' : Int32) (mtm' : Nat → Int32) (mtn' : Int32) (ou' : Nat → Int64) (h : G_23 pl te be cn th ms mtm mtn ou a1 a2 a3 = some (te', be', cn', th', mtm', mtn', ou')) {H : Heap} {locs : List Loc} {ls : Array Slot} {cells slots : Nat} (hP : va_P D vwCl (LW o w v y pl te be cn ch le rE rL rP rF rS rD hs ho hc sl fi th ms mst smn msl mhs mtx mle mat mwl mrd mrm mtp mbt mtm mtn mnt mnb mun mum mau ou) H) (hD : va_D A (LW o w v y pl te be cn ch le rE rL rP rF rS rD hs ho hc sl fi th ms mst smn msl mhs mtx mle mat mwl mrd mrm mtp mbt mtm mtn mnt mnb mun mum mau ou)) (hS : va_S A s.heap H locs) (hl : lv_has ls 7 [(0, .ref b), (1, .ref (o 0)), (2, .ref (w 0)), (3, .ref v), (4, .int x4)]) (bcl : cells + 1 ≤ 1063) (bsl : slots + 6 ≤ 8907)
    (kk : ∀ (H : Heap) (locs : List Loc) (ls : Array Slot), va_P D vwCl (LW o w v y pl te' be' cn' ch le rE rL rP rF rS rD hs ho hc sl fi th' ms mst smn msl mhs mtx mle mat mwl mrd mrm mtp mbt mtm' mtn' mnt mnb mun mum mau ou') H → va_D A (LW o w v y pl te' be' cn' ch le rE rL rP rF rS rD hs ho hc sl fi th' ms mst smn msl mhs mtx mle mat mwl mrd mrm mtp mbt mtm' mtn' mnt mnb mun mum mau ou') → va_S A s.heap H locs → lv_has ls 7 [(0, .ref b), (1, .ref (o 0)), (2, .ref (w 0)), (3, .ref v), (4, .int x4)] → W p l e room_1 s m args below meth c H locs (cells + 1) (slots + 6) Q (F0 m 2109 ls [])) : W p l e room_1 s m args below meth c H locs cells slots Q (F0 m 1594 ls []) := by
  unfold G_23 at h
  refine lv_aload_n hx hb dL_law_1594 rfl (lv_at hl 1 rfl) ?_
  refine lv_aload_n hx hb dL_law_1595 rfl (lv_at hl 0 rfl) ?_
  refine lv_iload hx hb dL_law_1596 (lv_at hl 4 rfl) ?_
  refine lv_iconst (v := (1 : Int32)) hx hb dL_law_1598 (by decide) ?_
  refine lv_iadd hx hb dL_law_1599 ?_
  refine va_sld hx hb hX hbl hbA hS hi1 dL_law_1600 ?_
  refine eqi ha1 ?_
  refine lv_aload_n hx hb dL_law_1601 rfl (lv_at hl 3 rfl) ?_
  obtain ⟨r1, te2, be3, cn4, ou5, g6, h⟩ := fB5 h
  refine cW_i (As := [.ref (o 0), .int a1, .ref v]) (rest := []) (ws1 := (LW o w v y pl te2 be3 cn4 ch le rE rL rP rF rS rD hs ho hc sl fi th ms mst smn msl mhs mtx mle mat mwl mrd mrm mtp mbt mtm mtn mnt mnb mun mum mau ou5)) ⟨hx, hb, hml, hown, hts⟩ (c_L_waySteps l hfl D o v y _ pl te be cn ch le rE rL rP rF rS rD hs ho hc sl fi ou a1 r1 te2 be3 cn4 ou5 g6) (vx_cwSW 3 hts gL_law_L_waySteps rfl rfl rfl hd_L_waySteps ⟨Nat.le_of_ble_eq_true rfl, Nat.le_of_ble_eq_true rfl⟩) hK hP hD hS hA hEX [0, 1, 2, 3, 4, 5, 6, 7, 8, 9, 10, 11, 21] [12, 13, 14, 15, 16, 17, 18, 19, 20] [9, 10, 11, 12, 13, 14, 15, 16, 17, 18, 19, 20, 0, 1, 2, 3, 4, 5, 6, 7, 8, 21] rfl rfl rfl (by decide) rfl rfl rfl rfl hl.1 rfl (Nat.le_of_ble_eq_true rfl) dL_law_1602 ⟨bcl, bsl⟩ (fun H locs hP hD hS => ?_)
  refine lv_istore (lv' := [(5, .int r1), (0, .ref b), (1, .ref (o 0)), (2, .ref (w 0)), (3, .ref v), (4, .int x4)]) hx hb dL_law_1605 hl (by decide) rfl (fun ls hl => ?_)
  refine lv_aload_n hx hb dL_law_1607 rfl (lv_at hl 3 rfl) ?_
  refine lv_aload_n hx hb dL_law_1608 rfl (lv_at hl 1 rfl) ?_
  refine lv_iload hx hb dL_law_1609 (lv_at hl 5 rfl) ?_
  refine lv_iconst (v := (1 : Int32)) hx hb dL_law_1611 (by decide) ?_
  refine lv_iadd hx hb dL_law_1612 ?_
  refine va_sld hx hb hX hbl hbA hS hi1 dL_law_1613 ?_
  refine eqi ha1 ?_
  obtain ⟨r7, th8, mtm9, mtn10, g11, h⟩ := fB4 h
  refine cV_i (As := [.int a1]) (rest := []) (ws1 := (LW o w v y pl te2 be3 cn4 ch le rE rL rP rF rS rD hs ho hc sl fi th8 ms mst smn msl mhs mtx mle mat mwl mrd mrm mtp mbt mtm9 mtn10 mnt mnb mun mum mau ou5)) ⟨hx, hb, hml, hown, hts⟩ (c_X7_waySteps l D w y _ th ms mst smn msl mhs mtx mle mat mwl mrd mrm mtp mbt mtm mtn mnt mnb mun mum mau a1 r7 th8 mtm9 mtn10 g11) (cwV 1 hts gL_law_X7_waySteps rfl rfl rfl hd_X7_waySteps ⟨Nat.le_of_ble_eq_true rfl, Nat.le_of_ble_eq_true rfl⟩) hK hP hD hS hA [12, 13, 14, 15, 16, 17, 18, 19, 20] [0, 1, 2, 3, 4, 5, 6, 7, 8, 9, 10, 11, 21] [0, 1, 2, 3, 4, 5, 6, 7, 8, 9, 10, 11, 13, 14, 15, 16, 17, 18, 19, 20, 21, 12] rfl rfl rfl (by decide) rfl rfl rfl 0 (ci := 5) rfl rfl rfl hl.1 rfl (Nat.le_of_ble_eq_true rfl) dL_law_1614 ⟨bcl, bsl⟩ (fun H locs hP hD hS => ?_)
  refine lv_istore (lv' := [(6, .int r7), (5, .int r1), (0, .ref b), (1, .ref (o 0)), (2, .ref (w 0)), (3, .ref v), (4, .int x4)]) hx hb dL_law_1617 hl (by decide) rfl (fun ls hl => ?_)
  refine lv_aload_n hx hb dL_law_1619 rfl (lv_at hl 4 rfl) ?_
  refine cV_i (As := []) (rest := []) (ws1 := (LW o w v y pl te2 be3 cn4 ch le rE rL rP rF rS rD hs ho hc sl fi th8 ms mst smn msl mhs mtx mle mat mwl mrd mrm mtp mbt mtm9 mtn10 mnt mnb mun mum mau ou5)) ⟨hx, hb, hml, hown, hts⟩ (c_X7_thrown l D w y _ th8 ms mst smn msl mhs mtx mle mat mwl mrd mrm mtp mbt mtm9 mtn10 mnt mnb mun mum mau ) (cwV 0 hts gL_law_X7_thrown rfl rfl rfl hd_X7_thrown ⟨Nat.le_of_ble_eq_true rfl, Nat.le_of_ble_eq_true rfl⟩) hK hP hD hS hA [12, 13, 14, 15, 16, 17, 18, 19, 20] [0, 1, 2, 3, 4, 5, 6, 7, 8, 9, 10, 11, 21] [0, 1, 2, 3, 4, 5, 6, 7, 8, 9, 10, 11, 13, 14, 15, 16, 17, 18, 19, 20, 21, 12] rfl rfl rfl (by decide) rfl rfl rfl 0 (ci := 5) rfl rfl rfl hl.1 rfl (Nat.le_of_ble_eq_true rfl) dL_law_1620 ⟨bcl, bsl⟩ (fun H locs hP hD hS => ?_)
  refine lv_iload hx hb dL_law_1623 (lv_at hl 1 rfl) ?_
  refine lv_icmp_eq (tgt := 1630) hx hb dL_law_1625 (by decide) (fun c12 => ?_) (fun c12 => ?_)
  · replace h := fT c12 h
    refine lv_iload hx hb dL_law_1630 (lv_at hl 1 rfl) ?_
    refine lv_if_ne (tgt := 1647) hx hb dL_law_1632 (by decide) (fun c13 => ?_) (fun c13 => ?_)
    · replace h := fF c13 h
      refine lv_goto (tgt := 2109) hx hb dL_law_1647 (by decide) ?_
      cases h
      exact kk _ _ _ hP hD hS (lv_sub hl [2, 3, 4, 5, 6] rfl)
    · replace h := fT c13 h
      refine lv_aload_n hx hb dL_law_1635 rfl (lv_at hl 5 rfl) ?_
      refine lv_iconst (v := (0 : Int32)) hx hb dL_law_1636 (by decide) ?_
      refine va_lald hx hb hK hP 21 1 rfl rfl (show ¬ ((0 : Int32) < 0 ∨ 1 ≤ (0 : Int32).toNatClampNeg) from by decide) dL_law_1637 ?_
      refine lv_iload hx hb dL_law_1638 (lv_at hl 0 rfl) ?_
      refine lv_i2l (v := r7.toInt64) hx hb dL_law_1640 rfl ?_
      refine lx_eq (tgt := 1647) hx hb dL_law_1641 dL_law_1642 (by decide) (fun c14 => ?_) (fun c14 => ?_)
      · replace h := fT c14 h
        refine lv_goto (tgt := 2109) hx hb dL_law_1647 (by decide) ?_
        cases h
        exact kk _ _ _ hP hD hS (lv_sub hl [2, 3, 4, 5, 6] rfl)
      · replace h := fF c14 h
        refine lv_iconst (v := (0 : Int32)) hx hb dL_law_1645 (by decide) ?_
        exact fN h
  · replace h := fF c12 h
    refine lv_iconst (v := (0 : Int32)) hx hb dL_law_1628 (by decide) ?_
    exact fN h
