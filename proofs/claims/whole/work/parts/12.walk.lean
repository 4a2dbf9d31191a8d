abbrev rm_X6_multiply : Room := { frames := 4, cells := 0, slots := 0, locals := 97 }
theorem hd_X6_multiply : yX6_multiply.cls = RX6 ∧ yX6_multiply.cls ≠ "java/lang/invoke/MethodHandle" ∧ yX6_multiply.cls ≠ "java/lang/invoke/VarHandle" ∧ (parseMethodDescriptor yX6_multiply.desc).map (fun d => d.parameters.length) = some 2 := by decide +kernel
set_option maxHeartbeats 0 in
set_option maxRecDepth 100000 in
theorem c_X6_multiply (l : Launch) (D : va_G) (o : Nat → Nat) (y : Nat → ClassId) (sz : Nat) (pl : Nat → Int64) (te : Nat → Int32) (be : Nat → Int64) (cn : Int32) (ch : Nat → Int32) (le : Int32) (rE : Int32) (rL : Int32) (rP : Int32) (rF : Int32) (rS : Int32) (rD : Int32) (hs : Nat → Int64) (ho : Int32) (hc : Int32) (sl : Nat → Int64) (fi : Nat → Int32) (a1 : Int32) (a2 : Int32) (r : Int32) (pl' : Nat → Int64) (hs' : Nat → Int64) (ho' : Int32) (hc' : Int32) (h : F_X6_multiply pl hs ho hc a1 a2 = some (0, r, pl', hs', ho', hc')) : Met l yX6_multiply wsX6_multiply rm_X6_multiply (va_Pc [.ref (o 0), .int a1, .int a2] (px D y sz (XW o y pl te be cn ch le rE rL rP rF rS rD hs ho hc sl fi))) (Qri D y sz (XW o y pl te be cn ch le rE rL rP rF rS rD hs ho hc sl fi) (XW o y pl' te be cn ch le rE rL rP rF rS rD hs' ho' hc' sl fi) r) 0 0 (va_A (XW o y pl te be cn ch le rE rL rP rF rS rD hs ho hc sl fi) sz) := by
  refine hd_i (cc := cX6_multiply) (maxL := 3) rfl rfl (Nat.le_of_ble_eq_true rfl) ?_
  intro p e s m args below meth c A Q H locs ls hx hb hml hts hown _ hA hP hD hK hS hl hE
  have hl : lv_has ls 3 [(0, .ref (o 0)), (1, .int a1), (2, .int a2)] := hl
  have q0 := hts (.fieldLink RX6 9 "SliceShares" "plates" "[J") (by decide +kernel)
  have hinRX6 : ∀ w ∈ wsX60, w ∈ wsX6_multiply := by decide +kernel
  unfold F_X6_multiply at h
  refine lv_iload_n hx hb dX6_multiply_0 rfl (lv_at hl 1 rfl) ?_
  obtain ⟨k1, g2, h⟩ := fB1 h
  by_cases e3 : ¬ k1 = 0
  · replace h := fF e3 h
    exact fX e3 h
  replace e3 := Classical.not_not.mp e3
  subst e3
  replace h := fT rfl h
  refine cT_v (As := [.int a1]) (rest := []) ⟨hx, hb, hml, hown, hts⟩ (c_X6_requirePlate l D y _ a1 g2) (va_cwS 1 hts gX6_multiply_X6_requirePlate rfl rfl rfl hd_X6_requirePlate ⟨Nat.le_of_ble_eq_true rfl, Nat.le_of_ble_eq_true rfl⟩) hK hP hD hS hA rfl hl.1 rfl (Nat.le_of_ble_eq_true rfl) dX6_multiply_1 ⟨Nat.le_of_ble_eq_true rfl, Nat.le_of_ble_eq_true rfl⟩ (fun H locs hP hD hS => ?_)
  refine lv_iload_n hx hb dX6_multiply_4 rfl (lv_at hl 2 rfl) ?_
  obtain ⟨k4, g5, h⟩ := fB1 h
  by_cases e6 : ¬ k4 = 0
  · replace h := fF e6 h
    exact fX e6 h
  replace e6 := Classical.not_not.mp e6
  subst e6
  replace h := fT rfl h
  refine cT_v (As := [.int a2]) (rest := []) ⟨hx, hb, hml, hown, hts⟩ (c_X6_requirePlate l D y _ a2 g5) (va_cwS 1 hts gX6_multiply_X6_requirePlate rfl rfl rfl hd_X6_requirePlate ⟨Nat.le_of_ble_eq_true rfl, Nat.le_of_ble_eq_true rfl⟩) hK hP hD hS hA rfl hl.1 rfl (Nat.le_of_ble_eq_true rfl) dX6_multiply_5 ⟨Nat.le_of_ble_eq_true rfl, Nat.le_of_ble_eq_true rfl⟩ (fun H locs hP hD hS => ?_)
  refine lv_aload_n hx hb dX6_multiply_8 rfl (lv_at hl 0 rfl) ?_
  refine lv_iload_n hx hb dX6_multiply_9 rfl (lv_at hl 1 rfl) ?_
  refine lv_aload_n hx hb dX6_multiply_10 rfl (lv_at hl 0 rfl) ?_
  refine va_get (D := D) (ci := 4) (C := RX6) (T := TX6) (N := 7) hx hb hts hinRX6 hown hK hP 0 rfl rfl 0 (by decide) q0 (fun _ h9 => h9) rfl dX6_multiply_11 ?_
  refine lv_iload_n hx hb dX6_multiply_14 rfl (lv_at hl 1 rfl) ?_
  obtain ⟨g7, h⟩ := fG h
  refine va_lald hx hb hK hP 1 1 rfl rfl g7 dX6_multiply_15 ?_
  refine lv_aload_n hx hb dX6_multiply_16 rfl (lv_at hl 0 rfl) ?_
  refine va_get (D := D) (ci := 4) (C := RX6) (T := TX6) (N := 7) hx hb hts hinRX6 hown hK hP 0 rfl rfl 0 (by decide) q0 (fun _ h9 => h9) rfl dX6_multiply_17 ?_
  refine lv_iload_n hx hb dX6_multiply_20 rfl (lv_at hl 2 rfl) ?_
  obtain ⟨g8, h⟩ := fG h
  refine va_lald hx hb hK hP 1 1 rfl rfl g8 dX6_multiply_21 ?_
  obtain ⟨r9, g10, h⟩ := fB1 h
  refine cT_l (As := [.long (pl a1.toNatClampNeg), .long (pl a2.toNatClampNeg)]) (rest := [.int a1, .ref (o 0)]) ⟨hx, hb, hml, hown, hts⟩ (c_X3_product l D y _ (pl a1.toNatClampNeg) (pl a2.toNatClampNeg) r9 g10) (va_cwS 2 hts gX6_multiply_X3_product rfl rfl rfl hd_X3_product ⟨Nat.le_of_ble_eq_true rfl, Nat.le_of_ble_eq_true rfl⟩) hK hP hD hS hA rfl hl.1 rfl (Nat.le_of_ble_eq_true rfl) dX6_multiply_22 ⟨Nat.le_of_ble_eq_true rfl, Nat.le_of_ble_eq_true rfl⟩ (fun H locs hP hD hS => ?_)
  obtain ⟨k11, r12, pl13, hs14, ho15, hc16, g17, h⟩ := fB6 h
  by_cases e18 : ¬ k11 = 0
  · replace h := fF e18 h
    exact fX e18 h
  replace e18 := Classical.not_not.mp e18
  subst e18
  replace h := fT rfl h
  refine cV_i (As := [.int a1, .long r9]) (rest := []) (ws1 := (XW o y pl13 te be cn ch le rE rL rP rF rS rD hs14 ho15 hc16 sl fi)) ⟨hx, hb, hml, hown, hts⟩ (c_X6_changeIfPossible l D o y _ pl te be cn ch le rE rL rP rF rS rD hs ho hc sl fi a1 r9 r12 pl13 hs14 ho15 hc16 g17) (cwV 2 hts gX6_multiply_X6_changeIfPossible rfl rfl rfl hd_X6_changeIfPossible ⟨Nat.le_of_ble_eq_true rfl, Nat.le_of_ble_eq_true rfl⟩) hK hP hD hS hA [0, 1, 2, 3, 4, 5, 6, 7, 8, 9, 10, 11] [] [0, 1, 2, 3, 4, 5, 6, 7, 8, 9, 10, 11] rfl rfl rfl (by decide) rfl rfl rfl 0 (ci := 4) rfl rfl rfl hl.1 rfl (Nat.le_of_ble_eq_true rfl) dX6_multiply_25 ⟨Nat.le_of_ble_eq_true rfl, Nat.le_of_ble_eq_true rfl⟩ (fun H locs hP hD hS => ?_)
  cases h
  exact hE _ _ _ _ dX6_multiply_28 hP hD hS
abbrev xrm_X6_multiply : Room := { frames := 7, cells := 1, slots := 6, locals := 105 }
set_option maxHeartbeats 0 in
set_option maxRecDepth 100000 in
theorem x_X6_multiply (l : Launch) (hfl : l.stackTraces = false) (D : va_G) (o : Nat → Nat) (y : Nat → ClassId) (sz : Nat) (pl : Nat → Int64) (te : Nat → Int32) (be : Nat → Int64) (cn : Int32) (ch : Nat → Int32) (le : Int32) (rE : Int32) (rL : Int32) (rP : Int32) (rF : Int32) (rS : Int32) (rD : Int32) (hs : Nat → Int64) (ho : Int32) (hc : Int32) (sl : Nat → Int64) (fi : Nat → Int32) (a1 : Int32) (a2 : Int32) (k : Nat) (r : Int32) (pl' : Nat → Int64) (hs' : Nat → Int64) (ho' : Int32) (hc' : Int32) (hkx : ¬ k = 0) (h : F_X6_multiply pl hs ho hc a1 a2 = some (k, r, pl', hs', ho', hc')) : vx_Met l yX6_multiply wsX6_multiply xrm_X6_multiply (va_Pc [.ref (o 0), .int a1, .int a2] (pxe D y sz (XW o y pl te be cn ch le rE rL rP rF rS rD hs ho hc sl fi))) (QNo (XW o y pl te be cn ch le rE rL rP rF rS rD hs ho hc sl fi) sz) (QX D y sz (XW o y pl te be cn ch le rE rL rP rF rS rD hs ho hc sl fi) (XW o y pl' te be cn ch le rE rL rP rF rS rD hs' ho' hc' sl fi) k) 1 6 (va_A (XW o y pl te be cn ch le rE rL rP rF rS rD hs ho hc sl fi) sz) := by
  refine hd_x (cc := cX6_multiply) (maxL := 3) rfl rfl (Nat.le_of_ble_eq_true rfl) ?_
  intro p e s m args below meth c A Q H locs ls hx hb hml hts hown hA hP hD hK hS hl hEX hlocks hout hQ hAe
  have hl : lv_has ls 3 [(0, .ref (o 0)), (1, .int a1), (2, .int a2)] := hl
  have q0 := hts (.fieldLink RX6 9 "SliceShares" "plates" "[J") (by decide +kernel)
  have hinRX6 : ∀ w ∈ wsX60, w ∈ wsX6_multiply := by decide +kernel
  unfold F_X6_multiply at h
  refine lv_iload_n hx hb dX6_multiply_0 rfl (lv_at hl 1 rfl) ?_
  obtain ⟨k1, g2, h⟩ := fB1 h
  by_cases e3 : ¬ k1 = 0
  · replace h := fF e3 h
    refine xc_S (As := [.int a1]) (rest := []) (ws1 := (XW o y pl te be cn ch le rE rL rP rF rS rD hs ho hc sl fi)) ⟨hx, hb, hml, hown, hts⟩ (x_X6_requirePlate l hfl D y _ a1 k1 e3 g2) (va_cwS 1 hts gX6_multiply_X6_requirePlate rfl rfl rfl hd_X6_requirePlate ⟨Nat.le_of_ble_eq_true rfl, Nat.le_of_ble_eq_true rfl⟩) hK hP hD hS hA hEX [] [0, 1, 2, 3, 4, 5, 6, 7, 8, 9, 10, 11] [0, 1, 2, 3, 4, 5, 6, 7, 8, 9, 10, 11] rfl rfl rfl (by decide) rfl rfl rfl rfl hl.1 rfl (Nat.le_of_ble_eq_true rfl) dX6_multiply_1 ⟨Nat.le_of_ble_eq_true rfl, Nat.le_of_ble_eq_true rfl⟩ (fun H locs ce q hP hD hS hce hv hcl => ?_)
    cases h
    exact outX hQ hAe hout hlocks hK hP hD hS hce hv hcl rfl (by decide) (by decide)
  replace e3 := Classical.not_not.mp e3
  subst e3
  replace h := fT rfl h
  refine cT_v (As := [.int a1]) (rest := []) ⟨hx, hb, hml, hown, hts⟩ (c_X6_requirePlate l D y _ a1 g2) (va_cwS 1 hts gX6_multiply_X6_requirePlate rfl rfl rfl hd_X6_requirePlate ⟨Nat.le_of_ble_eq_true rfl, Nat.le_of_ble_eq_true rfl⟩) hK hP hD hS hA rfl hl.1 rfl (Nat.le_of_ble_eq_true rfl) dX6_multiply_1 ⟨Nat.le_of_ble_eq_true rfl, Nat.le_of_ble_eq_true rfl⟩ (fun H locs hP hD hS => ?_)
  refine lv_iload_n hx hb dX6_multiply_4 rfl (lv_at hl 2 rfl) ?_
  obtain ⟨k4, g5, h⟩ := fB1 h
  by_cases e6 : ¬ k4 = 0
  · replace h := fF e6 h
    refine xc_S (As := [.int a2]) (rest := []) (ws1 := (XW o y pl te be cn ch le rE rL rP rF rS rD hs ho hc sl fi)) ⟨hx, hb, hml, hown, hts⟩ (x_X6_requirePlate l hfl D y _ a2 k4 e6 g5) (va_cwS 1 hts gX6_multiply_X6_requirePlate rfl rfl rfl hd_X6_requirePlate ⟨Nat.le_of_ble_eq_true rfl, Nat.le_of_ble_eq_true rfl⟩) hK hP hD hS hA hEX [] [0, 1, 2, 3, 4, 5, 6, 7, 8, 9, 10, 11] [0, 1, 2, 3, 4, 5, 6, 7, 8, 9, 10, 11] rfl rfl rfl (by decide) rfl rfl rfl rfl hl.1 rfl (Nat.le_of_ble_eq_true rfl) dX6_multiply_5 ⟨Nat.le_of_ble_eq_true rfl, Nat.le_of_ble_eq_true rfl⟩ (fun H locs ce q hP hD hS hce hv hcl => ?_)
    cases h
    exact outX hQ hAe hout hlocks hK hP hD hS hce hv hcl rfl (by decide) (by decide)
  replace e6 := Classical.not_not.mp e6
  subst e6
  replace h := fT rfl h
  refine cT_v (As := [.int a2]) (rest := []) ⟨hx, hb, hml, hown, hts⟩ (c_X6_requirePlate l D y _ a2 g5) (va_cwS 1 hts gX6_multiply_X6_requirePlate rfl rfl rfl hd_X6_requirePlate ⟨Nat.le_of_ble_eq_true rfl, Nat.le_of_ble_eq_true rfl⟩) hK hP hD hS hA rfl hl.1 rfl (Nat.le_of_ble_eq_true rfl) dX6_multiply_5 ⟨Nat.le_of_ble_eq_true rfl, Nat.le_of_ble_eq_true rfl⟩ (fun H locs hP hD hS => ?_)
  refine lv_aload_n hx hb dX6_multiply_8 rfl (lv_at hl 0 rfl) ?_
  refine lv_iload_n hx hb dX6_multiply_9 rfl (lv_at hl 1 rfl) ?_
  refine lv_aload_n hx hb dX6_multiply_10 rfl (lv_at hl 0 rfl) ?_
  refine va_get (D := D) (ci := 4) (C := RX6) (T := TX6) (N := 7) hx hb hts hinRX6 hown hK hP 0 rfl rfl 0 (by decide) q0 (fun _ h9 => h9) rfl dX6_multiply_11 ?_
  refine lv_iload_n hx hb dX6_multiply_14 rfl (lv_at hl 1 rfl) ?_
  obtain ⟨g7, h⟩ := fG h
  refine va_lald hx hb hK hP 1 1 rfl rfl g7 dX6_multiply_15 ?_
  refine lv_aload_n hx hb dX6_multiply_16 rfl (lv_at hl 0 rfl) ?_
  refine va_get (D := D) (ci := 4) (C := RX6) (T := TX6) (N := 7) hx hb hts hinRX6 hown hK hP 0 rfl rfl 0 (by decide) q0 (fun _ h9 => h9) rfl dX6_multiply_17 ?_
  refine lv_iload_n hx hb dX6_multiply_20 rfl (lv_at hl 2 rfl) ?_
  obtain ⟨g8, h⟩ := fG h
  refine va_lald hx hb hK hP 1 1 rfl rfl g8 dX6_multiply_21 ?_
  obtain ⟨r9, g10, h⟩ := fB1 h
  refine cT_l (As := [.long (pl a1.toNatClampNeg), .long (pl a2.toNatClampNeg)]) (rest := [.int a1, .ref (o 0)]) ⟨hx, hb, hml, hown, hts⟩ (c_X3_product l D y _ (pl a1.toNatClampNeg) (pl a2.toNatClampNeg) r9 g10) (va_cwS 2 hts gX6_multiply_X3_product rfl rfl rfl hd_X3_product ⟨Nat.le_of_ble_eq_true rfl, Nat.le_of_ble_eq_true rfl⟩) hK hP hD hS hA rfl hl.1 rfl (Nat.le_of_ble_eq_true rfl) dX6_multiply_22 ⟨Nat.le_of_ble_eq_true rfl, Nat.le_of_ble_eq_true rfl⟩ (fun H locs hP hD hS => ?_)
  obtain ⟨k11, r12, pl13, hs14, ho15, hc16, g17, h⟩ := fB6 h
  by_cases e18 : ¬ k11 = 0
  · replace h := fF e18 h
    refine xc_V (As := [.int a1, .long r9]) (rest := []) (ws1 := (XW o y pl13 te be cn ch le rE rL rP rF rS rD hs14 ho15 hc16 sl fi)) ⟨hx, hb, hml, hown, hts⟩ (x_X6_changeIfPossible l hfl D o y _ pl te be cn ch le rE rL rP rF rS rD hs ho hc sl fi a1 r9 k11 r12 pl13 hs14 ho15 hc16 e18 g17) (cwV 2 hts gX6_multiply_X6_changeIfPossible rfl rfl rfl hd_X6_changeIfPossible ⟨Nat.le_of_ble_eq_true rfl, Nat.le_of_ble_eq_true rfl⟩) hK hP hD hS hA hEX [0, 1, 2, 3, 4, 5, 6, 7, 8, 9, 10, 11] [] [0, 1, 2, 3, 4, 5, 6, 7, 8, 9, 10, 11] rfl rfl rfl (by decide) rfl rfl rfl 0 (ci := 4) rfl rfl rfl hl.1 rfl (Nat.le_of_ble_eq_true rfl) dX6_multiply_25 ⟨Nat.le_of_ble_eq_true rfl, Nat.le_of_ble_eq_true rfl⟩ (fun H locs ce q hP hD hS hce hv hcl => ?_)
    cases h
    exact outX hQ hAe hout hlocks hK hP hD hS hce hv hcl rfl (by decide) (by decide)
  replace e18 := Classical.not_not.mp e18
  subst e18
  replace h := fT rfl h
  refine cV_i (As := [.int a1, .long r9]) (rest := []) (ws1 := (XW o y pl13 te be cn ch le rE rL rP rF rS rD hs14 ho15 hc16 sl fi)) ⟨hx, hb, hml, hown, hts⟩ (c_X6_changeIfPossible l D o y _ pl te be cn ch le rE rL rP rF rS rD hs ho hc sl fi a1 r9 r12 pl13 hs14 ho15 hc16 g17) (cwV 2 hts gX6_multiply_X6_changeIfPossible rfl rfl rfl hd_X6_changeIfPossible ⟨Nat.le_of_ble_eq_true rfl, Nat.le_of_ble_eq_true rfl⟩) hK hP hD hS hA [0, 1, 2, 3, 4, 5, 6, 7, 8, 9, 10, 11] [] [0, 1, 2, 3, 4, 5, 6, 7, 8, 9, 10, 11] rfl rfl rfl (by decide) rfl rfl rfl 0 (ci := 4) rfl rfl rfl hl.1 rfl (Nat.le_of_ble_eq_true rfl) dX6_multiply_25 ⟨Nat.le_of_ble_eq_true rfl, Nat.le_of_ble_eq_true rfl⟩ (fun H locs hP hD hS => ?_)
  exact fY hkx h
abbrev rm_X6_copyTo : Room := { frames := 3, cells := 0, slots := 0, locals := 65 }
theorem hd_X6_copyTo : yX6_copyTo.cls = RX6 ∧ yX6_copyTo.cls ≠ "java/lang/invoke/MethodHandle" ∧ yX6_copyTo.cls ≠ "java/lang/invoke/VarHandle" ∧ (parseMethodDescriptor yX6_copyTo.desc).map (fun d => d.parameters.length) = some 2 := by decide +kernel
set_option maxHeartbeats 0 in
set_option maxRecDepth 100000 in
theorem c_X6_copyTo (l : Launch) (D : va_G) (o : Nat → Nat) (y : Nat → ClassId) (sz : Nat) (pl : Nat → Int64) (te : Nat → Int32) (be : Nat → Int64) (cn : Int32) (ch : Nat → Int32) (le : Int32) (rE : Int32) (rL : Int32) (rP : Int32) (rF : Int32) (rS : Int32) (rD : Int32) (hs : Nat → Int64) (ho : Int32) (hc : Int32) (sl : Nat → Int64) (fi : Nat → Int32) (a1 : Int32) (a2 : Int32) (r : Int32) (pl' : Nat → Int64) (hs' : Nat → Int64) (ho' : Int32) (hc' : Int32) (h : F_X6_copyTo pl hs ho hc a1 a2 = some (0, r, pl', hs', ho', hc')) : Met l yX6_copyTo wsX6_copyTo rm_X6_copyTo (va_Pc [.ref (o 0), .int a1, .int a2] (px D y sz (XW o y pl te be cn ch le rE rL rP rF rS rD hs ho hc sl fi))) (Qri D y sz (XW o y pl te be cn ch le rE rL rP rF rS rD hs ho hc sl fi) (XW o y pl' te be cn ch le rE rL rP rF rS rD hs' ho' hc' sl fi) r) 0 0 (va_A (XW o y pl te be cn ch le rE rL rP rF rS rD hs ho hc sl fi) sz) := by
  refine hd_z (cc := cX6_copyTo) (maxL := 4) (rt := .boolean) rfl rfl (Nat.le_of_ble_eq_true rfl) ?_
  intro p e s m args below meth c A Q H locs ls hx hb hml hts hown _ hA hP hD hK hS hl hE
  have hl : lv_has ls 4 [(0, .ref (o 0)), (1, .int a1), (2, .int a2)] := hl
  have q0 := hts (.fieldLink RX6 9 "SliceShares" "plates" "[J") (by decide +kernel)
  have hinRX6 : ∀ w ∈ wsX60, w ∈ wsX6_copyTo := by decide +kernel
  unfold F_X6_copyTo at h
  refine lv_iload_n hx hb dX6_copyTo_0 rfl (lv_at hl 1 rfl) ?_
  obtain ⟨k1, g2, h⟩ := fB1 h
  by_cases e3 : ¬ k1 = 0
  · replace h := fF e3 h
    exact fX e3 h
  replace e3 := Classical.not_not.mp e3
  subst e3
  replace h := fT rfl h
  refine cT_v (As := [.int a1]) (rest := []) ⟨hx, hb, hml, hown, hts⟩ (c_X6_requirePlate l D y _ a1 g2) (va_cwS 1 hts gX6_copyTo_X6_requirePlate rfl rfl rfl hd_X6_requirePlate ⟨Nat.le_of_ble_eq_true rfl, Nat.le_of_ble_eq_true rfl⟩) hK hP hD hS hA rfl hl.1 rfl (Nat.le_of_ble_eq_true rfl) dX6_copyTo_1 ⟨Nat.le_of_ble_eq_true rfl, Nat.le_of_ble_eq_true rfl⟩ (fun H locs hP hD hS => ?_)
  refine lv_iload_n hx hb dX6_copyTo_4 rfl (lv_at hl 2 rfl) ?_
  obtain ⟨k4, g5, h⟩ := fB1 h
  by_cases e6 : ¬ k4 = 0
  · replace h := fF e6 h
    exact fX e6 h
  replace e6 := Classical.not_not.mp e6
  subst e6
  replace h := fT rfl h
  refine cT_v (As := [.int a2]) (rest := []) ⟨hx, hb, hml, hown, hts⟩ (c_X6_requirePlate l D y _ a2 g5) (va_cwS 1 hts gX6_copyTo_X6_requirePlate rfl rfl rfl hd_X6_requirePlate ⟨Nat.le_of_ble_eq_true rfl, Nat.le_of_ble_eq_true rfl⟩) hK hP hD hS hA rfl hl.1 rfl (Nat.le_of_ble_eq_true rfl) dX6_copyTo_5 ⟨Nat.le_of_ble_eq_true rfl, Nat.le_of_ble_eq_true rfl⟩ (fun H locs hP hD hS => ?_)
  refine lv_aload_n hx hb dX6_copyTo_8 rfl (lv_at hl 0 rfl) ?_
  refine va_get (D := D) (ci := 4) (C := RX6) (T := TX6) (N := 7) hx hb hts hinRX6 hown hK hP 0 rfl rfl 0 (by decide) q0 (fun _ h9 => h9) rfl dX6_copyTo_9 ?_
  refine lv_iload_n hx hb dX6_copyTo_12 rfl (lv_at hl 2 rfl) ?_
  obtain ⟨g7, h⟩ := fG h
  refine va_lald hx hb hK hP 1 1 rfl rfl g7 dX6_copyTo_13 ?_
  refine lv_aload_n hx hb dX6_copyTo_14 rfl (lv_at hl 0 rfl) ?_
  refine va_get (D := D) (ci := 4) (C := RX6) (T := TX6) (N := 7) hx hb hts hinRX6 hown hK hP 0 rfl rfl 0 (by decide) q0 (fun _ h9 => h9) rfl dX6_copyTo_15 ?_
  refine lv_iload_n hx hb dX6_copyTo_18 rfl (lv_at hl 1 rfl) ?_
  obtain ⟨g8, h⟩ := fG h
  refine va_lald hx hb hK hP 1 1 rfl rfl g8 dX6_copyTo_19 ?_
  have J9 : ∀ (v10 : Int32) (ls : Array Slot), v10 = (if (pl a2.toNatClampNeg) = (pl a1.toNatClampNeg) then (1 : Int32) else (0 : Int32)) → lv_has ls 4 [(0, .ref (o 0)), (1, .int a1), (2, .int a2)] → W p l e rm_X6_copyTo s m args below meth c H locs 0 0 Q (F0 m 29 ls [.int v10]) := by
    intro v10 ls ev10 hl
    subst ev10
    refine lv_istore_n (lv' := [(3, .int (if (pl a2.toNatClampNeg) = (pl a1.toNatClampNeg) then (1 : Int32) else (0 : Int32))), (0, .ref (o 0)), (1, .int a1), (2, .int a2)]) hx hb dX6_copyTo_29 rfl hl (by decide) rfl (fun ls hl => ?_)
    refine lv_aload_n hx hb dX6_copyTo_30 rfl (lv_at hl 1 rfl) ?_
    refine lv_iload_n hx hb dX6_copyTo_31 rfl (lv_at hl 3 rfl) ?_
    refine lv_aload_n hx hb dX6_copyTo_32 rfl (lv_at hl 1 rfl) ?_
    refine va_get (D := D) (ci := 4) (C := RX6) (T := TX6) (N := 7) hx hb hts hinRX6 hown hK hP 0 rfl rfl 0 (by decide) q0 (fun _ h9 => h9) rfl dX6_copyTo_33 ?_
    refine lv_iload_n hx hb dX6_copyTo_36 rfl (lv_at hl 2 rfl) ?_
    refine va_lald hx hb hK hP 1 1 rfl rfl g8 dX6_copyTo_37 ?_
    obtain ⟨r11, pl12, hs13, ho14, hc15, g16, h⟩ := fB5 h
    refine cV_i (As := [.int a2, .long (pl a1.toNatClampNeg)]) (rest := []) (ws1 := (XW o y pl12 te be cn ch le rE rL rP rF rS rD hs13 ho14 hc15 sl fi)) ⟨hx, hb, hml, hown, hts⟩ (c_X6_change l D o y _ pl te be cn ch le rE rL rP rF rS rD hs ho hc sl fi a2 (pl a1.toNatClampNeg) r11 pl12 hs13 ho14 hc15 g16) (cwV 2 hts gX6_copyTo_X6_change rfl rfl rfl hd_X6_change ⟨Nat.le_of_ble_eq_true rfl, Nat.le_of_ble_eq_true rfl⟩) hK hP hD hS hA [0, 1, 2, 3, 4, 5, 6, 7, 8, 9, 10, 11] [] [0, 1, 2, 3, 4, 5, 6, 7, 8, 9, 10, 11] rfl rfl rfl (by decide) rfl rfl rfl 0 (ci := 4) rfl rfl rfl hl.1 rfl (Nat.le_of_ble_eq_true rfl) dX6_copyTo_38 ⟨Nat.le_of_ble_eq_true rfl, Nat.le_of_ble_eq_true rfl⟩ (fun H locs hP hD hS => ?_)
    refine lv_pop hx hb dX6_copyTo_41 rfl ?_
    refine lv_iload_n hx hb dX6_copyTo_42 rfl (lv_at hl 0 rfl) ?_
    cases h
    exact hE _ _ _ _ dX6_copyTo_43 hP hD hS (nz01 (z01 (Or.inr rfl) (Or.inl rfl)))
  refine lx_ne (tgt := 28) hx hb dX6_copyTo_20 dX6_copyTo_21 (by decide) (fun c17 => ?_) (fun c17 => ?_)
  · refine lv_iconst (v := (0 : Int32)) hx hb dX6_copyTo_28 (by decide) ?_
    exact J9 _ _ (by rw [if_neg c17]) (lv_sub hl [0, 1, 2] rfl)
  · refine lv_iconst (v := (1 : Int32)) hx hb dX6_copyTo_24 (by decide) ?_
    refine lv_goto (tgt := 29) hx hb dX6_copyTo_25 (by decide) ?_
    exact J9 _ _ (by rw [if_pos c17]) (lv_sub hl [0, 1, 2] rfl)
abbrev xrm_X6_copyTo : Room := { frames := 7, cells := 1, slots := 6, locals := 102 }
set_option maxHeartbeats 0 in
set_option maxRecDepth 100000 in
theorem x_X6_copyTo (l : Launch) (hfl : l.stackTraces = false) (D : va_G) (o : Nat → Nat) (y : Nat → ClassId) (sz : Nat) (pl : Nat → Int64) (te : Nat → Int32) (be : Nat → Int64) (cn : Int32) (ch : Nat → Int32) (le : Int32) (rE : Int32) (rL : Int32) (rP : Int32) (rF : Int32) (rS : Int32) (rD : Int32) (hs : Nat → Int64) (ho : Int32) (hc : Int32) (sl : Nat → Int64) (fi : Nat → Int32) (a1 : Int32) (a2 : Int32) (k : Nat) (r : Int32) (pl' : Nat → Int64) (hs' : Nat → Int64) (ho' : Int32) (hc' : Int32) (hkx : ¬ k = 0) (h : F_X6_copyTo pl hs ho hc a1 a2 = some (k, r, pl', hs', ho', hc')) : vx_Met l yX6_copyTo wsX6_copyTo xrm_X6_copyTo (va_Pc [.ref (o 0), .int a1, .int a2] (pxe D y sz (XW o y pl te be cn ch le rE rL rP rF rS rD hs ho hc sl fi))) (QNo (XW o y pl te be cn ch le rE rL rP rF rS rD hs ho hc sl fi) sz) (QX D y sz (XW o y pl te be cn ch le rE rL rP rF rS rD hs ho hc sl fi) (XW o y pl' te be cn ch le rE rL rP rF rS rD hs' ho' hc' sl fi) k) 1 6 (va_A (XW o y pl te be cn ch le rE rL rP rF rS rD hs ho hc sl fi) sz) := by
  refine hd_x (cc := cX6_copyTo) (maxL := 4) rfl rfl (Nat.le_of_ble_eq_true rfl) ?_
  intro p e s m args below meth c A Q H locs ls hx hb hml hts hown hA hP hD hK hS hl hEX hlocks hout hQ hAe
  have hl : lv_has ls 4 [(0, .ref (o 0)), (1, .int a1), (2, .int a2)] := hl
  have q0 := hts (.fieldLink RX6 9 "SliceShares" "plates" "[J") (by decide +kernel)
  have hinRX6 : ∀ w ∈ wsX60, w ∈ wsX6_copyTo := by decide +kernel
  unfold F_X6_copyTo at h
  refine lv_iload_n hx hb dX6_copyTo_0 rfl (lv_at hl 1 rfl) ?_
  obtain ⟨k1, g2, h⟩ := fB1 h
  by_cases e3 : ¬ k1 = 0
  · replace h := fF e3 h
    refine xc_S (As := [.int a1]) (rest := []) (ws1 := (XW o y pl te be cn ch le rE rL rP rF rS rD hs ho hc sl fi)) ⟨hx, hb, hml, hown, hts⟩ (x_X6_requirePlate l hfl D y _ a1 k1 e3 g2) (va_cwS 1 hts gX6_copyTo_X6_requirePlate rfl rfl rfl hd_X6_requirePlate ⟨Nat.le_of_ble_eq_true rfl, Nat.le_of_ble_eq_true rfl⟩) hK hP hD hS hA hEX [] [0, 1, 2, 3, 4, 5, 6, 7, 8, 9, 10, 11] [0, 1, 2, 3, 4, 5, 6, 7, 8, 9, 10, 11] rfl rfl rfl (by decide) rfl rfl rfl rfl hl.1 rfl (Nat.le_of_ble_eq_true rfl) dX6_copyTo_1 ⟨Nat.le_of_ble_eq_true rfl, Nat.le_of_ble_eq_true rfl⟩ (fun H locs ce q hP hD hS hce hv hcl => ?_)
    cases h
    exact outX hQ hAe hout hlocks hK hP hD hS hce hv hcl rfl (by decide) (by decide)
  replace e3 := Classical.not_not.mp e3
  subst e3
  replace h := fT rfl h
  refine cT_v (As := [.int a1]) (rest := []) ⟨hx, hb, hml, hown, hts⟩ (c_X6_requirePlate l D y _ a1 g2) (va_cwS 1 hts gX6_copyTo_X6_requirePlate rfl rfl rfl hd_X6_requirePlate ⟨Nat.le_of_ble_eq_true rfl, Nat.le_of_ble_eq_true rfl⟩) hK hP hD hS hA rfl hl.1 rfl (Nat.le_of_ble_eq_true rfl) dX6_copyTo_1 ⟨Nat.le_of_ble_eq_true rfl, Nat.le_of_ble_eq_true rfl⟩ (fun H locs hP hD hS => ?_)
  refine lv_iload_n hx hb dX6_copyTo_4 rfl (lv_at hl 2 rfl) ?_
  obtain ⟨k4, g5, h⟩ := fB1 h
  by_cases e6 : ¬ k4 = 0
  · replace h := fF e6 h
    refine xc_S (As := [.int a2]) (rest := []) (ws1 := (XW o y pl te be cn ch le rE rL rP rF rS rD hs ho hc sl fi)) ⟨hx, hb, hml, hown, hts⟩ (x_X6_requirePlate l hfl D y _ a2 k4 e6 g5) (va_cwS 1 hts gX6_copyTo_X6_requirePlate rfl rfl rfl hd_X6_requirePlate ⟨Nat.le_of_ble_eq_true rfl, Nat.le_of_ble_eq_true rfl⟩) hK hP hD hS hA hEX [] [0, 1, 2, 3, 4, 5, 6, 7, 8, 9, 10, 11] [0, 1, 2, 3, 4, 5, 6, 7, 8, 9, 10, 11] rfl rfl rfl (by decide) rfl rfl rfl rfl hl.1 rfl (Nat.le_of_ble_eq_true rfl) dX6_copyTo_5 ⟨Nat.le_of_ble_eq_true rfl, Nat.le_of_ble_eq_true rfl⟩ (fun H locs ce q hP hD hS hce hv hcl => ?_)
    cases h
    exact outX hQ hAe hout hlocks hK hP hD hS hce hv hcl rfl (by decide) (by decide)
  replace e6 := Classical.not_not.mp e6
  subst e6
  replace h := fT rfl h
  refine cT_v (As := [.int a2]) (rest := []) ⟨hx, hb, hml, hown, hts⟩ (c_X6_requirePlate l D y _ a2 g5) (va_cwS 1 hts gX6_copyTo_X6_requirePlate rfl rfl rfl hd_X6_requirePlate ⟨Nat.le_of_ble_eq_true rfl, Nat.le_of_ble_eq_true rfl⟩) hK hP hD hS hA rfl hl.1 rfl (Nat.le_of_ble_eq_true rfl) dX6_copyTo_5 ⟨Nat.le_of_ble_eq_true rfl, Nat.le_of_ble_eq_true rfl⟩ (fun H locs hP hD hS => ?_)
  refine lv_aload_n hx hb dX6_copyTo_8 rfl (lv_at hl 0 rfl) ?_
  refine va_get (D := D) (ci := 4) (C := RX6) (T := TX6) (N := 7) hx hb hts hinRX6 hown hK hP 0 rfl rfl 0 (by decide) q0 (fun _ h9 => h9) rfl dX6_copyTo_9 ?_
  refine lv_iload_n hx hb dX6_copyTo_12 rfl (lv_at hl 2 rfl) ?_
  obtain ⟨g7, h⟩ := fG h
  refine va_lald hx hb hK hP 1 1 rfl rfl g7 dX6_copyTo_13 ?_
  refine lv_aload_n hx hb dX6_copyTo_14 rfl (lv_at hl 0 rfl) ?_
  refine va_get (D := D) (ci := 4) (C := RX6) (T := TX6) (N := 7) hx hb hts hinRX6 hown hK hP 0 rfl rfl 0 (by decide) q0 (fun _ h9 => h9) rfl dX6_copyTo_15 ?_
  refine lv_iload_n hx hb dX6_copyTo_18 rfl (lv_at hl 1 rfl) ?_
  obtain ⟨g8, h⟩ := fG h
  refine va_lald hx hb hK hP 1 1 rfl rfl g8 dX6_copyTo_19 ?_
  have J9 : ∀ (v10 : Int32) (ls : Array Slot), v10 = (if (pl a2.toNatClampNeg) = (pl a1.toNatClampNeg) then (1 : Int32) else (0 : Int32)) → lv_has ls 4 [(0, .ref (o 0)), (1, .int a1), (2, .int a2)] → W p l e xrm_X6_copyTo s m args below meth c H locs 0 0 Q (F0 m 29 ls [.int v10]) := by
    intro v10 ls ev10 hl
    subst ev10
    refine lv_istore_n (lv' := [(3, .int (if (pl a2.toNatClampNeg) = (pl a1.toNatClampNeg) then (1 : Int32) else (0 : Int32))), (0, .ref (o 0)), (1, .int a1), (2, .int a2)]) hx hb dX6_copyTo_29 rfl hl (by decide) rfl (fun ls hl => ?_)
    refine lv_aload_n hx hb dX6_copyTo_30 rfl (lv_at hl 1 rfl) ?_
    refine lv_iload_n hx hb dX6_copyTo_31 rfl (lv_at hl 3 rfl) ?_
    refine lv_aload_n hx hb dX6_copyTo_32 rfl (lv_at hl 1 rfl) ?_
    refine va_get (D := D) (ci := 4) (C := RX6) (T := TX6) (N := 7) hx hb hts hinRX6 hown hK hP 0 rfl rfl 0 (by decide) q0 (fun _ h9 => h9) rfl dX6_copyTo_33 ?_
    refine lv_iload_n hx hb dX6_copyTo_36 rfl (lv_at hl 2 rfl) ?_
    refine va_lald hx hb hK hP 1 1 rfl rfl g8 dX6_copyTo_37 ?_
    obtain ⟨r11, pl12, hs13, ho14, hc15, g16, h⟩ := fB5 h
    refine cV_i (As := [.int a2, .long (pl a1.toNatClampNeg)]) (rest := []) (ws1 := (XW o y pl12 te be cn ch le rE rL rP rF rS rD hs13 ho14 hc15 sl fi)) ⟨hx, hb, hml, hown, hts⟩ (c_X6_change l D o y _ pl te be cn ch le rE rL rP rF rS rD hs ho hc sl fi a2 (pl a1.toNatClampNeg) r11 pl12 hs13 ho14 hc15 g16) (cwV 2 hts gX6_copyTo_X6_change rfl rfl rfl hd_X6_change ⟨Nat.le_of_ble_eq_true rfl, Nat.le_of_ble_eq_true rfl⟩) hK hP hD hS hA [0, 1, 2, 3, 4, 5, 6, 7, 8, 9, 10, 11] [] [0, 1, 2, 3, 4, 5, 6, 7, 8, 9, 10, 11] rfl rfl rfl (by decide) rfl rfl rfl 0 (ci := 4) rfl rfl rfl hl.1 rfl (Nat.le_of_ble_eq_true rfl) dX6_copyTo_38 ⟨Nat.le_of_ble_eq_true rfl, Nat.le_of_ble_eq_true rfl⟩ (fun H locs hP hD hS => ?_)
    refine lv_pop hx hb dX6_copyTo_41 rfl ?_
    refine lv_iload_n hx hb dX6_copyTo_42 rfl (lv_at hl 0 rfl) ?_
    exact fY hkx h
  refine lx_ne (tgt := 28) hx hb dX6_copyTo_20 dX6_copyTo_21 (by decide) (fun c17 => ?_) (fun c17 => ?_)
  · refine lv_iconst (v := (0 : Int32)) hx hb dX6_copyTo_28 (by decide) ?_
    exact J9 _ _ (by rw [if_neg c17]) (lv_sub hl [0, 1, 2] rfl)
  · refine lv_iconst (v := (1 : Int32)) hx hb dX6_copyTo_24 (by decide) ?_
    refine lv_goto (tgt := 29) hx hb dX6_copyTo_25 (by decide) ?_
    exact J9 _ _ (by rw [if_pos c17]) (lv_sub hl [0, 1, 2] rfl)
abbrev rm_X6_requireNotZero : Room := { frames := 2, cells := 0, slots := 0, locals := 40 }
theorem hd_X6_requireNotZero : yX6_requireNotZero.cls = RX6 ∧ yX6_requireNotZero.cls ≠ "java/lang/invoke/MethodHandle" ∧ yX6_requireNotZero.cls ≠ "java/lang/invoke/VarHandle" ∧ (parseMethodDescriptor yX6_requireNotZero.desc).map (fun d => d.parameters.length) = some 1 := by decide +kernel
set_option maxHeartbeats 0 in
set_option maxRecDepth 100000 in
theorem c_X6_requireNotZero (l : Launch) (D : va_G) (o : Nat → Nat) (y : Nat → ClassId) (sz : Nat) (pl : Nat → Int64) (te : Nat → Int32) (be : Nat → Int64) (cn : Int32) (ch : Nat → Int32) (le : Int32) (rE : Int32) (rL : Int32) (rP : Int32) (rF : Int32) (rS : Int32) (rD : Int32) (hs : Nat → Int64) (ho : Int32) (hc : Int32) (sl : Nat → Int64) (fi : Nat → Int32) (a1 : Int32) (h : F_X6_requireNotZero pl a1 = some 0) : Met l yX6_requireNotZero wsX6_requireNotZero rm_X6_requireNotZero (va_Pc [.ref (o 0), .int a1] (px D y sz (XW o y pl te be cn ch le rE rL rP rF rS rD hs ho hc sl fi))) (Qrv D y sz (XW o y pl te be cn ch le rE rL rP rF rS rD hs ho hc sl fi) (XW o y pl te be cn ch le rE rL rP rF rS rD hs ho hc sl fi)) 0 0 (va_A (XW o y pl te be cn ch le rE rL rP rF rS rD hs ho hc sl fi) sz) := by
  refine hd_v (cc := cX6_requireNotZero) (maxL := 2) rfl rfl (Nat.le_of_ble_eq_true rfl) ?_
  intro p e s m args below meth c A Q H locs ls hx hb hml hts hown _ hA hP hD hK hS hl hE
  have hl : lv_has ls 2 [(0, .ref (o 0)), (1, .int a1)] := hl
  have q0 := hts (.fieldLink RX6 9 "SliceShares" "plates" "[J") (by decide +kernel)
  have hinRX6 : ∀ w ∈ wsX60, w ∈ wsX6_requireNotZero := by decide +kernel
  unfold F_X6_requireNotZero at h
  refine lv_iload_n hx hb dX6_requireNotZero_0 rfl (lv_at hl 1 rfl) ?_
  obtain ⟨k1, g2, h⟩ := fB1 h
  by_cases e3 : ¬ k1 = 0
  · replace h := fF e3 h
    exact fX1 e3 h
  replace e3 := Classical.not_not.mp e3
  subst e3
  replace h := fT rfl h
  refine cT_v (As := [.int a1]) (rest := []) ⟨hx, hb, hml, hown, hts⟩ (c_X6_requirePlate l D y _ a1 g2) (va_cwS 1 hts gX6_requireNotZero_X6_requirePlate rfl rfl rfl hd_X6_requirePlate ⟨Nat.le_of_ble_eq_true rfl, Nat.le_of_ble_eq_true rfl⟩) hK hP hD hS hA rfl hl.1 rfl (Nat.le_of_ble_eq_true rfl) dX6_requireNotZero_1 ⟨Nat.le_of_ble_eq_true rfl, Nat.le_of_ble_eq_true rfl⟩ (fun H locs hP hD hS => ?_)
  refine lv_aload_n hx hb dX6_requireNotZero_4 rfl (lv_at hl 0 rfl) ?_
  refine va_get (D := D) (ci := 4) (C := RX6) (T := TX6) (N := 7) hx hb hts hinRX6 hown hK hP 0 rfl rfl 0 (by decide) q0 (fun _ h9 => h9) rfl dX6_requireNotZero_5 ?_
  refine lv_iload_n hx hb dX6_requireNotZero_8 rfl (lv_at hl 1 rfl) ?_
  obtain ⟨g4, h⟩ := fG h
  refine va_lald hx hb hK hP 1 1 rfl rfl g4 dX6_requireNotZero_9 ?_
  refine lv_lconst (v := (1 : Int64)) hx hb dX6_requireNotZero_10 rfl ?_
  refine lx_ne (tgt := 25) hx hb dX6_requireNotZero_11 dX6_requireNotZero_12 (by decide) (fun c5 => ?_) (fun c5 => ?_)
  · replace h := fF c5 h
    cases h
    exact hE _ _ _ _ dX6_requireNotZero_25 hP hD hS
  · replace h := fT c5 h
    exact fX1 (show ¬ (3 : Nat) = 0 by decide) h
abbrev xrm_X6_requireNotZero : Room := { frames := 7, cells := 1, slots := 6, locals := 102 }
set_option maxHeartbeats 0 in
set_option maxRecDepth 100000 in
theorem x_X6_requireNotZero (l : Launch) (hfl : l.stackTraces = false) (D : va_G) (o : Nat → Nat) (y : Nat → ClassId) (sz : Nat) (pl : Nat → Int64) (te : Nat → Int32) (be : Nat → Int64) (cn : Int32) (ch : Nat → Int32) (le : Int32) (rE : Int32) (rL : Int32) (rP : Int32) (rF : Int32) (rS : Int32) (rD : Int32) (hs : Nat → Int64) (ho : Int32) (hc : Int32) (sl : Nat → Int64) (fi : Nat → Int32) (a1 : Int32) (k : Nat) (hkx : ¬ k = 0) (h : F_X6_requireNotZero pl a1 = some k) : vx_Met l yX6_requireNotZero wsX6_requireNotZero xrm_X6_requireNotZero (va_Pc [.ref (o 0), .int a1] (pxe D y sz (XW o y pl te be cn ch le rE rL rP rF rS rD hs ho hc sl fi))) (QNo (XW o y pl te be cn ch le rE rL rP rF rS rD hs ho hc sl fi) sz) (QX D y sz (XW o y pl te be cn ch le rE rL rP rF rS rD hs ho hc sl fi) (XW o y pl te be cn ch le rE rL rP rF rS rD hs ho hc sl fi) k) 1 6 (va_A (XW o y pl te be cn ch le rE rL rP rF rS rD hs ho hc sl fi) sz) := by
  refine hd_x (cc := cX6_requireNotZero) (maxL := 2) rfl rfl (Nat.le_of_ble_eq_true rfl) ?_
  intro p e s m args below meth c A Q H locs ls hx hb hml hts hown hA hP hD hK hS hl hEX hlocks hout hQ hAe
  have hl : lv_has ls 2 [(0, .ref (o 0)), (1, .int a1)] := hl
  have q0 := hts (.fieldLink RX6 9 "SliceShares" "plates" "[J") (by decide +kernel)
  have q1 := hts (.classLink RX6 176 "java/lang/IllegalStateException") (by decide +kernel)
  have q2 := hts (.initialized "java/lang/IllegalStateException") (by decide +kernel)
  have hinRX6 : ∀ w ∈ wsX60, w ∈ wsX6_requireNotZero := by decide +kernel
  unfold F_X6_requireNotZero at h
  refine lv_iload_n hx hb dX6_requireNotZero_0 rfl (lv_at hl 1 rfl) ?_
  obtain ⟨k1, g2, h⟩ := fB1 h
  by_cases e3 : ¬ k1 = 0
  · replace h := fF e3 h
    refine xc_S (As := [.int a1]) (rest := []) (ws1 := (XW o y pl te be cn ch le rE rL rP rF rS rD hs ho hc sl fi)) ⟨hx, hb, hml, hown, hts⟩ (x_X6_requirePlate l hfl D y _ a1 k1 e3 g2) (va_cwS 1 hts gX6_requireNotZero_X6_requirePlate rfl rfl rfl hd_X6_requirePlate ⟨Nat.le_of_ble_eq_true rfl, Nat.le_of_ble_eq_true rfl⟩) hK hP hD hS hA hEX [] [0, 1, 2, 3, 4, 5, 6, 7, 8, 9, 10, 11] [0, 1, 2, 3, 4, 5, 6, 7, 8, 9, 10, 11] rfl rfl rfl (by decide) rfl rfl rfl rfl hl.1 rfl (Nat.le_of_ble_eq_true rfl) dX6_requireNotZero_1 ⟨Nat.le_of_ble_eq_true rfl, Nat.le_of_ble_eq_true rfl⟩ (fun H locs ce q hP hD hS hce hv hcl => ?_)
    cases h
    exact outX hQ hAe hout hlocks hK hP hD hS hce hv hcl rfl (by decide) (by decide)
  replace e3 := Classical.not_not.mp e3
  subst e3
  replace h := fT rfl h
  refine cT_v (As := [.int a1]) (rest := []) ⟨hx, hb, hml, hown, hts⟩ (c_X6_requirePlate l D y _ a1 g2) (va_cwS 1 hts gX6_requireNotZero_X6_requirePlate rfl rfl rfl hd_X6_requirePlate ⟨Nat.le_of_ble_eq_true rfl, Nat.le_of_ble_eq_true rfl⟩) hK hP hD hS hA rfl hl.1 rfl (Nat.le_of_ble_eq_true rfl) dX6_requireNotZero_1 ⟨Nat.le_of_ble_eq_true rfl, Nat.le_of_ble_eq_true rfl⟩ (fun H locs hP hD hS => ?_)
  refine lv_aload_n hx hb dX6_requireNotZero_4 rfl (lv_at hl 0 rfl) ?_
  refine va_get (D := D) (ci := 4) (C := RX6) (T := TX6) (N := 7) hx hb hts hinRX6 hown hK hP 0 rfl rfl 0 (by decide) q0 (fun _ h9 => h9) rfl dX6_requireNotZero_5 ?_
  refine lv_iload_n hx hb dX6_requireNotZero_8 rfl (lv_at hl 1 rfl) ?_
  obtain ⟨g4, h⟩ := fG h
  refine va_lald hx hb hK hP 1 1 rfl rfl g4 dX6_requireNotZero_9 ?_
  refine lv_lconst (v := (1 : Int64)) hx hb dX6_requireNotZero_10 rfl ?_
  refine lx_ne (tgt := 25) hx hb dX6_requireNotZero_11 dX6_requireNotZero_12 (by decide) (fun c5 => ?_) (fun c5 => ?_)
  · replace h := fF c5 h
    exact fY1 hkx h
  · replace h := fT c5 h
    cases h
    exact thrS (ik := 176) (is := 243) (ic := 180) (E := "java/lang/IllegalStateException") (txt := "the plate is 0") hx hb hfl hQ hAe hout hlocks hK hP hD hS hown rfl (by decide +kernel) q1 q2 (fun w hw => hts w (List.mem_cons_of_mem _ (List.mem_append_left _ (List.mem_append_right _ hw)))) th2_180 thg_180 hEX (by decide +kernel) (hl.1.trans hml.symm) dX6_requireNotZero_15 dX6_requireNotZero_18 dX6_requireNotZero_19 dX6_requireNotZero_21 dX6_requireNotZero_24 (by decide) (Nat.le_of_ble_eq_true rfl) (by decide) (by decide) (by decide) (by decide)
abbrev rm_X6_invert : Room := { frames := 3, cells := 0, slots := 0, locals := 74 }
theorem hd_X6_invert : yX6_invert.cls = RX6 ∧ yX6_invert.cls ≠ "java/lang/invoke/MethodHandle" ∧ yX6_invert.cls ≠ "java/lang/invoke/VarHandle" ∧ (parseMethodDescriptor yX6_invert.desc).map (fun d => d.parameters.length) = some 1 := by decide +kernel
set_option maxHeartbeats 0 in
set_option maxRecDepth 100000 in
theorem c_X6_invert (l : Launch) (D : va_G) (o : Nat → Nat) (y : Nat → ClassId) (sz : Nat) (pl : Nat → Int64) (te : Nat → Int32) (be : Nat → Int64) (cn : Int32) (ch : Nat → Int32) (le : Int32) (rE : Int32) (rL : Int32) (rP : Int32) (rF : Int32) (rS : Int32) (rD : Int32) (hs : Nat → Int64) (ho : Int32) (hc : Int32) (sl : Nat → Int64) (fi : Nat → Int32) (a1 : Int32) (r : Int32) (pl' : Nat → Int64) (hs' : Nat → Int64) (ho' : Int32) (hc' : Int32) (h : F_X6_invert pl hs ho hc a1 = some (0, r, pl', hs', ho', hc')) : Met l yX6_invert wsX6_invert rm_X6_invert (va_Pc [.ref (o 0), .int a1] (px D y sz (XW o y pl te be cn ch le rE rL rP rF rS rD hs ho hc sl fi))) (Qri D y sz (XW o y pl te be cn ch le rE rL rP rF rS rD hs ho hc sl fi) (XW o y pl' te be cn ch le rE rL rP rF rS rD hs' ho' hc' sl fi) r) 0 0 (va_A (XW o y pl te be cn ch le rE rL rP rF rS rD hs ho hc sl fi) sz) := by
  refine hd_i (cc := cX6_invert) (maxL := 4) rfl rfl (Nat.le_of_ble_eq_true rfl) ?_
  intro p e s m args below meth c A Q H locs ls hx hb hml hts hown _ hA hP hD hK hS hl hE
  have hl : lv_has ls 4 [(0, .ref (o 0)), (1, .int a1)] := hl
  have q0 := hts (.fieldLink RX6 9 "SliceShares" "plates" "[J") (by decide +kernel)
  have hinRX6 : ∀ w ∈ wsX60, w ∈ wsX6_invert := by decide +kernel
  unfold F_X6_invert at h
  refine lv_aload_n hx hb dX6_invert_0 rfl (lv_at hl 0 rfl) ?_
  refine lv_iload_n hx hb dX6_invert_1 rfl (lv_at hl 1 rfl) ?_
  obtain ⟨k1, g2, h⟩ := fB1 h
  by_cases e3 : ¬ k1 = 0
  · replace h := fF e3 h
    exact fX e3 h
  replace e3 := Classical.not_not.mp e3
  subst e3
  replace h := fT rfl h
  refine cV_v (As := [.int a1]) (rest := []) (ws1 := (XW o y pl te be cn ch le rE rL rP rF rS rD hs ho hc sl fi)) ⟨hx, hb, hml, hown, hts⟩ (c_X6_requireNotZero l D o y _ pl te be cn ch le rE rL rP rF rS rD hs ho hc sl fi a1 g2) (cwV 1 hts gX6_invert_X6_requireNotZero rfl rfl rfl hd_X6_requireNotZero ⟨Nat.le_of_ble_eq_true rfl, Nat.le_of_ble_eq_true rfl⟩) hK hP hD hS hA [0, 1, 2, 3, 4, 5, 6, 7, 8, 9, 10, 11] [] [0, 1, 2, 3, 4, 5, 6, 7, 8, 9, 10, 11] rfl rfl rfl (by decide) rfl rfl rfl 0 (ci := 4) rfl rfl rfl hl.1 rfl (Nat.le_of_ble_eq_true rfl) dX6_invert_2 ⟨Nat.le_of_ble_eq_true rfl, Nat.le_of_ble_eq_true rfl⟩ (fun H locs hP hD hS => ?_)
  refine lv_aload_n hx hb dX6_invert_5 rfl (lv_at hl 0 rfl) ?_
  refine va_get (D := D) (ci := 4) (C := RX6) (T := TX6) (N := 7) hx hb hts hinRX6 hown hK hP 0 rfl rfl 0 (by decide) q0 (fun _ h9 => h9) rfl dX6_invert_6 ?_
  refine lv_iload_n hx hb dX6_invert_9 rfl (lv_at hl 1 rfl) ?_
  obtain ⟨g4, h⟩ := fG h
  refine va_lald hx hb hK hP 1 1 rfl rfl g4 dX6_invert_10 ?_
  refine lv_lstore_n (lv' := [(2, .long (pl a1.toNatClampNeg)), (0, .ref (o 0)), (1, .int a1)]) hx hb dX6_invert_11 rfl hl (by decide) rfl (fun ls hl => ?_)
  refine lv_aload_n hx hb dX6_invert_12 rfl (lv_at hl 1 rfl) ?_
  refine lv_iload_n hx hb dX6_invert_13 rfl (lv_at hl 2 rfl) ?_
  refine lv_lload_n hx hb dX6_invert_14 rfl (lv_at hl 0 rfl) ?_
  refine cT_l (As := [.long (pl a1.toNatClampNeg)]) (rest := [.int a1, .ref (o 0)]) ⟨hx, hb, hml, hown, hts⟩ (c_X3_denominator l D y _ (pl a1.toNatClampNeg)) (va_cwS 1 hts gX6_invert_X3_denominator rfl rfl rfl hd_X3_denominator ⟨Nat.le_of_ble_eq_true rfl, Nat.le_of_ble_eq_true rfl⟩) hK hP hD hS hA rfl hl.1 rfl (Nat.le_of_ble_eq_true rfl) dX6_invert_15 ⟨Nat.le_of_ble_eq_true rfl, Nat.le_of_ble_eq_true rfl⟩ (fun H locs hP hD hS => ?_)
  refine lv_lload_n hx hb dX6_invert_18 rfl (lv_at hl 0 rfl) ?_
  refine cT_l (As := [.long (pl a1.toNatClampNeg)]) (rest := [.long (F_X3_denominator (pl a1.toNatClampNeg)), .int a1, .ref (o 0)]) ⟨hx, hb, hml, hown, hts⟩ (c_X3_numerator l D y _ (pl a1.toNatClampNeg)) (va_cwS 1 hts gX6_invert_X3_numerator rfl rfl rfl hd_X3_numerator ⟨Nat.le_of_ble_eq_true rfl, Nat.le_of_ble_eq_true rfl⟩) hK hP hD hS hA rfl hl.1 rfl (Nat.le_of_ble_eq_true rfl) dX6_invert_19 ⟨Nat.le_of_ble_eq_true rfl, Nat.le_of_ble_eq_true rfl⟩ (fun H locs hP hD hS => ?_)
  obtain ⟨r5, g6, h⟩ := fB1 h
  refine cT_l (As := [.long (F_X3_denominator (pl a1.toNatClampNeg)), .long (F_X3_numerator (pl a1.toNatClampNeg))]) (rest := [.int a1, .ref (o 0)]) ⟨hx, hb, hml, hown, hts⟩ (c_X3_inLowestTerms l D y _ (F_X3_denominator (pl a1.toNatClampNeg)) (F_X3_numerator (pl a1.toNatClampNeg)) r5 g6) (va_cwS 2 hts gX6_invert_X3_inLowestTerms rfl rfl rfl hd_X3_inLowestTerms ⟨Nat.le_of_ble_eq_true rfl, Nat.le_of_ble_eq_true rfl⟩) hK hP hD hS hA rfl hl.1 rfl (Nat.le_of_ble_eq_true rfl) dX6_invert_22 ⟨Nat.le_of_ble_eq_true rfl, Nat.le_of_ble_eq_true rfl⟩ (fun H locs hP hD hS => ?_)
  obtain ⟨r7, pl8, hs9, ho10, hc11, g12, h⟩ := fB5 h
  refine cV_i (As := [.int a1, .long r5]) (rest := []) (ws1 := (XW o y pl8 te be cn ch le rE rL rP rF rS rD hs9 ho10 hc11 sl fi)) ⟨hx, hb, hml, hown, hts⟩ (c_X6_change l D o y _ pl te be cn ch le rE rL rP rF rS rD hs ho hc sl fi a1 r5 r7 pl8 hs9 ho10 hc11 g12) (cwV 2 hts gX6_invert_X6_change rfl rfl rfl hd_X6_change ⟨Nat.le_of_ble_eq_true rfl, Nat.le_of_ble_eq_true rfl⟩) hK hP hD hS hA [0, 1, 2, 3, 4, 5, 6, 7, 8, 9, 10, 11] [] [0, 1, 2, 3, 4, 5, 6, 7, 8, 9, 10, 11] rfl rfl rfl (by decide) rfl rfl rfl 0 (ci := 4) rfl rfl rfl hl.1 rfl (Nat.le_of_ble_eq_true rfl) dX6_invert_25 ⟨Nat.le_of_ble_eq_true rfl, Nat.le_of_ble_eq_true rfl⟩ (fun H locs hP hD hS => ?_)
  cases h
  exact hE _ _ _ _ dX6_invert_28 hP hD hS
abbrev xrm_X6_invert : Room := { frames := 8, cells := 1, slots := 6, locals := 123 }
set_option maxHeartbeats 0 in
set_option maxRecDepth 100000 in
theorem x_X6_invert (l : Launch) (hfl : l.stackTraces = false) (D : va_G) (o : Nat → Nat) (y : Nat → ClassId) (sz : Nat) (pl : Nat → Int64) (te : Nat → Int32) (be : Nat → Int64) (cn : Int32) (ch : Nat → Int32) (le : Int32) (rE : Int32) (rL : Int32) (rP : Int32) (rF : Int32) (rS : Int32) (rD : Int32) (hs : Nat → Int64) (ho : Int32) (hc : Int32) (sl : Nat → Int64) (fi : Nat → Int32) (a1 : Int32) (k : Nat) (r : Int32) (pl' : Nat → Int64) (hs' : Nat → Int64) (ho' : Int32) (hc' : Int32) (hkx : ¬ k = 0) (h : F_X6_invert pl hs ho hc a1 = some (k, r, pl', hs', ho', hc')) : vx_Met l yX6_invert wsX6_invert xrm_X6_invert (va_Pc [.ref (o 0), .int a1] (pxe D y sz (XW o y pl te be cn ch le rE rL rP rF rS rD hs ho hc sl fi))) (QNo (XW o y pl te be cn ch le rE rL rP rF rS rD hs ho hc sl fi) sz) (QX D y sz (XW o y pl te be cn ch le rE rL rP rF rS rD hs ho hc sl fi) (XW o y pl' te be cn ch le rE rL rP rF rS rD hs' ho' hc' sl fi) k) 1 6 (va_A (XW o y pl te be cn ch le rE rL rP rF rS rD hs ho hc sl fi) sz) := by
  refine hd_x (cc := cX6_invert) (maxL := 4) rfl rfl (Nat.le_of_ble_eq_true rfl) ?_
  intro p e s m args below meth c A Q H locs ls hx hb hml hts hown hA hP hD hK hS hl hEX hlocks hout hQ hAe
  have hl : lv_has ls 4 [(0, .ref (o 0)), (1, .int a1)] := hl
  have q0 := hts (.fieldLink RX6 9 "SliceShares" "plates" "[J") (by decide +kernel)
  have hinRX6 : ∀ w ∈ wsX60, w ∈ wsX6_invert := by decide +kernel
  unfold F_X6_invert at h
  refine lv_aload_n hx hb dX6_invert_0 rfl (lv_at hl 0 rfl) ?_
  refine lv_iload_n hx hb dX6_invert_1 rfl (lv_at hl 1 rfl) ?_
  obtain ⟨k1, g2, h⟩ := fB1 h
  by_cases e3 : ¬ k1 = 0
  · replace h := fF e3 h
    refine xc_V (As := [.int a1]) (rest := []) (ws1 := (XW o y pl te be cn ch le rE rL rP rF rS rD hs ho hc sl fi)) ⟨hx, hb, hml, hown, hts⟩ (x_X6_requireNotZero l hfl D o y _ pl te be cn ch le rE rL rP rF rS rD hs ho hc sl fi a1 k1 e3 g2) (cwV 1 hts gX6_invert_X6_requireNotZero rfl rfl rfl hd_X6_requireNotZero ⟨Nat.le_of_ble_eq_true rfl, Nat.le_of_ble_eq_true rfl⟩) hK hP hD hS hA hEX [0, 1, 2, 3, 4, 5, 6, 7, 8, 9, 10, 11] [] [0, 1, 2, 3, 4, 5, 6, 7, 8, 9, 10, 11] rfl rfl rfl (by decide) rfl rfl rfl 0 (ci := 4) rfl rfl rfl hl.1 rfl (Nat.le_of_ble_eq_true rfl) dX6_invert_2 ⟨Nat.le_of_ble_eq_true rfl, Nat.le_of_ble_eq_true rfl⟩ (fun H locs ce q hP hD hS hce hv hcl => ?_)
    cases h
    exact outX hQ hAe hout hlocks hK hP hD hS hce hv hcl rfl (by decide) (by decide)
  replace e3 := Classical.not_not.mp e3
  subst e3
  replace h := fT rfl h
  refine cV_v (As := [.int a1]) (rest := []) (ws1 := (XW o y pl te be cn ch le rE rL rP rF rS rD hs ho hc sl fi)) ⟨hx, hb, hml, hown, hts⟩ (c_X6_requireNotZero l D o y _ pl te be cn ch le rE rL rP rF rS rD hs ho hc sl fi a1 g2) (cwV 1 hts gX6_invert_X6_requireNotZero rfl rfl rfl hd_X6_requireNotZero ⟨Nat.le_of_ble_eq_true rfl, Nat.le_of_ble_eq_true rfl⟩) hK hP hD hS hA [0, 1, 2, 3, 4, 5, 6, 7, 8, 9, 10, 11] [] [0, 1, 2, 3, 4, 5, 6, 7, 8, 9, 10, 11] rfl rfl rfl (by decide) rfl rfl rfl 0 (ci := 4) rfl rfl rfl hl.1 rfl (Nat.le_of_ble_eq_true rfl) dX6_invert_2 ⟨Nat.le_of_ble_eq_true rfl, Nat.le_of_ble_eq_true rfl⟩ (fun H locs hP hD hS => ?_)
  refine lv_aload_n hx hb dX6_invert_5 rfl (lv_at hl 0 rfl) ?_
  refine va_get (D := D) (ci := 4) (C := RX6) (T := TX6) (N := 7) hx hb hts hinRX6 hown hK hP 0 rfl rfl 0 (by decide) q0 (fun _ h9 => h9) rfl dX6_invert_6 ?_
  refine lv_iload_n hx hb dX6_invert_9 rfl (lv_at hl 1 rfl) ?_
  obtain ⟨g4, h⟩ := fG h
  refine va_lald hx hb hK hP 1 1 rfl rfl g4 dX6_invert_10 ?_
  refine lv_lstore_n (lv' := [(2, .long (pl a1.toNatClampNeg)), (0, .ref (o 0)), (1, .int a1)]) hx hb dX6_invert_11 rfl hl (by decide) rfl (fun ls hl => ?_)
  refine lv_aload_n hx hb dX6_invert_12 rfl (lv_at hl 1 rfl) ?_
  refine lv_iload_n hx hb dX6_invert_13 rfl (lv_at hl 2 rfl) ?_
  refine lv_lload_n hx hb dX6_invert_14 rfl (lv_at hl 0 rfl) ?_
  refine cT_l (As := [.long (pl a1.toNatClampNeg)]) (rest := [.int a1, .ref (o 0)]) ⟨hx, hb, hml, hown, hts⟩ (c_X3_denominator l D y _ (pl a1.toNatClampNeg)) (va_cwS 1 hts gX6_invert_X3_denominator rfl rfl rfl hd_X3_denominator ⟨Nat.le_of_ble_eq_true rfl, Nat.le_of_ble_eq_true rfl⟩) hK hP hD hS hA rfl hl.1 rfl (Nat.le_of_ble_eq_true rfl) dX6_invert_15 ⟨Nat.le_of_ble_eq_true rfl, Nat.le_of_ble_eq_true rfl⟩ (fun H locs hP hD hS => ?_)
  refine lv_lload_n hx hb dX6_invert_18 rfl (lv_at hl 0 rfl) ?_
  refine cT_l (As := [.long (pl a1.toNatClampNeg)]) (rest := [.long (F_X3_denominator (pl a1.toNatClampNeg)), .int a1, .ref (o 0)]) ⟨hx, hb, hml, hown, hts⟩ (c_X3_numerator l D y _ (pl a1.toNatClampNeg)) (va_cwS 1 hts gX6_invert_X3_numerator rfl rfl rfl hd_X3_numerator ⟨Nat.le_of_ble_eq_true rfl, Nat.le_of_ble_eq_true rfl⟩) hK hP hD hS hA rfl hl.1 rfl (Nat.le_of_ble_eq_true rfl) dX6_invert_19 ⟨Nat.le_of_ble_eq_true rfl, Nat.le_of_ble_eq_true rfl⟩ (fun H locs hP hD hS => ?_)
  obtain ⟨r5, g6, h⟩ := fB1 h
  refine cT_l (As := [.long (F_X3_denominator (pl a1.toNatClampNeg)), .long (F_X3_numerator (pl a1.toNatClampNeg))]) (rest := [.int a1, .ref (o 0)]) ⟨hx, hb, hml, hown, hts⟩ (c_X3_inLowestTerms l D y _ (F_X3_denominator (pl a1.toNatClampNeg)) (F_X3_numerator (pl a1.toNatClampNeg)) r5 g6) (va_cwS 2 hts gX6_invert_X3_inLowestTerms rfl rfl rfl hd_X3_inLowestTerms ⟨Nat.le_of_ble_eq_true rfl, Nat.le_of_ble_eq_true rfl⟩) hK hP hD hS hA rfl hl.1 rfl (Nat.le_of_ble_eq_true rfl) dX6_invert_22 ⟨Nat.le_of_ble_eq_true rfl, Nat.le_of_ble_eq_true rfl⟩ (fun H locs hP hD hS => ?_)
  obtain ⟨r7, pl8, hs9, ho10, hc11, g12, h⟩ := fB5 h
  refine cV_i (As := [.int a1, .long r5]) (rest := []) (ws1 := (XW o y pl8 te be cn ch le rE rL rP rF rS rD hs9 ho10 hc11 sl fi)) ⟨hx, hb, hml, hown, hts⟩ (c_X6_change l D o y _ pl te be cn ch le rE rL rP rF rS rD hs ho hc sl fi a1 r5 r7 pl8 hs9 ho10 hc11 g12) (cwV 2 hts gX6_invert_X6_change rfl rfl rfl hd_X6_change ⟨Nat.le_of_ble_eq_true rfl, Nat.le_of_ble_eq_true rfl⟩) hK hP hD hS hA [0, 1, 2, 3, 4, 5, 6, 7, 8, 9, 10, 11] [] [0, 1, 2, 3, 4, 5, 6, 7, 8, 9, 10, 11] rfl rfl rfl (by decide) rfl rfl rfl 0 (ci := 4) rfl rfl rfl hl.1 rfl (Nat.le_of_ble_eq_true rfl) dX6_invert_25 ⟨Nat.le_of_ble_eq_true rfl, Nat.le_of_ble_eq_true rfl⟩ (fun H locs hP hD hS => ?_)
  exact fY hkx h
abbrev rm_X6_share : Room := { frames := 4, cells := 0, slots := 0, locals := 88 }
theorem hd_X6_share : yX6_share.cls = RX6 ∧ yX6_share.cls ≠ "java/lang/invoke/MethodHandle" ∧ yX6_share.cls ≠ "java/lang/invoke/VarHandle" ∧ (parseMethodDescriptor yX6_share.desc).map (fun d => d.parameters.length) = some 2 := by decide +kernel
set_option maxHeartbeats 0 in
set_option maxRecDepth 100000 in
theorem c_X6_share (l : Launch) (D : va_G) (o : Nat → Nat) (y : Nat → ClassId) (sz : Nat) (pl : Nat → Int64) (te : Nat → Int32) (be : Nat → Int64) (cn : Int32) (ch : Nat → Int32) (le : Int32) (rE : Int32) (rL : Int32) (rP : Int32) (rF : Int32) (rS : Int32) (rD : Int32) (hs : Nat → Int64) (ho : Int32) (hc : Int32) (sl : Nat → Int64) (fi : Nat → Int32) (a1 : Int32) (a2 : Int32) (r : Int32) (pl' : Nat → Int64) (hs' : Nat → Int64) (ho' : Int32) (hc' : Int32) (h : F_X6_share pl hs ho hc a1 a2 = some (0, r, pl', hs', ho', hc')) : Met l yX6_share wsX6_share rm_X6_share (va_Pc [.ref (o 0), .int a1, .int a2] (px D y sz (XW o y pl te be cn ch le rE rL rP rF rS rD hs ho hc sl fi))) (Qri D y sz (XW o y pl te be cn ch le rE rL rP rF rS rD hs ho hc sl fi) (XW o y pl' te be cn ch le rE rL rP rF rS rD hs' ho' hc' sl fi) r) 0 0 (va_A (XW o y pl te be cn ch le rE rL rP rF rS rD hs ho hc sl fi) sz) := by
  refine hd_i (cc := cX6_share) (maxL := 5) rfl rfl (Nat.le_of_ble_eq_true rfl) ?_
  intro p e s m args below meth c A Q H locs ls hx hb hml hts hown _ hA hP hD hK hS hl hE
  have hl : lv_has ls 5 [(0, .ref (o 0)), (1, .int a1), (2, .int a2)] := hl
  have q0 := hts (.fieldLink RX6 9 "SliceShares" "plates" "[J") (by decide +kernel)
  have hinRX6 : ∀ w ∈ wsX60, w ∈ wsX6_share := by decide +kernel
  unfold F_X6_share at h
  refine lv_iload_n hx hb dX6_share_0 rfl (lv_at hl 1 rfl) ?_
  obtain ⟨k1, g2, h⟩ := fB1 h
  by_cases e3 : ¬ k1 = 0
  · replace h := fF e3 h
    exact fX e3 h
  replace e3 := Classical.not_not.mp e3
  subst e3
  replace h := fT rfl h
  refine cT_v (As := [.int a1]) (rest := []) ⟨hx, hb, hml, hown, hts⟩ (c_X6_requirePlate l D y _ a1 g2) (va_cwS 1 hts gX6_share_X6_requirePlate rfl rfl rfl hd_X6_requirePlate ⟨Nat.le_of_ble_eq_true rfl, Nat.le_of_ble_eq_true rfl⟩) hK hP hD hS hA rfl hl.1 rfl (Nat.le_of_ble_eq_true rfl) dX6_share_1 ⟨Nat.le_of_ble_eq_true rfl, Nat.le_of_ble_eq_true rfl⟩ (fun H locs hP hD hS => ?_)
  refine lv_iload_n hx hb dX6_share_4 rfl (lv_at hl 2 rfl) ?_
  refine lv_iconst (v := (1 : Int32)) hx hb dX6_share_5 (by decide) ?_
  refine lv_icmp_lt (tgt := 15) hx hb dX6_share_6 (by decide) (fun c4 => ?_) (fun c4 => ?_)
  · replace h := fT c4 h
    exact fX (show ¬ (2 : Nat) = 0 by decide) h
  · replace h := fF c4 h
    refine lv_iload_n hx hb dX6_share_9 rfl (lv_at hl 2 rfl) ?_
    refine lv_bipush (v := (100 : Int32)) hx hb dX6_share_10 (by decide) ?_
    refine lv_icmp_le (tgt := 25) hx hb dX6_share_12 (by decide) (fun c5 => ?_) (fun c5 => ?_)
    · replace h := fT c5 h
      refine lv_aload_n hx hb dX6_share_25 rfl (lv_at hl 0 rfl) ?_
      refine va_get (D := D) (ci := 4) (C := RX6) (T := TX6) (N := 7) hx hb hts hinRX6 hown hK hP 0 rfl rfl 0 (by decide) q0 (fun _ h9 => h9) rfl dX6_share_26 ?_
      refine lv_iload_n hx hb dX6_share_29 rfl (lv_at hl 1 rfl) ?_
      obtain ⟨g6, h⟩ := fG h
      refine va_lald hx hb hK hP 1 1 rfl rfl g6 dX6_share_30 ?_
      refine lv_lstore_n (lv' := [(3, .long (pl a1.toNatClampNeg)), (0, .ref (o 0)), (1, .int a1), (2, .int a2)]) hx hb dX6_share_31 rfl hl (by decide) rfl (fun ls hl => ?_)
      refine lv_aload_n hx hb dX6_share_32 rfl (lv_at hl 1 rfl) ?_
      refine lv_iload_n hx hb dX6_share_33 rfl (lv_at hl 2 rfl) ?_
      refine lv_lload_n hx hb dX6_share_34 rfl (lv_at hl 0 rfl) ?_
      refine cT_l (As := [.long (pl a1.toNatClampNeg)]) (rest := [.int a1, .ref (o 0)]) ⟨hx, hb, hml, hown, hts⟩ (c_X3_numerator l D y _ (pl a1.toNatClampNeg)) (va_cwS 1 hts gX6_share_X3_numerator rfl rfl rfl hd_X3_numerator ⟨Nat.le_of_ble_eq_true rfl, Nat.le_of_ble_eq_true rfl⟩) hK hP hD hS hA rfl hl.1 rfl (Nat.le_of_ble_eq_true rfl) dX6_share_35 ⟨Nat.le_of_ble_eq_true rfl, Nat.le_of_ble_eq_true rfl⟩ (fun H locs hP hD hS => ?_)
      refine lv_lload_n hx hb dX6_share_38 rfl (lv_at hl 0 rfl) ?_
      refine cT_l (As := [.long (pl a1.toNatClampNeg)]) (rest := [.long (F_X3_numerator (pl a1.toNatClampNeg)), .int a1, .ref (o 0)]) ⟨hx, hb, hml, hown, hts⟩ (c_X3_denominator l D y _ (pl a1.toNatClampNeg)) (va_cwS 1 hts gX6_share_X3_denominator rfl rfl rfl hd_X3_denominator ⟨Nat.le_of_ble_eq_true rfl, Nat.le_of_ble_eq_true rfl⟩) hK hP hD hS hA rfl hl.1 rfl (Nat.le_of_ble_eq_true rfl) dX6_share_39 ⟨Nat.le_of_ble_eq_true rfl, Nat.le_of_ble_eq_true rfl⟩ (fun H locs hP hD hS => ?_)
      refine lv_iload_n hx hb dX6_share_42 rfl (lv_at hl 3 rfl) ?_
      refine lv_i2l (v := a2.toInt64) hx hb dX6_share_43 rfl ?_
      refine lv_lmul hx hb dX6_share_44 ?_
      obtain ⟨r7, g8, h⟩ := fB1 h
      refine cT_l (As := [.long (F_X3_numerator (pl a1.toNatClampNeg)), .long ((F_X3_denominator (pl a1.toNatClampNeg)) * a2.toInt64)]) (rest := [.int a1, .ref (o 0)]) ⟨hx, hb, hml, hown, hts⟩ (c_X3_inLowestTerms l D y _ (F_X3_numerator (pl a1.toNatClampNeg)) ((F_X3_denominator (pl a1.toNatClampNeg)) * a2.toInt64) r7 g8) (va_cwS 2 hts gX6_share_X3_inLowestTerms rfl rfl rfl hd_X3_inLowestTerms ⟨Nat.le_of_ble_eq_true rfl, Nat.le_of_ble_eq_true rfl⟩) hK hP hD hS hA rfl hl.1 rfl (Nat.le_of_ble_eq_true rfl) dX6_share_45 ⟨Nat.le_of_ble_eq_true rfl, Nat.le_of_ble_eq_true rfl⟩ (fun H locs hP hD hS => ?_)
      obtain ⟨k9, r10, pl11, hs12, ho13, hc14, g15, h⟩ := fB6 h
      by_cases e16 : ¬ k9 = 0
      · replace h := fF e16 h
        exact fX e16 h
      replace e16 := Classical.not_not.mp e16
      subst e16
      replace h := fT rfl h
      refine cV_i (As := [.int a1, .long r7]) (rest := []) (ws1 := (XW o y pl11 te be cn ch le rE rL rP rF rS rD hs12 ho13 hc14 sl fi)) ⟨hx, hb, hml, hown, hts⟩ (c_X6_changeIfPossible l D o y _ pl te be cn ch le rE rL rP rF rS rD hs ho hc sl fi a1 r7 r10 pl11 hs12 ho13 hc14 g15) (cwV 2 hts gX6_share_X6_changeIfPossible rfl rfl rfl hd_X6_changeIfPossible ⟨Nat.le_of_ble_eq_true rfl, Nat.le_of_ble_eq_true rfl⟩) hK hP hD hS hA [0, 1, 2, 3, 4, 5, 6, 7, 8, 9, 10, 11] [] [0, 1, 2, 3, 4, 5, 6, 7, 8, 9, 10, 11] rfl rfl rfl (by decide) rfl rfl rfl 0 (ci := 4) rfl rfl rfl hl.1 rfl (Nat.le_of_ble_eq_true rfl) dX6_share_48 ⟨Nat.le_of_ble_eq_true rfl, Nat.le_of_ble_eq_true rfl⟩ (fun H locs hP hD hS => ?_)
      cases h
      exact hE _ _ _ _ dX6_share_51 hP hD hS
    · replace h := fF c5 h
      exact fX (show ¬ (2 : Nat) = 0 by decide) h
abbrev xrm_X6_share : Room := { frames := 7, cells := 1, slots := 6, locals := 105 }
set_option maxHeartbeats 0 in
set_option maxRecDepth 100000 in
theorem x_X6_share (l : Launch) (hfl : l.stackTraces = false) (D : va_G) (o : Nat → Nat) (y : Nat → ClassId) (sz : Nat) (pl : Nat → Int64) (te : Nat → Int32) (be : Nat → Int64) (cn : Int32) (ch : Nat → Int32) (le : Int32) (rE : Int32) (rL : Int32) (rP : Int32) (rF : Int32) (rS : Int32) (rD : Int32) (hs : Nat → Int64) (ho : Int32) (hc : Int32) (sl : Nat → Int64) (fi : Nat → Int32) (a1 : Int32) (a2 : Int32) (k : Nat) (r : Int32) (pl' : Nat → Int64) (hs' : Nat → Int64) (ho' : Int32) (hc' : Int32) (hkx : ¬ k = 0) (h : F_X6_share pl hs ho hc a1 a2 = some (k, r, pl', hs', ho', hc')) : vx_Met l yX6_share wsX6_share xrm_X6_share (va_Pc [.ref (o 0), .int a1, .int a2] (pxe D y sz (XW o y pl te be cn ch le rE rL rP rF rS rD hs ho hc sl fi))) (QNo (XW o y pl te be cn ch le rE rL rP rF rS rD hs ho hc sl fi) sz) (QX D y sz (XW o y pl te be cn ch le rE rL rP rF rS rD hs ho hc sl fi) (XW o y pl' te be cn ch le rE rL rP rF rS rD hs' ho' hc' sl fi) k) 1 6 (va_A (XW o y pl te be cn ch le rE rL rP rF rS rD hs ho hc sl fi) sz) := by
  refine hd_x (cc := cX6_share) (maxL := 5) rfl rfl (Nat.le_of_ble_eq_true rfl) ?_
  intro p e s m args below meth c A Q H locs ls hx hb hml hts hown hA hP hD hK hS hl hEX hlocks hout hQ hAe
  have hl : lv_has ls 5 [(0, .ref (o 0)), (1, .int a1), (2, .int a2)] := hl
  have q0 := hts (.classLink RX6 55 "java/lang/IllegalArgumentException") (by decide +kernel)
  have q1 := hts (.initialized "java/lang/IllegalArgumentException") (by decide +kernel)
  have q2 := hts (.fieldLink RX6 9 "SliceShares" "plates" "[J") (by decide +kernel)
  have hinRX6 : ∀ w ∈ wsX60, w ∈ wsX6_share := by decide +kernel
  unfold F_X6_share at h
  refine lv_iload_n hx hb dX6_share_0 rfl (lv_at hl 1 rfl) ?_
  obtain ⟨k1, g2, h⟩ := fB1 h
  by_cases e3 : ¬ k1 = 0
  · replace h := fF e3 h
    refine xc_S (As := [.int a1]) (rest := []) (ws1 := (XW o y pl te be cn ch le rE rL rP rF rS rD hs ho hc sl fi)) ⟨hx, hb, hml, hown, hts⟩ (x_X6_requirePlate l hfl D y _ a1 k1 e3 g2) (va_cwS 1 hts gX6_share_X6_requirePlate rfl rfl rfl hd_X6_requirePlate ⟨Nat.le_of_ble_eq_true rfl, Nat.le_of_ble_eq_true rfl⟩) hK hP hD hS hA hEX [] [0, 1, 2, 3, 4, 5, 6, 7, 8, 9, 10, 11] [0, 1, 2, 3, 4, 5, 6, 7, 8, 9, 10, 11] rfl rfl rfl (by decide) rfl rfl rfl rfl hl.1 rfl (Nat.le_of_ble_eq_true rfl) dX6_share_1 ⟨Nat.le_of_ble_eq_true rfl, Nat.le_of_ble_eq_true rfl⟩ (fun H locs ce q hP hD hS hce hv hcl => ?_)
    cases h
    exact outX hQ hAe hout hlocks hK hP hD hS hce hv hcl rfl (by decide) (by decide)
  replace e3 := Classical.not_not.mp e3
  subst e3
  replace h := fT rfl h
  refine cT_v (As := [.int a1]) (rest := []) ⟨hx, hb, hml, hown, hts⟩ (c_X6_requirePlate l D y _ a1 g2) (va_cwS 1 hts gX6_share_X6_requirePlate rfl rfl rfl hd_X6_requirePlate ⟨Nat.le_of_ble_eq_true rfl, Nat.le_of_ble_eq_true rfl⟩) hK hP hD hS hA rfl hl.1 rfl (Nat.le_of_ble_eq_true rfl) dX6_share_1 ⟨Nat.le_of_ble_eq_true rfl, Nat.le_of_ble_eq_true rfl⟩ (fun H locs hP hD hS => ?_)
  refine lv_iload_n hx hb dX6_share_4 rfl (lv_at hl 2 rfl) ?_
  refine lv_iconst (v := (1 : Int32)) hx hb dX6_share_5 (by decide) ?_
  refine lv_icmp_lt (tgt := 15) hx hb dX6_share_6 (by decide) (fun c4 => ?_) (fun c4 => ?_)
  · replace h := fT c4 h
    cases h
    exact thrS (ik := 55) (is := 94) (ic := 59) (E := "java/lang/IllegalArgumentException") (txt := "the number of guests is out of range") hx hb hfl hQ hAe hout hlocks hK hP hD hS hown rfl (by decide +kernel) q0 q1 (fun w hw => hts w (List.mem_cons_of_mem _ (List.mem_append_left _ (List.mem_append_left _ (List.mem_append_right _ hw))))) th2_59 thg_59 hEX (by decide +kernel) (hl.1.trans hml.symm) dX6_share_15 dX6_share_18 dX6_share_19 dX6_share_21 dX6_share_24 (by decide) (Nat.le_of_ble_eq_true rfl) (by decide) (by decide) (by decide) (by decide)
  · replace h := fF c4 h
    refine lv_iload_n hx hb dX6_share_9 rfl (lv_at hl 2 rfl) ?_
    refine lv_bipush (v := (100 : Int32)) hx hb dX6_share_10 (by decide) ?_
    refine lv_icmp_le (tgt := 25) hx hb dX6_share_12 (by decide) (fun c5 => ?_) (fun c5 => ?_)
    · replace h := fT c5 h
      refine lv_aload_n hx hb dX6_share_25 rfl (lv_at hl 0 rfl) ?_
      refine va_get (D := D) (ci := 4) (C := RX6) (T := TX6) (N := 7) hx hb hts hinRX6 hown hK hP 0 rfl rfl 0 (by decide) q2 (fun _ h9 => h9) rfl dX6_share_26 ?_
      refine lv_iload_n hx hb dX6_share_29 rfl (lv_at hl 1 rfl) ?_
      obtain ⟨g6, h⟩ := fG h
      refine va_lald hx hb hK hP 1 1 rfl rfl g6 dX6_share_30 ?_
      refine lv_lstore_n (lv' := [(3, .long (pl a1.toNatClampNeg)), (0, .ref (o 0)), (1, .int a1), (2, .int a2)]) hx hb dX6_share_31 rfl hl (by decide) rfl (fun ls hl => ?_)
      refine lv_aload_n hx hb dX6_share_32 rfl (lv_at hl 1 rfl) ?_
      refine lv_iload_n hx hb dX6_share_33 rfl (lv_at hl 2 rfl) ?_
      refine lv_lload_n hx hb dX6_share_34 rfl (lv_at hl 0 rfl) ?_
      refine cT_l (As := [.long (pl a1.toNatClampNeg)]) (rest := [.int a1, .ref (o 0)]) ⟨hx, hb, hml, hown, hts⟩ (c_X3_numerator l D y _ (pl a1.toNatClampNeg)) (va_cwS 1 hts gX6_share_X3_numerator rfl rfl rfl hd_X3_numerator ⟨Nat.le_of_ble_eq_true rfl, Nat.le_of_ble_eq_true rfl⟩) hK hP hD hS hA rfl hl.1 rfl (Nat.le_of_ble_eq_true rfl) dX6_share_35 ⟨Nat.le_of_ble_eq_true rfl, Nat.le_of_ble_eq_true rfl⟩ (fun H locs hP hD hS => ?_)
      refine lv_lload_n hx hb dX6_share_38 rfl (lv_at hl 0 rfl) ?_
      refine cT_l (As := [.long (pl a1.toNatClampNeg)]) (rest := [.long (F_X3_numerator (pl a1.toNatClampNeg)), .int a1, .ref (o 0)]) ⟨hx, hb, hml, hown, hts⟩ (c_X3_denominator l D y _ (pl a1.toNatClampNeg)) (va_cwS 1 hts gX6_share_X3_denominator rfl rfl rfl hd_X3_denominator ⟨Nat.le_of_ble_eq_true rfl, Nat.le_of_ble_eq_true rfl⟩) hK hP hD hS hA rfl hl.1 rfl (Nat.le_of_ble_eq_true rfl) dX6_share_39 ⟨Nat.le_of_ble_eq_true rfl, Nat.le_of_ble_eq_true rfl⟩ (fun H locs hP hD hS => ?_)
      refine lv_iload_n hx hb dX6_share_42 rfl (lv_at hl 3 rfl) ?_
      refine lv_i2l (v := a2.toInt64) hx hb dX6_share_43 rfl ?_
      refine lv_lmul hx hb dX6_share_44 ?_
      obtain ⟨r7, g8, h⟩ := fB1 h
      refine cT_l (As := [.long (F_X3_numerator (pl a1.toNatClampNeg)), .long ((F_X3_denominator (pl a1.toNatClampNeg)) * a2.toInt64)]) (rest := [.int a1, .ref (o 0)]) ⟨hx, hb, hml, hown, hts⟩ (c_X3_inLowestTerms l D y _ (F_X3_numerator (pl a1.toNatClampNeg)) ((F_X3_denominator (pl a1.toNatClampNeg)) * a2.toInt64) r7 g8) (va_cwS 2 hts gX6_share_X3_inLowestTerms rfl rfl rfl hd_X3_inLowestTerms ⟨Nat.le_of_ble_eq_true rfl, Nat.le_of_ble_eq_true rfl⟩) hK hP hD hS hA rfl hl.1 rfl (Nat.le_of_ble_eq_true rfl) dX6_share_45 ⟨Nat.le_of_ble_eq_true rfl, Nat.le_of_ble_eq_true rfl⟩ (fun H locs hP hD hS => ?_)
      obtain ⟨k9, r10, pl11, hs12, ho13, hc14, g15, h⟩ := fB6 h
      by_cases e16 : ¬ k9 = 0
      · replace h := fF e16 h
        refine xc_V (As := [.int a1, .long r7]) (rest := []) (ws1 := (XW o y pl11 te be cn ch le rE rL rP rF rS rD hs12 ho13 hc14 sl fi)) ⟨hx, hb, hml, hown, hts⟩ (x_X6_changeIfPossible l hfl D o y _ pl te be cn ch le rE rL rP rF rS rD hs ho hc sl fi a1 r7 k9 r10 pl11 hs12 ho13 hc14 e16 g15) (cwV 2 hts gX6_share_X6_changeIfPossible rfl rfl rfl hd_X6_changeIfPossible ⟨Nat.le_of_ble_eq_true rfl, Nat.le_of_ble_eq_true rfl⟩) hK hP hD hS hA hEX [0, 1, 2, 3, 4, 5, 6, 7, 8, 9, 10, 11] [] [0, 1, 2, 3, 4, 5, 6, 7, 8, 9, 10, 11] rfl rfl rfl (by decide) rfl rfl rfl 0 (ci := 4) rfl rfl rfl hl.1 rfl (Nat.le_of_ble_eq_true rfl) dX6_share_48 ⟨Nat.le_of_ble_eq_true rfl, Nat.le_of_ble_eq_true rfl⟩ (fun H locs ce q hP hD hS hce hv hcl => ?_)
        cases h
        exact outX hQ hAe hout hlocks hK hP hD hS hce hv hcl rfl (by decide) (by decide)
      replace e16 := Classical.not_not.mp e16
      subst e16
      replace h := fT rfl h
      refine cV_i (As := [.int a1, .long r7]) (rest := []) (ws1 := (XW o y pl11 te be cn ch le rE rL rP rF rS rD hs12 ho13 hc14 sl fi)) ⟨hx, hb, hml, hown, hts⟩ (c_X6_changeIfPossible l D o y _ pl te be cn ch le rE rL rP rF rS rD hs ho hc sl fi a1 r7 r10 pl11 hs12 ho13 hc14 g15) (cwV 2 hts gX6_share_X6_changeIfPossible rfl rfl rfl hd_X6_changeIfPossible ⟨Nat.le_of_ble_eq_true rfl, Nat.le_of_ble_eq_true rfl⟩) hK hP hD hS hA [0, 1, 2, 3, 4, 5, 6, 7, 8, 9, 10, 11] [] [0, 1, 2, 3, 4, 5, 6, 7, 8, 9, 10, 11] rfl rfl rfl (by decide) rfl rfl rfl 0 (ci := 4) rfl rfl rfl hl.1 rfl (Nat.le_of_ble_eq_true rfl) dX6_share_48 ⟨Nat.le_of_ble_eq_true rfl, Nat.le_of_ble_eq_true rfl⟩ (fun H locs hP hD hS => ?_)
      exact fY hkx h
    · replace h := fF c5 h
      cases h
      exact thrS (ik := 55) (is := 94) (ic := 59) (E := "java/lang/IllegalArgumentException") (txt := "the number of guests is out of range") hx hb hfl hQ hAe hout hlocks hK hP hD hS hown rfl (by decide +kernel) q0 q1 (fun w hw => hts w (List.mem_cons_of_mem _ (List.mem_append_left _ (List.mem_append_left _ (List.mem_append_right _ hw))))) th2_59 thg_59 hEX (by decide +kernel) (hl.1.trans hml.symm) dX6_share_15 dX6_share_18 dX6_share_19 dX6_share_21 dX6_share_24 (by decide) (Nat.le_of_ble_eq_true rfl) (by decide) (by decide) (by decide) (by decide)
abbrev rm_X6_requireLimit : Room := { frames := 0, cells := 0, slots := 0, locals := 0 }
theorem hd_X6_requireLimit : yX6_requireLimit.cls ≠ "java/lang/invoke/MethodHandle" ∧ yX6_requireLimit.cls ≠ "java/lang/invoke/VarHandle" ∧ (parseMethodDescriptor yX6_requireLimit.desc).map (fun d => d.parameters.length) = some 1 := by decide +kernel
set_option maxHeartbeats 0 in
set_option maxRecDepth 100000 in
theorem c_X6_requireLimit (l : Launch) (D : va_G) (y : Nat → ClassId) (sz : Nat) (a1 : Int32) (h : F_X6_requireLimit a1 = some 0) : Met l yX6_requireLimit wsX6_requireLimit rm_X6_requireLimit (va_Pc [.int a1] (px D y sz [])) (Qrv D y sz [] []) 0 0 (va_A [] sz) := by
  refine hd_v (cc := cX6_requireLimit) (maxL := 1) rfl rfl (Nat.le_of_ble_eq_true rfl) ?_
  intro p e s m args below meth c A Q H locs ls hx hb hml hts hown _ hA hP hD hK hS hl hE
  have hl : lv_has ls 1 [(0, .int a1)] := hl
  unfold F_X6_requireLimit at h
  refine lv_iload_n hx hb dX6_requireLimit_0 rfl (lv_at hl 0 rfl) ?_
  refine lv_iconst (v := (1 : Int32)) hx hb dX6_requireLimit_1 (by decide) ?_
  refine lv_icmp_lt (tgt := 12) hx hb dX6_requireLimit_2 (by decide) (fun c1 => ?_) (fun c1 => ?_)
  · replace h := fT c1 h
    exact fX1 (show ¬ (2 : Nat) = 0 by decide) h
  · replace h := fF c1 h
    refine lv_iload_n hx hb dX6_requireLimit_5 rfl (lv_at hl 0 rfl) ?_
    refine lv_sipush (v := (1000 : Int32)) hx hb dX6_requireLimit_6 (by decide) ?_
    refine lv_icmp_le (tgt := 22) hx hb dX6_requireLimit_9 (by decide) (fun c2 => ?_) (fun c2 => ?_)
    · replace h := fT c2 h
      cases h
      exact hE _ _ _ _ dX6_requireLimit_22 hP hD hS
    · replace h := fF c2 h
      exact fX1 (show ¬ (2 : Nat) = 0 by decide) h
abbrev xrm_X6_requireLimit : Room := { frames := 6, cells := 1, slots := 6, locals := 82 }
set_option maxHeartbeats 0 in
set_option maxRecDepth 100000 in
theorem x_X6_requireLimit (l : Launch) (hfl : l.stackTraces = false) (D : va_G) (y : Nat → ClassId) (sz : Nat) (a1 : Int32) (k : Nat) (hkx : ¬ k = 0) (h : F_X6_requireLimit a1 = some k) : vx_Met l yX6_requireLimit wsX6_requireLimit xrm_X6_requireLimit (va_Pc [.int a1] (pxe D y sz [])) (QNo [] sz) (QX D y sz [] [] k) 1 6 (va_A [] sz) := by
  refine hd_x (cc := cX6_requireLimit) (maxL := 1) rfl rfl (Nat.le_of_ble_eq_true rfl) ?_
  intro p e s m args below meth c A Q H locs ls hx hb hml hts hown hA hP hD hK hS hl hEX hlocks hout hQ hAe
  have hl : lv_has ls 1 [(0, .int a1)] := hl
  have q0 := hts (.classLink RX6 55 "java/lang/IllegalArgumentException") (by decide +kernel)
  have q1 := hts (.initialized "java/lang/IllegalArgumentException") (by decide +kernel)
  unfold F_X6_requireLimit at h
  refine lv_iload_n hx hb dX6_requireLimit_0 rfl (lv_at hl 0 rfl) ?_
  refine lv_iconst (v := (1 : Int32)) hx hb dX6_requireLimit_1 (by decide) ?_
  refine lv_icmp_lt (tgt := 12) hx hb dX6_requireLimit_2 (by decide) (fun c1 => ?_) (fun c1 => ?_)
  · replace h := fT c1 h
    cases h
    exact thrS (ik := 55) (is := 247) (ic := 59) (E := "java/lang/IllegalArgumentException") (txt := "the greatest denominator is out of range") hx hb hfl hQ hAe hout hlocks hK hP hD hS hown rfl (by decide +kernel) q0 q1 (fun w hw => hts w (List.mem_cons_of_mem _ (List.mem_append_right _ hw))) th2_59 thg_59 hEX (by decide +kernel) (hl.1.trans hml.symm) dX6_requireLimit_12 dX6_requireLimit_15 dX6_requireLimit_16 dX6_requireLimit_18 dX6_requireLimit_21 (by decide) (Nat.le_of_ble_eq_true rfl) (by decide) (by decide) (by decide) (by decide)
  · replace h := fF c1 h
    refine lv_iload_n hx hb dX6_requireLimit_5 rfl (lv_at hl 0 rfl) ?_
    refine lv_sipush (v := (1000 : Int32)) hx hb dX6_requireLimit_6 (by decide) ?_
    refine lv_icmp_le (tgt := 22) hx hb dX6_requireLimit_9 (by decide) (fun c2 => ?_) (fun c2 => ?_)
    · replace h := fT c2 h
      exact fY1 hkx h
    · replace h := fF c2 h
      cases h
      exact thrS (ik := 55) (is := 247) (ic := 59) (E := "java/lang/IllegalArgumentException") (txt := "the greatest denominator is out of range") hx hb hfl hQ hAe hout hlocks hK hP hD hS hown rfl (by decide +kernel) q0 q1 (fun w hw => hts w (List.mem_cons_of_mem _ (List.mem_append_right _ hw))) th2_59 thg_59 hEX (by decide +kernel) (hl.1.trans hml.symm) dX6_requireLimit_12 dX6_requireLimit_15 dX6_requireLimit_16 dX6_requireLimit_18 dX6_requireLimit_21 (by decide) (Nat.le_of_ble_eq_true rfl) (by decide) (by decide) (by decide) (by decide)
abbrev rm_X6_nearest : Room := { frames := 5, cells := 0, slots := 0, locals := 116 }
theorem hd_X6_nearest : yX6_nearest.cls = RX6 ∧ yX6_nearest.cls ≠ "java/lang/invoke/MethodHandle" ∧ yX6_nearest.cls ≠ "java/lang/invoke/VarHandle" ∧ (parseMethodDescriptor yX6_nearest.desc).map (fun d => d.parameters.length) = some 2 := by decide +kernel
set_option maxHeartbeats 0 in
set_option maxRecDepth 100000 in
theorem c_X6_nearest (l : Launch) (D : va_G) (o : Nat → Nat) (y : Nat → ClassId) (sz : Nat) (pl : Nat → Int64) (te : Nat → Int32) (be : Nat → Int64) (cn : Int32) (ch : Nat → Int32) (le : Int32) (rE : Int32) (rL : Int32) (rP : Int32) (rF : Int32) (rS : Int32) (rD : Int32) (hs : Nat → Int64) (ho : Int32) (hc : Int32) (sl : Nat → Int64) (fi : Nat → Int32) (a1 : Int32) (a2 : Int32) (r : Int64) (te' : Nat → Int32) (be' : Nat → Int64) (cn' : Int32) (h : F_X6_nearest pl te be cn a1 a2 = some (0, r, te', be', cn')) : Met l yX6_nearest wsX6_nearest rm_X6_nearest (va_Pc [.ref (o 0), .int a1, .int a2] (px D y sz (XW o y pl te be cn ch le rE rL rP rF rS rD hs ho hc sl fi))) (Qrl D y sz (XW o y pl te be cn ch le rE rL rP rF rS rD hs ho hc sl fi) (XW o y pl te' be' cn' ch le rE rL rP rF rS rD hs ho hc sl fi) r) 0 0 (va_A (XW o y pl te be cn ch le rE rL rP rF rS rD hs ho hc sl fi) sz) := by
  refine hd_l (cc := cX6_nearest) (maxL := 3) rfl rfl (Nat.le_of_ble_eq_true rfl) ?_
  intro p e s m args below meth c A Q H locs ls hx hb hml hts hown _ hA hP hD hK hS hl hE
  have hl : lv_has ls 3 [(0, .ref (o 0)), (1, .int a1), (2, .int a2)] := hl
  have q0 := hts (.fieldLink RX6 18 "SliceShares" "continued" "LSliceShares$ContinuedFraction;") (by decide +kernel)
  have q1 := hts (.fieldLink RX6 9 "SliceShares" "plates" "[J") (by decide +kernel)
  have hinRX6 : ∀ w ∈ wsX60, w ∈ wsX6_nearest := by decide +kernel
  unfold F_X6_nearest at h
  refine lv_iload_n hx hb dX6_nearest_0 rfl (lv_at hl 1 rfl) ?_
  obtain ⟨k1, g2, h⟩ := fB1 h
  by_cases e3 : ¬ k1 = 0
  · replace h := fF e3 h
    exact fX e3 h
  replace e3 := Classical.not_not.mp e3
  subst e3
  replace h := fT rfl h
  refine cT_v (As := [.int a1]) (rest := []) ⟨hx, hb, hml, hown, hts⟩ (c_X6_requirePlate l D y _ a1 g2) (va_cwS 1 hts gX6_nearest_X6_requirePlate rfl rfl rfl hd_X6_requirePlate ⟨Nat.le_of_ble_eq_true rfl, Nat.le_of_ble_eq_true rfl⟩) hK hP hD hS hA rfl hl.1 rfl (Nat.le_of_ble_eq_true rfl) dX6_nearest_1 ⟨Nat.le_of_ble_eq_true rfl, Nat.le_of_ble_eq_true rfl⟩ (fun H locs hP hD hS => ?_)
  refine lv_iload_n hx hb dX6_nearest_4 rfl (lv_at hl 2 rfl) ?_
  obtain ⟨k4, g5, h⟩ := fB1 h
  by_cases e6 : ¬ k4 = 0
  · replace h := fF e6 h
    exact fX e6 h
  replace e6 := Classical.not_not.mp e6
  subst e6
  replace h := fT rfl h
  refine cT_v (As := [.int a2]) (rest := []) ⟨hx, hb, hml, hown, hts⟩ (c_X6_requireLimit l D y _ a2 g5) (va_cwS 1 hts gX6_nearest_X6_requireLimit rfl rfl rfl hd_X6_requireLimit ⟨Nat.le_of_ble_eq_true rfl, Nat.le_of_ble_eq_true rfl⟩) hK hP hD hS hA rfl hl.1 rfl (Nat.le_of_ble_eq_true rfl) dX6_nearest_5 ⟨Nat.le_of_ble_eq_true rfl, Nat.le_of_ble_eq_true rfl⟩ (fun H locs hP hD hS => ?_)
  refine lv_aload_n hx hb dX6_nearest_8 rfl (lv_at hl 0 rfl) ?_
  refine va_get (D := D) (ci := 4) (C := RX6) (T := TX6) (N := 7) hx hb hts hinRX6 hown hK hP 0 rfl rfl 1 (by decide) q0 (fun _ h9 => h9) rfl dX6_nearest_9 ?_
  refine lv_aload_n hx hb dX6_nearest_12 rfl (lv_at hl 0 rfl) ?_
  refine va_get (D := D) (ci := 4) (C := RX6) (T := TX6) (N := 7) hx hb hts hinRX6 hown hK hP 0 rfl rfl 0 (by decide) q1 (fun _ h9 => h9) rfl dX6_nearest_13 ?_
  refine lv_iload_n hx hb dX6_nearest_16 rfl (lv_at hl 1 rfl) ?_
  obtain ⟨g7, h⟩ := fG h
  refine va_lald hx hb hK hP 1 1 rfl rfl g7 dX6_nearest_17 ?_
  obtain ⟨te8, be9, cn10, g11, h⟩ := fB3 h
  refine cV_v (As := [.long (pl a1.toNatClampNeg)]) (rest := []) (ws1 := (XW o y pl te8 be9 cn10 ch le rE rL rP rF rS rD hs ho hc sl fi)) ⟨hx, hb, hml, hown, hts⟩ (c_X2_expand l D o y _ te be cn (pl a1.toNatClampNeg) te8 be9 cn10 g11) (cwV 1 hts gX6_nearest_X2_expand rfl rfl rfl hd_X2_expand ⟨Nat.le_of_ble_eq_true rfl, Nat.le_of_ble_eq_true rfl⟩) hK hP hD hS hA [2, 3, 4] [0, 1, 5, 6, 7, 8, 9, 10, 11] [0, 1, 9, 10, 11, 2, 3, 4, 5, 6, 7, 8] rfl rfl rfl (by decide) rfl rfl rfl 0 (ci := 2) rfl rfl rfl hl.1 rfl (Nat.le_of_ble_eq_true rfl) dX6_nearest_18 ⟨Nat.le_of_ble_eq_true rfl, Nat.le_of_ble_eq_true rfl⟩ (fun H locs hP hD hS => ?_)
  refine lv_aload_n hx hb dX6_nearest_21 rfl (lv_at hl 0 rfl) ?_
  refine va_get (D := D) (ci := 4) (C := RX6) (T := TX6) (N := 7) hx hb hts hinRX6 hown hK hP 0 rfl rfl 1 (by decide) q0 (fun _ h9 => h9) rfl dX6_nearest_22 ?_
  refine lv_iload_n hx hb dX6_nearest_25 rfl (lv_at hl 2 rfl) ?_
  obtain ⟨r12, g13, h⟩ := fB1 h
  refine cV_l (As := [.int a2]) (rest := []) (ws1 := (XW o y pl te8 be9 cn10 ch le rE rL rP rF rS rD hs ho hc sl fi)) ⟨hx, hb, hml, hown, hts⟩ (c_X2_nearest l D o y _ te8 be9 cn10 a2 r12 g13) (cwV 1 hts gX6_nearest_X2_nearest rfl rfl rfl hd_X2_nearest ⟨Nat.le_of_ble_eq_true rfl, Nat.le_of_ble_eq_true rfl⟩) hK hP hD hS hA [2, 3, 4] [0, 1, 5, 6, 7, 8, 9, 10, 11] [0, 1, 9, 10, 11, 2, 3, 4, 5, 6, 7, 8] rfl rfl rfl (by decide) rfl rfl rfl 0 (ci := 2) rfl rfl rfl hl.1 rfl (Nat.le_of_ble_eq_true rfl) dX6_nearest_26 ⟨Nat.le_of_ble_eq_true rfl, Nat.le_of_ble_eq_true rfl⟩ (fun H locs hP hD hS => ?_)
  cases h
  exact hE _ _ _ _ dX6_nearest_29 hP hD hS
abbrev xrm_X6_nearest : Room := { frames := 7, cells := 1, slots := 6, locals := 116 }
set_option maxHeartbeats 0 in
set_option maxRecDepth 100000 in
theorem x_X6_nearest (l : Launch) (hfl : l.stackTraces = false) (D : va_G) (o : Nat → Nat) (y : Nat → ClassId) (sz : Nat) (pl : Nat → Int64) (te : Nat → Int32) (be : Nat → Int64) (cn : Int32) (ch : Nat → Int32) (le : Int32) (rE : Int32) (rL : Int32) (rP : Int32) (rF : Int32) (rS : Int32) (rD : Int32) (hs : Nat → Int64) (ho : Int32) (hc : Int32) (sl : Nat → Int64) (fi : Nat → Int32) (a1 : Int32) (a2 : Int32) (k : Nat) (r : Int64) (te' : Nat → Int32) (be' : Nat → Int64) (cn' : Int32) (hkx : ¬ k = 0) (h : F_X6_nearest pl te be cn a1 a2 = some (k, r, te', be', cn')) : vx_Met l yX6_nearest wsX6_nearest xrm_X6_nearest (va_Pc [.ref (o 0), .int a1, .int a2] (pxe D y sz (XW o y pl te be cn ch le rE rL rP rF rS rD hs ho hc sl fi))) (QNo (XW o y pl te be cn ch le rE rL rP rF rS rD hs ho hc sl fi) sz) (QX D y sz (XW o y pl te be cn ch le rE rL rP rF rS rD hs ho hc sl fi) (XW o y pl te' be' cn' ch le rE rL rP rF rS rD hs ho hc sl fi) k) 1 6 (va_A (XW o y pl te be cn ch le rE rL rP rF rS rD hs ho hc sl fi) sz) := by
  refine hd_x (cc := cX6_nearest) (maxL := 3) rfl rfl (Nat.le_of_ble_eq_true rfl) ?_
  intro p e s m args below meth c A Q H locs ls hx hb hml hts hown hA hP hD hK hS hl hEX hlocks hout hQ hAe
  have hl : lv_has ls 3 [(0, .ref (o 0)), (1, .int a1), (2, .int a2)] := hl
  have q0 := hts (.fieldLink RX6 18 "SliceShares" "continued" "LSliceShares$ContinuedFraction;") (by decide +kernel)
  have q1 := hts (.fieldLink RX6 9 "SliceShares" "plates" "[J") (by decide +kernel)
  have hinRX6 : ∀ w ∈ wsX60, w ∈ wsX6_nearest := by decide +kernel
  unfold F_X6_nearest at h
  refine lv_iload_n hx hb dX6_nearest_0 rfl (lv_at hl 1 rfl) ?_
  obtain ⟨k1, g2, h⟩ := fB1 h
  by_cases e3 : ¬ k1 = 0
  · replace h := fF e3 h
    refine xc_S (As := [.int a1]) (rest := []) (ws1 := (XW o y pl te be cn ch le rE rL rP rF rS rD hs ho hc sl fi)) ⟨hx, hb, hml, hown, hts⟩ (x_X6_requirePlate l hfl D y _ a1 k1 e3 g2) (va_cwS 1 hts gX6_nearest_X6_requirePlate rfl rfl rfl hd_X6_requirePlate ⟨Nat.le_of_ble_eq_true rfl, Nat.le_of_ble_eq_true rfl⟩) hK hP hD hS hA hEX [] [0, 1, 2, 3, 4, 5, 6, 7, 8, 9, 10, 11] [0, 1, 2, 3, 4, 5, 6, 7, 8, 9, 10, 11] rfl rfl rfl (by decide) rfl rfl rfl rfl hl.1 rfl (Nat.le_of_ble_eq_true rfl) dX6_nearest_1 ⟨Nat.le_of_ble_eq_true rfl, Nat.le_of_ble_eq_true rfl⟩ (fun H locs ce q hP hD hS hce hv hcl => ?_)
    cases h
    exact outX hQ hAe hout hlocks hK hP hD hS hce hv hcl rfl (by decide) (by decide)
  replace e3 := Classical.not_not.mp e3
  subst e3
  replace h := fT rfl h
  refine cT_v (As := [.int a1]) (rest := []) ⟨hx, hb, hml, hown, hts⟩ (c_X6_requirePlate l D y _ a1 g2) (va_cwS 1 hts gX6_nearest_X6_requirePlate rfl rfl rfl hd_X6_requirePlate ⟨Nat.le_of_ble_eq_true rfl, Nat.le_of_ble_eq_true rfl⟩) hK hP hD hS hA rfl hl.1 rfl (Nat.le_of_ble_eq_true rfl) dX6_nearest_1 ⟨Nat.le_of_ble_eq_true rfl, Nat.le_of_ble_eq_true rfl⟩ (fun H locs hP hD hS => ?_)
  refine lv_iload_n hx hb dX6_nearest_4 rfl (lv_at hl 2 rfl) ?_
  obtain ⟨k4, g5, h⟩ := fB1 h
  by_cases e6 : ¬ k4 = 0
  · replace h := fF e6 h
    refine xc_S (As := [.int a2]) (rest := []) (ws1 := (XW o y pl te be cn ch le rE rL rP rF rS rD hs ho hc sl fi)) ⟨hx, hb, hml, hown, hts⟩ (x_X6_requireLimit l hfl D y _ a2 k4 e6 g5) (va_cwS 1 hts gX6_nearest_X6_requireLimit rfl rfl rfl hd_X6_requireLimit ⟨Nat.le_of_ble_eq_true rfl, Nat.le_of_ble_eq_true rfl⟩) hK hP hD hS hA hEX [] [0, 1, 2, 3, 4, 5, 6, 7, 8, 9, 10, 11] [0, 1, 2, 3, 4, 5, 6, 7, 8, 9, 10, 11] rfl rfl rfl (by decide) rfl rfl rfl rfl hl.1 rfl (Nat.le_of_ble_eq_true rfl) dX6_nearest_5 ⟨Nat.le_of_ble_eq_true rfl, Nat.le_of_ble_eq_true rfl⟩ (fun H locs ce q hP hD hS hce hv hcl => ?_)
    cases h
    exact outX hQ hAe hout hlocks hK hP hD hS hce hv hcl rfl (by decide) (by decide)
  replace e6 := Classical.not_not.mp e6
  subst e6
  replace h := fT rfl h
  refine cT_v (As := [.int a2]) (rest := []) ⟨hx, hb, hml, hown, hts⟩ (c_X6_requireLimit l D y _ a2 g5) (va_cwS 1 hts gX6_nearest_X6_requireLimit rfl rfl rfl hd_X6_requireLimit ⟨Nat.le_of_ble_eq_true rfl, Nat.le_of_ble_eq_true rfl⟩) hK hP hD hS hA rfl hl.1 rfl (Nat.le_of_ble_eq_true rfl) dX6_nearest_5 ⟨Nat.le_of_ble_eq_true rfl, Nat.le_of_ble_eq_true rfl⟩ (fun H locs hP hD hS => ?_)
  refine lv_aload_n hx hb dX6_nearest_8 rfl (lv_at hl 0 rfl) ?_
  refine va_get (D := D) (ci := 4) (C := RX6) (T := TX6) (N := 7) hx hb hts hinRX6 hown hK hP 0 rfl rfl 1 (by decide) q0 (fun _ h9 => h9) rfl dX6_nearest_9 ?_
  refine lv_aload_n hx hb dX6_nearest_12 rfl (lv_at hl 0 rfl) ?_
  refine va_get (D := D) (ci := 4) (C := RX6) (T := TX6) (N := 7) hx hb hts hinRX6 hown hK hP 0 rfl rfl 0 (by decide) q1 (fun _ h9 => h9) rfl dX6_nearest_13 ?_
  refine lv_iload_n hx hb dX6_nearest_16 rfl (lv_at hl 1 rfl) ?_
  obtain ⟨g7, h⟩ := fG h
  refine va_lald hx hb hK hP 1 1 rfl rfl g7 dX6_nearest_17 ?_
  obtain ⟨te8, be9, cn10, g11, h⟩ := fB3 h
  refine cV_v (As := [.long (pl a1.toNatClampNeg)]) (rest := []) (ws1 := (XW o y pl te8 be9 cn10 ch le rE rL rP rF rS rD hs ho hc sl fi)) ⟨hx, hb, hml, hown, hts⟩ (c_X2_expand l D o y _ te be cn (pl a1.toNatClampNeg) te8 be9 cn10 g11) (cwV 1 hts gX6_nearest_X2_expand rfl rfl rfl hd_X2_expand ⟨Nat.le_of_ble_eq_true rfl, Nat.le_of_ble_eq_true rfl⟩) hK hP hD hS hA [2, 3, 4] [0, 1, 5, 6, 7, 8, 9, 10, 11] [0, 1, 9, 10, 11, 2, 3, 4, 5, 6, 7, 8] rfl rfl rfl (by decide) rfl rfl rfl 0 (ci := 2) rfl rfl rfl hl.1 rfl (Nat.le_of_ble_eq_true rfl) dX6_nearest_18 ⟨Nat.le_of_ble_eq_true rfl, Nat.le_of_ble_eq_true rfl⟩ (fun H locs hP hD hS => ?_)
  refine lv_aload_n hx hb dX6_nearest_21 rfl (lv_at hl 0 rfl) ?_
  refine va_get (D := D) (ci := 4) (C := RX6) (T := TX6) (N := 7) hx hb hts hinRX6 hown hK hP 0 rfl rfl 1 (by decide) q0 (fun _ h9 => h9) rfl dX6_nearest_22 ?_
  refine lv_iload_n hx hb dX6_nearest_25 rfl (lv_at hl 2 rfl) ?_
  obtain ⟨r12, g13, h⟩ := fB1 h
  refine cV_l (As := [.int a2]) (rest := []) (ws1 := (XW o y pl te8 be9 cn10 ch le rE rL rP rF rS rD hs ho hc sl fi)) ⟨hx, hb, hml, hown, hts⟩ (c_X2_nearest l D o y _ te8 be9 cn10 a2 r12 g13) (cwV 1 hts gX6_nearest_X2_nearest rfl rfl rfl hd_X2_nearest ⟨Nat.le_of_ble_eq_true rfl, Nat.le_of_ble_eq_true rfl⟩) hK hP hD hS hA [2, 3, 4] [0, 1, 5, 6, 7, 8, 9, 10, 11] [0, 1, 9, 10, 11, 2, 3, 4, 5, 6, 7, 8] rfl rfl rfl (by decide) rfl rfl rfl 0 (ci := 2) rfl rfl rfl hl.1 rfl (Nat.le_of_ble_eq_true rfl) dX6_nearest_26 ⟨Nat.le_of_ble_eq_true rfl, Nat.le_of_ble_eq_true rfl⟩ (fun H locs hP hD hS => ?_)
  exact fY hkx h
abbrev rm_X6_roundTo : Room := { frames := 6, cells := 0, slots := 0, locals := 138 }
theorem hd_X6_roundTo : yX6_roundTo.cls = RX6 ∧ yX6_roundTo.cls ≠ "java/lang/invoke/MethodHandle" ∧ yX6_roundTo.cls ≠ "java/lang/invoke/VarHandle" ∧ (parseMethodDescriptor yX6_roundTo.desc).map (fun d => d.parameters.length) = some 2 := by decide +kernel
set_option maxHeartbeats 0 in
set_option maxRecDepth 100000 in
theorem c_X6_roundTo (l : Launch) (D : va_G) (o : Nat → Nat) (y : Nat → ClassId) (sz : Nat) (pl : Nat → Int64) (te : Nat → Int32) (be : Nat → Int64) (cn : Int32) (ch : Nat → Int32) (le : Int32) (rE : Int32) (rL : Int32) (rP : Int32) (rF : Int32) (rS : Int32) (rD : Int32) (hs : Nat → Int64) (ho : Int32) (hc : Int32) (sl : Nat → Int64) (fi : Nat → Int32) (a1 : Int32) (a2 : Int32) (r : Int32) (pl' : Nat → Int64) (te' : Nat → Int32) (be' : Nat → Int64) (cn' : Int32) (hs' : Nat → Int64) (ho' : Int32) (hc' : Int32) (h : F_X6_roundTo pl te be cn hs ho hc a1 a2 = some (0, r, pl', te', be', cn', hs', ho', hc')) : Met l yX6_roundTo wsX6_roundTo rm_X6_roundTo (va_Pc [.ref (o 0), .int a1, .int a2] (px D y sz (XW o y pl te be cn ch le rE rL rP rF rS rD hs ho hc sl fi))) (Qri D y sz (XW o y pl te be cn ch le rE rL rP rF rS rD hs ho hc sl fi) (XW o y pl' te' be' cn' ch le rE rL rP rF rS rD hs' ho' hc' sl fi) r) 0 0 (va_A (XW o y pl te be cn ch le rE rL rP rF rS rD hs ho hc sl fi) sz) := by
  refine hd_i (cc := cX6_roundTo) (maxL := 3) rfl rfl (Nat.le_of_ble_eq_true rfl) ?_
  intro p e s m args below meth c A Q H locs ls hx hb hml hts hown _ hA hP hD hK hS hl hE
  have hl : lv_has ls 3 [(0, .ref (o 0)), (1, .int a1), (2, .int a2)] := hl
  unfold F_X6_roundTo at h
  refine lv_aload_n hx hb dX6_roundTo_0 rfl (lv_at hl 0 rfl) ?_
  refine lv_iload_n hx hb dX6_roundTo_1 rfl (lv_at hl 1 rfl) ?_
  refine lv_aload_n hx hb dX6_roundTo_2 rfl (lv_at hl 0 rfl) ?_
  refine lv_iload_n hx hb dX6_roundTo_3 rfl (lv_at hl 1 rfl) ?_
  refine lv_iload_n hx hb dX6_roundTo_4 rfl (lv_at hl 2 rfl) ?_
  obtain ⟨k1, r2, te3, be4, cn5, g6, h⟩ := fB5 h
  by_cases e7 : ¬ k1 = 0
  · replace h := fF e7 h
    exact fX e7 h
  replace e7 := Classical.not_not.mp e7
  subst e7
  replace h := fT rfl h
  refine cV_l (As := [.int a1, .int a2]) (rest := [.int a1, .ref (o 0)]) (ws1 := (XW o y pl te3 be4 cn5 ch le rE rL rP rF rS rD hs ho hc sl fi)) ⟨hx, hb, hml, hown, hts⟩ (c_X6_nearest l D o y _ pl te be cn ch le rE rL rP rF rS rD hs ho hc sl fi a1 a2 r2 te3 be4 cn5 g6) (cwV 2 hts gX6_roundTo_X6_nearest rfl rfl rfl hd_X6_nearest ⟨Nat.le_of_ble_eq_true rfl, Nat.le_of_ble_eq_true rfl⟩) hK hP hD hS hA [0, 1, 2, 3, 4, 5, 6, 7, 8, 9, 10, 11] [] [0, 1, 2, 3, 4, 5, 6, 7, 8, 9, 10, 11] rfl rfl rfl (by decide) rfl rfl rfl 0 (ci := 4) rfl rfl rfl hl.1 rfl (Nat.le_of_ble_eq_true rfl) dX6_roundTo_5 ⟨Nat.le_of_ble_eq_true rfl, Nat.le_of_ble_eq_true rfl⟩ (fun H locs hP hD hS => ?_)
  obtain ⟨r8, pl9, hs10, ho11, hc12, g13, h⟩ := fB5 h
  refine cV_i (As := [.int a1, .long r2]) (rest := []) (ws1 := (XW o y pl9 te3 be4 cn5 ch le rE rL rP rF rS rD hs10 ho11 hc12 sl fi)) ⟨hx, hb, hml, hown, hts⟩ (c_X6_change l D o y _ pl te3 be4 cn5 ch le rE rL rP rF rS rD hs ho hc sl fi a1 r2 r8 pl9 hs10 ho11 hc12 g13) (cwV 2 hts gX6_roundTo_X6_change rfl rfl rfl hd_X6_change ⟨Nat.le_of_ble_eq_true rfl, Nat.le_of_ble_eq_true rfl⟩) hK hP hD hS hA [0, 1, 2, 3, 4, 5, 6, 7, 8, 9, 10, 11] [] [0, 1, 2, 3, 4, 5, 6, 7, 8, 9, 10, 11] rfl rfl rfl (by decide) rfl rfl rfl 0 (ci := 4) rfl rfl rfl hl.1 rfl (Nat.le_of_ble_eq_true rfl) dX6_roundTo_8 ⟨Nat.le_of_ble_eq_true rfl, Nat.le_of_ble_eq_true rfl⟩ (fun H locs hP hD hS => ?_)
  cases h
  exact hE _ _ _ _ dX6_roundTo_11 hP hD hS
abbrev xrm_X6_roundTo : Room := { frames := 8, cells := 1, slots := 6, locals := 138 }
set_option maxHeartbeats 0 in
set_option maxRecDepth 100000 in
theorem x_X6_roundTo (l : Launch) (hfl : l.stackTraces = false) (D : va_G) (o : Nat → Nat) (y : Nat → ClassId) (sz : Nat) (pl : Nat → Int64) (te : Nat → Int32) (be : Nat → Int64) (cn : Int32) (ch : Nat → Int32) (le : Int32) (rE : Int32) (rL : Int32) (rP : Int32) (rF : Int32) (rS : Int32) (rD : Int32) (hs : Nat → Int64) (ho : Int32) (hc : Int32) (sl : Nat → Int64) (fi : Nat → Int32) (a1 : Int32) (a2 : Int32) (k : Nat) (r : Int32) (pl' : Nat → Int64) (te' : Nat → Int32) (be' : Nat → Int64) (cn' : Int32) (hs' : Nat → Int64) (ho' : Int32) (hc' : Int32) (hkx : ¬ k = 0) (h : F_X6_roundTo pl te be cn hs ho hc a1 a2 = some (k, r, pl', te', be', cn', hs', ho', hc')) : vx_Met l yX6_roundTo wsX6_roundTo xrm_X6_roundTo (va_Pc [.ref (o 0), .int a1, .int a2] (pxe D y sz (XW o y pl te be cn ch le rE rL rP rF rS rD hs ho hc sl fi))) (QNo (XW o y pl te be cn ch le rE rL rP rF rS rD hs ho hc sl fi) sz) (QX D y sz (XW o y pl te be cn ch le rE rL rP rF rS rD hs ho hc sl fi) (XW o y pl' te' be' cn' ch le rE rL rP rF rS rD hs' ho' hc' sl fi) k) 1 6 (va_A (XW o y pl te be cn ch le rE rL rP rF rS rD hs ho hc sl fi) sz) := by
  refine hd_x (cc := cX6_roundTo) (maxL := 3) rfl rfl (Nat.le_of_ble_eq_true rfl) ?_
  intro p e s m args below meth c A Q H locs ls hx hb hml hts hown hA hP hD hK hS hl hEX hlocks hout hQ hAe
  have hl : lv_has ls 3 [(0, .ref (o 0)), (1, .int a1), (2, .int a2)] := hl
  unfold F_X6_roundTo at h
  refine lv_aload_n hx hb dX6_roundTo_0 rfl (lv_at hl 0 rfl) ?_
  refine lv_iload_n hx hb dX6_roundTo_1 rfl (lv_at hl 1 rfl) ?_
  refine lv_aload_n hx hb dX6_roundTo_2 rfl (lv_at hl 0 rfl) ?_
  refine lv_iload_n hx hb dX6_roundTo_3 rfl (lv_at hl 1 rfl) ?_
  refine lv_iload_n hx hb dX6_roundTo_4 rfl (lv_at hl 2 rfl) ?_
  obtain ⟨k1, r2, te3, be4, cn5, g6, h⟩ := fB5 h
  by_cases e7 : ¬ k1 = 0
  · replace h := fF e7 h
    refine xc_V (As := [.int a1, .int a2]) (rest := [.int a1, .ref (o 0)]) (ws1 := (XW o y pl te3 be4 cn5 ch le rE rL rP rF rS rD hs ho hc sl fi)) ⟨hx, hb, hml, hown, hts⟩ (x_X6_nearest l hfl D o y _ pl te be cn ch le rE rL rP rF rS rD hs ho hc sl fi a1 a2 k1 r2 te3 be4 cn5 e7 g6) (cwV 2 hts gX6_roundTo_X6_nearest rfl rfl rfl hd_X6_nearest ⟨Nat.le_of_ble_eq_true rfl, Nat.le_of_ble_eq_true rfl⟩) hK hP hD hS hA hEX [0, 1, 2, 3, 4, 5, 6, 7, 8, 9, 10, 11] [] [0, 1, 2, 3, 4, 5, 6, 7, 8, 9, 10, 11] rfl rfl rfl (by decide) rfl rfl rfl 0 (ci := 4) rfl rfl rfl hl.1 rfl (Nat.le_of_ble_eq_true rfl) dX6_roundTo_5 ⟨Nat.le_of_ble_eq_true rfl, Nat.le_of_ble_eq_true rfl⟩ (fun H locs ce q hP hD hS hce hv hcl => ?_)
    cases h
    exact outX hQ hAe hout hlocks hK hP hD hS hce hv hcl rfl (by decide) (by decide)
  replace e7 := Classical.not_not.mp e7
  subst e7
  replace h := fT rfl h
  refine cV_l (As := [.int a1, .int a2]) (rest := [.int a1, .ref (o 0)]) (ws1 := (XW o y pl te3 be4 cn5 ch le rE rL rP rF rS rD hs ho hc sl fi)) ⟨hx, hb, hml, hown, hts⟩ (c_X6_nearest l D o y _ pl te be cn ch le rE rL rP rF rS rD hs ho hc sl fi a1 a2 r2 te3 be4 cn5 g6) (cwV 2 hts gX6_roundTo_X6_nearest rfl rfl rfl hd_X6_nearest ⟨Nat.le_of_ble_eq_true rfl, Nat.le_of_ble_eq_true rfl⟩) hK hP hD hS hA [0, 1, 2, 3, 4, 5, 6, 7, 8, 9, 10, 11] [] [0, 1, 2, 3, 4, 5, 6, 7, 8, 9, 10, 11] rfl rfl rfl (by decide) rfl rfl rfl 0 (ci := 4) rfl rfl rfl hl.1 rfl (Nat.le_of_ble_eq_true rfl) dX6_roundTo_5 ⟨Nat.le_of_ble_eq_true rfl, Nat.le_of_ble_eq_true rfl⟩ (fun H locs hP hD hS => ?_)
  obtain ⟨r8, pl9, hs10, ho11, hc12, g13, h⟩ := fB5 h
  refine cV_i (As := [.int a1, .long r2]) (rest := []) (ws1 := (XW o y pl9 te3 be4 cn5 ch le rE rL rP rF rS rD hs10 ho11 hc12 sl fi)) ⟨hx, hb, hml, hown, hts⟩ (c_X6_change l D o y _ pl te3 be4 cn5 ch le rE rL rP rF rS rD hs ho hc sl fi a1 r2 r8 pl9 hs10 ho11 hc12 g13) (cwV 2 hts gX6_roundTo_X6_change rfl rfl rfl hd_X6_change ⟨Nat.le_of_ble_eq_true rfl, Nat.le_of_ble_eq_true rfl⟩) hK hP hD hS hA [0, 1, 2, 3, 4, 5, 6, 7, 8, 9, 10, 11] [] [0, 1, 2, 3, 4, 5, 6, 7, 8, 9, 10, 11] rfl rfl rfl (by decide) rfl rfl rfl 0 (ci := 4) rfl rfl rfl hl.1 rfl (Nat.le_of_ble_eq_true rfl) dX6_roundTo_8 ⟨Nat.le_of_ble_eq_true rfl, Nat.le_of_ble_eq_true rfl⟩ (fun H locs hP hD hS => ?_)
  exact fY hkx h
abbrev rm_X6_numeratorOf : Room := { frames := 2, cells := 0, slots := 0, locals := 40 }
theorem hd_X6_numeratorOf : yX6_numeratorOf.cls = RX6 ∧ yX6_numeratorOf.cls ≠ "java/lang/invoke/MethodHandle" ∧ yX6_numeratorOf.cls ≠ "java/lang/invoke/VarHandle" ∧ (parseMethodDescriptor yX6_numeratorOf.desc).map (fun d => d.parameters.length) = some 1 := by decide +kernel
set_option maxHeartbeats 0 in
set_option maxRecDepth 100000 in
theorem c_X6_numeratorOf (l : Launch) (D : va_G) (o : Nat → Nat) (y : Nat → ClassId) (sz : Nat) (pl : Nat → Int64) (te : Nat → Int32) (be : Nat → Int64) (cn : Int32) (ch : Nat → Int32) (le : Int32) (rE : Int32) (rL : Int32) (rP : Int32) (rF : Int32) (rS : Int32) (rD : Int32) (hs : Nat → Int64) (ho : Int32) (hc : Int32) (sl : Nat → Int64) (fi : Nat → Int32) (a1 : Int32) (r : Int32) (h : F_X6_numeratorOf pl a1 = some (0, r)) : Met l yX6_numeratorOf wsX6_numeratorOf rm_X6_numeratorOf (va_Pc [.ref (o 0), .int a1] (px D y sz (XW o y pl te be cn ch le rE rL rP rF rS rD hs ho hc sl fi))) (Qri D y sz (XW o y pl te be cn ch le rE rL rP rF rS rD hs ho hc sl fi) (XW o y pl te be cn ch le rE rL rP rF rS rD hs ho hc sl fi) r) 0 0 (va_A (XW o y pl te be cn ch le rE rL rP rF rS rD hs ho hc sl fi) sz) := by
  refine hd_i (cc := cX6_numeratorOf) (maxL := 2) rfl rfl (Nat.le_of_ble_eq_true rfl) ?_
  intro p e s m args below meth c A Q H locs ls hx hb hml hts hown _ hA hP hD hK hS hl hE
  have hl : lv_has ls 2 [(0, .ref (o 0)), (1, .int a1)] := hl
  have q0 := hts (.fieldLink RX6 9 "SliceShares" "plates" "[J") (by decide +kernel)
  have hinRX6 : ∀ w ∈ wsX60, w ∈ wsX6_numeratorOf := by decide +kernel
  unfold F_X6_numeratorOf at h
  refine lv_iload_n hx hb dX6_numeratorOf_0 rfl (lv_at hl 1 rfl) ?_
  obtain ⟨k1, g2, h⟩ := fB1 h
  by_cases e3 : ¬ k1 = 0
  · replace h := fF e3 h
    exact fX e3 h
  replace e3 := Classical.not_not.mp e3
  subst e3
  replace h := fT rfl h
  refine cT_v (As := [.int a1]) (rest := []) ⟨hx, hb, hml, hown, hts⟩ (c_X6_requirePlate l D y _ a1 g2) (va_cwS 1 hts gX6_numeratorOf_X6_requirePlate rfl rfl rfl hd_X6_requirePlate ⟨Nat.le_of_ble_eq_true rfl, Nat.le_of_ble_eq_true rfl⟩) hK hP hD hS hA rfl hl.1 rfl (Nat.le_of_ble_eq_true rfl) dX6_numeratorOf_1 ⟨Nat.le_of_ble_eq_true rfl, Nat.le_of_ble_eq_true rfl⟩ (fun H locs hP hD hS => ?_)
  refine lv_aload_n hx hb dX6_numeratorOf_4 rfl (lv_at hl 0 rfl) ?_
  refine va_get (D := D) (ci := 4) (C := RX6) (T := TX6) (N := 7) hx hb hts hinRX6 hown hK hP 0 rfl rfl 0 (by decide) q0 (fun _ h9 => h9) rfl dX6_numeratorOf_5 ?_
  refine lv_iload_n hx hb dX6_numeratorOf_8 rfl (lv_at hl 1 rfl) ?_
  obtain ⟨g4, h⟩ := fG h
  refine va_lald hx hb hK hP 1 1 rfl rfl g4 dX6_numeratorOf_9 ?_
  refine cT_l (As := [.long (pl a1.toNatClampNeg)]) (rest := []) ⟨hx, hb, hml, hown, hts⟩ (c_X3_numerator l D y _ (pl a1.toNatClampNeg)) (va_cwS 1 hts gX6_numeratorOf_X3_numerator rfl rfl rfl hd_X3_numerator ⟨Nat.le_of_ble_eq_true rfl, Nat.le_of_ble_eq_true rfl⟩) hK hP hD hS hA rfl hl.1 rfl (Nat.le_of_ble_eq_true rfl) dX6_numeratorOf_10 ⟨Nat.le_of_ble_eq_true rfl, Nat.le_of_ble_eq_true rfl⟩ (fun H locs hP hD hS => ?_)
  refine lv_l2i (v := (F_X3_numerator (pl a1.toNatClampNeg)).toInt32) hx hb dX6_numeratorOf_13 rfl ?_
  cases h
  exact hE _ _ _ _ dX6_numeratorOf_14 hP hD hS
abbrev xrm_X6_numeratorOf : Room := { frames := 7, cells := 1, slots := 6, locals := 102 }
set_option maxHeartbeats 0 in
set_option maxRecDepth 100000 in
theorem x_X6_numeratorOf (l : Launch) (hfl : l.stackTraces = false) (D : va_G) (o : Nat → Nat) (y : Nat → ClassId) (sz : Nat) (pl : Nat → Int64) (te : Nat → Int32) (be : Nat → Int64) (cn : Int32) (ch : Nat → Int32) (le : Int32) (rE : Int32) (rL : Int32) (rP : Int32) (rF : Int32) (rS : Int32) (rD : Int32) (hs : Nat → Int64) (ho : Int32) (hc : Int32) (sl : Nat → Int64) (fi : Nat → Int32) (a1 : Int32) (k : Nat) (r : Int32) (hkx : ¬ k = 0) (h : F_X6_numeratorOf pl a1 = some (k, r)) : vx_Met l yX6_numeratorOf wsX6_numeratorOf xrm_X6_numeratorOf (va_Pc [.ref (o 0), .int a1] (pxe D y sz (XW o y pl te be cn ch le rE rL rP rF rS rD hs ho hc sl fi))) (QNo (XW o y pl te be cn ch le rE rL rP rF rS rD hs ho hc sl fi) sz) (QX D y sz (XW o y pl te be cn ch le rE rL rP rF rS rD hs ho hc sl fi) (XW o y pl te be cn ch le rE rL rP rF rS rD hs ho hc sl fi) k) 1 6 (va_A (XW o y pl te be cn ch le rE rL rP rF rS rD hs ho hc sl fi) sz) := by
  refine hd_x (cc := cX6_numeratorOf) (maxL := 2) rfl rfl (Nat.le_of_ble_eq_true rfl) ?_
  intro p e s m args below meth c A Q H locs ls hx hb hml hts hown hA hP hD hK hS hl hEX hlocks hout hQ hAe
  have hl : lv_has ls 2 [(0, .ref (o 0)), (1, .int a1)] := hl
  have q0 := hts (.fieldLink RX6 9 "SliceShares" "plates" "[J") (by decide +kernel)
  have hinRX6 : ∀ w ∈ wsX60, w ∈ wsX6_numeratorOf := by decide +kernel
  unfold F_X6_numeratorOf at h
  refine lv_iload_n hx hb dX6_numeratorOf_0 rfl (lv_at hl 1 rfl) ?_
  obtain ⟨k1, g2, h⟩ := fB1 h
  by_cases e3 : ¬ k1 = 0
  · replace h := fF e3 h
    refine xc_S (As := [.int a1]) (rest := []) (ws1 := (XW o y pl te be cn ch le rE rL rP rF rS rD hs ho hc sl fi)) ⟨hx, hb, hml, hown, hts⟩ (x_X6_requirePlate l hfl D y _ a1 k1 e3 g2) (va_cwS 1 hts gX6_numeratorOf_X6_requirePlate rfl rfl rfl hd_X6_requirePlate ⟨Nat.le_of_ble_eq_true rfl, Nat.le_of_ble_eq_true rfl⟩) hK hP hD hS hA hEX [] [0, 1, 2, 3, 4, 5, 6, 7, 8, 9, 10, 11] [0, 1, 2, 3, 4, 5, 6, 7, 8, 9, 10, 11] rfl rfl rfl (by decide) rfl rfl rfl rfl hl.1 rfl (Nat.le_of_ble_eq_true rfl) dX6_numeratorOf_1 ⟨Nat.le_of_ble_eq_true rfl, Nat.le_of_ble_eq_true rfl⟩ (fun H locs ce q hP hD hS hce hv hcl => ?_)
    cases h
    exact outX hQ hAe hout hlocks hK hP hD hS hce hv hcl rfl (by decide) (by decide)
  replace e3 := Classical.not_not.mp e3
  subst e3
  replace h := fT rfl h
  refine cT_v (As := [.int a1]) (rest := []) ⟨hx, hb, hml, hown, hts⟩ (c_X6_requirePlate l D y _ a1 g2) (va_cwS 1 hts gX6_numeratorOf_X6_requirePlate rfl rfl rfl hd_X6_requirePlate ⟨Nat.le_of_ble_eq_true rfl, Nat.le_of_ble_eq_true rfl⟩) hK hP hD hS hA rfl hl.1 rfl (Nat.le_of_ble_eq_true rfl) dX6_numeratorOf_1 ⟨Nat.le_of_ble_eq_true rfl, Nat.le_of_ble_eq_true rfl⟩ (fun H locs hP hD hS => ?_)
  refine lv_aload_n hx hb dX6_numeratorOf_4 rfl (lv_at hl 0 rfl) ?_
  refine va_get (D := D) (ci := 4) (C := RX6) (T := TX6) (N := 7) hx hb hts hinRX6 hown hK hP 0 rfl rfl 0 (by decide) q0 (fun _ h9 => h9) rfl dX6_numeratorOf_5 ?_
  refine lv_iload_n hx hb dX6_numeratorOf_8 rfl (lv_at hl 1 rfl) ?_
  obtain ⟨g4, h⟩ := fG h
  refine va_lald hx hb hK hP 1 1 rfl rfl g4 dX6_numeratorOf_9 ?_
  refine cT_l (As := [.long (pl a1.toNatClampNeg)]) (rest := []) ⟨hx, hb, hml, hown, hts⟩ (c_X3_numerator l D y _ (pl a1.toNatClampNeg)) (va_cwS 1 hts gX6_numeratorOf_X3_numerator rfl rfl rfl hd_X3_numerator ⟨Nat.le_of_ble_eq_true rfl, Nat.le_of_ble_eq_true rfl⟩) hK hP hD hS hA rfl hl.1 rfl (Nat.le_of_ble_eq_true rfl) dX6_numeratorOf_10 ⟨Nat.le_of_ble_eq_true rfl, Nat.le_of_ble_eq_true rfl⟩ (fun H locs hP hD hS => ?_)
  refine lv_l2i (v := (F_X3_numerator (pl a1.toNatClampNeg)).toInt32) hx hb dX6_numeratorOf_13 rfl ?_
  exact fY hkx h
abbrev rm_X6_denominatorOf : Room := { frames := 2, cells := 0, slots := 0, locals := 40 }
theorem hd_X6_denominatorOf : yX6_denominatorOf.cls = RX6 ∧ yX6_denominatorOf.cls ≠ "java/lang/invoke/MethodHandle" ∧ yX6_denominatorOf.cls ≠ "java/lang/invoke/VarHandle" ∧ (parseMethodDescriptor yX6_denominatorOf.desc).map (fun d => d.parameters.length) = some 1 := by decide +kernel
set_option maxHeartbeats 0 in
set_option maxRecDepth 100000 in
theorem c_X6_denominatorOf (l : Launch) (D : va_G) (o : Nat → Nat) (y : Nat → ClassId) (sz : Nat) (pl : Nat → Int64) (te : Nat → Int32) (be : Nat → Int64) (cn : Int32) (ch : Nat → Int32) (le : Int32) (rE : Int32) (rL : Int32) (rP : Int32) (rF : Int32) (rS : Int32) (rD : Int32) (hs : Nat → Int64) (ho : Int32) (hc : Int32) (sl : Nat → Int64) (fi : Nat → Int32) (a1 : Int32) (r : Int32) (h : F_X6_denominatorOf pl a1 = some (0, r)) : Met l yX6_denominatorOf wsX6_denominatorOf rm_X6_denominatorOf (va_Pc [.ref (o 0), .int a1] (px D y sz (XW o y pl te be cn ch le rE rL rP rF rS rD hs ho hc sl fi))) (Qri D y sz (XW o y pl te be cn ch le rE rL rP rF rS rD hs ho hc sl fi) (XW o y pl te be cn ch le rE rL rP rF rS rD hs ho hc sl fi) r) 0 0 (va_A (XW o y pl te be cn ch le rE rL rP rF rS rD hs ho hc sl fi) sz) := by
  refine hd_i (cc := cX6_denominatorOf) (maxL := 2) rfl rfl (Nat.le_of_ble_eq_true rfl) ?_
  intro p e s m args below meth c A Q H locs ls hx hb hml hts hown _ hA hP hD hK hS hl hE
  have hl : lv_has ls 2 [(0, .ref (o 0)), (1, .int a1)] := hl
  have q0 := hts (.fieldLink RX6 9 "SliceShares" "plates" "[J") (by decide +kernel)
  have hinRX6 : ∀ w ∈ wsX60, w ∈ wsX6_denominatorOf := by decide +kernel
  unfold F_X6_denominatorOf at h
  refine lv_iload_n hx hb dX6_denominatorOf_0 rfl (lv_at hl 1 rfl) ?_
  obtain ⟨k1, g2, h⟩ := fB1 h
  by_cases e3 : ¬ k1 = 0
  · replace h := fF e3 h
    exact fX e3 h
  replace e3 := Classical.not_not.mp e3
  subst e3
  replace h := fT rfl h
  refine cT_v (As := [.int a1]) (rest := []) ⟨hx, hb, hml, hown, hts⟩ (c_X6_requirePlate l D y _ a1 g2) (va_cwS 1 hts gX6_denominatorOf_X6_requirePlate rfl rfl rfl hd_X6_requirePlate ⟨Nat.le_of_ble_eq_true rfl, Nat.le_of_ble_eq_true rfl⟩) hK hP hD hS hA rfl hl.1 rfl (Nat.le_of_ble_eq_true rfl) dX6_denominatorOf_1 ⟨Nat.le_of_ble_eq_true rfl, Nat.le_of_ble_eq_true rfl⟩ (fun H locs hP hD hS => ?_)
  refine lv_aload_n hx hb dX6_denominatorOf_4 rfl (lv_at hl 0 rfl) ?_
  refine va_get (D := D) (ci := 4) (C := RX6) (T := TX6) (N := 7) hx hb hts hinRX6 hown hK hP 0 rfl rfl 0 (by decide) q0 (fun _ h9 => h9) rfl dX6_denominatorOf_5 ?_
  refine lv_iload_n hx hb dX6_denominatorOf_8 rfl (lv_at hl 1 rfl) ?_
  obtain ⟨g4, h⟩ := fG h
  refine va_lald hx hb hK hP 1 1 rfl rfl g4 dX6_denominatorOf_9 ?_
  refine cT_l (As := [.long (pl a1.toNatClampNeg)]) (rest := []) ⟨hx, hb, hml, hown, hts⟩ (c_X3_denominator l D y _ (pl a1.toNatClampNeg)) (va_cwS 1 hts gX6_denominatorOf_X3_denominator rfl rfl rfl hd_X3_denominator ⟨Nat.le_of_ble_eq_true rfl, Nat.le_of_ble_eq_true rfl⟩) hK hP hD hS hA rfl hl.1 rfl (Nat.le_of_ble_eq_true rfl) dX6_denominatorOf_10 ⟨Nat.le_of_ble_eq_true rfl, Nat.le_of_ble_eq_true rfl⟩ (fun H locs hP hD hS => ?_)
  refine lv_l2i (v := (F_X3_denominator (pl a1.toNatClampNeg)).toInt32) hx hb dX6_denominatorOf_13 rfl ?_
  cases h
  exact hE _ _ _ _ dX6_denominatorOf_14 hP hD hS
abbrev xrm_X6_denominatorOf : Room := { frames := 7, cells := 1, slots := 6, locals := 102 }
set_option maxHeartbeats 0 in
set_option maxRecDepth 100000 in
theorem x_X6_denominatorOf (l : Launch) (hfl : l.stackTraces = false) (D : va_G) (o : Nat → Nat) (y : Nat → ClassId) (sz : Nat) (pl : Nat → Int64) (te : Nat → Int32) (be : Nat → Int64) (cn : Int32) (ch : Nat → Int32) (le : Int32) (rE : Int32) (rL : Int32) (rP : Int32) (rF : Int32) (rS : Int32) (rD : Int32) (hs : Nat → Int64) (ho : Int32) (hc : Int32) (sl : Nat → Int64) (fi : Nat → Int32) (a1 : Int32) (k : Nat) (r : Int32) (hkx : ¬ k = 0) (h : F_X6_denominatorOf pl a1 = some (k, r)) : vx_Met l yX6_denominatorOf wsX6_denominatorOf xrm_X6_denominatorOf (va_Pc [.ref (o 0), .int a1] (pxe D y sz (XW o y pl te be cn ch le rE rL rP rF rS rD hs ho hc sl fi))) (QNo (XW o y pl te be cn ch le rE rL rP rF rS rD hs ho hc sl fi) sz) (QX D y sz (XW o y pl te be cn ch le rE rL rP rF rS rD hs ho hc sl fi) (XW o y pl te be cn ch le rE rL rP rF rS rD hs ho hc sl fi) k) 1 6 (va_A (XW o y pl te be cn ch le rE rL rP rF rS rD hs ho hc sl fi) sz) := by
  refine hd_x (cc := cX6_denominatorOf) (maxL := 2) rfl rfl (Nat.le_of_ble_eq_true rfl) ?_
  intro p e s m args below meth c A Q H locs ls hx hb hml hts hown hA hP hD hK hS hl hEX hlocks hout hQ hAe
  have hl : lv_has ls 2 [(0, .ref (o 0)), (1, .int a1)] := hl
  have q0 := hts (.fieldLink RX6 9 "SliceShares" "plates" "[J") (by decide +kernel)
  have hinRX6 : ∀ w ∈ wsX60, w ∈ wsX6_denominatorOf := by decide +kernel
  unfold F_X6_denominatorOf at h
  refine lv_iload_n hx hb dX6_denominatorOf_0 rfl (lv_at hl 1 rfl) ?_
  obtain ⟨k1, g2, h⟩ := fB1 h
  by_cases e3 : ¬ k1 = 0
  · replace h := fF e3 h
    refine xc_S (As := [.int a1]) (rest := []) (ws1 := (XW o y pl te be cn ch le rE rL rP rF rS rD hs ho hc sl fi)) ⟨hx, hb, hml, hown, hts⟩ (x_X6_requirePlate l hfl D y _ a1 k1 e3 g2) (va_cwS 1 hts gX6_denominatorOf_X6_requirePlate rfl rfl rfl hd_X6_requirePlate ⟨Nat.le_of_ble_eq_true rfl, Nat.le_of_ble_eq_true rfl⟩) hK hP hD hS hA hEX [] [0, 1, 2, 3, 4, 5, 6, 7, 8, 9, 10, 11] [0, 1, 2, 3, 4, 5, 6, 7, 8, 9, 10, 11] rfl rfl rfl (by decide) rfl rfl rfl rfl hl.1 rfl (Nat.le_of_ble_eq_true rfl) dX6_denominatorOf_1 ⟨Nat.le_of_ble_eq_true rfl, Nat.le_of_ble_eq_true rfl⟩ (fun H locs ce q hP hD hS hce hv hcl => ?_)
    cases h
    exact outX hQ hAe hout hlocks hK hP hD hS hce hv hcl rfl (by decide) (by decide)
  replace e3 := Classical.not_not.mp e3
  subst e3
  replace h := fT rfl h
  refine cT_v (As := [.int a1]) (rest := []) ⟨hx, hb, hml, hown, hts⟩ (c_X6_requirePlate l D y _ a1 g2) (va_cwS 1 hts gX6_denominatorOf_X6_requirePlate rfl rfl rfl hd_X6_requirePlate ⟨Nat.le_of_ble_eq_true rfl, Nat.le_of_ble_eq_true rfl⟩) hK hP hD hS hA rfl hl.1 rfl (Nat.le_of_ble_eq_true rfl) dX6_denominatorOf_1 ⟨Nat.le_of_ble_eq_true rfl, Nat.le_of_ble_eq_true rfl⟩ (fun H locs hP hD hS => ?_)
  refine lv_aload_n hx hb dX6_denominatorOf_4 rfl (lv_at hl 0 rfl) ?_
  refine va_get (D := D) (ci := 4) (C := RX6) (T := TX6) (N := 7) hx hb hts hinRX6 hown hK hP 0 rfl rfl 0 (by decide) q0 (fun _ h9 => h9) rfl dX6_denominatorOf_5 ?_
  refine lv_iload_n hx hb dX6_denominatorOf_8 rfl (lv_at hl 1 rfl) ?_
  obtain ⟨g4, h⟩ := fG h
  refine va_lald hx hb hK hP 1 1 rfl rfl g4 dX6_denominatorOf_9 ?_
  refine cT_l (As := [.long (pl a1.toNatClampNeg)]) (rest := []) ⟨hx, hb, hml, hown, hts⟩ (c_X3_denominator l D y _ (pl a1.toNatClampNeg)) (va_cwS 1 hts gX6_denominatorOf_X3_denominator rfl rfl rfl hd_X3_denominator ⟨Nat.le_of_ble_eq_true rfl, Nat.le_of_ble_eq_true rfl⟩) hK hP hD hS hA rfl hl.1 rfl (Nat.le_of_ble_eq_true rfl) dX6_denominatorOf_10 ⟨Nat.le_of_ble_eq_true rfl, Nat.le_of_ble_eq_true rfl⟩ (fun H locs hP hD hS => ?_)
  refine lv_l2i (v := (F_X3_denominator (pl a1.toNatClampNeg)).toInt32) hx hb dX6_denominatorOf_13 rfl ?_
  exact fY hkx h
abbrev rm_X6_compare : Room := { frames := 3, cells := 0, slots := 0, locals := 63 }
theorem hd_X6_compare : yX6_compare.cls = RX6 ∧ yX6_compare.cls ≠ "java/lang/invoke/MethodHandle" ∧ yX6_compare.cls ≠ "java/lang/invoke/VarHandle" ∧ (parseMethodDescriptor yX6_compare.desc).map (fun d => d.parameters.length) = some 2 := by decide +kernel
set_option maxHeartbeats 0 in
set_option maxRecDepth 100000 in
theorem c_X6_compare (l : Launch) (D : va_G) (o : Nat → Nat) (y : Nat → ClassId) (sz : Nat) (pl : Nat → Int64) (te : Nat → Int32) (be : Nat → Int64) (cn : Int32) (ch : Nat → Int32) (le : Int32) (rE : Int32) (rL : Int32) (rP : Int32) (rF : Int32) (rS : Int32) (rD : Int32) (hs : Nat → Int64) (ho : Int32) (hc : Int32) (sl : Nat → Int64) (fi : Nat → Int32) (a1 : Int32) (a2 : Int32) (r : Int32) (h : F_X6_compare pl a1 a2 = some (0, r)) : Met l yX6_compare wsX6_compare rm_X6_compare (va_Pc [.ref (o 0), .int a1, .int a2] (px D y sz (XW o y pl te be cn ch le rE rL rP rF rS rD hs ho hc sl fi))) (Qri D y sz (XW o y pl te be cn ch le rE rL rP rF rS rD hs ho hc sl fi) (XW o y pl te be cn ch le rE rL rP rF rS rD hs ho hc sl fi) r) 0 0 (va_A (XW o y pl te be cn ch le rE rL rP rF rS rD hs ho hc sl fi) sz) := by
  refine hd_i (cc := cX6_compare) (maxL := 3) rfl rfl (Nat.le_of_ble_eq_true rfl) ?_
  intro p e s m args below meth c A Q H locs ls hx hb hml hts hown _ hA hP hD hK hS hl hE
  have hl : lv_has ls 3 [(0, .ref (o 0)), (1, .int a1), (2, .int a2)] := hl
  have q0 := hts (.fieldLink RX6 9 "SliceShares" "plates" "[J") (by decide +kernel)
  have hinRX6 : ∀ w ∈ wsX60, w ∈ wsX6_compare := by decide +kernel
  unfold F_X6_compare at h
  refine lv_iload_n hx hb dX6_compare_0 rfl (lv_at hl 1 rfl) ?_
  obtain ⟨k1, g2, h⟩ := fB1 h
  by_cases e3 : ¬ k1 = 0
  · replace h := fF e3 h
    exact fX e3 h
  replace e3 := Classical.not_not.mp e3
  subst e3
  replace h := fT rfl h
  refine cT_v (As := [.int a1]) (rest := []) ⟨hx, hb, hml, hown, hts⟩ (c_X6_requirePlate l D y _ a1 g2) (va_cwS 1 hts gX6_compare_X6_requirePlate rfl rfl rfl hd_X6_requirePlate ⟨Nat.le_of_ble_eq_true rfl, Nat.le_of_ble_eq_true rfl⟩) hK hP hD hS hA rfl hl.1 rfl (Nat.le_of_ble_eq_true rfl) dX6_compare_1 ⟨Nat.le_of_ble_eq_true rfl, Nat.le_of_ble_eq_true rfl⟩ (fun H locs hP hD hS => ?_)
  refine lv_iload_n hx hb dX6_compare_4 rfl (lv_at hl 2 rfl) ?_
  obtain ⟨k4, g5, h⟩ := fB1 h
  by_cases e6 : ¬ k4 = 0
  · replace h := fF e6 h
    exact fX e6 h
  replace e6 := Classical.not_not.mp e6
  subst e6
  replace h := fT rfl h
  refine cT_v (As := [.int a2]) (rest := []) ⟨hx, hb, hml, hown, hts⟩ (c_X6_requirePlate l D y _ a2 g5) (va_cwS 1 hts gX6_compare_X6_requirePlate rfl rfl rfl hd_X6_requirePlate ⟨Nat.le_of_ble_eq_true rfl, Nat.le_of_ble_eq_true rfl⟩) hK hP hD hS hA rfl hl.1 rfl (Nat.le_of_ble_eq_true rfl) dX6_compare_5 ⟨Nat.le_of_ble_eq_true rfl, Nat.le_of_ble_eq_true rfl⟩ (fun H locs hP hD hS => ?_)
  refine lv_aload_n hx hb dX6_compare_8 rfl (lv_at hl 0 rfl) ?_
  refine va_get (D := D) (ci := 4) (C := RX6) (T := TX6) (N := 7) hx hb hts hinRX6 hown hK hP 0 rfl rfl 0 (by decide) q0 (fun _ h9 => h9) rfl dX6_compare_9 ?_
  refine lv_iload_n hx hb dX6_compare_12 rfl (lv_at hl 1 rfl) ?_
  obtain ⟨g7, h⟩ := fG h
  refine va_lald hx hb hK hP 1 1 rfl rfl g7 dX6_compare_13 ?_
  refine lv_aload_n hx hb dX6_compare_14 rfl (lv_at hl 0 rfl) ?_
  refine va_get (D := D) (ci := 4) (C := RX6) (T := TX6) (N := 7) hx hb hts hinRX6 hown hK hP 0 rfl rfl 0 (by decide) q0 (fun _ h9 => h9) rfl dX6_compare_15 ?_
  refine lv_iload_n hx hb dX6_compare_18 rfl (lv_at hl 2 rfl) ?_
  obtain ⟨g8, h⟩ := fG h
  refine va_lald hx hb hK hP 1 1 rfl rfl g8 dX6_compare_19 ?_
  refine cT_i (As := [.long (pl a1.toNatClampNeg), .long (pl a2.toNatClampNeg)]) (rest := []) ⟨hx, hb, hml, hown, hts⟩ (c_X3_order l D y _ (pl a1.toNatClampNeg) (pl a2.toNatClampNeg)) (va_cwS 2 hts gX6_compare_X3_order rfl rfl rfl hd_X3_order ⟨Nat.le_of_ble_eq_true rfl, Nat.le_of_ble_eq_true rfl⟩) hK hP hD hS hA rfl hl.1 rfl (Nat.le_of_ble_eq_true rfl) dX6_compare_20 ⟨Nat.le_of_ble_eq_true rfl, Nat.le_of_ble_eq_true rfl⟩ (fun H locs hP hD hS => ?_)
  cases h
  exact hE _ _ _ _ dX6_compare_23 hP hD hS
abbrev xrm_X6_compare : Room := { frames := 7, cells := 1, slots := 6, locals := 102 }
set_option maxHeartbeats 0 in
set_option maxRecDepth 100000 in
theorem x_X6_compare (l : Launch) (hfl : l.stackTraces = false) (D : va_G) (o : Nat → Nat) (y : Nat → ClassId) (sz : Nat) (pl : Nat → Int64) (te : Nat → Int32) (be : Nat → Int64) (cn : Int32) (ch : Nat → Int32) (le : Int32) (rE : Int32) (rL : Int32) (rP : Int32) (rF : Int32) (rS : Int32) (rD : Int32) (hs : Nat → Int64) (ho : Int32) (hc : Int32) (sl : Nat → Int64) (fi : Nat → Int32) (a1 : Int32) (a2 : Int32) (k : Nat) (r : Int32) (hkx : ¬ k = 0) (h : F_X6_compare pl a1 a2 = some (k, r)) : vx_Met l yX6_compare wsX6_compare xrm_X6_compare (va_Pc [.ref (o 0), .int a1, .int a2] (pxe D y sz (XW o y pl te be cn ch le rE rL rP rF rS rD hs ho hc sl fi))) (QNo (XW o y pl te be cn ch le rE rL rP rF rS rD hs ho hc sl fi) sz) (QX D y sz (XW o y pl te be cn ch le rE rL rP rF rS rD hs ho hc sl fi) (XW o y pl te be cn ch le rE rL rP rF rS rD hs ho hc sl fi) k) 1 6 (va_A (XW o y pl te be cn ch le rE rL rP rF rS rD hs ho hc sl fi) sz) := by
  refine hd_x (cc := cX6_compare) (maxL := 3) rfl rfl (Nat.le_of_ble_eq_true rfl) ?_
  intro p e s m args below meth c A Q H locs ls hx hb hml hts hown hA hP hD hK hS hl hEX hlocks hout hQ hAe
  have hl : lv_has ls 3 [(0, .ref (o 0)), (1, .int a1), (2, .int a2)] := hl
  have q0 := hts (.fieldLink RX6 9 "SliceShares" "plates" "[J") (by decide +kernel)
  have hinRX6 : ∀ w ∈ wsX60, w ∈ wsX6_compare := by decide +kernel
  unfold F_X6_compare at h
  refine lv_iload_n hx hb dX6_compare_0 rfl (lv_at hl 1 rfl) ?_
  obtain ⟨k1, g2, h⟩ := fB1 h
  by_cases e3 : ¬ k1 = 0
  · replace h := fF e3 h
    refine xc_S (As := [.int a1]) (rest := []) (ws1 := (XW o y pl te be cn ch le rE rL rP rF rS rD hs ho hc sl fi)) ⟨hx, hb, hml, hown, hts⟩ (x_X6_requirePlate l hfl D y _ a1 k1 e3 g2) (va_cwS 1 hts gX6_compare_X6_requirePlate rfl rfl rfl hd_X6_requirePlate ⟨Nat.le_of_ble_eq_true rfl, Nat.le_of_ble_eq_true rfl⟩) hK hP hD hS hA hEX [] [0, 1, 2, 3, 4, 5, 6, 7, 8, 9, 10, 11] [0, 1, 2, 3, 4, 5, 6, 7, 8, 9, 10, 11] rfl rfl rfl (by decide) rfl rfl rfl rfl hl.1 rfl (Nat.le_of_ble_eq_true rfl) dX6_compare_1 ⟨Nat.le_of_ble_eq_true rfl, Nat.le_of_ble_eq_true rfl⟩ (fun H locs ce q hP hD hS hce hv hcl => ?_)
    cases h
    exact outX hQ hAe hout hlocks hK hP hD hS hce hv hcl rfl (by decide) (by decide)
  replace e3 := Classical.not_not.mp e3
  subst e3
  replace h := fT rfl h
  refine cT_v (As := [.int a1]) (rest := []) ⟨hx, hb, hml, hown, hts⟩ (c_X6_requirePlate l D y _ a1 g2) (va_cwS 1 hts gX6_compare_X6_requirePlate rfl rfl rfl hd_X6_requirePlate ⟨Nat.le_of_ble_eq_true rfl, Nat.le_of_ble_eq_true rfl⟩) hK hP hD hS hA rfl hl.1 rfl (Nat.le_of_ble_eq_true rfl) dX6_compare_1 ⟨Nat.le_of_ble_eq_true rfl, Nat.le_of_ble_eq_true rfl⟩ (fun H locs hP hD hS => ?_)
  refine lv_iload_n hx hb dX6_compare_4 rfl (lv_at hl 2 rfl) ?_
  obtain ⟨k4, g5, h⟩ := fB1 h
  by_cases e6 : ¬ k4 = 0
  · replace h := fF e6 h
    refine xc_S (As := [.int a2]) (rest := []) (ws1 := (XW o y pl te be cn ch le rE rL rP rF rS rD hs ho hc sl fi)) ⟨hx, hb, hml, hown, hts⟩ (x_X6_requirePlate l hfl D y _ a2 k4 e6 g5) (va_cwS 1 hts gX6_compare_X6_requirePlate rfl rfl rfl hd_X6_requirePlate ⟨Nat.le_of_ble_eq_true rfl, Nat.le_of_ble_eq_true rfl⟩) hK hP hD hS hA hEX [] [0, 1, 2, 3, 4, 5, 6, 7, 8, 9, 10, 11] [0, 1, 2, 3, 4, 5, 6, 7, 8, 9, 10, 11] rfl rfl rfl (by decide) rfl rfl rfl rfl hl.1 rfl (Nat.le_of_ble_eq_true rfl) dX6_compare_5 ⟨Nat.le_of_ble_eq_true rfl, Nat.le_of_ble_eq_true rfl⟩ (fun H locs ce q hP hD hS hce hv hcl => ?_)
    cases h
    exact outX hQ hAe hout hlocks hK hP hD hS hce hv hcl rfl (by decide) (by decide)
  replace e6 := Classical.not_not.mp e6
  subst e6
  replace h := fT rfl h
  refine cT_v (As := [.int a2]) (rest := []) ⟨hx, hb, hml, hown, hts⟩ (c_X6_requirePlate l D y _ a2 g5) (va_cwS 1 hts gX6_compare_X6_requirePlate rfl rfl rfl hd_X6_requirePlate ⟨Nat.le_of_ble_eq_true rfl, Nat.le_of_ble_eq_true rfl⟩) hK hP hD hS hA rfl hl.1 rfl (Nat.le_of_ble_eq_true rfl) dX6_compare_5 ⟨Nat.le_of_ble_eq_true rfl, Nat.le_of_ble_eq_true rfl⟩ (fun H locs hP hD hS => ?_)
  refine lv_aload_n hx hb dX6_compare_8 rfl (lv_at hl 0 rfl) ?_
  refine va_get (D := D) (ci := 4) (C := RX6) (T := TX6) (N := 7) hx hb hts hinRX6 hown hK hP 0 rfl rfl 0 (by decide) q0 (fun _ h9 => h9) rfl dX6_compare_9 ?_
  refine lv_iload_n hx hb dX6_compare_12 rfl (lv_at hl 1 rfl) ?_
  obtain ⟨g7, h⟩ := fG h
  refine va_lald hx hb hK hP 1 1 rfl rfl g7 dX6_compare_13 ?_
  refine lv_aload_n hx hb dX6_compare_14 rfl (lv_at hl 0 rfl) ?_
  refine va_get (D := D) (ci := 4) (C := RX6) (T := TX6) (N := 7) hx hb hts hinRX6 hown hK hP 0 rfl rfl 0 (by decide) q0 (fun _ h9 => h9) rfl dX6_compare_15 ?_
  refine lv_iload_n hx hb dX6_compare_18 rfl (lv_at hl 2 rfl) ?_
  obtain ⟨g8, h⟩ := fG h
  refine va_lald hx hb hK hP 1 1 rfl rfl g8 dX6_compare_19 ?_
  refine cT_i (As := [.long (pl a1.toNatClampNeg), .long (pl a2.toNatClampNeg)]) (rest := []) ⟨hx, hb, hml, hown, hts⟩ (c_X3_order l D y _ (pl a1.toNatClampNeg) (pl a2.toNatClampNeg)) (va_cwS 2 hts gX6_compare_X3_order rfl rfl rfl hd_X3_order ⟨Nat.le_of_ble_eq_true rfl, Nat.le_of_ble_eq_true rfl⟩) hK hP hD hS hA rfl hl.1 rfl (Nat.le_of_ble_eq_true rfl) dX6_compare_20 ⟨Nat.le_of_ble_eq_true rfl, Nat.le_of_ble_eq_true rfl⟩ (fun H locs hP hD hS => ?_)
  exact fY hkx h
abbrev rm_X6_platesAhead : Room := { frames := 3, cells := 0, slots := 0, locals := 63 }
theorem hd_X6_platesAhead : yX6_platesAhead.cls = RX6 ∧ yX6_platesAhead.cls ≠ "java/lang/invoke/MethodHandle" ∧ yX6_platesAhead.cls ≠ "java/lang/invoke/VarHandle" ∧ (parseMethodDescriptor yX6_platesAhead.desc).map (fun d => d.parameters.length) = some 1 := by decide +kernel
set_option maxHeartbeats 0 in
set_option maxRecDepth 100000 in
theorem c_X6_platesAhead (l : Launch) (D : va_G) (o : Nat → Nat) (y : Nat → ClassId) (sz : Nat) (pl : Nat → Int64) (te : Nat → Int32) (be : Nat → Int64) (cn : Int32) (ch : Nat → Int32) (le : Int32) (rE : Int32) (rL : Int32) (rP : Int32) (rF : Int32) (rS : Int32) (rD : Int32) (hs : Nat → Int64) (ho : Int32) (hc : Int32) (sl : Nat → Int64) (fi : Nat → Int32) (a1 : Int32) (r : Int32) (h : F_X6_platesAhead pl a1 = some r) : Met l yX6_platesAhead wsX6_platesAhead rm_X6_platesAhead (va_Pc [.ref (o 0), .int a1] (px D y sz (XW o y pl te be cn ch le rE rL rP rF rS rD hs ho hc sl fi))) (Qri D y sz (XW o y pl te be cn ch le rE rL rP rF rS rD hs ho hc sl fi) (XW o y pl te be cn ch le rE rL rP rF rS rD hs ho hc sl fi) r) 0 0 (va_A (XW o y pl te be cn ch le rE rL rP rF rS rD hs ho hc sl fi) sz) := by
  refine hd_i (cc := cX6_platesAhead) (maxL := 5) rfl rfl (Nat.le_of_ble_eq_true rfl) ?_
  intro p e s m args below meth c A Q H locs ls hx hb hml hts hown _ hA hP hD hK hS hl hE
  have hl : lv_has ls 5 [(0, .ref (o 0)), (1, .int a1)] := hl
  have q0 := hts (.fieldLink RX6 9 "SliceShares" "plates" "[J") (by decide +kernel)
  have hinRX6 : ∀ w ∈ wsX60, w ∈ wsX6_platesAhead := by decide +kernel
  unfold F_X6_platesAhead at h
  refine lv_iconst (v := (0 : Int32)) hx hb dX6_platesAhead_0 (by decide) ?_
  refine lv_istore_n (lv' := [(2, .int (0 : Int32)), (0, .ref (o 0)), (1, .int a1)]) hx hb dX6_platesAhead_1 rfl hl (by decide) rfl (fun ls hl => ?_)
  refine lv_iconst (v := (0 : Int32)) hx hb dX6_platesAhead_2 (by decide) ?_
  refine lv_istore_n (lv' := [(3, .int (0 : Int32)), (2, .int (0 : Int32)), (0, .ref (o 0)), (1, .int a1)]) hx hb dX6_platesAhead_3 rfl hl (by decide) rfl (fun ls hl => ?_)
  obtain ⟨v3, g4, h⟩ := fB1 h
  have J5 : ∀ (H : Heap) (locs : List Loc) (ls : Array Slot), va_P D vwCl (XW o y pl te be cn ch le rE rL rP rF rS rD hs ho hc sl fi) H → va_D A (XW o y pl te be cn ch le rE rL rP rF rS rD hs ho hc sl fi) → va_S A s.heap H locs → lv_has ls 5 [(2, .int v3)] → W p l e rm_X6_platesAhead s m args below meth c H locs 0 0 Q (F0 m 51 ls []) := by
    intro H locs ls hP hD hS hl
    refine lv_iload_n hx hb dX6_platesAhead_51 rfl (lv_at hl 0 rfl) ?_
    cases h
    exact hE _ _ _ _ dX6_platesAhead_52 hP hD hS
  have LP6 : ∀ (n : Nat) (x1 : Int32) (x2 : Int32) (H : Heap) (locs : List Loc) (ls : Array Slot), L_X6_platesAhead_4 n a1 x1 x2 pl = some v3 → va_P D vwCl (XW o y pl te be cn ch le rE rL rP rF rS rD hs ho hc sl fi) H → va_D A (XW o y pl te be cn ch le rE rL rP rF rS rD hs ho hc sl fi) → va_S A s.heap H locs → lv_has ls 5 [(0, .ref (o 0)), (1, .int a1), (2, .int x1), (3, .int x2)] → W p l e rm_X6_platesAhead s m args below meth c H locs 0 0 Q (F0 m 4 ls []) := by
    intro n
    induction n with
    | zero => intro x1 x2 H locs ls h hP hD hS hl; exact fN h
    | succ n ih =>
      intro x1 x2 H locs ls h hP hD hS hl
      replace h := (L_X6_platesAhead_4_s n a1 x1 x2 pl).symm.trans h
      refine lv_iload_n hx hb dX6_platesAhead_4 rfl (lv_at hl 3 rfl) ?_
      refine lv_bipush (v := (6 : Int32)) hx hb dX6_platesAhead_5 (by decide) ?_
      refine lv_icmp_ge (tgt := 51) hx hb dX6_platesAhead_7 (by decide) (fun c7 => ?_) (fun c7 => ?_)
      · replace h := fT c7 h
        cases h
        exact J5 _ _ _ hP hD hS (lv_sub hl [2] rfl)
      · replace h := fF c7 h
        refine lv_aload_n hx hb dX6_platesAhead_10 rfl (lv_at hl 0 rfl) ?_
        refine va_get (D := D) (ci := 4) (C := RX6) (T := TX6) (N := 7) hx hb hts hinRX6 hown hK hP 0 rfl rfl 0 (by decide) q0 (fun _ h9 => h9) rfl dX6_platesAhead_11 ?_
        refine lv_iload_n hx hb dX6_platesAhead_14 rfl (lv_at hl 3 rfl) ?_
        obtain ⟨g8, h⟩ := fG h
        refine va_lald hx hb hK hP 1 1 rfl rfl g8 dX6_platesAhead_15 ?_
        refine lv_aload_n hx hb dX6_platesAhead_16 rfl (lv_at hl 0 rfl) ?_
        refine va_get (D := D) (ci := 4) (C := RX6) (T := TX6) (N := 7) hx hb hts hinRX6 hown hK hP 0 rfl rfl 0 (by decide) q0 (fun _ h9 => h9) rfl dX6_platesAhead_17 ?_
        refine lv_iload_n hx hb dX6_platesAhead_20 rfl (lv_at hl 1 rfl) ?_
        obtain ⟨g9, h⟩ := fG h
        refine va_lald hx hb hK hP 1 1 rfl rfl g9 dX6_platesAhead_21 ?_
        refine cT_i (As := [.long (pl x2.toNatClampNeg), .long (pl a1.toNatClampNeg)]) (rest := []) ⟨hx, hb, hml, hown, hts⟩ (c_X3_order l D y _ (pl x2.toNatClampNeg) (pl a1.toNatClampNeg)) (va_cwS 2 hts gX6_platesAhead_X3_order rfl rfl rfl hd_X3_order ⟨Nat.le_of_ble_eq_true rfl, Nat.le_of_ble_eq_true rfl⟩) hK hP hD hS hA rfl hl.1 rfl (Nat.le_of_ble_eq_true rfl) dX6_platesAhead_22 ⟨Nat.le_of_ble_eq_true rfl, Nat.le_of_ble_eq_true rfl⟩ (fun H locs hP hD hS => ?_)
        refine lv_istore (lv' := [(4, .int (F_X3_order (pl x2.toNatClampNeg) (pl a1.toNatClampNeg))), (0, .ref (o 0)), (1, .int a1), (2, .int x1), (3, .int x2)]) hx hb dX6_platesAhead_25 hl (by decide) rfl (fun ls hl => ?_)
        refine lv_iload hx hb dX6_platesAhead_27 (lv_at hl 0 rfl) ?_
        have J10 : ∀ (v11 : Int32) (ls : Array Slot), v11 = (if (0 : Int32) < (F_X3_order (pl x2.toNatClampNeg) (pl a1.toNatClampNeg)) then (x1 + (1 : Int32)) else (if (F_X3_order (pl x2.toNatClampNeg) (pl a1.toNatClampNeg)) = (0 : Int32) then (if a1 ≤ x2 then x1 else (x1 + (1 : Int32))) else x1)) → lv_has ls 5 [(0, .ref (o 0)), (1, .int a1), (2, .int v11), (3, .int x2), (4, .int (F_X3_order (pl x2.toNatClampNeg) (pl a1.toNatClampNeg)))] → W p l e rm_X6_platesAhead s m args below meth c H locs 0 0 Q (F0 m 45 ls []) := by
          intro v11 ls ev11 hl
          subst ev11
          refine lv_iinc (v := x2 + (1 : Int32)) (lv' := [(3, .int (x2 + (1 : Int32))), (0, .ref (o 0)), (1, .int a1), (2, .int (if (0 : Int32) < (F_X3_order (pl x2.toNatClampNeg) (pl a1.toNatClampNeg)) then (x1 + (1 : Int32)) else (if (F_X3_order (pl x2.toNatClampNeg) (pl a1.toNatClampNeg)) = (0 : Int32) then (if a1 ≤ x2 then x1 else (x1 + (1 : Int32))) else x1))), (4, .int (F_X3_order (pl x2.toNatClampNeg) (pl a1.toNatClampNeg)))]) hx hb dX6_platesAhead_45 hl (k := 3) rfl rfl (by decide) rfl (fun ls hl => ?_)
          refine lv_goto (tgt := 4) hx hb dX6_platesAhead_48 (by decide) ?_
          exact ih (if (0 : Int32) < (F_X3_order (pl x2.toNatClampNeg) (pl a1.toNatClampNeg)) then (x1 + (1 : Int32)) else (if (F_X3_order (pl x2.toNatClampNeg) (pl a1.toNatClampNeg)) = (0 : Int32) then (if a1 ≤ x2 then x1 else (x1 + (1 : Int32))) else x1)) (x2 + (1 : Int32)) _ _ _ h hP hD hS (lv_sub hl [1, 2, 3, 0] rfl)
        refine lv_if_gt (tgt := 42) hx hb dX6_platesAhead_29 (by decide) (fun c12 => ?_) (fun c12 => ?_)
        · refine lv_iinc (v := x1 + (1 : Int32)) (lv' := [(2, .int (x1 + (1 : Int32))), (4, .int (F_X3_order (pl x2.toNatClampNeg) (pl a1.toNatClampNeg))), (0, .ref (o 0)), (1, .int a1), (3, .int x2)]) hx hb dX6_platesAhead_42 hl (k := 3) rfl rfl (by decide) rfl (fun ls hl => ?_)
          exact J10 _ _ (by rw [if_pos c12]) (lv_sub hl [2, 3, 0, 4, 1] rfl)
        · refine lv_iload hx hb dX6_platesAhead_32 (lv_at hl 0 rfl) ?_
          refine lv_if_ne (tgt := 45) hx hb dX6_platesAhead_34 (by decide) (fun c13 => ?_) (fun c13 => ?_)
          · exact J10 _ _ (by rw [if_neg c12, if_neg c13]) (lv_sub hl [1, 2, 3, 4, 0] rfl)
          · refine lv_iload_n hx hb dX6_platesAhead_37 rfl (lv_at hl 4 rfl) ?_
            refine lv_iload_n hx hb dX6_platesAhead_38 rfl (lv_at hl 2 rfl) ?_
            refine lv_icmp_ge (tgt := 45) hx hb dX6_platesAhead_39 (by decide) (fun c14 => ?_) (fun c14 => ?_)
            · exact J10 _ _ (by rw [if_neg c12, if_pos c13, if_pos c14]) (lv_sub hl [1, 2, 3, 4, 0] rfl)
            · refine lv_iinc (v := x1 + (1 : Int32)) (lv' := [(2, .int (x1 + (1 : Int32))), (4, .int (F_X3_order (pl x2.toNatClampNeg) (pl a1.toNatClampNeg))), (0, .ref (o 0)), (1, .int a1), (3, .int x2)]) hx hb dX6_platesAhead_42 hl (k := 3) rfl rfl (by decide) rfl (fun ls hl => ?_)
              exact J10 _ _ (by rw [if_neg c12, if_pos c13, if_neg c14]) (lv_sub hl [2, 3, 0, 4, 1] rfl)
  exact LP6 FU (0 : Int32) (0 : Int32) _ _ _ g4 hP hD hS (lv_sub hl [2, 3, 1, 0] rfl)
abbrev rm_X6_plateByAmount : Room := { frames := 4, cells := 0, slots := 0, locals := 87 }
theorem hd_X6_plateByAmount : yX6_plateByAmount.cls = RX6 ∧ yX6_plateByAmount.cls ≠ "java/lang/invoke/MethodHandle" ∧ yX6_plateByAmount.cls ≠ "java/lang/invoke/VarHandle" ∧ (parseMethodDescriptor yX6_plateByAmount.desc).map (fun d => d.parameters.length) = some 1 := by decide +kernel
set_option maxHeartbeats 0 in
set_option maxRecDepth 100000 in
theorem c_X6_plateByAmount (l : Launch) (D : va_G) (o : Nat → Nat) (y : Nat → ClassId) (sz : Nat) (pl : Nat → Int64) (te : Nat → Int32) (be : Nat → Int64) (cn : Int32) (ch : Nat → Int32) (le : Int32) (rE : Int32) (rL : Int32) (rP : Int32) (rF : Int32) (rS : Int32) (rD : Int32) (hs : Nat → Int64) (ho : Int32) (hc : Int32) (sl : Nat → Int64) (fi : Nat → Int32) (a1 : Int32) (r : Int32) (h : F_X6_plateByAmount pl a1 = some (0, r)) : Met l yX6_plateByAmount wsX6_plateByAmount rm_X6_plateByAmount (va_Pc [.ref (o 0), .int a1] (px D y sz (XW o y pl te be cn ch le rE rL rP rF rS rD hs ho hc sl fi))) (Qri D y sz (XW o y pl te be cn ch le rE rL rP rF rS rD hs ho hc sl fi) (XW o y pl te be cn ch le rE rL rP rF rS rD hs ho hc sl fi) r) 0 0 (va_A (XW o y pl te be cn ch le rE rL rP rF rS rD hs ho hc sl fi) sz) := by
  refine hd_i (cc := cX6_plateByAmount) (maxL := 4) rfl rfl (Nat.le_of_ble_eq_true rfl) ?_
  intro p e s m args below meth c A Q H locs ls hx hb hml hts hown _ hA hP hD hK hS hl hE
  have hl : lv_has ls 4 [(0, .ref (o 0)), (1, .int a1)] := hl
  unfold F_X6_plateByAmount at h
  refine lv_iload_n hx hb dX6_plateByAmount_0 rfl (lv_at hl 1 rfl) ?_
  refine lv_if_lt (tgt := 10) hx hb dX6_plateByAmount_1 (by decide) (fun c1 => ?_) (fun c1 => ?_)
  · replace h := fT c1 h
    exact fX (show ¬ (1 : Nat) = 0 by decide) h
  · replace h := fF c1 h
    refine lv_iload_n hx hb dX6_plateByAmount_4 rfl (lv_at hl 1 rfl) ?_
    refine lv_bipush (v := (6 : Int32)) hx hb dX6_plateByAmount_5 (by decide) ?_
    refine lv_icmp_lt (tgt := 20) hx hb dX6_plateByAmount_7 (by decide) (fun c2 => ?_) (fun c2 => ?_)
    · replace h := fT c2 h
      refine lv_iconst (v := (-1 : Int32)) hx hb dX6_plateByAmount_20 (by decide) ?_
      refine lv_istore_n (lv' := [(2, .int (-1 : Int32)), (0, .ref (o 0)), (1, .int a1)]) hx hb dX6_plateByAmount_21 rfl hl (by decide) rfl (fun ls hl => ?_)
      refine lv_iconst (v := (0 : Int32)) hx hb dX6_plateByAmount_22 (by decide) ?_
      refine lv_istore_n (lv' := [(3, .int (0 : Int32)), (2, .int (-1 : Int32)), (0, .ref (o 0)), (1, .int a1)]) hx hb dX6_plateByAmount_23 rfl hl (by decide) rfl (fun ls hl => ?_)
      obtain ⟨v5, g6, h⟩ := fB1 h
      have J7 : ∀ (H : Heap) (locs : List Loc) (ls : Array Slot), va_P D vwCl (XW o y pl te be cn ch le rE rL rP rF rS rD hs ho hc sl fi) H → va_D A (XW o y pl te be cn ch le rE rL rP rF rS rD hs ho hc sl fi) → va_S A s.heap H locs → lv_has ls 4 [(2, .int v5)] → W p l e rm_X6_plateByAmount s m args below meth c H locs 0 0 Q (F0 m 47 ls []) := by
        intro H locs ls hP hD hS hl
        refine lv_iload_n hx hb dX6_plateByAmount_47 rfl (lv_at hl 0 rfl) ?_
        cases h
        exact hE _ _ _ _ dX6_plateByAmount_48 hP hD hS
      have LP8 : ∀ (n : Nat) (x3 : Int32) (x4 : Int32) (H : Heap) (locs : List Loc) (ls : Array Slot), L_X6_plateByAmount_24 n a1 x3 x4 pl = some v5 → va_P D vwCl (XW o y pl te be cn ch le rE rL rP rF rS rD hs ho hc sl fi) H → va_D A (XW o y pl te be cn ch le rE rL rP rF rS rD hs ho hc sl fi) → va_S A s.heap H locs → lv_has ls 4 [(0, .ref (o 0)), (1, .int a1), (2, .int x3), (3, .int x4)] → W p l e rm_X6_plateByAmount s m args below meth c H locs 0 0 Q (F0 m 24 ls []) := by
        intro n
        induction n with
        | zero => intro x3 x4 H locs ls h hP hD hS hl; exact fN h
        | succ n ih =>
          intro x3 x4 H locs ls h hP hD hS hl
          replace h := (L_X6_plateByAmount_24_s n a1 x3 x4 pl).symm.trans h
          refine lv_iload_n hx hb dX6_plateByAmount_24 rfl (lv_at hl 3 rfl) ?_
          refine lv_bipush (v := (6 : Int32)) hx hb dX6_plateByAmount_25 (by decide) ?_
          refine lv_icmp_ge (tgt := 47) hx hb dX6_plateByAmount_27 (by decide) (fun c9 => ?_) (fun c9 => ?_)
          · replace h := fT c9 h
            cases h
            exact J7 _ _ _ hP hD hS (lv_sub hl [2] rfl)
          · replace h := fF c9 h
            refine lv_aload_n hx hb dX6_plateByAmount_30 rfl (lv_at hl 0 rfl) ?_
            refine lv_iload_n hx hb dX6_plateByAmount_31 rfl (lv_at hl 3 rfl) ?_
            obtain ⟨r10, g11, h⟩ := fB1 h
            refine cV_i (As := [.int x4]) (rest := []) (ws1 := (XW o y pl te be cn ch le rE rL rP rF rS rD hs ho hc sl fi)) ⟨hx, hb, hml, hown, hts⟩ (c_X6_platesAhead l D o y _ pl te be cn ch le rE rL rP rF rS rD hs ho hc sl fi x4 r10 g11) (cwV 1 hts gX6_plateByAmount_X6_platesAhead rfl rfl rfl hd_X6_platesAhead ⟨Nat.le_of_ble_eq_true rfl, Nat.le_of_ble_eq_true rfl⟩) hK hP hD hS hA [0, 1, 2, 3, 4, 5, 6, 7, 8, 9, 10, 11] [] [0, 1, 2, 3, 4, 5, 6, 7, 8, 9, 10, 11] rfl rfl rfl (by decide) rfl rfl rfl 0 (ci := 4) rfl rfl rfl hl.1 rfl (Nat.le_of_ble_eq_true rfl) dX6_plateByAmount_32 ⟨Nat.le_of_ble_eq_true rfl, Nat.le_of_ble_eq_true rfl⟩ (fun H locs hP hD hS => ?_)
            refine lv_iload_n hx hb dX6_plateByAmount_35 rfl (lv_at hl 1 rfl) ?_
            have J12 : ∀ (v13 : Int32) (ls : Array Slot), v13 = (if r10 = a1 then x4 else x3) → lv_has ls 4 [(0, .ref (o 0)), (1, .int a1), (2, .int v13), (3, .int x4)] → W p l e rm_X6_plateByAmount s m args below meth c H locs 0 0 Q (F0 m 41 ls []) := by
              intro v13 ls ev13 hl
              subst ev13
              refine lv_iinc (v := x4 + (1 : Int32)) (lv' := [(3, .int (x4 + (1 : Int32))), (0, .ref (o 0)), (1, .int a1), (2, .int (if r10 = a1 then x4 else x3))]) hx hb dX6_plateByAmount_41 hl (k := 3) rfl rfl (by decide) rfl (fun ls hl => ?_)
              refine lv_goto (tgt := 24) hx hb dX6_plateByAmount_44 (by decide) ?_
              exact ih (if r10 = a1 then x4 else x3) (x4 + (1 : Int32)) _ _ _ h hP hD hS (lv_sub hl [1, 2, 3, 0] rfl)
            refine lv_icmp_ne (tgt := 41) hx hb dX6_plateByAmount_36 (by decide) (fun c14 => ?_) (fun c14 => ?_)
            · exact J12 _ _ (by rw [if_neg c14]) (lv_sub hl [0, 1, 2, 3] rfl)
            · refine lv_iload_n hx hb dX6_plateByAmount_39 rfl (lv_at hl 3 rfl) ?_
              refine lv_istore_n (lv' := [(2, .int x4), (0, .ref (o 0)), (1, .int a1), (3, .int x4)]) hx hb dX6_plateByAmount_40 rfl hl (by decide) rfl (fun ls hl => ?_)
              exact J12 _ _ (by rw [if_pos c14]) (lv_sub hl [1, 2, 0, 3] rfl)
      exact LP8 FU (-1 : Int32) (0 : Int32) _ _ _ g6 hP hD hS (lv_sub hl [2, 3, 1, 0] rfl)
    · replace h := fF c2 h
      exact fX (show ¬ (1 : Nat) = 0 by decide) h
abbrev xrm_X6_plateByAmount : Room := { frames := 6, cells := 1, slots := 6, locals := 87 }
set_option maxHeartbeats 0 in
set_option maxRecDepth 100000 in
theorem x_X6_plateByAmount (l : Launch) (hfl : l.stackTraces = false) (D : va_G) (o : Nat → Nat) (y : Nat → ClassId) (sz : Nat) (pl : Nat → Int64) (te : Nat → Int32) (be : Nat → Int64) (cn : Int32) (ch : Nat → Int32) (le : Int32) (rE : Int32) (rL : Int32) (rP : Int32) (rF : Int32) (rS : Int32) (rD : Int32) (hs : Nat → Int64) (ho : Int32) (hc : Int32) (sl : Nat → Int64) (fi : Nat → Int32) (a1 : Int32) (k : Nat) (r : Int32) (hkx : ¬ k = 0) (h : F_X6_plateByAmount pl a1 = some (k, r)) : vx_Met l yX6_plateByAmount wsX6_plateByAmount xrm_X6_plateByAmount (va_Pc [.ref (o 0), .int a1] (pxe D y sz (XW o y pl te be cn ch le rE rL rP rF rS rD hs ho hc sl fi))) (QNo (XW o y pl te be cn ch le rE rL rP rF rS rD hs ho hc sl fi) sz) (QX D y sz (XW o y pl te be cn ch le rE rL rP rF rS rD hs ho hc sl fi) (XW o y pl te be cn ch le rE rL rP rF rS rD hs ho hc sl fi) k) 1 6 (va_A (XW o y pl te be cn ch le rE rL rP rF rS rD hs ho hc sl fi) sz) := by
  refine hd_x (cc := cX6_plateByAmount) (maxL := 4) rfl rfl (Nat.le_of_ble_eq_true rfl) ?_
  intro p e s m args below meth c A Q H locs ls hx hb hml hts hown hA hP hD hK hS hl hEX hlocks hout hQ hAe
  have hl : lv_has ls 4 [(0, .ref (o 0)), (1, .int a1)] := hl
  have q0 := hts (.classLink RX6 104 "java/lang/IndexOutOfBoundsException") (by decide +kernel)
  have q1 := hts (.initialized "java/lang/IndexOutOfBoundsException") (by decide +kernel)
  unfold F_X6_plateByAmount at h
  refine lv_iload_n hx hb dX6_plateByAmount_0 rfl (lv_at hl 1 rfl) ?_
  refine lv_if_lt (tgt := 10) hx hb dX6_plateByAmount_1 (by decide) (fun c1 => ?_) (fun c1 => ?_)
  · replace h := fT c1 h
    cases h
    exact thrS (ik := 104) (is := 106) (ic := 108) (E := "java/lang/IndexOutOfBoundsException") (txt := "there is no such place") hx hb hfl hQ hAe hout hlocks hK hP hD hS hown rfl (by decide +kernel) q0 q1 (fun w hw => hts w (List.mem_cons_of_mem _ (List.mem_append_right _ hw))) th2_108 thg_108 hEX (by decide +kernel) (hl.1.trans hml.symm) dX6_plateByAmount_10 dX6_plateByAmount_13 dX6_plateByAmount_14 dX6_plateByAmount_16 dX6_plateByAmount_19 (by decide) (Nat.le_of_ble_eq_true rfl) (by decide) (by decide) (by decide) (by decide)
  · replace h := fF c1 h
    refine lv_iload_n hx hb dX6_plateByAmount_4 rfl (lv_at hl 1 rfl) ?_
    refine lv_bipush (v := (6 : Int32)) hx hb dX6_plateByAmount_5 (by decide) ?_
    refine lv_icmp_lt (tgt := 20) hx hb dX6_plateByAmount_7 (by decide) (fun c2 => ?_) (fun c2 => ?_)
    · replace h := fT c2 h
      refine lv_iconst (v := (-1 : Int32)) hx hb dX6_plateByAmount_20 (by decide) ?_
      refine lv_istore_n (lv' := [(2, .int (-1 : Int32)), (0, .ref (o 0)), (1, .int a1)]) hx hb dX6_plateByAmount_21 rfl hl (by decide) rfl (fun ls hl => ?_)
      refine lv_iconst (v := (0 : Int32)) hx hb dX6_plateByAmount_22 (by decide) ?_
      refine lv_istore_n (lv' := [(3, .int (0 : Int32)), (2, .int (-1 : Int32)), (0, .ref (o 0)), (1, .int a1)]) hx hb dX6_plateByAmount_23 rfl hl (by decide) rfl (fun ls hl => ?_)
      obtain ⟨v5, g6, h⟩ := fB1 h
      have J7 : ∀ (H : Heap) (locs : List Loc) (ls : Array Slot), va_P D vwCl (XW o y pl te be cn ch le rE rL rP rF rS rD hs ho hc sl fi) H → va_D A (XW o y pl te be cn ch le rE rL rP rF rS rD hs ho hc sl fi) → va_S A s.heap H locs → lv_has ls 4 [(2, .int v5)] → W p l e xrm_X6_plateByAmount s m args below meth c H locs 0 0 Q (F0 m 47 ls []) := by
        intro H locs ls hP hD hS hl
        refine lv_iload_n hx hb dX6_plateByAmount_47 rfl (lv_at hl 0 rfl) ?_
        exact fY hkx h
      have LP8 : ∀ (n : Nat) (x3 : Int32) (x4 : Int32) (H : Heap) (locs : List Loc) (ls : Array Slot), L_X6_plateByAmount_24 n a1 x3 x4 pl = some v5 → va_P D vwCl (XW o y pl te be cn ch le rE rL rP rF rS rD hs ho hc sl fi) H → va_D A (XW o y pl te be cn ch le rE rL rP rF rS rD hs ho hc sl fi) → va_S A s.heap H locs → lv_has ls 4 [(0, .ref (o 0)), (1, .int a1), (2, .int x3), (3, .int x4)] → W p l e xrm_X6_plateByAmount s m args below meth c H locs 0 0 Q (F0 m 24 ls []) := by
        intro n
        induction n with
        | zero => intro x3 x4 H locs ls h hP hD hS hl; exact fN h
        | succ n ih =>
          intro x3 x4 H locs ls h hP hD hS hl
          replace h := (L_X6_plateByAmount_24_s n a1 x3 x4 pl).symm.trans h
          refine lv_iload_n hx hb dX6_plateByAmount_24 rfl (lv_at hl 3 rfl) ?_
          refine lv_bipush (v := (6 : Int32)) hx hb dX6_plateByAmount_25 (by decide) ?_
          refine lv_icmp_ge (tgt := 47) hx hb dX6_plateByAmount_27 (by decide) (fun c9 => ?_) (fun c9 => ?_)
          · replace h := fT c9 h
            cases h
            exact J7 _ _ _ hP hD hS (lv_sub hl [2] rfl)
          · replace h := fF c9 h
            refine lv_aload_n hx hb dX6_plateByAmount_30 rfl (lv_at hl 0 rfl) ?_
            refine lv_iload_n hx hb dX6_plateByAmount_31 rfl (lv_at hl 3 rfl) ?_
            obtain ⟨r10, g11, h⟩ := fB1 h
            refine cV_i (As := [.int x4]) (rest := []) (ws1 := (XW o y pl te be cn ch le rE rL rP rF rS rD hs ho hc sl fi)) ⟨hx, hb, hml, hown, hts⟩ (c_X6_platesAhead l D o y _ pl te be cn ch le rE rL rP rF rS rD hs ho hc sl fi x4 r10 g11) (cwV 1 hts gX6_plateByAmount_X6_platesAhead rfl rfl rfl hd_X6_platesAhead ⟨Nat.le_of_ble_eq_true rfl, Nat.le_of_ble_eq_true rfl⟩) hK hP hD hS hA [0, 1, 2, 3, 4, 5, 6, 7, 8, 9, 10, 11] [] [0, 1, 2, 3, 4, 5, 6, 7, 8, 9, 10, 11] rfl rfl rfl (by decide) rfl rfl rfl 0 (ci := 4) rfl rfl rfl hl.1 rfl (Nat.le_of_ble_eq_true rfl) dX6_plateByAmount_32 ⟨Nat.le_of_ble_eq_true rfl, Nat.le_of_ble_eq_true rfl⟩ (fun H locs hP hD hS => ?_)
            refine lv_iload_n hx hb dX6_plateByAmount_35 rfl (lv_at hl 1 rfl) ?_
            have J12 : ∀ (v13 : Int32) (ls : Array Slot), v13 = (if r10 = a1 then x4 else x3) → lv_has ls 4 [(0, .ref (o 0)), (1, .int a1), (2, .int v13), (3, .int x4)] → W p l e xrm_X6_plateByAmount s m args below meth c H locs 0 0 Q (F0 m 41 ls []) := by
              intro v13 ls ev13 hl
              subst ev13
              refine lv_iinc (v := x4 + (1 : Int32)) (lv' := [(3, .int (x4 + (1 : Int32))), (0, .ref (o 0)), (1, .int a1), (2, .int (if r10 = a1 then x4 else x3))]) hx hb dX6_plateByAmount_41 hl (k := 3) rfl rfl (by decide) rfl (fun ls hl => ?_)
              refine lv_goto (tgt := 24) hx hb dX6_plateByAmount_44 (by decide) ?_
              exact ih (if r10 = a1 then x4 else x3) (x4 + (1 : Int32)) _ _ _ h hP hD hS (lv_sub hl [1, 2, 3, 0] rfl)
            refine lv_icmp_ne (tgt := 41) hx hb dX6_plateByAmount_36 (by decide) (fun c14 => ?_) (fun c14 => ?_)
            · exact J12 _ _ (by rw [if_neg c14]) (lv_sub hl [0, 1, 2, 3] rfl)
            · refine lv_iload_n hx hb dX6_plateByAmount_39 rfl (lv_at hl 3 rfl) ?_
              refine lv_istore_n (lv' := [(2, .int x4), (0, .ref (o 0)), (1, .int a1), (3, .int x4)]) hx hb dX6_plateByAmount_40 rfl hl (by decide) rfl (fun ls hl => ?_)
              exact J12 _ _ (by rw [if_pos c14]) (lv_sub hl [1, 2, 0, 3] rfl)
      exact LP8 FU (-1 : Int32) (0 : Int32) _ _ _ g6 hP hD hS (lv_sub hl [2, 3, 1, 0] rfl)
    · replace h := fF c2 h
      cases h
      exact thrS (ik := 104) (is := 106) (ic := 108) (E := "java/lang/IndexOutOfBoundsException") (txt := "there is no such place") hx hb hfl hQ hAe hout hlocks hK hP hD hS hown rfl (by decide +kernel) q0 q1 (fun w hw => hts w (List.mem_cons_of_mem _ (List.mem_append_right _ hw))) th2_108 thg_108 hEX (by decide +kernel) (hl.1.trans hml.symm) dX6_plateByAmount_10 dX6_plateByAmount_13 dX6_plateByAmount_14 dX6_plateByAmount_16 dX6_plateByAmount_19 (by decide) (Nat.le_of_ble_eq_true rfl) (by decide) (by decide) (by decide) (by decide)
