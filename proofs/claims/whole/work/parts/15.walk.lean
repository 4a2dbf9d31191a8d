abbrev rm_X6_saveState : Room := { frames := 1, cells := 0, slots := 0, locals := 22 }
theorem hd_X6_saveState : yX6_saveState.cls = RX6 ∧ yX6_saveState.cls ≠ "java/lang/invoke/MethodHandle" ∧ yX6_saveState.cls ≠ "java/lang/invoke/VarHandle" ∧ (parseMethodDescriptor yX6_saveState.desc).map (fun d => d.parameters.length) = some 1 := by decide +kernel
set_option maxHeartbeats 0 in
set_option maxRecDepth 100000 in
theorem c_X6_saveState (l : Launch) (D : va_G) (o : Nat → Nat) (y : Nat → ClassId) (sz : Nat) (pl : Nat → Int64) (te : Nat → Int32) (be : Nat → Int64) (cn : Int32) (ch : Nat → Int32) (le : Int32) (rE : Int32) (rL : Int32) (rP : Int32) (rF : Int32) (rS : Int32) (rD : Int32) (hs : Nat → Int64) (ho : Int32) (hc : Int32) (sl : Nat → Int64) (fi : Nat → Int32) (a1 : Int32) (r : Int32) (sl' : Nat → Int64) (fi' : Nat → Int32) (h : F_X6_saveState pl sl fi a1 = some (0, r, sl', fi')) : Met l yX6_saveState wsX6_saveState rm_X6_saveState (va_Pc [.ref (o 0), .int a1] (px D y sz (XW o y pl te be cn ch le rE rL rP rF rS rD hs ho hc sl fi))) (Qri D y sz (XW o y pl te be cn ch le rE rL rP rF rS rD hs ho hc sl fi) (XW o y pl te be cn ch le rE rL rP rF rS rD hs ho hc sl' fi') r) 0 0 (va_A (XW o y pl te be cn ch le rE rL rP rF rS rD hs ho hc sl fi) sz) := by
  refine hd_i (cc := cX6_saveState) (maxL := 2) rfl rfl (Nat.le_of_ble_eq_true rfl) ?_
  intro p e s m args below meth c A Q H locs ls hx hb hml hts hown _ hA hP hD hK hS hl hE
  have hl : lv_has ls 2 [(0, .ref (o 0)), (1, .int a1)] := hl
  have q0 := hts (.fieldLink RX6 9 "SliceShares" "plates" "[J") (by decide +kernel)
  have q1 := hts (.fieldLink RX6 43 "SliceShares" "slots" "[J") (by decide +kernel)
  have q2 := hts (.methodLink RX6 227 arraycopyName) (by decide +kernel)
  have q3 := hts (.native arraycopyName) (by decide +kernel)
  have q4 := hts (.static arraycopyName) (by decide +kernel)
  have q5 := hts (.initialized "java/lang/System") (by decide +kernel)
  have q6 := hts (.fieldLink RX6 46 "SliceShares" "slotFilled" "[Z") (by decide +kernel)
  have hinRX6 : ∀ w ∈ wsX60, w ∈ wsX6_saveState := by decide +kernel
  unfold F_X6_saveState at h
  refine lv_iload_n hx hb dX6_saveState_0 rfl (lv_at hl 1 rfl) ?_
  obtain ⟨k1, g2, h⟩ := fB1 h
  by_cases e3 : ¬ k1 = 0
  · replace h := fF e3 h
    exact fX e3 h
  replace e3 := Classical.not_not.mp e3
  subst e3
  replace h := fT rfl h
  refine cT_v (As := [.int a1]) (rest := []) ⟨hx, hb, hml, hown, hts⟩ (c_X6_requireSlot l D y _ a1 g2) (va_cwS 1 hts gX6_saveState_X6_requireSlot rfl rfl rfl hd_X6_requireSlot ⟨Nat.le_of_ble_eq_true rfl, Nat.le_of_ble_eq_true rfl⟩) hK hP hD hS hA rfl hl.1 rfl (Nat.le_of_ble_eq_true rfl) dX6_saveState_1 ⟨Nat.le_of_ble_eq_true rfl, Nat.le_of_ble_eq_true rfl⟩ (fun H locs hP hD hS => ?_)
  refine lv_aload_n hx hb dX6_saveState_4 rfl (lv_at hl 0 rfl) ?_
  refine va_get (D := D) (ci := 4) (C := RX6) (T := TX6) (N := 7) hx hb hts hinRX6 hown hK hP 0 rfl rfl 0 (by decide) q0 (fun _ h9 => h9) rfl dX6_saveState_5 ?_
  refine lv_iconst (v := (0 : Int32)) hx hb dX6_saveState_8 (by decide) ?_
  refine lv_aload_n hx hb dX6_saveState_9 rfl (lv_at hl 0 rfl) ?_
  refine va_get (D := D) (ci := 4) (C := RX6) (T := TX6) (N := 7) hx hb hts hinRX6 hown hK hP 0 rfl rfl 5 (by decide) q1 (fun _ h9 => h9) rfl dX6_saveState_10 ?_
  refine lv_iload_n hx hb dX6_saveState_13 rfl (lv_at hl 1 rfl) ?_
  refine lv_bipush (v := (6 : Int32)) hx hb dX6_saveState_14 (by decide) ?_
  refine lv_imul hx hb dX6_saveState_16 ?_
  refine lv_bipush (v := (6 : Int32)) hx hb dX6_saveState_17 (by decide) ?_
  obtain ⟨g4, h⟩ := fG h
  refine va_copyl (n := (6 : Int32)) hx hb (hml.trans hl.1.symm) hown q2 q3 q4 q5 hK hP hD hS 1 10 1 1 rfl rfl rfl rfl rfl (by decide) (fun q => g4 (Or.inl q)) (by decide) (by decide) (Nat.le_of_not_lt (fun q => g4 (Or.inr q))) (fun _ _ => rfl) (Nat.le_of_ble_eq_true rfl) (Nat.le_of_ble_eq_true rfl) dX6_saveState_19 (fun H locs hP hD hS => ?_)
  have hP : va_P D vwCl (XW o y pl te be cn ch le rE rL rP rF rS rD hs ho hc (va_cpy pl sl (0 : Int32).toNatClampNeg (a1 * (6 : Int32)).toNatClampNeg (6 : Int32).toNatClampNeg) fi) H := hP
  have hD : va_D A (XW o y pl te be cn ch le rE rL rP rF rS rD hs ho hc (va_cpy pl sl (0 : Int32).toNatClampNeg (a1 * (6 : Int32)).toNatClampNeg (6 : Int32).toNatClampNeg) fi) := hD
  refine lv_aload_n hx hb dX6_saveState_22 rfl (lv_at hl 0 rfl) ?_
  refine va_get (D := D) (ci := 4) (C := RX6) (T := TX6) (N := 7) hx hb hts hinRX6 hown hK hP 0 rfl rfl 6 (by decide) q6 (fun _ h9 => h9) rfl dX6_saveState_23 ?_
  refine lv_iload_n hx hb dX6_saveState_26 rfl (lv_at hl 1 rfl) ?_
  refine lv_iconst (v := (1 : Int32)) hx hb dX6_saveState_27 (by decide) ?_
  obtain ⟨g5, h⟩ := fG h
  refine va_zast hx hb hK hP hD hS 11 3 rfl rfl g5 dX6_saveState_28 (fun H locs hP hD hS => ?_)
  have hP : va_P D vwCl (XW o y pl te be cn ch le rE rL rP rF rS rD hs ho hc (va_cpy pl sl (0 : Int32).toNatClampNeg (a1 * (6 : Int32)).toNatClampNeg (6 : Int32).toNatClampNeg) (upd fi a1.toNatClampNeg (vp_nar .boolean (1 : Int32)))) H := hP
  have hD : va_D A (XW o y pl te be cn ch le rE rL rP rF rS rD hs ho hc (va_cpy pl sl (0 : Int32).toNatClampNeg (a1 * (6 : Int32)).toNatClampNeg (6 : Int32).toNatClampNeg) (upd fi a1.toNatClampNeg (vp_nar .boolean (1 : Int32)))) := hD
  refine lv_aload_n hx hb dX6_saveState_29 rfl (lv_at hl 0 rfl) ?_
  obtain ⟨r6, g7, h⟩ := fB1 h
  refine cV_i (As := []) (rest := []) (ws1 := (XW o y pl te be cn ch le rE rL rP rF rS rD hs ho hc (va_cpy pl sl (0 : Int32).toNatClampNeg (a1 * (6 : Int32)).toNatClampNeg (6 : Int32).toNatClampNeg) (upd fi a1.toNatClampNeg (vp_nar .boolean (1 : Int32))))) ⟨hx, hb, hml, hown, hts⟩ (c_X6_platesNotZero l D o y _ pl te be cn ch le rE rL rP rF rS rD hs ho hc (va_cpy pl sl (0 : Int32).toNatClampNeg (a1 * (6 : Int32)).toNatClampNeg (6 : Int32).toNatClampNeg) (upd fi a1.toNatClampNeg (vp_nar .boolean (1 : Int32))) r6 g7) (cwV 0 hts gX6_saveState_X6_platesNotZero rfl rfl rfl hd_X6_platesNotZero ⟨Nat.le_of_ble_eq_true rfl, Nat.le_of_ble_eq_true rfl⟩) hK hP hD hS hA [0, 1, 2, 3, 4, 5, 6, 7, 8, 9, 10, 11] [] [0, 1, 2, 3, 4, 5, 6, 7, 8, 9, 10, 11] rfl rfl rfl (by decide) rfl rfl rfl 0 (ci := 4) rfl rfl rfl hl.1 rfl (Nat.le_of_ble_eq_true rfl) dX6_saveState_30 ⟨Nat.le_of_ble_eq_true rfl, Nat.le_of_ble_eq_true rfl⟩ (fun H locs hP hD hS => ?_)
  cases h
  exact hE _ _ _ _ dX6_saveState_33 hP hD hS
abbrev xrm_X6_saveState : Room := { frames := 7, cells := 1, slots := 6, locals := 102 }
set_option maxHeartbeats 0 in
set_option maxRecDepth 100000 in
theorem x_X6_saveState (l : Launch) (hfl : l.stackTraces = false) (D : va_G) (o : Nat → Nat) (y : Nat → ClassId) (sz : Nat) (pl : Nat → Int64) (te : Nat → Int32) (be : Nat → Int64) (cn : Int32) (ch : Nat → Int32) (le : Int32) (rE : Int32) (rL : Int32) (rP : Int32) (rF : Int32) (rS : Int32) (rD : Int32) (hs : Nat → Int64) (ho : Int32) (hc : Int32) (sl : Nat → Int64) (fi : Nat → Int32) (a1 : Int32) (k : Nat) (r : Int32) (sl' : Nat → Int64) (fi' : Nat → Int32) (hkx : ¬ k = 0) (h : F_X6_saveState pl sl fi a1 = some (k, r, sl', fi')) : vx_Met l yX6_saveState wsX6_saveState xrm_X6_saveState (va_Pc [.ref (o 0), .int a1] (pxe D y sz (XW o y pl te be cn ch le rE rL rP rF rS rD hs ho hc sl fi))) (QNo (XW o y pl te be cn ch le rE rL rP rF rS rD hs ho hc sl fi) sz) (QX D y sz (XW o y pl te be cn ch le rE rL rP rF rS rD hs ho hc sl fi) (XW o y pl te be cn ch le rE rL rP rF rS rD hs ho hc sl' fi') k) 1 6 (va_A (XW o y pl te be cn ch le rE rL rP rF rS rD hs ho hc sl fi) sz) := by
  refine hd_x (cc := cX6_saveState) (maxL := 2) rfl rfl (Nat.le_of_ble_eq_true rfl) ?_
  intro p e s m args below meth c A Q H locs ls hx hb hml hts hown hA hP hD hK hS hl hEX hlocks hout hQ hAe
  have hl : lv_has ls 2 [(0, .ref (o 0)), (1, .int a1)] := hl
  have q0 := hts (.fieldLink RX6 9 "SliceShares" "plates" "[J") (by decide +kernel)
  have q1 := hts (.fieldLink RX6 43 "SliceShares" "slots" "[J") (by decide +kernel)
  have q2 := hts (.methodLink RX6 227 arraycopyName) (by decide +kernel)
  have q3 := hts (.native arraycopyName) (by decide +kernel)
  have q4 := hts (.static arraycopyName) (by decide +kernel)
  have q5 := hts (.initialized "java/lang/System") (by decide +kernel)
  have q6 := hts (.fieldLink RX6 46 "SliceShares" "slotFilled" "[Z") (by decide +kernel)
  have hinRX6 : ∀ w ∈ wsX60, w ∈ wsX6_saveState := by decide +kernel
  unfold F_X6_saveState at h
  refine lv_iload_n hx hb dX6_saveState_0 rfl (lv_at hl 1 rfl) ?_
  obtain ⟨k1, g2, h⟩ := fB1 h
  by_cases e3 : ¬ k1 = 0
  · replace h := fF e3 h
    refine xc_S (As := [.int a1]) (rest := []) (ws1 := (XW o y pl te be cn ch le rE rL rP rF rS rD hs ho hc sl fi)) ⟨hx, hb, hml, hown, hts⟩ (x_X6_requireSlot l hfl D y _ a1 k1 e3 g2) (va_cwS 1 hts gX6_saveState_X6_requireSlot rfl rfl rfl hd_X6_requireSlot ⟨Nat.le_of_ble_eq_true rfl, Nat.le_of_ble_eq_true rfl⟩) hK hP hD hS hA hEX [] [0, 1, 2, 3, 4, 5, 6, 7, 8, 9, 10, 11] [0, 1, 2, 3, 4, 5, 6, 7, 8, 9, 10, 11] rfl rfl rfl (by decide) rfl rfl rfl rfl hl.1 rfl (Nat.le_of_ble_eq_true rfl) dX6_saveState_1 ⟨Nat.le_of_ble_eq_true rfl, Nat.le_of_ble_eq_true rfl⟩ (fun H locs ce q hP hD hS hce hv hcl => ?_)
    cases h
    exact outX hQ hAe hout hlocks hK hP hD hS hce hv hcl rfl (by decide) (by decide)
  replace e3 := Classical.not_not.mp e3
  subst e3
  replace h := fT rfl h
  refine cT_v (As := [.int a1]) (rest := []) ⟨hx, hb, hml, hown, hts⟩ (c_X6_requireSlot l D y _ a1 g2) (va_cwS 1 hts gX6_saveState_X6_requireSlot rfl rfl rfl hd_X6_requireSlot ⟨Nat.le_of_ble_eq_true rfl, Nat.le_of_ble_eq_true rfl⟩) hK hP hD hS hA rfl hl.1 rfl (Nat.le_of_ble_eq_true rfl) dX6_saveState_1 ⟨Nat.le_of_ble_eq_true rfl, Nat.le_of_ble_eq_true rfl⟩ (fun H locs hP hD hS => ?_)
  refine lv_aload_n hx hb dX6_saveState_4 rfl (lv_at hl 0 rfl) ?_
  refine va_get (D := D) (ci := 4) (C := RX6) (T := TX6) (N := 7) hx hb hts hinRX6 hown hK hP 0 rfl rfl 0 (by decide) q0 (fun _ h9 => h9) rfl dX6_saveState_5 ?_
  refine lv_iconst (v := (0 : Int32)) hx hb dX6_saveState_8 (by decide) ?_
  refine lv_aload_n hx hb dX6_saveState_9 rfl (lv_at hl 0 rfl) ?_
  refine va_get (D := D) (ci := 4) (C := RX6) (T := TX6) (N := 7) hx hb hts hinRX6 hown hK hP 0 rfl rfl 5 (by decide) q1 (fun _ h9 => h9) rfl dX6_saveState_10 ?_
  refine lv_iload_n hx hb dX6_saveState_13 rfl (lv_at hl 1 rfl) ?_
  refine lv_bipush (v := (6 : Int32)) hx hb dX6_saveState_14 (by decide) ?_
  refine lv_imul hx hb dX6_saveState_16 ?_
  refine lv_bipush (v := (6 : Int32)) hx hb dX6_saveState_17 (by decide) ?_
  obtain ⟨g4, h⟩ := fG h
  refine va_copyl (n := (6 : Int32)) hx hb (hml.trans hl.1.symm) hown q2 q3 q4 q5 hK hP hD hS 1 10 1 1 rfl rfl rfl rfl rfl (by decide) (fun q => g4 (Or.inl q)) (by decide) (by decide) (Nat.le_of_not_lt (fun q => g4 (Or.inr q))) (fun _ _ => rfl) (Nat.le_of_ble_eq_true rfl) (Nat.le_of_ble_eq_true rfl) dX6_saveState_19 (fun H locs hP hD hS => ?_)
  have hP : va_P D vwCl (XW o y pl te be cn ch le rE rL rP rF rS rD hs ho hc (va_cpy pl sl (0 : Int32).toNatClampNeg (a1 * (6 : Int32)).toNatClampNeg (6 : Int32).toNatClampNeg) fi) H := hP
  have hD : va_D A (XW o y pl te be cn ch le rE rL rP rF rS rD hs ho hc (va_cpy pl sl (0 : Int32).toNatClampNeg (a1 * (6 : Int32)).toNatClampNeg (6 : Int32).toNatClampNeg) fi) := hD
  refine lv_aload_n hx hb dX6_saveState_22 rfl (lv_at hl 0 rfl) ?_
  refine va_get (D := D) (ci := 4) (C := RX6) (T := TX6) (N := 7) hx hb hts hinRX6 hown hK hP 0 rfl rfl 6 (by decide) q6 (fun _ h9 => h9) rfl dX6_saveState_23 ?_
  refine lv_iload_n hx hb dX6_saveState_26 rfl (lv_at hl 1 rfl) ?_
  refine lv_iconst (v := (1 : Int32)) hx hb dX6_saveState_27 (by decide) ?_
  obtain ⟨g5, h⟩ := fG h
  refine va_zast hx hb hK hP hD hS 11 3 rfl rfl g5 dX6_saveState_28 (fun H locs hP hD hS => ?_)
  have hP : va_P D vwCl (XW o y pl te be cn ch le rE rL rP rF rS rD hs ho hc (va_cpy pl sl (0 : Int32).toNatClampNeg (a1 * (6 : Int32)).toNatClampNeg (6 : Int32).toNatClampNeg) (upd fi a1.toNatClampNeg (vp_nar .boolean (1 : Int32)))) H := hP
  have hD : va_D A (XW o y pl te be cn ch le rE rL rP rF rS rD hs ho hc (va_cpy pl sl (0 : Int32).toNatClampNeg (a1 * (6 : Int32)).toNatClampNeg (6 : Int32).toNatClampNeg) (upd fi a1.toNatClampNeg (vp_nar .boolean (1 : Int32)))) := hD
  refine lv_aload_n hx hb dX6_saveState_29 rfl (lv_at hl 0 rfl) ?_
  obtain ⟨r6, g7, h⟩ := fB1 h
  refine cV_i (As := []) (rest := []) (ws1 := (XW o y pl te be cn ch le rE rL rP rF rS rD hs ho hc (va_cpy pl sl (0 : Int32).toNatClampNeg (a1 * (6 : Int32)).toNatClampNeg (6 : Int32).toNatClampNeg) (upd fi a1.toNatClampNeg (vp_nar .boolean (1 : Int32))))) ⟨hx, hb, hml, hown, hts⟩ (c_X6_platesNotZero l D o y _ pl te be cn ch le rE rL rP rF rS rD hs ho hc (va_cpy pl sl (0 : Int32).toNatClampNeg (a1 * (6 : Int32)).toNatClampNeg (6 : Int32).toNatClampNeg) (upd fi a1.toNatClampNeg (vp_nar .boolean (1 : Int32))) r6 g7) (cwV 0 hts gX6_saveState_X6_platesNotZero rfl rfl rfl hd_X6_platesNotZero ⟨Nat.le_of_ble_eq_true rfl, Nat.le_of_ble_eq_true rfl⟩) hK hP hD hS hA [0, 1, 2, 3, 4, 5, 6, 7, 8, 9, 10, 11] [] [0, 1, 2, 3, 4, 5, 6, 7, 8, 9, 10, 11] rfl rfl rfl (by decide) rfl rfl rfl 0 (ci := 4) rfl rfl rfl hl.1 rfl (Nat.le_of_ble_eq_true rfl) dX6_saveState_30 ⟨Nat.le_of_ble_eq_true rfl, Nat.le_of_ble_eq_true rfl⟩ (fun H locs hP hD hS => ?_)
  exact fY hkx h
abbrev rm_X6_loadState : Room := { frames := 2, cells := 0, slots := 0, locals := 42 }
theorem hd_X6_loadState : yX6_loadState.cls = RX6 ∧ yX6_loadState.cls ≠ "java/lang/invoke/MethodHandle" ∧ yX6_loadState.cls ≠ "java/lang/invoke/VarHandle" ∧ (parseMethodDescriptor yX6_loadState.desc).map (fun d => d.parameters.length) = some 1 := by decide +kernel
set_option maxHeartbeats 0 in
set_option maxRecDepth 100000 in
theorem c_X6_loadState (l : Launch) (D : va_G) (o : Nat → Nat) (y : Nat → ClassId) (sz : Nat) (pl : Nat → Int64) (te : Nat → Int32) (be : Nat → Int64) (cn : Int32) (ch : Nat → Int32) (le : Int32) (rE : Int32) (rL : Int32) (rP : Int32) (rF : Int32) (rS : Int32) (rD : Int32) (hs : Nat → Int64) (ho : Int32) (hc : Int32) (sl : Nat → Int64) (fi : Nat → Int32) (a1 : Int32) (r : Int32) (pl' : Nat → Int64) (hs' : Nat → Int64) (ho' : Int32) (hc' : Int32) (h : F_X6_loadState pl hs ho hc sl fi a1 = some (0, r, pl', hs', ho', hc')) : Met l yX6_loadState wsX6_loadState rm_X6_loadState (va_Pc [.ref (o 0), .int a1] (px D y sz (XW o y pl te be cn ch le rE rL rP rF rS rD hs ho hc sl fi))) (Qri D y sz (XW o y pl te be cn ch le rE rL rP rF rS rD hs ho hc sl fi) (XW o y pl' te be cn ch le rE rL rP rF rS rD hs' ho' hc' sl fi) r) 0 0 (va_A (XW o y pl te be cn ch le rE rL rP rF rS rD hs ho hc sl fi) sz) := by
  refine hd_i (cc := cX6_loadState) (maxL := 2) rfl rfl (Nat.le_of_ble_eq_true rfl) ?_
  intro p e s m args below meth c A Q H locs ls hx hb hml hts hown _ hA hP hD hK hS hl hE
  have hl : lv_has ls 2 [(0, .ref (o 0)), (1, .int a1)] := hl
  have q0 := hts (.fieldLink RX6 46 "SliceShares" "slotFilled" "[Z") (by decide +kernel)
  have q1 := hts (.fieldLink RX6 39 "SliceShares" "history" "LSliceShares$History;") (by decide +kernel)
  have q2 := hts (.fieldLink RX6 9 "SliceShares" "plates" "[J") (by decide +kernel)
  have q3 := hts (.fieldLink RX6 43 "SliceShares" "slots" "[J") (by decide +kernel)
  have q4 := hts (.methodLink RX6 227 arraycopyName) (by decide +kernel)
  have q5 := hts (.native arraycopyName) (by decide +kernel)
  have q6 := hts (.static arraycopyName) (by decide +kernel)
  have q7 := hts (.initialized "java/lang/System") (by decide +kernel)
  have hinRX6 : ∀ w ∈ wsX60, w ∈ wsX6_loadState := by decide +kernel
  unfold F_X6_loadState at h
  refine lv_iload_n hx hb dX6_loadState_0 rfl (lv_at hl 1 rfl) ?_
  obtain ⟨k1, g2, h⟩ := fB1 h
  by_cases e3 : ¬ k1 = 0
  · replace h := fF e3 h
    exact fX e3 h
  replace e3 := Classical.not_not.mp e3
  subst e3
  replace h := fT rfl h
  refine cT_v (As := [.int a1]) (rest := []) ⟨hx, hb, hml, hown, hts⟩ (c_X6_requireSlot l D y _ a1 g2) (va_cwS 1 hts gX6_loadState_X6_requireSlot rfl rfl rfl hd_X6_requireSlot ⟨Nat.le_of_ble_eq_true rfl, Nat.le_of_ble_eq_true rfl⟩) hK hP hD hS hA rfl hl.1 rfl (Nat.le_of_ble_eq_true rfl) dX6_loadState_1 ⟨Nat.le_of_ble_eq_true rfl, Nat.le_of_ble_eq_true rfl⟩ (fun H locs hP hD hS => ?_)
  refine lv_aload_n hx hb dX6_loadState_4 rfl (lv_at hl 0 rfl) ?_
  refine va_get (D := D) (ci := 4) (C := RX6) (T := TX6) (N := 7) hx hb hts hinRX6 hown hK hP 0 rfl rfl 6 (by decide) q0 (fun _ h9 => h9) rfl dX6_loadState_5 ?_
  refine lv_iload_n hx hb dX6_loadState_8 rfl (lv_at hl 1 rfl) ?_
  obtain ⟨g4, h⟩ := fG h
  refine va_zald hx hb hK hP 11 3 rfl rfl g4 dX6_loadState_9 ?_
  refine lv_if_ne (tgt := 23) hx hb dX6_loadState_10 (by decide) (fun c5 => ?_) (fun c5 => ?_)
  · replace h := fF c5 h
    refine lv_aload_n hx hb dX6_loadState_23 rfl (lv_at hl 0 rfl) ?_
    refine va_get (D := D) (ci := 4) (C := RX6) (T := TX6) (N := 7) hx hb hts hinRX6 hown hK hP 0 rfl rfl 4 (by decide) q1 (fun _ h9 => h9) rfl dX6_loadState_24 ?_
    refine lv_aload_n hx hb dX6_loadState_27 rfl (lv_at hl 0 rfl) ?_
    refine va_get (D := D) (ci := 4) (C := RX6) (T := TX6) (N := 7) hx hb hts hinRX6 hown hK hP 0 rfl rfl 0 (by decide) q2 (fun _ h9 => h9) rfl dX6_loadState_28 ?_
    obtain ⟨hs6, ho7, hc8, g9, h⟩ := fB3 h
    refine cV_v (As := [.ref (o 1)]) (rest := []) (ws1 := (XW o y pl te be cn ch le rE rL rP rF rS rD hs6 ho7 hc8 sl fi)) ⟨hx, hb, hml, hown, hts⟩ (c_X4_record l D o y _ pl hs ho hc hs6 ho7 hc8 g9) (cwV 1 hts gX6_loadState_X4_record rfl rfl rfl hd_X4_record ⟨Nat.le_of_ble_eq_true rfl, Nat.le_of_ble_eq_true rfl⟩) hK hP hD hS hA [8, 9, 1] [0, 2, 3, 4, 5, 6, 7, 10, 11] [0, 11, 1, 2, 3, 4, 5, 6, 9, 10, 7, 8] rfl rfl rfl (by decide) rfl rfl rfl 0 (ci := 3) rfl rfl rfl hl.1 rfl (Nat.le_of_ble_eq_true rfl) dX6_loadState_31 ⟨Nat.le_of_ble_eq_true rfl, Nat.le_of_ble_eq_true rfl⟩ (fun H locs hP hD hS => ?_)
    refine lv_aload_n hx hb dX6_loadState_34 rfl (lv_at hl 0 rfl) ?_
    refine va_get (D := D) (ci := 4) (C := RX6) (T := TX6) (N := 7) hx hb hts hinRX6 hown hK hP 0 rfl rfl 5 (by decide) q3 (fun _ h9 => h9) rfl dX6_loadState_35 ?_
    refine lv_iload_n hx hb dX6_loadState_38 rfl (lv_at hl 1 rfl) ?_
    refine lv_bipush (v := (6 : Int32)) hx hb dX6_loadState_39 (by decide) ?_
    refine lv_imul hx hb dX6_loadState_41 ?_
    refine lv_aload_n hx hb dX6_loadState_42 rfl (lv_at hl 0 rfl) ?_
    refine va_get (D := D) (ci := 4) (C := RX6) (T := TX6) (N := 7) hx hb hts hinRX6 hown hK hP 0 rfl rfl 0 (by decide) q2 (fun _ h9 => h9) rfl dX6_loadState_43 ?_
    refine lv_iconst (v := (0 : Int32)) hx hb dX6_loadState_46 (by decide) ?_
    refine lv_bipush (v := (6 : Int32)) hx hb dX6_loadState_47 (by decide) ?_
    obtain ⟨g10, h⟩ := fG h
    refine va_copyl (n := (6 : Int32)) hx hb (hml.trans hl.1.symm) hown q4 q5 q6 q7 hK hP hD hS 10 1 1 1 rfl rfl rfl rfl rfl (fun q => g10 (Or.inl q)) (by decide) (by decide) (Nat.le_of_not_lt (fun q => g10 (Or.inr q))) (by decide) (fun _ _ => rfl) (Nat.le_of_ble_eq_true rfl) (Nat.le_of_ble_eq_true rfl) dX6_loadState_49 (fun H locs hP hD hS => ?_)
    have hP : va_P D vwCl (XW o y (va_cpy sl pl (a1 * (6 : Int32)).toNatClampNeg (0 : Int32).toNatClampNeg (6 : Int32).toNatClampNeg) te be cn ch le rE rL rP rF rS rD hs6 ho7 hc8 sl fi) H := hP
    have hD : va_D A (XW o y (va_cpy sl pl (a1 * (6 : Int32)).toNatClampNeg (0 : Int32).toNatClampNeg (6 : Int32).toNatClampNeg) te be cn ch le rE rL rP rF rS rD hs6 ho7 hc8 sl fi) := hD
    refine lv_aload_n hx hb dX6_loadState_52 rfl (lv_at hl 0 rfl) ?_
    obtain ⟨r11, g12, h⟩ := fB1 h
    refine cV_i (As := []) (rest := []) (ws1 := (XW o y (va_cpy sl pl (a1 * (6 : Int32)).toNatClampNeg (0 : Int32).toNatClampNeg (6 : Int32).toNatClampNeg) te be cn ch le rE rL rP rF rS rD hs6 ho7 hc8 sl fi)) ⟨hx, hb, hml, hown, hts⟩ (c_X6_platesNotZero l D o y _ (va_cpy sl pl (a1 * (6 : Int32)).toNatClampNeg (0 : Int32).toNatClampNeg (6 : Int32).toNatClampNeg) te be cn ch le rE rL rP rF rS rD hs6 ho7 hc8 sl fi r11 g12) (cwV 0 hts gX6_loadState_X6_platesNotZero rfl rfl rfl hd_X6_platesNotZero ⟨Nat.le_of_ble_eq_true rfl, Nat.le_of_ble_eq_true rfl⟩) hK hP hD hS hA [0, 1, 2, 3, 4, 5, 6, 7, 8, 9, 10, 11] [] [0, 1, 2, 3, 4, 5, 6, 7, 8, 9, 10, 11] rfl rfl rfl (by decide) rfl rfl rfl 0 (ci := 4) rfl rfl rfl hl.1 rfl (Nat.le_of_ble_eq_true rfl) dX6_loadState_53 ⟨Nat.le_of_ble_eq_true rfl, Nat.le_of_ble_eq_true rfl⟩ (fun H locs hP hD hS => ?_)
    cases h
    exact hE _ _ _ _ dX6_loadState_56 hP hD hS
  · replace h := fT c5 h
    exact fX (show ¬ (3 : Nat) = 0 by decide) h
abbrev xrm_X6_loadState : Room := { frames := 7, cells := 1, slots := 6, locals := 102 }
set_option maxHeartbeats 0 in
set_option maxRecDepth 100000 in
theorem x_X6_loadState (l : Launch) (hfl : l.stackTraces = false) (D : va_G) (o : Nat → Nat) (y : Nat → ClassId) (sz : Nat) (pl : Nat → Int64) (te : Nat → Int32) (be : Nat → Int64) (cn : Int32) (ch : Nat → Int32) (le : Int32) (rE : Int32) (rL : Int32) (rP : Int32) (rF : Int32) (rS : Int32) (rD : Int32) (hs : Nat → Int64) (ho : Int32) (hc : Int32) (sl : Nat → Int64) (fi : Nat → Int32) (a1 : Int32) (k : Nat) (r : Int32) (pl' : Nat → Int64) (hs' : Nat → Int64) (ho' : Int32) (hc' : Int32) (hkx : ¬ k = 0) (h : F_X6_loadState pl hs ho hc sl fi a1 = some (k, r, pl', hs', ho', hc')) : vx_Met l yX6_loadState wsX6_loadState xrm_X6_loadState (va_Pc [.ref (o 0), .int a1] (pxe D y sz (XW o y pl te be cn ch le rE rL rP rF rS rD hs ho hc sl fi))) (QNo (XW o y pl te be cn ch le rE rL rP rF rS rD hs ho hc sl fi) sz) (QX D y sz (XW o y pl te be cn ch le rE rL rP rF rS rD hs ho hc sl fi) (XW o y pl' te be cn ch le rE rL rP rF rS rD hs' ho' hc' sl fi) k) 1 6 (va_A (XW o y pl te be cn ch le rE rL rP rF rS rD hs ho hc sl fi) sz) := by
  refine hd_x (cc := cX6_loadState) (maxL := 2) rfl rfl (Nat.le_of_ble_eq_true rfl) ?_
  intro p e s m args below meth c A Q H locs ls hx hb hml hts hown hA hP hD hK hS hl hEX hlocks hout hQ hAe
  have hl : lv_has ls 2 [(0, .ref (o 0)), (1, .int a1)] := hl
  have q0 := hts (.fieldLink RX6 46 "SliceShares" "slotFilled" "[Z") (by decide +kernel)
  have q1 := hts (.fieldLink RX6 39 "SliceShares" "history" "LSliceShares$History;") (by decide +kernel)
  have q2 := hts (.fieldLink RX6 9 "SliceShares" "plates" "[J") (by decide +kernel)
  have q3 := hts (.fieldLink RX6 43 "SliceShares" "slots" "[J") (by decide +kernel)
  have q4 := hts (.methodLink RX6 227 arraycopyName) (by decide +kernel)
  have q5 := hts (.native arraycopyName) (by decide +kernel)
  have q6 := hts (.static arraycopyName) (by decide +kernel)
  have q7 := hts (.initialized "java/lang/System") (by decide +kernel)
  have q8 := hts (.classLink RX6 176 "java/lang/IllegalStateException") (by decide +kernel)
  have q9 := hts (.initialized "java/lang/IllegalStateException") (by decide +kernel)
  have hinRX6 : ∀ w ∈ wsX60, w ∈ wsX6_loadState := by decide +kernel
  unfold F_X6_loadState at h
  refine lv_iload_n hx hb dX6_loadState_0 rfl (lv_at hl 1 rfl) ?_
  obtain ⟨k1, g2, h⟩ := fB1 h
  by_cases e3 : ¬ k1 = 0
  · replace h := fF e3 h
    refine xc_S (As := [.int a1]) (rest := []) (ws1 := (XW o y pl te be cn ch le rE rL rP rF rS rD hs ho hc sl fi)) ⟨hx, hb, hml, hown, hts⟩ (x_X6_requireSlot l hfl D y _ a1 k1 e3 g2) (va_cwS 1 hts gX6_loadState_X6_requireSlot rfl rfl rfl hd_X6_requireSlot ⟨Nat.le_of_ble_eq_true rfl, Nat.le_of_ble_eq_true rfl⟩) hK hP hD hS hA hEX [] [0, 1, 2, 3, 4, 5, 6, 7, 8, 9, 10, 11] [0, 1, 2, 3, 4, 5, 6, 7, 8, 9, 10, 11] rfl rfl rfl (by decide) rfl rfl rfl rfl hl.1 rfl (Nat.le_of_ble_eq_true rfl) dX6_loadState_1 ⟨Nat.le_of_ble_eq_true rfl, Nat.le_of_ble_eq_true rfl⟩ (fun H locs ce q hP hD hS hce hv hcl => ?_)
    cases h
    exact outX hQ hAe hout hlocks hK hP hD hS hce hv hcl rfl (by decide) (by decide)
  replace e3 := Classical.not_not.mp e3
  subst e3
  replace h := fT rfl h
  refine cT_v (As := [.int a1]) (rest := []) ⟨hx, hb, hml, hown, hts⟩ (c_X6_requireSlot l D y _ a1 g2) (va_cwS 1 hts gX6_loadState_X6_requireSlot rfl rfl rfl hd_X6_requireSlot ⟨Nat.le_of_ble_eq_true rfl, Nat.le_of_ble_eq_true rfl⟩) hK hP hD hS hA rfl hl.1 rfl (Nat.le_of_ble_eq_true rfl) dX6_loadState_1 ⟨Nat.le_of_ble_eq_true rfl, Nat.le_of_ble_eq_true rfl⟩ (fun H locs hP hD hS => ?_)
  refine lv_aload_n hx hb dX6_loadState_4 rfl (lv_at hl 0 rfl) ?_
  refine va_get (D := D) (ci := 4) (C := RX6) (T := TX6) (N := 7) hx hb hts hinRX6 hown hK hP 0 rfl rfl 6 (by decide) q0 (fun _ h9 => h9) rfl dX6_loadState_5 ?_
  refine lv_iload_n hx hb dX6_loadState_8 rfl (lv_at hl 1 rfl) ?_
  obtain ⟨g4, h⟩ := fG h
  refine va_zald hx hb hK hP 11 3 rfl rfl g4 dX6_loadState_9 ?_
  refine lv_if_ne (tgt := 23) hx hb dX6_loadState_10 (by decide) (fun c5 => ?_) (fun c5 => ?_)
  · replace h := fF c5 h
    refine lv_aload_n hx hb dX6_loadState_23 rfl (lv_at hl 0 rfl) ?_
    refine va_get (D := D) (ci := 4) (C := RX6) (T := TX6) (N := 7) hx hb hts hinRX6 hown hK hP 0 rfl rfl 4 (by decide) q1 (fun _ h9 => h9) rfl dX6_loadState_24 ?_
    refine lv_aload_n hx hb dX6_loadState_27 rfl (lv_at hl 0 rfl) ?_
    refine va_get (D := D) (ci := 4) (C := RX6) (T := TX6) (N := 7) hx hb hts hinRX6 hown hK hP 0 rfl rfl 0 (by decide) q2 (fun _ h9 => h9) rfl dX6_loadState_28 ?_
    obtain ⟨hs6, ho7, hc8, g9, h⟩ := fB3 h
    refine cV_v (As := [.ref (o 1)]) (rest := []) (ws1 := (XW o y pl te be cn ch le rE rL rP rF rS rD hs6 ho7 hc8 sl fi)) ⟨hx, hb, hml, hown, hts⟩ (c_X4_record l D o y _ pl hs ho hc hs6 ho7 hc8 g9) (cwV 1 hts gX6_loadState_X4_record rfl rfl rfl hd_X4_record ⟨Nat.le_of_ble_eq_true rfl, Nat.le_of_ble_eq_true rfl⟩) hK hP hD hS hA [8, 9, 1] [0, 2, 3, 4, 5, 6, 7, 10, 11] [0, 11, 1, 2, 3, 4, 5, 6, 9, 10, 7, 8] rfl rfl rfl (by decide) rfl rfl rfl 0 (ci := 3) rfl rfl rfl hl.1 rfl (Nat.le_of_ble_eq_true rfl) dX6_loadState_31 ⟨Nat.le_of_ble_eq_true rfl, Nat.le_of_ble_eq_true rfl⟩ (fun H locs hP hD hS => ?_)
    refine lv_aload_n hx hb dX6_loadState_34 rfl (lv_at hl 0 rfl) ?_
    refine va_get (D := D) (ci := 4) (C := RX6) (T := TX6) (N := 7) hx hb hts hinRX6 hown hK hP 0 rfl rfl 5 (by decide) q3 (fun _ h9 => h9) rfl dX6_loadState_35 ?_
    refine lv_iload_n hx hb dX6_loadState_38 rfl (lv_at hl 1 rfl) ?_
    refine lv_bipush (v := (6 : Int32)) hx hb dX6_loadState_39 (by decide) ?_
    refine lv_imul hx hb dX6_loadState_41 ?_
    refine lv_aload_n hx hb dX6_loadState_42 rfl (lv_at hl 0 rfl) ?_
    refine va_get (D := D) (ci := 4) (C := RX6) (T := TX6) (N := 7) hx hb hts hinRX6 hown hK hP 0 rfl rfl 0 (by decide) q2 (fun _ h9 => h9) rfl dX6_loadState_43 ?_
    refine lv_iconst (v := (0 : Int32)) hx hb dX6_loadState_46 (by decide) ?_
    refine lv_bipush (v := (6 : Int32)) hx hb dX6_loadState_47 (by decide) ?_
    obtain ⟨g10, h⟩ := fG h
    refine va_copyl (n := (6 : Int32)) hx hb (hml.trans hl.1.symm) hown q4 q5 q6 q7 hK hP hD hS 10 1 1 1 rfl rfl rfl rfl rfl (fun q => g10 (Or.inl q)) (by decide) (by decide) (Nat.le_of_not_lt (fun q => g10 (Or.inr q))) (by decide) (fun _ _ => rfl) (Nat.le_of_ble_eq_true rfl) (Nat.le_of_ble_eq_true rfl) dX6_loadState_49 (fun H locs hP hD hS => ?_)
    have hP : va_P D vwCl (XW o y (va_cpy sl pl (a1 * (6 : Int32)).toNatClampNeg (0 : Int32).toNatClampNeg (6 : Int32).toNatClampNeg) te be cn ch le rE rL rP rF rS rD hs6 ho7 hc8 sl fi) H := hP
    have hD : va_D A (XW o y (va_cpy sl pl (a1 * (6 : Int32)).toNatClampNeg (0 : Int32).toNatClampNeg (6 : Int32).toNatClampNeg) te be cn ch le rE rL rP rF rS rD hs6 ho7 hc8 sl fi) := hD
    refine lv_aload_n hx hb dX6_loadState_52 rfl (lv_at hl 0 rfl) ?_
    obtain ⟨r11, g12, h⟩ := fB1 h
    refine cV_i (As := []) (rest := []) (ws1 := (XW o y (va_cpy sl pl (a1 * (6 : Int32)).toNatClampNeg (0 : Int32).toNatClampNeg (6 : Int32).toNatClampNeg) te be cn ch le rE rL rP rF rS rD hs6 ho7 hc8 sl fi)) ⟨hx, hb, hml, hown, hts⟩ (c_X6_platesNotZero l D o y _ (va_cpy sl pl (a1 * (6 : Int32)).toNatClampNeg (0 : Int32).toNatClampNeg (6 : Int32).toNatClampNeg) te be cn ch le rE rL rP rF rS rD hs6 ho7 hc8 sl fi r11 g12) (cwV 0 hts gX6_loadState_X6_platesNotZero rfl rfl rfl hd_X6_platesNotZero ⟨Nat.le_of_ble_eq_true rfl, Nat.le_of_ble_eq_true rfl⟩) hK hP hD hS hA [0, 1, 2, 3, 4, 5, 6, 7, 8, 9, 10, 11] [] [0, 1, 2, 3, 4, 5, 6, 7, 8, 9, 10, 11] rfl rfl rfl (by decide) rfl rfl rfl 0 (ci := 4) rfl rfl rfl hl.1 rfl (Nat.le_of_ble_eq_true rfl) dX6_loadState_53 ⟨Nat.le_of_ble_eq_true rfl, Nat.le_of_ble_eq_true rfl⟩ (fun H locs hP hD hS => ?_)
    exact fY hkx h
  · replace h := fT c5 h
    cases h
    exact thrS (ik := 176) (is := 236) (ic := 180) (E := "java/lang/IllegalStateException") (txt := "nothing was saved in the slot") hx hb hfl hQ hAe hout hlocks hK hP hD hS hown rfl (by decide +kernel) q8 q9 (fun w hw => hts w (List.mem_cons_of_mem _ (List.mem_append_left _ (List.mem_append_right _ hw)))) th2_180 thg_180 hEX (by decide +kernel) (hl.1.trans hml.symm) dX6_loadState_13 dX6_loadState_16 dX6_loadState_17 dX6_loadState_19 dX6_loadState_22 (by decide) (Nat.le_of_ble_eq_true rfl) (by decide) (by decide) (by decide) (by decide)
abbrev rm_X7_thrown : Room := { frames := 0, cells := 0, slots := 0, locals := 0 }
theorem hd_X7_thrown : yX7_thrown.cls = RX7 ∧ yX7_thrown.cls ≠ "java/lang/invoke/MethodHandle" ∧ yX7_thrown.cls ≠ "java/lang/invoke/VarHandle" ∧ (parseMethodDescriptor yX7_thrown.desc).map (fun d => d.parameters.length) = some 0 := by decide +kernel
set_option maxHeartbeats 0 in
set_option maxRecDepth 100000 in
theorem c_X7_thrown (l : Launch) (D : va_G) (w : Nat → Nat) (y : Nat → ClassId) (sz : Nat) (th : Int32) (ms : Nat → Int32) (mst : Nat → Int32) (smn : Int32) (msl : Nat → Int32) (mhs : Nat → Int32) (mtx : Nat → Int32) (mle : Int32) (mat : Int32) (mwl : Int32) (mrd : Nat → Int32) (mrm : Int32) (mtp : Int64) (mbt : Int64) (mtm : Nat → Int32) (mtn : Int32) (mnt : Int32) (mnb : Int32) (mun : Nat → Int32) (mum : Int32) (mau : Int32) : Met l yX7_thrown wsX7_thrown rm_X7_thrown (va_Pc [.ref (w 0)] (px D y sz (MW w y th ms mst smn msl mhs mtx mle mat mwl mrd mrm mtp mbt mtm mtn mnt mnb mun mum mau))) (Qri D y sz (MW w y th ms mst smn msl mhs mtx mle mat mwl mrd mrm mtp mbt mtm mtn mnt mnb mun mum mau) (MW w y th ms mst smn msl mhs mtx mle mat mwl mrd mrm mtp mbt mtm mtn mnt mnb mun mum mau) (F_X7_thrown th)) 0 0 (va_A (MW w y th ms mst smn msl mhs mtx mle mat mwl mrd mrm mtp mbt mtm mtn mnt mnb mun mum mau) sz) := by
  refine hd_i (cc := cX7_thrown) (maxL := 1) rfl rfl (Nat.le_of_ble_eq_true rfl) ?_
  intro p e s m args below meth c A Q H locs ls hx hb hml hts hown _ hA hP hD hK hS hl hE
  have hl : lv_has ls 1 [(0, .ref (w 0))] := hl
  have q0 := hts (.fieldLink RX7 35 "SliceSharesModel" "thrown" "I") (by decide +kernel)
  have hinRX7 : ∀ w ∈ wsX70, w ∈ wsX7_thrown := by decide +kernel
  refine lv_aload_n hx hb dX7_thrown_0 rfl (lv_at hl 0 rfl) ?_
  refine va_get (D := D) (ci := 5) (C := RX7) (T := TX7) (N := 21) hx hb hts hinRX7 hown hK hP 0 rfl rfl 0 (by decide) q0 (fun _ h9 => h9) rfl dX7_thrown_1 ?_
  exact hE _ _ _ _ dX7_thrown_4 hP hD hS
abbrev rm_X7_fails : Room := { frames := 0, cells := 0, slots := 0, locals := 0 }
theorem hd_X7_fails : yX7_fails.cls = RX7 ∧ yX7_fails.cls ≠ "java/lang/invoke/MethodHandle" ∧ yX7_fails.cls ≠ "java/lang/invoke/VarHandle" ∧ (parseMethodDescriptor yX7_fails.desc).map (fun d => d.parameters.length) = some 1 := by decide +kernel
set_option maxHeartbeats 0 in
set_option maxRecDepth 100000 in
theorem c_X7_fails (l : Launch) (D : va_G) (w : Nat → Nat) (y : Nat → ClassId) (sz : Nat) (th : Int32) (ms : Nat → Int32) (mst : Nat → Int32) (smn : Int32) (msl : Nat → Int32) (mhs : Nat → Int32) (mtx : Nat → Int32) (mle : Int32) (mat : Int32) (mwl : Int32) (mrd : Nat → Int32) (mrm : Int32) (mtp : Int64) (mbt : Int64) (mtm : Nat → Int32) (mtn : Int32) (mnt : Int32) (mnb : Int32) (mun : Nat → Int32) (mum : Int32) (mau : Int32) (a1 : Int32) (r : Int32) (th' : Int32) (h : F_X7_fails th a1 = some (r, th')) : Met l yX7_fails wsX7_fails rm_X7_fails (va_Pc [.ref (w 0), .int a1] (px D y sz (MW w y th ms mst smn msl mhs mtx mle mat mwl mrd mrm mtp mbt mtm mtn mnt mnb mun mum mau))) (Qri D y sz (MW w y th ms mst smn msl mhs mtx mle mat mwl mrd mrm mtp mbt mtm mtn mnt mnb mun mum mau) (MW w y th' ms mst smn msl mhs mtx mle mat mwl mrd mrm mtp mbt mtm mtn mnt mnb mun mum mau) r) 0 0 (va_A (MW w y th ms mst smn msl mhs mtx mle mat mwl mrd mrm mtp mbt mtm mtn mnt mnb mun mum mau) sz) := by
  refine hd_i (cc := cX7_fails) (maxL := 2) rfl rfl (Nat.le_of_ble_eq_true rfl) ?_
  intro p e s m args below meth c A Q H locs ls hx hb hml hts hown _ hA hP hD hK hS hl hE
  have hl : lv_has ls 2 [(0, .ref (w 0)), (1, .int a1)] := hl
  have q0 := hts (.fieldLink RX7 35 "SliceSharesModel" "thrown" "I") (by decide +kernel)
  have hinRX7 : ∀ w ∈ wsX70, w ∈ wsX7_fails := by decide +kernel
  unfold F_X7_fails at h
  refine lv_aload_n hx hb dX7_fails_0 rfl (lv_at hl 0 rfl) ?_
  refine lv_iload_n hx hb dX7_fails_1 rfl (lv_at hl 1 rfl) ?_
  refine va_put (D := D) (ci := 5) (v := .int a1) (ty := .int) (C := RX7) (T := TX7) (N := 21) hx hb hts hinRX7 tyX7 tyX7_ok nmX7 hown hK hP hD hS 0 rfl rfl 0 (by decide) q0 (fun _ h9 => h9) rfl (by decide +kernel) rfl rfl (Nat.le_of_ble_eq_true rfl) dX7_fails_2 (fun H locs hP hD hS => ?_)
  have hP : va_P D vwCl (MW w y a1 ms mst smn msl mhs mtx mle mat mwl mrd mrm mtp mbt mtm mtn mnt mnb mun mum mau) H := hP
  have hD : va_D A (MW w y a1 ms mst smn msl mhs mtx mle mat mwl mrd mrm mtp mbt mtm mtn mnt mnb mun mum mau) := hD
  refine lv_iconst (v := (0 : Int32)) hx hb dX7_fails_5 (by decide) ?_
  cases h
  exact hE _ _ _ _ dX7_fails_6 hP hD hS
abbrev rm_X7_in : Room := { frames := 0, cells := 0, slots := 0, locals := 0 }
theorem hd_X7_in : yX7_in.cls ≠ "java/lang/invoke/MethodHandle" ∧ yX7_in.cls ≠ "java/lang/invoke/VarHandle" ∧ (parseMethodDescriptor yX7_in.desc).map (fun d => d.parameters.length) = some 3 := by decide +kernel
set_option maxHeartbeats 0 in
set_option maxRecDepth 100000 in
theorem c_X7_in (l : Launch) (D : va_G) (y : Nat → ClassId) (sz : Nat) (a1 : Int32) (a2 : Int32) (a3 : Int32) : Met l yX7_in wsX7_in rm_X7_in (va_Pc [.int a1, .int a2, .int a3] (px D y sz [])) (Qri D y sz [] [] (F_X7_in a1 a2 a3)) 0 0 (va_A [] sz) := by
  refine hd_z (cc := cX7_in) (maxL := 3) (rt := .boolean) rfl rfl (Nat.le_of_ble_eq_true rfl) ?_
  intro p e s m args below meth c A Q H locs ls hx hb hml hts hown _ hA hP hD hK hS hl hE
  have hl : lv_has ls 3 [(0, .int a1), (1, .int a2), (2, .int a3)] := hl
  refine lv_iload_n hx hb dX7_in_0 rfl (lv_at hl 0 rfl) ?_
  refine lv_iload_n hx hb dX7_in_1 rfl (lv_at hl 1 rfl) ?_
  have J1 : ∀ (v2 : Int32) (ls : Array Slot), v2 = (if a1 < a2 then (0 : Int32) else (if a3 < a1 then (0 : Int32) else (1 : Int32))) → lv_has ls 3 [(0, .int a1), (1, .int a2), (2, .int a3)] → W p l e rm_X7_in s m args below meth c H locs 0 0 Q (F0 m 15 ls [.int v2]) := by
    intro v2 ls ev2 hl
    subst ev2
    exact hE _ _ _ _ dX7_in_15 hP hD hS (nz01 (z01 (Or.inl rfl) (z01 (Or.inl rfl) (Or.inr rfl))))
  refine lv_icmp_lt (tgt := 14) hx hb dX7_in_2 (by decide) (fun c3 => ?_) (fun c3 => ?_)
  · refine lv_iconst (v := (0 : Int32)) hx hb dX7_in_14 (by decide) ?_
    exact J1 _ _ (by rw [if_pos c3]) (lv_sub hl [0, 1, 2] rfl)
  · refine lv_iload_n hx hb dX7_in_5 rfl (lv_at hl 0 rfl) ?_
    refine lv_iload_n hx hb dX7_in_6 rfl (lv_at hl 2 rfl) ?_
    refine lv_icmp_gt (tgt := 14) hx hb dX7_in_7 (by decide) (fun c4 => ?_) (fun c4 => ?_)
    · refine lv_iconst (v := (0 : Int32)) hx hb dX7_in_14 (by decide) ?_
      exact J1 _ _ (by rw [if_neg c3, if_pos c4]) (lv_sub hl [0, 1, 2] rfl)
    · refine lv_iconst (v := (1 : Int32)) hx hb dX7_in_10 (by decide) ?_
      refine lv_goto (tgt := 15) hx hb dX7_in_11 (by decide) ?_
      exact J1 _ _ (by rw [if_neg c3, if_neg c4]) (lv_sub hl [0, 1, 2] rfl)
abbrev rm_X7_isPlate : Room := { frames := 1, cells := 0, slots := 0, locals := 22 }
theorem hd_X7_isPlate : yX7_isPlate.cls ≠ "java/lang/invoke/MethodHandle" ∧ yX7_isPlate.cls ≠ "java/lang/invoke/VarHandle" ∧ (parseMethodDescriptor yX7_isPlate.desc).map (fun d => d.parameters.length) = some 1 := by decide +kernel
set_option maxHeartbeats 0 in
set_option maxRecDepth 100000 in
theorem c_X7_isPlate (l : Launch) (D : va_G) (y : Nat → ClassId) (sz : Nat) (a1 : Int32) : Met l yX7_isPlate wsX7_isPlate rm_X7_isPlate (va_Pc [.int a1] (px D y sz [])) (Qri D y sz [] [] (F_X7_isPlate a1)) 0 0 (va_A [] sz) := by
  refine hd_z (cc := cX7_isPlate) (maxL := 1) (rt := .boolean) rfl rfl (Nat.le_of_ble_eq_true rfl) ?_
  intro p e s m args below meth c A Q H locs ls hx hb hml hts hown _ hA hP hD hK hS hl hE
  have hl : lv_has ls 1 [(0, .int a1)] := hl
  refine lv_iload_n hx hb dX7_isPlate_0 rfl (lv_at hl 0 rfl) ?_
  refine lv_iconst (v := (0 : Int32)) hx hb dX7_isPlate_1 (by decide) ?_
  refine lv_iconst (v := (5 : Int32)) hx hb dX7_isPlate_2 (by decide) ?_
  refine cT_i (As := [.int a1, .int (0 : Int32), .int (5 : Int32)]) (rest := []) ⟨hx, hb, hml, hown, hts⟩ (c_X7_in l D y _ a1 (0 : Int32) (5 : Int32)) (va_cwS 3 hts gX7_isPlate_X7_in rfl rfl rfl hd_X7_in ⟨Nat.le_of_ble_eq_true rfl, Nat.le_of_ble_eq_true rfl⟩) hK hP hD hS hA rfl hl.1 rfl (Nat.le_of_ble_eq_true rfl) dX7_isPlate_3 ⟨Nat.le_of_ble_eq_true rfl, Nat.le_of_ble_eq_true rfl⟩ (fun H locs hP hD hS => ?_)
  exact hE _ _ _ _ dX7_isPlate_6 hP hD hS (nz01 (z_X7_in _ _ _))
abbrev rm_X7_arePlates : Room := { frames := 2, cells := 0, slots := 0, locals := 42 }
theorem hd_X7_arePlates : yX7_arePlates.cls ≠ "java/lang/invoke/MethodHandle" ∧ yX7_arePlates.cls ≠ "java/lang/invoke/VarHandle" ∧ (parseMethodDescriptor yX7_arePlates.desc).map (fun d => d.parameters.length) = some 2 := by decide +kernel
set_option maxHeartbeats 0 in
set_option maxRecDepth 100000 in
theorem c_X7_arePlates (l : Launch) (D : va_G) (y : Nat → ClassId) (sz : Nat) (a1 : Int32) (a2 : Int32) : Met l yX7_arePlates wsX7_arePlates rm_X7_arePlates (va_Pc [.int a1, .int a2] (px D y sz [])) (Qri D y sz [] [] (F_X7_arePlates a1 a2)) 0 0 (va_A [] sz) := by
  refine hd_z (cc := cX7_arePlates) (maxL := 2) (rt := .boolean) rfl rfl (Nat.le_of_ble_eq_true rfl) ?_
  intro p e s m args below meth c A Q H locs ls hx hb hml hts hown _ hA hP hD hK hS hl hE
  have hl : lv_has ls 2 [(0, .int a1), (1, .int a2)] := hl
  refine lv_iload_n hx hb dX7_arePlates_0 rfl (lv_at hl 0 rfl) ?_
  refine cT_i (As := [.int a1]) (rest := []) ⟨hx, hb, hml, hown, hts⟩ (c_X7_isPlate l D y _ a1) (va_cwS 1 hts gX7_arePlates_X7_isPlate rfl rfl rfl hd_X7_isPlate ⟨Nat.le_of_ble_eq_true rfl, Nat.le_of_ble_eq_true rfl⟩) hK hP hD hS hA rfl hl.1 rfl (Nat.le_of_ble_eq_true rfl) dX7_arePlates_1 ⟨Nat.le_of_ble_eq_true rfl, Nat.le_of_ble_eq_true rfl⟩ (fun H locs hP hD hS => ?_)
  have J1 : ∀ (v2 : Int32) (H : Heap) (locs : List Loc) (ls : Array Slot), v2 = (if (F_X7_isPlate a1) = (0 : Int32) then (0 : Int32) else (if (F_X7_isPlate a2) = (0 : Int32) then (0 : Int32) else (1 : Int32))) → va_P D vwCl [] H → va_S A s.heap H locs → lv_has ls 2 [(0, .int a1), (1, .int a2)] → W p l e rm_X7_arePlates s m args below meth c H locs 0 0 Q (F0 m 19 ls [.int v2]) := by
    intro v2 H locs ls ev2 hP hS hl
    subst ev2
    exact hE _ _ _ _ dX7_arePlates_19 hP hD hS (nz01 (z01 (Or.inl rfl) (z01 (Or.inl rfl) (Or.inr rfl))))
  refine lv_if_eq (tgt := 18) hx hb dX7_arePlates_4 (by decide) (fun c3 => ?_) (fun c3 => ?_)
  · refine lv_iconst (v := (0 : Int32)) hx hb dX7_arePlates_18 (by decide) ?_
    exact J1 _ _ _ _ (by rw [if_pos c3]) hP hS (lv_sub hl [0, 1] rfl)
  · refine lv_iload_n hx hb dX7_arePlates_7 rfl (lv_at hl 1 rfl) ?_
    refine cT_i (As := [.int a2]) (rest := []) ⟨hx, hb, hml, hown, hts⟩ (c_X7_isPlate l D y _ a2) (va_cwS 1 hts gX7_arePlates_X7_isPlate rfl rfl rfl hd_X7_isPlate ⟨Nat.le_of_ble_eq_true rfl, Nat.le_of_ble_eq_true rfl⟩) hK hP hD hS hA rfl hl.1 rfl (Nat.le_of_ble_eq_true rfl) dX7_arePlates_8 ⟨Nat.le_of_ble_eq_true rfl, Nat.le_of_ble_eq_true rfl⟩ (fun H locs hP hD hS => ?_)
    refine lv_if_eq (tgt := 18) hx hb dX7_arePlates_11 (by decide) (fun c4 => ?_) (fun c4 => ?_)
    · refine lv_iconst (v := (0 : Int32)) hx hb dX7_arePlates_18 (by decide) ?_
      exact J1 _ _ _ _ (by rw [if_neg c3, if_pos c4]) hP hS (lv_sub hl [0, 1] rfl)
    · refine lv_iconst (v := (1 : Int32)) hx hb dX7_arePlates_14 (by decide) ?_
      refine lv_goto (tgt := 19) hx hb dX7_arePlates_15 (by decide) ?_
      exact J1 _ _ _ _ (by rw [if_neg c3, if_neg c4]) hP hS (lv_sub hl [0, 1] rfl)
abbrev rm_X7_above : Room := { frames := 0, cells := 0, slots := 0, locals := 0 }
theorem hd_X7_above : yX7_above.cls = RX7 ∧ yX7_above.cls ≠ "java/lang/invoke/MethodHandle" ∧ yX7_above.cls ≠ "java/lang/invoke/VarHandle" ∧ (parseMethodDescriptor yX7_above.desc).map (fun d => d.parameters.length) = some 1 := by decide +kernel
set_option maxHeartbeats 0 in
set_option maxRecDepth 100000 in
theorem c_X7_above (l : Launch) (D : va_G) (w : Nat → Nat) (y : Nat → ClassId) (sz : Nat) (th : Int32) (ms : Nat → Int32) (mst : Nat → Int32) (smn : Int32) (msl : Nat → Int32) (mhs : Nat → Int32) (mtx : Nat → Int32) (mle : Int32) (mat : Int32) (mwl : Int32) (mrd : Nat → Int32) (mrm : Int32) (mtp : Int64) (mbt : Int64) (mtm : Nat → Int32) (mtn : Int32) (mnt : Int32) (mnb : Int32) (mun : Nat → Int32) (mum : Int32) (mau : Int32) (a1 : Int32) (r : Int32) (h : F_X7_above ms a1 = some r) : Met l yX7_above wsX7_above rm_X7_above (va_Pc [.ref (w 0), .int a1] (px D y sz (MW w y th ms mst smn msl mhs mtx mle mat mwl mrd mrm mtp mbt mtm mtn mnt mnb mun mum mau))) (Qri D y sz (MW w y th ms mst smn msl mhs mtx mle mat mwl mrd mrm mtp mbt mtm mtn mnt mnb mun mum mau) (MW w y th ms mst smn msl mhs mtx mle mat mwl mrd mrm mtp mbt mtm mtn mnt mnb mun mum mau) r) 0 0 (va_A (MW w y th ms mst smn msl mhs mtx mle mat mwl mrd mrm mtp mbt mtm mtn mnt mnb mun mum mau) sz) := by
  refine hd_i (cc := cX7_above) (maxL := 2) rfl rfl (Nat.le_of_ble_eq_true rfl) ?_
  intro p e s m args below meth c A Q H locs ls hx hb hml hts hown _ hA hP hD hK hS hl hE
  have hl : lv_has ls 2 [(0, .ref (w 0)), (1, .int a1)] := hl
  have q0 := hts (.fieldLink RX7 7 "SliceSharesModel" "s" "[I") (by decide +kernel)
  have hinRX7 : ∀ w ∈ wsX70, w ∈ wsX7_above := by decide +kernel
  unfold F_X7_above at h
  refine lv_aload_n hx hb dX7_above_0 rfl (lv_at hl 0 rfl) ?_
  refine va_get (D := D) (ci := 5) (C := RX7) (T := TX7) (N := 21) hx hb hts hinRX7 hown hK hP 0 rfl rfl 1 (by decide) q0 (fun _ h9 => h9) rfl dX7_above_1 ?_
  refine lv_iconst (v := (2 : Int32)) hx hb dX7_above_4 (by decide) ?_
  refine lv_iload_n hx hb dX7_above_5 rfl (lv_at hl 1 rfl) ?_
  refine lv_imul hx hb dX7_above_6 ?_
  obtain ⟨g1, h⟩ := fG h
  refine va_iald hx hb hK hP 1 0 rfl rfl g1 dX7_above_7 ?_
  cases h
  exact hE _ _ _ _ dX7_above_8 hP hD hS
abbrev rm_X7_below : Room := { frames := 0, cells := 0, slots := 0, locals := 0 }
theorem hd_X7_below : yX7_below.cls = RX7 ∧ yX7_below.cls ≠ "java/lang/invoke/MethodHandle" ∧ yX7_below.cls ≠ "java/lang/invoke/VarHandle" ∧ (parseMethodDescriptor yX7_below.desc).map (fun d => d.parameters.length) = some 1 := by decide +kernel
set_option maxHeartbeats 0 in
set_option maxRecDepth 100000 in
theorem c_X7_below (l : Launch) (D : va_G) (w : Nat → Nat) (y : Nat → ClassId) (sz : Nat) (th : Int32) (ms : Nat → Int32) (mst : Nat → Int32) (smn : Int32) (msl : Nat → Int32) (mhs : Nat → Int32) (mtx : Nat → Int32) (mle : Int32) (mat : Int32) (mwl : Int32) (mrd : Nat → Int32) (mrm : Int32) (mtp : Int64) (mbt : Int64) (mtm : Nat → Int32) (mtn : Int32) (mnt : Int32) (mnb : Int32) (mun : Nat → Int32) (mum : Int32) (mau : Int32) (a1 : Int32) (r : Int32) (h : F_X7_below ms a1 = some r) : Met l yX7_below wsX7_below rm_X7_below (va_Pc [.ref (w 0), .int a1] (px D y sz (MW w y th ms mst smn msl mhs mtx mle mat mwl mrd mrm mtp mbt mtm mtn mnt mnb mun mum mau))) (Qri D y sz (MW w y th ms mst smn msl mhs mtx mle mat mwl mrd mrm mtp mbt mtm mtn mnt mnb mun mum mau) (MW w y th ms mst smn msl mhs mtx mle mat mwl mrd mrm mtp mbt mtm mtn mnt mnb mun mum mau) r) 0 0 (va_A (MW w y th ms mst smn msl mhs mtx mle mat mwl mrd mrm mtp mbt mtm mtn mnt mnb mun mum mau) sz) := by
  refine hd_i (cc := cX7_below) (maxL := 2) rfl rfl (Nat.le_of_ble_eq_true rfl) ?_
  intro p e s m args below meth c A Q H locs ls hx hb hml hts hown _ hA hP hD hK hS hl hE
  have hl : lv_has ls 2 [(0, .ref (w 0)), (1, .int a1)] := hl
  have q0 := hts (.fieldLink RX7 7 "SliceSharesModel" "s" "[I") (by decide +kernel)
  have hinRX7 : ∀ w ∈ wsX70, w ∈ wsX7_below := by decide +kernel
  unfold F_X7_below at h
  refine lv_aload_n hx hb dX7_below_0 rfl (lv_at hl 0 rfl) ?_
  refine va_get (D := D) (ci := 5) (C := RX7) (T := TX7) (N := 21) hx hb hts hinRX7 hown hK hP 0 rfl rfl 1 (by decide) q0 (fun _ h9 => h9) rfl dX7_below_1 ?_
  refine lv_iconst (v := (2 : Int32)) hx hb dX7_below_4 (by decide) ?_
  refine lv_iload_n hx hb dX7_below_5 rfl (lv_at hl 1 rfl) ?_
  refine lv_imul hx hb dX7_below_6 ?_
  refine lv_iconst (v := (1 : Int32)) hx hb dX7_below_7 (by decide) ?_
  refine lv_iadd hx hb dX7_below_8 ?_
  obtain ⟨g1, h⟩ := fG h
  refine va_iald hx hb hK hP 1 0 rfl rfl g1 dX7_below_9 ?_
  cases h
  exact hE _ _ _ _ dX7_below_10 hP hD hS
abbrev rm_X7_records : Room := { frames := 0, cells := 0, slots := 0, locals := 0 }
theorem hd_X7_records : yX7_records.cls = RX7 ∧ yX7_records.cls ≠ "java/lang/invoke/MethodHandle" ∧ yX7_records.cls ≠ "java/lang/invoke/VarHandle" ∧ (parseMethodDescriptor yX7_records.desc).map (fun d => d.parameters.length) = some 0 := by decide +kernel
set_option maxHeartbeats 0 in
set_option maxRecDepth 100000 in
theorem c_X7_records (l : Launch) (D : va_G) (w : Nat → Nat) (y : Nat → ClassId) (sz : Nat) (th : Int32) (ms : Nat → Int32) (mst : Nat → Int32) (smn : Int32) (msl : Nat → Int32) (mhs : Nat → Int32) (mtx : Nat → Int32) (mle : Int32) (mat : Int32) (mwl : Int32) (mrd : Nat → Int32) (mrm : Int32) (mtp : Int64) (mbt : Int64) (mtm : Nat → Int32) (mtn : Int32) (mnt : Int32) (mnb : Int32) (mun : Nat → Int32) (mum : Int32) (mau : Int32) (mst' : Nat → Int32) (smn' : Int32) (h : F_X7_records ms mst smn = some (mst', smn')) : Met l yX7_records wsX7_records rm_X7_records (va_Pc [.ref (w 0)] (px D y sz (MW w y th ms mst smn msl mhs mtx mle mat mwl mrd mrm mtp mbt mtm mtn mnt mnb mun mum mau))) (Qrv D y sz (MW w y th ms mst smn msl mhs mtx mle mat mwl mrd mrm mtp mbt mtm mtn mnt mnb mun mum mau) (MW w y th ms mst' smn' msl mhs mtx mle mat mwl mrd mrm mtp mbt mtm mtn mnt mnb mun mum mau)) 0 0 (va_A (MW w y th ms mst smn msl mhs mtx mle mat mwl mrd mrm mtp mbt mtm mtn mnt mnb mun mum mau) sz) := by
  refine hd_v (cc := cX7_records) (maxL := 2) rfl rfl (Nat.le_of_ble_eq_true rfl) ?_
  intro p e s m args below meth c A Q H locs ls hx hb hml hts hown _ hA hP hD hK hS hl hE
  have hl : lv_has ls 2 [(0, .ref (w 0))] := hl
  have q0 := hts (.fieldLink RX7 47 "SliceSharesModel" "stateMany" "I") (by decide +kernel)
  have q1 := hts (.fieldLink RX7 13 "SliceSharesModel" "states" "[I") (by decide +kernel)
  have q2 := hts (.fieldLink RX7 7 "SliceSharesModel" "s" "[I") (by decide +kernel)
  have hinRX7 : ∀ w ∈ wsX70, w ∈ wsX7_records := by decide +kernel
  unfold F_X7_records at h
  refine lv_aload_n hx hb dX7_records_0 rfl (lv_at hl 0 rfl) ?_
  refine va_get (D := D) (ci := 5) (C := RX7) (T := TX7) (N := 21) hx hb hts hinRX7 hown hK hP 0 rfl rfl 3 (by decide) q0 (fun _ h9 => h9) rfl dX7_records_1 ?_
  refine lv_bipush (v := (6 : Int32)) hx hb dX7_records_4 (by decide) ?_
  obtain ⟨mst1, smn2, g3, h⟩ := fB2 h
  have J4 : ∀ (H : Heap) (locs : List Loc) (ls : Array Slot), va_P D vwCl (MW w y th ms mst1 smn2 msl mhs mtx mle mat mwl mrd mrm mtp mbt mtm mtn mnt mnb mun mum mau) H → va_D A (MW w y th ms mst1 smn2 msl mhs mtx mle mat mwl mrd mrm mtp mbt mtm mtn mnt mnb mun mum mau) → va_S A s.heap H locs → lv_has ls 2 [(0, .ref (w 0))] → W p l e rm_X7_records s m args below meth c H locs 0 0 Q (F0 m 48 ls []) := by
    intro H locs ls hP hD hS hl
    refine lv_iconst (v := (0 : Int32)) hx hb dX7_records_48 (by decide) ?_
    refine lv_istore_n (lv' := [(1, .int (0 : Int32)), (0, .ref (w 0))]) hx hb dX7_records_49 rfl hl (by decide) rfl (fun ls hl => ?_)
    obtain ⟨mst7, g8, h⟩ := fB1 h
    have J9 : ∀ (H : Heap) (locs : List Loc) (ls : Array Slot), va_P D vwCl (MW w y th ms mst7 smn2 msl mhs mtx mle mat mwl mrd mrm mtp mbt mtm mtn mnt mnb mun mum mau) H → va_D A (MW w y th ms mst7 smn2 msl mhs mtx mle mat mwl mrd mrm mtp mbt mtm mtn mnt mnb mun mum mau) → va_S A s.heap H locs → lv_has ls 2 [(0, .ref (w 0))] → W p l e rm_X7_records s m args below meth c H locs 0 0 Q (F0 m 82 ls []) := by
      intro H locs ls hP hD hS hl
      refine lv_aload_n hx hb dX7_records_82 rfl (lv_at hl 0 rfl) ?_
      refine lv_dup hx hb dX7_records_83 rfl ?_
      refine va_get (D := D) (ci := 5) (C := RX7) (T := TX7) (N := 21) hx hb hts hinRX7 hown hK hP 0 rfl rfl 3 (by decide) q0 (fun _ h9 => h9) rfl dX7_records_84 ?_
      refine lv_iconst (v := (1 : Int32)) hx hb dX7_records_87 (by decide) ?_
      refine lv_iadd hx hb dX7_records_88 ?_
      refine va_put (D := D) (ci := 5) (v := .int (smn2 + (1 : Int32))) (ty := .int) (C := RX7) (T := TX7) (N := 21) hx hb hts hinRX7 tyX7 tyX7_ok nmX7 hown hK hP hD hS 0 rfl rfl 3 (by decide) q0 (fun _ h9 => h9) rfl (by decide +kernel) rfl rfl (Nat.le_of_ble_eq_true rfl) dX7_records_89 (fun H locs hP hD hS => ?_)
      have hP : va_P D vwCl (MW w y th ms mst7 (smn2 + (1 : Int32)) msl mhs mtx mle mat mwl mrd mrm mtp mbt mtm mtn mnt mnb mun mum mau) H := hP
      have hD : va_D A (MW w y th ms mst7 (smn2 + (1 : Int32)) msl mhs mtx mle mat mwl mrd mrm mtp mbt mtm mtn mnt mnb mun mum mau) := hD
      cases h
      exact hE _ _ _ _ dX7_records_92 hP hD hS
    have LP10 : ∀ (n : Nat) (x5 : Int32) (mst6 : Nat → Int32) (H : Heap) (locs : List Loc) (ls : Array Slot), L_X7_records_50 n x5 ms mst6 smn2 = some mst7 → va_P D vwCl (MW w y th ms mst6 smn2 msl mhs mtx mle mat mwl mrd mrm mtp mbt mtm mtn mnt mnb mun mum mau) H → va_D A (MW w y th ms mst6 smn2 msl mhs mtx mle mat mwl mrd mrm mtp mbt mtm mtn mnt mnb mun mum mau) → va_S A s.heap H locs → lv_has ls 2 [(0, .ref (w 0)), (1, .int x5)] → W p l e rm_X7_records s m args below meth c H locs 0 0 Q (F0 m 50 ls []) := by
      intro n
      induction n with
      | zero => intro x5 mst6 H locs ls h hP hD hS hl; exact fN h
      | succ n ih =>
        intro x5 mst6 H locs ls h hP hD hS hl
        replace h := (L_X7_records_50_s n x5 ms mst6 smn2).symm.trans h
        refine lv_iload_n hx hb dX7_records_50 rfl (lv_at hl 1 rfl) ?_
        refine lv_bipush (v := (12 : Int32)) hx hb dX7_records_51 (by decide) ?_
        refine lv_icmp_ge (tgt := 82) hx hb dX7_records_53 (by decide) (fun c11 => ?_) (fun c11 => ?_)
        · replace h := fT c11 h
          cases h
          exact J9 _ _ _ hP hD hS (lv_sub hl [0] rfl)
        · replace h := fF c11 h
          refine lv_aload_n hx hb dX7_records_56 rfl (lv_at hl 0 rfl) ?_
          refine va_get (D := D) (ci := 5) (C := RX7) (T := TX7) (N := 21) hx hb hts hinRX7 hown hK hP 0 rfl rfl 2 (by decide) q1 (fun _ h9 => h9) rfl dX7_records_57 ?_
          refine lv_bipush (v := (12 : Int32)) hx hb dX7_records_60 (by decide) ?_
          refine lv_aload_n hx hb dX7_records_62 rfl (lv_at hl 0 rfl) ?_
          refine va_get (D := D) (ci := 5) (C := RX7) (T := TX7) (N := 21) hx hb hts hinRX7 hown hK hP 0 rfl rfl 3 (by decide) q0 (fun _ h9 => h9) rfl dX7_records_63 ?_
          refine lv_imul hx hb dX7_records_66 ?_
          refine lv_iload_n hx hb dX7_records_67 rfl (lv_at hl 1 rfl) ?_
          refine lv_iadd hx hb dX7_records_68 ?_
          refine lv_aload_n hx hb dX7_records_69 rfl (lv_at hl 0 rfl) ?_
          refine va_get (D := D) (ci := 5) (C := RX7) (T := TX7) (N := 21) hx hb hts hinRX7 hown hK hP 0 rfl rfl 1 (by decide) q2 (fun _ h9 => h9) rfl dX7_records_70 ?_
          refine lv_iload_n hx hb dX7_records_73 rfl (lv_at hl 1 rfl) ?_
          obtain ⟨g12, h⟩ := fG h
          refine va_iald hx hb hK hP 1 0 rfl rfl g12 dX7_records_74 ?_
          obtain ⟨g13, h⟩ := fG h
          refine va_iast hx hb hK hP hD hS 2 0 rfl rfl g13 dX7_records_75 (fun H locs hP hD hS => ?_)
          have hP : va_P D vwCl (MW w y th ms (upd mst6 (((12 : Int32) * smn2) + x5).toNatClampNeg (ms x5.toNatClampNeg)) smn2 msl mhs mtx mle mat mwl mrd mrm mtp mbt mtm mtn mnt mnb mun mum mau) H := hP
          have hD : va_D A (MW w y th ms (upd mst6 (((12 : Int32) * smn2) + x5).toNatClampNeg (ms x5.toNatClampNeg)) smn2 msl mhs mtx mle mat mwl mrd mrm mtp mbt mtm mtn mnt mnb mun mum mau) := hD
          refine lv_iinc (v := x5 + (1 : Int32)) (lv' := [(1, .int (x5 + (1 : Int32))), (0, .ref (w 0))]) hx hb dX7_records_76 hl (k := 1) rfl rfl (by decide) rfl (fun ls hl => ?_)
          refine lv_goto (tgt := 50) hx hb dX7_records_79 (by decide) ?_
          exact ih (x5 + (1 : Int32)) (upd mst6 (((12 : Int32) * smn2) + x5).toNatClampNeg (ms x5.toNatClampNeg)) _ _ _ h hP hD hS (lv_sub hl [1, 0] rfl)
    exact LP10 FU (0 : Int32) mst1 _ _ _ g8 hP hD hS (lv_sub hl [1, 0] rfl)
  refine lv_icmp_ne (tgt := 48) hx hb dX7_records_6 (by decide) (fun c14 => ?_) (fun c14 => ?_)
  · replace g3 := fF c14 g3
    cases g3
    exact J4 _ _ _ hP hD hS (lv_sub hl [0] rfl)
  · replace g3 := fT c14 g3
    refine lv_iconst (v := (0 : Int32)) hx hb dX7_records_9 (by decide) ?_
    refine lv_istore_n (lv' := [(1, .int (0 : Int32)), (0, .ref (w 0))]) hx hb dX7_records_10 rfl hl (by decide) rfl (fun ls hl => ?_)
    obtain ⟨mst17, g18, g3⟩ := fB1 g3
    have J19 : ∀ (H : Heap) (locs : List Loc) (ls : Array Slot), va_P D vwCl (MW w y th ms mst17 smn msl mhs mtx mle mat mwl mrd mrm mtp mbt mtm mtn mnt mnb mun mum mau) H → va_D A (MW w y th ms mst17 smn msl mhs mtx mle mat mwl mrd mrm mtp mbt mtm mtn mnt mnb mun mum mau) → va_S A s.heap H locs → lv_has ls 2 [(0, .ref (w 0))] → W p l e rm_X7_records s m args below meth c H locs 0 0 Q (F0 m 38 ls []) := by
      intro H locs ls hP hD hS hl
      refine lv_aload_n hx hb dX7_records_38 rfl (lv_at hl 0 rfl) ?_
      refine lv_dup hx hb dX7_records_39 rfl ?_
      refine va_get (D := D) (ci := 5) (C := RX7) (T := TX7) (N := 21) hx hb hts hinRX7 hown hK hP 0 rfl rfl 3 (by decide) q0 (fun _ h9 => h9) rfl dX7_records_40 ?_
      refine lv_iconst (v := (1 : Int32)) hx hb dX7_records_43 (by decide) ?_
      refine lv_isub hx hb dX7_records_44 ?_
      refine va_put (D := D) (ci := 5) (v := .int (smn - (1 : Int32))) (ty := .int) (C := RX7) (T := TX7) (N := 21) hx hb hts hinRX7 tyX7 tyX7_ok nmX7 hown hK hP hD hS 0 rfl rfl 3 (by decide) q0 (fun _ h9 => h9) rfl (by decide +kernel) rfl rfl (Nat.le_of_ble_eq_true rfl) dX7_records_45 (fun H locs hP hD hS => ?_)
      have hP : va_P D vwCl (MW w y th ms mst17 (smn - (1 : Int32)) msl mhs mtx mle mat mwl mrd mrm mtp mbt mtm mtn mnt mnb mun mum mau) H := hP
      have hD : va_D A (MW w y th ms mst17 (smn - (1 : Int32)) msl mhs mtx mle mat mwl mrd mrm mtp mbt mtm mtn mnt mnb mun mum mau) := hD
      cases g3
      exact J4 _ _ _ hP hD hS (lv_sub hl [0] rfl)
    have LP20 : ∀ (n : Nat) (x15 : Int32) (mst16 : Nat → Int32) (H : Heap) (locs : List Loc) (ls : Array Slot), L_X7_records_11 n x15 mst16 = some mst17 → va_P D vwCl (MW w y th ms mst16 smn msl mhs mtx mle mat mwl mrd mrm mtp mbt mtm mtn mnt mnb mun mum mau) H → va_D A (MW w y th ms mst16 smn msl mhs mtx mle mat mwl mrd mrm mtp mbt mtm mtn mnt mnb mun mum mau) → va_S A s.heap H locs → lv_has ls 2 [(0, .ref (w 0)), (1, .int x15)] → W p l e rm_X7_records s m args below meth c H locs 0 0 Q (F0 m 11 ls []) := by
      intro n
      induction n with
      | zero => intro x15 mst16 H locs ls h hP hD hS hl; exact fN h
      | succ n ih =>
        intro x15 mst16 H locs ls h hP hD hS hl
        replace h := (L_X7_records_11_s n x15 mst16).symm.trans h
        refine lv_iload_n hx hb dX7_records_11 rfl (lv_at hl 1 rfl) ?_
        refine lv_bipush (v := (60 : Int32)) hx hb dX7_records_12 (by decide) ?_
        refine lv_icmp_ge (tgt := 38) hx hb dX7_records_14 (by decide) (fun c21 => ?_) (fun c21 => ?_)
        · replace h := fT c21 h
          cases h
          exact J19 _ _ _ hP hD hS (lv_sub hl [0] rfl)
        · replace h := fF c21 h
          refine lv_aload_n hx hb dX7_records_17 rfl (lv_at hl 0 rfl) ?_
          refine va_get (D := D) (ci := 5) (C := RX7) (T := TX7) (N := 21) hx hb hts hinRX7 hown hK hP 0 rfl rfl 2 (by decide) q1 (fun _ h9 => h9) rfl dX7_records_18 ?_
          refine lv_iload_n hx hb dX7_records_21 rfl (lv_at hl 1 rfl) ?_
          refine lv_aload_n hx hb dX7_records_22 rfl (lv_at hl 0 rfl) ?_
          refine va_get (D := D) (ci := 5) (C := RX7) (T := TX7) (N := 21) hx hb hts hinRX7 hown hK hP 0 rfl rfl 2 (by decide) q1 (fun _ h9 => h9) rfl dX7_records_23 ?_
          refine lv_iload_n hx hb dX7_records_26 rfl (lv_at hl 1 rfl) ?_
          refine lv_bipush (v := (12 : Int32)) hx hb dX7_records_27 (by decide) ?_
          refine lv_iadd hx hb dX7_records_29 ?_
          obtain ⟨g22, h⟩ := fG h
          refine va_iald hx hb hK hP 2 0 rfl rfl g22 dX7_records_30 ?_
          obtain ⟨g23, h⟩ := fG h
          refine va_iast hx hb hK hP hD hS 2 0 rfl rfl g23 dX7_records_31 (fun H locs hP hD hS => ?_)
          have hP : va_P D vwCl (MW w y th ms (upd mst16 x15.toNatClampNeg (mst16 (x15 + (12 : Int32)).toNatClampNeg)) smn msl mhs mtx mle mat mwl mrd mrm mtp mbt mtm mtn mnt mnb mun mum mau) H := hP
          have hD : va_D A (MW w y th ms (upd mst16 x15.toNatClampNeg (mst16 (x15 + (12 : Int32)).toNatClampNeg)) smn msl mhs mtx mle mat mwl mrd mrm mtp mbt mtm mtn mnt mnb mun mum mau) := hD
          refine lv_iinc (v := x15 + (1 : Int32)) (lv' := [(1, .int (x15 + (1 : Int32))), (0, .ref (w 0))]) hx hb dX7_records_32 hl (k := 1) rfl rfl (by decide) rfl (fun ls hl => ?_)
          refine lv_goto (tgt := 11) hx hb dX7_records_35 (by decide) ?_
          exact ih (x15 + (1 : Int32)) (upd mst16 x15.toNatClampNeg (mst16 (x15 + (12 : Int32)).toNatClampNeg)) _ _ _ h hP hD hS (lv_sub hl [1, 0] rfl)
    exact LP20 FU (0 : Int32) mst _ _ _ g18 hP hD hS (lv_sub hl [1, 0] rfl)
abbrev rm_X7_divisor : Room := { frames := 0, cells := 0, slots := 0, locals := 0 }
theorem hd_X7_divisor : yX7_divisor.cls ≠ "java/lang/invoke/MethodHandle" ∧ yX7_divisor.cls ≠ "java/lang/invoke/VarHandle" ∧ (parseMethodDescriptor yX7_divisor.desc).map (fun d => d.parameters.length) = some 2 := by decide +kernel
set_option maxHeartbeats 0 in
set_option maxRecDepth 100000 in
theorem c_X7_divisor (l : Launch) (D : va_G) (y : Nat → ClassId) (sz : Nat) (a1 : Int64) (a2 : Int64) (r : Int64) (h : F_X7_divisor a1 a2 = some r) : Met l yX7_divisor wsX7_divisor rm_X7_divisor (va_Pc [.long a1, .long a2] (px D y sz [])) (Qrl D y sz [] [] r) 0 0 (va_A [] sz) := by
  refine hd_l (cc := cX7_divisor) (maxL := 10) rfl rfl (Nat.le_of_ble_eq_true rfl) ?_
  intro p e s m args below meth c A Q H locs ls hx hb hml hts hown _ hA hP hD hK hS hl hE
  have hl : lv_has ls 10 [(0, .long a1), (2, .long a2)] := hl
  unfold F_X7_divisor at h
  refine lv_lload_n hx hb dX7_divisor_0 rfl (lv_at hl 0 rfl) ?_
  refine lv_lstore (lv' := [(4, .long a1), (0, .long a1), (2, .long a2)]) hx hb dX7_divisor_1 hl (by decide) rfl (fun ls hl => ?_)
  refine lv_lload_n hx hb dX7_divisor_3 rfl (lv_at hl 2 rfl) ?_
  refine lv_lstore (lv' := [(6, .long a2), (4, .long a1), (0, .long a1), (2, .long a2)]) hx hb dX7_divisor_4 hl (by decide) rfl (fun ls hl => ?_)
  obtain ⟨v3, g4, h⟩ := fB1 h
  have J5 : ∀ (H : Heap) (locs : List Loc) (ls : Array Slot), va_P D vwCl [] H → va_D A [] → va_S A s.heap H locs → lv_has ls 10 [(4, .long v3)] → W p l e rm_X7_divisor s m args below meth c H locs 0 0 Q (F0 m 31 ls []) := by
    intro H locs ls hP hD hS hl
    refine lv_lload hx hb dX7_divisor_31 (lv_at hl 0 rfl) ?_
    cases h
    exact hE _ _ _ _ dX7_divisor_33 hP hD hS
  have LP6 : ∀ (n : Nat) (x1 : Int64) (x2 : Int64) (H : Heap) (locs : List Loc) (ls : Array Slot), L_X7_divisor_6 n x1 x2 = some v3 → va_P D vwCl [] H → va_D A [] → va_S A s.heap H locs → lv_has ls 10 [(4, .long x1), (6, .long x2)] → W p l e rm_X7_divisor s m args below meth c H locs 0 0 Q (F0 m 6 ls []) := by
    intro n
    induction n with
    | zero => intro x1 x2 H locs ls h hP hD hS hl; exact fN h
    | succ n ih =>
      intro x1 x2 H locs ls h hP hD hS hl
      replace h := (L_X7_divisor_6_s n x1 x2).symm.trans h
      refine lv_lload hx hb dX7_divisor_6 (lv_at hl 1 rfl) ?_
      refine lv_lconst (v := (0 : Int64)) hx hb dX7_divisor_8 rfl ?_
      refine lx_eq (tgt := 31) hx hb dX7_divisor_9 dX7_divisor_10 (by decide) (fun c7 => ?_) (fun c7 => ?_)
      · replace h := fT c7 h
        cases h
        exact J5 _ _ _ hP hD hS (lv_sub hl [0] rfl)
      · replace h := fF c7 h
        refine lv_lload hx hb dX7_divisor_13 (lv_at hl 0 rfl) ?_
        refine lv_lload hx hb dX7_divisor_15 (lv_at hl 1 rfl) ?_
        obtain ⟨g8, h⟩ := fG h
        refine lv_lrem hx hb dX7_divisor_17 g8 ?_
        refine lv_lstore (lv' := [(8, .long (x1 - x1 / x2 * x2)), (4, .long x1), (6, .long x2)]) hx hb dX7_divisor_18 hl (by decide) rfl (fun ls hl => ?_)
        refine lv_lload hx hb dX7_divisor_20 (lv_at hl 2 rfl) ?_
        refine lv_lstore (lv' := [(4, .long x2), (8, .long (x1 - x1 / x2 * x2)), (6, .long x2)]) hx hb dX7_divisor_22 hl (by decide) rfl (fun ls hl => ?_)
        refine lv_lload hx hb dX7_divisor_24 (lv_at hl 1 rfl) ?_
        refine lv_lstore (lv' := [(6, .long (x1 - x1 / x2 * x2)), (4, .long x2), (8, .long (x1 - x1 / x2 * x2))]) hx hb dX7_divisor_26 hl (by decide) rfl (fun ls hl => ?_)
        refine lv_goto (tgt := 6) hx hb dX7_divisor_28 (by decide) ?_
        exact ih x2 (x1 - x1 / x2 * x2) _ _ _ h hP hD hS (lv_sub hl [1, 0] rfl)
  exact LP6 FU a1 a2 _ _ _ g4 hP hD hS (lv_sub hl [1, 0] rfl)
abbrev rm_X7_makes : Room := { frames := 1, cells := 0, slots := 0, locals := 29 }
theorem hd_X7_makes : yX7_makes.cls = RX7 ∧ yX7_makes.cls ≠ "java/lang/invoke/MethodHandle" ∧ yX7_makes.cls ≠ "java/lang/invoke/VarHandle" ∧ (parseMethodDescriptor yX7_makes.desc).map (fun d => d.parameters.length) = some 2 := by decide +kernel
set_option maxHeartbeats 0 in
set_option maxRecDepth 100000 in
theorem c_X7_makes (l : Launch) (D : va_G) (w : Nat → Nat) (y : Nat → ClassId) (sz : Nat) (th : Int32) (ms : Nat → Int32) (mst : Nat → Int32) (smn : Int32) (msl : Nat → Int32) (mhs : Nat → Int32) (mtx : Nat → Int32) (mle : Int32) (mat : Int32) (mwl : Int32) (mrd : Nat → Int32) (mrm : Int32) (mtp : Int64) (mbt : Int64) (mtm : Nat → Int32) (mtn : Int32) (mnt : Int32) (mnb : Int32) (mun : Nat → Int32) (mum : Int32) (mau : Int32) (a1 : Int64) (a2 : Int64) (r : Int32) (mtp' : Int64) (mbt' : Int64) (h : F_X7_makes mtp mbt a1 a2 = some (r, mtp', mbt')) : Met l yX7_makes wsX7_makes rm_X7_makes (va_Pc [.ref (w 0), .long a1, .long a2] (px D y sz (MW w y th ms mst smn msl mhs mtx mle mat mwl mrd mrm mtp mbt mtm mtn mnt mnb mun mum mau))) (Qri D y sz (MW w y th ms mst smn msl mhs mtx mle mat mwl mrd mrm mtp mbt mtm mtn mnt mnb mun mum mau) (MW w y th ms mst smn msl mhs mtx mle mat mwl mrd mrm mtp' mbt' mtm mtn mnt mnb mun mum mau) r) 0 0 (va_A (MW w y th ms mst smn msl mhs mtx mle mat mwl mrd mrm mtp mbt mtm mtn mnt mnb mun mum mau) sz) := by
  refine hd_z (cc := cX7_makes) (maxL := 7) (rt := .boolean) rfl rfl (Nat.le_of_ble_eq_true rfl) ?_
  intro p e s m args below meth c A Q H locs ls hx hb hml hts hown _ hA hP hD hK hS hl hE
  have hl : lv_has ls 7 [(0, .ref (w 0)), (1, .long a1), (3, .long a2)] := hl
  have q0 := hts (.fieldLink RX7 54 "SliceSharesModel" "top" "J") (by decide +kernel)
  have q1 := hts (.fieldLink RX7 58 "SliceSharesModel" "bottom" "J") (by decide +kernel)
  have q2 := hts (.constantLong RX7 61 (1000000)) (by decide +kernel)
  have hinRX7 : ∀ w ∈ wsX70, w ∈ wsX7_makes := by decide +kernel
  unfold F_X7_makes at h
  refine lv_lload_n hx hb dX7_makes_0 rfl (lv_at hl 2 rfl) ?_
  refine lv_lload_n hx hb dX7_makes_1 rfl (lv_at hl 1 rfl) ?_
  obtain ⟨r1, g2, h⟩ := fB1 h
  refine cT_l (As := [.long a2, .long a1]) (rest := []) ⟨hx, hb, hml, hown, hts⟩ (c_X7_divisor l D y _ a2 a1 r1 g2) (va_cwS 2 hts gX7_makes_X7_divisor rfl rfl rfl hd_X7_divisor ⟨Nat.le_of_ble_eq_true rfl, Nat.le_of_ble_eq_true rfl⟩) hK hP hD hS hA rfl hl.1 rfl (Nat.le_of_ble_eq_true rfl) dX7_makes_2 ⟨Nat.le_of_ble_eq_true rfl, Nat.le_of_ble_eq_true rfl⟩ (fun H locs hP hD hS => ?_)
  refine lv_lstore (lv' := [(5, .long r1), (0, .ref (w 0)), (1, .long a1), (3, .long a2)]) hx hb dX7_makes_5 hl (by decide) rfl (fun ls hl => ?_)
  refine lv_aload_n hx hb dX7_makes_7 rfl (lv_at hl 1 rfl) ?_
  refine lv_lload_n hx hb dX7_makes_8 rfl (lv_at hl 2 rfl) ?_
  refine lv_lload hx hb dX7_makes_9 (lv_at hl 0 rfl) ?_
  obtain ⟨g3, h⟩ := fG h
  refine lv_ldiv hx hb dX7_makes_11 g3 ?_
  refine va_put (D := D) (ci := 5) (v := .long (a1 / r1)) (ty := .long) (C := RX7) (T := TX7) (N := 21) hx hb hts hinRX7 tyX7 tyX7_ok nmX7 hown hK hP hD hS 0 rfl rfl 12 (by decide) q0 (fun _ h9 => h9) rfl (by decide +kernel) rfl rfl (Nat.le_of_ble_eq_true rfl) dX7_makes_12 (fun H locs hP hD hS => ?_)
  have hP : va_P D vwCl (MW w y th ms mst smn msl mhs mtx mle mat mwl mrd mrm (a1 / r1) mbt mtm mtn mnt mnb mun mum mau) H := hP
  have hD : va_D A (MW w y th ms mst smn msl mhs mtx mle mat mwl mrd mrm (a1 / r1) mbt mtm mtn mnt mnb mun mum mau) := hD
  refine lv_aload_n hx hb dX7_makes_15 rfl (lv_at hl 1 rfl) ?_
  refine lv_lload_n hx hb dX7_makes_16 rfl (lv_at hl 3 rfl) ?_
  refine lv_lload hx hb dX7_makes_17 (lv_at hl 0 rfl) ?_
  refine lv_ldiv hx hb dX7_makes_19 g3 ?_
  refine va_put (D := D) (ci := 5) (v := .long (a2 / r1)) (ty := .long) (C := RX7) (T := TX7) (N := 21) hx hb hts hinRX7 tyX7 tyX7_ok nmX7 hown hK hP hD hS 0 rfl rfl 13 (by decide) q1 (fun _ h9 => h9) rfl (by decide +kernel) rfl rfl (Nat.le_of_ble_eq_true rfl) dX7_makes_20 (fun H locs hP hD hS => ?_)
  have hP : va_P D vwCl (MW w y th ms mst smn msl mhs mtx mle mat mwl mrd mrm (a1 / r1) (a2 / r1) mtm mtn mnt mnb mun mum mau) H := hP
  have hD : va_D A (MW w y th ms mst smn msl mhs mtx mle mat mwl mrd mrm (a1 / r1) (a2 / r1) mtm mtn mnt mnb mun mum mau) := hD
  refine lv_lload_n hx hb dX7_makes_23 rfl (lv_at hl 2 rfl) ?_
  refine lv_lconst (v := (0 : Int64)) hx hb dX7_makes_24 rfl ?_
  have J4 : ∀ (v5 : Int32) (ls : Array Slot), v5 = (if a1 < (0 : Int64) then (0 : Int32) else (if (1000000 : Int64) < (a1 / r1) then (0 : Int32) else (if (1000000 : Int64) < (a2 / r1) then (0 : Int32) else (1 : Int32)))) → lv_has ls 7 [(0, .ref (w 0)), (1, .long a1), (3, .long a2), (5, .long r1)] → W p l e rm_X7_makes s m args below meth c H locs 0 0 Q (F0 m 56 ls [.int v5]) := by
    intro v5 ls ev5 hl
    subst ev5
    cases h
    exact hE _ _ _ _ dX7_makes_56 hP hD hS (nz01 (z01 (Or.inl rfl) (z01 (Or.inl rfl) (z01 (Or.inl rfl) (Or.inr rfl)))))
  refine lx_lt (tgt := 55) hx hb dX7_makes_25 dX7_makes_26 (by decide) (fun c6 => ?_) (fun c6 => ?_)
  · refine lv_iconst (v := (0 : Int32)) hx hb dX7_makes_55 (by decide) ?_
    exact J4 _ _ (by rw [if_pos c6]) (lv_sub hl [1, 2, 3, 0] rfl)
  · refine lv_aload_n hx hb dX7_makes_29 rfl (lv_at hl 1 rfl) ?_
    refine va_get (D := D) (ci := 5) (C := RX7) (T := TX7) (N := 21) hx hb hts hinRX7 hown hK hP 0 rfl rfl 12 (by decide) q0 (fun _ h9 => h9) rfl dX7_makes_30 ?_
    refine lv_ldc2 (v := (1000000 : Int64)) hx hb hown q2 dX7_makes_33 ?_
    refine lx_gt (tgt := 55) hx hb dX7_makes_36 dX7_makes_37 (by decide) (fun c7 => ?_) (fun c7 => ?_)
    · refine lv_iconst (v := (0 : Int32)) hx hb dX7_makes_55 (by decide) ?_
      exact J4 _ _ (by rw [if_neg c6, if_pos c7]) (lv_sub hl [1, 2, 3, 0] rfl)
    · refine lv_aload_n hx hb dX7_makes_40 rfl (lv_at hl 1 rfl) ?_
      refine va_get (D := D) (ci := 5) (C := RX7) (T := TX7) (N := 21) hx hb hts hinRX7 hown hK hP 0 rfl rfl 13 (by decide) q1 (fun _ h9 => h9) rfl dX7_makes_41 ?_
      refine lv_ldc2 (v := (1000000 : Int64)) hx hb hown q2 dX7_makes_44 ?_
      refine lx_gt (tgt := 55) hx hb dX7_makes_47 dX7_makes_48 (by decide) (fun c8 => ?_) (fun c8 => ?_)
      · refine lv_iconst (v := (0 : Int32)) hx hb dX7_makes_55 (by decide) ?_
        exact J4 _ _ (by rw [if_neg c6, if_neg c7, if_pos c8]) (lv_sub hl [1, 2, 3, 0] rfl)
      · refine lv_iconst (v := (1 : Int32)) hx hb dX7_makes_51 (by decide) ?_
        refine lv_goto (tgt := 56) hx hb dX7_makes_52 (by decide) ?_
        exact J4 _ _ (by rw [if_neg c6, if_neg c7, if_neg c8]) (lv_sub hl [1, 2, 3, 0] rfl)
abbrev rm_X7_makesSum : Room := { frames := 2, cells := 0, slots := 0, locals := 55 }
theorem hd_X7_makesSum : yX7_makesSum.cls = RX7 ∧ yX7_makesSum.cls ≠ "java/lang/invoke/MethodHandle" ∧ yX7_makesSum.cls ≠ "java/lang/invoke/VarHandle" ∧ (parseMethodDescriptor yX7_makesSum.desc).map (fun d => d.parameters.length) = some 3 := by decide +kernel
set_option maxHeartbeats 0 in
set_option maxRecDepth 100000 in
theorem c_X7_makesSum (l : Launch) (D : va_G) (w : Nat → Nat) (y : Nat → ClassId) (sz : Nat) (th : Int32) (ms : Nat → Int32) (mst : Nat → Int32) (smn : Int32) (msl : Nat → Int32) (mhs : Nat → Int32) (mtx : Nat → Int32) (mle : Int32) (mat : Int32) (mwl : Int32) (mrd : Nat → Int32) (mrm : Int32) (mtp : Int64) (mbt : Int64) (mtm : Nat → Int32) (mtn : Int32) (mnt : Int32) (mnb : Int32) (mun : Nat → Int32) (mum : Int32) (mau : Int32) (a1 : Int32) (a2 : Int32) (a3 : Int32) (r : Int32) (mtp' : Int64) (mbt' : Int64) (h : F_X7_makesSum ms mtp mbt a1 a2 a3 = some (r, mtp', mbt')) : Met l yX7_makesSum wsX7_makesSum rm_X7_makesSum (va_Pc [.ref (w 0), .int a1, .int a2, .int a3] (px D y sz (MW w y th ms mst smn msl mhs mtx mle mat mwl mrd mrm mtp mbt mtm mtn mnt mnb mun mum mau))) (Qri D y sz (MW w y th ms mst smn msl mhs mtx mle mat mwl mrd mrm mtp mbt mtm mtn mnt mnb mun mum mau) (MW w y th ms mst smn msl mhs mtx mle mat mwl mrd mrm mtp' mbt' mtm mtn mnt mnb mun mum mau) r) 0 0 (va_A (MW w y th ms mst smn msl mhs mtx mle mat mwl mrd mrm mtp mbt mtm mtn mnt mnb mun mum mau) sz) := by
  refine hd_z (cc := cX7_makesSum) (maxL := 4) (rt := .boolean) rfl rfl (Nat.le_of_ble_eq_true rfl) ?_
  intro p e s m args below meth c A Q H locs ls hx hb hml hts hown _ hA hP hD hK hS hl hE
  have hl : lv_has ls 4 [(0, .ref (w 0)), (1, .int a1), (2, .int a2), (3, .int a3)] := hl
  unfold F_X7_makesSum at h
  refine lv_aload_n hx hb dX7_makesSum_0 rfl (lv_at hl 0 rfl) ?_
  refine lv_aload_n hx hb dX7_makesSum_1 rfl (lv_at hl 0 rfl) ?_
  refine lv_iload_n hx hb dX7_makesSum_2 rfl (lv_at hl 1 rfl) ?_
  obtain ⟨r1, g2, h⟩ := fB1 h
  refine cV_i (As := [.int a1]) (rest := [.ref (w 0)]) (ws1 := (MW w y th ms mst smn msl mhs mtx mle mat mwl mrd mrm mtp mbt mtm mtn mnt mnb mun mum mau)) ⟨hx, hb, hml, hown, hts⟩ (c_X7_above l D w y _ th ms mst smn msl mhs mtx mle mat mwl mrd mrm mtp mbt mtm mtn mnt mnb mun mum mau a1 r1 g2) (cwV 1 hts gX7_makesSum_X7_above rfl rfl rfl hd_X7_above ⟨Nat.le_of_ble_eq_true rfl, Nat.le_of_ble_eq_true rfl⟩) hK hP hD hS hA [0, 1, 2, 3, 4, 5, 6, 7, 8] [] [0, 1, 2, 3, 4, 5, 6, 7, 8] rfl rfl rfl (by decide) rfl rfl rfl 0 (ci := 5) rfl rfl rfl hl.1 rfl (Nat.le_of_ble_eq_true rfl) dX7_makesSum_3 ⟨Nat.le_of_ble_eq_true rfl, Nat.le_of_ble_eq_true rfl⟩ (fun H locs hP hD hS => ?_)
  refine lv_i2l (v := r1.toInt64) hx hb dX7_makesSum_6 rfl ?_
  refine lv_aload_n hx hb dX7_makesSum_7 rfl (lv_at hl 0 rfl) ?_
  refine lv_iload_n hx hb dX7_makesSum_8 rfl (lv_at hl 2 rfl) ?_
  obtain ⟨r3, g4, h⟩ := fB1 h
  refine cV_i (As := [.int a2]) (rest := [.long r1.toInt64, .ref (w 0)]) (ws1 := (MW w y th ms mst smn msl mhs mtx mle mat mwl mrd mrm mtp mbt mtm mtn mnt mnb mun mum mau)) ⟨hx, hb, hml, hown, hts⟩ (c_X7_below l D w y _ th ms mst smn msl mhs mtx mle mat mwl mrd mrm mtp mbt mtm mtn mnt mnb mun mum mau a2 r3 g4) (cwV 1 hts gX7_makesSum_X7_below rfl rfl rfl hd_X7_below ⟨Nat.le_of_ble_eq_true rfl, Nat.le_of_ble_eq_true rfl⟩) hK hP hD hS hA [0, 1, 2, 3, 4, 5, 6, 7, 8] [] [0, 1, 2, 3, 4, 5, 6, 7, 8] rfl rfl rfl (by decide) rfl rfl rfl 0 (ci := 5) rfl rfl rfl hl.1 rfl (Nat.le_of_ble_eq_true rfl) dX7_makesSum_9 ⟨Nat.le_of_ble_eq_true rfl, Nat.le_of_ble_eq_true rfl⟩ (fun H locs hP hD hS => ?_)
  refine lv_i2l (v := r3.toInt64) hx hb dX7_makesSum_12 rfl ?_
  refine lv_lmul hx hb dX7_makesSum_13 ?_
  refine lv_iload_n hx hb dX7_makesSum_14 rfl (lv_at hl 3 rfl) ?_
  refine lv_i2l (v := a3.toInt64) hx hb dX7_makesSum_15 rfl ?_
  refine lv_aload_n hx hb dX7_makesSum_16 rfl (lv_at hl 0 rfl) ?_
  refine lv_iload_n hx hb dX7_makesSum_17 rfl (lv_at hl 2 rfl) ?_
  obtain ⟨r5, g6, h⟩ := fB1 h
  refine cV_i (As := [.int a2]) (rest := [.long a3.toInt64, .long (r1.toInt64 * r3.toInt64), .ref (w 0)]) (ws1 := (MW w y th ms mst smn msl mhs mtx mle mat mwl mrd mrm mtp mbt mtm mtn mnt mnb mun mum mau)) ⟨hx, hb, hml, hown, hts⟩ (c_X7_above l D w y _ th ms mst smn msl mhs mtx mle mat mwl mrd mrm mtp mbt mtm mtn mnt mnb mun mum mau a2 r5 g6) (cwV 1 hts gX7_makesSum_X7_above rfl rfl rfl hd_X7_above ⟨Nat.le_of_ble_eq_true rfl, Nat.le_of_ble_eq_true rfl⟩) hK hP hD hS hA [0, 1, 2, 3, 4, 5, 6, 7, 8] [] [0, 1, 2, 3, 4, 5, 6, 7, 8] rfl rfl rfl (by decide) rfl rfl rfl 0 (ci := 5) rfl rfl rfl hl.1 rfl (Nat.le_of_ble_eq_true rfl) dX7_makesSum_18 ⟨Nat.le_of_ble_eq_true rfl, Nat.le_of_ble_eq_true rfl⟩ (fun H locs hP hD hS => ?_)
  refine lv_i2l (v := r5.toInt64) hx hb dX7_makesSum_21 rfl ?_
  refine lv_lmul hx hb dX7_makesSum_22 ?_
  refine lv_aload_n hx hb dX7_makesSum_23 rfl (lv_at hl 0 rfl) ?_
  refine lv_iload_n hx hb dX7_makesSum_24 rfl (lv_at hl 1 rfl) ?_
  obtain ⟨r7, g8, h⟩ := fB1 h
  refine cV_i (As := [.int a1]) (rest := [.long (a3.toInt64 * r5.toInt64), .long (r1.toInt64 * r3.toInt64), .ref (w 0)]) (ws1 := (MW w y th ms mst smn msl mhs mtx mle mat mwl mrd mrm mtp mbt mtm mtn mnt mnb mun mum mau)) ⟨hx, hb, hml, hown, hts⟩ (c_X7_below l D w y _ th ms mst smn msl mhs mtx mle mat mwl mrd mrm mtp mbt mtm mtn mnt mnb mun mum mau a1 r7 g8) (cwV 1 hts gX7_makesSum_X7_below rfl rfl rfl hd_X7_below ⟨Nat.le_of_ble_eq_true rfl, Nat.le_of_ble_eq_true rfl⟩) hK hP hD hS hA [0, 1, 2, 3, 4, 5, 6, 7, 8] [] [0, 1, 2, 3, 4, 5, 6, 7, 8] rfl rfl rfl (by decide) rfl rfl rfl 0 (ci := 5) rfl rfl rfl hl.1 rfl (Nat.le_of_ble_eq_true rfl) dX7_makesSum_25 ⟨Nat.le_of_ble_eq_true rfl, Nat.le_of_ble_eq_true rfl⟩ (fun H locs hP hD hS => ?_)
  refine lv_i2l (v := r7.toInt64) hx hb dX7_makesSum_28 rfl ?_
  refine lv_lmul hx hb dX7_makesSum_29 ?_
  refine lv_ladd hx hb dX7_makesSum_30 ?_
  refine lv_aload_n hx hb dX7_makesSum_31 rfl (lv_at hl 0 rfl) ?_
  refine lv_iload_n hx hb dX7_makesSum_32 rfl (lv_at hl 1 rfl) ?_
  obtain ⟨r9, g10, h⟩ := fB1 h
  refine cV_i (As := [.int a1]) (rest := [.long ((r1.toInt64 * r3.toInt64) + ((a3.toInt64 * r5.toInt64) * r7.toInt64)), .ref (w 0)]) (ws1 := (MW w y th ms mst smn msl mhs mtx mle mat mwl mrd mrm mtp mbt mtm mtn mnt mnb mun mum mau)) ⟨hx, hb, hml, hown, hts⟩ (c_X7_below l D w y _ th ms mst smn msl mhs mtx mle mat mwl mrd mrm mtp mbt mtm mtn mnt mnb mun mum mau a1 r9 g10) (cwV 1 hts gX7_makesSum_X7_below rfl rfl rfl hd_X7_below ⟨Nat.le_of_ble_eq_true rfl, Nat.le_of_ble_eq_true rfl⟩) hK hP hD hS hA [0, 1, 2, 3, 4, 5, 6, 7, 8] [] [0, 1, 2, 3, 4, 5, 6, 7, 8] rfl rfl rfl (by decide) rfl rfl rfl 0 (ci := 5) rfl rfl rfl hl.1 rfl (Nat.le_of_ble_eq_true rfl) dX7_makesSum_33 ⟨Nat.le_of_ble_eq_true rfl, Nat.le_of_ble_eq_true rfl⟩ (fun H locs hP hD hS => ?_)
  refine lv_i2l (v := r9.toInt64) hx hb dX7_makesSum_36 rfl ?_
  refine lv_aload_n hx hb dX7_makesSum_37 rfl (lv_at hl 0 rfl) ?_
  refine lv_iload_n hx hb dX7_makesSum_38 rfl (lv_at hl 2 rfl) ?_
  obtain ⟨r11, g12, h⟩ := fB1 h
  refine cV_i (As := [.int a2]) (rest := [.long r9.toInt64, .long ((r1.toInt64 * r3.toInt64) + ((a3.toInt64 * r5.toInt64) * r7.toInt64)), .ref (w 0)]) (ws1 := (MW w y th ms mst smn msl mhs mtx mle mat mwl mrd mrm mtp mbt mtm mtn mnt mnb mun mum mau)) ⟨hx, hb, hml, hown, hts⟩ (c_X7_below l D w y _ th ms mst smn msl mhs mtx mle mat mwl mrd mrm mtp mbt mtm mtn mnt mnb mun mum mau a2 r11 g12) (cwV 1 hts gX7_makesSum_X7_below rfl rfl rfl hd_X7_below ⟨Nat.le_of_ble_eq_true rfl, Nat.le_of_ble_eq_true rfl⟩) hK hP hD hS hA [0, 1, 2, 3, 4, 5, 6, 7, 8] [] [0, 1, 2, 3, 4, 5, 6, 7, 8] rfl rfl rfl (by decide) rfl rfl rfl 0 (ci := 5) rfl rfl rfl hl.1 rfl (Nat.le_of_ble_eq_true rfl) dX7_makesSum_39 ⟨Nat.le_of_ble_eq_true rfl, Nat.le_of_ble_eq_true rfl⟩ (fun H locs hP hD hS => ?_)
  refine lv_i2l (v := r11.toInt64) hx hb dX7_makesSum_42 rfl ?_
  refine lv_lmul hx hb dX7_makesSum_43 ?_
  obtain ⟨r13, mtp14, mbt15, g16, h⟩ := fB3 h
  refine cV_i (As := [.long ((r1.toInt64 * r3.toInt64) + ((a3.toInt64 * r5.toInt64) * r7.toInt64)), .long (r9.toInt64 * r11.toInt64)]) (rest := []) (ws1 := (MW w y th ms mst smn msl mhs mtx mle mat mwl mrd mrm mtp14 mbt15 mtm mtn mnt mnb mun mum mau)) ⟨hx, hb, hml, hown, hts⟩ (c_X7_makes l D w y _ th ms mst smn msl mhs mtx mle mat mwl mrd mrm mtp mbt mtm mtn mnt mnb mun mum mau ((r1.toInt64 * r3.toInt64) + ((a3.toInt64 * r5.toInt64) * r7.toInt64)) (r9.toInt64 * r11.toInt64) r13 mtp14 mbt15 g16) (cwV 2 hts gX7_makesSum_X7_makes rfl rfl rfl hd_X7_makes ⟨Nat.le_of_ble_eq_true rfl, Nat.le_of_ble_eq_true rfl⟩) hK hP hD hS hA [0, 1, 2, 3, 4, 5, 6, 7, 8] [] [0, 1, 2, 3, 4, 5, 6, 7, 8] rfl rfl rfl (by decide) rfl rfl rfl 0 (ci := 5) rfl rfl rfl hl.1 rfl (Nat.le_of_ble_eq_true rfl) dX7_makesSum_44 ⟨Nat.le_of_ble_eq_true rfl, Nat.le_of_ble_eq_true rfl⟩ (fun H locs hP hD hS => ?_)
  obtain ⟨g17, h⟩ := fG h
  cases h
  exact hE _ _ _ _ dX7_makesSum_47 hP hD hS (nz01 (Classical.not_not.mp g17))
abbrev rm_X7_makesProduct : Room := { frames := 2, cells := 0, slots := 0, locals := 55 }
theorem hd_X7_makesProduct : yX7_makesProduct.cls = RX7 ∧ yX7_makesProduct.cls ≠ "java/lang/invoke/MethodHandle" ∧ yX7_makesProduct.cls ≠ "java/lang/invoke/VarHandle" ∧ (parseMethodDescriptor yX7_makesProduct.desc).map (fun d => d.parameters.length) = some 2 := by decide +kernel
set_option maxHeartbeats 0 in
set_option maxRecDepth 100000 in
theorem c_X7_makesProduct (l : Launch) (D : va_G) (w : Nat → Nat) (y : Nat → ClassId) (sz : Nat) (th : Int32) (ms : Nat → Int32) (mst : Nat → Int32) (smn : Int32) (msl : Nat → Int32) (mhs : Nat → Int32) (mtx : Nat → Int32) (mle : Int32) (mat : Int32) (mwl : Int32) (mrd : Nat → Int32) (mrm : Int32) (mtp : Int64) (mbt : Int64) (mtm : Nat → Int32) (mtn : Int32) (mnt : Int32) (mnb : Int32) (mun : Nat → Int32) (mum : Int32) (mau : Int32) (a1 : Int32) (a2 : Int32) (r : Int32) (mtp' : Int64) (mbt' : Int64) (h : F_X7_makesProduct ms mtp mbt a1 a2 = some (r, mtp', mbt')) : Met l yX7_makesProduct wsX7_makesProduct rm_X7_makesProduct (va_Pc [.ref (w 0), .int a1, .int a2] (px D y sz (MW w y th ms mst smn msl mhs mtx mle mat mwl mrd mrm mtp mbt mtm mtn mnt mnb mun mum mau))) (Qri D y sz (MW w y th ms mst smn msl mhs mtx mle mat mwl mrd mrm mtp mbt mtm mtn mnt mnb mun mum mau) (MW w y th ms mst smn msl mhs mtx mle mat mwl mrd mrm mtp' mbt' mtm mtn mnt mnb mun mum mau) r) 0 0 (va_A (MW w y th ms mst smn msl mhs mtx mle mat mwl mrd mrm mtp mbt mtm mtn mnt mnb mun mum mau) sz) := by
  refine hd_z (cc := cX7_makesProduct) (maxL := 3) (rt := .boolean) rfl rfl (Nat.le_of_ble_eq_true rfl) ?_
  intro p e s m args below meth c A Q H locs ls hx hb hml hts hown _ hA hP hD hK hS hl hE
  have hl : lv_has ls 3 [(0, .ref (w 0)), (1, .int a1), (2, .int a2)] := hl
  unfold F_X7_makesProduct at h
  refine lv_aload_n hx hb dX7_makesProduct_0 rfl (lv_at hl 0 rfl) ?_
  refine lv_aload_n hx hb dX7_makesProduct_1 rfl (lv_at hl 0 rfl) ?_
  refine lv_iload_n hx hb dX7_makesProduct_2 rfl (lv_at hl 1 rfl) ?_
  obtain ⟨r1, g2, h⟩ := fB1 h
  refine cV_i (As := [.int a1]) (rest := [.ref (w 0)]) (ws1 := (MW w y th ms mst smn msl mhs mtx mle mat mwl mrd mrm mtp mbt mtm mtn mnt mnb mun mum mau)) ⟨hx, hb, hml, hown, hts⟩ (c_X7_above l D w y _ th ms mst smn msl mhs mtx mle mat mwl mrd mrm mtp mbt mtm mtn mnt mnb mun mum mau a1 r1 g2) (cwV 1 hts gX7_makesProduct_X7_above rfl rfl rfl hd_X7_above ⟨Nat.le_of_ble_eq_true rfl, Nat.le_of_ble_eq_true rfl⟩) hK hP hD hS hA [0, 1, 2, 3, 4, 5, 6, 7, 8] [] [0, 1, 2, 3, 4, 5, 6, 7, 8] rfl rfl rfl (by decide) rfl rfl rfl 0 (ci := 5) rfl rfl rfl hl.1 rfl (Nat.le_of_ble_eq_true rfl) dX7_makesProduct_3 ⟨Nat.le_of_ble_eq_true rfl, Nat.le_of_ble_eq_true rfl⟩ (fun H locs hP hD hS => ?_)
  refine lv_i2l (v := r1.toInt64) hx hb dX7_makesProduct_6 rfl ?_
  refine lv_aload_n hx hb dX7_makesProduct_7 rfl (lv_at hl 0 rfl) ?_
  refine lv_iload_n hx hb dX7_makesProduct_8 rfl (lv_at hl 2 rfl) ?_
  obtain ⟨r3, g4, h⟩ := fB1 h
  refine cV_i (As := [.int a2]) (rest := [.long r1.toInt64, .ref (w 0)]) (ws1 := (MW w y th ms mst smn msl mhs mtx mle mat mwl mrd mrm mtp mbt mtm mtn mnt mnb mun mum mau)) ⟨hx, hb, hml, hown, hts⟩ (c_X7_above l D w y _ th ms mst smn msl mhs mtx mle mat mwl mrd mrm mtp mbt mtm mtn mnt mnb mun mum mau a2 r3 g4) (cwV 1 hts gX7_makesProduct_X7_above rfl rfl rfl hd_X7_above ⟨Nat.le_of_ble_eq_true rfl, Nat.le_of_ble_eq_true rfl⟩) hK hP hD hS hA [0, 1, 2, 3, 4, 5, 6, 7, 8] [] [0, 1, 2, 3, 4, 5, 6, 7, 8] rfl rfl rfl (by decide) rfl rfl rfl 0 (ci := 5) rfl rfl rfl hl.1 rfl (Nat.le_of_ble_eq_true rfl) dX7_makesProduct_9 ⟨Nat.le_of_ble_eq_true rfl, Nat.le_of_ble_eq_true rfl⟩ (fun H locs hP hD hS => ?_)
  refine lv_i2l (v := r3.toInt64) hx hb dX7_makesProduct_12 rfl ?_
  refine lv_lmul hx hb dX7_makesProduct_13 ?_
  refine lv_aload_n hx hb dX7_makesProduct_14 rfl (lv_at hl 0 rfl) ?_
  refine lv_iload_n hx hb dX7_makesProduct_15 rfl (lv_at hl 1 rfl) ?_
  obtain ⟨r5, g6, h⟩ := fB1 h
  refine cV_i (As := [.int a1]) (rest := [.long (r1.toInt64 * r3.toInt64), .ref (w 0)]) (ws1 := (MW w y th ms mst smn msl mhs mtx mle mat mwl mrd mrm mtp mbt mtm mtn mnt mnb mun mum mau)) ⟨hx, hb, hml, hown, hts⟩ (c_X7_below l D w y _ th ms mst smn msl mhs mtx mle mat mwl mrd mrm mtp mbt mtm mtn mnt mnb mun mum mau a1 r5 g6) (cwV 1 hts gX7_makesProduct_X7_below rfl rfl rfl hd_X7_below ⟨Nat.le_of_ble_eq_true rfl, Nat.le_of_ble_eq_true rfl⟩) hK hP hD hS hA [0, 1, 2, 3, 4, 5, 6, 7, 8] [] [0, 1, 2, 3, 4, 5, 6, 7, 8] rfl rfl rfl (by decide) rfl rfl rfl 0 (ci := 5) rfl rfl rfl hl.1 rfl (Nat.le_of_ble_eq_true rfl) dX7_makesProduct_16 ⟨Nat.le_of_ble_eq_true rfl, Nat.le_of_ble_eq_true rfl⟩ (fun H locs hP hD hS => ?_)
  refine lv_i2l (v := r5.toInt64) hx hb dX7_makesProduct_19 rfl ?_
  refine lv_aload_n hx hb dX7_makesProduct_20 rfl (lv_at hl 0 rfl) ?_
  refine lv_iload_n hx hb dX7_makesProduct_21 rfl (lv_at hl 2 rfl) ?_
  obtain ⟨r7, g8, h⟩ := fB1 h
  refine cV_i (As := [.int a2]) (rest := [.long r5.toInt64, .long (r1.toInt64 * r3.toInt64), .ref (w 0)]) (ws1 := (MW w y th ms mst smn msl mhs mtx mle mat mwl mrd mrm mtp mbt mtm mtn mnt mnb mun mum mau)) ⟨hx, hb, hml, hown, hts⟩ (c_X7_below l D w y _ th ms mst smn msl mhs mtx mle mat mwl mrd mrm mtp mbt mtm mtn mnt mnb mun mum mau a2 r7 g8) (cwV 1 hts gX7_makesProduct_X7_below rfl rfl rfl hd_X7_below ⟨Nat.le_of_ble_eq_true rfl, Nat.le_of_ble_eq_true rfl⟩) hK hP hD hS hA [0, 1, 2, 3, 4, 5, 6, 7, 8] [] [0, 1, 2, 3, 4, 5, 6, 7, 8] rfl rfl rfl (by decide) rfl rfl rfl 0 (ci := 5) rfl rfl rfl hl.1 rfl (Nat.le_of_ble_eq_true rfl) dX7_makesProduct_22 ⟨Nat.le_of_ble_eq_true rfl, Nat.le_of_ble_eq_true rfl⟩ (fun H locs hP hD hS => ?_)
  refine lv_i2l (v := r7.toInt64) hx hb dX7_makesProduct_25 rfl ?_
  refine lv_lmul hx hb dX7_makesProduct_26 ?_
  obtain ⟨r9, mtp10, mbt11, g12, h⟩ := fB3 h
  refine cV_i (As := [.long (r1.toInt64 * r3.toInt64), .long (r5.toInt64 * r7.toInt64)]) (rest := []) (ws1 := (MW w y th ms mst smn msl mhs mtx mle mat mwl mrd mrm mtp10 mbt11 mtm mtn mnt mnb mun mum mau)) ⟨hx, hb, hml, hown, hts⟩ (c_X7_makes l D w y _ th ms mst smn msl mhs mtx mle mat mwl mrd mrm mtp mbt mtm mtn mnt mnb mun mum mau (r1.toInt64 * r3.toInt64) (r5.toInt64 * r7.toInt64) r9 mtp10 mbt11 g12) (cwV 2 hts gX7_makesProduct_X7_makes rfl rfl rfl hd_X7_makes ⟨Nat.le_of_ble_eq_true rfl, Nat.le_of_ble_eq_true rfl⟩) hK hP hD hS hA [0, 1, 2, 3, 4, 5, 6, 7, 8] [] [0, 1, 2, 3, 4, 5, 6, 7, 8] rfl rfl rfl (by decide) rfl rfl rfl 0 (ci := 5) rfl rfl rfl hl.1 rfl (Nat.le_of_ble_eq_true rfl) dX7_makesProduct_27 ⟨Nat.le_of_ble_eq_true rfl, Nat.le_of_ble_eq_true rfl⟩ (fun H locs hP hD hS => ?_)
  obtain ⟨g13, h⟩ := fG h
  cases h
  exact hE _ _ _ _ dX7_makesProduct_30 hP hD hS (nz01 (Classical.not_not.mp g13))
abbrev rm_X7_puts : Room := { frames := 0, cells := 0, slots := 0, locals := 0 }
theorem hd_X7_puts : yX7_puts.cls = RX7 ∧ yX7_puts.cls ≠ "java/lang/invoke/MethodHandle" ∧ yX7_puts.cls ≠ "java/lang/invoke/VarHandle" ∧ (parseMethodDescriptor yX7_puts.desc).map (fun d => d.parameters.length) = some 1 := by decide +kernel
set_option maxHeartbeats 0 in
set_option maxRecDepth 100000 in
theorem c_X7_puts (l : Launch) (D : va_G) (w : Nat → Nat) (y : Nat → ClassId) (sz : Nat) (th : Int32) (ms : Nat → Int32) (mst : Nat → Int32) (smn : Int32) (msl : Nat → Int32) (mhs : Nat → Int32) (mtx : Nat → Int32) (mle : Int32) (mat : Int32) (mwl : Int32) (mrd : Nat → Int32) (mrm : Int32) (mtp : Int64) (mbt : Int64) (mtm : Nat → Int32) (mtn : Int32) (mnt : Int32) (mnb : Int32) (mun : Nat → Int32) (mum : Int32) (mau : Int32) (a1 : Int32) (r : Int32) (ms' : Nat → Int32) (h : F_X7_puts ms mtp mbt a1 = some (r, ms')) : Met l yX7_puts wsX7_puts rm_X7_puts (va_Pc [.ref (w 0), .int a1] (px D y sz (MW w y th ms mst smn msl mhs mtx mle mat mwl mrd mrm mtp mbt mtm mtn mnt mnb mun mum mau))) (Qri D y sz (MW w y th ms mst smn msl mhs mtx mle mat mwl mrd mrm mtp mbt mtm mtn mnt mnb mun mum mau) (MW w y th ms' mst smn msl mhs mtx mle mat mwl mrd mrm mtp mbt mtm mtn mnt mnb mun mum mau) r) 0 0 (va_A (MW w y th ms mst smn msl mhs mtx mle mat mwl mrd mrm mtp mbt mtm mtn mnt mnb mun mum mau) sz) := by
  refine hd_i (cc := cX7_puts) (maxL := 2) rfl rfl (Nat.le_of_ble_eq_true rfl) ?_
  intro p e s m args below meth c A Q H locs ls hx hb hml hts hown _ hA hP hD hK hS hl hE
  have hl : lv_has ls 2 [(0, .ref (w 0)), (1, .int a1)] := hl
  have q0 := hts (.fieldLink RX7 7 "SliceSharesModel" "s" "[I") (by decide +kernel)
  have q1 := hts (.fieldLink RX7 54 "SliceSharesModel" "top" "J") (by decide +kernel)
  have q2 := hts (.fieldLink RX7 58 "SliceSharesModel" "bottom" "J") (by decide +kernel)
  have hinRX7 : ∀ w ∈ wsX70, w ∈ wsX7_puts := by decide +kernel
  unfold F_X7_puts at h
  refine lv_aload_n hx hb dX7_puts_0 rfl (lv_at hl 0 rfl) ?_
  refine va_get (D := D) (ci := 5) (C := RX7) (T := TX7) (N := 21) hx hb hts hinRX7 hown hK hP 0 rfl rfl 1 (by decide) q0 (fun _ h9 => h9) rfl dX7_puts_1 ?_
  refine lv_iconst (v := (2 : Int32)) hx hb dX7_puts_4 (by decide) ?_
  refine lv_iload_n hx hb dX7_puts_5 rfl (lv_at hl 1 rfl) ?_
  refine lv_imul hx hb dX7_puts_6 ?_
  refine lv_aload_n hx hb dX7_puts_7 rfl (lv_at hl 0 rfl) ?_
  refine va_get (D := D) (ci := 5) (C := RX7) (T := TX7) (N := 21) hx hb hts hinRX7 hown hK hP 0 rfl rfl 12 (by decide) q1 (fun _ h9 => h9) rfl dX7_puts_8 ?_
  refine lv_l2i (v := mtp.toInt32) hx hb dX7_puts_11 rfl ?_
  obtain ⟨g1, h⟩ := fG h
  refine va_iast hx hb hK hP hD hS 1 0 rfl rfl g1 dX7_puts_12 (fun H locs hP hD hS => ?_)
  have hP : va_P D vwCl (MW w y th (upd ms ((2 : Int32) * a1).toNatClampNeg mtp.toInt32) mst smn msl mhs mtx mle mat mwl mrd mrm mtp mbt mtm mtn mnt mnb mun mum mau) H := hP
  have hD : va_D A (MW w y th (upd ms ((2 : Int32) * a1).toNatClampNeg mtp.toInt32) mst smn msl mhs mtx mle mat mwl mrd mrm mtp mbt mtm mtn mnt mnb mun mum mau) := hD
  refine lv_aload_n hx hb dX7_puts_13 rfl (lv_at hl 0 rfl) ?_
  refine va_get (D := D) (ci := 5) (C := RX7) (T := TX7) (N := 21) hx hb hts hinRX7 hown hK hP 0 rfl rfl 1 (by decide) q0 (fun _ h9 => h9) rfl dX7_puts_14 ?_
  refine lv_iconst (v := (2 : Int32)) hx hb dX7_puts_17 (by decide) ?_
  refine lv_iload_n hx hb dX7_puts_18 rfl (lv_at hl 1 rfl) ?_
  refine lv_imul hx hb dX7_puts_19 ?_
  refine lv_iconst (v := (1 : Int32)) hx hb dX7_puts_20 (by decide) ?_
  refine lv_iadd hx hb dX7_puts_21 ?_
  refine lv_aload_n hx hb dX7_puts_22 rfl (lv_at hl 0 rfl) ?_
  refine va_get (D := D) (ci := 5) (C := RX7) (T := TX7) (N := 21) hx hb hts hinRX7 hown hK hP 0 rfl rfl 13 (by decide) q2 (fun _ h9 => h9) rfl dX7_puts_23 ?_
  refine lv_l2i (v := mbt.toInt32) hx hb dX7_puts_26 rfl ?_
  obtain ⟨g2, h⟩ := fG h
  refine va_iast hx hb hK hP hD hS 1 0 rfl rfl g2 dX7_puts_27 (fun H locs hP hD hS => ?_)
  have hP : va_P D vwCl (MW w y th (upd (upd ms ((2 : Int32) * a1).toNatClampNeg mtp.toInt32) (((2 : Int32) * a1) + (1 : Int32)).toNatClampNeg mbt.toInt32) mst smn msl mhs mtx mle mat mwl mrd mrm mtp mbt mtm mtn mnt mnb mun mum mau) H := hP
  have hD : va_D A (MW w y th (upd (upd ms ((2 : Int32) * a1).toNatClampNeg mtp.toInt32) (((2 : Int32) * a1) + (1 : Int32)).toNatClampNeg mbt.toInt32) mst smn msl mhs mtx mle mat mwl mrd mrm mtp mbt mtm mtn mnt mnb mun mum mau) := hD
  refine lv_aload_n hx hb dX7_puts_28 rfl (lv_at hl 0 rfl) ?_
  refine va_get (D := D) (ci := 5) (C := RX7) (T := TX7) (N := 21) hx hb hts hinRX7 hown hK hP 0 rfl rfl 1 (by decide) q0 (fun _ h9 => h9) rfl dX7_puts_29 ?_
  refine lv_iconst (v := (2 : Int32)) hx hb dX7_puts_32 (by decide) ?_
  refine lv_iload_n hx hb dX7_puts_33 rfl (lv_at hl 1 rfl) ?_
  refine lv_imul hx hb dX7_puts_34 ?_
  refine lv_iconst (v := (1 : Int32)) hx hb dX7_puts_35 (by decide) ?_
  refine lv_iadd hx hb dX7_puts_36 ?_
  refine va_iald hx hb hK hP 1 0 rfl rfl g2 dX7_puts_37 ?_
  cases h
  exact hE _ _ _ _ dX7_puts_38 hP hD hS
abbrev rm_X7_holds : Room := { frames := 1, cells := 0, slots := 0, locals := 21 }
theorem hd_X7_holds : yX7_holds.cls = RX7 ∧ yX7_holds.cls ≠ "java/lang/invoke/MethodHandle" ∧ yX7_holds.cls ≠ "java/lang/invoke/VarHandle" ∧ (parseMethodDescriptor yX7_holds.desc).map (fun d => d.parameters.length) = some 2 := by decide +kernel
set_option maxHeartbeats 0 in
set_option maxRecDepth 100000 in
theorem c_X7_holds (l : Launch) (D : va_G) (w : Nat → Nat) (y : Nat → ClassId) (sz : Nat) (th : Int32) (ms : Nat → Int32) (mst : Nat → Int32) (smn : Int32) (msl : Nat → Int32) (mhs : Nat → Int32) (mtx : Nat → Int32) (mle : Int32) (mat : Int32) (mwl : Int32) (mrd : Nat → Int32) (mrm : Int32) (mtp : Int64) (mbt : Int64) (mtm : Nat → Int32) (mtn : Int32) (mnt : Int32) (mnb : Int32) (mun : Nat → Int32) (mum : Int32) (mau : Int32) (a1 : Int32) (a2 : Int32) (r : Int32) (h : F_X7_holds ms a1 a2 = some r) : Met l yX7_holds wsX7_holds rm_X7_holds (va_Pc [.ref (w 0), .int a1, .int a2] (px D y sz (MW w y th ms mst smn msl mhs mtx mle mat mwl mrd mrm mtp mbt mtm mtn mnt mnb mun mum mau))) (Qri D y sz (MW w y th ms mst smn msl mhs mtx mle mat mwl mrd mrm mtp mbt mtm mtn mnt mnb mun mum mau) (MW w y th ms mst smn msl mhs mtx mle mat mwl mrd mrm mtp mbt mtm mtn mnt mnb mun mum mau) r) 0 0 (va_A (MW w y th ms mst smn msl mhs mtx mle mat mwl mrd mrm mtp mbt mtm mtn mnt mnb mun mum mau) sz) := by
  refine hd_i (cc := cX7_holds) (maxL := 5) rfl rfl (Nat.le_of_ble_eq_true rfl) ?_
  intro p e s m args below meth c A Q H locs ls hx hb hml hts hown _ hA hP hD hK hS hl hE
  have hl : lv_has ls 5 [(0, .ref (w 0)), (1, .int a1), (2, .int a2)] := hl
  unfold F_X7_holds at h
  refine lv_aload_n hx hb dX7_holds_0 rfl (lv_at hl 0 rfl) ?_
  refine lv_iload_n hx hb dX7_holds_1 rfl (lv_at hl 1 rfl) ?_
  obtain ⟨r1, g2, h⟩ := fB1 h
  refine cV_i (As := [.int a1]) (rest := []) (ws1 := (MW w y th ms mst smn msl mhs mtx mle mat mwl mrd mrm mtp mbt mtm mtn mnt mnb mun mum mau)) ⟨hx, hb, hml, hown, hts⟩ (c_X7_above l D w y _ th ms mst smn msl mhs mtx mle mat mwl mrd mrm mtp mbt mtm mtn mnt mnb mun mum mau a1 r1 g2) (cwV 1 hts gX7_holds_X7_above rfl rfl rfl hd_X7_above ⟨Nat.le_of_ble_eq_true rfl, Nat.le_of_ble_eq_true rfl⟩) hK hP hD hS hA [0, 1, 2, 3, 4, 5, 6, 7, 8] [] [0, 1, 2, 3, 4, 5, 6, 7, 8] rfl rfl rfl (by decide) rfl rfl rfl 0 (ci := 5) rfl rfl rfl hl.1 rfl (Nat.le_of_ble_eq_true rfl) dX7_holds_2 ⟨Nat.le_of_ble_eq_true rfl, Nat.le_of_ble_eq_true rfl⟩ (fun H locs hP hD hS => ?_)
  refine lv_i2l (v := r1.toInt64) hx hb dX7_holds_5 rfl ?_
  refine lv_aload_n hx hb dX7_holds_6 rfl (lv_at hl 0 rfl) ?_
  refine lv_iload_n hx hb dX7_holds_7 rfl (lv_at hl 2 rfl) ?_
  obtain ⟨r3, g4, h⟩ := fB1 h
  refine cV_i (As := [.int a2]) (rest := [.long r1.toInt64]) (ws1 := (MW w y th ms mst smn msl mhs mtx mle mat mwl mrd mrm mtp mbt mtm mtn mnt mnb mun mum mau)) ⟨hx, hb, hml, hown, hts⟩ (c_X7_below l D w y _ th ms mst smn msl mhs mtx mle mat mwl mrd mrm mtp mbt mtm mtn mnt mnb mun mum mau a2 r3 g4) (cwV 1 hts gX7_holds_X7_below rfl rfl rfl hd_X7_below ⟨Nat.le_of_ble_eq_true rfl, Nat.le_of_ble_eq_true rfl⟩) hK hP hD hS hA [0, 1, 2, 3, 4, 5, 6, 7, 8] [] [0, 1, 2, 3, 4, 5, 6, 7, 8] rfl rfl rfl (by decide) rfl rfl rfl 0 (ci := 5) rfl rfl rfl hl.1 rfl (Nat.le_of_ble_eq_true rfl) dX7_holds_8 ⟨Nat.le_of_ble_eq_true rfl, Nat.le_of_ble_eq_true rfl⟩ (fun H locs hP hD hS => ?_)
  refine lv_i2l (v := r3.toInt64) hx hb dX7_holds_11 rfl ?_
  refine lv_lmul hx hb dX7_holds_12 ?_
  refine lv_aload_n hx hb dX7_holds_13 rfl (lv_at hl 0 rfl) ?_
  refine lv_iload_n hx hb dX7_holds_14 rfl (lv_at hl 2 rfl) ?_
  obtain ⟨r5, g6, h⟩ := fB1 h
  refine cV_i (As := [.int a2]) (rest := [.long (r1.toInt64 * r3.toInt64)]) (ws1 := (MW w y th ms mst smn msl mhs mtx mle mat mwl mrd mrm mtp mbt mtm mtn mnt mnb mun mum mau)) ⟨hx, hb, hml, hown, hts⟩ (c_X7_above l D w y _ th ms mst smn msl mhs mtx mle mat mwl mrd mrm mtp mbt mtm mtn mnt mnb mun mum mau a2 r5 g6) (cwV 1 hts gX7_holds_X7_above rfl rfl rfl hd_X7_above ⟨Nat.le_of_ble_eq_true rfl, Nat.le_of_ble_eq_true rfl⟩) hK hP hD hS hA [0, 1, 2, 3, 4, 5, 6, 7, 8] [] [0, 1, 2, 3, 4, 5, 6, 7, 8] rfl rfl rfl (by decide) rfl rfl rfl 0 (ci := 5) rfl rfl rfl hl.1 rfl (Nat.le_of_ble_eq_true rfl) dX7_holds_15 ⟨Nat.le_of_ble_eq_true rfl, Nat.le_of_ble_eq_true rfl⟩ (fun H locs hP hD hS => ?_)
  refine lv_i2l (v := r5.toInt64) hx hb dX7_holds_18 rfl ?_
  refine lv_aload_n hx hb dX7_holds_19 rfl (lv_at hl 0 rfl) ?_
  refine lv_iload_n hx hb dX7_holds_20 rfl (lv_at hl 1 rfl) ?_
  obtain ⟨r7, g8, h⟩ := fB1 h
  refine cV_i (As := [.int a1]) (rest := [.long r5.toInt64, .long (r1.toInt64 * r3.toInt64)]) (ws1 := (MW w y th ms mst smn msl mhs mtx mle mat mwl mrd mrm mtp mbt mtm mtn mnt mnb mun mum mau)) ⟨hx, hb, hml, hown, hts⟩ (c_X7_below l D w y _ th ms mst smn msl mhs mtx mle mat mwl mrd mrm mtp mbt mtm mtn mnt mnb mun mum mau a1 r7 g8) (cwV 1 hts gX7_holds_X7_below rfl rfl rfl hd_X7_below ⟨Nat.le_of_ble_eq_true rfl, Nat.le_of_ble_eq_true rfl⟩) hK hP hD hS hA [0, 1, 2, 3, 4, 5, 6, 7, 8] [] [0, 1, 2, 3, 4, 5, 6, 7, 8] rfl rfl rfl (by decide) rfl rfl rfl 0 (ci := 5) rfl rfl rfl hl.1 rfl (Nat.le_of_ble_eq_true rfl) dX7_holds_21 ⟨Nat.le_of_ble_eq_true rfl, Nat.le_of_ble_eq_true rfl⟩ (fun H locs hP hD hS => ?_)
  refine lv_i2l (v := r7.toInt64) hx hb dX7_holds_24 rfl ?_
  refine lv_lmul hx hb dX7_holds_25 ?_
  refine lv_lsub hx hb dX7_holds_26 ?_
  refine lv_lstore_n (lv' := [(3, .long ((r1.toInt64 * r3.toInt64) - (r5.toInt64 * r7.toInt64))), (0, .ref (w 0)), (1, .int a1), (2, .int a2)]) hx hb dX7_holds_27 rfl hl (by decide) rfl (fun ls hl => ?_)
  refine lv_lload_n hx hb dX7_holds_28 rfl (lv_at hl 0 rfl) ?_
  refine lv_lconst (v := (0 : Int64)) hx hb dX7_holds_29 rfl ?_
  have J9 : ∀ (v10 : Int32) (ls : Array Slot), v10 = (if (0 : Int64) ≤ ((r1.toInt64 * r3.toInt64) - (r5.toInt64 * r7.toInt64)) then (if ((r1.toInt64 * r3.toInt64) - (r5.toInt64 * r7.toInt64)) ≤ (0 : Int64) then (0 : Int32) else (1 : Int32)) else (-1 : Int32)) → lv_has ls 5 [(0, .ref (w 0)), (1, .int a1), (2, .int a2), (3, .long ((r1.toInt64 * r3.toInt64) - (r5.toInt64 * r7.toInt64)))] → W p l e rm_X7_holds s m args below meth c H locs 0 0 Q (F0 m 49 ls [.int v10]) := by
    intro v10 ls ev10 hl
    subst ev10
    cases h
    exact hE _ _ _ _ dX7_holds_49 hP hD hS
  refine lx_ge (tgt := 38) hx hb dX7_holds_30 dX7_holds_31 (by decide) (fun c11 => ?_) (fun c11 => ?_)
  · refine lv_lload_n hx hb dX7_holds_38 rfl (lv_at hl 0 rfl) ?_
    refine lv_lconst (v := (0 : Int64)) hx hb dX7_holds_39 rfl ?_
    refine lx_le (tgt := 48) hx hb dX7_holds_40 dX7_holds_41 (by decide) (fun c12 => ?_) (fun c12 => ?_)
    · refine lv_iconst (v := (0 : Int32)) hx hb dX7_holds_48 (by decide) ?_
      exact J9 _ _ (by rw [if_pos c11, if_pos c12]) (lv_sub hl [1, 2, 3, 0] rfl)
    · refine lv_iconst (v := (1 : Int32)) hx hb dX7_holds_44 (by decide) ?_
      refine lv_goto (tgt := 49) hx hb dX7_holds_45 (by decide) ?_
      exact J9 _ _ (by rw [if_pos c11, if_neg c12]) (lv_sub hl [1, 2, 3, 0] rfl)
  · refine lv_iconst (v := (-1 : Int32)) hx hb dX7_holds_34 (by decide) ?_
    refine lv_goto (tgt := 49) hx hb dX7_holds_35 (by decide) ?_
    exact J9 _ _ (by rw [if_neg c11]) (lv_sub hl [1, 2, 3, 0] rfl)
abbrev rm_X7_wholeMany : Room := { frames := 1, cells := 0, slots := 0, locals := 21 }
theorem hd_X7_wholeMany : yX7_wholeMany.cls = RX7 ∧ yX7_wholeMany.cls ≠ "java/lang/invoke/MethodHandle" ∧ yX7_wholeMany.cls ≠ "java/lang/invoke/VarHandle" ∧ (parseMethodDescriptor yX7_wholeMany.desc).map (fun d => d.parameters.length) = some 0 := by decide +kernel
set_option maxHeartbeats 0 in
set_option maxRecDepth 100000 in
theorem c_X7_wholeMany (l : Launch) (D : va_G) (w : Nat → Nat) (y : Nat → ClassId) (sz : Nat) (th : Int32) (ms : Nat → Int32) (mst : Nat → Int32) (smn : Int32) (msl : Nat → Int32) (mhs : Nat → Int32) (mtx : Nat → Int32) (mle : Int32) (mat : Int32) (mwl : Int32) (mrd : Nat → Int32) (mrm : Int32) (mtp : Int64) (mbt : Int64) (mtm : Nat → Int32) (mtn : Int32) (mnt : Int32) (mnb : Int32) (mun : Nat → Int32) (mum : Int32) (mau : Int32) (r : Int32) (h : F_X7_wholeMany ms = some r) : Met l yX7_wholeMany wsX7_wholeMany rm_X7_wholeMany (va_Pc [.ref (w 0)] (px D y sz (MW w y th ms mst smn msl mhs mtx mle mat mwl mrd mrm mtp mbt mtm mtn mnt mnb mun mum mau))) (Qri D y sz (MW w y th ms mst smn msl mhs mtx mle mat mwl mrd mrm mtp mbt mtm mtn mnt mnb mun mum mau) (MW w y th ms mst smn msl mhs mtx mle mat mwl mrd mrm mtp mbt mtm mtn mnt mnb mun mum mau) r) 0 0 (va_A (MW w y th ms mst smn msl mhs mtx mle mat mwl mrd mrm mtp mbt mtm mtn mnt mnb mun mum mau) sz) := by
  refine hd_i (cc := cX7_wholeMany) (maxL := 3) rfl rfl (Nat.le_of_ble_eq_true rfl) ?_
  intro p e s m args below meth c A Q H locs ls hx hb hml hts hown _ hA hP hD hK hS hl hE
  have hl : lv_has ls 3 [(0, .ref (w 0))] := hl
  unfold F_X7_wholeMany at h
  refine lv_iconst (v := (0 : Int32)) hx hb dX7_wholeMany_0 (by decide) ?_
  refine lv_istore_n (lv' := [(1, .int (0 : Int32)), (0, .ref (w 0))]) hx hb dX7_wholeMany_1 rfl hl (by decide) rfl (fun ls hl => ?_)
  refine lv_iconst (v := (0 : Int32)) hx hb dX7_wholeMany_2 (by decide) ?_
  refine lv_istore_n (lv' := [(2, .int (0 : Int32)), (1, .int (0 : Int32)), (0, .ref (w 0))]) hx hb dX7_wholeMany_3 rfl hl (by decide) rfl (fun ls hl => ?_)
  obtain ⟨v3, g4, h⟩ := fB1 h
  have J5 : ∀ (H : Heap) (locs : List Loc) (ls : Array Slot), va_P D vwCl (MW w y th ms mst smn msl mhs mtx mle mat mwl mrd mrm mtp mbt mtm mtn mnt mnb mun mum mau) H → va_D A (MW w y th ms mst smn msl mhs mtx mle mat mwl mrd mrm mtp mbt mtm mtn mnt mnb mun mum mau) → va_S A s.heap H locs → lv_has ls 3 [(1, .int v3)] → W p l e rm_X7_wholeMany s m args below meth c H locs 0 0 Q (F0 m 32 ls []) := by
    intro H locs ls hP hD hS hl
    refine lv_iload_n hx hb dX7_wholeMany_32 rfl (lv_at hl 0 rfl) ?_
    cases h
    exact hE _ _ _ _ dX7_wholeMany_33 hP hD hS
  have LP6 : ∀ (n : Nat) (x1 : Int32) (x2 : Int32) (H : Heap) (locs : List Loc) (ls : Array Slot), L_X7_wholeMany_4 n x1 x2 ms = some v3 → va_P D vwCl (MW w y th ms mst smn msl mhs mtx mle mat mwl mrd mrm mtp mbt mtm mtn mnt mnb mun mum mau) H → va_D A (MW w y th ms mst smn msl mhs mtx mle mat mwl mrd mrm mtp mbt mtm mtn mnt mnb mun mum mau) → va_S A s.heap H locs → lv_has ls 3 [(0, .ref (w 0)), (1, .int x1), (2, .int x2)] → W p l e rm_X7_wholeMany s m args below meth c H locs 0 0 Q (F0 m 4 ls []) := by
    intro n
    induction n with
    | zero => intro x1 x2 H locs ls h hP hD hS hl; exact fN h
    | succ n ih =>
      intro x1 x2 H locs ls h hP hD hS hl
      replace h := (L_X7_wholeMany_4_s n x1 x2 ms).symm.trans h
      refine lv_iload_n hx hb dX7_wholeMany_4 rfl (lv_at hl 2 rfl) ?_
      refine lv_bipush (v := (6 : Int32)) hx hb dX7_wholeMany_5 (by decide) ?_
      refine lv_icmp_ge (tgt := 32) hx hb dX7_wholeMany_7 (by decide) (fun c7 => ?_) (fun c7 => ?_)
      · replace h := fT c7 h
        cases h
        exact J5 _ _ _ hP hD hS (lv_sub hl [1] rfl)
      · replace h := fF c7 h
        refine lv_iload_n hx hb dX7_wholeMany_10 rfl (lv_at hl 1 rfl) ?_
        refine lv_aload_n hx hb dX7_wholeMany_11 rfl (lv_at hl 0 rfl) ?_
        refine lv_iload_n hx hb dX7_wholeMany_12 rfl (lv_at hl 2 rfl) ?_
        obtain ⟨r8, g9, h⟩ := fB1 h
        refine cV_i (As := [.int x2]) (rest := [.int x1]) (ws1 := (MW w y th ms mst smn msl mhs mtx mle mat mwl mrd mrm mtp mbt mtm mtn mnt mnb mun mum mau)) ⟨hx, hb, hml, hown, hts⟩ (c_X7_above l D w y _ th ms mst smn msl mhs mtx mle mat mwl mrd mrm mtp mbt mtm mtn mnt mnb mun mum mau x2 r8 g9) (cwV 1 hts gX7_wholeMany_X7_above rfl rfl rfl hd_X7_above ⟨Nat.le_of_ble_eq_true rfl, Nat.le_of_ble_eq_true rfl⟩) hK hP hD hS hA [0, 1, 2, 3, 4, 5, 6, 7, 8] [] [0, 1, 2, 3, 4, 5, 6, 7, 8] rfl rfl rfl (by decide) rfl rfl rfl 0 (ci := 5) rfl rfl rfl hl.1 rfl (Nat.le_of_ble_eq_true rfl) dX7_wholeMany_13 ⟨Nat.le_of_ble_eq_true rfl, Nat.le_of_ble_eq_true rfl⟩ (fun H locs hP hD hS => ?_)
        have J10 : ∀ (v11 : Int32) (ls : Array Slot), v11 = (if r8 ≤ (0 : Int32) then (0 : Int32) else (1 : Int32)) → lv_has ls 3 [(0, .ref (w 0)), (1, .int x1), (2, .int x2)] → W p l e rm_X7_wholeMany s m args below meth c H locs 0 0 Q (F0 m 24 ls [.int v11, .int x1]) := by
          intro v11 ls ev11 hl
          subst ev11
          refine lv_iadd hx hb dX7_wholeMany_24 ?_
          refine lv_istore_n (lv' := [(1, .int (x1 + (if r8 ≤ (0 : Int32) then (0 : Int32) else (1 : Int32)))), (0, .ref (w 0)), (2, .int x2)]) hx hb dX7_wholeMany_25 rfl hl (by decide) rfl (fun ls hl => ?_)
          refine lv_iinc (v := x2 + (1 : Int32)) (lv' := [(2, .int (x2 + (1 : Int32))), (1, .int (x1 + (if r8 ≤ (0 : Int32) then (0 : Int32) else (1 : Int32)))), (0, .ref (w 0))]) hx hb dX7_wholeMany_26 hl (k := 2) rfl rfl (by decide) rfl (fun ls hl => ?_)
          refine lv_goto (tgt := 4) hx hb dX7_wholeMany_29 (by decide) ?_
          exact ih (x1 + (if r8 ≤ (0 : Int32) then (0 : Int32) else (1 : Int32))) (x2 + (1 : Int32)) _ _ _ h hP hD hS (lv_sub hl [2, 1, 0] rfl)
        refine lv_if_le (tgt := 23) hx hb dX7_wholeMany_16 (by decide) (fun c12 => ?_) (fun c12 => ?_)
        · refine lv_iconst (v := (0 : Int32)) hx hb dX7_wholeMany_23 (by decide) ?_
          exact J10 _ _ (by rw [if_pos c12]) (lv_sub hl [0, 1, 2] rfl)
        · refine lv_iconst (v := (1 : Int32)) hx hb dX7_wholeMany_19 (by decide) ?_
          refine lv_goto (tgt := 24) hx hb dX7_wholeMany_20 (by decide) ?_
          exact J10 _ _ (by rw [if_neg c12]) (lv_sub hl [0, 1, 2] rfl)
  exact LP6 FU (0 : Int32) (0 : Int32) _ _ _ g4 hP hD hS (lv_sub hl [2, 1, 0] rfl)
abbrev rm_X7_tellsTerms : Room := { frames := 1, cells := 0, slots := 0, locals := 21 }
theorem hd_X7_tellsTerms : yX7_tellsTerms.cls = RX7 ∧ yX7_tellsTerms.cls ≠ "java/lang/invoke/MethodHandle" ∧ yX7_tellsTerms.cls ≠ "java/lang/invoke/VarHandle" ∧ (parseMethodDescriptor yX7_tellsTerms.desc).map (fun d => d.parameters.length) = some 1 := by decide +kernel
set_option maxHeartbeats 0 in
set_option maxRecDepth 100000 in
theorem c_X7_tellsTerms (l : Launch) (D : va_G) (w : Nat → Nat) (y : Nat → ClassId) (sz : Nat) (th : Int32) (ms : Nat → Int32) (mst : Nat → Int32) (smn : Int32) (msl : Nat → Int32) (mhs : Nat → Int32) (mtx : Nat → Int32) (mle : Int32) (mat : Int32) (mwl : Int32) (mrd : Nat → Int32) (mrm : Int32) (mtp : Int64) (mbt : Int64) (mtm : Nat → Int32) (mtn : Int32) (mnt : Int32) (mnb : Int32) (mun : Nat → Int32) (mum : Int32) (mau : Int32) (a1 : Int32) (mtm' : Nat → Int32) (mtn' : Int32) (h : F_X7_tellsTerms ms mtm mtn a1 = some (mtm', mtn')) : Met l yX7_tellsTerms wsX7_tellsTerms rm_X7_tellsTerms (va_Pc [.ref (w 0), .int a1] (px D y sz (MW w y th ms mst smn msl mhs mtx mle mat mwl mrd mrm mtp mbt mtm mtn mnt mnb mun mum mau))) (Qrv D y sz (MW w y th ms mst smn msl mhs mtx mle mat mwl mrd mrm mtp mbt mtm mtn mnt mnb mun mum mau) (MW w y th ms mst smn msl mhs mtx mle mat mwl mrd mrm mtp mbt mtm' mtn' mnt mnb mun mum mau)) 0 0 (va_A (MW w y th ms mst smn msl mhs mtx mle mat mwl mrd mrm mtp mbt mtm mtn mnt mnb mun mum mau) sz) := by
  refine hd_v (cc := cX7_tellsTerms) (maxL := 5) rfl rfl (Nat.le_of_ble_eq_true rfl) ?_
  intro p e s m args below meth c A Q H locs ls hx hb hml hts hown _ hA hP hD hK hS hl hE
  have hl : lv_has ls 5 [(0, .ref (w 0)), (1, .int a1)] := hl
  have q0 := hts (.fieldLink RX7 74 "SliceSharesModel" "termMany" "I") (by decide +kernel)
  have q1 := hts (.fieldLink RX7 29 "SliceSharesModel" "term" "[I") (by decide +kernel)
  have hinRX7 : ∀ w ∈ wsX70, w ∈ wsX7_tellsTerms := by decide +kernel
  unfold F_X7_tellsTerms at h
  refine lv_aload_n hx hb dX7_tellsTerms_0 rfl (lv_at hl 0 rfl) ?_
  refine lv_iload_n hx hb dX7_tellsTerms_1 rfl (lv_at hl 1 rfl) ?_
  obtain ⟨r1, g2, h⟩ := fB1 h
  refine cV_i (As := [.int a1]) (rest := []) (ws1 := (MW w y th ms mst smn msl mhs mtx mle mat mwl mrd mrm mtp mbt mtm mtn mnt mnb mun mum mau)) ⟨hx, hb, hml, hown, hts⟩ (c_X7_above l D w y _ th ms mst smn msl mhs mtx mle mat mwl mrd mrm mtp mbt mtm mtn mnt mnb mun mum mau a1 r1 g2) (cwV 1 hts gX7_tellsTerms_X7_above rfl rfl rfl hd_X7_above ⟨Nat.le_of_ble_eq_true rfl, Nat.le_of_ble_eq_true rfl⟩) hK hP hD hS hA [0, 1, 2, 3, 4, 5, 6, 7, 8] [] [0, 1, 2, 3, 4, 5, 6, 7, 8] rfl rfl rfl (by decide) rfl rfl rfl 0 (ci := 5) rfl rfl rfl hl.1 rfl (Nat.le_of_ble_eq_true rfl) dX7_tellsTerms_2 ⟨Nat.le_of_ble_eq_true rfl, Nat.le_of_ble_eq_true rfl⟩ (fun H locs hP hD hS => ?_)
  refine lv_istore_n (lv' := [(2, .int r1), (0, .ref (w 0)), (1, .int a1)]) hx hb dX7_tellsTerms_5 rfl hl (by decide) rfl (fun ls hl => ?_)
  refine lv_aload_n hx hb dX7_tellsTerms_6 rfl (lv_at hl 1 rfl) ?_
  refine lv_iload_n hx hb dX7_tellsTerms_7 rfl (lv_at hl 2 rfl) ?_
  obtain ⟨r3, g4, h⟩ := fB1 h
  refine cV_i (As := [.int a1]) (rest := []) (ws1 := (MW w y th ms mst smn msl mhs mtx mle mat mwl mrd mrm mtp mbt mtm mtn mnt mnb mun mum mau)) ⟨hx, hb, hml, hown, hts⟩ (c_X7_below l D w y _ th ms mst smn msl mhs mtx mle mat mwl mrd mrm mtp mbt mtm mtn mnt mnb mun mum mau a1 r3 g4) (cwV 1 hts gX7_tellsTerms_X7_below rfl rfl rfl hd_X7_below ⟨Nat.le_of_ble_eq_true rfl, Nat.le_of_ble_eq_true rfl⟩) hK hP hD hS hA [0, 1, 2, 3, 4, 5, 6, 7, 8] [] [0, 1, 2, 3, 4, 5, 6, 7, 8] rfl rfl rfl (by decide) rfl rfl rfl 0 (ci := 5) rfl rfl rfl hl.1 rfl (Nat.le_of_ble_eq_true rfl) dX7_tellsTerms_8 ⟨Nat.le_of_ble_eq_true rfl, Nat.le_of_ble_eq_true rfl⟩ (fun H locs hP hD hS => ?_)
  refine lv_istore_n (lv' := [(3, .int r3), (2, .int r1), (0, .ref (w 0)), (1, .int a1)]) hx hb dX7_tellsTerms_11 rfl hl (by decide) rfl (fun ls hl => ?_)
  refine lv_aload_n hx hb dX7_tellsTerms_12 rfl (lv_at hl 2 rfl) ?_
  refine lv_iconst (v := (0 : Int32)) hx hb dX7_tellsTerms_13 (by decide) ?_
  refine va_put (D := D) (ci := 5) (v := .int (0 : Int32)) (ty := .int) (C := RX7) (T := TX7) (N := 21) hx hb hts hinRX7 tyX7 tyX7_ok nmX7 hown hK hP hD hS 0 rfl rfl 15 (by decide) q0 (fun _ h9 => h9) rfl (by decide +kernel) rfl rfl (Nat.le_of_ble_eq_true rfl) dX7_tellsTerms_14 (fun H locs hP hD hS => ?_)
  have hP : va_P D vwCl (MW w y th ms mst smn msl mhs mtx mle mat mwl mrd mrm mtp mbt mtm (0 : Int32) mnt mnb mun mum mau) H := hP
  have hD : va_D A (MW w y th ms mst smn msl mhs mtx mle mat mwl mrd mrm mtp mbt mtm (0 : Int32) mnt mnb mun mum mau) := hD
  obtain ⟨mtm9, mtn10, g11, h⟩ := fB2 h
  have J12 : ∀ (H : Heap) (locs : List Loc) (ls : Array Slot), va_P D vwCl (MW w y th ms mst smn msl mhs mtx mle mat mwl mrd mrm mtp mbt mtm9 mtn10 mnt mnb mun mum mau) H → va_D A (MW w y th ms mst smn msl mhs mtx mle mat mwl mrd mrm mtp mbt mtm9 mtn10 mnt mnb mun mum mau) → va_S A s.heap H locs → lv_has ls 5 [] → W p l e rm_X7_tellsTerms s m args below meth c H locs 0 0 Q (F0 m 56 ls []) := by
    intro H locs ls hP hD hS hl
    cases h
    exact hE _ _ _ _ dX7_tellsTerms_56 hP hD hS
  have LP13 : ∀ (n : Nat) (x5 : Int32) (x6 : Int32) (mtm7 : Nat → Int32) (mtn8 : Int32) (H : Heap) (locs : List Loc) (ls : Array Slot), L_X7_tellsTerms_17 n x5 x6 mtm7 mtn8 = some (mtm9, mtn10) → va_P D vwCl (MW w y th ms mst smn msl mhs mtx mle mat mwl mrd mrm mtp mbt mtm7 mtn8 mnt mnb mun mum mau) H → va_D A (MW w y th ms mst smn msl mhs mtx mle mat mwl mrd mrm mtp mbt mtm7 mtn8 mnt mnb mun mum mau) → va_S A s.heap H locs → lv_has ls 5 [(0, .ref (w 0)), (2, .int x5), (3, .int x6)] → W p l e rm_X7_tellsTerms s m args below meth c H locs 0 0 Q (F0 m 17 ls []) := by
    intro n
    induction n with
    | zero => intro x5 x6 mtm7 mtn8 H locs ls h hP hD hS hl; exact fN h
    | succ n ih =>
      intro x5 x6 mtm7 mtn8 H locs ls h hP hD hS hl
      replace h := (L_X7_tellsTerms_17_s n x5 x6 mtm7 mtn8).symm.trans h
      refine lv_iload_n hx hb dX7_tellsTerms_17 rfl (lv_at hl 2 rfl) ?_
      refine lv_if_le (tgt := 56) hx hb dX7_tellsTerms_18 (by decide) (fun c14 => ?_) (fun c14 => ?_)
      · replace h := fT c14 h
        cases h
        exact J12 _ _ _ hP hD hS (lv_sub hl [] rfl)
      · replace h := fF c14 h
        refine lv_aload_n hx hb dX7_tellsTerms_21 rfl (lv_at hl 0 rfl) ?_
        refine va_get (D := D) (ci := 5) (C := RX7) (T := TX7) (N := 21) hx hb hts hinRX7 hown hK hP 0 rfl rfl 14 (by decide) q1 (fun _ h9 => h9) rfl dX7_tellsTerms_22 ?_
        refine lv_aload_n hx hb dX7_tellsTerms_25 rfl (lv_at hl 0 rfl) ?_
        refine va_get (D := D) (ci := 5) (C := RX7) (T := TX7) (N := 21) hx hb hts hinRX7 hown hK hP 0 rfl rfl 15 (by decide) q0 (fun _ h9 => h9) rfl dX7_tellsTerms_26 ?_
        refine lv_iload_n hx hb dX7_tellsTerms_29 rfl (lv_at hl 1 rfl) ?_
        refine lv_iload_n hx hb dX7_tellsTerms_30 rfl (lv_at hl 2 rfl) ?_
        obtain ⟨g15, h⟩ := fG h
        refine lv_idiv hx hb dX7_tellsTerms_31 g15 ?_
        obtain ⟨g16, h⟩ := fG h
        refine va_iast hx hb hK hP hD hS 7 0 rfl rfl g16 dX7_tellsTerms_32 (fun H locs hP hD hS => ?_)
        have hP : va_P D vwCl (MW w y th ms mst smn msl mhs mtx mle mat mwl mrd mrm mtp mbt (upd mtm7 mtn8.toNatClampNeg (x5 / x6)) mtn8 mnt mnb mun mum mau) H := hP
        have hD : va_D A (MW w y th ms mst smn msl mhs mtx mle mat mwl mrd mrm mtp mbt (upd mtm7 mtn8.toNatClampNeg (x5 / x6)) mtn8 mnt mnb mun mum mau) := hD
        refine lv_aload_n hx hb dX7_tellsTerms_33 rfl (lv_at hl 0 rfl) ?_
        refine lv_dup hx hb dX7_tellsTerms_34 rfl ?_
        refine va_get (D := D) (ci := 5) (C := RX7) (T := TX7) (N := 21) hx hb hts hinRX7 hown hK hP 0 rfl rfl 15 (by decide) q0 (fun _ h9 => h9) rfl dX7_tellsTerms_35 ?_
        refine lv_iconst (v := (1 : Int32)) hx hb dX7_tellsTerms_38 (by decide) ?_
        refine lv_iadd hx hb dX7_tellsTerms_39 ?_
        refine va_put (D := D) (ci := 5) (v := .int (mtn8 + (1 : Int32))) (ty := .int) (C := RX7) (T := TX7) (N := 21) hx hb hts hinRX7 tyX7 tyX7_ok nmX7 hown hK hP hD hS 0 rfl rfl 15 (by decide) q0 (fun _ h9 => h9) rfl (by decide +kernel) rfl rfl (Nat.le_of_ble_eq_true rfl) dX7_tellsTerms_40 (fun H locs hP hD hS => ?_)
        have hP : va_P D vwCl (MW w y th ms mst smn msl mhs mtx mle mat mwl mrd mrm mtp mbt (upd mtm7 mtn8.toNatClampNeg (x5 / x6)) (mtn8 + (1 : Int32)) mnt mnb mun mum mau) H := hP
        have hD : va_D A (MW w y th ms mst smn msl mhs mtx mle mat mwl mrd mrm mtp mbt (upd mtm7 mtn8.toNatClampNeg (x5 / x6)) (mtn8 + (1 : Int32)) mnt mnb mun mum mau) := hD
        refine lv_iload_n hx hb dX7_tellsTerms_43 rfl (lv_at hl 1 rfl) ?_
        refine lv_iload_n hx hb dX7_tellsTerms_44 rfl (lv_at hl 2 rfl) ?_
        refine lv_irem hx hb dX7_tellsTerms_45 g15 ?_
        refine lv_istore (lv' := [(4, .int (x5 - x5 / x6 * x6)), (0, .ref (w 0)), (2, .int x5), (3, .int x6)]) hx hb dX7_tellsTerms_46 hl (by decide) rfl (fun ls hl => ?_)
        refine lv_iload_n hx hb dX7_tellsTerms_48 rfl (lv_at hl 3 rfl) ?_
        refine lv_istore_n (lv' := [(2, .int x6), (4, .int (x5 - x5 / x6 * x6)), (0, .ref (w 0)), (3, .int x6)]) hx hb dX7_tellsTerms_49 rfl hl (by decide) rfl (fun ls hl => ?_)
        refine lv_iload hx hb dX7_tellsTerms_50 (lv_at hl 1 rfl) ?_
        refine lv_istore_n (lv' := [(3, .int (x5 - x5 / x6 * x6)), (2, .int x6), (4, .int (x5 - x5 / x6 * x6)), (0, .ref (w 0))]) hx hb dX7_tellsTerms_52 rfl hl (by decide) rfl (fun ls hl => ?_)
        refine lv_goto (tgt := 17) hx hb dX7_tellsTerms_53 (by decide) ?_
        exact ih x6 (x5 - x5 / x6 * x6) (upd mtm7 mtn8.toNatClampNeg (x5 / x6)) (mtn8 + (1 : Int32)) _ _ _ h hP hD hS (lv_sub hl [3, 1, 0] rfl)
  exact LP13 FU r1 r3 mtm (0 : Int32) _ _ _ g11 hP hD hS (lv_sub hl [2, 1, 0] rfl)
abbrev rm_X7_isTerm : Room := { frames := 2, cells := 0, slots := 0, locals := 45 }
theorem hd_X7_isTerm : yX7_isTerm.cls = RX7 ∧ yX7_isTerm.cls ≠ "java/lang/invoke/MethodHandle" ∧ yX7_isTerm.cls ≠ "java/lang/invoke/VarHandle" ∧ (parseMethodDescriptor yX7_isTerm.desc).map (fun d => d.parameters.length) = some 2 := by decide +kernel
set_option maxHeartbeats 0 in
set_option maxRecDepth 100000 in
theorem c_X7_isTerm (l : Launch) (D : va_G) (w : Nat → Nat) (y : Nat → ClassId) (sz : Nat) (th : Int32) (ms : Nat → Int32) (mst : Nat → Int32) (smn : Int32) (msl : Nat → Int32) (mhs : Nat → Int32) (mtx : Nat → Int32) (mle : Int32) (mat : Int32) (mwl : Int32) (mrd : Nat → Int32) (mrm : Int32) (mtp : Int64) (mbt : Int64) (mtm : Nat → Int32) (mtn : Int32) (mnt : Int32) (mnb : Int32) (mun : Nat → Int32) (mum : Int32) (mau : Int32) (a1 : Int32) (a2 : Int32) (r : Int32) (mtm' : Nat → Int32) (mtn' : Int32) (h : F_X7_isTerm ms mtm mtn a1 a2 = some (r, mtm', mtn')) : Met l yX7_isTerm wsX7_isTerm rm_X7_isTerm (va_Pc [.ref (w 0), .int a1, .int a2] (px D y sz (MW w y th ms mst smn msl mhs mtx mle mat mwl mrd mrm mtp mbt mtm mtn mnt mnb mun mum mau))) (Qri D y sz (MW w y th ms mst smn msl mhs mtx mle mat mwl mrd mrm mtp mbt mtm mtn mnt mnb mun mum mau) (MW w y th ms mst smn msl mhs mtx mle mat mwl mrd mrm mtp mbt mtm' mtn' mnt mnb mun mum mau) r) 0 0 (va_A (MW w y th ms mst smn msl mhs mtx mle mat mwl mrd mrm mtp mbt mtm mtn mnt mnb mun mum mau) sz) := by
  refine hd_z (cc := cX7_isTerm) (maxL := 3) (rt := .boolean) rfl rfl (Nat.le_of_ble_eq_true rfl) ?_
  intro p e s m args below meth c A Q H locs ls hx hb hml hts hown _ hA hP hD hK hS hl hE
  have hl : lv_has ls 3 [(0, .ref (w 0)), (1, .int a1), (2, .int a2)] := hl
  have q0 := hts (.fieldLink RX7 74 "SliceSharesModel" "termMany" "I") (by decide +kernel)
  have hinRX7 : ∀ w ∈ wsX70, w ∈ wsX7_isTerm := by decide +kernel
  unfold F_X7_isTerm at h
  refine lv_iload_n hx hb dX7_isTerm_0 rfl (lv_at hl 1 rfl) ?_
  refine cT_i (As := [.int a1]) (rest := []) ⟨hx, hb, hml, hown, hts⟩ (c_X7_isPlate l D y _ a1) (va_cwS 1 hts gX7_isTerm_X7_isPlate rfl rfl rfl hd_X7_isPlate ⟨Nat.le_of_ble_eq_true rfl, Nat.le_of_ble_eq_true rfl⟩) hK hP hD hS hA rfl hl.1 rfl (Nat.le_of_ble_eq_true rfl) dX7_isTerm_1 ⟨Nat.le_of_ble_eq_true rfl, Nat.le_of_ble_eq_true rfl⟩ (fun H locs hP hD hS => ?_)
  refine lv_if_ne (tgt := 9) hx hb dX7_isTerm_4 (by decide) (fun c1 => ?_) (fun c1 => ?_)
  · replace h := fF c1 h
    refine lv_aload_n hx hb dX7_isTerm_9 rfl (lv_at hl 0 rfl) ?_
    refine lv_iload_n hx hb dX7_isTerm_10 rfl (lv_at hl 1 rfl) ?_
    obtain ⟨mtm2, mtn3, g4, h⟩ := fB2 h
    refine cV_v (As := [.int a1]) (rest := []) (ws1 := (MW w y th ms mst smn msl mhs mtx mle mat mwl mrd mrm mtp mbt mtm2 mtn3 mnt mnb mun mum mau)) ⟨hx, hb, hml, hown, hts⟩ (c_X7_tellsTerms l D w y _ th ms mst smn msl mhs mtx mle mat mwl mrd mrm mtp mbt mtm mtn mnt mnb mun mum mau a1 mtm2 mtn3 g4) (cwV 1 hts gX7_isTerm_X7_tellsTerms rfl rfl rfl hd_X7_tellsTerms ⟨Nat.le_of_ble_eq_true rfl, Nat.le_of_ble_eq_true rfl⟩) hK hP hD hS hA [0, 1, 2, 3, 4, 5, 6, 7, 8] [] [0, 1, 2, 3, 4, 5, 6, 7, 8] rfl rfl rfl (by decide) rfl rfl rfl 0 (ci := 5) rfl rfl rfl hl.1 rfl (Nat.le_of_ble_eq_true rfl) dX7_isTerm_11 ⟨Nat.le_of_ble_eq_true rfl, Nat.le_of_ble_eq_true rfl⟩ (fun H locs hP hD hS => ?_)
    refine lv_iload_n hx hb dX7_isTerm_14 rfl (lv_at hl 2 rfl) ?_
    refine lv_iconst (v := (0 : Int32)) hx hb dX7_isTerm_15 (by decide) ?_
    refine lv_aload_n hx hb dX7_isTerm_16 rfl (lv_at hl 0 rfl) ?_
    refine va_get (D := D) (ci := 5) (C := RX7) (T := TX7) (N := 21) hx hb hts hinRX7 hown hK hP 0 rfl rfl 15 (by decide) q0 (fun _ h9 => h9) rfl dX7_isTerm_17 ?_
    refine lv_iconst (v := (1 : Int32)) hx hb dX7_isTerm_20 (by decide) ?_
    refine lv_isub hx hb dX7_isTerm_21 ?_
    refine cT_i (As := [.int a2, .int (0 : Int32), .int (mtn3 - (1 : Int32))]) (rest := []) ⟨hx, hb, hml, hown, hts⟩ (c_X7_in l D y _ a2 (0 : Int32) (mtn3 - (1 : Int32))) (va_cwS 3 hts gX7_isTerm_X7_in rfl rfl rfl hd_X7_in ⟨Nat.le_of_ble_eq_true rfl, Nat.le_of_ble_eq_true rfl⟩) hK hP hD hS hA rfl hl.1 rfl (Nat.le_of_ble_eq_true rfl) dX7_isTerm_22 ⟨Nat.le_of_ble_eq_true rfl, Nat.le_of_ble_eq_true rfl⟩ (fun H locs hP hD hS => ?_)
    cases h
    exact hE _ _ _ _ dX7_isTerm_25 hP hD hS (nz01 (z_X7_in _ _ _))
  · replace h := fT c1 h
    refine lv_iconst (v := (0 : Int32)) hx hb dX7_isTerm_7 (by decide) ?_
    cases h
    exact hE _ _ _ _ dX7_isTerm_8 hP hD hS (nz01 (Or.inl rfl))
abbrev rm_X7_makesBeginning : Room := { frames := 0, cells := 0, slots := 0, locals := 0 }
theorem hd_X7_makesBeginning : yX7_makesBeginning.cls = RX7 ∧ yX7_makesBeginning.cls ≠ "java/lang/invoke/MethodHandle" ∧ yX7_makesBeginning.cls ≠ "java/lang/invoke/VarHandle" ∧ (parseMethodDescriptor yX7_makesBeginning.desc).map (fun d => d.parameters.length) = some 1 := by decide +kernel
set_option maxHeartbeats 0 in
set_option maxRecDepth 100000 in
theorem c_X7_makesBeginning (l : Launch) (D : va_G) (w : Nat → Nat) (y : Nat → ClassId) (sz : Nat) (th : Int32) (ms : Nat → Int32) (mst : Nat → Int32) (smn : Int32) (msl : Nat → Int32) (mhs : Nat → Int32) (mtx : Nat → Int32) (mle : Int32) (mat : Int32) (mwl : Int32) (mrd : Nat → Int32) (mrm : Int32) (mtp : Int64) (mbt : Int64) (mtm : Nat → Int32) (mtn : Int32) (mnt : Int32) (mnb : Int32) (mun : Nat → Int32) (mum : Int32) (mau : Int32) (a1 : Int32) (mtp' : Int64) (mbt' : Int64) (h : F_X7_makesBeginning mtp mbt mtm a1 = some (mtp', mbt')) : Met l yX7_makesBeginning wsX7_makesBeginning rm_X7_makesBeginning (va_Pc [.ref (w 0), .int a1] (px D y sz (MW w y th ms mst smn msl mhs mtx mle mat mwl mrd mrm mtp mbt mtm mtn mnt mnb mun mum mau))) (Qrv D y sz (MW w y th ms mst smn msl mhs mtx mle mat mwl mrd mrm mtp mbt mtm mtn mnt mnb mun mum mau) (MW w y th ms mst smn msl mhs mtx mle mat mwl mrd mrm mtp' mbt' mtm mtn mnt mnb mun mum mau)) 0 0 (va_A (MW w y th ms mst smn msl mhs mtx mle mat mwl mrd mrm mtp mbt mtm mtn mnt mnb mun mum mau) sz) := by
  refine hd_v (cc := cX7_makesBeginning) (maxL := 9) rfl rfl (Nat.le_of_ble_eq_true rfl) ?_
  intro p e s m args below meth c A Q H locs ls hx hb hml hts hown _ hA hP hD hK hS hl hE
  have hl : lv_has ls 9 [(0, .ref (w 0)), (1, .int a1)] := hl
  have q0 := hts (.fieldLink RX7 29 "SliceSharesModel" "term" "[I") (by decide +kernel)
  have q1 := hts (.fieldLink RX7 54 "SliceSharesModel" "top" "J") (by decide +kernel)
  have q2 := hts (.fieldLink RX7 58 "SliceSharesModel" "bottom" "J") (by decide +kernel)
  have hinRX7 : ∀ w ∈ wsX70, w ∈ wsX7_makesBeginning := by decide +kernel
  unfold F_X7_makesBeginning at h
  refine lv_aload_n hx hb dX7_makesBeginning_0 rfl (lv_at hl 0 rfl) ?_
  refine va_get (D := D) (ci := 5) (C := RX7) (T := TX7) (N := 21) hx hb hts hinRX7 hown hK hP 0 rfl rfl 14 (by decide) q0 (fun _ h9 => h9) rfl dX7_makesBeginning_1 ?_
  refine lv_iload_n hx hb dX7_makesBeginning_4 rfl (lv_at hl 1 rfl) ?_
  obtain ⟨g1, h⟩ := fG h
  refine va_iald hx hb hK hP 7 0 rfl rfl g1 dX7_makesBeginning_5 ?_
  refine lv_i2l (v := (mtm a1.toNatClampNeg).toInt64) hx hb dX7_makesBeginning_6 rfl ?_
  refine lv_lstore_n (lv' := [(2, .long ((mtm a1.toNatClampNeg).toInt64)), (0, .ref (w 0)), (1, .int a1)]) hx hb dX7_makesBeginning_7 rfl hl (by decide) rfl (fun ls hl => ?_)
  refine lv_lconst (v := (1 : Int64)) hx hb dX7_makesBeginning_8 rfl ?_
  refine lv_lstore (lv' := [(4, .long (1 : Int64)), (2, .long ((mtm a1.toNatClampNeg).toInt64)), (0, .ref (w 0)), (1, .int a1)]) hx hb dX7_makesBeginning_9 hl (by decide) rfl (fun ls hl => ?_)
  refine lv_iload_n hx hb dX7_makesBeginning_11 rfl (lv_at hl 3 rfl) ?_
  refine lv_iconst (v := (1 : Int32)) hx hb dX7_makesBeginning_12 (by decide) ?_
  refine lv_isub hx hb dX7_makesBeginning_13 ?_
  refine lv_istore (lv' := [(6, .int (a1 - (1 : Int32))), (4, .long (1 : Int64)), (2, .long ((mtm a1.toNatClampNeg).toInt64)), (0, .ref (w 0)), (1, .int a1)]) hx hb dX7_makesBeginning_14 hl (by decide) rfl (fun ls hl => ?_)
  obtain ⟨v5, v6, g7, h⟩ := fB2 h
  have J8 : ∀ (H : Heap) (locs : List Loc) (ls : Array Slot), va_P D vwCl (MW w y th ms mst smn msl mhs mtx mle mat mwl mrd mrm mtp mbt mtm mtn mnt mnb mun mum mau) H → va_D A (MW w y th ms mst smn msl mhs mtx mle mat mwl mrd mrm mtp mbt mtm mtn mnt mnb mun mum mau) → va_S A s.heap H locs → lv_has ls 9 [(0, .ref (w 0)), (2, .long v5), (4, .long v6)] → W p l e rm_X7_makesBeginning s m args below meth c H locs 0 0 Q (F0 m 48 ls []) := by
    intro H locs ls hP hD hS hl
    refine lv_aload_n hx hb dX7_makesBeginning_48 rfl (lv_at hl 0 rfl) ?_
    refine lv_lload_n hx hb dX7_makesBeginning_49 rfl (lv_at hl 1 rfl) ?_
    refine va_put (D := D) (ci := 5) (v := .long v5) (ty := .long) (C := RX7) (T := TX7) (N := 21) hx hb hts hinRX7 tyX7 tyX7_ok nmX7 hown hK hP hD hS 0 rfl rfl 12 (by decide) q1 (fun _ h9 => h9) rfl (by decide +kernel) rfl rfl (Nat.le_of_ble_eq_true rfl) dX7_makesBeginning_50 (fun H locs hP hD hS => ?_)
    have hP : va_P D vwCl (MW w y th ms mst smn msl mhs mtx mle mat mwl mrd mrm v5 mbt mtm mtn mnt mnb mun mum mau) H := hP
    have hD : va_D A (MW w y th ms mst smn msl mhs mtx mle mat mwl mrd mrm v5 mbt mtm mtn mnt mnb mun mum mau) := hD
    refine lv_aload_n hx hb dX7_makesBeginning_53 rfl (lv_at hl 0 rfl) ?_
    refine lv_lload hx hb dX7_makesBeginning_54 (lv_at hl 2 rfl) ?_
    refine va_put (D := D) (ci := 5) (v := .long v6) (ty := .long) (C := RX7) (T := TX7) (N := 21) hx hb hts hinRX7 tyX7 tyX7_ok nmX7 hown hK hP hD hS 0 rfl rfl 13 (by decide) q2 (fun _ h9 => h9) rfl (by decide +kernel) rfl rfl (Nat.le_of_ble_eq_true rfl) dX7_makesBeginning_56 (fun H locs hP hD hS => ?_)
    have hP : va_P D vwCl (MW w y th ms mst smn msl mhs mtx mle mat mwl mrd mrm v5 v6 mtm mtn mnt mnb mun mum mau) H := hP
    have hD : va_D A (MW w y th ms mst smn msl mhs mtx mle mat mwl mrd mrm v5 v6 mtm mtn mnt mnb mun mum mau) := hD
    cases h
    exact hE _ _ _ _ dX7_makesBeginning_59 hP hD hS
  have LP9 : ∀ (n : Nat) (x2 : Int64) (x3 : Int64) (x4 : Int32) (H : Heap) (locs : List Loc) (ls : Array Slot), L_X7_makesBeginning_16 n x2 x3 x4 mtm = some (v5, v6) → va_P D vwCl (MW w y th ms mst smn msl mhs mtx mle mat mwl mrd mrm mtp mbt mtm mtn mnt mnb mun mum mau) H → va_D A (MW w y th ms mst smn msl mhs mtx mle mat mwl mrd mrm mtp mbt mtm mtn mnt mnb mun mum mau) → va_S A s.heap H locs → lv_has ls 9 [(0, .ref (w 0)), (2, .long x2), (4, .long x3), (6, .int x4)] → W p l e rm_X7_makesBeginning s m args below meth c H locs 0 0 Q (F0 m 16 ls []) := by
    intro n
    induction n with
    | zero => intro x2 x3 x4 H locs ls h hP hD hS hl; exact fN h
    | succ n ih =>
      intro x2 x3 x4 H locs ls h hP hD hS hl
      replace h := (L_X7_makesBeginning_16_s n x2 x3 x4 mtm).symm.trans h
      refine lv_iload hx hb dX7_makesBeginning_16 (lv_at hl 3 rfl) ?_
      refine lv_if_lt (tgt := 48) hx hb dX7_makesBeginning_18 (by decide) (fun c10 => ?_) (fun c10 => ?_)
      · replace h := fT c10 h
        cases h
        exact J8 _ _ _ hP hD hS (lv_sub hl [0, 1, 2] rfl)
      · replace h := fF c10 h
        refine lv_lload_n hx hb dX7_makesBeginning_21 rfl (lv_at hl 1 rfl) ?_
        refine lv_lstore (lv' := [(7, .long x2), (0, .ref (w 0)), (2, .long x2), (4, .long x3), (6, .int x4)]) hx hb dX7_makesBeginning_22 hl (by decide) rfl (fun ls hl => ?_)
        refine lv_aload_n hx hb dX7_makesBeginning_24 rfl (lv_at hl 1 rfl) ?_
        refine va_get (D := D) (ci := 5) (C := RX7) (T := TX7) (N := 21) hx hb hts hinRX7 hown hK hP 0 rfl rfl 14 (by decide) q0 (fun _ h9 => h9) rfl dX7_makesBeginning_25 ?_
        refine lv_iload hx hb dX7_makesBeginning_28 (lv_at hl 4 rfl) ?_
        obtain ⟨g11, h⟩ := fG h
        refine va_iald hx hb hK hP 7 0 rfl rfl g11 dX7_makesBeginning_30 ?_
        refine lv_i2l (v := (mtm x4.toNatClampNeg).toInt64) hx hb dX7_makesBeginning_31 rfl ?_
        refine lv_lload_n hx hb dX7_makesBeginning_32 rfl (lv_at hl 2 rfl) ?_
        refine lv_lmul hx hb dX7_makesBeginning_33 ?_
        refine lv_lload hx hb dX7_makesBeginning_34 (lv_at hl 3 rfl) ?_
        refine lv_ladd hx hb dX7_makesBeginning_36 ?_
        refine lv_lstore_n (lv' := [(2, .long ((((mtm x4.toNatClampNeg).toInt64) * x2) + x3)), (7, .long x2), (0, .ref (w 0)), (4, .long x3), (6, .int x4)]) hx hb dX7_makesBeginning_37 rfl hl (by decide) rfl (fun ls hl => ?_)
        refine lv_lload hx hb dX7_makesBeginning_38 (lv_at hl 1 rfl) ?_
        refine lv_lstore (lv' := [(4, .long x2), (2, .long ((((mtm x4.toNatClampNeg).toInt64) * x2) + x3)), (7, .long x2), (0, .ref (w 0)), (6, .int x4)]) hx hb dX7_makesBeginning_40 hl (by decide) rfl (fun ls hl => ?_)
        refine lv_iinc (v := x4 + (-1 : Int32)) (lv' := [(6, .int (x4 + (-1 : Int32))), (4, .long x2), (2, .long ((((mtm x4.toNatClampNeg).toInt64) * x2) + x3)), (7, .long x2), (0, .ref (w 0))]) hx hb dX7_makesBeginning_42 hl (k := 4) rfl rfl (by decide) rfl (fun ls hl => ?_)
        refine lv_goto (tgt := 16) hx hb dX7_makesBeginning_45 (by decide) ?_
        exact ih ((((mtm x4.toNatClampNeg).toInt64) * x2) + x3) x2 (x4 + (-1 : Int32)) _ _ _ h hP hD hS (lv_sub hl [4, 2, 1, 0] rfl)
  exact LP9 FU ((mtm a1.toNatClampNeg).toInt64) (1 : Int64) (a1 - (1 : Int32)) _ _ _ g7 hP hD hS (lv_sub hl [3, 2, 1, 0] rfl)
abbrev rm_X7_tellsNearest : Room := { frames := 1, cells := 0, slots := 0, locals := 21 }
theorem hd_X7_tellsNearest : yX7_tellsNearest.cls = RX7 ∧ yX7_tellsNearest.cls ≠ "java/lang/invoke/MethodHandle" ∧ yX7_tellsNearest.cls ≠ "java/lang/invoke/VarHandle" ∧ (parseMethodDescriptor yX7_tellsNearest.desc).map (fun d => d.parameters.length) = some 2 := by decide +kernel
set_option maxHeartbeats 0 in
set_option maxRecDepth 100000 in
theorem c_X7_tellsNearest (l : Launch) (D : va_G) (w : Nat → Nat) (y : Nat → ClassId) (sz : Nat) (th : Int32) (ms : Nat → Int32) (mst : Nat → Int32) (smn : Int32) (msl : Nat → Int32) (mhs : Nat → Int32) (mtx : Nat → Int32) (mle : Int32) (mat : Int32) (mwl : Int32) (mrd : Nat → Int32) (mrm : Int32) (mtp : Int64) (mbt : Int64) (mtm : Nat → Int32) (mtn : Int32) (mnt : Int32) (mnb : Int32) (mun : Nat → Int32) (mum : Int32) (mau : Int32) (a1 : Int32) (a2 : Int32) (mnt' : Int32) (mnb' : Int32) (h : F_X7_tellsNearest ms mnt mnb a1 a2 = some (mnt', mnb')) : Met l yX7_tellsNearest wsX7_tellsNearest rm_X7_tellsNearest (va_Pc [.ref (w 0), .int a1, .int a2] (px D y sz (MW w y th ms mst smn msl mhs mtx mle mat mwl mrd mrm mtp mbt mtm mtn mnt mnb mun mum mau))) (Qrv D y sz (MW w y th ms mst smn msl mhs mtx mle mat mwl mrd mrm mtp mbt mtm mtn mnt mnb mun mum mau) (MW w y th ms mst smn msl mhs mtx mle mat mwl mrd mrm mtp mbt mtm mtn mnt' mnb' mun mum mau)) 0 0 (va_A (MW w y th ms mst smn msl mhs mtx mle mat mwl mrd mrm mtp mbt mtm mtn mnt mnb mun mum mau) sz) := by
  refine hd_v (cc := cX7_tellsNearest) (maxL := 12) rfl rfl (Nat.le_of_ble_eq_true rfl) ?_
  intro p e s m args below meth c A Q H locs ls hx hb hml hts hown _ hA hP hD hK hS hl hE
  have hl : lv_has ls 12 [(0, .ref (w 0)), (1, .int a1), (2, .int a2)] := hl
  have q0 := hts (.constantLong RX7 81 (2)) (by decide +kernel)
  have q1 := hts (.fieldLink RX7 83 "SliceSharesModel" "nearBottom" "I") (by decide +kernel)
  have q2 := hts (.fieldLink RX7 86 "SliceSharesModel" "nearTop" "I") (by decide +kernel)
  have hinRX7 : ∀ w ∈ wsX70, w ∈ wsX7_tellsNearest := by decide +kernel
  unfold F_X7_tellsNearest at h
  refine lv_lconst (v := (0 : Int64)) hx hb dX7_tellsNearest_0 rfl ?_
  refine lv_lstore_n (lv' := [(3, .long (0 : Int64)), (0, .ref (w 0)), (1, .int a1), (2, .int a2)]) hx hb dX7_tellsNearest_1 rfl hl (by decide) rfl (fun ls hl => ?_)
  refine lv_iconst (v := (1 : Int32)) hx hb dX7_tellsNearest_2 (by decide) ?_
  refine lv_istore (lv' := [(5, .int (1 : Int32)), (3, .long (0 : Int64)), (0, .ref (w 0)), (1, .int a1), (2, .int a2)]) hx hb dX7_tellsNearest_3 hl (by decide) rfl (fun ls hl => ?_)
  obtain ⟨mnt5, mnb6, g7, h⟩ := fB2 h
  have J8 : ∀ (H : Heap) (locs : List Loc) (ls : Array Slot), va_P D vwCl (MW w y th ms mst smn msl mhs mtx mle mat mwl mrd mrm mtp mbt mtm mtn mnt5 mnb6 mun mum mau) H → va_D A (MW w y th ms mst smn msl mhs mtx mle mat mwl mrd mrm mtp mbt mtm mtn mnt5 mnb6 mun mum mau) → va_S A s.heap H locs → lv_has ls 12 [] → W p l e rm_X7_tellsNearest s m args below meth c H locs 0 0 Q (F0 m 147 ls []) := by
    intro H locs ls hP hD hS hl
    cases h
    exact hE _ _ _ _ dX7_tellsNearest_147 hP hD hS
  have LP9 : ∀ (n : Nat) (x1 : Int64) (x2 : Int32) (mnt3 : Int32) (mnb4 : Int32) (H : Heap) (locs : List Loc) (ls : Array Slot), L_X7_tellsNearest_5 n a1 a2 x1 x2 ms mnt3 mnb4 = some (mnt5, mnb6) → va_P D vwCl (MW w y th ms mst smn msl mhs mtx mle mat mwl mrd mrm mtp mbt mtm mtn mnt3 mnb4 mun mum mau) H → va_D A (MW w y th ms mst smn msl mhs mtx mle mat mwl mrd mrm mtp mbt mtm mtn mnt3 mnb4 mun mum mau) → va_S A s.heap H locs → lv_has ls 12 [(0, .ref (w 0)), (1, .int a1), (2, .int a2), (3, .long x1), (5, .int x2)] → W p l e rm_X7_tellsNearest s m args below meth c H locs 0 0 Q (F0 m 5 ls []) := by
    intro n
    induction n with
    | zero => intro x1 x2 mnt3 mnb4 H locs ls h hP hD hS hl; exact fN h
    | succ n ih =>
      intro x1 x2 mnt3 mnb4 H locs ls h hP hD hS hl
      replace h := (L_X7_tellsNearest_5_s n a1 a2 x1 x2 ms mnt3 mnb4).symm.trans h
      refine lv_iload hx hb dX7_tellsNearest_5 (lv_at hl 4 rfl) ?_
      refine lv_iload_n hx hb dX7_tellsNearest_7 rfl (lv_at hl 2 rfl) ?_
      refine lv_icmp_gt (tgt := 147) hx hb dX7_tellsNearest_8 (by decide) (fun c10 => ?_) (fun c10 => ?_)
      · replace h := fT c10 h
        cases h
        exact J8 _ _ _ hP hD hS (lv_sub hl [] rfl)
      · replace h := fF c10 h
        refine lv_aload_n hx hb dX7_tellsNearest_11 rfl (lv_at hl 0 rfl) ?_
        refine lv_iload_n hx hb dX7_tellsNearest_12 rfl (lv_at hl 1 rfl) ?_
        obtain ⟨r11, g12, h⟩ := fB1 h
        refine cV_i (As := [.int a1]) (rest := []) (ws1 := (MW w y th ms mst smn msl mhs mtx mle mat mwl mrd mrm mtp mbt mtm mtn mnt3 mnb4 mun mum mau)) ⟨hx, hb, hml, hown, hts⟩ (c_X7_above l D w y _ th ms mst smn msl mhs mtx mle mat mwl mrd mrm mtp mbt mtm mtn mnt3 mnb4 mun mum mau a1 r11 g12) (cwV 1 hts gX7_tellsNearest_X7_above rfl rfl rfl hd_X7_above ⟨Nat.le_of_ble_eq_true rfl, Nat.le_of_ble_eq_true rfl⟩) hK hP hD hS hA [0, 1, 2, 3, 4, 5, 6, 7, 8] [] [0, 1, 2, 3, 4, 5, 6, 7, 8] rfl rfl rfl (by decide) rfl rfl rfl 0 (ci := 5) rfl rfl rfl hl.1 rfl (Nat.le_of_ble_eq_true rfl) dX7_tellsNearest_13 ⟨Nat.le_of_ble_eq_true rfl, Nat.le_of_ble_eq_true rfl⟩ (fun H locs hP hD hS => ?_)
        refine lv_i2l (v := r11.toInt64) hx hb dX7_tellsNearest_16 rfl ?_
        refine lv_iload hx hb dX7_tellsNearest_17 (lv_at hl 4 rfl) ?_
        refine lv_i2l (v := x2.toInt64) hx hb dX7_tellsNearest_19 rfl ?_
        refine lv_lmul hx hb dX7_tellsNearest_20 ?_
        refine lv_aload_n hx hb dX7_tellsNearest_21 rfl (lv_at hl 0 rfl) ?_
        refine lv_iload_n hx hb dX7_tellsNearest_22 rfl (lv_at hl 1 rfl) ?_
        obtain ⟨r13, g14, h⟩ := fB1 h
        refine cV_i (As := [.int a1]) (rest := [.long (r11.toInt64 * x2.toInt64)]) (ws1 := (MW w y th ms mst smn msl mhs mtx mle mat mwl mrd mrm mtp mbt mtm mtn mnt3 mnb4 mun mum mau)) ⟨hx, hb, hml, hown, hts⟩ (c_X7_below l D w y _ th ms mst smn msl mhs mtx mle mat mwl mrd mrm mtp mbt mtm mtn mnt3 mnb4 mun mum mau a1 r13 g14) (cwV 1 hts gX7_tellsNearest_X7_below rfl rfl rfl hd_X7_below ⟨Nat.le_of_ble_eq_true rfl, Nat.le_of_ble_eq_true rfl⟩) hK hP hD hS hA [0, 1, 2, 3, 4, 5, 6, 7, 8] [] [0, 1, 2, 3, 4, 5, 6, 7, 8] rfl rfl rfl (by decide) rfl rfl rfl 0 (ci := 5) rfl rfl rfl hl.1 rfl (Nat.le_of_ble_eq_true rfl) dX7_tellsNearest_23 ⟨Nat.le_of_ble_eq_true rfl, Nat.le_of_ble_eq_true rfl⟩ (fun H locs hP hD hS => ?_)
        refine lv_i2l (v := r13.toInt64) hx hb dX7_tellsNearest_26 rfl ?_
        obtain ⟨g15, h⟩ := fG h
        refine lv_ldiv hx hb dX7_tellsNearest_27 g15 ?_
        refine lv_lstore (lv' := [(6, .long ((r11.toInt64 * x2.toInt64) / r13.toInt64)), (0, .ref (w 0)), (1, .int a1), (2, .int a2), (3, .long x1), (5, .int x2)]) hx hb dX7_tellsNearest_28 hl (by decide) rfl (fun ls hl => ?_)
        refine lv_lload hx hb dX7_tellsNearest_30 (lv_at hl 0 rfl) ?_
        refine lv_lstore (lv' := [(8, .long ((r11.toInt64 * x2.toInt64) / r13.toInt64)), (6, .long ((r11.toInt64 * x2.toInt64) / r13.toInt64)), (0, .ref (w 0)), (1, .int a1), (2, .int a2), (3, .long x1), (5, .int x2)]) hx hb dX7_tellsNearest_32 hl (by decide) rfl (fun ls hl => ?_)
        obtain ⟨v21, mnt22, mnb23, g24, h⟩ := fB3 h
        have J25 : ∀ (H : Heap) (locs : List Loc) (ls : Array Slot), va_P D vwCl (MW w y th ms mst smn msl mhs mtx mle mat mwl mrd mrm mtp mbt mtm mtn mnt22 mnb23 mun mum mau) H → va_D A (MW w y th ms mst smn msl mhs mtx mle mat mwl mrd mrm mtp mbt mtm mtn mnt22 mnb23 mun mum mau) → va_S A s.heap H locs → lv_has ls 12 [(0, .ref (w 0)), (1, .int a1), (2, .int a2), (3, .long v21), (5, .int x2)] → W p l e rm_X7_tellsNearest s m args below meth c H locs 0 0 Q (F0 m 141 ls []) := by
          intro H locs ls hP hD hS hl
          refine lv_iinc (v := x2 + (1 : Int32)) (lv' := [(5, .int (x2 + (1 : Int32))), (0, .ref (w 0)), (1, .int a1), (2, .int a2), (3, .long v21)]) hx hb dX7_tellsNearest_141 hl (k := 4) rfl rfl (by decide) rfl (fun ls hl => ?_)
          refine lv_goto (tgt := 5) hx hb dX7_tellsNearest_144 (by decide) ?_
          exact ih v21 (x2 + (1 : Int32)) mnt22 mnb23 _ _ _ h hP hD hS (lv_sub hl [1, 2, 3, 4, 0] rfl)
        have LP26 : ∀ (n : Nat) (x16 : Int64) (x17 : Int64) (x18 : Int64) (mnt19 : Int32) (mnb20 : Int32) (H : Heap) (locs : List Loc) (ls : Array Slot), L_X7_tellsNearest_34 n a1 a2 x16 x2 x17 x18 ms mnt19 mnb20 = some (v21, mnt22, mnb23) → va_P D vwCl (MW w y th ms mst smn msl mhs mtx mle mat mwl mrd mrm mtp mbt mtm mtn mnt19 mnb20 mun mum mau) H → va_D A (MW w y th ms mst smn msl mhs mtx mle mat mwl mrd mrm mtp mbt mtm mtn mnt19 mnb20 mun mum mau) → va_S A s.heap H locs → lv_has ls 12 [(0, .ref (w 0)), (1, .int a1), (2, .int a2), (3, .long x16), (5, .int x2), (6, .long x17), (8, .long x18)] → W p l e rm_X7_tellsNearest s m args below meth c H locs 0 0 Q (F0 m 34 ls []) := by
          intro n
          induction n with
          | zero => intro x16 x17 x18 mnt19 mnb20 H locs ls h hP hD hS hl; exact fN h
          | succ n ih =>
            intro x16 x17 x18 mnt19 mnb20 H locs ls h hP hD hS hl
            replace h := (L_X7_tellsNearest_34_s n a1 a2 x16 x2 x17 x18 ms mnt19 mnb20).symm.trans h
            refine lv_lload hx hb dX7_tellsNearest_34 (lv_at hl 6 rfl) ?_
            refine lv_lload hx hb dX7_tellsNearest_36 (lv_at hl 5 rfl) ?_
            refine lv_ldc2 (v := (2 : Int64)) hx hb hown q0 dX7_tellsNearest_38 ?_
            refine lv_ladd hx hb dX7_tellsNearest_41 ?_
            refine lx_ge (tgt := 141) hx hb dX7_tellsNearest_42 dX7_tellsNearest_43 (by decide) (fun c27 => ?_) (fun c27 => ?_)
            · replace h := fT c27 h
              cases h
              exact J25 _ _ _ hP hD hS (lv_sub hl [0, 1, 2, 3, 4] rfl)
            · replace h := fF c27 h
              refine lv_aload_n hx hb dX7_tellsNearest_46 rfl (lv_at hl 0 rfl) ?_
              refine lv_iload_n hx hb dX7_tellsNearest_47 rfl (lv_at hl 1 rfl) ?_
              obtain ⟨r28, g29, h⟩ := fB1 h
              refine cV_i (As := [.int a1]) (rest := []) (ws1 := (MW w y th ms mst smn msl mhs mtx mle mat mwl mrd mrm mtp mbt mtm mtn mnt19 mnb20 mun mum mau)) ⟨hx, hb, hml, hown, hts⟩ (c_X7_above l D w y _ th ms mst smn msl mhs mtx mle mat mwl mrd mrm mtp mbt mtm mtn mnt19 mnb20 mun mum mau a1 r28 g29) (cwV 1 hts gX7_tellsNearest_X7_above rfl rfl rfl hd_X7_above ⟨Nat.le_of_ble_eq_true rfl, Nat.le_of_ble_eq_true rfl⟩) hK hP hD hS hA [0, 1, 2, 3, 4, 5, 6, 7, 8] [] [0, 1, 2, 3, 4, 5, 6, 7, 8] rfl rfl rfl (by decide) rfl rfl rfl 0 (ci := 5) rfl rfl rfl hl.1 rfl (Nat.le_of_ble_eq_true rfl) dX7_tellsNearest_48 ⟨Nat.le_of_ble_eq_true rfl, Nat.le_of_ble_eq_true rfl⟩ (fun H locs hP hD hS => ?_)
              refine lv_i2l (v := r28.toInt64) hx hb dX7_tellsNearest_51 rfl ?_
              refine lv_iload hx hb dX7_tellsNearest_52 (lv_at hl 4 rfl) ?_
              refine lv_i2l (v := x2.toInt64) hx hb dX7_tellsNearest_54 rfl ?_
              refine lv_lmul hx hb dX7_tellsNearest_55 ?_
              refine lv_lload hx hb dX7_tellsNearest_56 (lv_at hl 6 rfl) ?_
              refine lv_aload_n hx hb dX7_tellsNearest_58 rfl (lv_at hl 0 rfl) ?_
              refine lv_iload_n hx hb dX7_tellsNearest_59 rfl (lv_at hl 1 rfl) ?_
              obtain ⟨r30, g31, h⟩ := fB1 h
              refine cV_i (As := [.int a1]) (rest := [.long x18, .long (r28.toInt64 * x2.toInt64)]) (ws1 := (MW w y th ms mst smn msl mhs mtx mle mat mwl mrd mrm mtp mbt mtm mtn mnt19 mnb20 mun mum mau)) ⟨hx, hb, hml, hown, hts⟩ (c_X7_below l D w y _ th ms mst smn msl mhs mtx mle mat mwl mrd mrm mtp mbt mtm mtn mnt19 mnb20 mun mum mau a1 r30 g31) (cwV 1 hts gX7_tellsNearest_X7_below rfl rfl rfl hd_X7_below ⟨Nat.le_of_ble_eq_true rfl, Nat.le_of_ble_eq_true rfl⟩) hK hP hD hS hA [0, 1, 2, 3, 4, 5, 6, 7, 8] [] [0, 1, 2, 3, 4, 5, 6, 7, 8] rfl rfl rfl (by decide) rfl rfl rfl 0 (ci := 5) rfl rfl rfl hl.1 rfl (Nat.le_of_ble_eq_true rfl) dX7_tellsNearest_60 ⟨Nat.le_of_ble_eq_true rfl, Nat.le_of_ble_eq_true rfl⟩ (fun H locs hP hD hS => ?_)
              refine lv_i2l (v := r30.toInt64) hx hb dX7_tellsNearest_63 rfl ?_
              refine lv_lmul hx hb dX7_tellsNearest_64 ?_
              refine lv_lsub hx hb dX7_tellsNearest_65 ?_
              refine lv_lstore (lv' := [(10, .long ((r28.toInt64 * x2.toInt64) - (x18 * r30.toInt64))), (0, .ref (w 0)), (1, .int a1), (2, .int a2), (3, .long x16), (5, .int x2), (6, .long x17), (8, .long x18)]) hx hb dX7_tellsNearest_66 hl (by decide) rfl (fun ls hl => ?_)
              refine lv_lload hx hb dX7_tellsNearest_68 (lv_at hl 0 rfl) ?_
              refine lv_lconst (v := (0 : Int64)) hx hb dX7_tellsNearest_70 rfl ?_
              have J32 : ∀ (v33 : Int64) (ls : Array Slot), v33 = (if (0 : Int64) ≤ ((r28.toInt64 * x2.toInt64) - (x18 * r30.toInt64)) then ((r28.toInt64 * x2.toInt64) - (x18 * r30.toInt64)) else (-((r28.toInt64 * x2.toInt64) - (x18 * r30.toInt64)))) → lv_has ls 12 [(0, .ref (w 0)), (1, .int a1), (2, .int a2), (3, .long x16), (5, .int x2), (6, .long x17), (8, .long x18), (10, .long ((r28.toInt64 * x2.toInt64) - (x18 * r30.toInt64)))] → W p l e rm_X7_tellsNearest s m args below meth c H locs 0 0 Q (F0 m 83 ls [.long v33]) := by
                intro v33 ls ev33 hl
                subst ev33
                refine lv_lstore (lv' := [(10, .long (if (0 : Int64) ≤ ((r28.toInt64 * x2.toInt64) - (x18 * r30.toInt64)) then ((r28.toInt64 * x2.toInt64) - (x18 * r30.toInt64)) else (-((r28.toInt64 * x2.toInt64) - (x18 * r30.toInt64))))), (0, .ref (w 0)), (1, .int a1), (2, .int a2), (3, .long x16), (5, .int x2), (6, .long x17), (8, .long x18)]) hx hb dX7_tellsNearest_83 hl (by decide) rfl (fun ls hl => ?_)
                refine lv_iload hx hb dX7_tellsNearest_85 (lv_at hl 5 rfl) ?_
                refine lv_iconst (v := (1 : Int32)) hx hb dX7_tellsNearest_87 (by decide) ?_
                obtain ⟨v34, mnt35, mnb36, g37, h⟩ := fB3 h
                have J38 : ∀ (H : Heap) (locs : List Loc) (ls : Array Slot), va_P D vwCl (MW w y th ms mst smn msl mhs mtx mle mat mwl mrd mrm mtp mbt mtm mtn mnt35 mnb36 mun mum mau) H → va_D A (MW w y th ms mst smn msl mhs mtx mle mat mwl mrd mrm mtp mbt mtm mtn mnt35 mnb36 mun mum mau) → va_S A s.heap H locs → lv_has ls 12 [(0, .ref (w 0)), (1, .int a1), (2, .int a2), (3, .long v34), (5, .int x2), (6, .long x17), (8, .long x18), (10, .long (if (0 : Int64) ≤ ((r28.toInt64 * x2.toInt64) - (x18 * r30.toInt64)) then ((r28.toInt64 * x2.toInt64) - (x18 * r30.toInt64)) else (-((r28.toInt64 * x2.toInt64) - (x18 * r30.toInt64)))))] → W p l e rm_X7_tellsNearest s m args below meth c H locs 0 0 Q (F0 m 132 ls []) := by
                  intro H locs ls hP hD hS hl
                  refine lv_lload hx hb dX7_tellsNearest_132 (lv_at hl 6 rfl) ?_
                  refine lv_lconst (v := (1 : Int64)) hx hb dX7_tellsNearest_134 rfl ?_
                  refine lv_ladd hx hb dX7_tellsNearest_135 ?_
                  refine lv_lstore (lv' := [(8, .long (x18 + (1 : Int64))), (0, .ref (w 0)), (1, .int a1), (2, .int a2), (3, .long v34), (5, .int x2), (6, .long x17), (10, .long (if (0 : Int64) ≤ ((r28.toInt64 * x2.toInt64) - (x18 * r30.toInt64)) then ((r28.toInt64 * x2.toInt64) - (x18 * r30.toInt64)) else (-((r28.toInt64 * x2.toInt64) - (x18 * r30.toInt64)))))]) hx hb dX7_tellsNearest_136 hl (by decide) rfl (fun ls hl => ?_)
                  refine lv_goto (tgt := 34) hx hb dX7_tellsNearest_138 (by decide) ?_
                  exact ih v34 x17 (x18 + (1 : Int64)) mnt35 mnb36 _ _ _ h hP hD hS (lv_sub hl [1, 2, 3, 4, 5, 6, 0] rfl)
                refine lv_icmp_ne (tgt := 99) hx hb dX7_tellsNearest_88 (by decide) (fun c39 => ?_) (fun c39 => ?_)
                · replace g37 := fF c39 g37
                  refine lv_lload hx hb dX7_tellsNearest_99 (lv_at hl 0 rfl) ?_
                  refine lv_aload_n hx hb dX7_tellsNearest_101 rfl (lv_at hl 1 rfl) ?_
                  refine va_get (D := D) (ci := 5) (C := RX7) (T := TX7) (N := 21) hx hb hts hinRX7 hown hK hP 0 rfl rfl 17 (by decide) q1 (fun _ h9 => h9) rfl dX7_tellsNearest_102 ?_
                  refine lv_i2l (v := mnb20.toInt64) hx hb dX7_tellsNearest_105 rfl ?_
                  refine lv_lmul hx hb dX7_tellsNearest_106 ?_
                  refine lv_lload_n hx hb dX7_tellsNearest_107 rfl (lv_at hl 4 rfl) ?_
                  refine lv_iload hx hb dX7_tellsNearest_108 (lv_at hl 5 rfl) ?_
                  refine lv_i2l (v := x2.toInt64) hx hb dX7_tellsNearest_110 rfl ?_
                  refine lv_lmul hx hb dX7_tellsNearest_111 ?_
                  refine lx_ge (tgt := 132) hx hb dX7_tellsNearest_112 dX7_tellsNearest_113 (by decide) (fun c40 => ?_) (fun c40 => ?_)
                  · replace g37 := fT c40 g37
                    cases g37
                    exact J38 _ _ _ hP hD hS (lv_sub hl [1, 2, 3, 4, 5, 6, 7, 0] rfl)
                  · replace g37 := fF c40 g37
                    refine lv_lload hx hb dX7_tellsNearest_116 (lv_at hl 0 rfl) ?_
                    refine lv_lstore_n (lv' := [(3, .long (if (0 : Int64) ≤ ((r28.toInt64 * x2.toInt64) - (x18 * r30.toInt64)) then ((r28.toInt64 * x2.toInt64) - (x18 * r30.toInt64)) else (-((r28.toInt64 * x2.toInt64) - (x18 * r30.toInt64))))), (10, .long (if (0 : Int64) ≤ ((r28.toInt64 * x2.toInt64) - (x18 * r30.toInt64)) then ((r28.toInt64 * x2.toInt64) - (x18 * r30.toInt64)) else (-((r28.toInt64 * x2.toInt64) - (x18 * r30.toInt64))))), (0, .ref (w 0)), (1, .int a1), (2, .int a2), (5, .int x2), (6, .long x17), (8, .long x18)]) hx hb dX7_tellsNearest_118 rfl hl (by decide) rfl (fun ls hl => ?_)
                    refine lv_aload_n hx hb dX7_tellsNearest_119 rfl (lv_at hl 2 rfl) ?_
                    refine lv_lload hx hb dX7_tellsNearest_120 (lv_at hl 7 rfl) ?_
                    refine lv_l2i (v := x18.toInt32) hx hb dX7_tellsNearest_122 rfl ?_
                    refine va_put (D := D) (ci := 5) (v := .int x18.toInt32) (ty := .int) (C := RX7) (T := TX7) (N := 21) hx hb hts hinRX7 tyX7 tyX7_ok nmX7 hown hK hP hD hS 0 rfl rfl 16 (by decide) q2 (fun _ h9 => h9) rfl (by decide +kernel) rfl rfl (Nat.le_of_ble_eq_true rfl) dX7_tellsNearest_123 (fun H locs hP hD hS => ?_)
                    have hP : va_P D vwCl (MW w y th ms mst smn msl mhs mtx mle mat mwl mrd mrm mtp mbt mtm mtn x18.toInt32 mnb20 mun mum mau) H := hP
                    have hD : va_D A (MW w y th ms mst smn msl mhs mtx mle mat mwl mrd mrm mtp mbt mtm mtn x18.toInt32 mnb20 mun mum mau) := hD
                    refine lv_aload_n hx hb dX7_tellsNearest_126 rfl (lv_at hl 2 rfl) ?_
                    refine lv_iload hx hb dX7_tellsNearest_127 (lv_at hl 5 rfl) ?_
                    refine va_put (D := D) (ci := 5) (v := .int x2) (ty := .int) (C := RX7) (T := TX7) (N := 21) hx hb hts hinRX7 tyX7 tyX7_ok nmX7 hown hK hP hD hS 0 rfl rfl 17 (by decide) q1 (fun _ h9 => h9) rfl (by decide +kernel) rfl rfl (Nat.le_of_ble_eq_true rfl) dX7_tellsNearest_129 (fun H locs hP hD hS => ?_)
                    have hP : va_P D vwCl (MW w y th ms mst smn msl mhs mtx mle mat mwl mrd mrm mtp mbt mtm mtn x18.toInt32 x2 mun mum mau) H := hP
                    have hD : va_D A (MW w y th ms mst smn msl mhs mtx mle mat mwl mrd mrm mtp mbt mtm mtn x18.toInt32 x2 mun mum mau) := hD
                    cases g37
                    exact J38 _ _ _ hP hD hS (lv_sub hl [2, 3, 4, 0, 5, 6, 7, 1] rfl)
                · replace g37 := fT c39 g37
                  refine lv_lload hx hb dX7_tellsNearest_91 (lv_at hl 7 rfl) ?_
                  refine lv_lload hx hb dX7_tellsNearest_93 (lv_at hl 6 rfl) ?_
                  refine lx_eq (tgt := 116) hx hb dX7_tellsNearest_95 dX7_tellsNearest_96 (by decide) (fun c41 => ?_) (fun c41 => ?_)
                  · replace g37 := fT c41 g37
                    refine lv_lload hx hb dX7_tellsNearest_116 (lv_at hl 0 rfl) ?_
                    refine lv_lstore_n (lv' := [(3, .long (if (0 : Int64) ≤ ((r28.toInt64 * x2.toInt64) - (x18 * r30.toInt64)) then ((r28.toInt64 * x2.toInt64) - (x18 * r30.toInt64)) else (-((r28.toInt64 * x2.toInt64) - (x18 * r30.toInt64))))), (10, .long (if (0 : Int64) ≤ ((r28.toInt64 * x2.toInt64) - (x18 * r30.toInt64)) then ((r28.toInt64 * x2.toInt64) - (x18 * r30.toInt64)) else (-((r28.toInt64 * x2.toInt64) - (x18 * r30.toInt64))))), (0, .ref (w 0)), (1, .int a1), (2, .int a2), (5, .int x2), (6, .long x17), (8, .long x18)]) hx hb dX7_tellsNearest_118 rfl hl (by decide) rfl (fun ls hl => ?_)
                    refine lv_aload_n hx hb dX7_tellsNearest_119 rfl (lv_at hl 2 rfl) ?_
                    refine lv_lload hx hb dX7_tellsNearest_120 (lv_at hl 7 rfl) ?_
                    refine lv_l2i (v := x18.toInt32) hx hb dX7_tellsNearest_122 rfl ?_
                    refine va_put (D := D) (ci := 5) (v := .int x18.toInt32) (ty := .int) (C := RX7) (T := TX7) (N := 21) hx hb hts hinRX7 tyX7 tyX7_ok nmX7 hown hK hP hD hS 0 rfl rfl 16 (by decide) q2 (fun _ h9 => h9) rfl (by decide +kernel) rfl rfl (Nat.le_of_ble_eq_true rfl) dX7_tellsNearest_123 (fun H locs hP hD hS => ?_)
                    have hP : va_P D vwCl (MW w y th ms mst smn msl mhs mtx mle mat mwl mrd mrm mtp mbt mtm mtn x18.toInt32 mnb20 mun mum mau) H := hP
                    have hD : va_D A (MW w y th ms mst smn msl mhs mtx mle mat mwl mrd mrm mtp mbt mtm mtn x18.toInt32 mnb20 mun mum mau) := hD
                    refine lv_aload_n hx hb dX7_tellsNearest_126 rfl (lv_at hl 2 rfl) ?_
                    refine lv_iload hx hb dX7_tellsNearest_127 (lv_at hl 5 rfl) ?_
                    refine va_put (D := D) (ci := 5) (v := .int x2) (ty := .int) (C := RX7) (T := TX7) (N := 21) hx hb hts hinRX7 tyX7 tyX7_ok nmX7 hown hK hP hD hS 0 rfl rfl 17 (by decide) q1 (fun _ h9 => h9) rfl (by decide +kernel) rfl rfl (Nat.le_of_ble_eq_true rfl) dX7_tellsNearest_129 (fun H locs hP hD hS => ?_)
                    have hP : va_P D vwCl (MW w y th ms mst smn msl mhs mtx mle mat mwl mrd mrm mtp mbt mtm mtn x18.toInt32 x2 mun mum mau) H := hP
                    have hD : va_D A (MW w y th ms mst smn msl mhs mtx mle mat mwl mrd mrm mtp mbt mtm mtn x18.toInt32 x2 mun mum mau) := hD
                    cases g37
                    exact J38 _ _ _ hP hD hS (lv_sub hl [2, 3, 4, 0, 5, 6, 7, 1] rfl)
                  · replace g37 := fF c41 g37
                    refine lv_lload hx hb dX7_tellsNearest_99 (lv_at hl 0 rfl) ?_
                    refine lv_aload_n hx hb dX7_tellsNearest_101 rfl (lv_at hl 1 rfl) ?_
                    refine va_get (D := D) (ci := 5) (C := RX7) (T := TX7) (N := 21) hx hb hts hinRX7 hown hK hP 0 rfl rfl 17 (by decide) q1 (fun _ h9 => h9) rfl dX7_tellsNearest_102 ?_
                    refine lv_i2l (v := mnb20.toInt64) hx hb dX7_tellsNearest_105 rfl ?_
                    refine lv_lmul hx hb dX7_tellsNearest_106 ?_
                    refine lv_lload_n hx hb dX7_tellsNearest_107 rfl (lv_at hl 4 rfl) ?_
                    refine lv_iload hx hb dX7_tellsNearest_108 (lv_at hl 5 rfl) ?_
                    refine lv_i2l (v := x2.toInt64) hx hb dX7_tellsNearest_110 rfl ?_
                    refine lv_lmul hx hb dX7_tellsNearest_111 ?_
                    refine lx_ge (tgt := 132) hx hb dX7_tellsNearest_112 dX7_tellsNearest_113 (by decide) (fun c42 => ?_) (fun c42 => ?_)
                    · replace g37 := fT c42 g37
                      cases g37
                      exact J38 _ _ _ hP hD hS (lv_sub hl [1, 2, 3, 4, 5, 6, 7, 0] rfl)
                    · replace g37 := fF c42 g37
                      refine lv_lload hx hb dX7_tellsNearest_116 (lv_at hl 0 rfl) ?_
                      refine lv_lstore_n (lv' := [(3, .long (if (0 : Int64) ≤ ((r28.toInt64 * x2.toInt64) - (x18 * r30.toInt64)) then ((r28.toInt64 * x2.toInt64) - (x18 * r30.toInt64)) else (-((r28.toInt64 * x2.toInt64) - (x18 * r30.toInt64))))), (10, .long (if (0 : Int64) ≤ ((r28.toInt64 * x2.toInt64) - (x18 * r30.toInt64)) then ((r28.toInt64 * x2.toInt64) - (x18 * r30.toInt64)) else (-((r28.toInt64 * x2.toInt64) - (x18 * r30.toInt64))))), (0, .ref (w 0)), (1, .int a1), (2, .int a2), (5, .int x2), (6, .long x17), (8, .long x18)]) hx hb dX7_tellsNearest_118 rfl hl (by decide) rfl (fun ls hl => ?_)
                      refine lv_aload_n hx hb dX7_tellsNearest_119 rfl (lv_at hl 2 rfl) ?_
                      refine lv_lload hx hb dX7_tellsNearest_120 (lv_at hl 7 rfl) ?_
                      refine lv_l2i (v := x18.toInt32) hx hb dX7_tellsNearest_122 rfl ?_
                      refine va_put (D := D) (ci := 5) (v := .int x18.toInt32) (ty := .int) (C := RX7) (T := TX7) (N := 21) hx hb hts hinRX7 tyX7 tyX7_ok nmX7 hown hK hP hD hS 0 rfl rfl 16 (by decide) q2 (fun _ h9 => h9) rfl (by decide +kernel) rfl rfl (Nat.le_of_ble_eq_true rfl) dX7_tellsNearest_123 (fun H locs hP hD hS => ?_)
                      have hP : va_P D vwCl (MW w y th ms mst smn msl mhs mtx mle mat mwl mrd mrm mtp mbt mtm mtn x18.toInt32 mnb20 mun mum mau) H := hP
                      have hD : va_D A (MW w y th ms mst smn msl mhs mtx mle mat mwl mrd mrm mtp mbt mtm mtn x18.toInt32 mnb20 mun mum mau) := hD
                      refine lv_aload_n hx hb dX7_tellsNearest_126 rfl (lv_at hl 2 rfl) ?_
                      refine lv_iload hx hb dX7_tellsNearest_127 (lv_at hl 5 rfl) ?_
                      refine va_put (D := D) (ci := 5) (v := .int x2) (ty := .int) (C := RX7) (T := TX7) (N := 21) hx hb hts hinRX7 tyX7 tyX7_ok nmX7 hown hK hP hD hS 0 rfl rfl 17 (by decide) q1 (fun _ h9 => h9) rfl (by decide +kernel) rfl rfl (Nat.le_of_ble_eq_true rfl) dX7_tellsNearest_129 (fun H locs hP hD hS => ?_)
                      have hP : va_P D vwCl (MW w y th ms mst smn msl mhs mtx mle mat mwl mrd mrm mtp mbt mtm mtn x18.toInt32 x2 mun mum mau) H := hP
                      have hD : va_D A (MW w y th ms mst smn msl mhs mtx mle mat mwl mrd mrm mtp mbt mtm mtn x18.toInt32 x2 mun mum mau) := hD
                      cases g37
                      exact J38 _ _ _ hP hD hS (lv_sub hl [2, 3, 4, 0, 5, 6, 7, 1] rfl)
              refine lx_ge (tgt := 81) hx hb dX7_tellsNearest_71 dX7_tellsNearest_72 (by decide) (fun c43 => ?_) (fun c43 => ?_)
              · refine lv_lload hx hb dX7_tellsNearest_81 (lv_at hl 0 rfl) ?_
                exact J32 _ _ (by rw [if_pos c43]) (lv_sub hl [1, 2, 3, 4, 5, 6, 7, 0] rfl)
              · refine lv_lload hx hb dX7_tellsNearest_75 (lv_at hl 0 rfl) ?_
                refine lv_lneg hx hb dX7_tellsNearest_77 ?_
                refine lv_goto (tgt := 83) hx hb dX7_tellsNearest_78 (by decide) ?_
                exact J32 _ _ (by rw [if_neg c43]) (lv_sub hl [1, 2, 3, 4, 5, 6, 7, 0] rfl)
        exact LP26 FU x1 ((r11.toInt64 * x2.toInt64) / r13.toInt64) ((r11.toInt64 * x2.toInt64) / r13.toInt64) mnt3 mnb4 _ _ _ g24 hP hD hS (lv_sub hl [2, 3, 4, 5, 6, 1, 0] rfl)
  exact LP9 FU (0 : Int64) (1 : Int32) mnt mnb _ _ _ g7 hP hD hS (lv_sub hl [2, 3, 4, 1, 0] rfl)
