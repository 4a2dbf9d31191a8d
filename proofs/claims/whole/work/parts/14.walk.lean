abbrev rm_X6_wayTurns : Room := { frames := 4, cells := 0, slots := 0, locals := 96 }
theorem hd_X6_wayTurns : yX6_wayTurns.cls = RX6 ∧ yX6_wayTurns.cls ≠ "java/lang/invoke/MethodHandle" ∧ yX6_wayTurns.cls ≠ "java/lang/invoke/VarHandle" ∧ (parseMethodDescriptor yX6_wayTurns.desc).map (fun d => d.parameters.length) = some 1 := by decide +kernel
set_option maxHeartbeats 0 in
set_option maxRecDepth 100000 in
theorem c_X6_wayTurns (l : Launch) (D : va_G) (o : Nat → Nat) (y : Nat → ClassId) (sz : Nat) (pl : Nat → Int64) (te : Nat → Int32) (be : Nat → Int64) (cn : Int32) (ch : Nat → Int32) (le : Int32) (rE : Int32) (rL : Int32) (rP : Int32) (rF : Int32) (rS : Int32) (rD : Int32) (hs : Nat → Int64) (ho : Int32) (hc : Int32) (sl : Nat → Int64) (fi : Nat → Int32) (a1 : Int32) (r : Int32) (te' : Nat → Int32) (be' : Nat → Int64) (cn' : Int32) (h : F_X6_wayTurns pl te be cn a1 = some (0, r, te', be', cn')) : Met l yX6_wayTurns wsX6_wayTurns rm_X6_wayTurns (va_Pc [.ref (o 0), .int a1] (px D y sz (XW o y pl te be cn ch le rE rL rP rF rS rD hs ho hc sl fi))) (Qri D y sz (XW o y pl te be cn ch le rE rL rP rF rS rD hs ho hc sl fi) (XW o y pl te' be' cn' ch le rE rL rP rF rS rD hs ho hc sl fi) r) 0 0 (va_A (XW o y pl te be cn ch le rE rL rP rF rS rD hs ho hc sl fi) sz) := by
  refine hd_i (cc := cX6_wayTurns) (maxL := 3) rfl rfl (Nat.le_of_ble_eq_true rfl) ?_
  intro p e s m args below meth c A Q H locs ls hx hb hml hts hown _ hA hP hD hK hS hl hE
  have hl : lv_has ls 3 [(0, .ref (o 0)), (1, .int a1)] := hl
  have q0 := hts (.fieldLink RX6 18 "SliceShares" "continued" "LSliceShares$ContinuedFraction;") (by decide +kernel)
  have q1 := hts (.fieldLink RX6 9 "SliceShares" "plates" "[J") (by decide +kernel)
  have hinRX6 : ∀ w ∈ wsX60, w ∈ wsX6_wayTurns := by decide +kernel
  unfold F_X6_wayTurns at h
  refine lv_aload_n hx hb dX6_wayTurns_0 rfl (lv_at hl 0 rfl) ?_
  refine lv_iload_n hx hb dX6_wayTurns_1 rfl (lv_at hl 1 rfl) ?_
  obtain ⟨k1, g2, h⟩ := fB1 h
  by_cases e3 : ¬ k1 = 0
  · replace h := fF e3 h
    exact fX e3 h
  replace e3 := Classical.not_not.mp e3
  subst e3
  replace h := fT rfl h
  refine cV_v (As := [.int a1]) (rest := []) (ws1 := (XW o y pl te be cn ch le rE rL rP rF rS rD hs ho hc sl fi)) ⟨hx, hb, hml, hown, hts⟩ (c_X6_requireNotZero l D o y _ pl te be cn ch le rE rL rP rF rS rD hs ho hc sl fi a1 g2) (cwV 1 hts gX6_wayTurns_X6_requireNotZero rfl rfl rfl hd_X6_requireNotZero ⟨Nat.le_of_ble_eq_true rfl, Nat.le_of_ble_eq_true rfl⟩) hK hP hD hS hA [0, 1, 2, 3, 4, 5, 6, 7, 8, 9, 10, 11] [] [0, 1, 2, 3, 4, 5, 6, 7, 8, 9, 10, 11] rfl rfl rfl (by decide) rfl rfl rfl 0 (ci := 4) rfl rfl rfl hl.1 rfl (Nat.le_of_ble_eq_true rfl) dX6_wayTurns_2 ⟨Nat.le_of_ble_eq_true rfl, Nat.le_of_ble_eq_true rfl⟩ (fun H locs hP hD hS => ?_)
  refine lv_aload_n hx hb dX6_wayTurns_5 rfl (lv_at hl 0 rfl) ?_
  refine va_get (D := D) (ci := 4) (C := RX6) (T := TX6) (N := 7) hx hb hts hinRX6 hown hK hP 0 rfl rfl 1 (by decide) q0 (fun _ h9 => h9) rfl dX6_wayTurns_6 ?_
  refine lv_aload_n hx hb dX6_wayTurns_9 rfl (lv_at hl 0 rfl) ?_
  refine va_get (D := D) (ci := 4) (C := RX6) (T := TX6) (N := 7) hx hb hts hinRX6 hown hK hP 0 rfl rfl 0 (by decide) q1 (fun _ h9 => h9) rfl dX6_wayTurns_10 ?_
  refine lv_iload_n hx hb dX6_wayTurns_13 rfl (lv_at hl 1 rfl) ?_
  obtain ⟨g4, h⟩ := fG h
  refine va_lald hx hb hK hP 1 1 rfl rfl g4 dX6_wayTurns_14 ?_
  obtain ⟨te5, be6, cn7, g8, h⟩ := fB3 h
  refine cV_v (As := [.long (pl a1.toNatClampNeg)]) (rest := []) (ws1 := (XW o y pl te5 be6 cn7 ch le rE rL rP rF rS rD hs ho hc sl fi)) ⟨hx, hb, hml, hown, hts⟩ (c_X2_expand l D o y _ te be cn (pl a1.toNatClampNeg) te5 be6 cn7 g8) (cwV 1 hts gX6_wayTurns_X2_expand rfl rfl rfl hd_X2_expand ⟨Nat.le_of_ble_eq_true rfl, Nat.le_of_ble_eq_true rfl⟩) hK hP hD hS hA [2, 3, 4] [0, 1, 5, 6, 7, 8, 9, 10, 11] [0, 1, 9, 10, 11, 2, 3, 4, 5, 6, 7, 8] rfl rfl rfl (by decide) rfl rfl rfl 0 (ci := 2) rfl rfl rfl hl.1 rfl (Nat.le_of_ble_eq_true rfl) dX6_wayTurns_15 ⟨Nat.le_of_ble_eq_true rfl, Nat.le_of_ble_eq_true rfl⟩ (fun H locs hP hD hS => ?_)
  refine lv_aload_n hx hb dX6_wayTurns_18 rfl (lv_at hl 0 rfl) ?_
  refine va_get (D := D) (ci := 4) (C := RX6) (T := TX6) (N := 7) hx hb hts hinRX6 hown hK hP 0 rfl rfl 1 (by decide) q0 (fun _ h9 => h9) rfl dX6_wayTurns_19 ?_
  refine lv_iconst (v := (0 : Int32)) hx hb dX6_wayTurns_22 (by decide) ?_
  obtain ⟨r9, g10, h⟩ := fB1 h
  refine cV_i (As := [.int (0 : Int32)]) (rest := []) (ws1 := (XW o y pl te5 be6 cn7 ch le rE rL rP rF rS rD hs ho hc sl fi)) ⟨hx, hb, hml, hown, hts⟩ (c_X2_term l D o y _ te5 be6 cn7 (0 : Int32) r9 g10) (cwV 1 hts gX6_wayTurns_X2_term rfl rfl rfl hd_X2_term ⟨Nat.le_of_ble_eq_true rfl, Nat.le_of_ble_eq_true rfl⟩) hK hP hD hS hA [2, 3, 4] [0, 1, 5, 6, 7, 8, 9, 10, 11] [0, 1, 9, 10, 11, 2, 3, 4, 5, 6, 7, 8] rfl rfl rfl (by decide) rfl rfl rfl 0 (ci := 2) rfl rfl rfl hl.1 rfl (Nat.le_of_ble_eq_true rfl) dX6_wayTurns_23 ⟨Nat.le_of_ble_eq_true rfl, Nat.le_of_ble_eq_true rfl⟩ (fun H locs hP hD hS => ?_)
  have J11 : ∀ (v12 : Int32) (H : Heap) (locs : List Loc) (ls : Array Slot), v12 = (if r9 = (0 : Int32) then ((F_X2_count cn7) - (1 : Int32)) else (F_X2_count cn7)) → va_P D vwCl (XW o y pl te5 be6 cn7 ch le rE rL rP rF rS rD hs ho hc sl fi) H → va_S A s.heap H locs → lv_has ls 3 [(0, .ref (o 0)), (1, .int a1)] → W p l e rm_X6_wayTurns s m args below meth c H locs 0 0 Q (F0 m 48 ls [.int v12]) := by
    intro v12 H locs ls ev12 hP hS hl
    subst ev12
    refine lv_istore_n (lv' := [(2, .int (if r9 = (0 : Int32) then ((F_X2_count cn7) - (1 : Int32)) else (F_X2_count cn7))), (0, .ref (o 0)), (1, .int a1)]) hx hb dX6_wayTurns_48 rfl hl (by decide) rfl (fun ls hl => ?_)
    refine lv_iload_n hx hb dX6_wayTurns_49 rfl (lv_at hl 0 rfl) ?_
    refine lv_iconst (v := (1 : Int32)) hx hb dX6_wayTurns_50 (by decide) ?_
    refine lv_isub hx hb dX6_wayTurns_51 ?_
    cases h
    exact hE _ _ _ _ dX6_wayTurns_52 hP hD hS
  refine lv_if_ne (tgt := 41) hx hb dX6_wayTurns_26 (by decide) (fun c13 => ?_) (fun c13 => ?_)
  · refine lv_aload_n hx hb dX6_wayTurns_41 rfl (lv_at hl 0 rfl) ?_
    refine va_get (D := D) (ci := 4) (C := RX6) (T := TX6) (N := 7) hx hb hts hinRX6 hown hK hP 0 rfl rfl 1 (by decide) q0 (fun _ h9 => h9) rfl dX6_wayTurns_42 ?_
    refine cV_i (As := []) (rest := []) (ws1 := (XW o y pl te5 be6 cn7 ch le rE rL rP rF rS rD hs ho hc sl fi)) ⟨hx, hb, hml, hown, hts⟩ (c_X2_count l D o y _ te5 be6 cn7 ) (cwV 0 hts gX6_wayTurns_X2_count rfl rfl rfl hd_X2_count ⟨Nat.le_of_ble_eq_true rfl, Nat.le_of_ble_eq_true rfl⟩) hK hP hD hS hA [2, 3, 4] [0, 1, 5, 6, 7, 8, 9, 10, 11] [0, 1, 9, 10, 11, 2, 3, 4, 5, 6, 7, 8] rfl rfl rfl (by decide) rfl rfl rfl 0 (ci := 2) rfl rfl rfl hl.1 rfl (Nat.le_of_ble_eq_true rfl) dX6_wayTurns_45 ⟨Nat.le_of_ble_eq_true rfl, Nat.le_of_ble_eq_true rfl⟩ (fun H locs hP hD hS => ?_)
    exact J11 _ _ _ _ (by rw [if_neg c13]) hP hS (lv_sub hl [0, 1] rfl)
  · refine lv_aload_n hx hb dX6_wayTurns_29 rfl (lv_at hl 0 rfl) ?_
    refine va_get (D := D) (ci := 4) (C := RX6) (T := TX6) (N := 7) hx hb hts hinRX6 hown hK hP 0 rfl rfl 1 (by decide) q0 (fun _ h9 => h9) rfl dX6_wayTurns_30 ?_
    refine cV_i (As := []) (rest := []) (ws1 := (XW o y pl te5 be6 cn7 ch le rE rL rP rF rS rD hs ho hc sl fi)) ⟨hx, hb, hml, hown, hts⟩ (c_X2_count l D o y _ te5 be6 cn7 ) (cwV 0 hts gX6_wayTurns_X2_count rfl rfl rfl hd_X2_count ⟨Nat.le_of_ble_eq_true rfl, Nat.le_of_ble_eq_true rfl⟩) hK hP hD hS hA [2, 3, 4] [0, 1, 5, 6, 7, 8, 9, 10, 11] [0, 1, 9, 10, 11, 2, 3, 4, 5, 6, 7, 8] rfl rfl rfl (by decide) rfl rfl rfl 0 (ci := 2) rfl rfl rfl hl.1 rfl (Nat.le_of_ble_eq_true rfl) dX6_wayTurns_33 ⟨Nat.le_of_ble_eq_true rfl, Nat.le_of_ble_eq_true rfl⟩ (fun H locs hP hD hS => ?_)
    refine lv_iconst (v := (1 : Int32)) hx hb dX6_wayTurns_36 (by decide) ?_
    refine lv_isub hx hb dX6_wayTurns_37 ?_
    refine lv_goto (tgt := 48) hx hb dX6_wayTurns_38 (by decide) ?_
    exact J11 _ _ _ _ (by rw [if_pos c13]) hP hS (lv_sub hl [0, 1] rfl)
abbrev xrm_X6_wayTurns : Room := { frames := 8, cells := 1, slots := 6, locals := 123 }
set_option maxHeartbeats 0 in
set_option maxRecDepth 100000 in
theorem x_X6_wayTurns (l : Launch) (hfl : l.stackTraces = false) (D : va_G) (o : Nat → Nat) (y : Nat → ClassId) (sz : Nat) (pl : Nat → Int64) (te : Nat → Int32) (be : Nat → Int64) (cn : Int32) (ch : Nat → Int32) (le : Int32) (rE : Int32) (rL : Int32) (rP : Int32) (rF : Int32) (rS : Int32) (rD : Int32) (hs : Nat → Int64) (ho : Int32) (hc : Int32) (sl : Nat → Int64) (fi : Nat → Int32) (a1 : Int32) (k : Nat) (r : Int32) (te' : Nat → Int32) (be' : Nat → Int64) (cn' : Int32) (hkx : ¬ k = 0) (h : F_X6_wayTurns pl te be cn a1 = some (k, r, te', be', cn')) : vx_Met l yX6_wayTurns wsX6_wayTurns xrm_X6_wayTurns (va_Pc [.ref (o 0), .int a1] (pxe D y sz (XW o y pl te be cn ch le rE rL rP rF rS rD hs ho hc sl fi))) (QNo (XW o y pl te be cn ch le rE rL rP rF rS rD hs ho hc sl fi) sz) (QX D y sz (XW o y pl te be cn ch le rE rL rP rF rS rD hs ho hc sl fi) (XW o y pl te' be' cn' ch le rE rL rP rF rS rD hs ho hc sl fi) k) 1 6 (va_A (XW o y pl te be cn ch le rE rL rP rF rS rD hs ho hc sl fi) sz) := by
  refine hd_x (cc := cX6_wayTurns) (maxL := 3) rfl rfl (Nat.le_of_ble_eq_true rfl) ?_
  intro p e s m args below meth c A Q H locs ls hx hb hml hts hown hA hP hD hK hS hl hEX hlocks hout hQ hAe
  have hl : lv_has ls 3 [(0, .ref (o 0)), (1, .int a1)] := hl
  have q0 := hts (.fieldLink RX6 18 "SliceShares" "continued" "LSliceShares$ContinuedFraction;") (by decide +kernel)
  have q1 := hts (.fieldLink RX6 9 "SliceShares" "plates" "[J") (by decide +kernel)
  have hinRX6 : ∀ w ∈ wsX60, w ∈ wsX6_wayTurns := by decide +kernel
  unfold F_X6_wayTurns at h
  refine lv_aload_n hx hb dX6_wayTurns_0 rfl (lv_at hl 0 rfl) ?_
  refine lv_iload_n hx hb dX6_wayTurns_1 rfl (lv_at hl 1 rfl) ?_
  obtain ⟨k1, g2, h⟩ := fB1 h
  by_cases e3 : ¬ k1 = 0
  · replace h := fF e3 h
    refine xc_V (As := [.int a1]) (rest := []) (ws1 := (XW o y pl te be cn ch le rE rL rP rF rS rD hs ho hc sl fi)) ⟨hx, hb, hml, hown, hts⟩ (x_X6_requireNotZero l hfl D o y _ pl te be cn ch le rE rL rP rF rS rD hs ho hc sl fi a1 k1 e3 g2) (cwV 1 hts gX6_wayTurns_X6_requireNotZero rfl rfl rfl hd_X6_requireNotZero ⟨Nat.le_of_ble_eq_true rfl, Nat.le_of_ble_eq_true rfl⟩) hK hP hD hS hA hEX [0, 1, 2, 3, 4, 5, 6, 7, 8, 9, 10, 11] [] [0, 1, 2, 3, 4, 5, 6, 7, 8, 9, 10, 11] rfl rfl rfl (by decide) rfl rfl rfl 0 (ci := 4) rfl rfl rfl hl.1 rfl (Nat.le_of_ble_eq_true rfl) dX6_wayTurns_2 ⟨Nat.le_of_ble_eq_true rfl, Nat.le_of_ble_eq_true rfl⟩ (fun H locs ce q hP hD hS hce hv hcl => ?_)
    cases h
    exact outX hQ hAe hout hlocks hK hP hD hS hce hv hcl rfl (by decide) (by decide)
  replace e3 := Classical.not_not.mp e3
  subst e3
  replace h := fT rfl h
  refine cV_v (As := [.int a1]) (rest := []) (ws1 := (XW o y pl te be cn ch le rE rL rP rF rS rD hs ho hc sl fi)) ⟨hx, hb, hml, hown, hts⟩ (c_X6_requireNotZero l D o y _ pl te be cn ch le rE rL rP rF rS rD hs ho hc sl fi a1 g2) (cwV 1 hts gX6_wayTurns_X6_requireNotZero rfl rfl rfl hd_X6_requireNotZero ⟨Nat.le_of_ble_eq_true rfl, Nat.le_of_ble_eq_true rfl⟩) hK hP hD hS hA [0, 1, 2, 3, 4, 5, 6, 7, 8, 9, 10, 11] [] [0, 1, 2, 3, 4, 5, 6, 7, 8, 9, 10, 11] rfl rfl rfl (by decide) rfl rfl rfl 0 (ci := 4) rfl rfl rfl hl.1 rfl (Nat.le_of_ble_eq_true rfl) dX6_wayTurns_2 ⟨Nat.le_of_ble_eq_true rfl, Nat.le_of_ble_eq_true rfl⟩ (fun H locs hP hD hS => ?_)
  refine lv_aload_n hx hb dX6_wayTurns_5 rfl (lv_at hl 0 rfl) ?_
  refine va_get (D := D) (ci := 4) (C := RX6) (T := TX6) (N := 7) hx hb hts hinRX6 hown hK hP 0 rfl rfl 1 (by decide) q0 (fun _ h9 => h9) rfl dX6_wayTurns_6 ?_
  refine lv_aload_n hx hb dX6_wayTurns_9 rfl (lv_at hl 0 rfl) ?_
  refine va_get (D := D) (ci := 4) (C := RX6) (T := TX6) (N := 7) hx hb hts hinRX6 hown hK hP 0 rfl rfl 0 (by decide) q1 (fun _ h9 => h9) rfl dX6_wayTurns_10 ?_
  refine lv_iload_n hx hb dX6_wayTurns_13 rfl (lv_at hl 1 rfl) ?_
  obtain ⟨g4, h⟩ := fG h
  refine va_lald hx hb hK hP 1 1 rfl rfl g4 dX6_wayTurns_14 ?_
  obtain ⟨te5, be6, cn7, g8, h⟩ := fB3 h
  refine cV_v (As := [.long (pl a1.toNatClampNeg)]) (rest := []) (ws1 := (XW o y pl te5 be6 cn7 ch le rE rL rP rF rS rD hs ho hc sl fi)) ⟨hx, hb, hml, hown, hts⟩ (c_X2_expand l D o y _ te be cn (pl a1.toNatClampNeg) te5 be6 cn7 g8) (cwV 1 hts gX6_wayTurns_X2_expand rfl rfl rfl hd_X2_expand ⟨Nat.le_of_ble_eq_true rfl, Nat.le_of_ble_eq_true rfl⟩) hK hP hD hS hA [2, 3, 4] [0, 1, 5, 6, 7, 8, 9, 10, 11] [0, 1, 9, 10, 11, 2, 3, 4, 5, 6, 7, 8] rfl rfl rfl (by decide) rfl rfl rfl 0 (ci := 2) rfl rfl rfl hl.1 rfl (Nat.le_of_ble_eq_true rfl) dX6_wayTurns_15 ⟨Nat.le_of_ble_eq_true rfl, Nat.le_of_ble_eq_true rfl⟩ (fun H locs hP hD hS => ?_)
  refine lv_aload_n hx hb dX6_wayTurns_18 rfl (lv_at hl 0 rfl) ?_
  refine va_get (D := D) (ci := 4) (C := RX6) (T := TX6) (N := 7) hx hb hts hinRX6 hown hK hP 0 rfl rfl 1 (by decide) q0 (fun _ h9 => h9) rfl dX6_wayTurns_19 ?_
  refine lv_iconst (v := (0 : Int32)) hx hb dX6_wayTurns_22 (by decide) ?_
  obtain ⟨r9, g10, h⟩ := fB1 h
  refine cV_i (As := [.int (0 : Int32)]) (rest := []) (ws1 := (XW o y pl te5 be6 cn7 ch le rE rL rP rF rS rD hs ho hc sl fi)) ⟨hx, hb, hml, hown, hts⟩ (c_X2_term l D o y _ te5 be6 cn7 (0 : Int32) r9 g10) (cwV 1 hts gX6_wayTurns_X2_term rfl rfl rfl hd_X2_term ⟨Nat.le_of_ble_eq_true rfl, Nat.le_of_ble_eq_true rfl⟩) hK hP hD hS hA [2, 3, 4] [0, 1, 5, 6, 7, 8, 9, 10, 11] [0, 1, 9, 10, 11, 2, 3, 4, 5, 6, 7, 8] rfl rfl rfl (by decide) rfl rfl rfl 0 (ci := 2) rfl rfl rfl hl.1 rfl (Nat.le_of_ble_eq_true rfl) dX6_wayTurns_23 ⟨Nat.le_of_ble_eq_true rfl, Nat.le_of_ble_eq_true rfl⟩ (fun H locs hP hD hS => ?_)
  have J11 : ∀ (v12 : Int32) (H : Heap) (locs : List Loc) (ls : Array Slot), v12 = (if r9 = (0 : Int32) then ((F_X2_count cn7) - (1 : Int32)) else (F_X2_count cn7)) → va_P D vwCl (XW o y pl te5 be6 cn7 ch le rE rL rP rF rS rD hs ho hc sl fi) H → va_S A s.heap H locs → lv_has ls 3 [(0, .ref (o 0)), (1, .int a1)] → W p l e xrm_X6_wayTurns s m args below meth c H locs 0 0 Q (F0 m 48 ls [.int v12]) := by
    intro v12 H locs ls ev12 hP hS hl
    subst ev12
    refine lv_istore_n (lv' := [(2, .int (if r9 = (0 : Int32) then ((F_X2_count cn7) - (1 : Int32)) else (F_X2_count cn7))), (0, .ref (o 0)), (1, .int a1)]) hx hb dX6_wayTurns_48 rfl hl (by decide) rfl (fun ls hl => ?_)
    refine lv_iload_n hx hb dX6_wayTurns_49 rfl (lv_at hl 0 rfl) ?_
    refine lv_iconst (v := (1 : Int32)) hx hb dX6_wayTurns_50 (by decide) ?_
    refine lv_isub hx hb dX6_wayTurns_51 ?_
    exact fY hkx h
  refine lv_if_ne (tgt := 41) hx hb dX6_wayTurns_26 (by decide) (fun c13 => ?_) (fun c13 => ?_)
  · refine lv_aload_n hx hb dX6_wayTurns_41 rfl (lv_at hl 0 rfl) ?_
    refine va_get (D := D) (ci := 4) (C := RX6) (T := TX6) (N := 7) hx hb hts hinRX6 hown hK hP 0 rfl rfl 1 (by decide) q0 (fun _ h9 => h9) rfl dX6_wayTurns_42 ?_
    refine cV_i (As := []) (rest := []) (ws1 := (XW o y pl te5 be6 cn7 ch le rE rL rP rF rS rD hs ho hc sl fi)) ⟨hx, hb, hml, hown, hts⟩ (c_X2_count l D o y _ te5 be6 cn7 ) (cwV 0 hts gX6_wayTurns_X2_count rfl rfl rfl hd_X2_count ⟨Nat.le_of_ble_eq_true rfl, Nat.le_of_ble_eq_true rfl⟩) hK hP hD hS hA [2, 3, 4] [0, 1, 5, 6, 7, 8, 9, 10, 11] [0, 1, 9, 10, 11, 2, 3, 4, 5, 6, 7, 8] rfl rfl rfl (by decide) rfl rfl rfl 0 (ci := 2) rfl rfl rfl hl.1 rfl (Nat.le_of_ble_eq_true rfl) dX6_wayTurns_45 ⟨Nat.le_of_ble_eq_true rfl, Nat.le_of_ble_eq_true rfl⟩ (fun H locs hP hD hS => ?_)
    exact J11 _ _ _ _ (by rw [if_neg c13]) hP hS (lv_sub hl [0, 1] rfl)
  · refine lv_aload_n hx hb dX6_wayTurns_29 rfl (lv_at hl 0 rfl) ?_
    refine va_get (D := D) (ci := 4) (C := RX6) (T := TX6) (N := 7) hx hb hts hinRX6 hown hK hP 0 rfl rfl 1 (by decide) q0 (fun _ h9 => h9) rfl dX6_wayTurns_30 ?_
    refine cV_i (As := []) (rest := []) (ws1 := (XW o y pl te5 be6 cn7 ch le rE rL rP rF rS rD hs ho hc sl fi)) ⟨hx, hb, hml, hown, hts⟩ (c_X2_count l D o y _ te5 be6 cn7 ) (cwV 0 hts gX6_wayTurns_X2_count rfl rfl rfl hd_X2_count ⟨Nat.le_of_ble_eq_true rfl, Nat.le_of_ble_eq_true rfl⟩) hK hP hD hS hA [2, 3, 4] [0, 1, 5, 6, 7, 8, 9, 10, 11] [0, 1, 9, 10, 11, 2, 3, 4, 5, 6, 7, 8] rfl rfl rfl (by decide) rfl rfl rfl 0 (ci := 2) rfl rfl rfl hl.1 rfl (Nat.le_of_ble_eq_true rfl) dX6_wayTurns_33 ⟨Nat.le_of_ble_eq_true rfl, Nat.le_of_ble_eq_true rfl⟩ (fun H locs hP hD hS => ?_)
    refine lv_iconst (v := (1 : Int32)) hx hb dX6_wayTurns_36 (by decide) ?_
    refine lv_isub hx hb dX6_wayTurns_37 ?_
    refine lv_goto (tgt := 48) hx hb dX6_wayTurns_38 (by decide) ?_
    exact J11 _ _ _ _ (by rw [if_pos c13]) hP hS (lv_sub hl [0, 1] rfl)
abbrev rm_X6_beginsRight : Room := { frames := 3, cells := 0, slots := 0, locals := 63 }
theorem hd_X6_beginsRight : yX6_beginsRight.cls = RX6 ∧ yX6_beginsRight.cls ≠ "java/lang/invoke/MethodHandle" ∧ yX6_beginsRight.cls ≠ "java/lang/invoke/VarHandle" ∧ (parseMethodDescriptor yX6_beginsRight.desc).map (fun d => d.parameters.length) = some 1 := by decide +kernel
set_option maxHeartbeats 0 in
set_option maxRecDepth 100000 in
theorem c_X6_beginsRight (l : Launch) (D : va_G) (o : Nat → Nat) (y : Nat → ClassId) (sz : Nat) (pl : Nat → Int64) (te : Nat → Int32) (be : Nat → Int64) (cn : Int32) (ch : Nat → Int32) (le : Int32) (rE : Int32) (rL : Int32) (rP : Int32) (rF : Int32) (rS : Int32) (rD : Int32) (hs : Nat → Int64) (ho : Int32) (hc : Int32) (sl : Nat → Int64) (fi : Nat → Int32) (a1 : Int32) (r : Int32) (h : F_X6_beginsRight pl a1 = some (0, r)) : Met l yX6_beginsRight wsX6_beginsRight rm_X6_beginsRight (va_Pc [.ref (o 0), .int a1] (px D y sz (XW o y pl te be cn ch le rE rL rP rF rS rD hs ho hc sl fi))) (Qri D y sz (XW o y pl te be cn ch le rE rL rP rF rS rD hs ho hc sl fi) (XW o y pl te be cn ch le rE rL rP rF rS rD hs ho hc sl fi) r) 0 0 (va_A (XW o y pl te be cn ch le rE rL rP rF rS rD hs ho hc sl fi) sz) := by
  refine hd_z (cc := cX6_beginsRight) (maxL := 2) (rt := .boolean) rfl rfl (Nat.le_of_ble_eq_true rfl) ?_
  intro p e s m args below meth c A Q H locs ls hx hb hml hts hown _ hA hP hD hK hS hl hE
  have hl : lv_has ls 2 [(0, .ref (o 0)), (1, .int a1)] := hl
  have q0 := hts (.fieldLink RX6 9 "SliceShares" "plates" "[J") (by decide +kernel)
  have q1 := hts (.constantLong RX6 166 (1048577)) (by decide +kernel)
  have hinRX6 : ∀ w ∈ wsX60, w ∈ wsX6_beginsRight := by decide +kernel
  unfold F_X6_beginsRight at h
  refine lv_aload_n hx hb dX6_beginsRight_0 rfl (lv_at hl 0 rfl) ?_
  refine lv_iload_n hx hb dX6_beginsRight_1 rfl (lv_at hl 1 rfl) ?_
  obtain ⟨k1, g2, h⟩ := fB1 h
  by_cases e3 : ¬ k1 = 0
  · replace h := fF e3 h
    exact fX e3 h
  replace e3 := Classical.not_not.mp e3
  subst e3
  replace h := fT rfl h
  refine cV_v (As := [.int a1]) (rest := []) (ws1 := (XW o y pl te be cn ch le rE rL rP rF rS rD hs ho hc sl fi)) ⟨hx, hb, hml, hown, hts⟩ (c_X6_requireNotZero l D o y _ pl te be cn ch le rE rL rP rF rS rD hs ho hc sl fi a1 g2) (cwV 1 hts gX6_beginsRight_X6_requireNotZero rfl rfl rfl hd_X6_requireNotZero ⟨Nat.le_of_ble_eq_true rfl, Nat.le_of_ble_eq_true rfl⟩) hK hP hD hS hA [0, 1, 2, 3, 4, 5, 6, 7, 8, 9, 10, 11] [] [0, 1, 2, 3, 4, 5, 6, 7, 8, 9, 10, 11] rfl rfl rfl (by decide) rfl rfl rfl 0 (ci := 4) rfl rfl rfl hl.1 rfl (Nat.le_of_ble_eq_true rfl) dX6_beginsRight_2 ⟨Nat.le_of_ble_eq_true rfl, Nat.le_of_ble_eq_true rfl⟩ (fun H locs hP hD hS => ?_)
  refine lv_aload_n hx hb dX6_beginsRight_5 rfl (lv_at hl 0 rfl) ?_
  refine va_get (D := D) (ci := 4) (C := RX6) (T := TX6) (N := 7) hx hb hts hinRX6 hown hK hP 0 rfl rfl 0 (by decide) q0 (fun _ h9 => h9) rfl dX6_beginsRight_6 ?_
  refine lv_iload_n hx hb dX6_beginsRight_9 rfl (lv_at hl 1 rfl) ?_
  obtain ⟨g4, h⟩ := fG h
  refine va_lald hx hb hK hP 1 1 rfl rfl g4 dX6_beginsRight_10 ?_
  refine lv_ldc2 (v := (1048577 : Int64)) hx hb hown q1 dX6_beginsRight_11 ?_
  refine cT_i (As := [.long (pl a1.toNatClampNeg), .long (1048577 : Int64)]) (rest := []) ⟨hx, hb, hml, hown, hts⟩ (c_X3_order l D y _ (pl a1.toNatClampNeg) (1048577 : Int64)) (va_cwS 2 hts gX6_beginsRight_X3_order rfl rfl rfl hd_X3_order ⟨Nat.le_of_ble_eq_true rfl, Nat.le_of_ble_eq_true rfl⟩) hK hP hD hS hA rfl hl.1 rfl (Nat.le_of_ble_eq_true rfl) dX6_beginsRight_14 ⟨Nat.le_of_ble_eq_true rfl, Nat.le_of_ble_eq_true rfl⟩ (fun H locs hP hD hS => ?_)
  have J5 : ∀ (v6 : Int32) (ls : Array Slot), v6 = (if (F_X3_order (pl a1.toNatClampNeg) (1048577 : Int64)) ≤ (0 : Int32) then (0 : Int32) else (1 : Int32)) → lv_has ls 2 [(0, .ref (o 0)), (1, .int a1)] → W p l e rm_X6_beginsRight s m args below meth c H locs 0 0 Q (F0 m 25 ls [.int v6]) := by
    intro v6 ls ev6 hl
    subst ev6
    cases h
    exact hE _ _ _ _ dX6_beginsRight_25 hP hD hS (nz01 (z01 (Or.inl rfl) (Or.inr rfl)))
  refine lv_if_le (tgt := 24) hx hb dX6_beginsRight_17 (by decide) (fun c7 => ?_) (fun c7 => ?_)
  · refine lv_iconst (v := (0 : Int32)) hx hb dX6_beginsRight_24 (by decide) ?_
    exact J5 _ _ (by rw [if_pos c7]) (lv_sub hl [0, 1] rfl)
  · refine lv_iconst (v := (1 : Int32)) hx hb dX6_beginsRight_20 (by decide) ?_
    refine lv_goto (tgt := 25) hx hb dX6_beginsRight_21 (by decide) ?_
    exact J5 _ _ (by rw [if_neg c7]) (lv_sub hl [0, 1] rfl)
abbrev xrm_X6_beginsRight : Room := { frames := 8, cells := 1, slots := 6, locals := 123 }
set_option maxHeartbeats 0 in
set_option maxRecDepth 100000 in
theorem x_X6_beginsRight (l : Launch) (hfl : l.stackTraces = false) (D : va_G) (o : Nat → Nat) (y : Nat → ClassId) (sz : Nat) (pl : Nat → Int64) (te : Nat → Int32) (be : Nat → Int64) (cn : Int32) (ch : Nat → Int32) (le : Int32) (rE : Int32) (rL : Int32) (rP : Int32) (rF : Int32) (rS : Int32) (rD : Int32) (hs : Nat → Int64) (ho : Int32) (hc : Int32) (sl : Nat → Int64) (fi : Nat → Int32) (a1 : Int32) (k : Nat) (r : Int32) (hkx : ¬ k = 0) (h : F_X6_beginsRight pl a1 = some (k, r)) : vx_Met l yX6_beginsRight wsX6_beginsRight xrm_X6_beginsRight (va_Pc [.ref (o 0), .int a1] (pxe D y sz (XW o y pl te be cn ch le rE rL rP rF rS rD hs ho hc sl fi))) (QNo (XW o y pl te be cn ch le rE rL rP rF rS rD hs ho hc sl fi) sz) (QX D y sz (XW o y pl te be cn ch le rE rL rP rF rS rD hs ho hc sl fi) (XW o y pl te be cn ch le rE rL rP rF rS rD hs ho hc sl fi) k) 1 6 (va_A (XW o y pl te be cn ch le rE rL rP rF rS rD hs ho hc sl fi) sz) := by
  refine hd_x (cc := cX6_beginsRight) (maxL := 2) rfl rfl (Nat.le_of_ble_eq_true rfl) ?_
  intro p e s m args below meth c A Q H locs ls hx hb hml hts hown hA hP hD hK hS hl hEX hlocks hout hQ hAe
  have hl : lv_has ls 2 [(0, .ref (o 0)), (1, .int a1)] := hl
  have q0 := hts (.fieldLink RX6 9 "SliceShares" "plates" "[J") (by decide +kernel)
  have q1 := hts (.constantLong RX6 166 (1048577)) (by decide +kernel)
  have hinRX6 : ∀ w ∈ wsX60, w ∈ wsX6_beginsRight := by decide +kernel
  unfold F_X6_beginsRight at h
  refine lv_aload_n hx hb dX6_beginsRight_0 rfl (lv_at hl 0 rfl) ?_
  refine lv_iload_n hx hb dX6_beginsRight_1 rfl (lv_at hl 1 rfl) ?_
  obtain ⟨k1, g2, h⟩ := fB1 h
  by_cases e3 : ¬ k1 = 0
  · replace h := fF e3 h
    refine xc_V (As := [.int a1]) (rest := []) (ws1 := (XW o y pl te be cn ch le rE rL rP rF rS rD hs ho hc sl fi)) ⟨hx, hb, hml, hown, hts⟩ (x_X6_requireNotZero l hfl D o y _ pl te be cn ch le rE rL rP rF rS rD hs ho hc sl fi a1 k1 e3 g2) (cwV 1 hts gX6_beginsRight_X6_requireNotZero rfl rfl rfl hd_X6_requireNotZero ⟨Nat.le_of_ble_eq_true rfl, Nat.le_of_ble_eq_true rfl⟩) hK hP hD hS hA hEX [0, 1, 2, 3, 4, 5, 6, 7, 8, 9, 10, 11] [] [0, 1, 2, 3, 4, 5, 6, 7, 8, 9, 10, 11] rfl rfl rfl (by decide) rfl rfl rfl 0 (ci := 4) rfl rfl rfl hl.1 rfl (Nat.le_of_ble_eq_true rfl) dX6_beginsRight_2 ⟨Nat.le_of_ble_eq_true rfl, Nat.le_of_ble_eq_true rfl⟩ (fun H locs ce q hP hD hS hce hv hcl => ?_)
    cases h
    exact outX hQ hAe hout hlocks hK hP hD hS hce hv hcl rfl (by decide) (by decide)
  replace e3 := Classical.not_not.mp e3
  subst e3
  replace h := fT rfl h
  refine cV_v (As := [.int a1]) (rest := []) (ws1 := (XW o y pl te be cn ch le rE rL rP rF rS rD hs ho hc sl fi)) ⟨hx, hb, hml, hown, hts⟩ (c_X6_requireNotZero l D o y _ pl te be cn ch le rE rL rP rF rS rD hs ho hc sl fi a1 g2) (cwV 1 hts gX6_beginsRight_X6_requireNotZero rfl rfl rfl hd_X6_requireNotZero ⟨Nat.le_of_ble_eq_true rfl, Nat.le_of_ble_eq_true rfl⟩) hK hP hD hS hA [0, 1, 2, 3, 4, 5, 6, 7, 8, 9, 10, 11] [] [0, 1, 2, 3, 4, 5, 6, 7, 8, 9, 10, 11] rfl rfl rfl (by decide) rfl rfl rfl 0 (ci := 4) rfl rfl rfl hl.1 rfl (Nat.le_of_ble_eq_true rfl) dX6_beginsRight_2 ⟨Nat.le_of_ble_eq_true rfl, Nat.le_of_ble_eq_true rfl⟩ (fun H locs hP hD hS => ?_)
  refine lv_aload_n hx hb dX6_beginsRight_5 rfl (lv_at hl 0 rfl) ?_
  refine va_get (D := D) (ci := 4) (C := RX6) (T := TX6) (N := 7) hx hb hts hinRX6 hown hK hP 0 rfl rfl 0 (by decide) q0 (fun _ h9 => h9) rfl dX6_beginsRight_6 ?_
  refine lv_iload_n hx hb dX6_beginsRight_9 rfl (lv_at hl 1 rfl) ?_
  obtain ⟨g4, h⟩ := fG h
  refine va_lald hx hb hK hP 1 1 rfl rfl g4 dX6_beginsRight_10 ?_
  refine lv_ldc2 (v := (1048577 : Int64)) hx hb hown q1 dX6_beginsRight_11 ?_
  refine cT_i (As := [.long (pl a1.toNatClampNeg), .long (1048577 : Int64)]) (rest := []) ⟨hx, hb, hml, hown, hts⟩ (c_X3_order l D y _ (pl a1.toNatClampNeg) (1048577 : Int64)) (va_cwS 2 hts gX6_beginsRight_X3_order rfl rfl rfl hd_X3_order ⟨Nat.le_of_ble_eq_true rfl, Nat.le_of_ble_eq_true rfl⟩) hK hP hD hS hA rfl hl.1 rfl (Nat.le_of_ble_eq_true rfl) dX6_beginsRight_14 ⟨Nat.le_of_ble_eq_true rfl, Nat.le_of_ble_eq_true rfl⟩ (fun H locs hP hD hS => ?_)
  have J5 : ∀ (v6 : Int32) (ls : Array Slot), v6 = (if (F_X3_order (pl a1.toNatClampNeg) (1048577 : Int64)) ≤ (0 : Int32) then (0 : Int32) else (1 : Int32)) → lv_has ls 2 [(0, .ref (o 0)), (1, .int a1)] → W p l e xrm_X6_beginsRight s m args below meth c H locs 0 0 Q (F0 m 25 ls [.int v6]) := by
    intro v6 ls ev6 hl
    subst ev6
    exact fY hkx h
  refine lv_if_le (tgt := 24) hx hb dX6_beginsRight_17 (by decide) (fun c7 => ?_) (fun c7 => ?_)
  · refine lv_iconst (v := (0 : Int32)) hx hb dX6_beginsRight_24 (by decide) ?_
    exact J5 _ _ (by rw [if_pos c7]) (lv_sub hl [0, 1] rfl)
  · refine lv_iconst (v := (1 : Int32)) hx hb dX6_beginsRight_20 (by decide) ?_
    refine lv_goto (tgt := 25) hx hb dX6_beginsRight_21 (by decide) ?_
    exact J5 _ _ (by rw [if_neg c7]) (lv_sub hl [0, 1] rfl)
abbrev rm_X6_appendText : Room := { frames := 1, cells := 0, slots := 0, locals := 25 }
theorem hd_X6_appendText : yX6_appendText.cls = RX6 ∧ yX6_appendText.cls ≠ "java/lang/invoke/MethodHandle" ∧ yX6_appendText.cls ≠ "java/lang/invoke/VarHandle" ∧ (parseMethodDescriptor yX6_appendText.desc).map (fun d => d.parameters.length) = some 1 := by decide +kernel
set_option maxHeartbeats 0 in
set_option maxRecDepth 100000 in
theorem c_X6_appendText (l : Launch) (D : va_G) (o : Nat → Nat) (y : Nat → ClassId) (sz : Nat) (pl : Nat → Int64) (te : Nat → Int32) (be : Nat → Int64) (cn : Int32) (ch : Nat → Int32) (le : Int32) (rE : Int32) (rL : Int32) (rP : Int32) (rF : Int32) (rS : Int32) (rD : Int32) (hs : Nat → Int64) (ho : Int32) (hc : Int32) (sl : Nat → Int64) (fi : Nat → Int32) (a1 : Int64) (r : Int32) (ch' : Nat → Int32) (le' : Int32) (h : F_X6_appendText ch le a1 = some (0, r, ch', le')) : Met l yX6_appendText wsX6_appendText rm_X6_appendText (va_Pc [.ref (o 0), .long a1] (px D y sz (XW o y pl te be cn ch le rE rL rP rF rS rD hs ho hc sl fi))) (Qri D y sz (XW o y pl te be cn ch le rE rL rP rF rS rD hs ho hc sl fi) (XW o y pl te be cn ch' le' rE rL rP rF rS rD hs ho hc sl fi) r) 0 0 (va_A (XW o y pl te be cn ch le rE rL rP rF rS rD hs ho hc sl fi) sz) := by
  refine hd_i (cc := cX6_appendText) (maxL := 4) rfl rfl (Nat.le_of_ble_eq_true rfl) ?_
  intro p e s m args below meth c A Q H locs ls hx hb hml hts hown _ hA hP hD hK hS hl hE
  have hl : lv_has ls 4 [(0, .ref (o 0)), (1, .long a1)] := hl
  have q0 := hts (.fieldLink RX6 25 "SliceShares" "text" "LSliceShares$CommandText;") (by decide +kernel)
  have hinRX6 : ∀ w ∈ wsX60, w ∈ wsX6_appendText := by decide +kernel
  unfold F_X6_appendText at h
  refine lv_lload_n hx hb dX6_appendText_0 rfl (lv_at hl 1 rfl) ?_
  obtain ⟨r1, g2, h⟩ := fB1 h
  refine cT_i (As := [.long a1]) (rest := []) ⟨hx, hb, hml, hown, hts⟩ (c_X1_characterCount l D y _ a1 r1 g2) (va_cwS 1 hts gX6_appendText_X1_characterCount rfl rfl rfl hd_X1_characterCount ⟨Nat.le_of_ble_eq_true rfl, Nat.le_of_ble_eq_true rfl⟩) hK hP hD hS hA rfl hl.1 rfl (Nat.le_of_ble_eq_true rfl) dX6_appendText_1 ⟨Nat.le_of_ble_eq_true rfl, Nat.le_of_ble_eq_true rfl⟩ (fun H locs hP hD hS => ?_)
  refine lv_istore_n (lv' := [(3, .int r1), (0, .ref (o 0)), (1, .long a1)]) hx hb dX6_appendText_4 rfl hl (by decide) rfl (fun ls hl => ?_)
  refine lv_iload_n hx hb dX6_appendText_5 rfl (lv_at hl 0 rfl) ?_
  refine lv_iconst (v := (1 : Int32)) hx hb dX6_appendText_6 (by decide) ?_
  refine lv_icmp_ge (tgt := 20) hx hb dX6_appendText_7 (by decide) (fun c3 => ?_) (fun c3 => ?_)
  · replace h := fT c3 h
    refine lv_aload_n hx hb dX6_appendText_20 rfl (lv_at hl 1 rfl) ?_
    refine va_get (D := D) (ci := 4) (C := RX6) (T := TX6) (N := 7) hx hb hts hinRX6 hown hK hP 0 rfl rfl 2 (by decide) q0 (fun _ h9 => h9) rfl dX6_appendText_21 ?_
    refine lv_iload_n hx hb dX6_appendText_24 rfl (lv_at hl 0 rfl) ?_
    refine cV_i (As := [.int r1]) (rest := []) (ws1 := (XW o y pl te be cn ch le rE rL rP rF rS rD hs ho hc sl fi)) ⟨hx, hb, hml, hown, hts⟩ (c_X1_hasRoomFor l D o y _ ch le r1) (cwV 1 hts gX6_appendText_X1_hasRoomFor rfl rfl rfl hd_X1_hasRoomFor ⟨Nat.le_of_ble_eq_true rfl, Nat.le_of_ble_eq_true rfl⟩) hK hP hD hS hA [5, 6] [0, 1, 2, 3, 4, 7, 8, 9, 10, 11] [0, 1, 2, 3, 4, 10, 11, 5, 6, 7, 8, 9] rfl rfl rfl (by decide) rfl rfl rfl 0 (ci := 1) rfl rfl rfl hl.1 rfl (Nat.le_of_ble_eq_true rfl) dX6_appendText_25 ⟨Nat.le_of_ble_eq_true rfl, Nat.le_of_ble_eq_true rfl⟩ (fun H locs hP hD hS => ?_)
    refine lv_if_ne (tgt := 41) hx hb dX6_appendText_28 (by decide) (fun c4 => ?_) (fun c4 => ?_)
    · replace h := fF c4 h
      refine lv_aload_n hx hb dX6_appendText_41 rfl (lv_at hl 1 rfl) ?_
      refine va_get (D := D) (ci := 4) (C := RX6) (T := TX6) (N := 7) hx hb hts hinRX6 hown hK hP 0 rfl rfl 2 (by decide) q0 (fun _ h9 => h9) rfl dX6_appendText_42 ?_
      refine lv_lload_n hx hb dX6_appendText_45 rfl (lv_at hl 2 rfl) ?_
      refine lv_iload_n hx hb dX6_appendText_46 rfl (lv_at hl 0 rfl) ?_
      obtain ⟨ch5, le6, g7, h⟩ := fB2 h
      refine cV_v (As := [.long a1, .int r1]) (rest := []) (ws1 := (XW o y pl te be cn ch5 le6 rE rL rP rF rS rD hs ho hc sl fi)) ⟨hx, hb, hml, hown, hts⟩ (c_X1_append l D o y _ ch le a1 r1 ch5 le6 g7) (cwV 2 hts gX6_appendText_X1_append rfl rfl rfl hd_X1_append ⟨Nat.le_of_ble_eq_true rfl, Nat.le_of_ble_eq_true rfl⟩) hK hP hD hS hA [5, 6] [0, 1, 2, 3, 4, 7, 8, 9, 10, 11] [0, 1, 2, 3, 4, 10, 11, 5, 6, 7, 8, 9] rfl rfl rfl (by decide) rfl rfl rfl 0 (ci := 1) rfl rfl rfl hl.1 rfl (Nat.le_of_ble_eq_true rfl) dX6_appendText_47 ⟨Nat.le_of_ble_eq_true rfl, Nat.le_of_ble_eq_true rfl⟩ (fun H locs hP hD hS => ?_)
      refine lv_aload_n hx hb dX6_appendText_50 rfl (lv_at hl 1 rfl) ?_
      refine va_get (D := D) (ci := 4) (C := RX6) (T := TX6) (N := 7) hx hb hts hinRX6 hown hK hP 0 rfl rfl 2 (by decide) q0 (fun _ h9 => h9) rfl dX6_appendText_51 ?_
      refine cV_i (As := []) (rest := []) (ws1 := (XW o y pl te be cn ch5 le6 rE rL rP rF rS rD hs ho hc sl fi)) ⟨hx, hb, hml, hown, hts⟩ (c_X1_length l D o y _ ch5 le6 ) (cwV 0 hts gX6_appendText_X1_length rfl rfl rfl hd_X1_length ⟨Nat.le_of_ble_eq_true rfl, Nat.le_of_ble_eq_true rfl⟩) hK hP hD hS hA [5, 6] [0, 1, 2, 3, 4, 7, 8, 9, 10, 11] [0, 1, 2, 3, 4, 10, 11, 5, 6, 7, 8, 9] rfl rfl rfl (by decide) rfl rfl rfl 0 (ci := 1) rfl rfl rfl hl.1 rfl (Nat.le_of_ble_eq_true rfl) dX6_appendText_54 ⟨Nat.le_of_ble_eq_true rfl, Nat.le_of_ble_eq_true rfl⟩ (fun H locs hP hD hS => ?_)
      cases h
      exact hE _ _ _ _ dX6_appendText_57 hP hD hS
    · replace h := fT c4 h
      exact fX (show ¬ (3 : Nat) = 0 by decide) h
  · replace h := fF c3 h
    exact fX (show ¬ (2 : Nat) = 0 by decide) h
abbrev xrm_X6_appendText : Room := { frames := 6, cells := 1, slots := 6, locals := 82 }
set_option maxHeartbeats 0 in
set_option maxRecDepth 100000 in
theorem x_X6_appendText (l : Launch) (hfl : l.stackTraces = false) (D : va_G) (o : Nat → Nat) (y : Nat → ClassId) (sz : Nat) (pl : Nat → Int64) (te : Nat → Int32) (be : Nat → Int64) (cn : Int32) (ch : Nat → Int32) (le : Int32) (rE : Int32) (rL : Int32) (rP : Int32) (rF : Int32) (rS : Int32) (rD : Int32) (hs : Nat → Int64) (ho : Int32) (hc : Int32) (sl : Nat → Int64) (fi : Nat → Int32) (a1 : Int64) (k : Nat) (r : Int32) (ch' : Nat → Int32) (le' : Int32) (hkx : ¬ k = 0) (h : F_X6_appendText ch le a1 = some (k, r, ch', le')) : vx_Met l yX6_appendText wsX6_appendText xrm_X6_appendText (va_Pc [.ref (o 0), .long a1] (pxe D y sz (XW o y pl te be cn ch le rE rL rP rF rS rD hs ho hc sl fi))) (QNo (XW o y pl te be cn ch le rE rL rP rF rS rD hs ho hc sl fi) sz) (QX D y sz (XW o y pl te be cn ch le rE rL rP rF rS rD hs ho hc sl fi) (XW o y pl te be cn ch' le' rE rL rP rF rS rD hs ho hc sl fi) k) 1 6 (va_A (XW o y pl te be cn ch le rE rL rP rF rS rD hs ho hc sl fi) sz) := by
  refine hd_x (cc := cX6_appendText) (maxL := 4) rfl rfl (Nat.le_of_ble_eq_true rfl) ?_
  intro p e s m args below meth c A Q H locs ls hx hb hml hts hown hA hP hD hK hS hl hEX hlocks hout hQ hAe
  have hl : lv_has ls 4 [(0, .ref (o 0)), (1, .long a1)] := hl
  have q0 := hts (.fieldLink RX6 25 "SliceShares" "text" "LSliceShares$CommandText;") (by decide +kernel)
  have q1 := hts (.classLink RX6 176 "java/lang/IllegalStateException") (by decide +kernel)
  have q2 := hts (.initialized "java/lang/IllegalStateException") (by decide +kernel)
  have q3 := hts (.classLink RX6 55 "java/lang/IllegalArgumentException") (by decide +kernel)
  have q4 := hts (.initialized "java/lang/IllegalArgumentException") (by decide +kernel)
  have hinRX6 : ∀ w ∈ wsX60, w ∈ wsX6_appendText := by decide +kernel
  unfold F_X6_appendText at h
  refine lv_lload_n hx hb dX6_appendText_0 rfl (lv_at hl 1 rfl) ?_
  obtain ⟨r1, g2, h⟩ := fB1 h
  refine cT_i (As := [.long a1]) (rest := []) ⟨hx, hb, hml, hown, hts⟩ (c_X1_characterCount l D y _ a1 r1 g2) (va_cwS 1 hts gX6_appendText_X1_characterCount rfl rfl rfl hd_X1_characterCount ⟨Nat.le_of_ble_eq_true rfl, Nat.le_of_ble_eq_true rfl⟩) hK hP hD hS hA rfl hl.1 rfl (Nat.le_of_ble_eq_true rfl) dX6_appendText_1 ⟨Nat.le_of_ble_eq_true rfl, Nat.le_of_ble_eq_true rfl⟩ (fun H locs hP hD hS => ?_)
  refine lv_istore_n (lv' := [(3, .int r1), (0, .ref (o 0)), (1, .long a1)]) hx hb dX6_appendText_4 rfl hl (by decide) rfl (fun ls hl => ?_)
  refine lv_iload_n hx hb dX6_appendText_5 rfl (lv_at hl 0 rfl) ?_
  refine lv_iconst (v := (1 : Int32)) hx hb dX6_appendText_6 (by decide) ?_
  refine lv_icmp_ge (tgt := 20) hx hb dX6_appendText_7 (by decide) (fun c3 => ?_) (fun c3 => ?_)
  · replace h := fT c3 h
    refine lv_aload_n hx hb dX6_appendText_20 rfl (lv_at hl 1 rfl) ?_
    refine va_get (D := D) (ci := 4) (C := RX6) (T := TX6) (N := 7) hx hb hts hinRX6 hown hK hP 0 rfl rfl 2 (by decide) q0 (fun _ h9 => h9) rfl dX6_appendText_21 ?_
    refine lv_iload_n hx hb dX6_appendText_24 rfl (lv_at hl 0 rfl) ?_
    refine cV_i (As := [.int r1]) (rest := []) (ws1 := (XW o y pl te be cn ch le rE rL rP rF rS rD hs ho hc sl fi)) ⟨hx, hb, hml, hown, hts⟩ (c_X1_hasRoomFor l D o y _ ch le r1) (cwV 1 hts gX6_appendText_X1_hasRoomFor rfl rfl rfl hd_X1_hasRoomFor ⟨Nat.le_of_ble_eq_true rfl, Nat.le_of_ble_eq_true rfl⟩) hK hP hD hS hA [5, 6] [0, 1, 2, 3, 4, 7, 8, 9, 10, 11] [0, 1, 2, 3, 4, 10, 11, 5, 6, 7, 8, 9] rfl rfl rfl (by decide) rfl rfl rfl 0 (ci := 1) rfl rfl rfl hl.1 rfl (Nat.le_of_ble_eq_true rfl) dX6_appendText_25 ⟨Nat.le_of_ble_eq_true rfl, Nat.le_of_ble_eq_true rfl⟩ (fun H locs hP hD hS => ?_)
    refine lv_if_ne (tgt := 41) hx hb dX6_appendText_28 (by decide) (fun c4 => ?_) (fun c4 => ?_)
    · replace h := fF c4 h
      refine lv_aload_n hx hb dX6_appendText_41 rfl (lv_at hl 1 rfl) ?_
      refine va_get (D := D) (ci := 4) (C := RX6) (T := TX6) (N := 7) hx hb hts hinRX6 hown hK hP 0 rfl rfl 2 (by decide) q0 (fun _ h9 => h9) rfl dX6_appendText_42 ?_
      refine lv_lload_n hx hb dX6_appendText_45 rfl (lv_at hl 2 rfl) ?_
      refine lv_iload_n hx hb dX6_appendText_46 rfl (lv_at hl 0 rfl) ?_
      obtain ⟨ch5, le6, g7, h⟩ := fB2 h
      refine cV_v (As := [.long a1, .int r1]) (rest := []) (ws1 := (XW o y pl te be cn ch5 le6 rE rL rP rF rS rD hs ho hc sl fi)) ⟨hx, hb, hml, hown, hts⟩ (c_X1_append l D o y _ ch le a1 r1 ch5 le6 g7) (cwV 2 hts gX6_appendText_X1_append rfl rfl rfl hd_X1_append ⟨Nat.le_of_ble_eq_true rfl, Nat.le_of_ble_eq_true rfl⟩) hK hP hD hS hA [5, 6] [0, 1, 2, 3, 4, 7, 8, 9, 10, 11] [0, 1, 2, 3, 4, 10, 11, 5, 6, 7, 8, 9] rfl rfl rfl (by decide) rfl rfl rfl 0 (ci := 1) rfl rfl rfl hl.1 rfl (Nat.le_of_ble_eq_true rfl) dX6_appendText_47 ⟨Nat.le_of_ble_eq_true rfl, Nat.le_of_ble_eq_true rfl⟩ (fun H locs hP hD hS => ?_)
      refine lv_aload_n hx hb dX6_appendText_50 rfl (lv_at hl 1 rfl) ?_
      refine va_get (D := D) (ci := 4) (C := RX6) (T := TX6) (N := 7) hx hb hts hinRX6 hown hK hP 0 rfl rfl 2 (by decide) q0 (fun _ h9 => h9) rfl dX6_appendText_51 ?_
      refine cV_i (As := []) (rest := []) (ws1 := (XW o y pl te be cn ch5 le6 rE rL rP rF rS rD hs ho hc sl fi)) ⟨hx, hb, hml, hown, hts⟩ (c_X1_length l D o y _ ch5 le6 ) (cwV 0 hts gX6_appendText_X1_length rfl rfl rfl hd_X1_length ⟨Nat.le_of_ble_eq_true rfl, Nat.le_of_ble_eq_true rfl⟩) hK hP hD hS hA [5, 6] [0, 1, 2, 3, 4, 7, 8, 9, 10, 11] [0, 1, 2, 3, 4, 10, 11, 5, 6, 7, 8, 9] rfl rfl rfl (by decide) rfl rfl rfl 0 (ci := 1) rfl rfl rfl hl.1 rfl (Nat.le_of_ble_eq_true rfl) dX6_appendText_54 ⟨Nat.le_of_ble_eq_true rfl, Nat.le_of_ble_eq_true rfl⟩ (fun H locs hP hD hS => ?_)
      exact fY hkx h
    · replace h := fT c4 h
      cases h
      exact thrS (ik := 176) (is := 178) (ic := 180) (E := "java/lang/IllegalStateException") (txt := "the text would be too long") hx hb hfl hQ hAe hout hlocks hK hP hD hS hown rfl (by decide +kernel) q1 q2 (fun w hw => hts w (List.mem_cons_of_mem _ (List.mem_append_right _ hw))) th2_180 thg_180 hEX (by decide +kernel) (hl.1.trans hml.symm) dX6_appendText_31 dX6_appendText_34 dX6_appendText_35 dX6_appendText_37 dX6_appendText_40 (by decide) (Nat.le_of_ble_eq_true rfl) (by decide) (by decide) (by decide) (by decide)
  · replace h := fF c3 h
    cases h
    exact thrS (ik := 55) (is := 171) (ic := 59) (E := "java/lang/IllegalArgumentException") (txt := "these are no characters of a text") hx hb hfl hQ hAe hout hlocks hK hP hD hS hown rfl (by decide +kernel) q3 q4 (fun w hw => hts w (List.mem_cons_of_mem _ (List.mem_append_left _ (List.mem_append_right _ hw)))) th2_59 thg_59 hEX (by decide +kernel) (hl.1.trans hml.symm) dX6_appendText_10 dX6_appendText_13 dX6_appendText_14 dX6_appendText_16 dX6_appendText_19 (by decide) (Nat.le_of_ble_eq_true rfl) (by decide) (by decide) (by decide) (by decide)
abbrev rm_X6_clearText : Room := { frames := 1, cells := 0, slots := 0, locals := 20 }
theorem hd_X6_clearText : yX6_clearText.cls = RX6 ∧ yX6_clearText.cls ≠ "java/lang/invoke/MethodHandle" ∧ yX6_clearText.cls ≠ "java/lang/invoke/VarHandle" ∧ (parseMethodDescriptor yX6_clearText.desc).map (fun d => d.parameters.length) = some 0 := by decide +kernel
set_option maxHeartbeats 0 in
set_option maxRecDepth 100000 in
theorem c_X6_clearText (l : Launch) (D : va_G) (o : Nat → Nat) (y : Nat → ClassId) (sz : Nat) (pl : Nat → Int64) (te : Nat → Int32) (be : Nat → Int64) (cn : Int32) (ch : Nat → Int32) (le : Int32) (rE : Int32) (rL : Int32) (rP : Int32) (rF : Int32) (rS : Int32) (rD : Int32) (hs : Nat → Int64) (ho : Int32) (hc : Int32) (sl : Nat → Int64) (fi : Nat → Int32) (r : Int32) (le' : Int32) (h : F_X6_clearText le = some (r, le')) : Met l yX6_clearText wsX6_clearText rm_X6_clearText (va_Pc [.ref (o 0)] (px D y sz (XW o y pl te be cn ch le rE rL rP rF rS rD hs ho hc sl fi))) (Qri D y sz (XW o y pl te be cn ch le rE rL rP rF rS rD hs ho hc sl fi) (XW o y pl te be cn ch le' rE rL rP rF rS rD hs ho hc sl fi) r) 0 0 (va_A (XW o y pl te be cn ch le rE rL rP rF rS rD hs ho hc sl fi) sz) := by
  refine hd_i (cc := cX6_clearText) (maxL := 2) rfl rfl (Nat.le_of_ble_eq_true rfl) ?_
  intro p e s m args below meth c A Q H locs ls hx hb hml hts hown _ hA hP hD hK hS hl hE
  have hl : lv_has ls 2 [(0, .ref (o 0))] := hl
  have q0 := hts (.fieldLink RX6 25 "SliceShares" "text" "LSliceShares$CommandText;") (by decide +kernel)
  have hinRX6 : ∀ w ∈ wsX60, w ∈ wsX6_clearText := by decide +kernel
  unfold F_X6_clearText at h
  refine lv_aload_n hx hb dX6_clearText_0 rfl (lv_at hl 0 rfl) ?_
  refine va_get (D := D) (ci := 4) (C := RX6) (T := TX6) (N := 7) hx hb hts hinRX6 hown hK hP 0 rfl rfl 2 (by decide) q0 (fun _ h9 => h9) rfl dX6_clearText_1 ?_
  refine cV_i (As := []) (rest := []) (ws1 := (XW o y pl te be cn ch le rE rL rP rF rS rD hs ho hc sl fi)) ⟨hx, hb, hml, hown, hts⟩ (c_X1_length l D o y _ ch le ) (cwV 0 hts gX6_clearText_X1_length rfl rfl rfl hd_X1_length ⟨Nat.le_of_ble_eq_true rfl, Nat.le_of_ble_eq_true rfl⟩) hK hP hD hS hA [5, 6] [0, 1, 2, 3, 4, 7, 8, 9, 10, 11] [0, 1, 2, 3, 4, 10, 11, 5, 6, 7, 8, 9] rfl rfl rfl (by decide) rfl rfl rfl 0 (ci := 1) rfl rfl rfl hl.1 rfl (Nat.le_of_ble_eq_true rfl) dX6_clearText_4 ⟨Nat.le_of_ble_eq_true rfl, Nat.le_of_ble_eq_true rfl⟩ (fun H locs hP hD hS => ?_)
  refine lv_istore_n (lv' := [(1, .int (F_X1_length le)), (0, .ref (o 0))]) hx hb dX6_clearText_7 rfl hl (by decide) rfl (fun ls hl => ?_)
  refine lv_aload_n hx hb dX6_clearText_8 rfl (lv_at hl 1 rfl) ?_
  refine va_get (D := D) (ci := 4) (C := RX6) (T := TX6) (N := 7) hx hb hts hinRX6 hown hK hP 0 rfl rfl 2 (by decide) q0 (fun _ h9 => h9) rfl dX6_clearText_9 ?_
  obtain ⟨le1, g2, h⟩ := fB1 h
  refine cV_v (As := []) (rest := []) (ws1 := (XW o y pl te be cn ch le1 rE rL rP rF rS rD hs ho hc sl fi)) ⟨hx, hb, hml, hown, hts⟩ (c_X1_empty l D o y _ ch le le1 g2) (cwV 0 hts gX6_clearText_X1_empty rfl rfl rfl hd_X1_empty ⟨Nat.le_of_ble_eq_true rfl, Nat.le_of_ble_eq_true rfl⟩) hK hP hD hS hA [5, 6] [0, 1, 2, 3, 4, 7, 8, 9, 10, 11] [0, 1, 2, 3, 4, 10, 11, 5, 6, 7, 8, 9] rfl rfl rfl (by decide) rfl rfl rfl 0 (ci := 1) rfl rfl rfl hl.1 rfl (Nat.le_of_ble_eq_true rfl) dX6_clearText_12 ⟨Nat.le_of_ble_eq_true rfl, Nat.le_of_ble_eq_true rfl⟩ (fun H locs hP hD hS => ?_)
  refine lv_iload_n hx hb dX6_clearText_15 rfl (lv_at hl 0 rfl) ?_
  cases h
  exact hE _ _ _ _ dX6_clearText_16 hP hD hS
abbrev rm_X6_textLength : Room := { frames := 1, cells := 0, slots := 0, locals := 20 }
theorem hd_X6_textLength : yX6_textLength.cls = RX6 ∧ yX6_textLength.cls ≠ "java/lang/invoke/MethodHandle" ∧ yX6_textLength.cls ≠ "java/lang/invoke/VarHandle" ∧ (parseMethodDescriptor yX6_textLength.desc).map (fun d => d.parameters.length) = some 0 := by decide +kernel
set_option maxHeartbeats 0 in
set_option maxRecDepth 100000 in
theorem c_X6_textLength (l : Launch) (D : va_G) (o : Nat → Nat) (y : Nat → ClassId) (sz : Nat) (pl : Nat → Int64) (te : Nat → Int32) (be : Nat → Int64) (cn : Int32) (ch : Nat → Int32) (le : Int32) (rE : Int32) (rL : Int32) (rP : Int32) (rF : Int32) (rS : Int32) (rD : Int32) (hs : Nat → Int64) (ho : Int32) (hc : Int32) (sl : Nat → Int64) (fi : Nat → Int32) : Met l yX6_textLength wsX6_textLength rm_X6_textLength (va_Pc [.ref (o 0)] (px D y sz (XW o y pl te be cn ch le rE rL rP rF rS rD hs ho hc sl fi))) (Qri D y sz (XW o y pl te be cn ch le rE rL rP rF rS rD hs ho hc sl fi) (XW o y pl te be cn ch le rE rL rP rF rS rD hs ho hc sl fi) (F_X6_textLength le)) 0 0 (va_A (XW o y pl te be cn ch le rE rL rP rF rS rD hs ho hc sl fi) sz) := by
  refine hd_i (cc := cX6_textLength) (maxL := 1) rfl rfl (Nat.le_of_ble_eq_true rfl) ?_
  intro p e s m args below meth c A Q H locs ls hx hb hml hts hown _ hA hP hD hK hS hl hE
  have hl : lv_has ls 1 [(0, .ref (o 0))] := hl
  have q0 := hts (.fieldLink RX6 25 "SliceShares" "text" "LSliceShares$CommandText;") (by decide +kernel)
  have hinRX6 : ∀ w ∈ wsX60, w ∈ wsX6_textLength := by decide +kernel
  refine lv_aload_n hx hb dX6_textLength_0 rfl (lv_at hl 0 rfl) ?_
  refine va_get (D := D) (ci := 4) (C := RX6) (T := TX6) (N := 7) hx hb hts hinRX6 hown hK hP 0 rfl rfl 2 (by decide) q0 (fun _ h9 => h9) rfl dX6_textLength_1 ?_
  refine cV_i (As := []) (rest := []) (ws1 := (XW o y pl te be cn ch le rE rL rP rF rS rD hs ho hc sl fi)) ⟨hx, hb, hml, hown, hts⟩ (c_X1_length l D o y _ ch le ) (cwV 0 hts gX6_textLength_X1_length rfl rfl rfl hd_X1_length ⟨Nat.le_of_ble_eq_true rfl, Nat.le_of_ble_eq_true rfl⟩) hK hP hD hS hA [5, 6] [0, 1, 2, 3, 4, 7, 8, 9, 10, 11] [0, 1, 2, 3, 4, 10, 11, 5, 6, 7, 8, 9] rfl rfl rfl (by decide) rfl rfl rfl 0 (ci := 1) rfl rfl rfl hl.1 rfl (Nat.le_of_ble_eq_true rfl) dX6_textLength_4 ⟨Nat.le_of_ble_eq_true rfl, Nat.le_of_ble_eq_true rfl⟩ (fun H locs hP hD hS => ?_)
  exact hE _ _ _ _ dX6_textLength_7 hP hD hS
abbrev rm_X6_textError : Room := { frames := 4, cells := 0, slots := 0, locals := 85 }
theorem hd_X6_textError : yX6_textError.cls = RX6 ∧ yX6_textError.cls ≠ "java/lang/invoke/MethodHandle" ∧ yX6_textError.cls ≠ "java/lang/invoke/VarHandle" ∧ (parseMethodDescriptor yX6_textError.desc).map (fun d => d.parameters.length) = some 0 := by decide +kernel
set_option maxHeartbeats 0 in
set_option maxRecDepth 100000 in
theorem c_X6_textError (l : Launch) (D : va_G) (o : Nat → Nat) (y : Nat → ClassId) (sz : Nat) (pl : Nat → Int64) (te : Nat → Int32) (be : Nat → Int64) (cn : Int32) (ch : Nat → Int32) (le : Int32) (rE : Int32) (rL : Int32) (rP : Int32) (rF : Int32) (rS : Int32) (rD : Int32) (hs : Nat → Int64) (ho : Int32) (hc : Int32) (sl : Nat → Int64) (fi : Nat → Int32) (r : Int32) (rE' : Int32) (rL' : Int32) (rP' : Int32) (rF' : Int32) (rS' : Int32) (rD' : Int32) (h : F_X6_textError ch le rE rL rP rF rS rD = some (r, rE', rL', rP', rF', rS', rD')) : Met l yX6_textError wsX6_textError rm_X6_textError (va_Pc [.ref (o 0)] (px D y sz (XW o y pl te be cn ch le rE rL rP rF rS rD hs ho hc sl fi))) (Qri D y sz (XW o y pl te be cn ch le rE rL rP rF rS rD hs ho hc sl fi) (XW o y pl te be cn ch le rE' rL' rP' rF' rS' rD' hs ho hc sl fi) r) 0 0 (va_A (XW o y pl te be cn ch le rE rL rP rF rS rD hs ho hc sl fi) sz) := by
  refine hd_i (cc := cX6_textError) (maxL := 2) rfl rfl (Nat.le_of_ble_eq_true rfl) ?_
  intro p e s m args below meth c A Q H locs ls hx hb hml hts hown _ hA hP hD hK hS hl hE
  have hl : lv_has ls 2 [(0, .ref (o 0))] := hl
  have q0 := hts (.fieldLink RX6 32 "SliceShares" "reader" "LSliceShares$CommandReader;") (by decide +kernel)
  have q1 := hts (.fieldLink RX6 25 "SliceShares" "text" "LSliceShares$CommandText;") (by decide +kernel)
  have hinRX6 : ∀ w ∈ wsX60, w ∈ wsX6_textError := by decide +kernel
  unfold F_X6_textError at h
  refine lv_aload_n hx hb dX6_textError_0 rfl (lv_at hl 0 rfl) ?_
  refine va_get (D := D) (ci := 4) (C := RX6) (T := TX6) (N := 7) hx hb hts hinRX6 hown hK hP 0 rfl rfl 3 (by decide) q0 (fun _ h9 => h9) rfl dX6_textError_1 ?_
  obtain ⟨rE1, g2, h⟩ := fB1 h
  refine cV_v (As := []) (rest := []) (ws1 := (XW o y pl te be cn ch le rE1 rL rP rF rS rD hs ho hc sl fi)) ⟨hx, hb, hml, hown, hts⟩ (c_X0_begin l D o y _ rE rL rP rF rS rD rE1 g2) (cwV 0 hts gX6_textError_X0_begin rfl rfl rfl hd_X0_begin ⟨Nat.le_of_ble_eq_true rfl, Nat.le_of_ble_eq_true rfl⟩) hK hP hD hS hA [7] [0, 1, 2, 3, 4, 5, 6, 8, 9, 10, 11] [0, 1, 2, 3, 4, 5, 6, 11, 7, 8, 9, 10] rfl rfl rfl (by decide) rfl rfl rfl 0 (ci := 0) rfl rfl rfl hl.1 rfl (Nat.le_of_ble_eq_true rfl) dX6_textError_4 ⟨Nat.le_of_ble_eq_true rfl, Nat.le_of_ble_eq_true rfl⟩ (fun H locs hP hD hS => ?_)
  refine lv_iconst (v := (0 : Int32)) hx hb dX6_textError_7 (by decide) ?_
  refine lv_istore_n (lv' := [(1, .int (0 : Int32)), (0, .ref (o 0))]) hx hb dX6_textError_8 rfl hl (by decide) rfl (fun ls hl => ?_)
  obtain ⟨t10, v11, rE12, rL13, rP14, rF15, rS16, rD17, g18, h⟩ := fB8 h
  have J19 : t10 = 0 → ∀ (H : Heap) (locs : List Loc) (ls : Array Slot), va_P D vwCl (XW o y pl te be cn ch le rE12 rL13 rP14 rF15 rS16 rD17 hs ho hc sl fi) H → va_D A (XW o y pl te be cn ch le rE12 rL13 rP14 rF15 rS16 rD17 hs ho hc sl fi) → va_S A s.heap H locs → lv_has ls 2 [(1, .int v11)] → W p l e rm_X6_textError s m args below meth c H locs 0 0 Q (F0 m 38 ls []) := by
    intro ht H locs ls hP hD hS hl
    replace h := fT ht h
    refine lv_iload_n hx hb dX6_textError_38 rfl (lv_at hl 0 rfl) ?_
    cases h
    exact hE _ _ _ _ dX6_textError_39 hP hD hS
  have J20 : t10 = 1 → ∀ (H : Heap) (locs : List Loc) (ls : Array Slot), va_P D vwCl (XW o y pl te be cn ch le rE12 rL13 rP14 rF15 rS16 rD17 hs ho hc sl fi) H → va_D A (XW o y pl te be cn ch le rE12 rL13 rP14 rF15 rS16 rD17 hs ho hc sl fi) → va_S A s.heap H locs → lv_has ls 2 [(0, .ref (o 0))] → W p l e rm_X6_textError s m args below meth c H locs 0 0 Q (F0 m 46 ls []) := by
    intro ht H locs ls hP hD hS hl
    replace h := fF (show ¬ t10 = 0 by omega) h
    refine lv_aload_n hx hb dX6_textError_46 rfl (lv_at hl 0 rfl) ?_
    refine va_get (D := D) (ci := 4) (C := RX6) (T := TX6) (N := 7) hx hb hts hinRX6 hown hK hP 0 rfl rfl 3 (by decide) q0 (fun _ h9 => h9) rfl dX6_textError_47 ?_
    refine cV_i (As := []) (rest := []) (ws1 := (XW o y pl te be cn ch le rE12 rL13 rP14 rF15 rS16 rD17 hs ho hc sl fi)) ⟨hx, hb, hml, hown, hts⟩ (c_X0_isComplete l D o y _ rE12 rL13 rP14 rF15 rS16 rD17 ) (cwV 0 hts gX6_textError_X0_isComplete rfl rfl rfl hd_X0_isComplete ⟨Nat.le_of_ble_eq_true rfl, Nat.le_of_ble_eq_true rfl⟩) hK hP hD hS hA [7] [0, 1, 2, 3, 4, 5, 6, 8, 9, 10, 11] [0, 1, 2, 3, 4, 5, 6, 11, 7, 8, 9, 10] rfl rfl rfl (by decide) rfl rfl rfl 0 (ci := 0) rfl rfl rfl hl.1 rfl (Nat.le_of_ble_eq_true rfl) dX6_textError_50 ⟨Nat.le_of_ble_eq_true rfl, Nat.le_of_ble_eq_true rfl⟩ (fun H locs hP hD hS => ?_)
    have J21 : ∀ (v22 : Int32) (H : Heap) (locs : List Loc) (ls : Array Slot), v22 = (if (F_X0_isComplete rE12 rD17) = (0 : Int32) then (F_X1_length le) else (-1 : Int32)) → va_P D vwCl (XW o y pl te be cn ch le rE12 rL13 rP14 rF15 rS16 rD17 hs ho hc sl fi) H → va_S A s.heap H locs → lv_has ls 2 [(0, .ref (o 0))] → W p l e rm_X6_textError s m args below meth c H locs 0 0 Q (F0 m 67 ls [.int v22]) := by
      intro v22 H locs ls ev22 hP hS hl
      subst ev22
      cases h
      exact hE _ _ _ _ dX6_textError_67 hP hD hS
    refine lv_if_eq (tgt := 60) hx hb dX6_textError_53 (by decide) (fun c23 => ?_) (fun c23 => ?_)
    · refine lv_aload_n hx hb dX6_textError_60 rfl (lv_at hl 0 rfl) ?_
      refine va_get (D := D) (ci := 4) (C := RX6) (T := TX6) (N := 7) hx hb hts hinRX6 hown hK hP 0 rfl rfl 2 (by decide) q1 (fun _ h9 => h9) rfl dX6_textError_61 ?_
      refine cV_i (As := []) (rest := []) (ws1 := (XW o y pl te be cn ch le rE12 rL13 rP14 rF15 rS16 rD17 hs ho hc sl fi)) ⟨hx, hb, hml, hown, hts⟩ (c_X1_length l D o y _ ch le ) (cwV 0 hts gX6_textError_X1_length rfl rfl rfl hd_X1_length ⟨Nat.le_of_ble_eq_true rfl, Nat.le_of_ble_eq_true rfl⟩) hK hP hD hS hA [5, 6] [0, 1, 2, 3, 4, 7, 8, 9, 10, 11] [0, 1, 2, 3, 4, 10, 11, 5, 6, 7, 8, 9] rfl rfl rfl (by decide) rfl rfl rfl 0 (ci := 1) rfl rfl rfl hl.1 rfl (Nat.le_of_ble_eq_true rfl) dX6_textError_64 ⟨Nat.le_of_ble_eq_true rfl, Nat.le_of_ble_eq_true rfl⟩ (fun H locs hP hD hS => ?_)
      exact J21 _ _ _ _ (by rw [if_pos c23]) hP hS (lv_sub hl [0] rfl)
    · refine lv_iconst (v := (-1 : Int32)) hx hb dX6_textError_56 (by decide) ?_
      refine lv_goto (tgt := 67) hx hb dX6_textError_57 (by decide) ?_
      exact J21 _ _ _ _ (by rw [if_neg c23]) hP hS (lv_sub hl [0] rfl)
  have LP24 : ∀ (n : Nat) (x3 : Int32) (rE4 : Int32) (rL5 : Int32) (rP6 : Int32) (rF7 : Int32) (rS8 : Int32) (rD9 : Int32) (H : Heap) (locs : List Loc) (ls : Array Slot), L_X6_textError_9 n x3 ch le rE4 rL5 rP6 rF7 rS8 rD9 = some (t10, v11, rE12, rL13, rP14, rF15, rS16, rD17) → va_P D vwCl (XW o y pl te be cn ch le rE4 rL5 rP6 rF7 rS8 rD9 hs ho hc sl fi) H → va_D A (XW o y pl te be cn ch le rE4 rL5 rP6 rF7 rS8 rD9 hs ho hc sl fi) → va_S A s.heap H locs → lv_has ls 2 [(0, .ref (o 0)), (1, .int x3)] → W p l e rm_X6_textError s m args below meth c H locs 0 0 Q (F0 m 9 ls []) := by
    intro n
    induction n with
    | zero => intro x3 rE4 rL5 rP6 rF7 rS8 rD9 H locs ls h hP hD hS hl; exact fN h
    | succ n ih =>
      intro x3 rE4 rL5 rP6 rF7 rS8 rD9 H locs ls h hP hD hS hl
      replace h := (L_X6_textError_9_s n x3 ch le rE4 rL5 rP6 rF7 rS8 rD9).symm.trans h
      refine lv_iload_n hx hb dX6_textError_9 rfl (lv_at hl 1 rfl) ?_
      refine lv_aload_n hx hb dX6_textError_10 rfl (lv_at hl 0 rfl) ?_
      refine va_get (D := D) (ci := 4) (C := RX6) (T := TX6) (N := 7) hx hb hts hinRX6 hown hK hP 0 rfl rfl 2 (by decide) q1 (fun _ h9 => h9) rfl dX6_textError_11 ?_
      refine cV_i (As := []) (rest := [.int x3]) (ws1 := (XW o y pl te be cn ch le rE4 rL5 rP6 rF7 rS8 rD9 hs ho hc sl fi)) ⟨hx, hb, hml, hown, hts⟩ (c_X1_length l D o y _ ch le ) (cwV 0 hts gX6_textError_X1_length rfl rfl rfl hd_X1_length ⟨Nat.le_of_ble_eq_true rfl, Nat.le_of_ble_eq_true rfl⟩) hK hP hD hS hA [5, 6] [0, 1, 2, 3, 4, 7, 8, 9, 10, 11] [0, 1, 2, 3, 4, 10, 11, 5, 6, 7, 8, 9] rfl rfl rfl (by decide) rfl rfl rfl 0 (ci := 1) rfl rfl rfl hl.1 rfl (Nat.le_of_ble_eq_true rfl) dX6_textError_14 ⟨Nat.le_of_ble_eq_true rfl, Nat.le_of_ble_eq_true rfl⟩ (fun H locs hP hD hS => ?_)
      refine lv_icmp_ge (tgt := 46) hx hb dX6_textError_17 (by decide) (fun c25 => ?_) (fun c25 => ?_)
      · replace h := fT c25 h
        cases h
        exact J20 rfl _ _ _ hP hD hS (lv_sub hl [0] rfl)
      · replace h := fF c25 h
        refine lv_aload_n hx hb dX6_textError_20 rfl (lv_at hl 0 rfl) ?_
        refine va_get (D := D) (ci := 4) (C := RX6) (T := TX6) (N := 7) hx hb hts hinRX6 hown hK hP 0 rfl rfl 3 (by decide) q0 (fun _ h9 => h9) rfl dX6_textError_21 ?_
        refine lv_aload_n hx hb dX6_textError_24 rfl (lv_at hl 0 rfl) ?_
        refine va_get (D := D) (ci := 4) (C := RX6) (T := TX6) (N := 7) hx hb hts hinRX6 hown hK hP 0 rfl rfl 2 (by decide) q1 (fun _ h9 => h9) rfl dX6_textError_25 ?_
        refine lv_iload_n hx hb dX6_textError_28 rfl (lv_at hl 1 rfl) ?_
        obtain ⟨r26, g27, h⟩ := fB1 h
        refine cV_i (As := [.int x3]) (rest := [.ref (o 7)]) (ws1 := (XW o y pl te be cn ch le rE4 rL5 rP6 rF7 rS8 rD9 hs ho hc sl fi)) ⟨hx, hb, hml, hown, hts⟩ (c_X1_character l D o y _ ch le x3 r26 g27) (cwV 1 hts gX6_textError_X1_character rfl rfl rfl hd_X1_character ⟨Nat.le_of_ble_eq_true rfl, Nat.le_of_ble_eq_true rfl⟩) hK hP hD hS hA [5, 6] [0, 1, 2, 3, 4, 7, 8, 9, 10, 11] [0, 1, 2, 3, 4, 10, 11, 5, 6, 7, 8, 9] rfl rfl rfl (by decide) rfl rfl rfl 0 (ci := 1) rfl rfl rfl hl.1 rfl (Nat.le_of_ble_eq_true rfl) dX6_textError_29 ⟨Nat.le_of_ble_eq_true rfl, Nat.le_of_ble_eq_true rfl⟩ (fun H locs hP hD hS => ?_)
        obtain ⟨r28, rE29, rL30, rP31, rF32, rS33, rD34, g35, h⟩ := fB7 h
        refine cV_i (As := [.int r26]) (rest := []) (ws1 := (XW o y pl te be cn ch le rE29 rL30 rP31 rF32 rS33 rD34 hs ho hc sl fi)) ⟨hx, hb, hml, hown, hts⟩ (c_X0_accept l D o y _ rE4 rL5 rP6 rF7 rS8 rD9 r26 r28 rE29 rL30 rP31 rF32 rS33 rD34 g35) (cwV 1 hts gX6_textError_X0_accept rfl rfl rfl hd_X0_accept ⟨Nat.le_of_ble_eq_true rfl, Nat.le_of_ble_eq_true rfl⟩) hK hP hD hS hA [7] [0, 1, 2, 3, 4, 5, 6, 8, 9, 10, 11] [0, 1, 2, 3, 4, 5, 6, 11, 7, 8, 9, 10] rfl rfl rfl (by decide) rfl rfl rfl 0 (ci := 0) rfl rfl rfl hl.1 rfl (Nat.le_of_ble_eq_true rfl) dX6_textError_32 ⟨Nat.le_of_ble_eq_true rfl, Nat.le_of_ble_eq_true rfl⟩ (fun H locs hP hD hS => ?_)
        refine lv_if_ne (tgt := 40) hx hb dX6_textError_35 (by decide) (fun c36 => ?_) (fun c36 => ?_)
        · replace h := fF c36 h
          refine lv_iinc (v := x3 + (1 : Int32)) (lv' := [(1, .int (x3 + (1 : Int32))), (0, .ref (o 0))]) hx hb dX6_textError_40 hl (k := 1) rfl rfl (by decide) rfl (fun ls hl => ?_)
          refine lv_goto (tgt := 9) hx hb dX6_textError_43 (by decide) ?_
          exact ih (x3 + (1 : Int32)) rE29 rL30 rP31 rF32 rS33 rD34 _ _ _ h hP hD hS (lv_sub hl [1, 0] rfl)
        · replace h := fT c36 h
          cases h
          exact J19 rfl _ _ _ hP hD hS (lv_sub hl [1] rfl)
  exact LP24 FU (0 : Int32) rE1 rL rP rF rS rD _ _ _ g18 hP hD hS (lv_sub hl [1, 0] rfl)
abbrev rm_X6_putIfPossible : Room := { frames := 0, cells := 0, slots := 0, locals := 0 }
theorem hd_X6_putIfPossible : yX6_putIfPossible.cls = RX6 ∧ yX6_putIfPossible.cls ≠ "java/lang/invoke/MethodHandle" ∧ yX6_putIfPossible.cls ≠ "java/lang/invoke/VarHandle" ∧ (parseMethodDescriptor yX6_putIfPossible.desc).map (fun d => d.parameters.length) = some 2 := by decide +kernel
set_option maxHeartbeats 0 in
set_option maxRecDepth 100000 in
theorem c_X6_putIfPossible (l : Launch) (D : va_G) (o : Nat → Nat) (y : Nat → ClassId) (sz : Nat) (pl : Nat → Int64) (te : Nat → Int32) (be : Nat → Int64) (cn : Int32) (ch : Nat → Int32) (le : Int32) (rE : Int32) (rL : Int32) (rP : Int32) (rF : Int32) (rS : Int32) (rD : Int32) (hs : Nat → Int64) (ho : Int32) (hc : Int32) (sl : Nat → Int64) (fi : Nat → Int32) (a1 : Int32) (a2 : Int64) (r : Int32) (pl' : Nat → Int64) (h : F_X6_putIfPossible pl a1 a2 = some (r, pl')) : Met l yX6_putIfPossible wsX6_putIfPossible rm_X6_putIfPossible (va_Pc [.ref (o 0), .int a1, .long a2] (px D y sz (XW o y pl te be cn ch le rE rL rP rF rS rD hs ho hc sl fi))) (Qri D y sz (XW o y pl te be cn ch le rE rL rP rF rS rD hs ho hc sl fi) (XW o y pl' te be cn ch le rE rL rP rF rS rD hs ho hc sl fi) r) 0 0 (va_A (XW o y pl te be cn ch le rE rL rP rF rS rD hs ho hc sl fi) sz) := by
  refine hd_z (cc := cX6_putIfPossible) (maxL := 4) (rt := .boolean) rfl rfl (Nat.le_of_ble_eq_true rfl) ?_
  intro p e s m args below meth c A Q H locs ls hx hb hml hts hown _ hA hP hD hK hS hl hE
  have hl : lv_has ls 4 [(0, .ref (o 0)), (1, .int a1), (2, .long a2)] := hl
  have q0 := hts (.constantLong RX6 118 (-1)) (by decide +kernel)
  have q1 := hts (.fieldLink RX6 9 "SliceShares" "plates" "[J") (by decide +kernel)
  have hinRX6 : ∀ w ∈ wsX60, w ∈ wsX6_putIfPossible := by decide +kernel
  unfold F_X6_putIfPossible at h
  refine lv_lload_n hx hb dX6_putIfPossible_0 rfl (lv_at hl 2 rfl) ?_
  refine lv_ldc2 (v := (-1 : Int64)) hx hb hown q0 dX6_putIfPossible_1 ?_
  refine lx_ne (tgt := 10) hx hb dX6_putIfPossible_4 dX6_putIfPossible_5 (by decide) (fun c1 => ?_) (fun c1 => ?_)
  · replace h := fF c1 h
    refine lv_aload_n hx hb dX6_putIfPossible_10 rfl (lv_at hl 0 rfl) ?_
    refine va_get (D := D) (ci := 4) (C := RX6) (T := TX6) (N := 7) hx hb hts hinRX6 hown hK hP 0 rfl rfl 0 (by decide) q1 (fun _ h9 => h9) rfl dX6_putIfPossible_11 ?_
    refine lv_iload_n hx hb dX6_putIfPossible_14 rfl (lv_at hl 1 rfl) ?_
    refine lv_lload_n hx hb dX6_putIfPossible_15 rfl (lv_at hl 2 rfl) ?_
    obtain ⟨g2, h⟩ := fG h
    refine va_last hx hb hK hP hD hS 1 1 rfl rfl g2 dX6_putIfPossible_16 (fun H locs hP hD hS => ?_)
    have hP : va_P D vwCl (XW o y (vp_updL pl a1.toNatClampNeg a2) te be cn ch le rE rL rP rF rS rD hs ho hc sl fi) H := hP
    have hD : va_D A (XW o y (vp_updL pl a1.toNatClampNeg a2) te be cn ch le rE rL rP rF rS rD hs ho hc sl fi) := hD
    refine lv_iconst (v := (1 : Int32)) hx hb dX6_putIfPossible_17 (by decide) ?_
    cases h
    exact hE _ _ _ _ dX6_putIfPossible_18 hP hD hS (nz01 (Or.inr rfl))
  · replace h := fT c1 h
    refine lv_iconst (v := (0 : Int32)) hx hb dX6_putIfPossible_8 (by decide) ?_
    cases h
    exact hE _ _ _ _ dX6_putIfPossible_9 hP hD hS (nz01 (Or.inl rfl))
abbrev rm_X6_execute : Room := { frames := 4, cells := 0, slots := 0, locals := 97 }
theorem hd_X6_execute : yX6_execute.cls = RX6 ∧ yX6_execute.cls ≠ "java/lang/invoke/MethodHandle" ∧ yX6_execute.cls ≠ "java/lang/invoke/VarHandle" ∧ (parseMethodDescriptor yX6_execute.desc).map (fun d => d.parameters.length) = some 0 := by decide +kernel
set_option maxHeartbeats 0 in
set_option maxRecDepth 100000 in
theorem c_X6_execute (l : Launch) (D : va_G) (o : Nat → Nat) (y : Nat → ClassId) (sz : Nat) (pl : Nat → Int64) (te : Nat → Int32) (be : Nat → Int64) (cn : Int32) (ch : Nat → Int32) (le : Int32) (rE : Int32) (rL : Int32) (rP : Int32) (rF : Int32) (rS : Int32) (rD : Int32) (hs : Nat → Int64) (ho : Int32) (hc : Int32) (sl : Nat → Int64) (fi : Nat → Int32) (r : Int32) (pl' : Nat → Int64) (h : F_X6_execute pl rL rP rF rS = some (r, pl')) : Met l yX6_execute wsX6_execute rm_X6_execute (va_Pc [.ref (o 0)] (px D y sz (XW o y pl te be cn ch le rE rL rP rF rS rD hs ho hc sl fi))) (Qri D y sz (XW o y pl te be cn ch le rE rL rP rF rS rD hs ho hc sl fi) (XW o y pl' te be cn ch le rE rL rP rF rS rD hs ho hc sl fi) r) 0 0 (va_A (XW o y pl te be cn ch le rE rL rP rF rS rD hs ho hc sl fi) sz) := by
  refine hd_z (cc := cX6_execute) (maxL := 4) (rt := .boolean) rfl rfl (Nat.le_of_ble_eq_true rfl) ?_
  intro p e s m args below meth c A Q H locs ls hx hb hml hts hown _ hA hP hD hK hS hl hE
  have hl : lv_has ls 4 [(0, .ref (o 0))] := hl
  have q0 := hts (.fieldLink RX6 32 "SliceShares" "reader" "LSliceShares$CommandReader;") (by decide +kernel)
  have q1 := hts (.fieldLink RX6 9 "SliceShares" "plates" "[J") (by decide +kernel)
  have hinRX6 : ∀ w ∈ wsX60, w ∈ wsX6_execute := by decide +kernel
  unfold F_X6_execute at h
  refine lv_aload_n hx hb dX6_execute_0 rfl (lv_at hl 0 rfl) ?_
  refine va_get (D := D) (ci := 4) (C := RX6) (T := TX6) (N := 7) hx hb hts hinRX6 hown hK hP 0 rfl rfl 3 (by decide) q0 (fun _ h9 => h9) rfl dX6_execute_1 ?_
  refine cV_i (As := []) (rest := []) (ws1 := (XW o y pl te be cn ch le rE rL rP rF rS rD hs ho hc sl fi)) ⟨hx, hb, hml, hown, hts⟩ (c_X0_plate l D o y _ rE rL rP rF rS rD ) (cwV 0 hts gX6_execute_X0_plate rfl rfl rfl hd_X0_plate ⟨Nat.le_of_ble_eq_true rfl, Nat.le_of_ble_eq_true rfl⟩) hK hP hD hS hA [7] [0, 1, 2, 3, 4, 5, 6, 8, 9, 10, 11] [0, 1, 2, 3, 4, 5, 6, 11, 7, 8, 9, 10] rfl rfl rfl (by decide) rfl rfl rfl 0 (ci := 0) rfl rfl rfl hl.1 rfl (Nat.le_of_ble_eq_true rfl) dX6_execute_4 ⟨Nat.le_of_ble_eq_true rfl, Nat.le_of_ble_eq_true rfl⟩ (fun H locs hP hD hS => ?_)
  refine lv_istore_n (lv' := [(1, .int (F_X0_plate rP)), (0, .ref (o 0))]) hx hb dX6_execute_7 rfl hl (by decide) rfl (fun ls hl => ?_)
  refine lv_aload_n hx hb dX6_execute_8 rfl (lv_at hl 1 rfl) ?_
  refine va_get (D := D) (ci := 4) (C := RX6) (T := TX6) (N := 7) hx hb hts hinRX6 hown hK hP 0 rfl rfl 3 (by decide) q0 (fun _ h9 => h9) rfl dX6_execute_9 ?_
  refine cV_i (As := []) (rest := []) (ws1 := (XW o y pl te be cn ch le rE rL rP rF rS rD hs ho hc sl fi)) ⟨hx, hb, hml, hown, hts⟩ (c_X0_letter l D o y _ rE rL rP rF rS rD ) (cwV 0 hts gX6_execute_X0_letter rfl rfl rfl hd_X0_letter ⟨Nat.le_of_ble_eq_true rfl, Nat.le_of_ble_eq_true rfl⟩) hK hP hD hS hA [7] [0, 1, 2, 3, 4, 5, 6, 8, 9, 10, 11] [0, 1, 2, 3, 4, 5, 6, 11, 7, 8, 9, 10] rfl rfl rfl (by decide) rfl rfl rfl 0 (ci := 0) rfl rfl rfl hl.1 rfl (Nat.le_of_ble_eq_true rfl) dX6_execute_12 ⟨Nat.le_of_ble_eq_true rfl, Nat.le_of_ble_eq_true rfl⟩ (fun H locs hP hD hS => ?_)
  refine lv_bipush (v := (115 : Int32)) hx hb dX6_execute_15 (by decide) ?_
  refine lv_icmp_ne (tgt := 62) hx hb dX6_execute_17 (by decide) (fun c1 => ?_) (fun c1 => ?_)
  · replace h := fF c1 h
    refine lv_aload_n hx hb dX6_execute_62 rfl (lv_at hl 1 rfl) ?_
    refine va_get (D := D) (ci := 4) (C := RX6) (T := TX6) (N := 7) hx hb hts hinRX6 hown hK hP 0 rfl rfl 3 (by decide) q0 (fun _ h9 => h9) rfl dX6_execute_63 ?_
    refine cV_i (As := []) (rest := []) (ws1 := (XW o y pl te be cn ch le rE rL rP rF rS rD hs ho hc sl fi)) ⟨hx, hb, hml, hown, hts⟩ (c_X0_second l D o y _ rE rL rP rF rS rD ) (cwV 0 hts gX6_execute_X0_second rfl rfl rfl hd_X0_second ⟨Nat.le_of_ble_eq_true rfl, Nat.le_of_ble_eq_true rfl⟩) hK hP hD hS hA [7] [0, 1, 2, 3, 4, 5, 6, 8, 9, 10, 11] [0, 1, 2, 3, 4, 5, 6, 11, 7, 8, 9, 10] rfl rfl rfl (by decide) rfl rfl rfl 0 (ci := 0) rfl rfl rfl hl.1 rfl (Nat.le_of_ble_eq_true rfl) dX6_execute_66 ⟨Nat.le_of_ble_eq_true rfl, Nat.le_of_ble_eq_true rfl⟩ (fun H locs hP hD hS => ?_)
    refine lv_istore_n (lv' := [(2, .int (F_X0_second rS)), (1, .int (F_X0_plate rP)), (0, .ref (o 0))]) hx hb dX6_execute_69 rfl hl (by decide) rfl (fun ls hl => ?_)
    refine lv_iload_n hx hb dX6_execute_70 rfl (lv_at hl 1 rfl) ?_
    refine cT_i (As := [.int (F_X0_plate rP)]) (rest := []) ⟨hx, hb, hml, hown, hts⟩ (c_X6_isPlate l D y _ (F_X0_plate rP)) (va_cwS 1 hts gX6_execute_X6_isPlate rfl rfl rfl hd_X6_isPlate ⟨Nat.le_of_ble_eq_true rfl, Nat.le_of_ble_eq_true rfl⟩) hK hP hD hS hA rfl hl.1 rfl (Nat.le_of_ble_eq_true rfl) dX6_execute_71 ⟨Nat.le_of_ble_eq_true rfl, Nat.le_of_ble_eq_true rfl⟩ (fun H locs hP hD hS => ?_)
    refine lv_if_eq (tgt := 84) hx hb dX6_execute_74 (by decide) (fun c2 => ?_) (fun c2 => ?_)
    · replace h := fT c2 h
      refine lv_iconst (v := (0 : Int32)) hx hb dX6_execute_84 (by decide) ?_
      cases h
      exact hE _ _ _ _ dX6_execute_85 hP hD hS (nz01 (Or.inl rfl))
    · replace h := fF c2 h
      refine lv_iload_n hx hb dX6_execute_77 rfl (lv_at hl 0 rfl) ?_
      refine cT_i (As := [.int (F_X0_second rS)]) (rest := []) ⟨hx, hb, hml, hown, hts⟩ (c_X6_isPlate l D y _ (F_X0_second rS)) (va_cwS 1 hts gX6_execute_X6_isPlate rfl rfl rfl hd_X6_isPlate ⟨Nat.le_of_ble_eq_true rfl, Nat.le_of_ble_eq_true rfl⟩) hK hP hD hS hA rfl hl.1 rfl (Nat.le_of_ble_eq_true rfl) dX6_execute_78 ⟨Nat.le_of_ble_eq_true rfl, Nat.le_of_ble_eq_true rfl⟩ (fun H locs hP hD hS => ?_)
      refine lv_if_ne (tgt := 86) hx hb dX6_execute_81 (by decide) (fun c3 => ?_) (fun c3 => ?_)
      · replace h := fF c3 h
        refine lv_aload_n hx hb dX6_execute_86 rfl (lv_at hl 2 rfl) ?_
        refine va_get (D := D) (ci := 4) (C := RX6) (T := TX6) (N := 7) hx hb hts hinRX6 hown hK hP 0 rfl rfl 3 (by decide) q0 (fun _ h9 => h9) rfl dX6_execute_87 ?_
        refine cV_i (As := []) (rest := []) (ws1 := (XW o y pl te be cn ch le rE rL rP rF rS rD hs ho hc sl fi)) ⟨hx, hb, hml, hown, hts⟩ (c_X0_letter l D o y _ rE rL rP rF rS rD ) (cwV 0 hts gX6_execute_X0_letter rfl rfl rfl hd_X0_letter ⟨Nat.le_of_ble_eq_true rfl, Nat.le_of_ble_eq_true rfl⟩) hK hP hD hS hA [7] [0, 1, 2, 3, 4, 5, 6, 8, 9, 10, 11] [0, 1, 2, 3, 4, 5, 6, 11, 7, 8, 9, 10] rfl rfl rfl (by decide) rfl rfl rfl 0 (ci := 0) rfl rfl rfl hl.1 rfl (Nat.le_of_ble_eq_true rfl) dX6_execute_90 ⟨Nat.le_of_ble_eq_true rfl, Nat.le_of_ble_eq_true rfl⟩ (fun H locs hP hD hS => ?_)
        by_cases c4 : (F_X0_letter rL) = (42 : Int32)
        · replace h := fT c4 h
          refine lv_tableIn (off := 73) (tgt := 166) hx hb dX6_execute_93 (by rw [c4]; decide) (by rw [c4]; decide) (by rw [c4]; rfl) (by decide) ?_
          refine lv_aload_n hx hb dX6_execute_166 rfl (lv_at hl 2 rfl) ?_
          refine lv_iload_n hx hb dX6_execute_167 rfl (lv_at hl 1 rfl) ?_
          refine lv_aload_n hx hb dX6_execute_168 rfl (lv_at hl 2 rfl) ?_
          refine va_get (D := D) (ci := 4) (C := RX6) (T := TX6) (N := 7) hx hb hts hinRX6 hown hK hP 0 rfl rfl 0 (by decide) q1 (fun _ h9 => h9) rfl dX6_execute_169 ?_
          refine lv_iload_n hx hb dX6_execute_172 rfl (lv_at hl 1 rfl) ?_
          obtain ⟨g5, h⟩ := fG h
          refine va_lald hx hb hK hP 1 1 rfl rfl g5 dX6_execute_173 ?_
          refine lv_aload_n hx hb dX6_execute_174 rfl (lv_at hl 2 rfl) ?_
          refine va_get (D := D) (ci := 4) (C := RX6) (T := TX6) (N := 7) hx hb hts hinRX6 hown hK hP 0 rfl rfl 0 (by decide) q1 (fun _ h9 => h9) rfl dX6_execute_175 ?_
          refine lv_iload_n hx hb dX6_execute_178 rfl (lv_at hl 0 rfl) ?_
          obtain ⟨g6, h⟩ := fG h
          refine va_lald hx hb hK hP 1 1 rfl rfl g6 dX6_execute_179 ?_
          obtain ⟨r7, g8, h⟩ := fB1 h
          refine cT_l (As := [.long (pl (F_X0_plate rP).toNatClampNeg), .long (pl (F_X0_second rS).toNatClampNeg)]) (rest := [.int (F_X0_plate rP), .ref (o 0)]) ⟨hx, hb, hml, hown, hts⟩ (c_X3_product l D y _ (pl (F_X0_plate rP).toNatClampNeg) (pl (F_X0_second rS).toNatClampNeg) r7 g8) (va_cwS 2 hts gX6_execute_X3_product rfl rfl rfl hd_X3_product ⟨Nat.le_of_ble_eq_true rfl, Nat.le_of_ble_eq_true rfl⟩) hK hP hD hS hA rfl hl.1 rfl (Nat.le_of_ble_eq_true rfl) dX6_execute_180 ⟨Nat.le_of_ble_eq_true rfl, Nat.le_of_ble_eq_true rfl⟩ (fun H locs hP hD hS => ?_)
          obtain ⟨r9, pl10, g11, h⟩ := fB2 h
          refine cV_i (As := [.int (F_X0_plate rP), .long r7]) (rest := []) (ws1 := (XW o y pl10 te be cn ch le rE rL rP rF rS rD hs ho hc sl fi)) ⟨hx, hb, hml, hown, hts⟩ (c_X6_putIfPossible l D o y _ pl te be cn ch le rE rL rP rF rS rD hs ho hc sl fi (F_X0_plate rP) r7 r9 pl10 g11) (cwV 2 hts gX6_execute_X6_putIfPossible rfl rfl rfl hd_X6_putIfPossible ⟨Nat.le_of_ble_eq_true rfl, Nat.le_of_ble_eq_true rfl⟩) hK hP hD hS hA [0, 1, 2, 3, 4, 5, 6, 7, 8, 9, 10, 11] [] [0, 1, 2, 3, 4, 5, 6, 7, 8, 9, 10, 11] rfl rfl rfl (by decide) rfl rfl rfl 0 (ci := 4) rfl rfl rfl hl.1 rfl (Nat.le_of_ble_eq_true rfl) dX6_execute_183 ⟨Nat.le_of_ble_eq_true rfl, Nat.le_of_ble_eq_true rfl⟩ (fun H locs hP hD hS => ?_)
          obtain ⟨g12, h⟩ := fG h
          cases h
          exact hE _ _ _ _ dX6_execute_186 hP hD hS (nz01 (Classical.not_not.mp g12))
        replace h := fF c4 h
        by_cases c13 : (F_X0_letter rL) = (43 : Int32)
        · replace h := fT c13 h
          refine lv_tableIn (off := 31) (tgt := 124) hx hb dX6_execute_93 (by rw [c13]; decide) (by rw [c13]; decide) (by rw [c13]; rfl) (by decide) ?_
          refine lv_aload_n hx hb dX6_execute_124 rfl (lv_at hl 2 rfl) ?_
          refine lv_iload_n hx hb dX6_execute_125 rfl (lv_at hl 1 rfl) ?_
          refine lv_aload_n hx hb dX6_execute_126 rfl (lv_at hl 2 rfl) ?_
          refine va_get (D := D) (ci := 4) (C := RX6) (T := TX6) (N := 7) hx hb hts hinRX6 hown hK hP 0 rfl rfl 0 (by decide) q1 (fun _ h9 => h9) rfl dX6_execute_127 ?_
          refine lv_iload_n hx hb dX6_execute_130 rfl (lv_at hl 1 rfl) ?_
          obtain ⟨g14, h⟩ := fG h
          refine va_lald hx hb hK hP 1 1 rfl rfl g14 dX6_execute_131 ?_
          refine lv_aload_n hx hb dX6_execute_132 rfl (lv_at hl 2 rfl) ?_
          refine va_get (D := D) (ci := 4) (C := RX6) (T := TX6) (N := 7) hx hb hts hinRX6 hown hK hP 0 rfl rfl 0 (by decide) q1 (fun _ h9 => h9) rfl dX6_execute_133 ?_
          refine lv_iload_n hx hb dX6_execute_136 rfl (lv_at hl 0 rfl) ?_
          obtain ⟨g15, h⟩ := fG h
          refine va_lald hx hb hK hP 1 1 rfl rfl g15 dX6_execute_137 ?_
          obtain ⟨r16, g17, h⟩ := fB1 h
          refine cT_l (As := [.long (pl (F_X0_plate rP).toNatClampNeg), .long (pl (F_X0_second rS).toNatClampNeg)]) (rest := [.int (F_X0_plate rP), .ref (o 0)]) ⟨hx, hb, hml, hown, hts⟩ (c_X3_sum l D y _ (pl (F_X0_plate rP).toNatClampNeg) (pl (F_X0_second rS).toNatClampNeg) r16 g17) (va_cwS 2 hts gX6_execute_X3_sum rfl rfl rfl hd_X3_sum ⟨Nat.le_of_ble_eq_true rfl, Nat.le_of_ble_eq_true rfl⟩) hK hP hD hS hA rfl hl.1 rfl (Nat.le_of_ble_eq_true rfl) dX6_execute_138 ⟨Nat.le_of_ble_eq_true rfl, Nat.le_of_ble_eq_true rfl⟩ (fun H locs hP hD hS => ?_)
          obtain ⟨r18, pl19, g20, h⟩ := fB2 h
          refine cV_i (As := [.int (F_X0_plate rP), .long r16]) (rest := []) (ws1 := (XW o y pl19 te be cn ch le rE rL rP rF rS rD hs ho hc sl fi)) ⟨hx, hb, hml, hown, hts⟩ (c_X6_putIfPossible l D o y _ pl te be cn ch le rE rL rP rF rS rD hs ho hc sl fi (F_X0_plate rP) r16 r18 pl19 g20) (cwV 2 hts gX6_execute_X6_putIfPossible rfl rfl rfl hd_X6_putIfPossible ⟨Nat.le_of_ble_eq_true rfl, Nat.le_of_ble_eq_true rfl⟩) hK hP hD hS hA [0, 1, 2, 3, 4, 5, 6, 7, 8, 9, 10, 11] [] [0, 1, 2, 3, 4, 5, 6, 7, 8, 9, 10, 11] rfl rfl rfl (by decide) rfl rfl rfl 0 (ci := 4) rfl rfl rfl hl.1 rfl (Nat.le_of_ble_eq_true rfl) dX6_execute_141 ⟨Nat.le_of_ble_eq_true rfl, Nat.le_of_ble_eq_true rfl⟩ (fun H locs hP hD hS => ?_)
          obtain ⟨g21, h⟩ := fG h
          cases h
          exact hE _ _ _ _ dX6_execute_144 hP hD hS (nz01 (Classical.not_not.mp g21))
        replace h := fF c13 h
        by_cases c22 : (F_X0_letter rL) = (44 : Int32)
        · replace h := fT c22 h
          refine lv_tableIn (off := 94) (tgt := 187) hx hb dX6_execute_93 (by rw [c22]; decide) (by rw [c22]; decide) (by rw [c22]; rfl) (by decide) ?_
          refine lv_aload_n hx hb dX6_execute_187 rfl (lv_at hl 2 rfl) ?_
          refine lv_iload_n hx hb dX6_execute_188 rfl (lv_at hl 0 rfl) ?_
          refine lv_aload_n hx hb dX6_execute_189 rfl (lv_at hl 2 rfl) ?_
          refine va_get (D := D) (ci := 4) (C := RX6) (T := TX6) (N := 7) hx hb hts hinRX6 hown hK hP 0 rfl rfl 0 (by decide) q1 (fun _ h9 => h9) rfl dX6_execute_190 ?_
          refine lv_iload_n hx hb dX6_execute_193 rfl (lv_at hl 1 rfl) ?_
          obtain ⟨g23, h⟩ := fG h
          refine va_lald hx hb hK hP 1 1 rfl rfl g23 dX6_execute_194 ?_
          obtain ⟨r24, pl25, g26, h⟩ := fB2 h
          refine cV_i (As := [.int (F_X0_second rS), .long (pl (F_X0_plate rP).toNatClampNeg)]) (rest := []) (ws1 := (XW o y pl25 te be cn ch le rE rL rP rF rS rD hs ho hc sl fi)) ⟨hx, hb, hml, hown, hts⟩ (c_X6_putIfPossible l D o y _ pl te be cn ch le rE rL rP rF rS rD hs ho hc sl fi (F_X0_second rS) (pl (F_X0_plate rP).toNatClampNeg) r24 pl25 g26) (cwV 2 hts gX6_execute_X6_putIfPossible rfl rfl rfl hd_X6_putIfPossible ⟨Nat.le_of_ble_eq_true rfl, Nat.le_of_ble_eq_true rfl⟩) hK hP hD hS hA [0, 1, 2, 3, 4, 5, 6, 7, 8, 9, 10, 11] [] [0, 1, 2, 3, 4, 5, 6, 7, 8, 9, 10, 11] rfl rfl rfl (by decide) rfl rfl rfl 0 (ci := 4) rfl rfl rfl hl.1 rfl (Nat.le_of_ble_eq_true rfl) dX6_execute_195 ⟨Nat.le_of_ble_eq_true rfl, Nat.le_of_ble_eq_true rfl⟩ (fun H locs hP hD hS => ?_)
          obtain ⟨g27, h⟩ := fG h
          cases h
          exact hE _ _ _ _ dX6_execute_198 hP hD hS (nz01 (Classical.not_not.mp g27))
        replace h := fF c22 h
        by_cases c28 : (F_X0_letter rL) = (45 : Int32)
        · replace h := fT c28 h
          refine lv_tableIn (off := 52) (tgt := 145) hx hb dX6_execute_93 (by rw [c28]; decide) (by rw [c28]; decide) (by rw [c28]; rfl) (by decide) ?_
          refine lv_aload_n hx hb dX6_execute_145 rfl (lv_at hl 2 rfl) ?_
          refine lv_iload_n hx hb dX6_execute_146 rfl (lv_at hl 1 rfl) ?_
          refine lv_aload_n hx hb dX6_execute_147 rfl (lv_at hl 2 rfl) ?_
          refine va_get (D := D) (ci := 4) (C := RX6) (T := TX6) (N := 7) hx hb hts hinRX6 hown hK hP 0 rfl rfl 0 (by decide) q1 (fun _ h9 => h9) rfl dX6_execute_148 ?_
          refine lv_iload_n hx hb dX6_execute_151 rfl (lv_at hl 1 rfl) ?_
          obtain ⟨g29, h⟩ := fG h
          refine va_lald hx hb hK hP 1 1 rfl rfl g29 dX6_execute_152 ?_
          refine lv_aload_n hx hb dX6_execute_153 rfl (lv_at hl 2 rfl) ?_
          refine va_get (D := D) (ci := 4) (C := RX6) (T := TX6) (N := 7) hx hb hts hinRX6 hown hK hP 0 rfl rfl 0 (by decide) q1 (fun _ h9 => h9) rfl dX6_execute_154 ?_
          refine lv_iload_n hx hb dX6_execute_157 rfl (lv_at hl 0 rfl) ?_
          obtain ⟨g30, h⟩ := fG h
          refine va_lald hx hb hK hP 1 1 rfl rfl g30 dX6_execute_158 ?_
          obtain ⟨r31, g32, h⟩ := fB1 h
          refine cT_l (As := [.long (pl (F_X0_plate rP).toNatClampNeg), .long (pl (F_X0_second rS).toNatClampNeg)]) (rest := [.int (F_X0_plate rP), .ref (o 0)]) ⟨hx, hb, hml, hown, hts⟩ (c_X3_difference l D y _ (pl (F_X0_plate rP).toNatClampNeg) (pl (F_X0_second rS).toNatClampNeg) r31 g32) (va_cwS 2 hts gX6_execute_X3_difference rfl rfl rfl hd_X3_difference ⟨Nat.le_of_ble_eq_true rfl, Nat.le_of_ble_eq_true rfl⟩) hK hP hD hS hA rfl hl.1 rfl (Nat.le_of_ble_eq_true rfl) dX6_execute_159 ⟨Nat.le_of_ble_eq_true rfl, Nat.le_of_ble_eq_true rfl⟩ (fun H locs hP hD hS => ?_)
          obtain ⟨r33, pl34, g35, h⟩ := fB2 h
          refine cV_i (As := [.int (F_X0_plate rP), .long r31]) (rest := []) (ws1 := (XW o y pl34 te be cn ch le rE rL rP rF rS rD hs ho hc sl fi)) ⟨hx, hb, hml, hown, hts⟩ (c_X6_putIfPossible l D o y _ pl te be cn ch le rE rL rP rF rS rD hs ho hc sl fi (F_X0_plate rP) r31 r33 pl34 g35) (cwV 2 hts gX6_execute_X6_putIfPossible rfl rfl rfl hd_X6_putIfPossible ⟨Nat.le_of_ble_eq_true rfl, Nat.le_of_ble_eq_true rfl⟩) hK hP hD hS hA [0, 1, 2, 3, 4, 5, 6, 7, 8, 9, 10, 11] [] [0, 1, 2, 3, 4, 5, 6, 7, 8, 9, 10, 11] rfl rfl rfl (by decide) rfl rfl rfl 0 (ci := 4) rfl rfl rfl hl.1 rfl (Nat.le_of_ble_eq_true rfl) dX6_execute_162 ⟨Nat.le_of_ble_eq_true rfl, Nat.le_of_ble_eq_true rfl⟩ (fun H locs hP hD hS => ?_)
          obtain ⟨g36, h⟩ := fG h
          cases h
          exact hE _ _ _ _ dX6_execute_165 hP hD hS (nz01 (Classical.not_not.mp g36))
        replace h := fF c28 h
        refine lv_tableOut (tgt := 187) hx hb dX6_execute_93 (by have tc4 := lv_neT c4 (show (42 : Int32).toInt = 42 from by decide); have tc13 := lv_neT c13 (show (43 : Int32).toInt = 43 from by decide); have tc22 := lv_neT c22 (show (44 : Int32).toInt = 44 from by decide); have tc28 := lv_neT c28 (show (45 : Int32).toInt = 45 from by decide); omega) (by decide) ?_
        refine lv_aload_n hx hb dX6_execute_187 rfl (lv_at hl 2 rfl) ?_
        refine lv_iload_n hx hb dX6_execute_188 rfl (lv_at hl 0 rfl) ?_
        refine lv_aload_n hx hb dX6_execute_189 rfl (lv_at hl 2 rfl) ?_
        refine va_get (D := D) (ci := 4) (C := RX6) (T := TX6) (N := 7) hx hb hts hinRX6 hown hK hP 0 rfl rfl 0 (by decide) q1 (fun _ h9 => h9) rfl dX6_execute_190 ?_
        refine lv_iload_n hx hb dX6_execute_193 rfl (lv_at hl 1 rfl) ?_
        obtain ⟨g37, h⟩ := fG h
        refine va_lald hx hb hK hP 1 1 rfl rfl g37 dX6_execute_194 ?_
        obtain ⟨r38, pl39, g40, h⟩ := fB2 h
        refine cV_i (As := [.int (F_X0_second rS), .long (pl (F_X0_plate rP).toNatClampNeg)]) (rest := []) (ws1 := (XW o y pl39 te be cn ch le rE rL rP rF rS rD hs ho hc sl fi)) ⟨hx, hb, hml, hown, hts⟩ (c_X6_putIfPossible l D o y _ pl te be cn ch le rE rL rP rF rS rD hs ho hc sl fi (F_X0_second rS) (pl (F_X0_plate rP).toNatClampNeg) r38 pl39 g40) (cwV 2 hts gX6_execute_X6_putIfPossible rfl rfl rfl hd_X6_putIfPossible ⟨Nat.le_of_ble_eq_true rfl, Nat.le_of_ble_eq_true rfl⟩) hK hP hD hS hA [0, 1, 2, 3, 4, 5, 6, 7, 8, 9, 10, 11] [] [0, 1, 2, 3, 4, 5, 6, 7, 8, 9, 10, 11] rfl rfl rfl (by decide) rfl rfl rfl 0 (ci := 4) rfl rfl rfl hl.1 rfl (Nat.le_of_ble_eq_true rfl) dX6_execute_195 ⟨Nat.le_of_ble_eq_true rfl, Nat.le_of_ble_eq_true rfl⟩ (fun H locs hP hD hS => ?_)
        obtain ⟨g41, h⟩ := fG h
        cases h
        exact hE _ _ _ _ dX6_execute_198 hP hD hS (nz01 (Classical.not_not.mp g41))
      · replace h := fT c3 h
        refine lv_iconst (v := (0 : Int32)) hx hb dX6_execute_84 (by decide) ?_
        cases h
        exact hE _ _ _ _ dX6_execute_85 hP hD hS (nz01 (Or.inl rfl))
  · replace h := fT c1 h
    refine lv_aload_n hx hb dX6_execute_20 rfl (lv_at hl 1 rfl) ?_
    refine va_get (D := D) (ci := 4) (C := RX6) (T := TX6) (N := 7) hx hb hts hinRX6 hown hK hP 0 rfl rfl 3 (by decide) q0 (fun _ h9 => h9) rfl dX6_execute_21 ?_
    refine cV_i (As := []) (rest := []) (ws1 := (XW o y pl te be cn ch le rE rL rP rF rS rD hs ho hc sl fi)) ⟨hx, hb, hml, hown, hts⟩ (c_X0_first l D o y _ rE rL rP rF rS rD ) (cwV 0 hts gX6_execute_X0_first rfl rfl rfl hd_X0_first ⟨Nat.le_of_ble_eq_true rfl, Nat.le_of_ble_eq_true rfl⟩) hK hP hD hS hA [7] [0, 1, 2, 3, 4, 5, 6, 8, 9, 10, 11] [0, 1, 2, 3, 4, 5, 6, 11, 7, 8, 9, 10] rfl rfl rfl (by decide) rfl rfl rfl 0 (ci := 0) rfl rfl rfl hl.1 rfl (Nat.le_of_ble_eq_true rfl) dX6_execute_24 ⟨Nat.le_of_ble_eq_true rfl, Nat.le_of_ble_eq_true rfl⟩ (fun H locs hP hD hS => ?_)
    refine lv_i2l (v := (F_X0_first rF).toInt64) hx hb dX6_execute_27 rfl ?_
    refine lv_aload_n hx hb dX6_execute_28 rfl (lv_at hl 1 rfl) ?_
    refine va_get (D := D) (ci := 4) (C := RX6) (T := TX6) (N := 7) hx hb hts hinRX6 hown hK hP 0 rfl rfl 3 (by decide) q0 (fun _ h9 => h9) rfl dX6_execute_29 ?_
    refine cV_i (As := []) (rest := [.long ((F_X0_first rF).toInt64)]) (ws1 := (XW o y pl te be cn ch le rE rL rP rF rS rD hs ho hc sl fi)) ⟨hx, hb, hml, hown, hts⟩ (c_X0_second l D o y _ rE rL rP rF rS rD ) (cwV 0 hts gX6_execute_X0_second rfl rfl rfl hd_X0_second ⟨Nat.le_of_ble_eq_true rfl, Nat.le_of_ble_eq_true rfl⟩) hK hP hD hS hA [7] [0, 1, 2, 3, 4, 5, 6, 8, 9, 10, 11] [0, 1, 2, 3, 4, 5, 6, 11, 7, 8, 9, 10] rfl rfl rfl (by decide) rfl rfl rfl 0 (ci := 0) rfl rfl rfl hl.1 rfl (Nat.le_of_ble_eq_true rfl) dX6_execute_32 ⟨Nat.le_of_ble_eq_true rfl, Nat.le_of_ble_eq_true rfl⟩ (fun H locs hP hD hS => ?_)
    refine lv_i2l (v := (F_X0_second rS).toInt64) hx hb dX6_execute_35 rfl ?_
    obtain ⟨r42, g43, h⟩ := fB1 h
    refine cT_l (As := [.long ((F_X0_first rF).toInt64), .long ((F_X0_second rS).toInt64)]) (rest := []) ⟨hx, hb, hml, hown, hts⟩ (c_X3_inLowestTerms l D y _ ((F_X0_first rF).toInt64) ((F_X0_second rS).toInt64) r42 g43) (va_cwS 2 hts gX6_execute_X3_inLowestTerms rfl rfl rfl hd_X3_inLowestTerms ⟨Nat.le_of_ble_eq_true rfl, Nat.le_of_ble_eq_true rfl⟩) hK hP hD hS hA rfl hl.1 rfl (Nat.le_of_ble_eq_true rfl) dX6_execute_36 ⟨Nat.le_of_ble_eq_true rfl, Nat.le_of_ble_eq_true rfl⟩ (fun H locs hP hD hS => ?_)
    refine lv_lstore_n (lv' := [(2, .long r42), (1, .int (F_X0_plate rP)), (0, .ref (o 0))]) hx hb dX6_execute_39 rfl hl (by decide) rfl (fun ls hl => ?_)
    refine lv_iload_n hx hb dX6_execute_40 rfl (lv_at hl 1 rfl) ?_
    refine cT_i (As := [.int (F_X0_plate rP)]) (rest := []) ⟨hx, hb, hml, hown, hts⟩ (c_X6_isPlate l D y _ (F_X0_plate rP)) (va_cwS 1 hts gX6_execute_X6_isPlate rfl rfl rfl hd_X6_isPlate ⟨Nat.le_of_ble_eq_true rfl, Nat.le_of_ble_eq_true rfl⟩) hK hP hD hS hA rfl hl.1 rfl (Nat.le_of_ble_eq_true rfl) dX6_execute_41 ⟨Nat.le_of_ble_eq_true rfl, Nat.le_of_ble_eq_true rfl⟩ (fun H locs hP hD hS => ?_)
    refine lv_if_eq (tgt := 60) hx hb dX6_execute_44 (by decide) (fun c44 => ?_) (fun c44 => ?_)
    · replace h := fT c44 h
      refine lv_iconst (v := (0 : Int32)) hx hb dX6_execute_60 (by decide) ?_
      cases h
      exact hE _ _ _ _ dX6_execute_61 hP hD hS (nz01 (Or.inl rfl))
    · replace h := fF c44 h
      refine lv_aload_n hx hb dX6_execute_47 rfl (lv_at hl 2 rfl) ?_
      refine lv_iload_n hx hb dX6_execute_48 rfl (lv_at hl 1 rfl) ?_
      refine lv_lload_n hx hb dX6_execute_49 rfl (lv_at hl 0 rfl) ?_
      obtain ⟨r45, pl46, g47, h⟩ := fB2 h
      refine cV_i (As := [.int (F_X0_plate rP), .long r42]) (rest := []) (ws1 := (XW o y pl46 te be cn ch le rE rL rP rF rS rD hs ho hc sl fi)) ⟨hx, hb, hml, hown, hts⟩ (c_X6_putIfPossible l D o y _ pl te be cn ch le rE rL rP rF rS rD hs ho hc sl fi (F_X0_plate rP) r42 r45 pl46 g47) (cwV 2 hts gX6_execute_X6_putIfPossible rfl rfl rfl hd_X6_putIfPossible ⟨Nat.le_of_ble_eq_true rfl, Nat.le_of_ble_eq_true rfl⟩) hK hP hD hS hA [0, 1, 2, 3, 4, 5, 6, 7, 8, 9, 10, 11] [] [0, 1, 2, 3, 4, 5, 6, 7, 8, 9, 10, 11] rfl rfl rfl (by decide) rfl rfl rfl 0 (ci := 4) rfl rfl rfl hl.1 rfl (Nat.le_of_ble_eq_true rfl) dX6_execute_50 ⟨Nat.le_of_ble_eq_true rfl, Nat.le_of_ble_eq_true rfl⟩ (fun H locs hP hD hS => ?_)
      have J48 : ∀ (v49 : Int32) (ls : Array Slot), v49 = (if r45 = (0 : Int32) then (0 : Int32) else (1 : Int32)) → lv_has ls 4 [(0, .ref (o 0)), (1, .int (F_X0_plate rP)), (2, .long r42)] → W p l e rm_X6_execute s m args below meth c H locs 0 0 Q (F0 m 61 ls [.int v49]) := by
        intro v49 ls ev49 hl
        subst ev49
        cases h
        exact hE _ _ _ _ dX6_execute_61 hP hD hS (nz01 (z01 (Or.inl rfl) (Or.inr rfl)))
      refine lv_if_eq (tgt := 60) hx hb dX6_execute_53 (by decide) (fun c50 => ?_) (fun c50 => ?_)
      · refine lv_iconst (v := (0 : Int32)) hx hb dX6_execute_60 (by decide) ?_
        exact J48 _ _ (by rw [if_pos c50]) (lv_sub hl [2, 1, 0] rfl)
      · refine lv_iconst (v := (1 : Int32)) hx hb dX6_execute_56 (by decide) ?_
        refine lv_goto (tgt := 61) hx hb dX6_execute_57 (by decide) ?_
        exact J48 _ _ (by rw [if_neg c50]) (lv_sub hl [2, 1, 0] rfl)
abbrev rm_X6_executeCommands : Room := { frames := 5, cells := 0, slots := 0, locals := 120 }
theorem hd_X6_executeCommands : yX6_executeCommands.cls = RX6 ∧ yX6_executeCommands.cls ≠ "java/lang/invoke/MethodHandle" ∧ yX6_executeCommands.cls ≠ "java/lang/invoke/VarHandle" ∧ (parseMethodDescriptor yX6_executeCommands.desc).map (fun d => d.parameters.length) = some 0 := by decide +kernel
set_option maxHeartbeats 0 in
set_option maxRecDepth 100000 in
theorem c_X6_executeCommands (l : Launch) (D : va_G) (o : Nat → Nat) (y : Nat → ClassId) (sz : Nat) (pl : Nat → Int64) (te : Nat → Int32) (be : Nat → Int64) (cn : Int32) (ch : Nat → Int32) (le : Int32) (rE : Int32) (rL : Int32) (rP : Int32) (rF : Int32) (rS : Int32) (rD : Int32) (hs : Nat → Int64) (ho : Int32) (hc : Int32) (sl : Nat → Int64) (fi : Nat → Int32) (r : Int32) (pl' : Nat → Int64) (rE' : Int32) (rL' : Int32) (rP' : Int32) (rF' : Int32) (rS' : Int32) (rD' : Int32) (h : F_X6_executeCommands pl ch le rE rL rP rF rS rD = some (r, pl', rE', rL', rP', rF', rS', rD')) : Met l yX6_executeCommands wsX6_executeCommands rm_X6_executeCommands (va_Pc [.ref (o 0)] (px D y sz (XW o y pl te be cn ch le rE rL rP rF rS rD hs ho hc sl fi))) (Qri D y sz (XW o y pl te be cn ch le rE rL rP rF rS rD hs ho hc sl fi) (XW o y pl' te be cn ch le rE' rL' rP' rF' rS' rD' hs ho hc sl fi) r) 0 0 (va_A (XW o y pl te be cn ch le rE rL rP rF rS rD hs ho hc sl fi) sz) := by
  refine hd_i (cc := cX6_executeCommands) (maxL := 3) rfl rfl (Nat.le_of_ble_eq_true rfl) ?_
  intro p e s m args below meth c A Q H locs ls hx hb hml hts hown _ hA hP hD hK hS hl hE
  have hl : lv_has ls 3 [(0, .ref (o 0))] := hl
  have q0 := hts (.fieldLink RX6 32 "SliceShares" "reader" "LSliceShares$CommandReader;") (by decide +kernel)
  have q1 := hts (.fieldLink RX6 25 "SliceShares" "text" "LSliceShares$CommandText;") (by decide +kernel)
  have hinRX6 : ∀ w ∈ wsX60, w ∈ wsX6_executeCommands := by decide +kernel
  unfold F_X6_executeCommands at h
  refine lv_iconst (v := (0 : Int32)) hx hb dX6_executeCommands_0 (by decide) ?_
  refine lv_istore_n (lv' := [(1, .int (0 : Int32)), (0, .ref (o 0))]) hx hb dX6_executeCommands_1 rfl hl (by decide) rfl (fun ls hl => ?_)
  refine lv_aload_n hx hb dX6_executeCommands_2 rfl (lv_at hl 1 rfl) ?_
  refine va_get (D := D) (ci := 4) (C := RX6) (T := TX6) (N := 7) hx hb hts hinRX6 hown hK hP 0 rfl rfl 3 (by decide) q0 (fun _ h9 => h9) rfl dX6_executeCommands_3 ?_
  obtain ⟨rE1, g2, h⟩ := fB1 h
  refine cV_v (As := []) (rest := []) (ws1 := (XW o y pl te be cn ch le rE1 rL rP rF rS rD hs ho hc sl fi)) ⟨hx, hb, hml, hown, hts⟩ (c_X0_begin l D o y _ rE rL rP rF rS rD rE1 g2) (cwV 0 hts gX6_executeCommands_X0_begin rfl rfl rfl hd_X0_begin ⟨Nat.le_of_ble_eq_true rfl, Nat.le_of_ble_eq_true rfl⟩) hK hP hD hS hA [7] [0, 1, 2, 3, 4, 5, 6, 8, 9, 10, 11] [0, 1, 2, 3, 4, 5, 6, 11, 7, 8, 9, 10] rfl rfl rfl (by decide) rfl rfl rfl 0 (ci := 0) rfl rfl rfl hl.1 rfl (Nat.le_of_ble_eq_true rfl) dX6_executeCommands_6 ⟨Nat.le_of_ble_eq_true rfl, Nat.le_of_ble_eq_true rfl⟩ (fun H locs hP hD hS => ?_)
  refine lv_iconst (v := (0 : Int32)) hx hb dX6_executeCommands_9 (by decide) ?_
  refine lv_istore_n (lv' := [(2, .int (0 : Int32)), (1, .int (0 : Int32)), (0, .ref (o 0))]) hx hb dX6_executeCommands_10 rfl hl (by decide) rfl (fun ls hl => ?_)
  obtain ⟨t12, v13, pl14, rE15, rL16, rP17, rF18, rS19, rD20, g21, h⟩ := fB9 h
  have J22 : t12 = 0 → ∀ (H : Heap) (locs : List Loc) (ls : Array Slot), va_P D vwCl (XW o y pl14 te be cn ch le rE15 rL16 rP17 rF18 rS19 rD20 hs ho hc sl fi) H → va_D A (XW o y pl14 te be cn ch le rE15 rL16 rP17 rF18 rS19 rD20 hs ho hc sl fi) → va_S A s.heap H locs → lv_has ls 3 [(1, .int v13)] → W p l e rm_X6_executeCommands s m args below meth c H locs 0 0 Q (F0 m 42 ls []) := by
    intro ht H locs ls hP hD hS hl
    replace h := fT ht h
    refine lv_iload_n hx hb dX6_executeCommands_42 rfl (lv_at hl 0 rfl) ?_
    cases h
    exact hE _ _ _ _ dX6_executeCommands_43 hP hD hS
  have J23 : t12 = 1 → ∀ (H : Heap) (locs : List Loc) (ls : Array Slot), va_P D vwCl (XW o y pl14 te be cn ch le rE15 rL16 rP17 rF18 rS19 rD20 hs ho hc sl fi) H → va_D A (XW o y pl14 te be cn ch le rE15 rL16 rP17 rF18 rS19 rD20 hs ho hc sl fi) → va_S A s.heap H locs → lv_has ls 3 [(0, .ref (o 0)), (1, .int v13)] → W p l e rm_X6_executeCommands s m args below meth c H locs 0 0 Q (F0 m 69 ls []) := by
    intro ht H locs ls hP hD hS hl
    replace h := fF (show ¬ t12 = 0 by omega) h
    refine lv_aload_n hx hb dX6_executeCommands_69 rfl (lv_at hl 0 rfl) ?_
    obtain ⟨r24, pl25, g26, h⟩ := fB2 h
    refine cV_i (As := []) (rest := []) (ws1 := (XW o y pl25 te be cn ch le rE15 rL16 rP17 rF18 rS19 rD20 hs ho hc sl fi)) ⟨hx, hb, hml, hown, hts⟩ (c_X6_execute l D o y _ pl14 te be cn ch le rE15 rL16 rP17 rF18 rS19 rD20 hs ho hc sl fi r24 pl25 g26) (cwV 0 hts gX6_executeCommands_X6_execute rfl rfl rfl hd_X6_execute ⟨Nat.le_of_ble_eq_true rfl, Nat.le_of_ble_eq_true rfl⟩) hK hP hD hS hA [0, 1, 2, 3, 4, 5, 6, 7, 8, 9, 10, 11] [] [0, 1, 2, 3, 4, 5, 6, 7, 8, 9, 10, 11] rfl rfl rfl (by decide) rfl rfl rfl 0 (ci := 4) rfl rfl rfl hl.1 rfl (Nat.le_of_ble_eq_true rfl) dX6_executeCommands_70 ⟨Nat.le_of_ble_eq_true rfl, Nat.le_of_ble_eq_true rfl⟩ (fun H locs hP hD hS => ?_)
    have J27 : ∀ (v28 : Int32) (ls : Array Slot), v28 = (if r24 = (0 : Int32) then v13 else (v13 + (1 : Int32))) → lv_has ls 3 [(0, .ref (o 0)), (1, .int v13)] → W p l e rm_X6_executeCommands s m args below meth c H locs 0 0 Q (F0 m 83 ls [.int v28]) := by
      intro v28 ls ev28 hl
      subst ev28
      cases h
      exact hE _ _ _ _ dX6_executeCommands_83 hP hD hS
    refine lv_if_eq (tgt := 82) hx hb dX6_executeCommands_73 (by decide) (fun c29 => ?_) (fun c29 => ?_)
    · refine lv_iload_n hx hb dX6_executeCommands_82 rfl (lv_at hl 1 rfl) ?_
      exact J27 _ _ (by rw [if_pos c29]) (lv_sub hl [0, 1] rfl)
    · refine lv_iload_n hx hb dX6_executeCommands_76 rfl (lv_at hl 1 rfl) ?_
      refine lv_iconst (v := (1 : Int32)) hx hb dX6_executeCommands_77 (by decide) ?_
      refine lv_iadd hx hb dX6_executeCommands_78 ?_
      refine lv_goto (tgt := 83) hx hb dX6_executeCommands_79 (by decide) ?_
      exact J27 _ _ (by rw [if_neg c29]) (lv_sub hl [0, 1] rfl)
  have LP30 : ∀ (n : Nat) (x3 : Int32) (x4 : Int32) (pl5 : Nat → Int64) (rE6 : Int32) (rL7 : Int32) (rP8 : Int32) (rF9 : Int32) (rS10 : Int32) (rD11 : Int32) (H : Heap) (locs : List Loc) (ls : Array Slot), L_X6_executeCommands_11 n x3 x4 pl5 ch le rE6 rL7 rP8 rF9 rS10 rD11 = some (t12, v13, pl14, rE15, rL16, rP17, rF18, rS19, rD20) → va_P D vwCl (XW o y pl5 te be cn ch le rE6 rL7 rP8 rF9 rS10 rD11 hs ho hc sl fi) H → va_D A (XW o y pl5 te be cn ch le rE6 rL7 rP8 rF9 rS10 rD11 hs ho hc sl fi) → va_S A s.heap H locs → lv_has ls 3 [(0, .ref (o 0)), (1, .int x3), (2, .int x4)] → W p l e rm_X6_executeCommands s m args below meth c H locs 0 0 Q (F0 m 11 ls []) := by
    intro n
    induction n with
    | zero => intro x3 x4 pl5 rE6 rL7 rP8 rF9 rS10 rD11 H locs ls h hP hD hS hl; exact fN h
    | succ n ih =>
      intro x3 x4 pl5 rE6 rL7 rP8 rF9 rS10 rD11 H locs ls h hP hD hS hl
      replace h := (L_X6_executeCommands_11_s n x3 x4 pl5 ch le rE6 rL7 rP8 rF9 rS10 rD11).symm.trans h
      refine lv_iload_n hx hb dX6_executeCommands_11 rfl (lv_at hl 2 rfl) ?_
      refine lv_aload_n hx hb dX6_executeCommands_12 rfl (lv_at hl 0 rfl) ?_
      refine va_get (D := D) (ci := 4) (C := RX6) (T := TX6) (N := 7) hx hb hts hinRX6 hown hK hP 0 rfl rfl 2 (by decide) q1 (fun _ h9 => h9) rfl dX6_executeCommands_13 ?_
      refine cV_i (As := []) (rest := [.int x4]) (ws1 := (XW o y pl5 te be cn ch le rE6 rL7 rP8 rF9 rS10 rD11 hs ho hc sl fi)) ⟨hx, hb, hml, hown, hts⟩ (c_X1_length l D o y _ ch le ) (cwV 0 hts gX6_executeCommands_X1_length rfl rfl rfl hd_X1_length ⟨Nat.le_of_ble_eq_true rfl, Nat.le_of_ble_eq_true rfl⟩) hK hP hD hS hA [5, 6] [0, 1, 2, 3, 4, 7, 8, 9, 10, 11] [0, 1, 2, 3, 4, 10, 11, 5, 6, 7, 8, 9] rfl rfl rfl (by decide) rfl rfl rfl 0 (ci := 1) rfl rfl rfl hl.1 rfl (Nat.le_of_ble_eq_true rfl) dX6_executeCommands_16 ⟨Nat.le_of_ble_eq_true rfl, Nat.le_of_ble_eq_true rfl⟩ (fun H locs hP hD hS => ?_)
      refine lv_icmp_ge (tgt := 69) hx hb dX6_executeCommands_19 (by decide) (fun c31 => ?_) (fun c31 => ?_)
      · replace h := fT c31 h
        cases h
        exact J23 rfl _ _ _ hP hD hS (lv_sub hl [0, 1] rfl)
      · replace h := fF c31 h
        refine lv_aload_n hx hb dX6_executeCommands_22 rfl (lv_at hl 0 rfl) ?_
        refine va_get (D := D) (ci := 4) (C := RX6) (T := TX6) (N := 7) hx hb hts hinRX6 hown hK hP 0 rfl rfl 2 (by decide) q1 (fun _ h9 => h9) rfl dX6_executeCommands_23 ?_
        refine lv_iload_n hx hb dX6_executeCommands_26 rfl (lv_at hl 2 rfl) ?_
        obtain ⟨r32, g33, h⟩ := fB1 h
        refine cV_i (As := [.int x4]) (rest := []) (ws1 := (XW o y pl5 te be cn ch le rE6 rL7 rP8 rF9 rS10 rD11 hs ho hc sl fi)) ⟨hx, hb, hml, hown, hts⟩ (c_X1_character l D o y _ ch le x4 r32 g33) (cwV 1 hts gX6_executeCommands_X1_character rfl rfl rfl hd_X1_character ⟨Nat.le_of_ble_eq_true rfl, Nat.le_of_ble_eq_true rfl⟩) hK hP hD hS hA [5, 6] [0, 1, 2, 3, 4, 7, 8, 9, 10, 11] [0, 1, 2, 3, 4, 10, 11, 5, 6, 7, 8, 9] rfl rfl rfl (by decide) rfl rfl rfl 0 (ci := 1) rfl rfl rfl hl.1 rfl (Nat.le_of_ble_eq_true rfl) dX6_executeCommands_27 ⟨Nat.le_of_ble_eq_true rfl, Nat.le_of_ble_eq_true rfl⟩ (fun H locs hP hD hS => ?_)
        refine lv_bipush (v := (59 : Int32)) hx hb dX6_executeCommands_30 (by decide) ?_
        refine lv_icmp_ne (tgt := 47) hx hb dX6_executeCommands_32 (by decide) (fun c34 => ?_) (fun c34 => ?_)
        · replace h := fF c34 h
          refine lv_aload_n hx hb dX6_executeCommands_47 rfl (lv_at hl 0 rfl) ?_
          refine va_get (D := D) (ci := 4) (C := RX6) (T := TX6) (N := 7) hx hb hts hinRX6 hown hK hP 0 rfl rfl 3 (by decide) q0 (fun _ h9 => h9) rfl dX6_executeCommands_48 ?_
          refine lv_aload_n hx hb dX6_executeCommands_51 rfl (lv_at hl 0 rfl) ?_
          refine va_get (D := D) (ci := 4) (C := RX6) (T := TX6) (N := 7) hx hb hts hinRX6 hown hK hP 0 rfl rfl 2 (by decide) q1 (fun _ h9 => h9) rfl dX6_executeCommands_52 ?_
          refine lv_iload_n hx hb dX6_executeCommands_55 rfl (lv_at hl 2 rfl) ?_
          obtain ⟨r35, g36, h⟩ := fB1 h
          refine cV_i (As := [.int x4]) (rest := [.ref (o 7)]) (ws1 := (XW o y pl5 te be cn ch le rE6 rL7 rP8 rF9 rS10 rD11 hs ho hc sl fi)) ⟨hx, hb, hml, hown, hts⟩ (c_X1_character l D o y _ ch le x4 r35 g36) (cwV 1 hts gX6_executeCommands_X1_character rfl rfl rfl hd_X1_character ⟨Nat.le_of_ble_eq_true rfl, Nat.le_of_ble_eq_true rfl⟩) hK hP hD hS hA [5, 6] [0, 1, 2, 3, 4, 7, 8, 9, 10, 11] [0, 1, 2, 3, 4, 10, 11, 5, 6, 7, 8, 9] rfl rfl rfl (by decide) rfl rfl rfl 0 (ci := 1) rfl rfl rfl hl.1 rfl (Nat.le_of_ble_eq_true rfl) dX6_executeCommands_56 ⟨Nat.le_of_ble_eq_true rfl, Nat.le_of_ble_eq_true rfl⟩ (fun H locs hP hD hS => ?_)
          obtain ⟨r37, rE38, rL39, rP40, rF41, rS42, rD43, g44, h⟩ := fB7 h
          refine cV_i (As := [.int r35]) (rest := []) (ws1 := (XW o y pl5 te be cn ch le rE38 rL39 rP40 rF41 rS42 rD43 hs ho hc sl fi)) ⟨hx, hb, hml, hown, hts⟩ (c_X0_accept l D o y _ rE6 rL7 rP8 rF9 rS10 rD11 r35 r37 rE38 rL39 rP40 rF41 rS42 rD43 g44) (cwV 1 hts gX6_executeCommands_X0_accept rfl rfl rfl hd_X0_accept ⟨Nat.le_of_ble_eq_true rfl, Nat.le_of_ble_eq_true rfl⟩) hK hP hD hS hA [7] [0, 1, 2, 3, 4, 5, 6, 8, 9, 10, 11] [0, 1, 2, 3, 4, 5, 6, 11, 7, 8, 9, 10] rfl rfl rfl (by decide) rfl rfl rfl 0 (ci := 0) rfl rfl rfl hl.1 rfl (Nat.le_of_ble_eq_true rfl) dX6_executeCommands_59 ⟨Nat.le_of_ble_eq_true rfl, Nat.le_of_ble_eq_true rfl⟩ (fun H locs hP hD hS => ?_)
          refine lv_pop hx hb dX6_executeCommands_62 rfl ?_
          refine lv_iinc (v := x4 + (1 : Int32)) (lv' := [(2, .int (x4 + (1 : Int32))), (0, .ref (o 0)), (1, .int x3)]) hx hb dX6_executeCommands_63 hl (k := 2) rfl rfl (by decide) rfl (fun ls hl => ?_)
          refine lv_goto (tgt := 11) hx hb dX6_executeCommands_66 (by decide) ?_
          exact ih x3 (x4 + (1 : Int32)) pl5 rE38 rL39 rP40 rF41 rS42 rD43 _ _ _ h hP hD hS (lv_sub hl [1, 2, 0] rfl)
        · replace h := fT c34 h
          refine lv_aload_n hx hb dX6_executeCommands_35 rfl (lv_at hl 0 rfl) ?_
          obtain ⟨r45, pl46, g47, h⟩ := fB2 h
          refine cV_i (As := []) (rest := []) (ws1 := (XW o y pl46 te be cn ch le rE6 rL7 rP8 rF9 rS10 rD11 hs ho hc sl fi)) ⟨hx, hb, hml, hown, hts⟩ (c_X6_execute l D o y _ pl5 te be cn ch le rE6 rL7 rP8 rF9 rS10 rD11 hs ho hc sl fi r45 pl46 g47) (cwV 0 hts gX6_executeCommands_X6_execute rfl rfl rfl hd_X6_execute ⟨Nat.le_of_ble_eq_true rfl, Nat.le_of_ble_eq_true rfl⟩) hK hP hD hS hA [0, 1, 2, 3, 4, 5, 6, 7, 8, 9, 10, 11] [] [0, 1, 2, 3, 4, 5, 6, 7, 8, 9, 10, 11] rfl rfl rfl (by decide) rfl rfl rfl 0 (ci := 4) rfl rfl rfl hl.1 rfl (Nat.le_of_ble_eq_true rfl) dX6_executeCommands_36 ⟨Nat.le_of_ble_eq_true rfl, Nat.le_of_ble_eq_true rfl⟩ (fun H locs hP hD hS => ?_)
          refine lv_if_ne (tgt := 44) hx hb dX6_executeCommands_39 (by decide) (fun c48 => ?_) (fun c48 => ?_)
          · replace h := fF c48 h
            refine lv_iinc (v := x3 + (1 : Int32)) (lv' := [(1, .int (x3 + (1 : Int32))), (0, .ref (o 0)), (2, .int x4)]) hx hb dX6_executeCommands_44 hl (k := 1) rfl rfl (by decide) rfl (fun ls hl => ?_)
            refine lv_aload_n hx hb dX6_executeCommands_47 rfl (lv_at hl 1 rfl) ?_
            refine va_get (D := D) (ci := 4) (C := RX6) (T := TX6) (N := 7) hx hb hts hinRX6 hown hK hP 0 rfl rfl 3 (by decide) q0 (fun _ h9 => h9) rfl dX6_executeCommands_48 ?_
            refine lv_aload_n hx hb dX6_executeCommands_51 rfl (lv_at hl 1 rfl) ?_
            refine va_get (D := D) (ci := 4) (C := RX6) (T := TX6) (N := 7) hx hb hts hinRX6 hown hK hP 0 rfl rfl 2 (by decide) q1 (fun _ h9 => h9) rfl dX6_executeCommands_52 ?_
            refine lv_iload_n hx hb dX6_executeCommands_55 rfl (lv_at hl 2 rfl) ?_
            obtain ⟨r49, g50, h⟩ := fB1 h
            refine cV_i (As := [.int x4]) (rest := [.ref (o 7)]) (ws1 := (XW o y pl46 te be cn ch le rE6 rL7 rP8 rF9 rS10 rD11 hs ho hc sl fi)) ⟨hx, hb, hml, hown, hts⟩ (c_X1_character l D o y _ ch le x4 r49 g50) (cwV 1 hts gX6_executeCommands_X1_character rfl rfl rfl hd_X1_character ⟨Nat.le_of_ble_eq_true rfl, Nat.le_of_ble_eq_true rfl⟩) hK hP hD hS hA [5, 6] [0, 1, 2, 3, 4, 7, 8, 9, 10, 11] [0, 1, 2, 3, 4, 10, 11, 5, 6, 7, 8, 9] rfl rfl rfl (by decide) rfl rfl rfl 0 (ci := 1) rfl rfl rfl hl.1 rfl (Nat.le_of_ble_eq_true rfl) dX6_executeCommands_56 ⟨Nat.le_of_ble_eq_true rfl, Nat.le_of_ble_eq_true rfl⟩ (fun H locs hP hD hS => ?_)
            obtain ⟨r51, rE52, rL53, rP54, rF55, rS56, rD57, g58, h⟩ := fB7 h
            refine cV_i (As := [.int r49]) (rest := []) (ws1 := (XW o y pl46 te be cn ch le rE52 rL53 rP54 rF55 rS56 rD57 hs ho hc sl fi)) ⟨hx, hb, hml, hown, hts⟩ (c_X0_accept l D o y _ rE6 rL7 rP8 rF9 rS10 rD11 r49 r51 rE52 rL53 rP54 rF55 rS56 rD57 g58) (cwV 1 hts gX6_executeCommands_X0_accept rfl rfl rfl hd_X0_accept ⟨Nat.le_of_ble_eq_true rfl, Nat.le_of_ble_eq_true rfl⟩) hK hP hD hS hA [7] [0, 1, 2, 3, 4, 5, 6, 8, 9, 10, 11] [0, 1, 2, 3, 4, 5, 6, 11, 7, 8, 9, 10] rfl rfl rfl (by decide) rfl rfl rfl 0 (ci := 0) rfl rfl rfl hl.1 rfl (Nat.le_of_ble_eq_true rfl) dX6_executeCommands_59 ⟨Nat.le_of_ble_eq_true rfl, Nat.le_of_ble_eq_true rfl⟩ (fun H locs hP hD hS => ?_)
            refine lv_pop hx hb dX6_executeCommands_62 rfl ?_
            refine lv_iinc (v := x4 + (1 : Int32)) (lv' := [(2, .int (x4 + (1 : Int32))), (1, .int (x3 + (1 : Int32))), (0, .ref (o 0))]) hx hb dX6_executeCommands_63 hl (k := 2) rfl rfl (by decide) rfl (fun ls hl => ?_)
            refine lv_goto (tgt := 11) hx hb dX6_executeCommands_66 (by decide) ?_
            exact ih (x3 + (1 : Int32)) (x4 + (1 : Int32)) pl46 rE52 rL53 rP54 rF55 rS56 rD57 _ _ _ h hP hD hS (lv_sub hl [2, 1, 0] rfl)
          · replace h := fT c48 h
            cases h
            exact J22 rfl _ _ _ hP hD hS (lv_sub hl [1] rfl)
  exact LP30 FU (0 : Int32) (0 : Int32) pl rE1 rL rP rF rS rD _ _ _ g21 hP hD hS (lv_sub hl [2, 1, 0] rfl)
abbrev rm_X6_runText : Room := { frames := 6, cells := 0, slots := 0, locals := 142 }
theorem hd_X6_runText : yX6_runText.cls = RX6 ∧ yX6_runText.cls ≠ "java/lang/invoke/MethodHandle" ∧ yX6_runText.cls ≠ "java/lang/invoke/VarHandle" ∧ (parseMethodDescriptor yX6_runText.desc).map (fun d => d.parameters.length) = some 0 := by decide +kernel
set_option maxHeartbeats 0 in
set_option maxRecDepth 100000 in
theorem c_X6_runText (l : Launch) (D : va_G) (o : Nat → Nat) (y : Nat → ClassId) (sz : Nat) (pl : Nat → Int64) (te : Nat → Int32) (be : Nat → Int64) (cn : Int32) (ch : Nat → Int32) (le : Int32) (rE : Int32) (rL : Int32) (rP : Int32) (rF : Int32) (rS : Int32) (rD : Int32) (hs : Nat → Int64) (ho : Int32) (hc : Int32) (sl : Nat → Int64) (fi : Nat → Int32) (r : Int32) (pl' : Nat → Int64) (le' : Int32) (rE' : Int32) (rL' : Int32) (rP' : Int32) (rF' : Int32) (rS' : Int32) (rD' : Int32) (hs' : Nat → Int64) (ho' : Int32) (hc' : Int32) (h : F_X6_runText pl ch le rE rL rP rF rS rD hs ho hc = some (0, r, pl', le', rE', rL', rP', rF', rS', rD', hs', ho', hc')) : Met l yX6_runText wsX6_runText rm_X6_runText (va_Pc [.ref (o 0)] (px D y sz (XW o y pl te be cn ch le rE rL rP rF rS rD hs ho hc sl fi))) (Qri D y sz (XW o y pl te be cn ch le rE rL rP rF rS rD hs ho hc sl fi) (XW o y pl' te be cn ch le' rE' rL' rP' rF' rS' rD' hs' ho' hc' sl fi) r) 0 0 (va_A (XW o y pl te be cn ch le rE rL rP rF rS rD hs ho hc sl fi) sz) := by
  refine hd_i (cc := cX6_runText) (maxL := 2) rfl rfl (Nat.le_of_ble_eq_true rfl) ?_
  intro p e s m args below meth c A Q H locs ls hx hb hml hts hown _ hA hP hD hK hS hl hE
  have hl : lv_has ls 2 [(0, .ref (o 0))] := hl
  have q0 := hts (.fieldLink RX6 39 "SliceShares" "history" "LSliceShares$History;") (by decide +kernel)
  have q1 := hts (.fieldLink RX6 9 "SliceShares" "plates" "[J") (by decide +kernel)
  have q2 := hts (.fieldLink RX6 25 "SliceShares" "text" "LSliceShares$CommandText;") (by decide +kernel)
  have hinRX6 : ∀ w ∈ wsX60, w ∈ wsX6_runText := by decide +kernel
  unfold F_X6_runText at h
  refine lv_aload_n hx hb dX6_runText_0 rfl (lv_at hl 0 rfl) ?_
  obtain ⟨r1, rE2, rL3, rP4, rF5, rS6, rD7, g8, h⟩ := fB7 h
  refine cV_i (As := []) (rest := []) (ws1 := (XW o y pl te be cn ch le rE2 rL3 rP4 rF5 rS6 rD7 hs ho hc sl fi)) ⟨hx, hb, hml, hown, hts⟩ (c_X6_textError l D o y _ pl te be cn ch le rE rL rP rF rS rD hs ho hc sl fi r1 rE2 rL3 rP4 rF5 rS6 rD7 g8) (cwV 0 hts gX6_runText_X6_textError rfl rfl rfl hd_X6_textError ⟨Nat.le_of_ble_eq_true rfl, Nat.le_of_ble_eq_true rfl⟩) hK hP hD hS hA [0, 1, 2, 3, 4, 5, 6, 7, 8, 9, 10, 11] [] [0, 1, 2, 3, 4, 5, 6, 7, 8, 9, 10, 11] rfl rfl rfl (by decide) rfl rfl rfl 0 (ci := 4) rfl rfl rfl hl.1 rfl (Nat.le_of_ble_eq_true rfl) dX6_runText_1 ⟨Nat.le_of_ble_eq_true rfl, Nat.le_of_ble_eq_true rfl⟩ (fun H locs hP hD hS => ?_)
  refine lv_iconst (v := (-1 : Int32)) hx hb dX6_runText_4 (by decide) ?_
  refine lv_icmp_eq (tgt := 18) hx hb dX6_runText_5 (by decide) (fun c9 => ?_) (fun c9 => ?_)
  · replace h := fT c9 h
    refine lv_aload_n hx hb dX6_runText_18 rfl (lv_at hl 0 rfl) ?_
    refine va_get (D := D) (ci := 4) (C := RX6) (T := TX6) (N := 7) hx hb hts hinRX6 hown hK hP 0 rfl rfl 4 (by decide) q0 (fun _ h9 => h9) rfl dX6_runText_19 ?_
    refine lv_aload_n hx hb dX6_runText_22 rfl (lv_at hl 0 rfl) ?_
    refine va_get (D := D) (ci := 4) (C := RX6) (T := TX6) (N := 7) hx hb hts hinRX6 hown hK hP 0 rfl rfl 0 (by decide) q1 (fun _ h9 => h9) rfl dX6_runText_23 ?_
    obtain ⟨hs10, ho11, hc12, g13, h⟩ := fB3 h
    refine cV_v (As := [.ref (o 1)]) (rest := []) (ws1 := (XW o y pl te be cn ch le rE2 rL3 rP4 rF5 rS6 rD7 hs10 ho11 hc12 sl fi)) ⟨hx, hb, hml, hown, hts⟩ (c_X4_record l D o y _ pl hs ho hc hs10 ho11 hc12 g13) (cwV 1 hts gX6_runText_X4_record rfl rfl rfl hd_X4_record ⟨Nat.le_of_ble_eq_true rfl, Nat.le_of_ble_eq_true rfl⟩) hK hP hD hS hA [8, 9, 1] [0, 2, 3, 4, 5, 6, 7, 10, 11] [0, 11, 1, 2, 3, 4, 5, 6, 9, 10, 7, 8] rfl rfl rfl (by decide) rfl rfl rfl 0 (ci := 3) rfl rfl rfl hl.1 rfl (Nat.le_of_ble_eq_true rfl) dX6_runText_26 ⟨Nat.le_of_ble_eq_true rfl, Nat.le_of_ble_eq_true rfl⟩ (fun H locs hP hD hS => ?_)
    refine lv_aload_n hx hb dX6_runText_29 rfl (lv_at hl 0 rfl) ?_
    obtain ⟨r14, pl15, rE16, rL17, rP18, rF19, rS20, rD21, g22, h⟩ := fB8 h
    refine cV_i (As := []) (rest := []) (ws1 := (XW o y pl15 te be cn ch le rE16 rL17 rP18 rF19 rS20 rD21 hs10 ho11 hc12 sl fi)) ⟨hx, hb, hml, hown, hts⟩ (c_X6_executeCommands l D o y _ pl te be cn ch le rE2 rL3 rP4 rF5 rS6 rD7 hs10 ho11 hc12 sl fi r14 pl15 rE16 rL17 rP18 rF19 rS20 rD21 g22) (cwV 0 hts gX6_runText_X6_executeCommands rfl rfl rfl hd_X6_executeCommands ⟨Nat.le_of_ble_eq_true rfl, Nat.le_of_ble_eq_true rfl⟩) hK hP hD hS hA [0, 1, 2, 3, 4, 5, 6, 7, 8, 9, 10, 11] [] [0, 1, 2, 3, 4, 5, 6, 7, 8, 9, 10, 11] rfl rfl rfl (by decide) rfl rfl rfl 0 (ci := 4) rfl rfl rfl hl.1 rfl (Nat.le_of_ble_eq_true rfl) dX6_runText_30 ⟨Nat.le_of_ble_eq_true rfl, Nat.le_of_ble_eq_true rfl⟩ (fun H locs hP hD hS => ?_)
    refine lv_istore_n (lv' := [(1, .int r14), (0, .ref (o 0))]) hx hb dX6_runText_33 rfl hl (by decide) rfl (fun ls hl => ?_)
    refine lv_aload_n hx hb dX6_runText_34 rfl (lv_at hl 1 rfl) ?_
    refine va_get (D := D) (ci := 4) (C := RX6) (T := TX6) (N := 7) hx hb hts hinRX6 hown hK hP 0 rfl rfl 2 (by decide) q2 (fun _ h9 => h9) rfl dX6_runText_35 ?_
    obtain ⟨le23, g24, h⟩ := fB1 h
    refine cV_v (As := []) (rest := []) (ws1 := (XW o y pl15 te be cn ch le23 rE16 rL17 rP18 rF19 rS20 rD21 hs10 ho11 hc12 sl fi)) ⟨hx, hb, hml, hown, hts⟩ (c_X1_empty l D o y _ ch le le23 g24) (cwV 0 hts gX6_runText_X1_empty rfl rfl rfl hd_X1_empty ⟨Nat.le_of_ble_eq_true rfl, Nat.le_of_ble_eq_true rfl⟩) hK hP hD hS hA [5, 6] [0, 1, 2, 3, 4, 7, 8, 9, 10, 11] [0, 1, 2, 3, 4, 10, 11, 5, 6, 7, 8, 9] rfl rfl rfl (by decide) rfl rfl rfl 0 (ci := 1) rfl rfl rfl hl.1 rfl (Nat.le_of_ble_eq_true rfl) dX6_runText_38 ⟨Nat.le_of_ble_eq_true rfl, Nat.le_of_ble_eq_true rfl⟩ (fun H locs hP hD hS => ?_)
    refine lv_iload_n hx hb dX6_runText_41 rfl (lv_at hl 0 rfl) ?_
    cases h
    exact hE _ _ _ _ dX6_runText_42 hP hD hS
  · replace h := fF c9 h
    exact fX (show ¬ (3 : Nat) = 0 by decide) h
abbrev xrm_X6_runText : Room := { frames := 6, cells := 1, slots := 6, locals := 142 }
set_option maxHeartbeats 0 in
set_option maxRecDepth 100000 in
theorem x_X6_runText (l : Launch) (hfl : l.stackTraces = false) (D : va_G) (o : Nat → Nat) (y : Nat → ClassId) (sz : Nat) (pl : Nat → Int64) (te : Nat → Int32) (be : Nat → Int64) (cn : Int32) (ch : Nat → Int32) (le : Int32) (rE : Int32) (rL : Int32) (rP : Int32) (rF : Int32) (rS : Int32) (rD : Int32) (hs : Nat → Int64) (ho : Int32) (hc : Int32) (sl : Nat → Int64) (fi : Nat → Int32) (k : Nat) (r : Int32) (pl' : Nat → Int64) (le' : Int32) (rE' : Int32) (rL' : Int32) (rP' : Int32) (rF' : Int32) (rS' : Int32) (rD' : Int32) (hs' : Nat → Int64) (ho' : Int32) (hc' : Int32) (hkx : ¬ k = 0) (h : F_X6_runText pl ch le rE rL rP rF rS rD hs ho hc = some (k, r, pl', le', rE', rL', rP', rF', rS', rD', hs', ho', hc')) : vx_Met l yX6_runText wsX6_runText xrm_X6_runText (va_Pc [.ref (o 0)] (pxe D y sz (XW o y pl te be cn ch le rE rL rP rF rS rD hs ho hc sl fi))) (QNo (XW o y pl te be cn ch le rE rL rP rF rS rD hs ho hc sl fi) sz) (QX D y sz (XW o y pl te be cn ch le rE rL rP rF rS rD hs ho hc sl fi) (XW o y pl' te be cn ch le' rE' rL' rP' rF' rS' rD' hs' ho' hc' sl fi) k) 1 6 (va_A (XW o y pl te be cn ch le rE rL rP rF rS rD hs ho hc sl fi) sz) := by
  refine hd_x (cc := cX6_runText) (maxL := 2) rfl rfl (Nat.le_of_ble_eq_true rfl) ?_
  intro p e s m args below meth c A Q H locs ls hx hb hml hts hown hA hP hD hK hS hl hEX hlocks hout hQ hAe
  have hl : lv_has ls 2 [(0, .ref (o 0))] := hl
  have q0 := hts (.fieldLink RX6 39 "SliceShares" "history" "LSliceShares$History;") (by decide +kernel)
  have q1 := hts (.fieldLink RX6 9 "SliceShares" "plates" "[J") (by decide +kernel)
  have q2 := hts (.fieldLink RX6 25 "SliceShares" "text" "LSliceShares$CommandText;") (by decide +kernel)
  have q3 := hts (.classLink RX6 176 "java/lang/IllegalStateException") (by decide +kernel)
  have q4 := hts (.initialized "java/lang/IllegalStateException") (by decide +kernel)
  have hinRX6 : ∀ w ∈ wsX60, w ∈ wsX6_runText := by decide +kernel
  unfold F_X6_runText at h
  refine lv_aload_n hx hb dX6_runText_0 rfl (lv_at hl 0 rfl) ?_
  obtain ⟨r1, rE2, rL3, rP4, rF5, rS6, rD7, g8, h⟩ := fB7 h
  refine cV_i (As := []) (rest := []) (ws1 := (XW o y pl te be cn ch le rE2 rL3 rP4 rF5 rS6 rD7 hs ho hc sl fi)) ⟨hx, hb, hml, hown, hts⟩ (c_X6_textError l D o y _ pl te be cn ch le rE rL rP rF rS rD hs ho hc sl fi r1 rE2 rL3 rP4 rF5 rS6 rD7 g8) (cwV 0 hts gX6_runText_X6_textError rfl rfl rfl hd_X6_textError ⟨Nat.le_of_ble_eq_true rfl, Nat.le_of_ble_eq_true rfl⟩) hK hP hD hS hA [0, 1, 2, 3, 4, 5, 6, 7, 8, 9, 10, 11] [] [0, 1, 2, 3, 4, 5, 6, 7, 8, 9, 10, 11] rfl rfl rfl (by decide) rfl rfl rfl 0 (ci := 4) rfl rfl rfl hl.1 rfl (Nat.le_of_ble_eq_true rfl) dX6_runText_1 ⟨Nat.le_of_ble_eq_true rfl, Nat.le_of_ble_eq_true rfl⟩ (fun H locs hP hD hS => ?_)
  refine lv_iconst (v := (-1 : Int32)) hx hb dX6_runText_4 (by decide) ?_
  refine lv_icmp_eq (tgt := 18) hx hb dX6_runText_5 (by decide) (fun c9 => ?_) (fun c9 => ?_)
  · replace h := fT c9 h
    refine lv_aload_n hx hb dX6_runText_18 rfl (lv_at hl 0 rfl) ?_
    refine va_get (D := D) (ci := 4) (C := RX6) (T := TX6) (N := 7) hx hb hts hinRX6 hown hK hP 0 rfl rfl 4 (by decide) q0 (fun _ h9 => h9) rfl dX6_runText_19 ?_
    refine lv_aload_n hx hb dX6_runText_22 rfl (lv_at hl 0 rfl) ?_
    refine va_get (D := D) (ci := 4) (C := RX6) (T := TX6) (N := 7) hx hb hts hinRX6 hown hK hP 0 rfl rfl 0 (by decide) q1 (fun _ h9 => h9) rfl dX6_runText_23 ?_
    obtain ⟨hs10, ho11, hc12, g13, h⟩ := fB3 h
    refine cV_v (As := [.ref (o 1)]) (rest := []) (ws1 := (XW o y pl te be cn ch le rE2 rL3 rP4 rF5 rS6 rD7 hs10 ho11 hc12 sl fi)) ⟨hx, hb, hml, hown, hts⟩ (c_X4_record l D o y _ pl hs ho hc hs10 ho11 hc12 g13) (cwV 1 hts gX6_runText_X4_record rfl rfl rfl hd_X4_record ⟨Nat.le_of_ble_eq_true rfl, Nat.le_of_ble_eq_true rfl⟩) hK hP hD hS hA [8, 9, 1] [0, 2, 3, 4, 5, 6, 7, 10, 11] [0, 11, 1, 2, 3, 4, 5, 6, 9, 10, 7, 8] rfl rfl rfl (by decide) rfl rfl rfl 0 (ci := 3) rfl rfl rfl hl.1 rfl (Nat.le_of_ble_eq_true rfl) dX6_runText_26 ⟨Nat.le_of_ble_eq_true rfl, Nat.le_of_ble_eq_true rfl⟩ (fun H locs hP hD hS => ?_)
    refine lv_aload_n hx hb dX6_runText_29 rfl (lv_at hl 0 rfl) ?_
    obtain ⟨r14, pl15, rE16, rL17, rP18, rF19, rS20, rD21, g22, h⟩ := fB8 h
    refine cV_i (As := []) (rest := []) (ws1 := (XW o y pl15 te be cn ch le rE16 rL17 rP18 rF19 rS20 rD21 hs10 ho11 hc12 sl fi)) ⟨hx, hb, hml, hown, hts⟩ (c_X6_executeCommands l D o y _ pl te be cn ch le rE2 rL3 rP4 rF5 rS6 rD7 hs10 ho11 hc12 sl fi r14 pl15 rE16 rL17 rP18 rF19 rS20 rD21 g22) (cwV 0 hts gX6_runText_X6_executeCommands rfl rfl rfl hd_X6_executeCommands ⟨Nat.le_of_ble_eq_true rfl, Nat.le_of_ble_eq_true rfl⟩) hK hP hD hS hA [0, 1, 2, 3, 4, 5, 6, 7, 8, 9, 10, 11] [] [0, 1, 2, 3, 4, 5, 6, 7, 8, 9, 10, 11] rfl rfl rfl (by decide) rfl rfl rfl 0 (ci := 4) rfl rfl rfl hl.1 rfl (Nat.le_of_ble_eq_true rfl) dX6_runText_30 ⟨Nat.le_of_ble_eq_true rfl, Nat.le_of_ble_eq_true rfl⟩ (fun H locs hP hD hS => ?_)
    refine lv_istore_n (lv' := [(1, .int r14), (0, .ref (o 0))]) hx hb dX6_runText_33 rfl hl (by decide) rfl (fun ls hl => ?_)
    refine lv_aload_n hx hb dX6_runText_34 rfl (lv_at hl 1 rfl) ?_
    refine va_get (D := D) (ci := 4) (C := RX6) (T := TX6) (N := 7) hx hb hts hinRX6 hown hK hP 0 rfl rfl 2 (by decide) q2 (fun _ h9 => h9) rfl dX6_runText_35 ?_
    obtain ⟨le23, g24, h⟩ := fB1 h
    refine cV_v (As := []) (rest := []) (ws1 := (XW o y pl15 te be cn ch le23 rE16 rL17 rP18 rF19 rS20 rD21 hs10 ho11 hc12 sl fi)) ⟨hx, hb, hml, hown, hts⟩ (c_X1_empty l D o y _ ch le le23 g24) (cwV 0 hts gX6_runText_X1_empty rfl rfl rfl hd_X1_empty ⟨Nat.le_of_ble_eq_true rfl, Nat.le_of_ble_eq_true rfl⟩) hK hP hD hS hA [5, 6] [0, 1, 2, 3, 4, 7, 8, 9, 10, 11] [0, 1, 2, 3, 4, 10, 11, 5, 6, 7, 8, 9] rfl rfl rfl (by decide) rfl rfl rfl 0 (ci := 1) rfl rfl rfl hl.1 rfl (Nat.le_of_ble_eq_true rfl) dX6_runText_38 ⟨Nat.le_of_ble_eq_true rfl, Nat.le_of_ble_eq_true rfl⟩ (fun H locs hP hD hS => ?_)
    refine lv_iload_n hx hb dX6_runText_41 rfl (lv_at hl 0 rfl) ?_
    exact fY hkx h
  · replace h := fF c9 h
    cases h
    exact thrS (ik := 176) (is := 209) (ic := 180) (E := "java/lang/IllegalStateException") (txt := "the text has an error") hx hb hfl hQ hAe hout hlocks hK hP hD hS hown rfl (by decide +kernel) q3 q4 (fun w hw => hts w (List.mem_cons_of_mem _ (List.mem_append_right _ hw))) th2_180 thg_180 hEX (by decide +kernel) (hl.1.trans hml.symm) dX6_runText_8 dX6_runText_11 dX6_runText_12 dX6_runText_14 dX6_runText_17 (by decide) (Nat.le_of_ble_eq_true rfl) (by decide) (by decide) (by decide) (by decide)
abbrev rm_X6_undo : Room := { frames := 2, cells := 0, slots := 0, locals := 42 }
theorem hd_X6_undo : yX6_undo.cls = RX6 ∧ yX6_undo.cls ≠ "java/lang/invoke/MethodHandle" ∧ yX6_undo.cls ≠ "java/lang/invoke/VarHandle" ∧ (parseMethodDescriptor yX6_undo.desc).map (fun d => d.parameters.length) = some 0 := by decide +kernel
set_option maxHeartbeats 0 in
set_option maxRecDepth 100000 in
theorem c_X6_undo (l : Launch) (D : va_G) (o : Nat → Nat) (y : Nat → ClassId) (sz : Nat) (pl : Nat → Int64) (te : Nat → Int32) (be : Nat → Int64) (cn : Int32) (ch : Nat → Int32) (le : Int32) (rE : Int32) (rL : Int32) (rP : Int32) (rF : Int32) (rS : Int32) (rD : Int32) (hs : Nat → Int64) (ho : Int32) (hc : Int32) (sl : Nat → Int64) (fi : Nat → Int32) (r : Int32) (pl' : Nat → Int64) (hc' : Int32) (h : F_X6_undo pl hs ho hc = some (0, r, pl', hc')) : Met l yX6_undo wsX6_undo rm_X6_undo (va_Pc [.ref (o 0)] (px D y sz (XW o y pl te be cn ch le rE rL rP rF rS rD hs ho hc sl fi))) (Qri D y sz (XW o y pl te be cn ch le rE rL rP rF rS rD hs ho hc sl fi) (XW o y pl' te be cn ch le rE rL rP rF rS rD hs ho hc' sl fi) r) 0 0 (va_A (XW o y pl te be cn ch le rE rL rP rF rS rD hs ho hc sl fi) sz) := by
  refine hd_i (cc := cX6_undo) (maxL := 1) rfl rfl (Nat.le_of_ble_eq_true rfl) ?_
  intro p e s m args below meth c A Q H locs ls hx hb hml hts hown _ hA hP hD hK hS hl hE
  have hl : lv_has ls 1 [(0, .ref (o 0))] := hl
  have q0 := hts (.fieldLink RX6 39 "SliceShares" "history" "LSliceShares$History;") (by decide +kernel)
  have q1 := hts (.fieldLink RX6 9 "SliceShares" "plates" "[J") (by decide +kernel)
  have hinRX6 : ∀ w ∈ wsX60, w ∈ wsX6_undo := by decide +kernel
  unfold F_X6_undo at h
  refine lv_aload_n hx hb dX6_undo_0 rfl (lv_at hl 0 rfl) ?_
  refine va_get (D := D) (ci := 4) (C := RX6) (T := TX6) (N := 7) hx hb hts hinRX6 hown hK hP 0 rfl rfl 4 (by decide) q0 (fun _ h9 => h9) rfl dX6_undo_1 ?_
  refine cV_i (As := []) (rest := []) (ws1 := (XW o y pl te be cn ch le rE rL rP rF rS rD hs ho hc sl fi)) ⟨hx, hb, hml, hown, hts⟩ (c_X4_count l D o y _ hs ho hc ) (cwV 0 hts gX6_undo_X4_count rfl rfl rfl hd_X4_count ⟨Nat.le_of_ble_eq_true rfl, Nat.le_of_ble_eq_true rfl⟩) hK hP hD hS hA [8, 9] [0, 1, 2, 3, 4, 5, 6, 7, 10, 11] [0, 1, 2, 3, 4, 5, 6, 7, 10, 11, 8, 9] rfl rfl rfl (by decide) rfl rfl rfl 0 (ci := 3) rfl rfl rfl hl.1 rfl (Nat.le_of_ble_eq_true rfl) dX6_undo_4 ⟨Nat.le_of_ble_eq_true rfl, Nat.le_of_ble_eq_true rfl⟩ (fun H locs hP hD hS => ?_)
  refine lv_if_ne (tgt := 20) hx hb dX6_undo_7 (by decide) (fun c1 => ?_) (fun c1 => ?_)
  · replace h := fF c1 h
    refine lv_aload_n hx hb dX6_undo_20 rfl (lv_at hl 0 rfl) ?_
    refine va_get (D := D) (ci := 4) (C := RX6) (T := TX6) (N := 7) hx hb hts hinRX6 hown hK hP 0 rfl rfl 4 (by decide) q0 (fun _ h9 => h9) rfl dX6_undo_21 ?_
    refine lv_aload_n hx hb dX6_undo_24 rfl (lv_at hl 0 rfl) ?_
    refine va_get (D := D) (ci := 4) (C := RX6) (T := TX6) (N := 7) hx hb hts hinRX6 hown hK hP 0 rfl rfl 0 (by decide) q1 (fun _ h9 => h9) rfl dX6_undo_25 ?_
    obtain ⟨pl2, hc3, g4, h⟩ := fB2 h
    refine cV_v (As := [.ref (o 1)]) (rest := []) (ws1 := (XW o y pl2 te be cn ch le rE rL rP rF rS rD hs ho hc3 sl fi)) ⟨hx, hb, hml, hown, hts⟩ (c_X4_restore l D o y _ pl hs ho hc pl2 hc3 g4) (cwV 1 hts gX6_undo_X4_restore rfl rfl rfl hd_X4_restore ⟨Nat.le_of_ble_eq_true rfl, Nat.le_of_ble_eq_true rfl⟩) hK hP hD hS hA [8, 9, 1] [0, 2, 3, 4, 5, 6, 7, 10, 11] [0, 11, 1, 2, 3, 4, 5, 6, 9, 10, 7, 8] rfl rfl rfl (by decide) rfl rfl rfl 0 (ci := 3) rfl rfl rfl hl.1 rfl (Nat.le_of_ble_eq_true rfl) dX6_undo_28 ⟨Nat.le_of_ble_eq_true rfl, Nat.le_of_ble_eq_true rfl⟩ (fun H locs hP hD hS => ?_)
    refine lv_aload_n hx hb dX6_undo_31 rfl (lv_at hl 0 rfl) ?_
    refine va_get (D := D) (ci := 4) (C := RX6) (T := TX6) (N := 7) hx hb hts hinRX6 hown hK hP 0 rfl rfl 4 (by decide) q0 (fun _ h9 => h9) rfl dX6_undo_32 ?_
    refine cV_i (As := []) (rest := []) (ws1 := (XW o y pl2 te be cn ch le rE rL rP rF rS rD hs ho hc3 sl fi)) ⟨hx, hb, hml, hown, hts⟩ (c_X4_count l D o y _ hs ho hc3 ) (cwV 0 hts gX6_undo_X4_count rfl rfl rfl hd_X4_count ⟨Nat.le_of_ble_eq_true rfl, Nat.le_of_ble_eq_true rfl⟩) hK hP hD hS hA [8, 9] [0, 1, 2, 3, 4, 5, 6, 7, 10, 11] [0, 1, 2, 3, 4, 5, 6, 7, 10, 11, 8, 9] rfl rfl rfl (by decide) rfl rfl rfl 0 (ci := 3) rfl rfl rfl hl.1 rfl (Nat.le_of_ble_eq_true rfl) dX6_undo_35 ⟨Nat.le_of_ble_eq_true rfl, Nat.le_of_ble_eq_true rfl⟩ (fun H locs hP hD hS => ?_)
    cases h
    exact hE _ _ _ _ dX6_undo_38 hP hD hS
  · replace h := fT c1 h
    exact fX (show ¬ (3 : Nat) = 0 by decide) h
abbrev xrm_X6_undo : Room := { frames := 6, cells := 1, slots := 6, locals := 82 }
set_option maxHeartbeats 0 in
set_option maxRecDepth 100000 in
theorem x_X6_undo (l : Launch) (hfl : l.stackTraces = false) (D : va_G) (o : Nat → Nat) (y : Nat → ClassId) (sz : Nat) (pl : Nat → Int64) (te : Nat → Int32) (be : Nat → Int64) (cn : Int32) (ch : Nat → Int32) (le : Int32) (rE : Int32) (rL : Int32) (rP : Int32) (rF : Int32) (rS : Int32) (rD : Int32) (hs : Nat → Int64) (ho : Int32) (hc : Int32) (sl : Nat → Int64) (fi : Nat → Int32) (k : Nat) (r : Int32) (pl' : Nat → Int64) (hc' : Int32) (hkx : ¬ k = 0) (h : F_X6_undo pl hs ho hc = some (k, r, pl', hc')) : vx_Met l yX6_undo wsX6_undo xrm_X6_undo (va_Pc [.ref (o 0)] (pxe D y sz (XW o y pl te be cn ch le rE rL rP rF rS rD hs ho hc sl fi))) (QNo (XW o y pl te be cn ch le rE rL rP rF rS rD hs ho hc sl fi) sz) (QX D y sz (XW o y pl te be cn ch le rE rL rP rF rS rD hs ho hc sl fi) (XW o y pl' te be cn ch le rE rL rP rF rS rD hs ho hc' sl fi) k) 1 6 (va_A (XW o y pl te be cn ch le rE rL rP rF rS rD hs ho hc sl fi) sz) := by
  refine hd_x (cc := cX6_undo) (maxL := 1) rfl rfl (Nat.le_of_ble_eq_true rfl) ?_
  intro p e s m args below meth c A Q H locs ls hx hb hml hts hown hA hP hD hK hS hl hEX hlocks hout hQ hAe
  have hl : lv_has ls 1 [(0, .ref (o 0))] := hl
  have q0 := hts (.fieldLink RX6 39 "SliceShares" "history" "LSliceShares$History;") (by decide +kernel)
  have q1 := hts (.fieldLink RX6 9 "SliceShares" "plates" "[J") (by decide +kernel)
  have q2 := hts (.classLink RX6 176 "java/lang/IllegalStateException") (by decide +kernel)
  have q3 := hts (.initialized "java/lang/IllegalStateException") (by decide +kernel)
  have hinRX6 : ∀ w ∈ wsX60, w ∈ wsX6_undo := by decide +kernel
  unfold F_X6_undo at h
  refine lv_aload_n hx hb dX6_undo_0 rfl (lv_at hl 0 rfl) ?_
  refine va_get (D := D) (ci := 4) (C := RX6) (T := TX6) (N := 7) hx hb hts hinRX6 hown hK hP 0 rfl rfl 4 (by decide) q0 (fun _ h9 => h9) rfl dX6_undo_1 ?_
  refine cV_i (As := []) (rest := []) (ws1 := (XW o y pl te be cn ch le rE rL rP rF rS rD hs ho hc sl fi)) ⟨hx, hb, hml, hown, hts⟩ (c_X4_count l D o y _ hs ho hc ) (cwV 0 hts gX6_undo_X4_count rfl rfl rfl hd_X4_count ⟨Nat.le_of_ble_eq_true rfl, Nat.le_of_ble_eq_true rfl⟩) hK hP hD hS hA [8, 9] [0, 1, 2, 3, 4, 5, 6, 7, 10, 11] [0, 1, 2, 3, 4, 5, 6, 7, 10, 11, 8, 9] rfl rfl rfl (by decide) rfl rfl rfl 0 (ci := 3) rfl rfl rfl hl.1 rfl (Nat.le_of_ble_eq_true rfl) dX6_undo_4 ⟨Nat.le_of_ble_eq_true rfl, Nat.le_of_ble_eq_true rfl⟩ (fun H locs hP hD hS => ?_)
  refine lv_if_ne (tgt := 20) hx hb dX6_undo_7 (by decide) (fun c1 => ?_) (fun c1 => ?_)
  · replace h := fF c1 h
    refine lv_aload_n hx hb dX6_undo_20 rfl (lv_at hl 0 rfl) ?_
    refine va_get (D := D) (ci := 4) (C := RX6) (T := TX6) (N := 7) hx hb hts hinRX6 hown hK hP 0 rfl rfl 4 (by decide) q0 (fun _ h9 => h9) rfl dX6_undo_21 ?_
    refine lv_aload_n hx hb dX6_undo_24 rfl (lv_at hl 0 rfl) ?_
    refine va_get (D := D) (ci := 4) (C := RX6) (T := TX6) (N := 7) hx hb hts hinRX6 hown hK hP 0 rfl rfl 0 (by decide) q1 (fun _ h9 => h9) rfl dX6_undo_25 ?_
    obtain ⟨pl2, hc3, g4, h⟩ := fB2 h
    refine cV_v (As := [.ref (o 1)]) (rest := []) (ws1 := (XW o y pl2 te be cn ch le rE rL rP rF rS rD hs ho hc3 sl fi)) ⟨hx, hb, hml, hown, hts⟩ (c_X4_restore l D o y _ pl hs ho hc pl2 hc3 g4) (cwV 1 hts gX6_undo_X4_restore rfl rfl rfl hd_X4_restore ⟨Nat.le_of_ble_eq_true rfl, Nat.le_of_ble_eq_true rfl⟩) hK hP hD hS hA [8, 9, 1] [0, 2, 3, 4, 5, 6, 7, 10, 11] [0, 11, 1, 2, 3, 4, 5, 6, 9, 10, 7, 8] rfl rfl rfl (by decide) rfl rfl rfl 0 (ci := 3) rfl rfl rfl hl.1 rfl (Nat.le_of_ble_eq_true rfl) dX6_undo_28 ⟨Nat.le_of_ble_eq_true rfl, Nat.le_of_ble_eq_true rfl⟩ (fun H locs hP hD hS => ?_)
    refine lv_aload_n hx hb dX6_undo_31 rfl (lv_at hl 0 rfl) ?_
    refine va_get (D := D) (ci := 4) (C := RX6) (T := TX6) (N := 7) hx hb hts hinRX6 hown hK hP 0 rfl rfl 4 (by decide) q0 (fun _ h9 => h9) rfl dX6_undo_32 ?_
    refine cV_i (As := []) (rest := []) (ws1 := (XW o y pl2 te be cn ch le rE rL rP rF rS rD hs ho hc3 sl fi)) ⟨hx, hb, hml, hown, hts⟩ (c_X4_count l D o y _ hs ho hc3 ) (cwV 0 hts gX6_undo_X4_count rfl rfl rfl hd_X4_count ⟨Nat.le_of_ble_eq_true rfl, Nat.le_of_ble_eq_true rfl⟩) hK hP hD hS hA [8, 9] [0, 1, 2, 3, 4, 5, 6, 7, 10, 11] [0, 1, 2, 3, 4, 5, 6, 7, 10, 11, 8, 9] rfl rfl rfl (by decide) rfl rfl rfl 0 (ci := 3) rfl rfl rfl hl.1 rfl (Nat.le_of_ble_eq_true rfl) dX6_undo_35 ⟨Nat.le_of_ble_eq_true rfl, Nat.le_of_ble_eq_true rfl⟩ (fun H locs hP hD hS => ?_)
    exact fY hkx h
  · replace h := fT c1 h
    cases h
    exact thrS (ik := 176) (is := 219) (ic := 180) (E := "java/lang/IllegalStateException") (txt := "no state is recorded") hx hb hfl hQ hAe hout hlocks hK hP hD hS hown rfl (by decide +kernel) q2 q3 (fun w hw => hts w (List.mem_cons_of_mem _ (List.mem_append_right _ hw))) th2_180 thg_180 hEX (by decide +kernel) (hl.1.trans hml.symm) dX6_undo_10 dX6_undo_13 dX6_undo_14 dX6_undo_16 dX6_undo_19 (by decide) (Nat.le_of_ble_eq_true rfl) (by decide) (by decide) (by decide) (by decide)
abbrev rm_X6_undoCount : Room := { frames := 1, cells := 0, slots := 0, locals := 20 }
theorem hd_X6_undoCount : yX6_undoCount.cls = RX6 ∧ yX6_undoCount.cls ≠ "java/lang/invoke/MethodHandle" ∧ yX6_undoCount.cls ≠ "java/lang/invoke/VarHandle" ∧ (parseMethodDescriptor yX6_undoCount.desc).map (fun d => d.parameters.length) = some 0 := by decide +kernel
set_option maxHeartbeats 0 in
set_option maxRecDepth 100000 in
theorem c_X6_undoCount (l : Launch) (D : va_G) (o : Nat → Nat) (y : Nat → ClassId) (sz : Nat) (pl : Nat → Int64) (te : Nat → Int32) (be : Nat → Int64) (cn : Int32) (ch : Nat → Int32) (le : Int32) (rE : Int32) (rL : Int32) (rP : Int32) (rF : Int32) (rS : Int32) (rD : Int32) (hs : Nat → Int64) (ho : Int32) (hc : Int32) (sl : Nat → Int64) (fi : Nat → Int32) : Met l yX6_undoCount wsX6_undoCount rm_X6_undoCount (va_Pc [.ref (o 0)] (px D y sz (XW o y pl te be cn ch le rE rL rP rF rS rD hs ho hc sl fi))) (Qri D y sz (XW o y pl te be cn ch le rE rL rP rF rS rD hs ho hc sl fi) (XW o y pl te be cn ch le rE rL rP rF rS rD hs ho hc sl fi) (F_X6_undoCount hc)) 0 0 (va_A (XW o y pl te be cn ch le rE rL rP rF rS rD hs ho hc sl fi) sz) := by
  refine hd_i (cc := cX6_undoCount) (maxL := 1) rfl rfl (Nat.le_of_ble_eq_true rfl) ?_
  intro p e s m args below meth c A Q H locs ls hx hb hml hts hown _ hA hP hD hK hS hl hE
  have hl : lv_has ls 1 [(0, .ref (o 0))] := hl
  have q0 := hts (.fieldLink RX6 39 "SliceShares" "history" "LSliceShares$History;") (by decide +kernel)
  have hinRX6 : ∀ w ∈ wsX60, w ∈ wsX6_undoCount := by decide +kernel
  refine lv_aload_n hx hb dX6_undoCount_0 rfl (lv_at hl 0 rfl) ?_
  refine va_get (D := D) (ci := 4) (C := RX6) (T := TX6) (N := 7) hx hb hts hinRX6 hown hK hP 0 rfl rfl 4 (by decide) q0 (fun _ h9 => h9) rfl dX6_undoCount_1 ?_
  refine cV_i (As := []) (rest := []) (ws1 := (XW o y pl te be cn ch le rE rL rP rF rS rD hs ho hc sl fi)) ⟨hx, hb, hml, hown, hts⟩ (c_X4_count l D o y _ hs ho hc ) (cwV 0 hts gX6_undoCount_X4_count rfl rfl rfl hd_X4_count ⟨Nat.le_of_ble_eq_true rfl, Nat.le_of_ble_eq_true rfl⟩) hK hP hD hS hA [8, 9] [0, 1, 2, 3, 4, 5, 6, 7, 10, 11] [0, 1, 2, 3, 4, 5, 6, 7, 10, 11, 8, 9] rfl rfl rfl (by decide) rfl rfl rfl 0 (ci := 3) rfl rfl rfl hl.1 rfl (Nat.le_of_ble_eq_true rfl) dX6_undoCount_4 ⟨Nat.le_of_ble_eq_true rfl, Nat.le_of_ble_eq_true rfl⟩ (fun H locs hP hD hS => ?_)
  exact hE _ _ _ _ dX6_undoCount_7 hP hD hS
abbrev rm_X6_requireSlot : Room := { frames := 0, cells := 0, slots := 0, locals := 0 }
theorem hd_X6_requireSlot : yX6_requireSlot.cls ≠ "java/lang/invoke/MethodHandle" ∧ yX6_requireSlot.cls ≠ "java/lang/invoke/VarHandle" ∧ (parseMethodDescriptor yX6_requireSlot.desc).map (fun d => d.parameters.length) = some 1 := by decide +kernel
set_option maxHeartbeats 0 in
set_option maxRecDepth 100000 in
theorem c_X6_requireSlot (l : Launch) (D : va_G) (y : Nat → ClassId) (sz : Nat) (a1 : Int32) (h : F_X6_requireSlot a1 = some 0) : Met l yX6_requireSlot wsX6_requireSlot rm_X6_requireSlot (va_Pc [.int a1] (px D y sz [])) (Qrv D y sz [] []) 0 0 (va_A [] sz) := by
  refine hd_v (cc := cX6_requireSlot) (maxL := 1) rfl rfl (Nat.le_of_ble_eq_true rfl) ?_
  intro p e s m args below meth c A Q H locs ls hx hb hml hts hown _ hA hP hD hK hS hl hE
  have hl : lv_has ls 1 [(0, .int a1)] := hl
  unfold F_X6_requireSlot at h
  refine lv_iload_n hx hb dX6_requireSlot_0 rfl (lv_at hl 0 rfl) ?_
  refine lv_if_lt (tgt := 9) hx hb dX6_requireSlot_1 (by decide) (fun c1 => ?_) (fun c1 => ?_)
  · replace h := fT c1 h
    exact fX1 (show ¬ (1 : Nat) = 0 by decide) h
  · replace h := fF c1 h
    refine lv_iload_n hx hb dX6_requireSlot_4 rfl (lv_at hl 0 rfl) ?_
    refine lv_iconst (v := (2 : Int32)) hx hb dX6_requireSlot_5 (by decide) ?_
    refine lv_icmp_lt (tgt := 19) hx hb dX6_requireSlot_6 (by decide) (fun c2 => ?_) (fun c2 => ?_)
    · replace h := fT c2 h
      cases h
      exact hE _ _ _ _ dX6_requireSlot_19 hP hD hS
    · replace h := fF c2 h
      exact fX1 (show ¬ (1 : Nat) = 0 by decide) h
abbrev xrm_X6_requireSlot : Room := { frames := 6, cells := 1, slots := 6, locals := 82 }
set_option maxHeartbeats 0 in
set_option maxRecDepth 100000 in
theorem x_X6_requireSlot (l : Launch) (hfl : l.stackTraces = false) (D : va_G) (y : Nat → ClassId) (sz : Nat) (a1 : Int32) (k : Nat) (hkx : ¬ k = 0) (h : F_X6_requireSlot a1 = some k) : vx_Met l yX6_requireSlot wsX6_requireSlot xrm_X6_requireSlot (va_Pc [.int a1] (pxe D y sz [])) (QNo [] sz) (QX D y sz [] [] k) 1 6 (va_A [] sz) := by
  refine hd_x (cc := cX6_requireSlot) (maxL := 1) rfl rfl (Nat.le_of_ble_eq_true rfl) ?_
  intro p e s m args below meth c A Q H locs ls hx hb hml hts hown hA hP hD hK hS hl hEX hlocks hout hQ hAe
  have hl : lv_has ls 1 [(0, .int a1)] := hl
  have q0 := hts (.classLink RX6 104 "java/lang/IndexOutOfBoundsException") (by decide +kernel)
  have q1 := hts (.initialized "java/lang/IndexOutOfBoundsException") (by decide +kernel)
  unfold F_X6_requireSlot at h
  refine lv_iload_n hx hb dX6_requireSlot_0 rfl (lv_at hl 0 rfl) ?_
  refine lv_if_lt (tgt := 9) hx hb dX6_requireSlot_1 (by decide) (fun c1 => ?_) (fun c1 => ?_)
  · replace h := fT c1 h
    cases h
    exact thrS (ik := 104) (is := 249) (ic := 108) (E := "java/lang/IndexOutOfBoundsException") (txt := "there is no such slot") hx hb hfl hQ hAe hout hlocks hK hP hD hS hown rfl (by decide +kernel) q0 q1 (fun w hw => hts w (List.mem_cons_of_mem _ (List.mem_append_right _ hw))) th2_108 thg_108 hEX (by decide +kernel) (hl.1.trans hml.symm) dX6_requireSlot_9 dX6_requireSlot_12 dX6_requireSlot_13 dX6_requireSlot_15 dX6_requireSlot_18 (by decide) (Nat.le_of_ble_eq_true rfl) (by decide) (by decide) (by decide) (by decide)
  · replace h := fF c1 h
    refine lv_iload_n hx hb dX6_requireSlot_4 rfl (lv_at hl 0 rfl) ?_
    refine lv_iconst (v := (2 : Int32)) hx hb dX6_requireSlot_5 (by decide) ?_
    refine lv_icmp_lt (tgt := 19) hx hb dX6_requireSlot_6 (by decide) (fun c2 => ?_) (fun c2 => ?_)
    · replace h := fT c2 h
      exact fY1 hkx h
    · replace h := fF c2 h
      cases h
      exact thrS (ik := 104) (is := 249) (ic := 108) (E := "java/lang/IndexOutOfBoundsException") (txt := "there is no such slot") hx hb hfl hQ hAe hout hlocks hK hP hD hS hown rfl (by decide +kernel) q0 q1 (fun w hw => hts w (List.mem_cons_of_mem _ (List.mem_append_right _ hw))) th2_108 thg_108 hEX (by decide +kernel) (hl.1.trans hml.symm) dX6_requireSlot_9 dX6_requireSlot_12 dX6_requireSlot_13 dX6_requireSlot_15 dX6_requireSlot_18 (by decide) (Nat.le_of_ble_eq_true rfl) (by decide) (by decide) (by decide) (by decide)
abbrev rm_X6_platesNotZero : Room := { frames := 0, cells := 0, slots := 0, locals := 0 }
theorem hd_X6_platesNotZero : yX6_platesNotZero.cls = RX6 ∧ yX6_platesNotZero.cls ≠ "java/lang/invoke/MethodHandle" ∧ yX6_platesNotZero.cls ≠ "java/lang/invoke/VarHandle" ∧ (parseMethodDescriptor yX6_platesNotZero.desc).map (fun d => d.parameters.length) = some 0 := by decide +kernel
set_option maxHeartbeats 0 in
set_option maxRecDepth 100000 in
theorem c_X6_platesNotZero (l : Launch) (D : va_G) (o : Nat → Nat) (y : Nat → ClassId) (sz : Nat) (pl : Nat → Int64) (te : Nat → Int32) (be : Nat → Int64) (cn : Int32) (ch : Nat → Int32) (le : Int32) (rE : Int32) (rL : Int32) (rP : Int32) (rF : Int32) (rS : Int32) (rD : Int32) (hs : Nat → Int64) (ho : Int32) (hc : Int32) (sl : Nat → Int64) (fi : Nat → Int32) (r : Int32) (h : F_X6_platesNotZero pl = some r) : Met l yX6_platesNotZero wsX6_platesNotZero rm_X6_platesNotZero (va_Pc [.ref (o 0)] (px D y sz (XW o y pl te be cn ch le rE rL rP rF rS rD hs ho hc sl fi))) (Qri D y sz (XW o y pl te be cn ch le rE rL rP rF rS rD hs ho hc sl fi) (XW o y pl te be cn ch le rE rL rP rF rS rD hs ho hc sl fi) r) 0 0 (va_A (XW o y pl te be cn ch le rE rL rP rF rS rD hs ho hc sl fi) sz) := by
  refine hd_i (cc := cX6_platesNotZero) (maxL := 3) rfl rfl (Nat.le_of_ble_eq_true rfl) ?_
  intro p e s m args below meth c A Q H locs ls hx hb hml hts hown _ hA hP hD hK hS hl hE
  have hl : lv_has ls 3 [(0, .ref (o 0))] := hl
  have q0 := hts (.fieldLink RX6 9 "SliceShares" "plates" "[J") (by decide +kernel)
  have hinRX6 : ∀ w ∈ wsX60, w ∈ wsX6_platesNotZero := by decide +kernel
  unfold F_X6_platesNotZero at h
  refine lv_iconst (v := (0 : Int32)) hx hb dX6_platesNotZero_0 (by decide) ?_
  refine lv_istore_n (lv' := [(1, .int (0 : Int32)), (0, .ref (o 0))]) hx hb dX6_platesNotZero_1 rfl hl (by decide) rfl (fun ls hl => ?_)
  refine lv_iconst (v := (0 : Int32)) hx hb dX6_platesNotZero_2 (by decide) ?_
  refine lv_istore_n (lv' := [(2, .int (0 : Int32)), (1, .int (0 : Int32)), (0, .ref (o 0))]) hx hb dX6_platesNotZero_3 rfl hl (by decide) rfl (fun ls hl => ?_)
  obtain ⟨v3, g4, h⟩ := fB1 h
  have J5 : ∀ (H : Heap) (locs : List Loc) (ls : Array Slot), va_P D vwCl (XW o y pl te be cn ch le rE rL rP rF rS rD hs ho hc sl fi) H → va_D A (XW o y pl te be cn ch le rE rL rP rF rS rD hs ho hc sl fi) → va_S A s.heap H locs → lv_has ls 3 [(1, .int v3)] → W p l e rm_X6_platesNotZero s m args below meth c H locs 0 0 Q (F0 m 30 ls []) := by
    intro H locs ls hP hD hS hl
    refine lv_iload_n hx hb dX6_platesNotZero_30 rfl (lv_at hl 0 rfl) ?_
    cases h
    exact hE _ _ _ _ dX6_platesNotZero_31 hP hD hS
  have LP6 : ∀ (n : Nat) (x1 : Int32) (x2 : Int32) (H : Heap) (locs : List Loc) (ls : Array Slot), L_X6_platesNotZero_4 n x1 x2 pl = some v3 → va_P D vwCl (XW o y pl te be cn ch le rE rL rP rF rS rD hs ho hc sl fi) H → va_D A (XW o y pl te be cn ch le rE rL rP rF rS rD hs ho hc sl fi) → va_S A s.heap H locs → lv_has ls 3 [(0, .ref (o 0)), (1, .int x1), (2, .int x2)] → W p l e rm_X6_platesNotZero s m args below meth c H locs 0 0 Q (F0 m 4 ls []) := by
    intro n
    induction n with
    | zero => intro x1 x2 H locs ls h hP hD hS hl; exact fN h
    | succ n ih =>
      intro x1 x2 H locs ls h hP hD hS hl
      replace h := (L_X6_platesNotZero_4_s n x1 x2 pl).symm.trans h
      refine lv_iload_n hx hb dX6_platesNotZero_4 rfl (lv_at hl 2 rfl) ?_
      refine lv_bipush (v := (6 : Int32)) hx hb dX6_platesNotZero_5 (by decide) ?_
      refine lv_icmp_ge (tgt := 30) hx hb dX6_platesNotZero_7 (by decide) (fun c7 => ?_) (fun c7 => ?_)
      · replace h := fT c7 h
        cases h
        exact J5 _ _ _ hP hD hS (lv_sub hl [1] rfl)
      · replace h := fF c7 h
        refine lv_aload_n hx hb dX6_platesNotZero_10 rfl (lv_at hl 0 rfl) ?_
        refine va_get (D := D) (ci := 4) (C := RX6) (T := TX6) (N := 7) hx hb hts hinRX6 hown hK hP 0 rfl rfl 0 (by decide) q0 (fun _ h9 => h9) rfl dX6_platesNotZero_11 ?_
        refine lv_iload_n hx hb dX6_platesNotZero_14 rfl (lv_at hl 2 rfl) ?_
        obtain ⟨g8, h⟩ := fG h
        refine va_lald hx hb hK hP 1 1 rfl rfl g8 dX6_platesNotZero_15 ?_
        refine lv_lconst (v := (1 : Int64)) hx hb dX6_platesNotZero_16 rfl ?_
        have J9 : ∀ (v10 : Int32) (ls : Array Slot), v10 = (if (pl x2.toNatClampNeg) = (1 : Int64) then x1 else (x1 + (1 : Int32))) → lv_has ls 3 [(0, .ref (o 0)), (1, .int v10), (2, .int x2)] → W p l e rm_X6_platesNotZero s m args below meth c H locs 0 0 Q (F0 m 24 ls []) := by
          intro v10 ls ev10 hl
          subst ev10
          refine lv_iinc (v := x2 + (1 : Int32)) (lv' := [(2, .int (x2 + (1 : Int32))), (0, .ref (o 0)), (1, .int (if (pl x2.toNatClampNeg) = (1 : Int64) then x1 else (x1 + (1 : Int32))))]) hx hb dX6_platesNotZero_24 hl (k := 2) rfl rfl (by decide) rfl (fun ls hl => ?_)
          refine lv_goto (tgt := 4) hx hb dX6_platesNotZero_27 (by decide) ?_
          exact ih (if (pl x2.toNatClampNeg) = (1 : Int64) then x1 else (x1 + (1 : Int32))) (x2 + (1 : Int32)) _ _ _ h hP hD hS (lv_sub hl [1, 2, 0] rfl)
        refine lx_eq (tgt := 24) hx hb dX6_platesNotZero_17 dX6_platesNotZero_18 (by decide) (fun c11 => ?_) (fun c11 => ?_)
        · exact J9 _ _ (by rw [if_pos c11]) (lv_sub hl [0, 1, 2] rfl)
        · refine lv_iinc (v := x1 + (1 : Int32)) (lv' := [(1, .int (x1 + (1 : Int32))), (0, .ref (o 0)), (2, .int x2)]) hx hb dX6_platesNotZero_21 hl (k := 1) rfl rfl (by decide) rfl (fun ls hl => ?_)
          exact J9 _ _ (by rw [if_neg c11]) (lv_sub hl [1, 0, 2] rfl)
  exact LP6 FU (0 : Int32) (0 : Int32) _ _ _ g4 hP hD hS (lv_sub hl [2, 1, 0] rfl)
