abbrev rm_L_compare : Room := { frames := 8, cells := 1, slots := 6, locals := 124 }
theorem hd_L_compare : yL_compare.cls ≠ "java/lang/invoke/MethodHandle" ∧ yL_compare.cls ≠ "java/lang/invoke/VarHandle" ∧ (parseMethodDescriptor yL_compare.desc).map (fun d => d.parameters.length) = some 4 := by decide +kernel
set_option maxHeartbeats 0 in
set_option maxRecDepth 100000 in
theorem c_L_compare (l : Launch) (hfl : l.stackTraces = false) (D : va_G) (o : Nat → Nat) (v : Nat) (y : Nat → ClassId) (sz : Nat) (pl : Nat → Int64) (te : Nat → Int32) (be : Nat → Int64) (cn : Int32) (ch : Nat → Int32) (le : Int32) (rE : Int32) (rL : Int32) (rP : Int32) (rF : Int32) (rS : Int32) (rD : Int32) (hs : Nat → Int64) (ho : Int32) (hc : Int32) (sl : Nat → Int64) (fi : Nat → Int32) (ou : Nat → Int64) (a1 : Int32) (a2 : Int32) (r : Int32) (ou' : Nat → Int64) (h : F_L_compare pl ou a1 a2 = some (r, ou')) : Met l yL_compare wsL_compare rm_L_compare (va_Pc [.ref (o 0), .int a1, .int a2, .ref v] (pxe D y sz (XO o v y pl te be cn ch le rE rL rP rF rS rD hs ho hc sl fi ou))) (Qri D y sz (XO o v y pl te be cn ch le rE rL rP rF rS rD hs ho hc sl fi ou) (XO o v y pl te be cn ch le rE rL rP rF rS rD hs ho hc sl fi ou') r) 1 6 (va_A (XO o v y pl te be cn ch le rE rL rP rF rS rD hs ho hc sl fi ou) sz) := by
  refine hd_w (cc := cL_compare) (maxL := 5) rfl rfl (Nat.le_of_ble_eq_true rfl) ?_
  intro p e s m args below meth c A Q H locs ls hx hb hml hts hown hA hP hD hK hS hl hEX htab hE
  have hl : lv_has ls 5 [(0, .ref (o 0)), (1, .int a1), (2, .int a2), (3, .ref v)] := hl
  have q0 := hts (.classLink RL 13 "java/lang/IndexOutOfBoundsException") (by decide +kernel)
  unfold F_L_compare at h
  refine lv_aload_n hx hb dL_compare_0 rfl (lv_at hl 3 rfl) ?_
  refine lv_iconst (v := (0 : Int32)) hx hb dL_compare_1 (by decide) ?_
  refine lv_aload_n hx hb dL_compare_2 rfl (lv_at hl 0 rfl) ?_
  refine lv_iload_n hx hb dL_compare_3 rfl (lv_at hl 1 rfl) ?_
  refine lv_iload_n hx hb dL_compare_4 rfl (lv_at hl 2 rfl) ?_
  obtain ⟨k1, r2, g3, h⟩ := fB2 h
  by_cases e4 : ¬ k1 = 0
  · replace h := fF e4 h
    refine xc_V (As := [.int a1, .int a2]) (rest := [.int (0 : Int32), .ref v]) (ws1 := (XO o v y pl te be cn ch le rE rL rP rF rS rD hs ho hc sl fi ou)) ⟨hx, hb, hml, hown, hts⟩ (x_X6_compare l hfl D o y _ pl te be cn ch le rE rL rP rF rS rD hs ho hc sl fi a1 a2 k1 r2 e4 g3) (cwV 2 hts gL_compare_X6_compare rfl rfl rfl hd_X6_compare ⟨Nat.le_of_ble_eq_true rfl, Nat.le_of_ble_eq_true rfl⟩) hK hP hD hS hA hEX [0, 1, 2, 3, 4, 5, 6, 7, 8, 9, 10, 11] [12] [1, 2, 3, 4, 5, 6, 7, 8, 9, 10, 11, 12, 0] rfl rfl rfl (by decide) rfl rfl rfl 0 (ci := 4) rfl rfl rfl hl.1 rfl (Nat.le_of_ble_eq_true rfl) dL_compare_5 ⟨Nat.le_of_ble_eq_true rfl, Nat.le_of_ble_eq_true rfl⟩ (fun H locs ce q hP hD hS hce hv hcl => ?_)
    by_cases c5 : k1 = 1
    · subst c5
      replace h := fT rfl h
      refine catX (E := "java/lang/IndexOutOfBoundsException") hown htab [] { startPc := 0, endPc := 10, handlerPc := 13, catchType := 13 } [] rfl (fun z hz => absurd hz List.not_mem_nil) (by decide) (by decide) q0 (hEX.2.2.2.1 1) hce hv hcl ?_
      refine lv_astore (lv' := [(4, .ref q), (0, .ref (o 0)), (1, .int a1), (2, .int a2), (3, .ref v)]) hx hb dL_compare_13 hl (by decide) rfl (fun ls hl => ?_)
      refine lv_iconst (v := (1 : Int32)) hx hb dL_compare_15 (by decide) ?_
      cases h
      exact hE _ _ _ _ _ _ (by decide) (by decide) dL_compare_16 hP hD hS
    replace h := fF c5 h
    exact fN h
  replace e4 := Classical.not_not.mp e4
  subst e4
  replace h := fT rfl h
  refine cV_i (As := [.int a1, .int a2]) (rest := [.int (0 : Int32), .ref v]) (ws1 := (XO o v y pl te be cn ch le rE rL rP rF rS rD hs ho hc sl fi ou)) ⟨hx, hb, hml, hown, hts⟩ (c_X6_compare l D o y _ pl te be cn ch le rE rL rP rF rS rD hs ho hc sl fi a1 a2 r2 g3) (cwV 2 hts gL_compare_X6_compare rfl rfl rfl hd_X6_compare ⟨Nat.le_of_ble_eq_true rfl, Nat.le_of_ble_eq_true rfl⟩) hK hP hD hS hA [0, 1, 2, 3, 4, 5, 6, 7, 8, 9, 10, 11] [12] [1, 2, 3, 4, 5, 6, 7, 8, 9, 10, 11, 12, 0] rfl rfl rfl (by decide) rfl rfl rfl 0 (ci := 4) rfl rfl rfl hl.1 rfl (Nat.le_of_ble_eq_true rfl) dL_compare_5 ⟨Nat.le_of_ble_eq_true rfl, Nat.le_of_ble_eq_true rfl⟩ (fun H locs hP hD hS => ?_)
  refine lv_i2l (v := r2.toInt64) hx hb dL_compare_8 rfl ?_
  refine va_last hx hb hK hP hD hS 12 1 rfl rfl (show ¬ ((0 : Int32) < 0 ∨ 1 ≤ (0 : Int32).toNatClampNeg) from by decide) dL_compare_9 (fun H locs hP hD hS => ?_)
  have hP : va_P D vwCl (XO o v y pl te be cn ch le rE rL rP rF rS rD hs ho hc sl fi (vp_updL ou (0 : Int32).toNatClampNeg r2.toInt64)) H := hP
  have hD : va_D A (XO o v y pl te be cn ch le rE rL rP rF rS rD hs ho hc sl fi (vp_updL ou (0 : Int32).toNatClampNeg r2.toInt64)) := hD
  refine lv_goto (tgt := 17) hx hb dL_compare_10 (by decide) ?_
  refine lv_iconst (v := (0 : Int32)) hx hb dL_compare_17 (by decide) ?_
  cases h
  exact hE _ _ _ _ _ _ (by decide) (by decide) dL_compare_18 hP hD hS
abbrev rm_L_plateByAmount : Room := { frames := 7, cells := 1, slots := 6, locals := 110 }
theorem hd_L_plateByAmount : yL_plateByAmount.cls ≠ "java/lang/invoke/MethodHandle" ∧ yL_plateByAmount.cls ≠ "java/lang/invoke/VarHandle" ∧ (parseMethodDescriptor yL_plateByAmount.desc).map (fun d => d.parameters.length) = some 3 := by decide +kernel
set_option maxHeartbeats 0 in
set_option maxRecDepth 100000 in
theorem c_L_plateByAmount (l : Launch) (hfl : l.stackTraces = false) (D : va_G) (o : Nat → Nat) (v : Nat) (y : Nat → ClassId) (sz : Nat) (pl : Nat → Int64) (te : Nat → Int32) (be : Nat → Int64) (cn : Int32) (ch : Nat → Int32) (le : Int32) (rE : Int32) (rL : Int32) (rP : Int32) (rF : Int32) (rS : Int32) (rD : Int32) (hs : Nat → Int64) (ho : Int32) (hc : Int32) (sl : Nat → Int64) (fi : Nat → Int32) (ou : Nat → Int64) (a1 : Int32) (r : Int32) (ou' : Nat → Int64) (h : F_L_plateByAmount pl ou a1 = some (r, ou')) : Met l yL_plateByAmount wsL_plateByAmount rm_L_plateByAmount (va_Pc [.ref (o 0), .int a1, .ref v] (pxe D y sz (XO o v y pl te be cn ch le rE rL rP rF rS rD hs ho hc sl fi ou))) (Qri D y sz (XO o v y pl te be cn ch le rE rL rP rF rS rD hs ho hc sl fi ou) (XO o v y pl te be cn ch le rE rL rP rF rS rD hs ho hc sl fi ou') r) 1 6 (va_A (XO o v y pl te be cn ch le rE rL rP rF rS rD hs ho hc sl fi ou) sz) := by
  refine hd_w (cc := cL_plateByAmount) (maxL := 4) rfl rfl (Nat.le_of_ble_eq_true rfl) ?_
  intro p e s m args below meth c A Q H locs ls hx hb hml hts hown hA hP hD hK hS hl hEX htab hE
  have hl : lv_has ls 4 [(0, .ref (o 0)), (1, .int a1), (2, .ref v)] := hl
  have q0 := hts (.classLink RL 13 "java/lang/IndexOutOfBoundsException") (by decide +kernel)
  unfold F_L_plateByAmount at h
  refine lv_aload_n hx hb dL_plateByAmount_0 rfl (lv_at hl 2 rfl) ?_
  refine lv_iconst (v := (0 : Int32)) hx hb dL_plateByAmount_1 (by decide) ?_
  refine lv_aload_n hx hb dL_plateByAmount_2 rfl (lv_at hl 0 rfl) ?_
  refine lv_iload_n hx hb dL_plateByAmount_3 rfl (lv_at hl 1 rfl) ?_
  obtain ⟨k1, r2, g3, h⟩ := fB2 h
  by_cases e4 : ¬ k1 = 0
  · replace h := fF e4 h
    refine xc_V (As := [.int a1]) (rest := [.int (0 : Int32), .ref v]) (ws1 := (XO o v y pl te be cn ch le rE rL rP rF rS rD hs ho hc sl fi ou)) ⟨hx, hb, hml, hown, hts⟩ (x_X6_plateByAmount l hfl D o y _ pl te be cn ch le rE rL rP rF rS rD hs ho hc sl fi a1 k1 r2 e4 g3) (cwV 1 hts gL_plateByAmount_X6_plateByAmount rfl rfl rfl hd_X6_plateByAmount ⟨Nat.le_of_ble_eq_true rfl, Nat.le_of_ble_eq_true rfl⟩) hK hP hD hS hA hEX [0, 1, 2, 3, 4, 5, 6, 7, 8, 9, 10, 11] [12] [1, 2, 3, 4, 5, 6, 7, 8, 9, 10, 11, 12, 0] rfl rfl rfl (by decide) rfl rfl rfl 0 (ci := 4) rfl rfl rfl hl.1 rfl (Nat.le_of_ble_eq_true rfl) dL_plateByAmount_4 ⟨Nat.le_of_ble_eq_true rfl, Nat.le_of_ble_eq_true rfl⟩ (fun H locs ce q hP hD hS hce hv hcl => ?_)
    by_cases c5 : k1 = 1
    · subst c5
      replace h := fT rfl h
      refine catX (E := "java/lang/IndexOutOfBoundsException") hown htab [] { startPc := 0, endPc := 9, handlerPc := 12, catchType := 13 } [] rfl (fun z hz => absurd hz List.not_mem_nil) (by decide) (by decide) q0 (hEX.2.2.2.1 1) hce hv hcl ?_
      refine lv_astore_n (lv' := [(3, .ref q), (0, .ref (o 0)), (1, .int a1), (2, .ref v)]) hx hb dL_plateByAmount_12 rfl hl (by decide) rfl (fun ls hl => ?_)
      refine lv_iconst (v := (1 : Int32)) hx hb dL_plateByAmount_13 (by decide) ?_
      cases h
      exact hE _ _ _ _ _ _ (by decide) (by decide) dL_plateByAmount_14 hP hD hS
    replace h := fF c5 h
    exact fN h
  replace e4 := Classical.not_not.mp e4
  subst e4
  replace h := fT rfl h
  refine cV_i (As := [.int a1]) (rest := [.int (0 : Int32), .ref v]) (ws1 := (XO o v y pl te be cn ch le rE rL rP rF rS rD hs ho hc sl fi ou)) ⟨hx, hb, hml, hown, hts⟩ (c_X6_plateByAmount l D o y _ pl te be cn ch le rE rL rP rF rS rD hs ho hc sl fi a1 r2 g3) (cwV 1 hts gL_plateByAmount_X6_plateByAmount rfl rfl rfl hd_X6_plateByAmount ⟨Nat.le_of_ble_eq_true rfl, Nat.le_of_ble_eq_true rfl⟩) hK hP hD hS hA [0, 1, 2, 3, 4, 5, 6, 7, 8, 9, 10, 11] [12] [1, 2, 3, 4, 5, 6, 7, 8, 9, 10, 11, 12, 0] rfl rfl rfl (by decide) rfl rfl rfl 0 (ci := 4) rfl rfl rfl hl.1 rfl (Nat.le_of_ble_eq_true rfl) dL_plateByAmount_4 ⟨Nat.le_of_ble_eq_true rfl, Nat.le_of_ble_eq_true rfl⟩ (fun H locs hP hD hS => ?_)
  refine lv_i2l (v := r2.toInt64) hx hb dL_plateByAmount_7 rfl ?_
  refine va_last hx hb hK hP hD hS 12 1 rfl rfl (show ¬ ((0 : Int32) < 0 ∨ 1 ≤ (0 : Int32).toNatClampNeg) from by decide) dL_plateByAmount_8 (fun H locs hP hD hS => ?_)
  have hP : va_P D vwCl (XO o v y pl te be cn ch le rE rL rP rF rS rD hs ho hc sl fi (vp_updL ou (0 : Int32).toNatClampNeg r2.toInt64)) H := hP
  have hD : va_D A (XO o v y pl te be cn ch le rE rL rP rF rS rD hs ho hc sl fi (vp_updL ou (0 : Int32).toNatClampNeg r2.toInt64)) := hD
  refine lv_goto (tgt := 15) hx hb dL_plateByAmount_9 (by decide) ?_
  refine lv_iconst (v := (0 : Int32)) hx hb dL_plateByAmount_15 (by decide) ?_
  cases h
  exact hE _ _ _ _ _ _ (by decide) (by decide) dL_plateByAmount_16 hP hD hS
abbrev rm_L_termCount : Room := { frames := 8, cells := 1, slots := 6, locals := 123 }
theorem hd_L_termCount : yL_termCount.cls ≠ "java/lang/invoke/MethodHandle" ∧ yL_termCount.cls ≠ "java/lang/invoke/VarHandle" ∧ (parseMethodDescriptor yL_termCount.desc).map (fun d => d.parameters.length) = some 3 := by decide +kernel
set_option maxHeartbeats 0 in
set_option maxRecDepth 100000 in
theorem c_L_termCount (l : Launch) (hfl : l.stackTraces = false) (D : va_G) (o : Nat → Nat) (v : Nat) (y : Nat → ClassId) (sz : Nat) (pl : Nat → Int64) (te : Nat → Int32) (be : Nat → Int64) (cn : Int32) (ch : Nat → Int32) (le : Int32) (rE : Int32) (rL : Int32) (rP : Int32) (rF : Int32) (rS : Int32) (rD : Int32) (hs : Nat → Int64) (ho : Int32) (hc : Int32) (sl : Nat → Int64) (fi : Nat → Int32) (ou : Nat → Int64) (a1 : Int32) (r : Int32) (te' : Nat → Int32) (be' : Nat → Int64) (cn' : Int32) (ou' : Nat → Int64) (h : F_L_termCount pl te be cn ou a1 = some (r, te', be', cn', ou')) : Met l yL_termCount wsL_termCount rm_L_termCount (va_Pc [.ref (o 0), .int a1, .ref v] (pxe D y sz (XO o v y pl te be cn ch le rE rL rP rF rS rD hs ho hc sl fi ou))) (Qri D y sz (XO o v y pl te be cn ch le rE rL rP rF rS rD hs ho hc sl fi ou) (XO o v y pl te' be' cn' ch le rE rL rP rF rS rD hs ho hc sl fi ou') r) 1 6 (va_A (XO o v y pl te be cn ch le rE rL rP rF rS rD hs ho hc sl fi ou) sz) := by
  refine hd_w (cc := cL_termCount) (maxL := 4) rfl rfl (Nat.le_of_ble_eq_true rfl) ?_
  intro p e s m args below meth c A Q H locs ls hx hb hml hts hown hA hP hD hK hS hl hEX htab hE
  have hl : lv_has ls 4 [(0, .ref (o 0)), (1, .int a1), (2, .ref v)] := hl
  have q0 := hts (.classLink RL 13 "java/lang/IndexOutOfBoundsException") (by decide +kernel)
  unfold F_L_termCount at h
  refine lv_aload_n hx hb dL_termCount_0 rfl (lv_at hl 2 rfl) ?_
  refine lv_iconst (v := (0 : Int32)) hx hb dL_termCount_1 (by decide) ?_
  refine lv_aload_n hx hb dL_termCount_2 rfl (lv_at hl 0 rfl) ?_
  refine lv_iload_n hx hb dL_termCount_3 rfl (lv_at hl 1 rfl) ?_
  obtain ⟨k1, r2, te3, be4, cn5, g6, h⟩ := fB5 h
  by_cases e7 : ¬ k1 = 0
  · replace h := fF e7 h
    refine xc_V (As := [.int a1]) (rest := [.int (0 : Int32), .ref v]) (ws1 := (XO o v y pl te3 be4 cn5 ch le rE rL rP rF rS rD hs ho hc sl fi ou)) ⟨hx, hb, hml, hown, hts⟩ (x_X6_termCount l hfl D o y _ pl te be cn ch le rE rL rP rF rS rD hs ho hc sl fi a1 k1 r2 te3 be4 cn5 e7 g6) (cwV 1 hts gL_termCount_X6_termCount rfl rfl rfl hd_X6_termCount ⟨Nat.le_of_ble_eq_true rfl, Nat.le_of_ble_eq_true rfl⟩) hK hP hD hS hA hEX [0, 1, 2, 3, 4, 5, 6, 7, 8, 9, 10, 11] [12] [1, 2, 3, 4, 5, 6, 7, 8, 9, 10, 11, 12, 0] rfl rfl rfl (by decide) rfl rfl rfl 0 (ci := 4) rfl rfl rfl hl.1 rfl (Nat.le_of_ble_eq_true rfl) dL_termCount_4 ⟨Nat.le_of_ble_eq_true rfl, Nat.le_of_ble_eq_true rfl⟩ (fun H locs ce q hP hD hS hce hv hcl => ?_)
    by_cases c8 : k1 = 1
    · subst c8
      replace h := fT rfl h
      refine catX (E := "java/lang/IndexOutOfBoundsException") hown htab [] { startPc := 0, endPc := 9, handlerPc := 12, catchType := 13 } [] rfl (fun z hz => absurd hz List.not_mem_nil) (by decide) (by decide) q0 (hEX.2.2.2.1 1) hce hv hcl ?_
      refine lv_astore_n (lv' := [(3, .ref q), (0, .ref (o 0)), (1, .int a1), (2, .ref v)]) hx hb dL_termCount_12 rfl hl (by decide) rfl (fun ls hl => ?_)
      refine lv_iconst (v := (1 : Int32)) hx hb dL_termCount_13 (by decide) ?_
      cases h
      exact hE _ _ _ _ _ _ (by decide) (by decide) dL_termCount_14 hP hD hS
    replace h := fF c8 h
    exact fN h
  replace e7 := Classical.not_not.mp e7
  subst e7
  replace h := fT rfl h
  refine cV_i (As := [.int a1]) (rest := [.int (0 : Int32), .ref v]) (ws1 := (XO o v y pl te3 be4 cn5 ch le rE rL rP rF rS rD hs ho hc sl fi ou)) ⟨hx, hb, hml, hown, hts⟩ (c_X6_termCount l D o y _ pl te be cn ch le rE rL rP rF rS rD hs ho hc sl fi a1 r2 te3 be4 cn5 g6) (cwV 1 hts gL_termCount_X6_termCount rfl rfl rfl hd_X6_termCount ⟨Nat.le_of_ble_eq_true rfl, Nat.le_of_ble_eq_true rfl⟩) hK hP hD hS hA [0, 1, 2, 3, 4, 5, 6, 7, 8, 9, 10, 11] [12] [1, 2, 3, 4, 5, 6, 7, 8, 9, 10, 11, 12, 0] rfl rfl rfl (by decide) rfl rfl rfl 0 (ci := 4) rfl rfl rfl hl.1 rfl (Nat.le_of_ble_eq_true rfl) dL_termCount_4 ⟨Nat.le_of_ble_eq_true rfl, Nat.le_of_ble_eq_true rfl⟩ (fun H locs hP hD hS => ?_)
  refine lv_i2l (v := r2.toInt64) hx hb dL_termCount_7 rfl ?_
  refine va_last hx hb hK hP hD hS 12 1 rfl rfl (show ¬ ((0 : Int32) < 0 ∨ 1 ≤ (0 : Int32).toNatClampNeg) from by decide) dL_termCount_8 (fun H locs hP hD hS => ?_)
  have hP : va_P D vwCl (XO o v y pl te3 be4 cn5 ch le rE rL rP rF rS rD hs ho hc sl fi (vp_updL ou (0 : Int32).toNatClampNeg r2.toInt64)) H := hP
  have hD : va_D A (XO o v y pl te3 be4 cn5 ch le rE rL rP rF rS rD hs ho hc sl fi (vp_updL ou (0 : Int32).toNatClampNeg r2.toInt64)) := hD
  refine lv_goto (tgt := 15) hx hb dL_termCount_9 (by decide) ?_
  refine lv_iconst (v := (0 : Int32)) hx hb dL_termCount_15 (by decide) ?_
  cases h
  exact hE _ _ _ _ _ _ (by decide) (by decide) dL_termCount_16 hP hD hS
abbrev rm_L_termAt : Room := { frames := 9, cells := 1, slots := 6, locals := 146 }
theorem hd_L_termAt : yL_termAt.cls ≠ "java/lang/invoke/MethodHandle" ∧ yL_termAt.cls ≠ "java/lang/invoke/VarHandle" ∧ (parseMethodDescriptor yL_termAt.desc).map (fun d => d.parameters.length) = some 4 := by decide +kernel
set_option maxHeartbeats 0 in
set_option maxRecDepth 100000 in
theorem c_L_termAt (l : Launch) (hfl : l.stackTraces = false) (D : va_G) (o : Nat → Nat) (v : Nat) (y : Nat → ClassId) (sz : Nat) (pl : Nat → Int64) (te : Nat → Int32) (be : Nat → Int64) (cn : Int32) (ch : Nat → Int32) (le : Int32) (rE : Int32) (rL : Int32) (rP : Int32) (rF : Int32) (rS : Int32) (rD : Int32) (hs : Nat → Int64) (ho : Int32) (hc : Int32) (sl : Nat → Int64) (fi : Nat → Int32) (ou : Nat → Int64) (a1 : Int32) (a2 : Int32) (r : Int32) (te' : Nat → Int32) (be' : Nat → Int64) (cn' : Int32) (ou' : Nat → Int64) (h : F_L_termAt pl te be cn ou a1 a2 = some (r, te', be', cn', ou')) : Met l yL_termAt wsL_termAt rm_L_termAt (va_Pc [.ref (o 0), .int a1, .int a2, .ref v] (pxe D y sz (XO o v y pl te be cn ch le rE rL rP rF rS rD hs ho hc sl fi ou))) (Qri D y sz (XO o v y pl te be cn ch le rE rL rP rF rS rD hs ho hc sl fi ou) (XO o v y pl te' be' cn' ch le rE rL rP rF rS rD hs ho hc sl fi ou') r) 1 6 (va_A (XO o v y pl te be cn ch le rE rL rP rF rS rD hs ho hc sl fi ou) sz) := by
  refine hd_w (cc := cL_termAt) (maxL := 5) rfl rfl (Nat.le_of_ble_eq_true rfl) ?_
  intro p e s m args below meth c A Q H locs ls hx hb hml hts hown hA hP hD hK hS hl hEX htab hE
  have hl : lv_has ls 5 [(0, .ref (o 0)), (1, .int a1), (2, .int a2), (3, .ref v)] := hl
  have q0 := hts (.classLink RL 13 "java/lang/IndexOutOfBoundsException") (by decide +kernel)
  unfold F_L_termAt at h
  refine lv_aload_n hx hb dL_termAt_0 rfl (lv_at hl 3 rfl) ?_
  refine lv_iconst (v := (0 : Int32)) hx hb dL_termAt_1 (by decide) ?_
  refine lv_aload_n hx hb dL_termAt_2 rfl (lv_at hl 0 rfl) ?_
  refine lv_iload_n hx hb dL_termAt_3 rfl (lv_at hl 1 rfl) ?_
  refine lv_iload_n hx hb dL_termAt_4 rfl (lv_at hl 2 rfl) ?_
  obtain ⟨k1, r2, te3, be4, cn5, g6, h⟩ := fB5 h
  by_cases e7 : ¬ k1 = 0
  · replace h := fF e7 h
    refine xc_V (As := [.int a1, .int a2]) (rest := [.int (0 : Int32), .ref v]) (ws1 := (XO o v y pl te3 be4 cn5 ch le rE rL rP rF rS rD hs ho hc sl fi ou)) ⟨hx, hb, hml, hown, hts⟩ (x_X6_termAt l hfl D o y _ pl te be cn ch le rE rL rP rF rS rD hs ho hc sl fi a1 a2 k1 r2 te3 be4 cn5 e7 g6) (cwV 2 hts gL_termAt_X6_termAt rfl rfl rfl hd_X6_termAt ⟨Nat.le_of_ble_eq_true rfl, Nat.le_of_ble_eq_true rfl⟩) hK hP hD hS hA hEX [0, 1, 2, 3, 4, 5, 6, 7, 8, 9, 10, 11] [12] [1, 2, 3, 4, 5, 6, 7, 8, 9, 10, 11, 12, 0] rfl rfl rfl (by decide) rfl rfl rfl 0 (ci := 4) rfl rfl rfl hl.1 rfl (Nat.le_of_ble_eq_true rfl) dL_termAt_5 ⟨Nat.le_of_ble_eq_true rfl, Nat.le_of_ble_eq_true rfl⟩ (fun H locs ce q hP hD hS hce hv hcl => ?_)
    by_cases c8 : k1 = 1
    · subst c8
      replace h := fT rfl h
      refine catX (E := "java/lang/IndexOutOfBoundsException") hown htab [] { startPc := 0, endPc := 10, handlerPc := 13, catchType := 13 } [] rfl (fun z hz => absurd hz List.not_mem_nil) (by decide) (by decide) q0 (hEX.2.2.2.1 1) hce hv hcl ?_
      refine lv_astore (lv' := [(4, .ref q), (0, .ref (o 0)), (1, .int a1), (2, .int a2), (3, .ref v)]) hx hb dL_termAt_13 hl (by decide) rfl (fun ls hl => ?_)
      refine lv_iconst (v := (1 : Int32)) hx hb dL_termAt_15 (by decide) ?_
      cases h
      exact hE _ _ _ _ _ _ (by decide) (by decide) dL_termAt_16 hP hD hS
    replace h := fF c8 h
    exact fN h
  replace e7 := Classical.not_not.mp e7
  subst e7
  replace h := fT rfl h
  refine cV_i (As := [.int a1, .int a2]) (rest := [.int (0 : Int32), .ref v]) (ws1 := (XO o v y pl te3 be4 cn5 ch le rE rL rP rF rS rD hs ho hc sl fi ou)) ⟨hx, hb, hml, hown, hts⟩ (c_X6_termAt l D o y _ pl te be cn ch le rE rL rP rF rS rD hs ho hc sl fi a1 a2 r2 te3 be4 cn5 g6) (cwV 2 hts gL_termAt_X6_termAt rfl rfl rfl hd_X6_termAt ⟨Nat.le_of_ble_eq_true rfl, Nat.le_of_ble_eq_true rfl⟩) hK hP hD hS hA [0, 1, 2, 3, 4, 5, 6, 7, 8, 9, 10, 11] [12] [1, 2, 3, 4, 5, 6, 7, 8, 9, 10, 11, 12, 0] rfl rfl rfl (by decide) rfl rfl rfl 0 (ci := 4) rfl rfl rfl hl.1 rfl (Nat.le_of_ble_eq_true rfl) dL_termAt_5 ⟨Nat.le_of_ble_eq_true rfl, Nat.le_of_ble_eq_true rfl⟩ (fun H locs hP hD hS => ?_)
  refine lv_i2l (v := r2.toInt64) hx hb dL_termAt_8 rfl ?_
  refine va_last hx hb hK hP hD hS 12 1 rfl rfl (show ¬ ((0 : Int32) < 0 ∨ 1 ≤ (0 : Int32).toNatClampNeg) from by decide) dL_termAt_9 (fun H locs hP hD hS => ?_)
  have hP : va_P D vwCl (XO o v y pl te3 be4 cn5 ch le rE rL rP rF rS rD hs ho hc sl fi (vp_updL ou (0 : Int32).toNatClampNeg r2.toInt64)) H := hP
  have hD : va_D A (XO o v y pl te3 be4 cn5 ch le rE rL rP rF rS rD hs ho hc sl fi (vp_updL ou (0 : Int32).toNatClampNeg r2.toInt64)) := hD
  refine lv_goto (tgt := 17) hx hb dL_termAt_10 (by decide) ?_
  refine lv_iconst (v := (0 : Int32)) hx hb dL_termAt_17 (by decide) ?_
  cases h
  exact hE _ _ _ _ _ _ (by decide) (by decide) dL_termAt_18 hP hD hS
abbrev rm_L_beginningNumerator : Room := { frames := 9, cells := 1, slots := 6, locals := 146 }
theorem hd_L_beginningNumerator : yL_beginningNumerator.cls ≠ "java/lang/invoke/MethodHandle" ∧ yL_beginningNumerator.cls ≠ "java/lang/invoke/VarHandle" ∧ (parseMethodDescriptor yL_beginningNumerator.desc).map (fun d => d.parameters.length) = some 4 := by decide +kernel
set_option maxHeartbeats 0 in
set_option maxRecDepth 100000 in
theorem c_L_beginningNumerator (l : Launch) (hfl : l.stackTraces = false) (D : va_G) (o : Nat → Nat) (v : Nat) (y : Nat → ClassId) (sz : Nat) (pl : Nat → Int64) (te : Nat → Int32) (be : Nat → Int64) (cn : Int32) (ch : Nat → Int32) (le : Int32) (rE : Int32) (rL : Int32) (rP : Int32) (rF : Int32) (rS : Int32) (rD : Int32) (hs : Nat → Int64) (ho : Int32) (hc : Int32) (sl : Nat → Int64) (fi : Nat → Int32) (ou : Nat → Int64) (a1 : Int32) (a2 : Int32) (r : Int32) (te' : Nat → Int32) (be' : Nat → Int64) (cn' : Int32) (ou' : Nat → Int64) (h : F_L_beginningNumerator pl te be cn ou a1 a2 = some (r, te', be', cn', ou')) : Met l yL_beginningNumerator wsL_beginningNumerator rm_L_beginningNumerator (va_Pc [.ref (o 0), .int a1, .int a2, .ref v] (pxe D y sz (XO o v y pl te be cn ch le rE rL rP rF rS rD hs ho hc sl fi ou))) (Qri D y sz (XO o v y pl te be cn ch le rE rL rP rF rS rD hs ho hc sl fi ou) (XO o v y pl te' be' cn' ch le rE rL rP rF rS rD hs ho hc sl fi ou') r) 1 6 (va_A (XO o v y pl te be cn ch le rE rL rP rF rS rD hs ho hc sl fi ou) sz) := by
  refine hd_w (cc := cL_beginningNumerator) (maxL := 5) rfl rfl (Nat.le_of_ble_eq_true rfl) ?_
  intro p e s m args below meth c A Q H locs ls hx hb hml hts hown hA hP hD hK hS hl hEX htab hE
  have hl : lv_has ls 5 [(0, .ref (o 0)), (1, .int a1), (2, .int a2), (3, .ref v)] := hl
  have q0 := hts (.classLink RL 13 "java/lang/IndexOutOfBoundsException") (by decide +kernel)
  unfold F_L_beginningNumerator at h
  refine lv_aload_n hx hb dL_beginningNumerator_0 rfl (lv_at hl 3 rfl) ?_
  refine lv_iconst (v := (0 : Int32)) hx hb dL_beginningNumerator_1 (by decide) ?_
  refine lv_aload_n hx hb dL_beginningNumerator_2 rfl (lv_at hl 0 rfl) ?_
  refine lv_iload_n hx hb dL_beginningNumerator_3 rfl (lv_at hl 1 rfl) ?_
  refine lv_iload_n hx hb dL_beginningNumerator_4 rfl (lv_at hl 2 rfl) ?_
  obtain ⟨k1, r2, te3, be4, cn5, g6, h⟩ := fB5 h
  by_cases e7 : ¬ k1 = 0
  · replace h := fF e7 h
    refine xc_V (As := [.int a1, .int a2]) (rest := [.int (0 : Int32), .ref v]) (ws1 := (XO o v y pl te3 be4 cn5 ch le rE rL rP rF rS rD hs ho hc sl fi ou)) ⟨hx, hb, hml, hown, hts⟩ (x_X6_beginningNumerator l hfl D o y _ pl te be cn ch le rE rL rP rF rS rD hs ho hc sl fi a1 a2 k1 r2 te3 be4 cn5 e7 g6) (cwV 2 hts gL_beginningNumerator_X6_beginningNumerator rfl rfl rfl hd_X6_beginningNumerator ⟨Nat.le_of_ble_eq_true rfl, Nat.le_of_ble_eq_true rfl⟩) hK hP hD hS hA hEX [0, 1, 2, 3, 4, 5, 6, 7, 8, 9, 10, 11] [12] [1, 2, 3, 4, 5, 6, 7, 8, 9, 10, 11, 12, 0] rfl rfl rfl (by decide) rfl rfl rfl 0 (ci := 4) rfl rfl rfl hl.1 rfl (Nat.le_of_ble_eq_true rfl) dL_beginningNumerator_5 ⟨Nat.le_of_ble_eq_true rfl, Nat.le_of_ble_eq_true rfl⟩ (fun H locs ce q hP hD hS hce hv hcl => ?_)
    by_cases c8 : k1 = 1
    · subst c8
      replace h := fT rfl h
      refine catX (E := "java/lang/IndexOutOfBoundsException") hown htab [] { startPc := 0, endPc := 10, handlerPc := 13, catchType := 13 } [] rfl (fun z hz => absurd hz List.not_mem_nil) (by decide) (by decide) q0 (hEX.2.2.2.1 1) hce hv hcl ?_
      refine lv_astore (lv' := [(4, .ref q), (0, .ref (o 0)), (1, .int a1), (2, .int a2), (3, .ref v)]) hx hb dL_beginningNumerator_13 hl (by decide) rfl (fun ls hl => ?_)
      refine lv_iconst (v := (1 : Int32)) hx hb dL_beginningNumerator_15 (by decide) ?_
      cases h
      exact hE _ _ _ _ _ _ (by decide) (by decide) dL_beginningNumerator_16 hP hD hS
    replace h := fF c8 h
    exact fN h
  replace e7 := Classical.not_not.mp e7
  subst e7
  replace h := fT rfl h
  refine cV_i (As := [.int a1, .int a2]) (rest := [.int (0 : Int32), .ref v]) (ws1 := (XO o v y pl te3 be4 cn5 ch le rE rL rP rF rS rD hs ho hc sl fi ou)) ⟨hx, hb, hml, hown, hts⟩ (c_X6_beginningNumerator l D o y _ pl te be cn ch le rE rL rP rF rS rD hs ho hc sl fi a1 a2 r2 te3 be4 cn5 g6) (cwV 2 hts gL_beginningNumerator_X6_beginningNumerator rfl rfl rfl hd_X6_beginningNumerator ⟨Nat.le_of_ble_eq_true rfl, Nat.le_of_ble_eq_true rfl⟩) hK hP hD hS hA [0, 1, 2, 3, 4, 5, 6, 7, 8, 9, 10, 11] [12] [1, 2, 3, 4, 5, 6, 7, 8, 9, 10, 11, 12, 0] rfl rfl rfl (by decide) rfl rfl rfl 0 (ci := 4) rfl rfl rfl hl.1 rfl (Nat.le_of_ble_eq_true rfl) dL_beginningNumerator_5 ⟨Nat.le_of_ble_eq_true rfl, Nat.le_of_ble_eq_true rfl⟩ (fun H locs hP hD hS => ?_)
  refine lv_i2l (v := r2.toInt64) hx hb dL_beginningNumerator_8 rfl ?_
  refine va_last hx hb hK hP hD hS 12 1 rfl rfl (show ¬ ((0 : Int32) < 0 ∨ 1 ≤ (0 : Int32).toNatClampNeg) from by decide) dL_beginningNumerator_9 (fun H locs hP hD hS => ?_)
  have hP : va_P D vwCl (XO o v y pl te3 be4 cn5 ch le rE rL rP rF rS rD hs ho hc sl fi (vp_updL ou (0 : Int32).toNatClampNeg r2.toInt64)) H := hP
  have hD : va_D A (XO o v y pl te3 be4 cn5 ch le rE rL rP rF rS rD hs ho hc sl fi (vp_updL ou (0 : Int32).toNatClampNeg r2.toInt64)) := hD
  refine lv_goto (tgt := 17) hx hb dL_beginningNumerator_10 (by decide) ?_
  refine lv_iconst (v := (0 : Int32)) hx hb dL_beginningNumerator_17 (by decide) ?_
  cases h
  exact hE _ _ _ _ _ _ (by decide) (by decide) dL_beginningNumerator_18 hP hD hS
abbrev rm_L_beginningDenominator : Room := { frames := 9, cells := 1, slots := 6, locals := 146 }
theorem hd_L_beginningDenominator : yL_beginningDenominator.cls ≠ "java/lang/invoke/MethodHandle" ∧ yL_beginningDenominator.cls ≠ "java/lang/invoke/VarHandle" ∧ (parseMethodDescriptor yL_beginningDenominator.desc).map (fun d => d.parameters.length) = some 4 := by decide +kernel
set_option maxHeartbeats 0 in
set_option maxRecDepth 100000 in
theorem c_L_beginningDenominator (l : Launch) (hfl : l.stackTraces = false) (D : va_G) (o : Nat → Nat) (v : Nat) (y : Nat → ClassId) (sz : Nat) (pl : Nat → Int64) (te : Nat → Int32) (be : Nat → Int64) (cn : Int32) (ch : Nat → Int32) (le : Int32) (rE : Int32) (rL : Int32) (rP : Int32) (rF : Int32) (rS : Int32) (rD : Int32) (hs : Nat → Int64) (ho : Int32) (hc : Int32) (sl : Nat → Int64) (fi : Nat → Int32) (ou : Nat → Int64) (a1 : Int32) (a2 : Int32) (r : Int32) (te' : Nat → Int32) (be' : Nat → Int64) (cn' : Int32) (ou' : Nat → Int64) (h : F_L_beginningDenominator pl te be cn ou a1 a2 = some (r, te', be', cn', ou')) : Met l yL_beginningDenominator wsL_beginningDenominator rm_L_beginningDenominator (va_Pc [.ref (o 0), .int a1, .int a2, .ref v] (pxe D y sz (XO o v y pl te be cn ch le rE rL rP rF rS rD hs ho hc sl fi ou))) (Qri D y sz (XO o v y pl te be cn ch le rE rL rP rF rS rD hs ho hc sl fi ou) (XO o v y pl te' be' cn' ch le rE rL rP rF rS rD hs ho hc sl fi ou') r) 1 6 (va_A (XO o v y pl te be cn ch le rE rL rP rF rS rD hs ho hc sl fi ou) sz) := by
  refine hd_w (cc := cL_beginningDenominator) (maxL := 5) rfl rfl (Nat.le_of_ble_eq_true rfl) ?_
  intro p e s m args below meth c A Q H locs ls hx hb hml hts hown hA hP hD hK hS hl hEX htab hE
  have hl : lv_has ls 5 [(0, .ref (o 0)), (1, .int a1), (2, .int a2), (3, .ref v)] := hl
  have q0 := hts (.classLink RL 13 "java/lang/IndexOutOfBoundsException") (by decide +kernel)
  unfold F_L_beginningDenominator at h
  refine lv_aload_n hx hb dL_beginningDenominator_0 rfl (lv_at hl 3 rfl) ?_
  refine lv_iconst (v := (0 : Int32)) hx hb dL_beginningDenominator_1 (by decide) ?_
  refine lv_aload_n hx hb dL_beginningDenominator_2 rfl (lv_at hl 0 rfl) ?_
  refine lv_iload_n hx hb dL_beginningDenominator_3 rfl (lv_at hl 1 rfl) ?_
  refine lv_iload_n hx hb dL_beginningDenominator_4 rfl (lv_at hl 2 rfl) ?_
  obtain ⟨k1, r2, te3, be4, cn5, g6, h⟩ := fB5 h
  by_cases e7 : ¬ k1 = 0
  · replace h := fF e7 h
    refine xc_V (As := [.int a1, .int a2]) (rest := [.int (0 : Int32), .ref v]) (ws1 := (XO o v y pl te3 be4 cn5 ch le rE rL rP rF rS rD hs ho hc sl fi ou)) ⟨hx, hb, hml, hown, hts⟩ (x_X6_beginningDenominator l hfl D o y _ pl te be cn ch le rE rL rP rF rS rD hs ho hc sl fi a1 a2 k1 r2 te3 be4 cn5 e7 g6) (cwV 2 hts gL_beginningDenominator_X6_beginningDenominator rfl rfl rfl hd_X6_beginningDenominator ⟨Nat.le_of_ble_eq_true rfl, Nat.le_of_ble_eq_true rfl⟩) hK hP hD hS hA hEX [0, 1, 2, 3, 4, 5, 6, 7, 8, 9, 10, 11] [12] [1, 2, 3, 4, 5, 6, 7, 8, 9, 10, 11, 12, 0] rfl rfl rfl (by decide) rfl rfl rfl 0 (ci := 4) rfl rfl rfl hl.1 rfl (Nat.le_of_ble_eq_true rfl) dL_beginningDenominator_5 ⟨Nat.le_of_ble_eq_true rfl, Nat.le_of_ble_eq_true rfl⟩ (fun H locs ce q hP hD hS hce hv hcl => ?_)
    by_cases c8 : k1 = 1
    · subst c8
      replace h := fT rfl h
      refine catX (E := "java/lang/IndexOutOfBoundsException") hown htab [] { startPc := 0, endPc := 10, handlerPc := 13, catchType := 13 } [] rfl (fun z hz => absurd hz List.not_mem_nil) (by decide) (by decide) q0 (hEX.2.2.2.1 1) hce hv hcl ?_
      refine lv_astore (lv' := [(4, .ref q), (0, .ref (o 0)), (1, .int a1), (2, .int a2), (3, .ref v)]) hx hb dL_beginningDenominator_13 hl (by decide) rfl (fun ls hl => ?_)
      refine lv_iconst (v := (1 : Int32)) hx hb dL_beginningDenominator_15 (by decide) ?_
      cases h
      exact hE _ _ _ _ _ _ (by decide) (by decide) dL_beginningDenominator_16 hP hD hS
    replace h := fF c8 h
    exact fN h
  replace e7 := Classical.not_not.mp e7
  subst e7
  replace h := fT rfl h
  refine cV_i (As := [.int a1, .int a2]) (rest := [.int (0 : Int32), .ref v]) (ws1 := (XO o v y pl te3 be4 cn5 ch le rE rL rP rF rS rD hs ho hc sl fi ou)) ⟨hx, hb, hml, hown, hts⟩ (c_X6_beginningDenominator l D o y _ pl te be cn ch le rE rL rP rF rS rD hs ho hc sl fi a1 a2 r2 te3 be4 cn5 g6) (cwV 2 hts gL_beginningDenominator_X6_beginningDenominator rfl rfl rfl hd_X6_beginningDenominator ⟨Nat.le_of_ble_eq_true rfl, Nat.le_of_ble_eq_true rfl⟩) hK hP hD hS hA [0, 1, 2, 3, 4, 5, 6, 7, 8, 9, 10, 11] [12] [1, 2, 3, 4, 5, 6, 7, 8, 9, 10, 11, 12, 0] rfl rfl rfl (by decide) rfl rfl rfl 0 (ci := 4) rfl rfl rfl hl.1 rfl (Nat.le_of_ble_eq_true rfl) dL_beginningDenominator_5 ⟨Nat.le_of_ble_eq_true rfl, Nat.le_of_ble_eq_true rfl⟩ (fun H locs hP hD hS => ?_)
  refine lv_i2l (v := r2.toInt64) hx hb dL_beginningDenominator_8 rfl ?_
  refine va_last hx hb hK hP hD hS 12 1 rfl rfl (show ¬ ((0 : Int32) < 0 ∨ 1 ≤ (0 : Int32).toNatClampNeg) from by decide) dL_beginningDenominator_9 (fun H locs hP hD hS => ?_)
  have hP : va_P D vwCl (XO o v y pl te3 be4 cn5 ch le rE rL rP rF rS rD hs ho hc sl fi (vp_updL ou (0 : Int32).toNatClampNeg r2.toInt64)) H := hP
  have hD : va_D A (XO o v y pl te3 be4 cn5 ch le rE rL rP rF rS rD hs ho hc sl fi (vp_updL ou (0 : Int32).toNatClampNeg r2.toInt64)) := hD
  refine lv_goto (tgt := 17) hx hb dL_beginningDenominator_10 (by decide) ?_
  refine lv_iconst (v := (0 : Int32)) hx hb dL_beginningDenominator_17 (by decide) ?_
  cases h
  exact hE _ _ _ _ _ _ (by decide) (by decide) dL_beginningDenominator_18 hP hD hS
abbrev rm_L_nearestDenominator : Room := { frames := 9, cells := 1, slots := 6, locals := 160 }
theorem hd_L_nearestDenominator : yL_nearestDenominator.cls ≠ "java/lang/invoke/MethodHandle" ∧ yL_nearestDenominator.cls ≠ "java/lang/invoke/VarHandle" ∧ (parseMethodDescriptor yL_nearestDenominator.desc).map (fun d => d.parameters.length) = some 4 := by decide +kernel
set_option maxHeartbeats 0 in
set_option maxRecDepth 100000 in
theorem c_L_nearestDenominator (l : Launch) (hfl : l.stackTraces = false) (D : va_G) (o : Nat → Nat) (v : Nat) (y : Nat → ClassId) (sz : Nat) (pl : Nat → Int64) (te : Nat → Int32) (be : Nat → Int64) (cn : Int32) (ch : Nat → Int32) (le : Int32) (rE : Int32) (rL : Int32) (rP : Int32) (rF : Int32) (rS : Int32) (rD : Int32) (hs : Nat → Int64) (ho : Int32) (hc : Int32) (sl : Nat → Int64) (fi : Nat → Int32) (ou : Nat → Int64) (a1 : Int32) (a2 : Int32) (r : Int32) (te' : Nat → Int32) (be' : Nat → Int64) (cn' : Int32) (ou' : Nat → Int64) (h : F_L_nearestDenominator pl te be cn ou a1 a2 = some (r, te', be', cn', ou')) : Met l yL_nearestDenominator wsL_nearestDenominator rm_L_nearestDenominator (va_Pc [.ref (o 0), .int a1, .int a2, .ref v] (pxe D y sz (XO o v y pl te be cn ch le rE rL rP rF rS rD hs ho hc sl fi ou))) (Qri D y sz (XO o v y pl te be cn ch le rE rL rP rF rS rD hs ho hc sl fi ou) (XO o v y pl te' be' cn' ch le rE rL rP rF rS rD hs ho hc sl fi ou') r) 1 6 (va_A (XO o v y pl te be cn ch le rE rL rP rF rS rD hs ho hc sl fi ou) sz) := by
  refine hd_w (cc := cL_nearestDenominator) (maxL := 5) rfl rfl (Nat.le_of_ble_eq_true rfl) ?_
  intro p e s m args below meth c A Q H locs ls hx hb hml hts hown hA hP hD hK hS hl hEX htab hE
  have hl : lv_has ls 5 [(0, .ref (o 0)), (1, .int a1), (2, .int a2), (3, .ref v)] := hl
  have q0 := hts (.classLink RL 13 "java/lang/IndexOutOfBoundsException") (by decide +kernel)
  have q1 := hts (.classLink RL 15 "java/lang/IllegalArgumentException") (by decide +kernel)
  unfold F_L_nearestDenominator at h
  refine lv_aload_n hx hb dL_nearestDenominator_0 rfl (lv_at hl 3 rfl) ?_
  refine lv_iconst (v := (0 : Int32)) hx hb dL_nearestDenominator_1 (by decide) ?_
  refine lv_aload_n hx hb dL_nearestDenominator_2 rfl (lv_at hl 0 rfl) ?_
  refine lv_iload_n hx hb dL_nearestDenominator_3 rfl (lv_at hl 1 rfl) ?_
  refine lv_iload_n hx hb dL_nearestDenominator_4 rfl (lv_at hl 2 rfl) ?_
  obtain ⟨k1, r2, te3, be4, cn5, g6, h⟩ := fB5 h
  by_cases e7 : ¬ k1 = 0
  · replace h := fF e7 h
    refine xc_V (As := [.int a1, .int a2]) (rest := [.int (0 : Int32), .ref v]) (ws1 := (XO o v y pl te3 be4 cn5 ch le rE rL rP rF rS rD hs ho hc sl fi ou)) ⟨hx, hb, hml, hown, hts⟩ (x_X6_nearestDenominator l hfl D o y _ pl te be cn ch le rE rL rP rF rS rD hs ho hc sl fi a1 a2 k1 r2 te3 be4 cn5 e7 g6) (cwV 2 hts gL_nearestDenominator_X6_nearestDenominator rfl rfl rfl hd_X6_nearestDenominator ⟨Nat.le_of_ble_eq_true rfl, Nat.le_of_ble_eq_true rfl⟩) hK hP hD hS hA hEX [0, 1, 2, 3, 4, 5, 6, 7, 8, 9, 10, 11] [12] [1, 2, 3, 4, 5, 6, 7, 8, 9, 10, 11, 12, 0] rfl rfl rfl (by decide) rfl rfl rfl 0 (ci := 4) rfl rfl rfl hl.1 rfl (Nat.le_of_ble_eq_true rfl) dL_nearestDenominator_5 ⟨Nat.le_of_ble_eq_true rfl, Nat.le_of_ble_eq_true rfl⟩ (fun H locs ce q hP hD hS hce hv hcl => ?_)
    by_cases c8 : k1 = 1
    · subst c8
      replace h := fT rfl h
      refine catX (E := "java/lang/IndexOutOfBoundsException") hown htab [] { startPc := 0, endPc := 10, handlerPc := 13, catchType := 13 } [{ startPc := 0, endPc := 10, handlerPc := 17, catchType := 15 }] rfl (fun z hz => absurd hz List.not_mem_nil) (by decide) (by decide) q0 (hEX.2.2.2.1 1) hce hv hcl ?_
      refine lv_astore (lv' := [(4, .ref q), (0, .ref (o 0)), (1, .int a1), (2, .int a2), (3, .ref v)]) hx hb dL_nearestDenominator_13 hl (by decide) rfl (fun ls hl => ?_)
      refine lv_iconst (v := (1 : Int32)) hx hb dL_nearestDenominator_15 (by decide) ?_
      cases h
      exact hE _ _ _ _ _ _ (by decide) (by decide) dL_nearestDenominator_16 hP hD hS
    replace h := fF c8 h
    by_cases c9 : k1 = 2
    · subst c9
      replace h := fT rfl h
      refine catX (E := "java/lang/IllegalArgumentException") hown htab [{ startPc := 0, endPc := 10, handlerPc := 13, catchType := 13 }] { startPc := 0, endPc := 10, handlerPc := 17, catchType := 15 } [] rfl (fun z hz => by simp only [List.mem_cons, List.not_mem_nil, or_false] at hz; subst hz; exact ⟨by decide, _, q0, hEX.2.2.2.2.2.1⟩) (by decide) (by decide) q1 (hEX.2.2.2.1 2) hce hv hcl ?_
      refine lv_astore (lv' := [(4, .ref q), (0, .ref (o 0)), (1, .int a1), (2, .int a2), (3, .ref v)]) hx hb dL_nearestDenominator_17 hl (by decide) rfl (fun ls hl => ?_)
      refine lv_iconst (v := (2 : Int32)) hx hb dL_nearestDenominator_19 (by decide) ?_
      cases h
      exact hE _ _ _ _ _ _ (by decide) (by decide) dL_nearestDenominator_20 hP hD hS
    replace h := fF c9 h
    exact fN h
  replace e7 := Classical.not_not.mp e7
  subst e7
  replace h := fT rfl h
  refine cV_i (As := [.int a1, .int a2]) (rest := [.int (0 : Int32), .ref v]) (ws1 := (XO o v y pl te3 be4 cn5 ch le rE rL rP rF rS rD hs ho hc sl fi ou)) ⟨hx, hb, hml, hown, hts⟩ (c_X6_nearestDenominator l D o y _ pl te be cn ch le rE rL rP rF rS rD hs ho hc sl fi a1 a2 r2 te3 be4 cn5 g6) (cwV 2 hts gL_nearestDenominator_X6_nearestDenominator rfl rfl rfl hd_X6_nearestDenominator ⟨Nat.le_of_ble_eq_true rfl, Nat.le_of_ble_eq_true rfl⟩) hK hP hD hS hA [0, 1, 2, 3, 4, 5, 6, 7, 8, 9, 10, 11] [12] [1, 2, 3, 4, 5, 6, 7, 8, 9, 10, 11, 12, 0] rfl rfl rfl (by decide) rfl rfl rfl 0 (ci := 4) rfl rfl rfl hl.1 rfl (Nat.le_of_ble_eq_true rfl) dL_nearestDenominator_5 ⟨Nat.le_of_ble_eq_true rfl, Nat.le_of_ble_eq_true rfl⟩ (fun H locs hP hD hS => ?_)
  refine lv_i2l (v := r2.toInt64) hx hb dL_nearestDenominator_8 rfl ?_
  refine va_last hx hb hK hP hD hS 12 1 rfl rfl (show ¬ ((0 : Int32) < 0 ∨ 1 ≤ (0 : Int32).toNatClampNeg) from by decide) dL_nearestDenominator_9 (fun H locs hP hD hS => ?_)
  have hP : va_P D vwCl (XO o v y pl te3 be4 cn5 ch le rE rL rP rF rS rD hs ho hc sl fi (vp_updL ou (0 : Int32).toNatClampNeg r2.toInt64)) H := hP
  have hD : va_D A (XO o v y pl te3 be4 cn5 ch le rE rL rP rF rS rD hs ho hc sl fi (vp_updL ou (0 : Int32).toNatClampNeg r2.toInt64)) := hD
  refine lv_goto (tgt := 21) hx hb dL_nearestDenominator_10 (by decide) ?_
  refine lv_iconst (v := (0 : Int32)) hx hb dL_nearestDenominator_21 (by decide) ?_
  cases h
  exact hE _ _ _ _ _ _ (by decide) (by decide) dL_nearestDenominator_22 hP hD hS
abbrev rm_L_nearestByTrying : Room := { frames := 8, cells := 1, slots := 6, locals := 124 }
theorem hd_L_nearestByTrying : yL_nearestByTrying.cls ≠ "java/lang/invoke/MethodHandle" ∧ yL_nearestByTrying.cls ≠ "java/lang/invoke/VarHandle" ∧ (parseMethodDescriptor yL_nearestByTrying.desc).map (fun d => d.parameters.length) = some 4 := by decide +kernel
set_option maxHeartbeats 0 in
set_option maxRecDepth 100000 in
theorem c_L_nearestByTrying (l : Launch) (hfl : l.stackTraces = false) (D : va_G) (o : Nat → Nat) (v : Nat) (y : Nat → ClassId) (sz : Nat) (pl : Nat → Int64) (te : Nat → Int32) (be : Nat → Int64) (cn : Int32) (ch : Nat → Int32) (le : Int32) (rE : Int32) (rL : Int32) (rP : Int32) (rF : Int32) (rS : Int32) (rD : Int32) (hs : Nat → Int64) (ho : Int32) (hc : Int32) (sl : Nat → Int64) (fi : Nat → Int32) (ou : Nat → Int64) (a1 : Int32) (a2 : Int32) (r : Int32) (ou' : Nat → Int64) (h : F_L_nearestByTrying pl ou a1 a2 = some (r, ou')) : Met l yL_nearestByTrying wsL_nearestByTrying rm_L_nearestByTrying (va_Pc [.ref (o 0), .int a1, .int a2, .ref v] (pxe D y sz (XO o v y pl te be cn ch le rE rL rP rF rS rD hs ho hc sl fi ou))) (Qri D y sz (XO o v y pl te be cn ch le rE rL rP rF rS rD hs ho hc sl fi ou) (XO o v y pl te be cn ch le rE rL rP rF rS rD hs ho hc sl fi ou') r) 1 6 (va_A (XO o v y pl te be cn ch le rE rL rP rF rS rD hs ho hc sl fi ou) sz) := by
  refine hd_w (cc := cL_nearestByTrying) (maxL := 5) rfl rfl (Nat.le_of_ble_eq_true rfl) ?_
  intro p e s m args below meth c A Q H locs ls hx hb hml hts hown hA hP hD hK hS hl hEX htab hE
  have hl : lv_has ls 5 [(0, .ref (o 0)), (1, .int a1), (2, .int a2), (3, .ref v)] := hl
  have q0 := hts (.classLink RL 13 "java/lang/IndexOutOfBoundsException") (by decide +kernel)
  have q1 := hts (.classLink RL 15 "java/lang/IllegalArgumentException") (by decide +kernel)
  unfold F_L_nearestByTrying at h
  refine lv_aload_n hx hb dL_nearestByTrying_0 rfl (lv_at hl 3 rfl) ?_
  refine lv_iconst (v := (0 : Int32)) hx hb dL_nearestByTrying_1 (by decide) ?_
  refine lv_aload_n hx hb dL_nearestByTrying_2 rfl (lv_at hl 0 rfl) ?_
  refine lv_iload_n hx hb dL_nearestByTrying_3 rfl (lv_at hl 1 rfl) ?_
  refine lv_iload_n hx hb dL_nearestByTrying_4 rfl (lv_at hl 2 rfl) ?_
  obtain ⟨k1, r2, g3, h⟩ := fB2 h
  by_cases e4 : ¬ k1 = 0
  · replace h := fF e4 h
    refine xc_V (As := [.int a1, .int a2]) (rest := [.int (0 : Int32), .ref v]) (ws1 := (XO o v y pl te be cn ch le rE rL rP rF rS rD hs ho hc sl fi ou)) ⟨hx, hb, hml, hown, hts⟩ (x_X6_nearestByTrying l hfl D o y _ pl te be cn ch le rE rL rP rF rS rD hs ho hc sl fi a1 a2 k1 r2 e4 g3) (cwV 2 hts gL_nearestByTrying_X6_nearestByTrying rfl rfl rfl hd_X6_nearestByTrying ⟨Nat.le_of_ble_eq_true rfl, Nat.le_of_ble_eq_true rfl⟩) hK hP hD hS hA hEX [0, 1, 2, 3, 4, 5, 6, 7, 8, 9, 10, 11] [12] [1, 2, 3, 4, 5, 6, 7, 8, 9, 10, 11, 12, 0] rfl rfl rfl (by decide) rfl rfl rfl 0 (ci := 4) rfl rfl rfl hl.1 rfl (Nat.le_of_ble_eq_true rfl) dL_nearestByTrying_5 ⟨Nat.le_of_ble_eq_true rfl, Nat.le_of_ble_eq_true rfl⟩ (fun H locs ce q hP hD hS hce hv hcl => ?_)
    by_cases c5 : k1 = 1
    · subst c5
      replace h := fT rfl h
      refine catX (E := "java/lang/IndexOutOfBoundsException") hown htab [] { startPc := 0, endPc := 10, handlerPc := 13, catchType := 13 } [{ startPc := 0, endPc := 10, handlerPc := 17, catchType := 15 }] rfl (fun z hz => absurd hz List.not_mem_nil) (by decide) (by decide) q0 (hEX.2.2.2.1 1) hce hv hcl ?_
      refine lv_astore (lv' := [(4, .ref q), (0, .ref (o 0)), (1, .int a1), (2, .int a2), (3, .ref v)]) hx hb dL_nearestByTrying_13 hl (by decide) rfl (fun ls hl => ?_)
      refine lv_iconst (v := (1 : Int32)) hx hb dL_nearestByTrying_15 (by decide) ?_
      cases h
      exact hE _ _ _ _ _ _ (by decide) (by decide) dL_nearestByTrying_16 hP hD hS
    replace h := fF c5 h
    by_cases c6 : k1 = 2
    · subst c6
      replace h := fT rfl h
      refine catX (E := "java/lang/IllegalArgumentException") hown htab [{ startPc := 0, endPc := 10, handlerPc := 13, catchType := 13 }] { startPc := 0, endPc := 10, handlerPc := 17, catchType := 15 } [] rfl (fun z hz => by simp only [List.mem_cons, List.not_mem_nil, or_false] at hz; subst hz; exact ⟨by decide, _, q0, hEX.2.2.2.2.2.1⟩) (by decide) (by decide) q1 (hEX.2.2.2.1 2) hce hv hcl ?_
      refine lv_astore (lv' := [(4, .ref q), (0, .ref (o 0)), (1, .int a1), (2, .int a2), (3, .ref v)]) hx hb dL_nearestByTrying_17 hl (by decide) rfl (fun ls hl => ?_)
      refine lv_iconst (v := (2 : Int32)) hx hb dL_nearestByTrying_19 (by decide) ?_
      cases h
      exact hE _ _ _ _ _ _ (by decide) (by decide) dL_nearestByTrying_20 hP hD hS
    replace h := fF c6 h
    exact fN h
  replace e4 := Classical.not_not.mp e4
  subst e4
  replace h := fT rfl h
  refine cV_i (As := [.int a1, .int a2]) (rest := [.int (0 : Int32), .ref v]) (ws1 := (XO o v y pl te be cn ch le rE rL rP rF rS rD hs ho hc sl fi ou)) ⟨hx, hb, hml, hown, hts⟩ (c_X6_nearestByTrying l D o y _ pl te be cn ch le rE rL rP rF rS rD hs ho hc sl fi a1 a2 r2 g3) (cwV 2 hts gL_nearestByTrying_X6_nearestByTrying rfl rfl rfl hd_X6_nearestByTrying ⟨Nat.le_of_ble_eq_true rfl, Nat.le_of_ble_eq_true rfl⟩) hK hP hD hS hA [0, 1, 2, 3, 4, 5, 6, 7, 8, 9, 10, 11] [12] [1, 2, 3, 4, 5, 6, 7, 8, 9, 10, 11, 12, 0] rfl rfl rfl (by decide) rfl rfl rfl 0 (ci := 4) rfl rfl rfl hl.1 rfl (Nat.le_of_ble_eq_true rfl) dL_nearestByTrying_5 ⟨Nat.le_of_ble_eq_true rfl, Nat.le_of_ble_eq_true rfl⟩ (fun H locs hP hD hS => ?_)
  refine lv_i2l (v := r2.toInt64) hx hb dL_nearestByTrying_8 rfl ?_
  refine va_last hx hb hK hP hD hS 12 1 rfl rfl (show ¬ ((0 : Int32) < 0 ∨ 1 ≤ (0 : Int32).toNatClampNeg) from by decide) dL_nearestByTrying_9 (fun H locs hP hD hS => ?_)
  have hP : va_P D vwCl (XO o v y pl te be cn ch le rE rL rP rF rS rD hs ho hc sl fi (vp_updL ou (0 : Int32).toNatClampNeg r2.toInt64)) H := hP
  have hD : va_D A (XO o v y pl te be cn ch le rE rL rP rF rS rD hs ho hc sl fi (vp_updL ou (0 : Int32).toNatClampNeg r2.toInt64)) := hD
  refine lv_goto (tgt := 21) hx hb dL_nearestByTrying_10 (by decide) ?_
  refine lv_iconst (v := (0 : Int32)) hx hb dL_nearestByTrying_21 (by decide) ?_
  cases h
  exact hE _ _ _ _ _ _ (by decide) (by decide) dL_nearestByTrying_22 hP hD hS
abbrev rm_L_nearestNumerator : Room := { frames := 9, cells := 1, slots := 6, locals := 160 }
theorem hd_L_nearestNumerator : yL_nearestNumerator.cls ≠ "java/lang/invoke/MethodHandle" ∧ yL_nearestNumerator.cls ≠ "java/lang/invoke/VarHandle" ∧ (parseMethodDescriptor yL_nearestNumerator.desc).map (fun d => d.parameters.length) = some 4 := by decide +kernel
set_option maxHeartbeats 0 in
set_option maxRecDepth 100000 in
theorem c_L_nearestNumerator (l : Launch) (hfl : l.stackTraces = false) (D : va_G) (o : Nat → Nat) (v : Nat) (y : Nat → ClassId) (sz : Nat) (pl : Nat → Int64) (te : Nat → Int32) (be : Nat → Int64) (cn : Int32) (ch : Nat → Int32) (le : Int32) (rE : Int32) (rL : Int32) (rP : Int32) (rF : Int32) (rS : Int32) (rD : Int32) (hs : Nat → Int64) (ho : Int32) (hc : Int32) (sl : Nat → Int64) (fi : Nat → Int32) (ou : Nat → Int64) (a1 : Int32) (a2 : Int32) (r : Int32) (te' : Nat → Int32) (be' : Nat → Int64) (cn' : Int32) (ou' : Nat → Int64) (h : F_L_nearestNumerator pl te be cn ou a1 a2 = some (r, te', be', cn', ou')) : Met l yL_nearestNumerator wsL_nearestNumerator rm_L_nearestNumerator (va_Pc [.ref (o 0), .int a1, .int a2, .ref v] (pxe D y sz (XO o v y pl te be cn ch le rE rL rP rF rS rD hs ho hc sl fi ou))) (Qri D y sz (XO o v y pl te be cn ch le rE rL rP rF rS rD hs ho hc sl fi ou) (XO o v y pl te' be' cn' ch le rE rL rP rF rS rD hs ho hc sl fi ou') r) 1 6 (va_A (XO o v y pl te be cn ch le rE rL rP rF rS rD hs ho hc sl fi ou) sz) := by
  refine hd_w (cc := cL_nearestNumerator) (maxL := 5) rfl rfl (Nat.le_of_ble_eq_true rfl) ?_
  intro p e s m args below meth c A Q H locs ls hx hb hml hts hown hA hP hD hK hS hl hEX htab hE
  have hl : lv_has ls 5 [(0, .ref (o 0)), (1, .int a1), (2, .int a2), (3, .ref v)] := hl
  have q0 := hts (.classLink RL 13 "java/lang/IndexOutOfBoundsException") (by decide +kernel)
  have q1 := hts (.classLink RL 15 "java/lang/IllegalArgumentException") (by decide +kernel)
  unfold F_L_nearestNumerator at h
  refine lv_aload_n hx hb dL_nearestNumerator_0 rfl (lv_at hl 3 rfl) ?_
  refine lv_iconst (v := (0 : Int32)) hx hb dL_nearestNumerator_1 (by decide) ?_
  refine lv_aload_n hx hb dL_nearestNumerator_2 rfl (lv_at hl 0 rfl) ?_
  refine lv_iload_n hx hb dL_nearestNumerator_3 rfl (lv_at hl 1 rfl) ?_
  refine lv_iload_n hx hb dL_nearestNumerator_4 rfl (lv_at hl 2 rfl) ?_
  obtain ⟨k1, r2, te3, be4, cn5, g6, h⟩ := fB5 h
  by_cases e7 : ¬ k1 = 0
  · replace h := fF e7 h
    refine xc_V (As := [.int a1, .int a2]) (rest := [.int (0 : Int32), .ref v]) (ws1 := (XO o v y pl te3 be4 cn5 ch le rE rL rP rF rS rD hs ho hc sl fi ou)) ⟨hx, hb, hml, hown, hts⟩ (x_X6_nearestNumerator l hfl D o y _ pl te be cn ch le rE rL rP rF rS rD hs ho hc sl fi a1 a2 k1 r2 te3 be4 cn5 e7 g6) (cwV 2 hts gL_nearestNumerator_X6_nearestNumerator rfl rfl rfl hd_X6_nearestNumerator ⟨Nat.le_of_ble_eq_true rfl, Nat.le_of_ble_eq_true rfl⟩) hK hP hD hS hA hEX [0, 1, 2, 3, 4, 5, 6, 7, 8, 9, 10, 11] [12] [1, 2, 3, 4, 5, 6, 7, 8, 9, 10, 11, 12, 0] rfl rfl rfl (by decide) rfl rfl rfl 0 (ci := 4) rfl rfl rfl hl.1 rfl (Nat.le_of_ble_eq_true rfl) dL_nearestNumerator_5 ⟨Nat.le_of_ble_eq_true rfl, Nat.le_of_ble_eq_true rfl⟩ (fun H locs ce q hP hD hS hce hv hcl => ?_)
    by_cases c8 : k1 = 1
    · subst c8
      replace h := fT rfl h
      refine catX (E := "java/lang/IndexOutOfBoundsException") hown htab [] { startPc := 0, endPc := 10, handlerPc := 13, catchType := 13 } [{ startPc := 0, endPc := 10, handlerPc := 17, catchType := 15 }] rfl (fun z hz => absurd hz List.not_mem_nil) (by decide) (by decide) q0 (hEX.2.2.2.1 1) hce hv hcl ?_
      refine lv_astore (lv' := [(4, .ref q), (0, .ref (o 0)), (1, .int a1), (2, .int a2), (3, .ref v)]) hx hb dL_nearestNumerator_13 hl (by decide) rfl (fun ls hl => ?_)
      refine lv_iconst (v := (1 : Int32)) hx hb dL_nearestNumerator_15 (by decide) ?_
      cases h
      exact hE _ _ _ _ _ _ (by decide) (by decide) dL_nearestNumerator_16 hP hD hS
    replace h := fF c8 h
    by_cases c9 : k1 = 2
    · subst c9
      replace h := fT rfl h
      refine catX (E := "java/lang/IllegalArgumentException") hown htab [{ startPc := 0, endPc := 10, handlerPc := 13, catchType := 13 }] { startPc := 0, endPc := 10, handlerPc := 17, catchType := 15 } [] rfl (fun z hz => by simp only [List.mem_cons, List.not_mem_nil, or_false] at hz; subst hz; exact ⟨by decide, _, q0, hEX.2.2.2.2.2.1⟩) (by decide) (by decide) q1 (hEX.2.2.2.1 2) hce hv hcl ?_
      refine lv_astore (lv' := [(4, .ref q), (0, .ref (o 0)), (1, .int a1), (2, .int a2), (3, .ref v)]) hx hb dL_nearestNumerator_17 hl (by decide) rfl (fun ls hl => ?_)
      refine lv_iconst (v := (2 : Int32)) hx hb dL_nearestNumerator_19 (by decide) ?_
      cases h
      exact hE _ _ _ _ _ _ (by decide) (by decide) dL_nearestNumerator_20 hP hD hS
    replace h := fF c9 h
    exact fN h
  replace e7 := Classical.not_not.mp e7
  subst e7
  replace h := fT rfl h
  refine cV_i (As := [.int a1, .int a2]) (rest := [.int (0 : Int32), .ref v]) (ws1 := (XO o v y pl te3 be4 cn5 ch le rE rL rP rF rS rD hs ho hc sl fi ou)) ⟨hx, hb, hml, hown, hts⟩ (c_X6_nearestNumerator l D o y _ pl te be cn ch le rE rL rP rF rS rD hs ho hc sl fi a1 a2 r2 te3 be4 cn5 g6) (cwV 2 hts gL_nearestNumerator_X6_nearestNumerator rfl rfl rfl hd_X6_nearestNumerator ⟨Nat.le_of_ble_eq_true rfl, Nat.le_of_ble_eq_true rfl⟩) hK hP hD hS hA [0, 1, 2, 3, 4, 5, 6, 7, 8, 9, 10, 11] [12] [1, 2, 3, 4, 5, 6, 7, 8, 9, 10, 11, 12, 0] rfl rfl rfl (by decide) rfl rfl rfl 0 (ci := 4) rfl rfl rfl hl.1 rfl (Nat.le_of_ble_eq_true rfl) dL_nearestNumerator_5 ⟨Nat.le_of_ble_eq_true rfl, Nat.le_of_ble_eq_true rfl⟩ (fun H locs hP hD hS => ?_)
  refine lv_i2l (v := r2.toInt64) hx hb dL_nearestNumerator_8 rfl ?_
  refine va_last hx hb hK hP hD hS 12 1 rfl rfl (show ¬ ((0 : Int32) < 0 ∨ 1 ≤ (0 : Int32).toNatClampNeg) from by decide) dL_nearestNumerator_9 (fun H locs hP hD hS => ?_)
  have hP : va_P D vwCl (XO o v y pl te3 be4 cn5 ch le rE rL rP rF rS rD hs ho hc sl fi (vp_updL ou (0 : Int32).toNatClampNeg r2.toInt64)) H := hP
  have hD : va_D A (XO o v y pl te3 be4 cn5 ch le rE rL rP rF rS rD hs ho hc sl fi (vp_updL ou (0 : Int32).toNatClampNeg r2.toInt64)) := hD
  refine lv_goto (tgt := 21) hx hb dL_nearestNumerator_10 (by decide) ?_
  refine lv_iconst (v := (0 : Int32)) hx hb dL_nearestNumerator_21 (by decide) ?_
  cases h
  exact hE _ _ _ _ _ _ (by decide) (by decide) dL_nearestNumerator_22 hP hD hS
abbrev rm_L_unitCount : Room := { frames := 8, cells := 1, slots := 6, locals := 124 }
theorem hd_L_unitCount : yL_unitCount.cls ≠ "java/lang/invoke/MethodHandle" ∧ yL_unitCount.cls ≠ "java/lang/invoke/VarHandle" ∧ (parseMethodDescriptor yL_unitCount.desc).map (fun d => d.parameters.length) = some 3 := by decide +kernel
set_option maxHeartbeats 0 in
set_option maxRecDepth 100000 in
theorem c_L_unitCount (l : Launch) (hfl : l.stackTraces = false) (D : va_G) (o : Nat → Nat) (v : Nat) (y : Nat → ClassId) (sz : Nat) (pl : Nat → Int64) (te : Nat → Int32) (be : Nat → Int64) (cn : Int32) (ch : Nat → Int32) (le : Int32) (rE : Int32) (rL : Int32) (rP : Int32) (rF : Int32) (rS : Int32) (rD : Int32) (hs : Nat → Int64) (ho : Int32) (hc : Int32) (sl : Nat → Int64) (fi : Nat → Int32) (ou : Nat → Int64) (a1 : Int32) (r : Int32) (ou' : Nat → Int64) (h : F_L_unitCount pl ou a1 = some (r, ou')) : Met l yL_unitCount wsL_unitCount rm_L_unitCount (va_Pc [.ref (o 0), .int a1, .ref v] (pxe D y sz (XO o v y pl te be cn ch le rE rL rP rF rS rD hs ho hc sl fi ou))) (Qri D y sz (XO o v y pl te be cn ch le rE rL rP rF rS rD hs ho hc sl fi ou) (XO o v y pl te be cn ch le rE rL rP rF rS rD hs ho hc sl fi ou') r) 1 6 (va_A (XO o v y pl te be cn ch le rE rL rP rF rS rD hs ho hc sl fi ou) sz) := by
  refine hd_w (cc := cL_unitCount) (maxL := 4) rfl rfl (Nat.le_of_ble_eq_true rfl) ?_
  intro p e s m args below meth c A Q H locs ls hx hb hml hts hown hA hP hD hK hS hl hEX htab hE
  have hl : lv_has ls 4 [(0, .ref (o 0)), (1, .int a1), (2, .ref v)] := hl
  have q0 := hts (.classLink RL 13 "java/lang/IndexOutOfBoundsException") (by decide +kernel)
  have q1 := hts (.classLink RL 21 "java/lang/IllegalStateException") (by decide +kernel)
  unfold F_L_unitCount at h
  refine lv_aload_n hx hb dL_unitCount_0 rfl (lv_at hl 2 rfl) ?_
  refine lv_iconst (v := (0 : Int32)) hx hb dL_unitCount_1 (by decide) ?_
  refine lv_aload_n hx hb dL_unitCount_2 rfl (lv_at hl 0 rfl) ?_
  refine lv_iload_n hx hb dL_unitCount_3 rfl (lv_at hl 1 rfl) ?_
  obtain ⟨k1, r2, g3, h⟩ := fB2 h
  by_cases e4 : ¬ k1 = 0
  · replace h := fF e4 h
    refine xc_V (As := [.int a1]) (rest := [.int (0 : Int32), .ref v]) (ws1 := (XO o v y pl te be cn ch le rE rL rP rF rS rD hs ho hc sl fi ou)) ⟨hx, hb, hml, hown, hts⟩ (x_X6_unitCount l hfl D o y _ pl te be cn ch le rE rL rP rF rS rD hs ho hc sl fi a1 k1 r2 e4 g3) (cwV 1 hts gL_unitCount_X6_unitCount rfl rfl rfl hd_X6_unitCount ⟨Nat.le_of_ble_eq_true rfl, Nat.le_of_ble_eq_true rfl⟩) hK hP hD hS hA hEX [0, 1, 2, 3, 4, 5, 6, 7, 8, 9, 10, 11] [12] [1, 2, 3, 4, 5, 6, 7, 8, 9, 10, 11, 12, 0] rfl rfl rfl (by decide) rfl rfl rfl 0 (ci := 4) rfl rfl rfl hl.1 rfl (Nat.le_of_ble_eq_true rfl) dL_unitCount_4 ⟨Nat.le_of_ble_eq_true rfl, Nat.le_of_ble_eq_true rfl⟩ (fun H locs ce q hP hD hS hce hv hcl => ?_)
    by_cases c5 : k1 = 1
    · subst c5
      replace h := fT rfl h
      refine catX (E := "java/lang/IndexOutOfBoundsException") hown htab [] { startPc := 0, endPc := 9, handlerPc := 12, catchType := 13 } [{ startPc := 0, endPc := 9, handlerPc := 15, catchType := 21 }] rfl (fun z hz => absurd hz List.not_mem_nil) (by decide) (by decide) q0 (hEX.2.2.2.1 1) hce hv hcl ?_
      refine lv_astore_n (lv' := [(3, .ref q), (0, .ref (o 0)), (1, .int a1), (2, .ref v)]) hx hb dL_unitCount_12 rfl hl (by decide) rfl (fun ls hl => ?_)
      refine lv_iconst (v := (1 : Int32)) hx hb dL_unitCount_13 (by decide) ?_
      cases h
      exact hE _ _ _ _ _ _ (by decide) (by decide) dL_unitCount_14 hP hD hS
    replace h := fF c5 h
    by_cases c6 : k1 = 3
    · subst c6
      replace h := fT rfl h
      refine catX (E := "java/lang/IllegalStateException") hown htab [{ startPc := 0, endPc := 9, handlerPc := 12, catchType := 13 }] { startPc := 0, endPc := 9, handlerPc := 15, catchType := 21 } [] rfl (fun z hz => by simp only [List.mem_cons, List.not_mem_nil, or_false] at hz; subst hz; exact ⟨by decide, _, q0, hEX.2.2.2.2.2.2.1⟩) (by decide) (by decide) q1 (hEX.2.2.2.1 3) hce hv hcl ?_
      refine lv_astore_n (lv' := [(3, .ref q), (0, .ref (o 0)), (1, .int a1), (2, .ref v)]) hx hb dL_unitCount_15 rfl hl (by decide) rfl (fun ls hl => ?_)
      refine lv_iconst (v := (2 : Int32)) hx hb dL_unitCount_16 (by decide) ?_
      cases h
      exact hE _ _ _ _ _ _ (by decide) (by decide) dL_unitCount_17 hP hD hS
    replace h := fF c6 h
    exact fN h
  replace e4 := Classical.not_not.mp e4
  subst e4
  replace h := fT rfl h
  refine cV_i (As := [.int a1]) (rest := [.int (0 : Int32), .ref v]) (ws1 := (XO o v y pl te be cn ch le rE rL rP rF rS rD hs ho hc sl fi ou)) ⟨hx, hb, hml, hown, hts⟩ (c_X6_unitCount l D o y _ pl te be cn ch le rE rL rP rF rS rD hs ho hc sl fi a1 r2 g3) (cwV 1 hts gL_unitCount_X6_unitCount rfl rfl rfl hd_X6_unitCount ⟨Nat.le_of_ble_eq_true rfl, Nat.le_of_ble_eq_true rfl⟩) hK hP hD hS hA [0, 1, 2, 3, 4, 5, 6, 7, 8, 9, 10, 11] [12] [1, 2, 3, 4, 5, 6, 7, 8, 9, 10, 11, 12, 0] rfl rfl rfl (by decide) rfl rfl rfl 0 (ci := 4) rfl rfl rfl hl.1 rfl (Nat.le_of_ble_eq_true rfl) dL_unitCount_4 ⟨Nat.le_of_ble_eq_true rfl, Nat.le_of_ble_eq_true rfl⟩ (fun H locs hP hD hS => ?_)
  refine lv_i2l (v := r2.toInt64) hx hb dL_unitCount_7 rfl ?_
  refine va_last hx hb hK hP hD hS 12 1 rfl rfl (show ¬ ((0 : Int32) < 0 ∨ 1 ≤ (0 : Int32).toNatClampNeg) from by decide) dL_unitCount_8 (fun H locs hP hD hS => ?_)
  have hP : va_P D vwCl (XO o v y pl te be cn ch le rE rL rP rF rS rD hs ho hc sl fi (vp_updL ou (0 : Int32).toNatClampNeg r2.toInt64)) H := hP
  have hD : va_D A (XO o v y pl te be cn ch le rE rL rP rF rS rD hs ho hc sl fi (vp_updL ou (0 : Int32).toNatClampNeg r2.toInt64)) := hD
  refine lv_goto (tgt := 18) hx hb dL_unitCount_9 (by decide) ?_
  refine lv_iconst (v := (0 : Int32)) hx hb dL_unitCount_18 (by decide) ?_
  cases h
  exact hE _ _ _ _ _ _ (by decide) (by decide) dL_unitCount_19 hP hD hS
abbrev rm_L_unitAt : Room := { frames := 8, cells := 1, slots := 6, locals := 126 }
theorem hd_L_unitAt : yL_unitAt.cls ≠ "java/lang/invoke/MethodHandle" ∧ yL_unitAt.cls ≠ "java/lang/invoke/VarHandle" ∧ (parseMethodDescriptor yL_unitAt.desc).map (fun d => d.parameters.length) = some 4 := by decide +kernel
set_option maxHeartbeats 0 in
set_option maxRecDepth 100000 in
theorem c_L_unitAt (l : Launch) (hfl : l.stackTraces = false) (D : va_G) (o : Nat → Nat) (v : Nat) (y : Nat → ClassId) (sz : Nat) (pl : Nat → Int64) (te : Nat → Int32) (be : Nat → Int64) (cn : Int32) (ch : Nat → Int32) (le : Int32) (rE : Int32) (rL : Int32) (rP : Int32) (rF : Int32) (rS : Int32) (rD : Int32) (hs : Nat → Int64) (ho : Int32) (hc : Int32) (sl : Nat → Int64) (fi : Nat → Int32) (ou : Nat → Int64) (a1 : Int32) (a2 : Int32) (r : Int32) (ou' : Nat → Int64) (h : F_L_unitAt pl ou a1 a2 = some (r, ou')) : Met l yL_unitAt wsL_unitAt rm_L_unitAt (va_Pc [.ref (o 0), .int a1, .int a2, .ref v] (pxe D y sz (XO o v y pl te be cn ch le rE rL rP rF rS rD hs ho hc sl fi ou))) (Qri D y sz (XO o v y pl te be cn ch le rE rL rP rF rS rD hs ho hc sl fi ou) (XO o v y pl te be cn ch le rE rL rP rF rS rD hs ho hc sl fi ou') r) 1 6 (va_A (XO o v y pl te be cn ch le rE rL rP rF rS rD hs ho hc sl fi ou) sz) := by
  refine hd_w (cc := cL_unitAt) (maxL := 5) rfl rfl (Nat.le_of_ble_eq_true rfl) ?_
  intro p e s m args below meth c A Q H locs ls hx hb hml hts hown hA hP hD hK hS hl hEX htab hE
  have hl : lv_has ls 5 [(0, .ref (o 0)), (1, .int a1), (2, .int a2), (3, .ref v)] := hl
  have q0 := hts (.classLink RL 13 "java/lang/IndexOutOfBoundsException") (by decide +kernel)
  have q1 := hts (.classLink RL 21 "java/lang/IllegalStateException") (by decide +kernel)
  unfold F_L_unitAt at h
  refine lv_aload_n hx hb dL_unitAt_0 rfl (lv_at hl 3 rfl) ?_
  refine lv_iconst (v := (0 : Int32)) hx hb dL_unitAt_1 (by decide) ?_
  refine lv_aload_n hx hb dL_unitAt_2 rfl (lv_at hl 0 rfl) ?_
  refine lv_iload_n hx hb dL_unitAt_3 rfl (lv_at hl 1 rfl) ?_
  refine lv_iload_n hx hb dL_unitAt_4 rfl (lv_at hl 2 rfl) ?_
  obtain ⟨k1, r2, g3, h⟩ := fB2 h
  by_cases e4 : ¬ k1 = 0
  · replace h := fF e4 h
    refine xc_V (As := [.int a1, .int a2]) (rest := [.int (0 : Int32), .ref v]) (ws1 := (XO o v y pl te be cn ch le rE rL rP rF rS rD hs ho hc sl fi ou)) ⟨hx, hb, hml, hown, hts⟩ (x_X6_unitAt l hfl D o y _ pl te be cn ch le rE rL rP rF rS rD hs ho hc sl fi a1 a2 k1 r2 e4 g3) (cwV 2 hts gL_unitAt_X6_unitAt rfl rfl rfl hd_X6_unitAt ⟨Nat.le_of_ble_eq_true rfl, Nat.le_of_ble_eq_true rfl⟩) hK hP hD hS hA hEX [0, 1, 2, 3, 4, 5, 6, 7, 8, 9, 10, 11] [12] [1, 2, 3, 4, 5, 6, 7, 8, 9, 10, 11, 12, 0] rfl rfl rfl (by decide) rfl rfl rfl 0 (ci := 4) rfl rfl rfl hl.1 rfl (Nat.le_of_ble_eq_true rfl) dL_unitAt_5 ⟨Nat.le_of_ble_eq_true rfl, Nat.le_of_ble_eq_true rfl⟩ (fun H locs ce q hP hD hS hce hv hcl => ?_)
    by_cases c5 : k1 = 1
    · subst c5
      replace h := fT rfl h
      refine catX (E := "java/lang/IndexOutOfBoundsException") hown htab [] { startPc := 0, endPc := 10, handlerPc := 13, catchType := 13 } [{ startPc := 0, endPc := 10, handlerPc := 17, catchType := 21 }] rfl (fun z hz => absurd hz List.not_mem_nil) (by decide) (by decide) q0 (hEX.2.2.2.1 1) hce hv hcl ?_
      refine lv_astore (lv' := [(4, .ref q), (0, .ref (o 0)), (1, .int a1), (2, .int a2), (3, .ref v)]) hx hb dL_unitAt_13 hl (by decide) rfl (fun ls hl => ?_)
      refine lv_iconst (v := (1 : Int32)) hx hb dL_unitAt_15 (by decide) ?_
      cases h
      exact hE _ _ _ _ _ _ (by decide) (by decide) dL_unitAt_16 hP hD hS
    replace h := fF c5 h
    by_cases c6 : k1 = 3
    · subst c6
      replace h := fT rfl h
      refine catX (E := "java/lang/IllegalStateException") hown htab [{ startPc := 0, endPc := 10, handlerPc := 13, catchType := 13 }] { startPc := 0, endPc := 10, handlerPc := 17, catchType := 21 } [] rfl (fun z hz => by simp only [List.mem_cons, List.not_mem_nil, or_false] at hz; subst hz; exact ⟨by decide, _, q0, hEX.2.2.2.2.2.2.1⟩) (by decide) (by decide) q1 (hEX.2.2.2.1 3) hce hv hcl ?_
      refine lv_astore (lv' := [(4, .ref q), (0, .ref (o 0)), (1, .int a1), (2, .int a2), (3, .ref v)]) hx hb dL_unitAt_17 hl (by decide) rfl (fun ls hl => ?_)
      refine lv_iconst (v := (2 : Int32)) hx hb dL_unitAt_19 (by decide) ?_
      cases h
      exact hE _ _ _ _ _ _ (by decide) (by decide) dL_unitAt_20 hP hD hS
    replace h := fF c6 h
    exact fN h
  replace e4 := Classical.not_not.mp e4
  subst e4
  replace h := fT rfl h
  refine cV_i (As := [.int a1, .int a2]) (rest := [.int (0 : Int32), .ref v]) (ws1 := (XO o v y pl te be cn ch le rE rL rP rF rS rD hs ho hc sl fi ou)) ⟨hx, hb, hml, hown, hts⟩ (c_X6_unitAt l D o y _ pl te be cn ch le rE rL rP rF rS rD hs ho hc sl fi a1 a2 r2 g3) (cwV 2 hts gL_unitAt_X6_unitAt rfl rfl rfl hd_X6_unitAt ⟨Nat.le_of_ble_eq_true rfl, Nat.le_of_ble_eq_true rfl⟩) hK hP hD hS hA [0, 1, 2, 3, 4, 5, 6, 7, 8, 9, 10, 11] [12] [1, 2, 3, 4, 5, 6, 7, 8, 9, 10, 11, 12, 0] rfl rfl rfl (by decide) rfl rfl rfl 0 (ci := 4) rfl rfl rfl hl.1 rfl (Nat.le_of_ble_eq_true rfl) dL_unitAt_5 ⟨Nat.le_of_ble_eq_true rfl, Nat.le_of_ble_eq_true rfl⟩ (fun H locs hP hD hS => ?_)
  refine lv_i2l (v := r2.toInt64) hx hb dL_unitAt_8 rfl ?_
  refine va_last hx hb hK hP hD hS 12 1 rfl rfl (show ¬ ((0 : Int32) < 0 ∨ 1 ≤ (0 : Int32).toNatClampNeg) from by decide) dL_unitAt_9 (fun H locs hP hD hS => ?_)
  have hP : va_P D vwCl (XO o v y pl te be cn ch le rE rL rP rF rS rD hs ho hc sl fi (vp_updL ou (0 : Int32).toNatClampNeg r2.toInt64)) H := hP
  have hD : va_D A (XO o v y pl te be cn ch le rE rL rP rF rS rD hs ho hc sl fi (vp_updL ou (0 : Int32).toNatClampNeg r2.toInt64)) := hD
  refine lv_goto (tgt := 21) hx hb dL_unitAt_10 (by decide) ?_
  refine lv_iconst (v := (0 : Int32)) hx hb dL_unitAt_21 (by decide) ?_
  cases h
  exact hE _ _ _ _ _ _ (by decide) (by decide) dL_unitAt_22 hP hD hS
abbrev rm_L_waySteps : Room := { frames := 9, cells := 1, slots := 6, locals := 144 }
theorem hd_L_waySteps : yL_waySteps.cls ≠ "java/lang/invoke/MethodHandle" ∧ yL_waySteps.cls ≠ "java/lang/invoke/VarHandle" ∧ (parseMethodDescriptor yL_waySteps.desc).map (fun d => d.parameters.length) = some 3 := by decide +kernel
set_option maxHeartbeats 0 in
set_option maxRecDepth 100000 in
theorem c_L_waySteps (l : Launch) (hfl : l.stackTraces = false) (D : va_G) (o : Nat → Nat) (v : Nat) (y : Nat → ClassId) (sz : Nat) (pl : Nat → Int64) (te : Nat → Int32) (be : Nat → Int64) (cn : Int32) (ch : Nat → Int32) (le : Int32) (rE : Int32) (rL : Int32) (rP : Int32) (rF : Int32) (rS : Int32) (rD : Int32) (hs : Nat → Int64) (ho : Int32) (hc : Int32) (sl : Nat → Int64) (fi : Nat → Int32) (ou : Nat → Int64) (a1 : Int32) (r : Int32) (te' : Nat → Int32) (be' : Nat → Int64) (cn' : Int32) (ou' : Nat → Int64) (h : F_L_waySteps pl te be cn ou a1 = some (r, te', be', cn', ou')) : Met l yL_waySteps wsL_waySteps rm_L_waySteps (va_Pc [.ref (o 0), .int a1, .ref v] (pxe D y sz (XO o v y pl te be cn ch le rE rL rP rF rS rD hs ho hc sl fi ou))) (Qri D y sz (XO o v y pl te be cn ch le rE rL rP rF rS rD hs ho hc sl fi ou) (XO o v y pl te' be' cn' ch le rE rL rP rF rS rD hs ho hc sl fi ou') r) 1 6 (va_A (XO o v y pl te be cn ch le rE rL rP rF rS rD hs ho hc sl fi ou) sz) := by
  refine hd_w (cc := cL_waySteps) (maxL := 4) rfl rfl (Nat.le_of_ble_eq_true rfl) ?_
  intro p e s m args below meth c A Q H locs ls hx hb hml hts hown hA hP hD hK hS hl hEX htab hE
  have hl : lv_has ls 4 [(0, .ref (o 0)), (1, .int a1), (2, .ref v)] := hl
  have q0 := hts (.classLink RL 13 "java/lang/IndexOutOfBoundsException") (by decide +kernel)
  have q1 := hts (.classLink RL 21 "java/lang/IllegalStateException") (by decide +kernel)
  unfold F_L_waySteps at h
  refine lv_aload_n hx hb dL_waySteps_0 rfl (lv_at hl 2 rfl) ?_
  refine lv_iconst (v := (0 : Int32)) hx hb dL_waySteps_1 (by decide) ?_
  refine lv_aload_n hx hb dL_waySteps_2 rfl (lv_at hl 0 rfl) ?_
  refine lv_iload_n hx hb dL_waySteps_3 rfl (lv_at hl 1 rfl) ?_
  obtain ⟨k1, r2, te3, be4, cn5, g6, h⟩ := fB5 h
  by_cases e7 : ¬ k1 = 0
  · replace h := fF e7 h
    refine xc_V (As := [.int a1]) (rest := [.int (0 : Int32), .ref v]) (ws1 := (XO o v y pl te3 be4 cn5 ch le rE rL rP rF rS rD hs ho hc sl fi ou)) ⟨hx, hb, hml, hown, hts⟩ (x_X6_waySteps l hfl D o y _ pl te be cn ch le rE rL rP rF rS rD hs ho hc sl fi a1 k1 r2 te3 be4 cn5 e7 g6) (cwV 1 hts gL_waySteps_X6_waySteps rfl rfl rfl hd_X6_waySteps ⟨Nat.le_of_ble_eq_true rfl, Nat.le_of_ble_eq_true rfl⟩) hK hP hD hS hA hEX [0, 1, 2, 3, 4, 5, 6, 7, 8, 9, 10, 11] [12] [1, 2, 3, 4, 5, 6, 7, 8, 9, 10, 11, 12, 0] rfl rfl rfl (by decide) rfl rfl rfl 0 (ci := 4) rfl rfl rfl hl.1 rfl (Nat.le_of_ble_eq_true rfl) dL_waySteps_4 ⟨Nat.le_of_ble_eq_true rfl, Nat.le_of_ble_eq_true rfl⟩ (fun H locs ce q hP hD hS hce hv hcl => ?_)
    by_cases c8 : k1 = 1
    · subst c8
      replace h := fT rfl h
      refine catX (E := "java/lang/IndexOutOfBoundsException") hown htab [] { startPc := 0, endPc := 9, handlerPc := 12, catchType := 13 } [{ startPc := 0, endPc := 9, handlerPc := 15, catchType := 21 }] rfl (fun z hz => absurd hz List.not_mem_nil) (by decide) (by decide) q0 (hEX.2.2.2.1 1) hce hv hcl ?_
      refine lv_astore_n (lv' := [(3, .ref q), (0, .ref (o 0)), (1, .int a1), (2, .ref v)]) hx hb dL_waySteps_12 rfl hl (by decide) rfl (fun ls hl => ?_)
      refine lv_iconst (v := (1 : Int32)) hx hb dL_waySteps_13 (by decide) ?_
      cases h
      exact hE _ _ _ _ _ _ (by decide) (by decide) dL_waySteps_14 hP hD hS
    replace h := fF c8 h
    by_cases c9 : k1 = 3
    · subst c9
      replace h := fT rfl h
      refine catX (E := "java/lang/IllegalStateException") hown htab [{ startPc := 0, endPc := 9, handlerPc := 12, catchType := 13 }] { startPc := 0, endPc := 9, handlerPc := 15, catchType := 21 } [] rfl (fun z hz => by simp only [List.mem_cons, List.not_mem_nil, or_false] at hz; subst hz; exact ⟨by decide, _, q0, hEX.2.2.2.2.2.2.1⟩) (by decide) (by decide) q1 (hEX.2.2.2.1 3) hce hv hcl ?_
      refine lv_astore_n (lv' := [(3, .ref q), (0, .ref (o 0)), (1, .int a1), (2, .ref v)]) hx hb dL_waySteps_15 rfl hl (by decide) rfl (fun ls hl => ?_)
      refine lv_iconst (v := (2 : Int32)) hx hb dL_waySteps_16 (by decide) ?_
      cases h
      exact hE _ _ _ _ _ _ (by decide) (by decide) dL_waySteps_17 hP hD hS
    replace h := fF c9 h
    exact fN h
  replace e7 := Classical.not_not.mp e7
  subst e7
  replace h := fT rfl h
  refine cV_i (As := [.int a1]) (rest := [.int (0 : Int32), .ref v]) (ws1 := (XO o v y pl te3 be4 cn5 ch le rE rL rP rF rS rD hs ho hc sl fi ou)) ⟨hx, hb, hml, hown, hts⟩ (c_X6_waySteps l D o y _ pl te be cn ch le rE rL rP rF rS rD hs ho hc sl fi a1 r2 te3 be4 cn5 g6) (cwV 1 hts gL_waySteps_X6_waySteps rfl rfl rfl hd_X6_waySteps ⟨Nat.le_of_ble_eq_true rfl, Nat.le_of_ble_eq_true rfl⟩) hK hP hD hS hA [0, 1, 2, 3, 4, 5, 6, 7, 8, 9, 10, 11] [12] [1, 2, 3, 4, 5, 6, 7, 8, 9, 10, 11, 12, 0] rfl rfl rfl (by decide) rfl rfl rfl 0 (ci := 4) rfl rfl rfl hl.1 rfl (Nat.le_of_ble_eq_true rfl) dL_waySteps_4 ⟨Nat.le_of_ble_eq_true rfl, Nat.le_of_ble_eq_true rfl⟩ (fun H locs hP hD hS => ?_)
  refine lv_i2l (v := r2.toInt64) hx hb dL_waySteps_7 rfl ?_
  refine va_last hx hb hK hP hD hS 12 1 rfl rfl (show ¬ ((0 : Int32) < 0 ∨ 1 ≤ (0 : Int32).toNatClampNeg) from by decide) dL_waySteps_8 (fun H locs hP hD hS => ?_)
  have hP : va_P D vwCl (XO o v y pl te3 be4 cn5 ch le rE rL rP rF rS rD hs ho hc sl fi (vp_updL ou (0 : Int32).toNatClampNeg r2.toInt64)) H := hP
  have hD : va_D A (XO o v y pl te3 be4 cn5 ch le rE rL rP rF rS rD hs ho hc sl fi (vp_updL ou (0 : Int32).toNatClampNeg r2.toInt64)) := hD
  refine lv_goto (tgt := 18) hx hb dL_waySteps_9 (by decide) ?_
  refine lv_iconst (v := (0 : Int32)) hx hb dL_waySteps_18 (by decide) ?_
  cases h
  exact hE _ _ _ _ _ _ (by decide) (by decide) dL_waySteps_19 hP hD hS
abbrev rm_L_wayTurns : Room := { frames := 9, cells := 1, slots := 6, locals := 145 }
theorem hd_L_wayTurns : yL_wayTurns.cls ≠ "java/lang/invoke/MethodHandle" ∧ yL_wayTurns.cls ≠ "java/lang/invoke/VarHandle" ∧ (parseMethodDescriptor yL_wayTurns.desc).map (fun d => d.parameters.length) = some 3 := by decide +kernel
set_option maxHeartbeats 0 in
set_option maxRecDepth 100000 in
theorem c_L_wayTurns (l : Launch) (hfl : l.stackTraces = false) (D : va_G) (o : Nat → Nat) (v : Nat) (y : Nat → ClassId) (sz : Nat) (pl : Nat → Int64) (te : Nat → Int32) (be : Nat → Int64) (cn : Int32) (ch : Nat → Int32) (le : Int32) (rE : Int32) (rL : Int32) (rP : Int32) (rF : Int32) (rS : Int32) (rD : Int32) (hs : Nat → Int64) (ho : Int32) (hc : Int32) (sl : Nat → Int64) (fi : Nat → Int32) (ou : Nat → Int64) (a1 : Int32) (r : Int32) (te' : Nat → Int32) (be' : Nat → Int64) (cn' : Int32) (ou' : Nat → Int64) (h : F_L_wayTurns pl te be cn ou a1 = some (r, te', be', cn', ou')) : Met l yL_wayTurns wsL_wayTurns rm_L_wayTurns (va_Pc [.ref (o 0), .int a1, .ref v] (pxe D y sz (XO o v y pl te be cn ch le rE rL rP rF rS rD hs ho hc sl fi ou))) (Qri D y sz (XO o v y pl te be cn ch le rE rL rP rF rS rD hs ho hc sl fi ou) (XO o v y pl te' be' cn' ch le rE rL rP rF rS rD hs ho hc sl fi ou') r) 1 6 (va_A (XO o v y pl te be cn ch le rE rL rP rF rS rD hs ho hc sl fi ou) sz) := by
  refine hd_w (cc := cL_wayTurns) (maxL := 4) rfl rfl (Nat.le_of_ble_eq_true rfl) ?_
  intro p e s m args below meth c A Q H locs ls hx hb hml hts hown hA hP hD hK hS hl hEX htab hE
  have hl : lv_has ls 4 [(0, .ref (o 0)), (1, .int a1), (2, .ref v)] := hl
  have q0 := hts (.classLink RL 13 "java/lang/IndexOutOfBoundsException") (by decide +kernel)
  have q1 := hts (.classLink RL 21 "java/lang/IllegalStateException") (by decide +kernel)
  unfold F_L_wayTurns at h
  refine lv_aload_n hx hb dL_wayTurns_0 rfl (lv_at hl 2 rfl) ?_
  refine lv_iconst (v := (0 : Int32)) hx hb dL_wayTurns_1 (by decide) ?_
  refine lv_aload_n hx hb dL_wayTurns_2 rfl (lv_at hl 0 rfl) ?_
  refine lv_iload_n hx hb dL_wayTurns_3 rfl (lv_at hl 1 rfl) ?_
  obtain ⟨k1, r2, te3, be4, cn5, g6, h⟩ := fB5 h
  by_cases e7 : ¬ k1 = 0
  · replace h := fF e7 h
    refine xc_V (As := [.int a1]) (rest := [.int (0 : Int32), .ref v]) (ws1 := (XO o v y pl te3 be4 cn5 ch le rE rL rP rF rS rD hs ho hc sl fi ou)) ⟨hx, hb, hml, hown, hts⟩ (x_X6_wayTurns l hfl D o y _ pl te be cn ch le rE rL rP rF rS rD hs ho hc sl fi a1 k1 r2 te3 be4 cn5 e7 g6) (cwV 1 hts gL_wayTurns_X6_wayTurns rfl rfl rfl hd_X6_wayTurns ⟨Nat.le_of_ble_eq_true rfl, Nat.le_of_ble_eq_true rfl⟩) hK hP hD hS hA hEX [0, 1, 2, 3, 4, 5, 6, 7, 8, 9, 10, 11] [12] [1, 2, 3, 4, 5, 6, 7, 8, 9, 10, 11, 12, 0] rfl rfl rfl (by decide) rfl rfl rfl 0 (ci := 4) rfl rfl rfl hl.1 rfl (Nat.le_of_ble_eq_true rfl) dL_wayTurns_4 ⟨Nat.le_of_ble_eq_true rfl, Nat.le_of_ble_eq_true rfl⟩ (fun H locs ce q hP hD hS hce hv hcl => ?_)
    by_cases c8 : k1 = 1
    · subst c8
      replace h := fT rfl h
      refine catX (E := "java/lang/IndexOutOfBoundsException") hown htab [] { startPc := 0, endPc := 9, handlerPc := 12, catchType := 13 } [{ startPc := 0, endPc := 9, handlerPc := 15, catchType := 21 }] rfl (fun z hz => absurd hz List.not_mem_nil) (by decide) (by decide) q0 (hEX.2.2.2.1 1) hce hv hcl ?_
      refine lv_astore_n (lv' := [(3, .ref q), (0, .ref (o 0)), (1, .int a1), (2, .ref v)]) hx hb dL_wayTurns_12 rfl hl (by decide) rfl (fun ls hl => ?_)
      refine lv_iconst (v := (1 : Int32)) hx hb dL_wayTurns_13 (by decide) ?_
      cases h
      exact hE _ _ _ _ _ _ (by decide) (by decide) dL_wayTurns_14 hP hD hS
    replace h := fF c8 h
    by_cases c9 : k1 = 3
    · subst c9
      replace h := fT rfl h
      refine catX (E := "java/lang/IllegalStateException") hown htab [{ startPc := 0, endPc := 9, handlerPc := 12, catchType := 13 }] { startPc := 0, endPc := 9, handlerPc := 15, catchType := 21 } [] rfl (fun z hz => by simp only [List.mem_cons, List.not_mem_nil, or_false] at hz; subst hz; exact ⟨by decide, _, q0, hEX.2.2.2.2.2.2.1⟩) (by decide) (by decide) q1 (hEX.2.2.2.1 3) hce hv hcl ?_
      refine lv_astore_n (lv' := [(3, .ref q), (0, .ref (o 0)), (1, .int a1), (2, .ref v)]) hx hb dL_wayTurns_15 rfl hl (by decide) rfl (fun ls hl => ?_)
      refine lv_iconst (v := (2 : Int32)) hx hb dL_wayTurns_16 (by decide) ?_
      cases h
      exact hE _ _ _ _ _ _ (by decide) (by decide) dL_wayTurns_17 hP hD hS
    replace h := fF c9 h
    exact fN h
  replace e7 := Classical.not_not.mp e7
  subst e7
  replace h := fT rfl h
  refine cV_i (As := [.int a1]) (rest := [.int (0 : Int32), .ref v]) (ws1 := (XO o v y pl te3 be4 cn5 ch le rE rL rP rF rS rD hs ho hc sl fi ou)) ⟨hx, hb, hml, hown, hts⟩ (c_X6_wayTurns l D o y _ pl te be cn ch le rE rL rP rF rS rD hs ho hc sl fi a1 r2 te3 be4 cn5 g6) (cwV 1 hts gL_wayTurns_X6_wayTurns rfl rfl rfl hd_X6_wayTurns ⟨Nat.le_of_ble_eq_true rfl, Nat.le_of_ble_eq_true rfl⟩) hK hP hD hS hA [0, 1, 2, 3, 4, 5, 6, 7, 8, 9, 10, 11] [12] [1, 2, 3, 4, 5, 6, 7, 8, 9, 10, 11, 12, 0] rfl rfl rfl (by decide) rfl rfl rfl 0 (ci := 4) rfl rfl rfl hl.1 rfl (Nat.le_of_ble_eq_true rfl) dL_wayTurns_4 ⟨Nat.le_of_ble_eq_true rfl, Nat.le_of_ble_eq_true rfl⟩ (fun H locs hP hD hS => ?_)
  refine lv_i2l (v := r2.toInt64) hx hb dL_wayTurns_7 rfl ?_
  refine va_last hx hb hK hP hD hS 12 1 rfl rfl (show ¬ ((0 : Int32) < 0 ∨ 1 ≤ (0 : Int32).toNatClampNeg) from by decide) dL_wayTurns_8 (fun H locs hP hD hS => ?_)
  have hP : va_P D vwCl (XO o v y pl te3 be4 cn5 ch le rE rL rP rF rS rD hs ho hc sl fi (vp_updL ou (0 : Int32).toNatClampNeg r2.toInt64)) H := hP
  have hD : va_D A (XO o v y pl te3 be4 cn5 ch le rE rL rP rF rS rD hs ho hc sl fi (vp_updL ou (0 : Int32).toNatClampNeg r2.toInt64)) := hD
  refine lv_goto (tgt := 18) hx hb dL_wayTurns_9 (by decide) ?_
  refine lv_iconst (v := (0 : Int32)) hx hb dL_wayTurns_18 (by decide) ?_
  cases h
  exact hE _ _ _ _ _ _ (by decide) (by decide) dL_wayTurns_19 hP hD hS
abbrev rm_L_beginsRight : Room := { frames := 9, cells := 1, slots := 6, locals := 144 }
theorem hd_L_beginsRight : yL_beginsRight.cls ≠ "java/lang/invoke/MethodHandle" ∧ yL_beginsRight.cls ≠ "java/lang/invoke/VarHandle" ∧ (parseMethodDescriptor yL_beginsRight.desc).map (fun d => d.parameters.length) = some 3 := by decide +kernel
set_option maxHeartbeats 0 in
set_option maxRecDepth 100000 in
theorem c_L_beginsRight (l : Launch) (hfl : l.stackTraces = false) (D : va_G) (o : Nat → Nat) (v : Nat) (y : Nat → ClassId) (sz : Nat) (pl : Nat → Int64) (te : Nat → Int32) (be : Nat → Int64) (cn : Int32) (ch : Nat → Int32) (le : Int32) (rE : Int32) (rL : Int32) (rP : Int32) (rF : Int32) (rS : Int32) (rD : Int32) (hs : Nat → Int64) (ho : Int32) (hc : Int32) (sl : Nat → Int64) (fi : Nat → Int32) (ou : Nat → Int64) (a1 : Int32) (r : Int32) (ou' : Nat → Int64) (h : F_L_beginsRight pl ou a1 = some (r, ou')) : Met l yL_beginsRight wsL_beginsRight rm_L_beginsRight (va_Pc [.ref (o 0), .int a1, .ref v] (pxe D y sz (XO o v y pl te be cn ch le rE rL rP rF rS rD hs ho hc sl fi ou))) (Qri D y sz (XO o v y pl te be cn ch le rE rL rP rF rS rD hs ho hc sl fi ou) (XO o v y pl te be cn ch le rE rL rP rF rS rD hs ho hc sl fi ou') r) 1 6 (va_A (XO o v y pl te be cn ch le rE rL rP rF rS rD hs ho hc sl fi ou) sz) := by
  refine hd_w (cc := cL_beginsRight) (maxL := 4) rfl rfl (Nat.le_of_ble_eq_true rfl) ?_
  intro p e s m args below meth c A Q H locs ls hx hb hml hts hown hA hP hD hK hS hl hEX htab hE
  have hl : lv_has ls 4 [(0, .ref (o 0)), (1, .int a1), (2, .ref v)] := hl
  have q0 := hts (.classLink RL 13 "java/lang/IndexOutOfBoundsException") (by decide +kernel)
  have q1 := hts (.classLink RL 21 "java/lang/IllegalStateException") (by decide +kernel)
  unfold F_L_beginsRight at h
  refine lv_aload_n hx hb dL_beginsRight_0 rfl (lv_at hl 2 rfl) ?_
  refine lv_iconst (v := (0 : Int32)) hx hb dL_beginsRight_1 (by decide) ?_
  refine lv_aload_n hx hb dL_beginsRight_2 rfl (lv_at hl 0 rfl) ?_
  refine lv_iload_n hx hb dL_beginsRight_3 rfl (lv_at hl 1 rfl) ?_
  obtain ⟨k1, r2, g3, h⟩ := fB2 h
  by_cases e4 : ¬ k1 = 0
  · replace h := fF e4 h
    refine xc_V (As := [.int a1]) (rest := [.int (0 : Int32), .ref v]) (ws1 := (XO o v y pl te be cn ch le rE rL rP rF rS rD hs ho hc sl fi ou)) ⟨hx, hb, hml, hown, hts⟩ (x_X6_beginsRight l hfl D o y _ pl te be cn ch le rE rL rP rF rS rD hs ho hc sl fi a1 k1 r2 e4 g3) (cwV 1 hts gL_beginsRight_X6_beginsRight rfl rfl rfl hd_X6_beginsRight ⟨Nat.le_of_ble_eq_true rfl, Nat.le_of_ble_eq_true rfl⟩) hK hP hD hS hA hEX [0, 1, 2, 3, 4, 5, 6, 7, 8, 9, 10, 11] [12] [1, 2, 3, 4, 5, 6, 7, 8, 9, 10, 11, 12, 0] rfl rfl rfl (by decide) rfl rfl rfl 0 (ci := 4) rfl rfl rfl hl.1 rfl (Nat.le_of_ble_eq_true rfl) dL_beginsRight_4 ⟨Nat.le_of_ble_eq_true rfl, Nat.le_of_ble_eq_true rfl⟩ (fun H locs ce q hP hD hS hce hv hcl => ?_)
    by_cases c5 : k1 = 1
    · subst c5
      replace h := fT rfl h
      refine catX (E := "java/lang/IndexOutOfBoundsException") hown htab [] { startPc := 0, endPc := 16, handlerPc := 19, catchType := 13 } [{ startPc := 0, endPc := 16, handlerPc := 22, catchType := 21 }] rfl (fun z hz => absurd hz List.not_mem_nil) (by decide) (by decide) q0 (hEX.2.2.2.1 1) hce hv hcl ?_
      refine lv_astore_n (lv' := [(3, .ref q), (0, .ref (o 0)), (1, .int a1), (2, .ref v)]) hx hb dL_beginsRight_19 rfl hl (by decide) rfl (fun ls hl => ?_)
      refine lv_iconst (v := (1 : Int32)) hx hb dL_beginsRight_20 (by decide) ?_
      cases h
      exact hE _ _ _ _ _ _ (by decide) (by decide) dL_beginsRight_21 hP hD hS
    replace h := fF c5 h
    by_cases c6 : k1 = 3
    · subst c6
      replace h := fT rfl h
      refine catX (E := "java/lang/IllegalStateException") hown htab [{ startPc := 0, endPc := 16, handlerPc := 19, catchType := 13 }] { startPc := 0, endPc := 16, handlerPc := 22, catchType := 21 } [] rfl (fun z hz => by simp only [List.mem_cons, List.not_mem_nil, or_false] at hz; subst hz; exact ⟨by decide, _, q0, hEX.2.2.2.2.2.2.1⟩) (by decide) (by decide) q1 (hEX.2.2.2.1 3) hce hv hcl ?_
      refine lv_astore_n (lv' := [(3, .ref q), (0, .ref (o 0)), (1, .int a1), (2, .ref v)]) hx hb dL_beginsRight_22 rfl hl (by decide) rfl (fun ls hl => ?_)
      refine lv_iconst (v := (2 : Int32)) hx hb dL_beginsRight_23 (by decide) ?_
      cases h
      exact hE _ _ _ _ _ _ (by decide) (by decide) dL_beginsRight_24 hP hD hS
    replace h := fF c6 h
    exact fN h
  replace e4 := Classical.not_not.mp e4
  subst e4
  replace h := fT rfl h
  refine cV_i (As := [.int a1]) (rest := [.int (0 : Int32), .ref v]) (ws1 := (XO o v y pl te be cn ch le rE rL rP rF rS rD hs ho hc sl fi ou)) ⟨hx, hb, hml, hown, hts⟩ (c_X6_beginsRight l D o y _ pl te be cn ch le rE rL rP rF rS rD hs ho hc sl fi a1 r2 g3) (cwV 1 hts gL_beginsRight_X6_beginsRight rfl rfl rfl hd_X6_beginsRight ⟨Nat.le_of_ble_eq_true rfl, Nat.le_of_ble_eq_true rfl⟩) hK hP hD hS hA [0, 1, 2, 3, 4, 5, 6, 7, 8, 9, 10, 11] [12] [1, 2, 3, 4, 5, 6, 7, 8, 9, 10, 11, 12, 0] rfl rfl rfl (by decide) rfl rfl rfl 0 (ci := 4) rfl rfl rfl hl.1 rfl (Nat.le_of_ble_eq_true rfl) dL_beginsRight_4 ⟨Nat.le_of_ble_eq_true rfl, Nat.le_of_ble_eq_true rfl⟩ (fun H locs hP hD hS => ?_)
  have J7 : ∀ (v8 : Int64) (ls : Array Slot), v8 = (if r2 = (0 : Int32) then (0 : Int64) else (1 : Int64)) → lv_has ls 4 [(0, .ref (o 0)), (1, .int a1), (2, .ref v)] → W p l e rm_L_beginsRight s m args below meth c H locs 0 0 Q (F0 m 15 ls [.long v8, .int (0 : Int32), .ref v]) := by
    intro v8 ls ev8 hl
    subst ev8
    refine va_last hx hb hK hP hD hS 12 1 rfl rfl (show ¬ ((0 : Int32) < 0 ∨ 1 ≤ (0 : Int32).toNatClampNeg) from by decide) dL_beginsRight_15 (fun H locs hP hD hS => ?_)
    have hP : va_P D vwCl (XO o v y pl te be cn ch le rE rL rP rF rS rD hs ho hc sl fi (vp_updL ou (0 : Int32).toNatClampNeg (if r2 = (0 : Int32) then (0 : Int64) else (1 : Int64)))) H := hP
    have hD : va_D A (XO o v y pl te be cn ch le rE rL rP rF rS rD hs ho hc sl fi (vp_updL ou (0 : Int32).toNatClampNeg (if r2 = (0 : Int32) then (0 : Int64) else (1 : Int64)))) := hD
    refine lv_goto (tgt := 25) hx hb dL_beginsRight_16 (by decide) ?_
    refine lv_iconst (v := (0 : Int32)) hx hb dL_beginsRight_25 (by decide) ?_
    cases h
    exact hE _ _ _ _ _ _ (by decide) (by decide) dL_beginsRight_26 hP hD hS
  refine lv_if_eq (tgt := 14) hx hb dL_beginsRight_7 (by decide) (fun c9 => ?_) (fun c9 => ?_)
  · refine lv_lconst (v := (0 : Int64)) hx hb dL_beginsRight_14 rfl ?_
    exact J7 _ _ (by rw [if_pos c9]) (lv_sub hl [0, 1, 2] rfl)
  · refine lv_lconst (v := (1 : Int64)) hx hb dL_beginsRight_10 rfl ?_
    refine lv_goto (tgt := 15) hx hb dL_beginsRight_11 (by decide) ?_
    exact J7 _ _ (by rw [if_neg c9]) (lv_sub hl [0, 1, 2] rfl)
abbrev rm_L_appendText : Room := { frames := 7, cells := 1, slots := 6, locals := 105 }
theorem hd_L_appendText : yL_appendText.cls ≠ "java/lang/invoke/MethodHandle" ∧ yL_appendText.cls ≠ "java/lang/invoke/VarHandle" ∧ (parseMethodDescriptor yL_appendText.desc).map (fun d => d.parameters.length) = some 3 := by decide +kernel
set_option maxHeartbeats 0 in
set_option maxRecDepth 100000 in
theorem c_L_appendText (l : Launch) (hfl : l.stackTraces = false) (D : va_G) (o : Nat → Nat) (v : Nat) (y : Nat → ClassId) (sz : Nat) (pl : Nat → Int64) (te : Nat → Int32) (be : Nat → Int64) (cn : Int32) (ch : Nat → Int32) (le : Int32) (rE : Int32) (rL : Int32) (rP : Int32) (rF : Int32) (rS : Int32) (rD : Int32) (hs : Nat → Int64) (ho : Int32) (hc : Int32) (sl : Nat → Int64) (fi : Nat → Int32) (ou : Nat → Int64) (a1 : Int64) (r : Int32) (ch' : Nat → Int32) (le' : Int32) (ou' : Nat → Int64) (h : F_L_appendText ch le ou a1 = some (r, ch', le', ou')) : Met l yL_appendText wsL_appendText rm_L_appendText (va_Pc [.ref (o 0), .long a1, .ref v] (pxe D y sz (XO o v y pl te be cn ch le rE rL rP rF rS rD hs ho hc sl fi ou))) (Qri D y sz (XO o v y pl te be cn ch le rE rL rP rF rS rD hs ho hc sl fi ou) (XO o v y pl te be cn ch' le' rE rL rP rF rS rD hs ho hc sl fi ou') r) 1 6 (va_A (XO o v y pl te be cn ch le rE rL rP rF rS rD hs ho hc sl fi ou) sz) := by
  refine hd_w (cc := cL_appendText) (maxL := 5) rfl rfl (Nat.le_of_ble_eq_true rfl) ?_
  intro p e s m args below meth c A Q H locs ls hx hb hml hts hown hA hP hD hK hS hl hEX htab hE
  have hl : lv_has ls 5 [(0, .ref (o 0)), (1, .long a1), (3, .ref v)] := hl
  have q0 := hts (.classLink RL 15 "java/lang/IllegalArgumentException") (by decide +kernel)
  have q1 := hts (.classLink RL 21 "java/lang/IllegalStateException") (by decide +kernel)
  unfold F_L_appendText at h
  refine lv_aload_n hx hb dL_appendText_0 rfl (lv_at hl 2 rfl) ?_
  refine lv_iconst (v := (0 : Int32)) hx hb dL_appendText_1 (by decide) ?_
  refine lv_aload_n hx hb dL_appendText_2 rfl (lv_at hl 0 rfl) ?_
  refine lv_lload_n hx hb dL_appendText_3 rfl (lv_at hl 1 rfl) ?_
  obtain ⟨k1, r2, ch3, le4, g5, h⟩ := fB4 h
  by_cases e6 : ¬ k1 = 0
  · replace h := fF e6 h
    refine xc_V (As := [.long a1]) (rest := [.int (0 : Int32), .ref v]) (ws1 := (XO o v y pl te be cn ch3 le4 rE rL rP rF rS rD hs ho hc sl fi ou)) ⟨hx, hb, hml, hown, hts⟩ (x_X6_appendText l hfl D o y _ pl te be cn ch le rE rL rP rF rS rD hs ho hc sl fi a1 k1 r2 ch3 le4 e6 g5) (cwV 1 hts gL_appendText_X6_appendText rfl rfl rfl hd_X6_appendText ⟨Nat.le_of_ble_eq_true rfl, Nat.le_of_ble_eq_true rfl⟩) hK hP hD hS hA hEX [0, 1, 2, 3, 4, 5, 6, 7, 8, 9, 10, 11] [12] [1, 2, 3, 4, 5, 6, 7, 8, 9, 10, 11, 12, 0] rfl rfl rfl (by decide) rfl rfl rfl 0 (ci := 4) rfl rfl rfl hl.1 rfl (Nat.le_of_ble_eq_true rfl) dL_appendText_4 ⟨Nat.le_of_ble_eq_true rfl, Nat.le_of_ble_eq_true rfl⟩ (fun H locs ce q hP hD hS hce hv hcl => ?_)
    by_cases c7 : k1 = 2
    · subst c7
      replace h := fT rfl h
      refine catX (E := "java/lang/IllegalArgumentException") hown htab [] { startPc := 0, endPc := 9, handlerPc := 12, catchType := 15 } [{ startPc := 0, endPc := 9, handlerPc := 16, catchType := 21 }] rfl (fun z hz => absurd hz List.not_mem_nil) (by decide) (by decide) q0 (hEX.2.2.2.1 2) hce hv hcl ?_
      refine lv_astore (lv' := [(4, .ref q), (0, .ref (o 0)), (1, .long a1), (3, .ref v)]) hx hb dL_appendText_12 hl (by decide) rfl (fun ls hl => ?_)
      refine lv_iconst (v := (1 : Int32)) hx hb dL_appendText_14 (by decide) ?_
      cases h
      exact hE _ _ _ _ _ _ (by decide) (by decide) dL_appendText_15 hP hD hS
    replace h := fF c7 h
    by_cases c8 : k1 = 3
    · subst c8
      replace h := fT rfl h
      refine catX (E := "java/lang/IllegalStateException") hown htab [{ startPc := 0, endPc := 9, handlerPc := 12, catchType := 15 }] { startPc := 0, endPc := 9, handlerPc := 16, catchType := 21 } [] rfl (fun z hz => by simp only [List.mem_cons, List.not_mem_nil, or_false] at hz; subst hz; exact ⟨by decide, _, q0, hEX.2.2.2.2.2.2.2⟩) (by decide) (by decide) q1 (hEX.2.2.2.1 3) hce hv hcl ?_
      refine lv_astore (lv' := [(4, .ref q), (0, .ref (o 0)), (1, .long a1), (3, .ref v)]) hx hb dL_appendText_16 hl (by decide) rfl (fun ls hl => ?_)
      refine lv_iconst (v := (2 : Int32)) hx hb dL_appendText_18 (by decide) ?_
      cases h
      exact hE _ _ _ _ _ _ (by decide) (by decide) dL_appendText_19 hP hD hS
    replace h := fF c8 h
    exact fN h
  replace e6 := Classical.not_not.mp e6
  subst e6
  replace h := fT rfl h
  refine cV_i (As := [.long a1]) (rest := [.int (0 : Int32), .ref v]) (ws1 := (XO o v y pl te be cn ch3 le4 rE rL rP rF rS rD hs ho hc sl fi ou)) ⟨hx, hb, hml, hown, hts⟩ (c_X6_appendText l D o y _ pl te be cn ch le rE rL rP rF rS rD hs ho hc sl fi a1 r2 ch3 le4 g5) (cwV 1 hts gL_appendText_X6_appendText rfl rfl rfl hd_X6_appendText ⟨Nat.le_of_ble_eq_true rfl, Nat.le_of_ble_eq_true rfl⟩) hK hP hD hS hA [0, 1, 2, 3, 4, 5, 6, 7, 8, 9, 10, 11] [12] [1, 2, 3, 4, 5, 6, 7, 8, 9, 10, 11, 12, 0] rfl rfl rfl (by decide) rfl rfl rfl 0 (ci := 4) rfl rfl rfl hl.1 rfl (Nat.le_of_ble_eq_true rfl) dL_appendText_4 ⟨Nat.le_of_ble_eq_true rfl, Nat.le_of_ble_eq_true rfl⟩ (fun H locs hP hD hS => ?_)
  refine lv_i2l (v := r2.toInt64) hx hb dL_appendText_7 rfl ?_
  refine va_last hx hb hK hP hD hS 12 1 rfl rfl (show ¬ ((0 : Int32) < 0 ∨ 1 ≤ (0 : Int32).toNatClampNeg) from by decide) dL_appendText_8 (fun H locs hP hD hS => ?_)
  have hP : va_P D vwCl (XO o v y pl te be cn ch3 le4 rE rL rP rF rS rD hs ho hc sl fi (vp_updL ou (0 : Int32).toNatClampNeg r2.toInt64)) H := hP
  have hD : va_D A (XO o v y pl te be cn ch3 le4 rE rL rP rF rS rD hs ho hc sl fi (vp_updL ou (0 : Int32).toNatClampNeg r2.toInt64)) := hD
  refine lv_goto (tgt := 20) hx hb dL_appendText_9 (by decide) ?_
  refine lv_iconst (v := (0 : Int32)) hx hb dL_appendText_20 (by decide) ?_
  cases h
  exact hE _ _ _ _ _ _ (by decide) (by decide) dL_appendText_21 hP hD hS
abbrev rm_L_runText : Room := { frames := 7, cells := 1, slots := 6, locals := 163 }
theorem hd_L_runText : yL_runText.cls ≠ "java/lang/invoke/MethodHandle" ∧ yL_runText.cls ≠ "java/lang/invoke/VarHandle" ∧ (parseMethodDescriptor yL_runText.desc).map (fun d => d.parameters.length) = some 2 := by decide +kernel
set_option maxHeartbeats 0 in
set_option maxRecDepth 100000 in
theorem c_L_runText (l : Launch) (hfl : l.stackTraces = false) (D : va_G) (o : Nat → Nat) (v : Nat) (y : Nat → ClassId) (sz : Nat) (pl : Nat → Int64) (te : Nat → Int32) (be : Nat → Int64) (cn : Int32) (ch : Nat → Int32) (le : Int32) (rE : Int32) (rL : Int32) (rP : Int32) (rF : Int32) (rS : Int32) (rD : Int32) (hs : Nat → Int64) (ho : Int32) (hc : Int32) (sl : Nat → Int64) (fi : Nat → Int32) (ou : Nat → Int64) (r : Int32) (pl' : Nat → Int64) (le' : Int32) (rE' : Int32) (rL' : Int32) (rP' : Int32) (rF' : Int32) (rS' : Int32) (rD' : Int32) (hs' : Nat → Int64) (ho' : Int32) (hc' : Int32) (ou' : Nat → Int64) (h : F_L_runText pl ch le rE rL rP rF rS rD hs ho hc ou = some (r, pl', le', rE', rL', rP', rF', rS', rD', hs', ho', hc', ou')) : Met l yL_runText wsL_runText rm_L_runText (va_Pc [.ref (o 0), .ref v] (pxe D y sz (XO o v y pl te be cn ch le rE rL rP rF rS rD hs ho hc sl fi ou))) (Qri D y sz (XO o v y pl te be cn ch le rE rL rP rF rS rD hs ho hc sl fi ou) (XO o v y pl' te be cn ch le' rE' rL' rP' rF' rS' rD' hs' ho' hc' sl fi ou') r) 1 6 (va_A (XO o v y pl te be cn ch le rE rL rP rF rS rD hs ho hc sl fi ou) sz) := by
  refine hd_w (cc := cL_runText) (maxL := 3) rfl rfl (Nat.le_of_ble_eq_true rfl) ?_
  intro p e s m args below meth c A Q H locs ls hx hb hml hts hown hA hP hD hK hS hl hEX htab hE
  have hl : lv_has ls 3 [(0, .ref (o 0)), (1, .ref v)] := hl
  have q0 := hts (.classLink RL 21 "java/lang/IllegalStateException") (by decide +kernel)
  unfold F_L_runText at h
  refine lv_aload_n hx hb dL_runText_0 rfl (lv_at hl 1 rfl) ?_
  refine lv_iconst (v := (0 : Int32)) hx hb dL_runText_1 (by decide) ?_
  refine lv_aload_n hx hb dL_runText_2 rfl (lv_at hl 0 rfl) ?_
  obtain ⟨k1, r2, pl3, le4, rE5, rL6, rP7, rF8, rS9, rD10, hs11, ho12, hc13, g14, h⟩ := fB13 h
  by_cases e15 : ¬ k1 = 0
  · replace h := fF e15 h
    refine xc_V (As := []) (rest := [.int (0 : Int32), .ref v]) (ws1 := (XO o v y pl3 te be cn ch le4 rE5 rL6 rP7 rF8 rS9 rD10 hs11 ho12 hc13 sl fi ou)) ⟨hx, hb, hml, hown, hts⟩ (x_X6_runText l hfl D o y _ pl te be cn ch le rE rL rP rF rS rD hs ho hc sl fi k1 r2 pl3 le4 rE5 rL6 rP7 rF8 rS9 rD10 hs11 ho12 hc13 e15 g14) (cwV 0 hts gL_runText_X6_runText rfl rfl rfl hd_X6_runText ⟨Nat.le_of_ble_eq_true rfl, Nat.le_of_ble_eq_true rfl⟩) hK hP hD hS hA hEX [0, 1, 2, 3, 4, 5, 6, 7, 8, 9, 10, 11] [12] [1, 2, 3, 4, 5, 6, 7, 8, 9, 10, 11, 12, 0] rfl rfl rfl (by decide) rfl rfl rfl 0 (ci := 4) rfl rfl rfl hl.1 rfl (Nat.le_of_ble_eq_true rfl) dL_runText_3 ⟨Nat.le_of_ble_eq_true rfl, Nat.le_of_ble_eq_true rfl⟩ (fun H locs ce q hP hD hS hce hv hcl => ?_)
    by_cases c16 : k1 = 3
    · subst c16
      replace h := fT rfl h
      refine catX (E := "java/lang/IllegalStateException") hown htab [] { startPc := 0, endPc := 8, handlerPc := 11, catchType := 21 } [] rfl (fun z hz => absurd hz List.not_mem_nil) (by decide) (by decide) q0 (hEX.2.2.2.1 3) hce hv hcl ?_
      refine lv_astore_n (lv' := [(2, .ref q), (0, .ref (o 0)), (1, .ref v)]) hx hb dL_runText_11 rfl hl (by decide) rfl (fun ls hl => ?_)
      refine lv_iconst (v := (1 : Int32)) hx hb dL_runText_12 (by decide) ?_
      cases h
      exact hE _ _ _ _ _ _ (by decide) (by decide) dL_runText_13 hP hD hS
    replace h := fF c16 h
    exact fN h
  replace e15 := Classical.not_not.mp e15
  subst e15
  replace h := fT rfl h
  refine cV_i (As := []) (rest := [.int (0 : Int32), .ref v]) (ws1 := (XO o v y pl3 te be cn ch le4 rE5 rL6 rP7 rF8 rS9 rD10 hs11 ho12 hc13 sl fi ou)) ⟨hx, hb, hml, hown, hts⟩ (c_X6_runText l D o y _ pl te be cn ch le rE rL rP rF rS rD hs ho hc sl fi r2 pl3 le4 rE5 rL6 rP7 rF8 rS9 rD10 hs11 ho12 hc13 g14) (cwV 0 hts gL_runText_X6_runText rfl rfl rfl hd_X6_runText ⟨Nat.le_of_ble_eq_true rfl, Nat.le_of_ble_eq_true rfl⟩) hK hP hD hS hA [0, 1, 2, 3, 4, 5, 6, 7, 8, 9, 10, 11] [12] [1, 2, 3, 4, 5, 6, 7, 8, 9, 10, 11, 12, 0] rfl rfl rfl (by decide) rfl rfl rfl 0 (ci := 4) rfl rfl rfl hl.1 rfl (Nat.le_of_ble_eq_true rfl) dL_runText_3 ⟨Nat.le_of_ble_eq_true rfl, Nat.le_of_ble_eq_true rfl⟩ (fun H locs hP hD hS => ?_)
  refine lv_i2l (v := r2.toInt64) hx hb dL_runText_6 rfl ?_
  refine va_last hx hb hK hP hD hS 12 1 rfl rfl (show ¬ ((0 : Int32) < 0 ∨ 1 ≤ (0 : Int32).toNatClampNeg) from by decide) dL_runText_7 (fun H locs hP hD hS => ?_)
  have hP : va_P D vwCl (XO o v y pl3 te be cn ch le4 rE5 rL6 rP7 rF8 rS9 rD10 hs11 ho12 hc13 sl fi (vp_updL ou (0 : Int32).toNatClampNeg r2.toInt64)) H := hP
  have hD : va_D A (XO o v y pl3 te be cn ch le4 rE5 rL6 rP7 rF8 rS9 rD10 hs11 ho12 hc13 sl fi (vp_updL ou (0 : Int32).toNatClampNeg r2.toInt64)) := hD
  refine lv_goto (tgt := 14) hx hb dL_runText_8 (by decide) ?_
  refine lv_iconst (v := (0 : Int32)) hx hb dL_runText_14 (by decide) ?_
  cases h
  exact hE _ _ _ _ _ _ (by decide) (by decide) dL_runText_15 hP hD hS
abbrev rm_L_undo : Room := { frames := 7, cells := 1, slots := 6, locals := 102 }
theorem hd_L_undo : yL_undo.cls ≠ "java/lang/invoke/MethodHandle" ∧ yL_undo.cls ≠ "java/lang/invoke/VarHandle" ∧ (parseMethodDescriptor yL_undo.desc).map (fun d => d.parameters.length) = some 2 := by decide +kernel
set_option maxHeartbeats 0 in
set_option maxRecDepth 100000 in
theorem c_L_undo (l : Launch) (hfl : l.stackTraces = false) (D : va_G) (o : Nat → Nat) (v : Nat) (y : Nat → ClassId) (sz : Nat) (pl : Nat → Int64) (te : Nat → Int32) (be : Nat → Int64) (cn : Int32) (ch : Nat → Int32) (le : Int32) (rE : Int32) (rL : Int32) (rP : Int32) (rF : Int32) (rS : Int32) (rD : Int32) (hs : Nat → Int64) (ho : Int32) (hc : Int32) (sl : Nat → Int64) (fi : Nat → Int32) (ou : Nat → Int64) (r : Int32) (pl' : Nat → Int64) (hc' : Int32) (ou' : Nat → Int64) (h : F_L_undo pl hs ho hc ou = some (r, pl', hc', ou')) : Met l yL_undo wsL_undo rm_L_undo (va_Pc [.ref (o 0), .ref v] (pxe D y sz (XO o v y pl te be cn ch le rE rL rP rF rS rD hs ho hc sl fi ou))) (Qri D y sz (XO o v y pl te be cn ch le rE rL rP rF rS rD hs ho hc sl fi ou) (XO o v y pl' te be cn ch le rE rL rP rF rS rD hs ho hc' sl fi ou') r) 1 6 (va_A (XO o v y pl te be cn ch le rE rL rP rF rS rD hs ho hc sl fi ou) sz) := by
  refine hd_w (cc := cL_undo) (maxL := 3) rfl rfl (Nat.le_of_ble_eq_true rfl) ?_
  intro p e s m args below meth c A Q H locs ls hx hb hml hts hown hA hP hD hK hS hl hEX htab hE
  have hl : lv_has ls 3 [(0, .ref (o 0)), (1, .ref v)] := hl
  have q0 := hts (.classLink RL 21 "java/lang/IllegalStateException") (by decide +kernel)
  unfold F_L_undo at h
  refine lv_aload_n hx hb dL_undo_0 rfl (lv_at hl 1 rfl) ?_
  refine lv_iconst (v := (0 : Int32)) hx hb dL_undo_1 (by decide) ?_
  refine lv_aload_n hx hb dL_undo_2 rfl (lv_at hl 0 rfl) ?_
  obtain ⟨k1, r2, pl3, hc4, g5, h⟩ := fB4 h
  by_cases e6 : ¬ k1 = 0
  · replace h := fF e6 h
    refine xc_V (As := []) (rest := [.int (0 : Int32), .ref v]) (ws1 := (XO o v y pl3 te be cn ch le rE rL rP rF rS rD hs ho hc4 sl fi ou)) ⟨hx, hb, hml, hown, hts⟩ (x_X6_undo l hfl D o y _ pl te be cn ch le rE rL rP rF rS rD hs ho hc sl fi k1 r2 pl3 hc4 e6 g5) (cwV 0 hts gL_undo_X6_undo rfl rfl rfl hd_X6_undo ⟨Nat.le_of_ble_eq_true rfl, Nat.le_of_ble_eq_true rfl⟩) hK hP hD hS hA hEX [0, 1, 2, 3, 4, 5, 6, 7, 8, 9, 10, 11] [12] [1, 2, 3, 4, 5, 6, 7, 8, 9, 10, 11, 12, 0] rfl rfl rfl (by decide) rfl rfl rfl 0 (ci := 4) rfl rfl rfl hl.1 rfl (Nat.le_of_ble_eq_true rfl) dL_undo_3 ⟨Nat.le_of_ble_eq_true rfl, Nat.le_of_ble_eq_true rfl⟩ (fun H locs ce q hP hD hS hce hv hcl => ?_)
    by_cases c7 : k1 = 3
    · subst c7
      replace h := fT rfl h
      refine catX (E := "java/lang/IllegalStateException") hown htab [] { startPc := 0, endPc := 8, handlerPc := 11, catchType := 21 } [] rfl (fun z hz => absurd hz List.not_mem_nil) (by decide) (by decide) q0 (hEX.2.2.2.1 3) hce hv hcl ?_
      refine lv_astore_n (lv' := [(2, .ref q), (0, .ref (o 0)), (1, .ref v)]) hx hb dL_undo_11 rfl hl (by decide) rfl (fun ls hl => ?_)
      refine lv_iconst (v := (1 : Int32)) hx hb dL_undo_12 (by decide) ?_
      cases h
      exact hE _ _ _ _ _ _ (by decide) (by decide) dL_undo_13 hP hD hS
    replace h := fF c7 h
    exact fN h
  replace e6 := Classical.not_not.mp e6
  subst e6
  replace h := fT rfl h
  refine cV_i (As := []) (rest := [.int (0 : Int32), .ref v]) (ws1 := (XO o v y pl3 te be cn ch le rE rL rP rF rS rD hs ho hc4 sl fi ou)) ⟨hx, hb, hml, hown, hts⟩ (c_X6_undo l D o y _ pl te be cn ch le rE rL rP rF rS rD hs ho hc sl fi r2 pl3 hc4 g5) (cwV 0 hts gL_undo_X6_undo rfl rfl rfl hd_X6_undo ⟨Nat.le_of_ble_eq_true rfl, Nat.le_of_ble_eq_true rfl⟩) hK hP hD hS hA [0, 1, 2, 3, 4, 5, 6, 7, 8, 9, 10, 11] [12] [1, 2, 3, 4, 5, 6, 7, 8, 9, 10, 11, 12, 0] rfl rfl rfl (by decide) rfl rfl rfl 0 (ci := 4) rfl rfl rfl hl.1 rfl (Nat.le_of_ble_eq_true rfl) dL_undo_3 ⟨Nat.le_of_ble_eq_true rfl, Nat.le_of_ble_eq_true rfl⟩ (fun H locs hP hD hS => ?_)
  refine lv_i2l (v := r2.toInt64) hx hb dL_undo_6 rfl ?_
  refine va_last hx hb hK hP hD hS 12 1 rfl rfl (show ¬ ((0 : Int32) < 0 ∨ 1 ≤ (0 : Int32).toNatClampNeg) from by decide) dL_undo_7 (fun H locs hP hD hS => ?_)
  have hP : va_P D vwCl (XO o v y pl3 te be cn ch le rE rL rP rF rS rD hs ho hc4 sl fi (vp_updL ou (0 : Int32).toNatClampNeg r2.toInt64)) H := hP
  have hD : va_D A (XO o v y pl3 te be cn ch le rE rL rP rF rS rD hs ho hc4 sl fi (vp_updL ou (0 : Int32).toNatClampNeg r2.toInt64)) := hD
  refine lv_goto (tgt := 14) hx hb dL_undo_8 (by decide) ?_
  refine lv_iconst (v := (0 : Int32)) hx hb dL_undo_14 (by decide) ?_
  cases h
  exact hE _ _ _ _ _ _ (by decide) (by decide) dL_undo_15 hP hD hS
abbrev rm_L_saveState : Room := { frames := 8, cells := 1, slots := 6, locals := 123 }
theorem hd_L_saveState : yL_saveState.cls ≠ "java/lang/invoke/MethodHandle" ∧ yL_saveState.cls ≠ "java/lang/invoke/VarHandle" ∧ (parseMethodDescriptor yL_saveState.desc).map (fun d => d.parameters.length) = some 3 := by decide +kernel
set_option maxHeartbeats 0 in
set_option maxRecDepth 100000 in
theorem c_L_saveState (l : Launch) (hfl : l.stackTraces = false) (D : va_G) (o : Nat → Nat) (v : Nat) (y : Nat → ClassId) (sz : Nat) (pl : Nat → Int64) (te : Nat → Int32) (be : Nat → Int64) (cn : Int32) (ch : Nat → Int32) (le : Int32) (rE : Int32) (rL : Int32) (rP : Int32) (rF : Int32) (rS : Int32) (rD : Int32) (hs : Nat → Int64) (ho : Int32) (hc : Int32) (sl : Nat → Int64) (fi : Nat → Int32) (ou : Nat → Int64) (a1 : Int32) (r : Int32) (sl' : Nat → Int64) (fi' : Nat → Int32) (ou' : Nat → Int64) (h : F_L_saveState pl sl fi ou a1 = some (r, sl', fi', ou')) : Met l yL_saveState wsL_saveState rm_L_saveState (va_Pc [.ref (o 0), .int a1, .ref v] (pxe D y sz (XO o v y pl te be cn ch le rE rL rP rF rS rD hs ho hc sl fi ou))) (Qri D y sz (XO o v y pl te be cn ch le rE rL rP rF rS rD hs ho hc sl fi ou) (XO o v y pl te be cn ch le rE rL rP rF rS rD hs ho hc sl' fi' ou') r) 1 6 (va_A (XO o v y pl te be cn ch le rE rL rP rF rS rD hs ho hc sl fi ou) sz) := by
  refine hd_w (cc := cL_saveState) (maxL := 4) rfl rfl (Nat.le_of_ble_eq_true rfl) ?_
  intro p e s m args below meth c A Q H locs ls hx hb hml hts hown hA hP hD hK hS hl hEX htab hE
  have hl : lv_has ls 4 [(0, .ref (o 0)), (1, .int a1), (2, .ref v)] := hl
  have q0 := hts (.classLink RL 13 "java/lang/IndexOutOfBoundsException") (by decide +kernel)
  unfold F_L_saveState at h
  refine lv_aload_n hx hb dL_saveState_0 rfl (lv_at hl 2 rfl) ?_
  refine lv_iconst (v := (0 : Int32)) hx hb dL_saveState_1 (by decide) ?_
  refine lv_aload_n hx hb dL_saveState_2 rfl (lv_at hl 0 rfl) ?_
  refine lv_iload_n hx hb dL_saveState_3 rfl (lv_at hl 1 rfl) ?_
  obtain ⟨k1, r2, sl3, fi4, g5, h⟩ := fB4 h
  by_cases e6 : ¬ k1 = 0
  · replace h := fF e6 h
    refine xc_V (As := [.int a1]) (rest := [.int (0 : Int32), .ref v]) (ws1 := (XO o v y pl te be cn ch le rE rL rP rF rS rD hs ho hc sl3 fi4 ou)) ⟨hx, hb, hml, hown, hts⟩ (x_X6_saveState l hfl D o y _ pl te be cn ch le rE rL rP rF rS rD hs ho hc sl fi a1 k1 r2 sl3 fi4 e6 g5) (cwV 1 hts gL_saveState_X6_saveState rfl rfl rfl hd_X6_saveState ⟨Nat.le_of_ble_eq_true rfl, Nat.le_of_ble_eq_true rfl⟩) hK hP hD hS hA hEX [0, 1, 2, 3, 4, 5, 6, 7, 8, 9, 10, 11] [12] [1, 2, 3, 4, 5, 6, 7, 8, 9, 10, 11, 12, 0] rfl rfl rfl (by decide) rfl rfl rfl 0 (ci := 4) rfl rfl rfl hl.1 rfl (Nat.le_of_ble_eq_true rfl) dL_saveState_4 ⟨Nat.le_of_ble_eq_true rfl, Nat.le_of_ble_eq_true rfl⟩ (fun H locs ce q hP hD hS hce hv hcl => ?_)
    by_cases c7 : k1 = 1
    · subst c7
      replace h := fT rfl h
      refine catX (E := "java/lang/IndexOutOfBoundsException") hown htab [] { startPc := 0, endPc := 9, handlerPc := 12, catchType := 13 } [] rfl (fun z hz => absurd hz List.not_mem_nil) (by decide) (by decide) q0 (hEX.2.2.2.1 1) hce hv hcl ?_
      refine lv_astore_n (lv' := [(3, .ref q), (0, .ref (o 0)), (1, .int a1), (2, .ref v)]) hx hb dL_saveState_12 rfl hl (by decide) rfl (fun ls hl => ?_)
      refine lv_iconst (v := (1 : Int32)) hx hb dL_saveState_13 (by decide) ?_
      cases h
      exact hE _ _ _ _ _ _ (by decide) (by decide) dL_saveState_14 hP hD hS
    replace h := fF c7 h
    exact fN h
  replace e6 := Classical.not_not.mp e6
  subst e6
  replace h := fT rfl h
  refine cV_i (As := [.int a1]) (rest := [.int (0 : Int32), .ref v]) (ws1 := (XO o v y pl te be cn ch le rE rL rP rF rS rD hs ho hc sl3 fi4 ou)) ⟨hx, hb, hml, hown, hts⟩ (c_X6_saveState l D o y _ pl te be cn ch le rE rL rP rF rS rD hs ho hc sl fi a1 r2 sl3 fi4 g5) (cwV 1 hts gL_saveState_X6_saveState rfl rfl rfl hd_X6_saveState ⟨Nat.le_of_ble_eq_true rfl, Nat.le_of_ble_eq_true rfl⟩) hK hP hD hS hA [0, 1, 2, 3, 4, 5, 6, 7, 8, 9, 10, 11] [12] [1, 2, 3, 4, 5, 6, 7, 8, 9, 10, 11, 12, 0] rfl rfl rfl (by decide) rfl rfl rfl 0 (ci := 4) rfl rfl rfl hl.1 rfl (Nat.le_of_ble_eq_true rfl) dL_saveState_4 ⟨Nat.le_of_ble_eq_true rfl, Nat.le_of_ble_eq_true rfl⟩ (fun H locs hP hD hS => ?_)
  refine lv_i2l (v := r2.toInt64) hx hb dL_saveState_7 rfl ?_
  refine va_last hx hb hK hP hD hS 12 1 rfl rfl (show ¬ ((0 : Int32) < 0 ∨ 1 ≤ (0 : Int32).toNatClampNeg) from by decide) dL_saveState_8 (fun H locs hP hD hS => ?_)
  have hP : va_P D vwCl (XO o v y pl te be cn ch le rE rL rP rF rS rD hs ho hc sl3 fi4 (vp_updL ou (0 : Int32).toNatClampNeg r2.toInt64)) H := hP
  have hD : va_D A (XO o v y pl te be cn ch le rE rL rP rF rS rD hs ho hc sl3 fi4 (vp_updL ou (0 : Int32).toNatClampNeg r2.toInt64)) := hD
  refine lv_goto (tgt := 15) hx hb dL_saveState_9 (by decide) ?_
  refine lv_iconst (v := (0 : Int32)) hx hb dL_saveState_15 (by decide) ?_
  cases h
  exact hE _ _ _ _ _ _ (by decide) (by decide) dL_saveState_16 hP hD hS
abbrev rm_L_loadState : Room := { frames := 8, cells := 1, slots := 6, locals := 123 }
theorem hd_L_loadState : yL_loadState.cls ≠ "java/lang/invoke/MethodHandle" ∧ yL_loadState.cls ≠ "java/lang/invoke/VarHandle" ∧ (parseMethodDescriptor yL_loadState.desc).map (fun d => d.parameters.length) = some 3 := by decide +kernel
set_option maxHeartbeats 0 in
set_option maxRecDepth 100000 in
theorem c_L_loadState (l : Launch) (hfl : l.stackTraces = false) (D : va_G) (o : Nat → Nat) (v : Nat) (y : Nat → ClassId) (sz : Nat) (pl : Nat → Int64) (te : Nat → Int32) (be : Nat → Int64) (cn : Int32) (ch : Nat → Int32) (le : Int32) (rE : Int32) (rL : Int32) (rP : Int32) (rF : Int32) (rS : Int32) (rD : Int32) (hs : Nat → Int64) (ho : Int32) (hc : Int32) (sl : Nat → Int64) (fi : Nat → Int32) (ou : Nat → Int64) (a1 : Int32) (r : Int32) (pl' : Nat → Int64) (hs' : Nat → Int64) (ho' : Int32) (hc' : Int32) (ou' : Nat → Int64) (h : F_L_loadState pl hs ho hc sl fi ou a1 = some (r, pl', hs', ho', hc', ou')) : Met l yL_loadState wsL_loadState rm_L_loadState (va_Pc [.ref (o 0), .int a1, .ref v] (pxe D y sz (XO o v y pl te be cn ch le rE rL rP rF rS rD hs ho hc sl fi ou))) (Qri D y sz (XO o v y pl te be cn ch le rE rL rP rF rS rD hs ho hc sl fi ou) (XO o v y pl' te be cn ch le rE rL rP rF rS rD hs' ho' hc' sl fi ou') r) 1 6 (va_A (XO o v y pl te be cn ch le rE rL rP rF rS rD hs ho hc sl fi ou) sz) := by
  refine hd_w (cc := cL_loadState) (maxL := 4) rfl rfl (Nat.le_of_ble_eq_true rfl) ?_
  intro p e s m args below meth c A Q H locs ls hx hb hml hts hown hA hP hD hK hS hl hEX htab hE
  have hl : lv_has ls 4 [(0, .ref (o 0)), (1, .int a1), (2, .ref v)] := hl
  have q0 := hts (.classLink RL 13 "java/lang/IndexOutOfBoundsException") (by decide +kernel)
  have q1 := hts (.classLink RL 21 "java/lang/IllegalStateException") (by decide +kernel)
  unfold F_L_loadState at h
  refine lv_aload_n hx hb dL_loadState_0 rfl (lv_at hl 2 rfl) ?_
  refine lv_iconst (v := (0 : Int32)) hx hb dL_loadState_1 (by decide) ?_
  refine lv_aload_n hx hb dL_loadState_2 rfl (lv_at hl 0 rfl) ?_
  refine lv_iload_n hx hb dL_loadState_3 rfl (lv_at hl 1 rfl) ?_
  obtain ⟨k1, r2, pl3, hs4, ho5, hc6, g7, h⟩ := fB6 h
  by_cases e8 : ¬ k1 = 0
  · replace h := fF e8 h
    refine xc_V (As := [.int a1]) (rest := [.int (0 : Int32), .ref v]) (ws1 := (XO o v y pl3 te be cn ch le rE rL rP rF rS rD hs4 ho5 hc6 sl fi ou)) ⟨hx, hb, hml, hown, hts⟩ (x_X6_loadState l hfl D o y _ pl te be cn ch le rE rL rP rF rS rD hs ho hc sl fi a1 k1 r2 pl3 hs4 ho5 hc6 e8 g7) (cwV 1 hts gL_loadState_X6_loadState rfl rfl rfl hd_X6_loadState ⟨Nat.le_of_ble_eq_true rfl, Nat.le_of_ble_eq_true rfl⟩) hK hP hD hS hA hEX [0, 1, 2, 3, 4, 5, 6, 7, 8, 9, 10, 11] [12] [1, 2, 3, 4, 5, 6, 7, 8, 9, 10, 11, 12, 0] rfl rfl rfl (by decide) rfl rfl rfl 0 (ci := 4) rfl rfl rfl hl.1 rfl (Nat.le_of_ble_eq_true rfl) dL_loadState_4 ⟨Nat.le_of_ble_eq_true rfl, Nat.le_of_ble_eq_true rfl⟩ (fun H locs ce q hP hD hS hce hv hcl => ?_)
    by_cases c9 : k1 = 1
    · subst c9
      replace h := fT rfl h
      refine catX (E := "java/lang/IndexOutOfBoundsException") hown htab [] { startPc := 0, endPc := 9, handlerPc := 12, catchType := 13 } [{ startPc := 0, endPc := 9, handlerPc := 15, catchType := 21 }] rfl (fun z hz => absurd hz List.not_mem_nil) (by decide) (by decide) q0 (hEX.2.2.2.1 1) hce hv hcl ?_
      refine lv_astore_n (lv' := [(3, .ref q), (0, .ref (o 0)), (1, .int a1), (2, .ref v)]) hx hb dL_loadState_12 rfl hl (by decide) rfl (fun ls hl => ?_)
      refine lv_iconst (v := (1 : Int32)) hx hb dL_loadState_13 (by decide) ?_
      cases h
      exact hE _ _ _ _ _ _ (by decide) (by decide) dL_loadState_14 hP hD hS
    replace h := fF c9 h
    by_cases c10 : k1 = 3
    · subst c10
      replace h := fT rfl h
      refine catX (E := "java/lang/IllegalStateException") hown htab [{ startPc := 0, endPc := 9, handlerPc := 12, catchType := 13 }] { startPc := 0, endPc := 9, handlerPc := 15, catchType := 21 } [] rfl (fun z hz => by simp only [List.mem_cons, List.not_mem_nil, or_false] at hz; subst hz; exact ⟨by decide, _, q0, hEX.2.2.2.2.2.2.1⟩) (by decide) (by decide) q1 (hEX.2.2.2.1 3) hce hv hcl ?_
      refine lv_astore_n (lv' := [(3, .ref q), (0, .ref (o 0)), (1, .int a1), (2, .ref v)]) hx hb dL_loadState_15 rfl hl (by decide) rfl (fun ls hl => ?_)
      refine lv_iconst (v := (2 : Int32)) hx hb dL_loadState_16 (by decide) ?_
      cases h
      exact hE _ _ _ _ _ _ (by decide) (by decide) dL_loadState_17 hP hD hS
    replace h := fF c10 h
    exact fN h
  replace e8 := Classical.not_not.mp e8
  subst e8
  replace h := fT rfl h
  refine cV_i (As := [.int a1]) (rest := [.int (0 : Int32), .ref v]) (ws1 := (XO o v y pl3 te be cn ch le rE rL rP rF rS rD hs4 ho5 hc6 sl fi ou)) ⟨hx, hb, hml, hown, hts⟩ (c_X6_loadState l D o y _ pl te be cn ch le rE rL rP rF rS rD hs ho hc sl fi a1 r2 pl3 hs4 ho5 hc6 g7) (cwV 1 hts gL_loadState_X6_loadState rfl rfl rfl hd_X6_loadState ⟨Nat.le_of_ble_eq_true rfl, Nat.le_of_ble_eq_true rfl⟩) hK hP hD hS hA [0, 1, 2, 3, 4, 5, 6, 7, 8, 9, 10, 11] [12] [1, 2, 3, 4, 5, 6, 7, 8, 9, 10, 11, 12, 0] rfl rfl rfl (by decide) rfl rfl rfl 0 (ci := 4) rfl rfl rfl hl.1 rfl (Nat.le_of_ble_eq_true rfl) dL_loadState_4 ⟨Nat.le_of_ble_eq_true rfl, Nat.le_of_ble_eq_true rfl⟩ (fun H locs hP hD hS => ?_)
  refine lv_i2l (v := r2.toInt64) hx hb dL_loadState_7 rfl ?_
  refine va_last hx hb hK hP hD hS 12 1 rfl rfl (show ¬ ((0 : Int32) < 0 ∨ 1 ≤ (0 : Int32).toNatClampNeg) from by decide) dL_loadState_8 (fun H locs hP hD hS => ?_)
  have hP : va_P D vwCl (XO o v y pl3 te be cn ch le rE rL rP rF rS rD hs4 ho5 hc6 sl fi (vp_updL ou (0 : Int32).toNatClampNeg r2.toInt64)) H := hP
  have hD : va_D A (XO o v y pl3 te be cn ch le rE rL rP rF rS rD hs4 ho5 hc6 sl fi (vp_updL ou (0 : Int32).toNatClampNeg r2.toInt64)) := hD
  refine lv_goto (tgt := 18) hx hb dL_loadState_9 (by decide) ?_
  refine lv_iconst (v := (0 : Int32)) hx hb dL_loadState_18 (by decide) ?_
  cases h
  exact hE _ _ _ _ _ _ (by decide) (by decide) dL_loadState_19 hP hD hS
