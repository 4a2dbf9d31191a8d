abbrev rm_X6_commonParts : Room := { frames := 2, cells := 0, slots := 0, locals := 45 }
theorem hd_X6_commonParts : yX6_commonParts.cls = RX6 ∧ yX6_commonParts.cls ≠ "java/lang/invoke/MethodHandle" ∧ yX6_commonParts.cls ≠ "java/lang/invoke/VarHandle" ∧ (parseMethodDescriptor yX6_commonParts.desc).map (fun d => d.parameters.length) = some 0 := by decide +kernel
set_option maxHeartbeats 0 in
set_option maxRecDepth 100000 in
theorem c_X6_commonParts (l : Launch) (D : va_G) (o : Nat → Nat) (y : Nat → ClassId) (sz : Nat) (pl : Nat → Int64) (te : Nat → Int32) (be : Nat → Int64) (cn : Int32) (ch : Nat → Int32) (le : Int32) (rE : Int32) (rL : Int32) (rP : Int32) (rF : Int32) (rS : Int32) (rD : Int32) (hs : Nat → Int64) (ho : Int32) (hc : Int32) (sl : Nat → Int64) (fi : Nat → Int32) (r : Int64) (h : F_X6_commonParts pl = some r) : Met l yX6_commonParts wsX6_commonParts rm_X6_commonParts (va_Pc [.ref (o 0)] (px D y sz (XW o y pl te be cn ch le rE rL rP rF rS rD hs ho hc sl fi))) (Qrl D y sz (XW o y pl te be cn ch le rE rL rP rF rS rD hs ho hc sl fi) (XW o y pl te be cn ch le rE rL rP rF rS rD hs ho hc sl fi) r) 0 0 (va_A (XW o y pl te be cn ch le rE rL rP rF rS rD hs ho hc sl fi) sz) := by
  refine hd_l (cc := cX6_commonParts) (maxL := 8) rfl rfl (Nat.le_of_ble_eq_true rfl) ?_
  intro p e s m args below meth c A Q H locs ls hx hb hml hts hown _ hA hP hD hK hS hl hE
  have hl : lv_has ls 8 [(0, .ref (o 0))] := hl
  have q0 := hts (.constantLong RX6 118 (-1)) (by decide +kernel)
  have q1 := hts (.fieldLink RX6 9 "SliceShares" "plates" "[J") (by decide +kernel)
  have q2 := hts (.constantLong RX6 116 (1000000000000000)) (by decide +kernel)
  have hinRX6 : ∀ w ∈ wsX60, w ∈ wsX6_commonParts := by decide +kernel
  unfold F_X6_commonParts at h
  refine lv_lconst (v := (1 : Int64)) hx hb dX6_commonParts_0 rfl ?_
  refine lv_lstore_n (lv' := [(1, .long (1 : Int64)), (0, .ref (o 0))]) hx hb dX6_commonParts_1 rfl hl (by decide) rfl (fun ls hl => ?_)
  refine lv_iconst (v := (0 : Int32)) hx hb dX6_commonParts_2 (by decide) ?_
  refine lv_istore_n (lv' := [(3, .int (0 : Int32)), (1, .long (1 : Int64)), (0, .ref (o 0))]) hx hb dX6_commonParts_3 rfl hl (by decide) rfl (fun ls hl => ?_)
  obtain ⟨t3, v4, g5, h⟩ := fB2 h
  have J6 : t3 = 0 → ∀ (H : Heap) (locs : List Loc) (ls : Array Slot), va_P D vwCl (XW o y pl te be cn ch le rE rL rP rF rS rD hs ho hc sl fi) H → va_D A (XW o y pl te be cn ch le rE rL rP rF rS rD hs ho hc sl fi) → va_S A s.heap H locs → lv_has ls 8 [] → W p l e rm_X6_commonParts s m args below meth c H locs 0 0 Q (F0 m 43 ls []) := by
    intro ht H locs ls hP hD hS hl
    replace h := fT ht h
    refine lv_ldc2 (v := (-1 : Int64)) hx hb hown q0 dX6_commonParts_43 ?_
    cases h
    exact hE _ _ _ _ dX6_commonParts_46 hP hD hS
  have J7 : t3 = 1 → ∀ (H : Heap) (locs : List Loc) (ls : Array Slot), va_P D vwCl (XW o y pl te be cn ch le rE rL rP rF rS rD hs ho hc sl fi) H → va_D A (XW o y pl te be cn ch le rE rL rP rF rS rD hs ho hc sl fi) → va_S A s.heap H locs → lv_has ls 8 [(1, .long v4)] → W p l e rm_X6_commonParts s m args below meth c H locs 0 0 Q (F0 m 59 ls []) := by
    intro ht H locs ls hP hD hS hl
    replace h := fF (show ¬ t3 = 0 by omega) h
    refine lv_lload_n hx hb dX6_commonParts_59 rfl (lv_at hl 0 rfl) ?_
    cases h
    exact hE _ _ _ _ dX6_commonParts_60 hP hD hS
  have LP8 : ∀ (n : Nat) (x1 : Int64) (x2 : Int32) (H : Heap) (locs : List Loc) (ls : Array Slot), L_X6_commonParts_4 n x1 x2 pl = some (t3, v4) → va_P D vwCl (XW o y pl te be cn ch le rE rL rP rF rS rD hs ho hc sl fi) H → va_D A (XW o y pl te be cn ch le rE rL rP rF rS rD hs ho hc sl fi) → va_S A s.heap H locs → lv_has ls 8 [(0, .ref (o 0)), (1, .long x1), (3, .int x2)] → W p l e rm_X6_commonParts s m args below meth c H locs 0 0 Q (F0 m 4 ls []) := by
    intro n
    induction n with
    | zero => intro x1 x2 H locs ls h hP hD hS hl; exact fN h
    | succ n ih =>
      intro x1 x2 H locs ls h hP hD hS hl
      replace h := (L_X6_commonParts_4_s n x1 x2 pl).symm.trans h
      refine lv_iload_n hx hb dX6_commonParts_4 rfl (lv_at hl 2 rfl) ?_
      refine lv_bipush (v := (6 : Int32)) hx hb dX6_commonParts_5 (by decide) ?_
      refine lv_icmp_ge (tgt := 59) hx hb dX6_commonParts_7 (by decide) (fun c9 => ?_) (fun c9 => ?_)
      · replace h := fT c9 h
        cases h
        exact J7 rfl _ _ _ hP hD hS (lv_sub hl [1] rfl)
      · replace h := fF c9 h
        refine lv_aload_n hx hb dX6_commonParts_10 rfl (lv_at hl 0 rfl) ?_
        refine va_get (D := D) (ci := 4) (C := RX6) (T := TX6) (N := 7) hx hb hts hinRX6 hown hK hP 0 rfl rfl 0 (by decide) q1 (fun _ h9 => h9) rfl dX6_commonParts_11 ?_
        refine lv_iload_n hx hb dX6_commonParts_14 rfl (lv_at hl 2 rfl) ?_
        obtain ⟨g10, h⟩ := fG h
        refine va_lald hx hb hK hP 1 1 rfl rfl g10 dX6_commonParts_15 ?_
        refine cT_l (As := [.long (pl x2.toNatClampNeg)]) (rest := []) ⟨hx, hb, hml, hown, hts⟩ (c_X3_denominator l D y _ (pl x2.toNatClampNeg)) (va_cwS 1 hts gX6_commonParts_X3_denominator rfl rfl rfl hd_X3_denominator ⟨Nat.le_of_ble_eq_true rfl, Nat.le_of_ble_eq_true rfl⟩) hK hP hD hS hA rfl hl.1 rfl (Nat.le_of_ble_eq_true rfl) dX6_commonParts_16 ⟨Nat.le_of_ble_eq_true rfl, Nat.le_of_ble_eq_true rfl⟩ (fun H locs hP hD hS => ?_)
        refine lv_lstore (lv' := [(4, .long (F_X3_denominator (pl x2.toNatClampNeg))), (0, .ref (o 0)), (1, .long x1), (3, .int x2)]) hx hb dX6_commonParts_19 hl (by decide) rfl (fun ls hl => ?_)
        refine lv_lload_n hx hb dX6_commonParts_21 rfl (lv_at hl 2 rfl) ?_
        refine lv_lload_n hx hb dX6_commonParts_22 rfl (lv_at hl 2 rfl) ?_
        refine lv_lload hx hb dX6_commonParts_23 (lv_at hl 0 rfl) ?_
        obtain ⟨r11, g12, h⟩ := fB1 h
        refine cT_l (As := [.long x1, .long (F_X3_denominator (pl x2.toNatClampNeg))]) (rest := [.long x1]) ⟨hx, hb, hml, hown, hts⟩ (c_X3_commonDivisor l D y _ x1 (F_X3_denominator (pl x2.toNatClampNeg)) r11 g12) (va_cwS 2 hts gX6_commonParts_X3_commonDivisor rfl rfl rfl hd_X3_commonDivisor ⟨Nat.le_of_ble_eq_true rfl, Nat.le_of_ble_eq_true rfl⟩) hK hP hD hS hA rfl hl.1 rfl (Nat.le_of_ble_eq_true rfl) dX6_commonParts_25 ⟨Nat.le_of_ble_eq_true rfl, Nat.le_of_ble_eq_true rfl⟩ (fun H locs hP hD hS => ?_)
        obtain ⟨g13, h⟩ := fG h
        refine lv_ldiv hx hb dX6_commonParts_28 g13 ?_
        refine lv_lstore (lv' := [(6, .long (x1 / r11)), (4, .long (F_X3_denominator (pl x2.toNatClampNeg))), (0, .ref (o 0)), (1, .long x1), (3, .int x2)]) hx hb dX6_commonParts_29 hl (by decide) rfl (fun ls hl => ?_)
        refine lv_lload hx hb dX6_commonParts_31 (lv_at hl 0 rfl) ?_
        refine lv_ldc2 (v := (1000000000000000 : Int64)) hx hb hown q2 dX6_commonParts_33 ?_
        refine lv_lload hx hb dX6_commonParts_36 (lv_at hl 1 rfl) ?_
        obtain ⟨g14, h⟩ := fG h
        refine lv_ldiv hx hb dX6_commonParts_38 g14 ?_
        refine lx_le (tgt := 47) hx hb dX6_commonParts_39 dX6_commonParts_40 (by decide) (fun c15 => ?_) (fun c15 => ?_)
        · replace h := fT c15 h
          refine lv_lload hx hb dX6_commonParts_47 (lv_at hl 0 rfl) ?_
          refine lv_lload hx hb dX6_commonParts_49 (lv_at hl 1 rfl) ?_
          refine lv_lmul hx hb dX6_commonParts_51 ?_
          refine lv_lstore_n (lv' := [(1, .long ((x1 / r11) * (F_X3_denominator (pl x2.toNatClampNeg)))), (6, .long (x1 / r11)), (4, .long (F_X3_denominator (pl x2.toNatClampNeg))), (0, .ref (o 0)), (3, .int x2)]) hx hb dX6_commonParts_52 rfl hl (by decide) rfl (fun ls hl => ?_)
          refine lv_iinc (v := x2 + (1 : Int32)) (lv' := [(3, .int (x2 + (1 : Int32))), (1, .long ((x1 / r11) * (F_X3_denominator (pl x2.toNatClampNeg)))), (6, .long (x1 / r11)), (4, .long (F_X3_denominator (pl x2.toNatClampNeg))), (0, .ref (o 0))]) hx hb dX6_commonParts_53 hl (k := 4) rfl rfl (by decide) rfl (fun ls hl => ?_)
          refine lv_goto (tgt := 4) hx hb dX6_commonParts_56 (by decide) ?_
          exact ih ((x1 / r11) * (F_X3_denominator (pl x2.toNatClampNeg))) (x2 + (1 : Int32)) _ _ _ h hP hD hS (lv_sub hl [4, 1, 0] rfl)
        · replace h := fF c15 h
          cases h
          exact J6 rfl _ _ _ hP hD hS (lv_sub hl [] rfl)
  exact LP8 FU (1 : Int64) (0 : Int32) _ _ _ g5 hP hD hS (lv_sub hl [2, 1, 0] rfl)
abbrev rm_X6_isOnLowerPlate : Room := { frames := 0, cells := 0, slots := 0, locals := 0 }
theorem hd_X6_isOnLowerPlate : yX6_isOnLowerPlate.cls = RX6 ∧ yX6_isOnLowerPlate.cls ≠ "java/lang/invoke/MethodHandle" ∧ yX6_isOnLowerPlate.cls ≠ "java/lang/invoke/VarHandle" ∧ (parseMethodDescriptor yX6_isOnLowerPlate.desc).map (fun d => d.parameters.length) = some 1 := by decide +kernel
set_option maxHeartbeats 0 in
set_option maxRecDepth 100000 in
theorem c_X6_isOnLowerPlate (l : Launch) (D : va_G) (o : Nat → Nat) (y : Nat → ClassId) (sz : Nat) (pl : Nat → Int64) (te : Nat → Int32) (be : Nat → Int64) (cn : Int32) (ch : Nat → Int32) (le : Int32) (rE : Int32) (rL : Int32) (rP : Int32) (rF : Int32) (rS : Int32) (rD : Int32) (hs : Nat → Int64) (ho : Int32) (hc : Int32) (sl : Nat → Int64) (fi : Nat → Int32) (a1 : Int32) (r : Int32) (h : F_X6_isOnLowerPlate pl a1 = some r) : Met l yX6_isOnLowerPlate wsX6_isOnLowerPlate rm_X6_isOnLowerPlate (va_Pc [.ref (o 0), .int a1] (px D y sz (XW o y pl te be cn ch le rE rL rP rF rS rD hs ho hc sl fi))) (Qri D y sz (XW o y pl te be cn ch le rE rL rP rF rS rD hs ho hc sl fi) (XW o y pl te be cn ch le rE rL rP rF rS rD hs ho hc sl fi) r) 0 0 (va_A (XW o y pl te be cn ch le rE rL rP rF rS rD hs ho hc sl fi) sz) := by
  refine hd_z (cc := cX6_isOnLowerPlate) (maxL := 3) (rt := .boolean) rfl rfl (Nat.le_of_ble_eq_true rfl) ?_
  intro p e s m args below meth c A Q H locs ls hx hb hml hts hown _ hA hP hD hK hS hl hE
  have hl : lv_has ls 3 [(0, .ref (o 0)), (1, .int a1)] := hl
  have q0 := hts (.fieldLink RX6 9 "SliceShares" "plates" "[J") (by decide +kernel)
  have hinRX6 : ∀ w ∈ wsX60, w ∈ wsX6_isOnLowerPlate := by decide +kernel
  unfold F_X6_isOnLowerPlate at h
  refine lv_iconst (v := (0 : Int32)) hx hb dX6_isOnLowerPlate_0 (by decide) ?_
  refine lv_istore_n (lv' := [(2, .int (0 : Int32)), (0, .ref (o 0)), (1, .int a1)]) hx hb dX6_isOnLowerPlate_1 rfl hl (by decide) rfl (fun ls hl => ?_)
  obtain ⟨t2, g3, h⟩ := fB1 h
  have J4 : t2 = 0 → ∀ (H : Heap) (locs : List Loc) (ls : Array Slot), va_P D vwCl (XW o y pl te be cn ch le rE rL rP rF rS rD hs ho hc sl fi) H → va_D A (XW o y pl te be cn ch le rE rL rP rF rS rD hs ho hc sl fi) → va_S A s.heap H locs → lv_has ls 3 [] → W p l e rm_X6_isOnLowerPlate s m args below meth c H locs 0 0 Q (F0 m 23 ls []) := by
    intro ht H locs ls hP hD hS hl
    replace h := fT ht h
    refine lv_iconst (v := (1 : Int32)) hx hb dX6_isOnLowerPlate_23 (by decide) ?_
    cases h
    exact hE _ _ _ _ dX6_isOnLowerPlate_24 hP hD hS (nz01 (Or.inr rfl))
  have J5 : t2 = 1 → ∀ (H : Heap) (locs : List Loc) (ls : Array Slot), va_P D vwCl (XW o y pl te be cn ch le rE rL rP rF rS rD hs ho hc sl fi) H → va_D A (XW o y pl te be cn ch le rE rL rP rF rS rD hs ho hc sl fi) → va_S A s.heap H locs → lv_has ls 3 [] → W p l e rm_X6_isOnLowerPlate s m args below meth c H locs 0 0 Q (F0 m 31 ls []) := by
    intro ht H locs ls hP hD hS hl
    replace h := fF (show ¬ t2 = 0 by omega) h
    refine lv_iconst (v := (0 : Int32)) hx hb dX6_isOnLowerPlate_31 (by decide) ?_
    cases h
    exact hE _ _ _ _ dX6_isOnLowerPlate_32 hP hD hS (nz01 (Or.inl rfl))
  have LP6 : ∀ (n : Nat) (x1 : Int32) (H : Heap) (locs : List Loc) (ls : Array Slot), L_X6_isOnLowerPlate_2 n a1 x1 pl = some t2 → va_P D vwCl (XW o y pl te be cn ch le rE rL rP rF rS rD hs ho hc sl fi) H → va_D A (XW o y pl te be cn ch le rE rL rP rF rS rD hs ho hc sl fi) → va_S A s.heap H locs → lv_has ls 3 [(0, .ref (o 0)), (1, .int a1), (2, .int x1)] → W p l e rm_X6_isOnLowerPlate s m args below meth c H locs 0 0 Q (F0 m 2 ls []) := by
    intro n
    induction n with
    | zero => intro x1 H locs ls h hP hD hS hl; exact fN h
    | succ n ih =>
      intro x1 H locs ls h hP hD hS hl
      replace h := (L_X6_isOnLowerPlate_2_s n a1 x1 pl).symm.trans h
      refine lv_iload_n hx hb dX6_isOnLowerPlate_2 rfl (lv_at hl 2 rfl) ?_
      refine lv_iload_n hx hb dX6_isOnLowerPlate_3 rfl (lv_at hl 1 rfl) ?_
      refine lv_icmp_ge (tgt := 31) hx hb dX6_isOnLowerPlate_4 (by decide) (fun c7 => ?_) (fun c7 => ?_)
      · replace h := fT c7 h
        cases h
        exact J5 rfl _ _ _ hP hD hS (lv_sub hl [] rfl)
      · replace h := fF c7 h
        refine lv_aload_n hx hb dX6_isOnLowerPlate_7 rfl (lv_at hl 0 rfl) ?_
        refine va_get (D := D) (ci := 4) (C := RX6) (T := TX6) (N := 7) hx hb hts hinRX6 hown hK hP 0 rfl rfl 0 (by decide) q0 (fun _ h9 => h9) rfl dX6_isOnLowerPlate_8 ?_
        refine lv_iload_n hx hb dX6_isOnLowerPlate_11 rfl (lv_at hl 2 rfl) ?_
        obtain ⟨g8, h⟩ := fG h
        refine va_lald hx hb hK hP 1 1 rfl rfl g8 dX6_isOnLowerPlate_12 ?_
        refine lv_aload_n hx hb dX6_isOnLowerPlate_13 rfl (lv_at hl 0 rfl) ?_
        refine va_get (D := D) (ci := 4) (C := RX6) (T := TX6) (N := 7) hx hb hts hinRX6 hown hK hP 0 rfl rfl 0 (by decide) q0 (fun _ h9 => h9) rfl dX6_isOnLowerPlate_14 ?_
        refine lv_iload_n hx hb dX6_isOnLowerPlate_17 rfl (lv_at hl 1 rfl) ?_
        obtain ⟨g9, h⟩ := fG h
        refine va_lald hx hb hK hP 1 1 rfl rfl g9 dX6_isOnLowerPlate_18 ?_
        refine lx_ne (tgt := 25) hx hb dX6_isOnLowerPlate_19 dX6_isOnLowerPlate_20 (by decide) (fun c10 => ?_) (fun c10 => ?_)
        · replace h := fF c10 h
          refine lv_iinc (v := x1 + (1 : Int32)) (lv' := [(2, .int (x1 + (1 : Int32))), (0, .ref (o 0)), (1, .int a1)]) hx hb dX6_isOnLowerPlate_25 hl (k := 2) rfl rfl (by decide) rfl (fun ls hl => ?_)
          refine lv_goto (tgt := 2) hx hb dX6_isOnLowerPlate_28 (by decide) ?_
          exact ih (x1 + (1 : Int32)) _ _ _ h hP hD hS (lv_sub hl [1, 2, 0] rfl)
        · replace h := fT c10 h
          cases h
          exact J4 rfl _ _ _ hP hD hS (lv_sub hl [] rfl)
  exact LP6 FU (0 : Int32) _ _ _ g3 hP hD hS (lv_sub hl [1, 2, 0] rfl)
abbrev rm_X6_differentFractions : Room := { frames := 1, cells := 0, slots := 0, locals := 22 }
theorem hd_X6_differentFractions : yX6_differentFractions.cls = RX6 ∧ yX6_differentFractions.cls ≠ "java/lang/invoke/MethodHandle" ∧ yX6_differentFractions.cls ≠ "java/lang/invoke/VarHandle" ∧ (parseMethodDescriptor yX6_differentFractions.desc).map (fun d => d.parameters.length) = some 0 := by decide +kernel
set_option maxHeartbeats 0 in
set_option maxRecDepth 100000 in
theorem c_X6_differentFractions (l : Launch) (D : va_G) (o : Nat → Nat) (y : Nat → ClassId) (sz : Nat) (pl : Nat → Int64) (te : Nat → Int32) (be : Nat → Int64) (cn : Int32) (ch : Nat → Int32) (le : Int32) (rE : Int32) (rL : Int32) (rP : Int32) (rF : Int32) (rS : Int32) (rD : Int32) (hs : Nat → Int64) (ho : Int32) (hc : Int32) (sl : Nat → Int64) (fi : Nat → Int32) (r : Int32) (h : F_X6_differentFractions pl = some r) : Met l yX6_differentFractions wsX6_differentFractions rm_X6_differentFractions (va_Pc [.ref (o 0)] (px D y sz (XW o y pl te be cn ch le rE rL rP rF rS rD hs ho hc sl fi))) (Qri D y sz (XW o y pl te be cn ch le rE rL rP rF rS rD hs ho hc sl fi) (XW o y pl te be cn ch le rE rL rP rF rS rD hs ho hc sl fi) r) 0 0 (va_A (XW o y pl te be cn ch le rE rL rP rF rS rD hs ho hc sl fi) sz) := by
  refine hd_i (cc := cX6_differentFractions) (maxL := 3) rfl rfl (Nat.le_of_ble_eq_true rfl) ?_
  intro p e s m args below meth c A Q H locs ls hx hb hml hts hown _ hA hP hD hK hS hl hE
  have hl : lv_has ls 3 [(0, .ref (o 0))] := hl
  unfold F_X6_differentFractions at h
  refine lv_iconst (v := (0 : Int32)) hx hb dX6_differentFractions_0 (by decide) ?_
  refine lv_istore_n (lv' := [(1, .int (0 : Int32)), (0, .ref (o 0))]) hx hb dX6_differentFractions_1 rfl hl (by decide) rfl (fun ls hl => ?_)
  refine lv_iconst (v := (0 : Int32)) hx hb dX6_differentFractions_2 (by decide) ?_
  refine lv_istore_n (lv' := [(2, .int (0 : Int32)), (1, .int (0 : Int32)), (0, .ref (o 0))]) hx hb dX6_differentFractions_3 rfl hl (by decide) rfl (fun ls hl => ?_)
  obtain ⟨v3, g4, h⟩ := fB1 h
  have J5 : ∀ (H : Heap) (locs : List Loc) (ls : Array Slot), va_P D vwCl (XW o y pl te be cn ch le rE rL rP rF rS rD hs ho hc sl fi) H → va_D A (XW o y pl te be cn ch le rE rL rP rF rS rD hs ho hc sl fi) → va_S A s.heap H locs → lv_has ls 3 [(1, .int v3)] → W p l e rm_X6_differentFractions s m args below meth c H locs 0 0 Q (F0 m 27 ls []) := by
    intro H locs ls hP hD hS hl
    refine lv_iload_n hx hb dX6_differentFractions_27 rfl (lv_at hl 0 rfl) ?_
    cases h
    exact hE _ _ _ _ dX6_differentFractions_28 hP hD hS
  have LP6 : ∀ (n : Nat) (x1 : Int32) (x2 : Int32) (H : Heap) (locs : List Loc) (ls : Array Slot), L_X6_differentFractions_4 n x1 x2 pl = some v3 → va_P D vwCl (XW o y pl te be cn ch le rE rL rP rF rS rD hs ho hc sl fi) H → va_D A (XW o y pl te be cn ch le rE rL rP rF rS rD hs ho hc sl fi) → va_S A s.heap H locs → lv_has ls 3 [(0, .ref (o 0)), (1, .int x1), (2, .int x2)] → W p l e rm_X6_differentFractions s m args below meth c H locs 0 0 Q (F0 m 4 ls []) := by
    intro n
    induction n with
    | zero => intro x1 x2 H locs ls h hP hD hS hl; exact fN h
    | succ n ih =>
      intro x1 x2 H locs ls h hP hD hS hl
      replace h := (L_X6_differentFractions_4_s n x1 x2 pl).symm.trans h
      refine lv_iload_n hx hb dX6_differentFractions_4 rfl (lv_at hl 2 rfl) ?_
      refine lv_bipush (v := (6 : Int32)) hx hb dX6_differentFractions_5 (by decide) ?_
      refine lv_icmp_ge (tgt := 27) hx hb dX6_differentFractions_7 (by decide) (fun c7 => ?_) (fun c7 => ?_)
      · replace h := fT c7 h
        cases h
        exact J5 _ _ _ hP hD hS (lv_sub hl [1] rfl)
      · replace h := fF c7 h
        refine lv_aload_n hx hb dX6_differentFractions_10 rfl (lv_at hl 0 rfl) ?_
        refine lv_iload_n hx hb dX6_differentFractions_11 rfl (lv_at hl 2 rfl) ?_
        obtain ⟨r8, g9, h⟩ := fB1 h
        refine cV_i (As := [.int x2]) (rest := []) (ws1 := (XW o y pl te be cn ch le rE rL rP rF rS rD hs ho hc sl fi)) ⟨hx, hb, hml, hown, hts⟩ (c_X6_isOnLowerPlate l D o y _ pl te be cn ch le rE rL rP rF rS rD hs ho hc sl fi x2 r8 g9) (cwV 1 hts gX6_differentFractions_X6_isOnLowerPlate rfl rfl rfl hd_X6_isOnLowerPlate ⟨Nat.le_of_ble_eq_true rfl, Nat.le_of_ble_eq_true rfl⟩) hK hP hD hS hA [0, 1, 2, 3, 4, 5, 6, 7, 8, 9, 10, 11] [] [0, 1, 2, 3, 4, 5, 6, 7, 8, 9, 10, 11] rfl rfl rfl (by decide) rfl rfl rfl 0 (ci := 4) rfl rfl rfl hl.1 rfl (Nat.le_of_ble_eq_true rfl) dX6_differentFractions_12 ⟨Nat.le_of_ble_eq_true rfl, Nat.le_of_ble_eq_true rfl⟩ (fun H locs hP hD hS => ?_)
        have J10 : ∀ (v11 : Int32) (ls : Array Slot), v11 = (if r8 = (0 : Int32) then (x1 + (1 : Int32)) else x1) → lv_has ls 3 [(0, .ref (o 0)), (1, .int v11), (2, .int x2)] → W p l e rm_X6_differentFractions s m args below meth c H locs 0 0 Q (F0 m 21 ls []) := by
          intro v11 ls ev11 hl
          subst ev11
          refine lv_iinc (v := x2 + (1 : Int32)) (lv' := [(2, .int (x2 + (1 : Int32))), (0, .ref (o 0)), (1, .int (if r8 = (0 : Int32) then (x1 + (1 : Int32)) else x1))]) hx hb dX6_differentFractions_21 hl (k := 2) rfl rfl (by decide) rfl (fun ls hl => ?_)
          refine lv_goto (tgt := 4) hx hb dX6_differentFractions_24 (by decide) ?_
          exact ih (if r8 = (0 : Int32) then (x1 + (1 : Int32)) else x1) (x2 + (1 : Int32)) _ _ _ h hP hD hS (lv_sub hl [1, 2, 0] rfl)
        refine lv_if_ne (tgt := 21) hx hb dX6_differentFractions_15 (by decide) (fun c12 => ?_) (fun c12 => ?_)
        · exact J10 _ _ (by rw [if_neg c12]) (lv_sub hl [0, 1, 2] rfl)
        · refine lv_iinc (v := x1 + (1 : Int32)) (lv' := [(1, .int (x1 + (1 : Int32))), (0, .ref (o 0)), (2, .int x2)]) hx hb dX6_differentFractions_18 hl (k := 1) rfl rfl (by decide) rfl (fun ls hl => ?_)
          exact J10 _ _ (by rw [if_pos c12]) (lv_sub hl [1, 0, 2] rfl)
  exact LP6 FU (0 : Int32) (0 : Int32) _ _ _ g4 hP hD hS (lv_sub hl [2, 1, 0] rfl)
abbrev rm_X6_termCount : Room := { frames := 4, cells := 0, slots := 0, locals := 96 }
theorem hd_X6_termCount : yX6_termCount.cls = RX6 ∧ yX6_termCount.cls ≠ "java/lang/invoke/MethodHandle" ∧ yX6_termCount.cls ≠ "java/lang/invoke/VarHandle" ∧ (parseMethodDescriptor yX6_termCount.desc).map (fun d => d.parameters.length) = some 1 := by decide +kernel
set_option maxHeartbeats 0 in
set_option maxRecDepth 100000 in
theorem c_X6_termCount (l : Launch) (D : va_G) (o : Nat → Nat) (y : Nat → ClassId) (sz : Nat) (pl : Nat → Int64) (te : Nat → Int32) (be : Nat → Int64) (cn : Int32) (ch : Nat → Int32) (le : Int32) (rE : Int32) (rL : Int32) (rP : Int32) (rF : Int32) (rS : Int32) (rD : Int32) (hs : Nat → Int64) (ho : Int32) (hc : Int32) (sl : Nat → Int64) (fi : Nat → Int32) (a1 : Int32) (r : Int32) (te' : Nat → Int32) (be' : Nat → Int64) (cn' : Int32) (h : F_X6_termCount pl te be cn a1 = some (0, r, te', be', cn')) : Met l yX6_termCount wsX6_termCount rm_X6_termCount (va_Pc [.ref (o 0), .int a1] (px D y sz (XW o y pl te be cn ch le rE rL rP rF rS rD hs ho hc sl fi))) (Qri D y sz (XW o y pl te be cn ch le rE rL rP rF rS rD hs ho hc sl fi) (XW o y pl te' be' cn' ch le rE rL rP rF rS rD hs ho hc sl fi) r) 0 0 (va_A (XW o y pl te be cn ch le rE rL rP rF rS rD hs ho hc sl fi) sz) := by
  refine hd_i (cc := cX6_termCount) (maxL := 2) rfl rfl (Nat.le_of_ble_eq_true rfl) ?_
  intro p e s m args below meth c A Q H locs ls hx hb hml hts hown _ hA hP hD hK hS hl hE
  have hl : lv_has ls 2 [(0, .ref (o 0)), (1, .int a1)] := hl
  have q0 := hts (.fieldLink RX6 18 "SliceShares" "continued" "LSliceShares$ContinuedFraction;") (by decide +kernel)
  have q1 := hts (.fieldLink RX6 9 "SliceShares" "plates" "[J") (by decide +kernel)
  have hinRX6 : ∀ w ∈ wsX60, w ∈ wsX6_termCount := by decide +kernel
  unfold F_X6_termCount at h
  refine lv_iload_n hx hb dX6_termCount_0 rfl (lv_at hl 1 rfl) ?_
  obtain ⟨k1, g2, h⟩ := fB1 h
  by_cases e3 : ¬ k1 = 0
  · replace h := fF e3 h
    exact fX e3 h
  replace e3 := Classical.not_not.mp e3
  subst e3
  replace h := fT rfl h
  refine cT_v (As := [.int a1]) (rest := []) ⟨hx, hb, hml, hown, hts⟩ (c_X6_requirePlate l D y _ a1 g2) (va_cwS 1 hts gX6_termCount_X6_requirePlate rfl rfl rfl hd_X6_requirePlate ⟨Nat.le_of_ble_eq_true rfl, Nat.le_of_ble_eq_true rfl⟩) hK hP hD hS hA rfl hl.1 rfl (Nat.le_of_ble_eq_true rfl) dX6_termCount_1 ⟨Nat.le_of_ble_eq_true rfl, Nat.le_of_ble_eq_true rfl⟩ (fun H locs hP hD hS => ?_)
  refine lv_aload_n hx hb dX6_termCount_4 rfl (lv_at hl 0 rfl) ?_
  refine va_get (D := D) (ci := 4) (C := RX6) (T := TX6) (N := 7) hx hb hts hinRX6 hown hK hP 0 rfl rfl 1 (by decide) q0 (fun _ h9 => h9) rfl dX6_termCount_5 ?_
  refine lv_aload_n hx hb dX6_termCount_8 rfl (lv_at hl 0 rfl) ?_
  refine va_get (D := D) (ci := 4) (C := RX6) (T := TX6) (N := 7) hx hb hts hinRX6 hown hK hP 0 rfl rfl 0 (by decide) q1 (fun _ h9 => h9) rfl dX6_termCount_9 ?_
  refine lv_iload_n hx hb dX6_termCount_12 rfl (lv_at hl 1 rfl) ?_
  obtain ⟨g4, h⟩ := fG h
  refine va_lald hx hb hK hP 1 1 rfl rfl g4 dX6_termCount_13 ?_
  obtain ⟨te5, be6, cn7, g8, h⟩ := fB3 h
  refine cV_v (As := [.long (pl a1.toNatClampNeg)]) (rest := []) (ws1 := (XW o y pl te5 be6 cn7 ch le rE rL rP rF rS rD hs ho hc sl fi)) ⟨hx, hb, hml, hown, hts⟩ (c_X2_expand l D o y _ te be cn (pl a1.toNatClampNeg) te5 be6 cn7 g8) (cwV 1 hts gX6_termCount_X2_expand rfl rfl rfl hd_X2_expand ⟨Nat.le_of_ble_eq_true rfl, Nat.le_of_ble_eq_true rfl⟩) hK hP hD hS hA [2, 3, 4] [0, 1, 5, 6, 7, 8, 9, 10, 11] [0, 1, 9, 10, 11, 2, 3, 4, 5, 6, 7, 8] rfl rfl rfl (by decide) rfl rfl rfl 0 (ci := 2) rfl rfl rfl hl.1 rfl (Nat.le_of_ble_eq_true rfl) dX6_termCount_14 ⟨Nat.le_of_ble_eq_true rfl, Nat.le_of_ble_eq_true rfl⟩ (fun H locs hP hD hS => ?_)
  refine lv_aload_n hx hb dX6_termCount_17 rfl (lv_at hl 0 rfl) ?_
  refine va_get (D := D) (ci := 4) (C := RX6) (T := TX6) (N := 7) hx hb hts hinRX6 hown hK hP 0 rfl rfl 1 (by decide) q0 (fun _ h9 => h9) rfl dX6_termCount_18 ?_
  refine cV_i (As := []) (rest := []) (ws1 := (XW o y pl te5 be6 cn7 ch le rE rL rP rF rS rD hs ho hc sl fi)) ⟨hx, hb, hml, hown, hts⟩ (c_X2_count l D o y _ te5 be6 cn7 ) (cwV 0 hts gX6_termCount_X2_count rfl rfl rfl hd_X2_count ⟨Nat.le_of_ble_eq_true rfl, Nat.le_of_ble_eq_true rfl⟩) hK hP hD hS hA [2, 3, 4] [0, 1, 5, 6, 7, 8, 9, 10, 11] [0, 1, 9, 10, 11, 2, 3, 4, 5, 6, 7, 8] rfl rfl rfl (by decide) rfl rfl rfl 0 (ci := 2) rfl rfl rfl hl.1 rfl (Nat.le_of_ble_eq_true rfl) dX6_termCount_21 ⟨Nat.le_of_ble_eq_true rfl, Nat.le_of_ble_eq_true rfl⟩ (fun H locs hP hD hS => ?_)
  cases h
  exact hE _ _ _ _ dX6_termCount_24 hP hD hS
abbrev xrm_X6_termCount : Room := { frames := 7, cells := 1, slots := 6, locals := 102 }
set_option maxHeartbeats 0 in
set_option maxRecDepth 100000 in
theorem x_X6_termCount (l : Launch) (hfl : l.stackTraces = false) (D : va_G) (o : Nat → Nat) (y : Nat → ClassId) (sz : Nat) (pl : Nat → Int64) (te : Nat → Int32) (be : Nat → Int64) (cn : Int32) (ch : Nat → Int32) (le : Int32) (rE : Int32) (rL : Int32) (rP : Int32) (rF : Int32) (rS : Int32) (rD : Int32) (hs : Nat → Int64) (ho : Int32) (hc : Int32) (sl : Nat → Int64) (fi : Nat → Int32) (a1 : Int32) (k : Nat) (r : Int32) (te' : Nat → Int32) (be' : Nat → Int64) (cn' : Int32) (hkx : ¬ k = 0) (h : F_X6_termCount pl te be cn a1 = some (k, r, te', be', cn')) : vx_Met l yX6_termCount wsX6_termCount xrm_X6_termCount (va_Pc [.ref (o 0), .int a1] (pxe D y sz (XW o y pl te be cn ch le rE rL rP rF rS rD hs ho hc sl fi))) (QNo (XW o y pl te be cn ch le rE rL rP rF rS rD hs ho hc sl fi) sz) (QX D y sz (XW o y pl te be cn ch le rE rL rP rF rS rD hs ho hc sl fi) (XW o y pl te' be' cn' ch le rE rL rP rF rS rD hs ho hc sl fi) k) 1 6 (va_A (XW o y pl te be cn ch le rE rL rP rF rS rD hs ho hc sl fi) sz) := by
  refine hd_x (cc := cX6_termCount) (maxL := 2) rfl rfl (Nat.le_of_ble_eq_true rfl) ?_
  intro p e s m args below meth c A Q H locs ls hx hb hml hts hown hA hP hD hK hS hl hEX hlocks hout hQ hAe
  have hl : lv_has ls 2 [(0, .ref (o 0)), (1, .int a1)] := hl
  have q0 := hts (.fieldLink RX6 18 "SliceShares" "continued" "LSliceShares$ContinuedFraction;") (by decide +kernel)
  have q1 := hts (.fieldLink RX6 9 "SliceShares" "plates" "[J") (by decide +kernel)
  have hinRX6 : ∀ w ∈ wsX60, w ∈ wsX6_termCount := by decide +kernel
  unfold F_X6_termCount at h
  refine lv_iload_n hx hb dX6_termCount_0 rfl (lv_at hl 1 rfl) ?_
  obtain ⟨k1, g2, h⟩ := fB1 h
  by_cases e3 : ¬ k1 = 0
  · replace h := fF e3 h
    refine xc_S (As := [.int a1]) (rest := []) (ws1 := (XW o y pl te be cn ch le rE rL rP rF rS rD hs ho hc sl fi)) ⟨hx, hb, hml, hown, hts⟩ (x_X6_requirePlate l hfl D y _ a1 k1 e3 g2) (va_cwS 1 hts gX6_termCount_X6_requirePlate rfl rfl rfl hd_X6_requirePlate ⟨Nat.le_of_ble_eq_true rfl, Nat.le_of_ble_eq_true rfl⟩) hK hP hD hS hA hEX [] [0, 1, 2, 3, 4, 5, 6, 7, 8, 9, 10, 11] [0, 1, 2, 3, 4, 5, 6, 7, 8, 9, 10, 11] rfl rfl rfl (by decide) rfl rfl rfl rfl hl.1 rfl (Nat.le_of_ble_eq_true rfl) dX6_termCount_1 ⟨Nat.le_of_ble_eq_true rfl, Nat.le_of_ble_eq_true rfl⟩ (fun H locs ce q hP hD hS hce hv hcl => ?_)
    cases h
    exact outX hQ hAe hout hlocks hK hP hD hS hce hv hcl rfl (by decide) (by decide)
  replace e3 := Classical.not_not.mp e3
  subst e3
  replace h := fT rfl h
  refine cT_v (As := [.int a1]) (rest := []) ⟨hx, hb, hml, hown, hts⟩ (c_X6_requirePlate l D y _ a1 g2) (va_cwS 1 hts gX6_termCount_X6_requirePlate rfl rfl rfl hd_X6_requirePlate ⟨Nat.le_of_ble_eq_true rfl, Nat.le_of_ble_eq_true rfl⟩) hK hP hD hS hA rfl hl.1 rfl (Nat.le_of_ble_eq_true rfl) dX6_termCount_1 ⟨Nat.le_of_ble_eq_true rfl, Nat.le_of_ble_eq_true rfl⟩ (fun H locs hP hD hS => ?_)
  refine lv_aload_n hx hb dX6_termCount_4 rfl (lv_at hl 0 rfl) ?_
  refine va_get (D := D) (ci := 4) (C := RX6) (T := TX6) (N := 7) hx hb hts hinRX6 hown hK hP 0 rfl rfl 1 (by decide) q0 (fun _ h9 => h9) rfl dX6_termCount_5 ?_
  refine lv_aload_n hx hb dX6_termCount_8 rfl (lv_at hl 0 rfl) ?_
  refine va_get (D := D) (ci := 4) (C := RX6) (T := TX6) (N := 7) hx hb hts hinRX6 hown hK hP 0 rfl rfl 0 (by decide) q1 (fun _ h9 => h9) rfl dX6_termCount_9 ?_
  refine lv_iload_n hx hb dX6_termCount_12 rfl (lv_at hl 1 rfl) ?_
  obtain ⟨g4, h⟩ := fG h
  refine va_lald hx hb hK hP 1 1 rfl rfl g4 dX6_termCount_13 ?_
  obtain ⟨te5, be6, cn7, g8, h⟩ := fB3 h
  refine cV_v (As := [.long (pl a1.toNatClampNeg)]) (rest := []) (ws1 := (XW o y pl te5 be6 cn7 ch le rE rL rP rF rS rD hs ho hc sl fi)) ⟨hx, hb, hml, hown, hts⟩ (c_X2_expand l D o y _ te be cn (pl a1.toNatClampNeg) te5 be6 cn7 g8) (cwV 1 hts gX6_termCount_X2_expand rfl rfl rfl hd_X2_expand ⟨Nat.le_of_ble_eq_true rfl, Nat.le_of_ble_eq_true rfl⟩) hK hP hD hS hA [2, 3, 4] [0, 1, 5, 6, 7, 8, 9, 10, 11] [0, 1, 9, 10, 11, 2, 3, 4, 5, 6, 7, 8] rfl rfl rfl (by decide) rfl rfl rfl 0 (ci := 2) rfl rfl rfl hl.1 rfl (Nat.le_of_ble_eq_true rfl) dX6_termCount_14 ⟨Nat.le_of_ble_eq_true rfl, Nat.le_of_ble_eq_true rfl⟩ (fun H locs hP hD hS => ?_)
  refine lv_aload_n hx hb dX6_termCount_17 rfl (lv_at hl 0 rfl) ?_
  refine va_get (D := D) (ci := 4) (C := RX6) (T := TX6) (N := 7) hx hb hts hinRX6 hown hK hP 0 rfl rfl 1 (by decide) q0 (fun _ h9 => h9) rfl dX6_termCount_18 ?_
  refine cV_i (As := []) (rest := []) (ws1 := (XW o y pl te5 be6 cn7 ch le rE rL rP rF rS rD hs ho hc sl fi)) ⟨hx, hb, hml, hown, hts⟩ (c_X2_count l D o y _ te5 be6 cn7 ) (cwV 0 hts gX6_termCount_X2_count rfl rfl rfl hd_X2_count ⟨Nat.le_of_ble_eq_true rfl, Nat.le_of_ble_eq_true rfl⟩) hK hP hD hS hA [2, 3, 4] [0, 1, 5, 6, 7, 8, 9, 10, 11] [0, 1, 9, 10, 11, 2, 3, 4, 5, 6, 7, 8] rfl rfl rfl (by decide) rfl rfl rfl 0 (ci := 2) rfl rfl rfl hl.1 rfl (Nat.le_of_ble_eq_true rfl) dX6_termCount_21 ⟨Nat.le_of_ble_eq_true rfl, Nat.le_of_ble_eq_true rfl⟩ (fun H locs hP hD hS => ?_)
  exact fY hkx h
abbrev rm_X6_expandToTerm : Room := { frames := 4, cells := 0, slots := 0, locals := 96 }
theorem hd_X6_expandToTerm : yX6_expandToTerm.cls = RX6 ∧ yX6_expandToTerm.cls ≠ "java/lang/invoke/MethodHandle" ∧ yX6_expandToTerm.cls ≠ "java/lang/invoke/VarHandle" ∧ (parseMethodDescriptor yX6_expandToTerm.desc).map (fun d => d.parameters.length) = some 2 := by decide +kernel
set_option maxHeartbeats 0 in
set_option maxRecDepth 100000 in
theorem c_X6_expandToTerm (l : Launch) (D : va_G) (o : Nat → Nat) (y : Nat → ClassId) (sz : Nat) (pl : Nat → Int64) (te : Nat → Int32) (be : Nat → Int64) (cn : Int32) (ch : Nat → Int32) (le : Int32) (rE : Int32) (rL : Int32) (rP : Int32) (rF : Int32) (rS : Int32) (rD : Int32) (hs : Nat → Int64) (ho : Int32) (hc : Int32) (sl : Nat → Int64) (fi : Nat → Int32) (a1 : Int32) (a2 : Int32) (te' : Nat → Int32) (be' : Nat → Int64) (cn' : Int32) (h : F_X6_expandToTerm pl te be cn a1 a2 = some (0, te', be', cn')) : Met l yX6_expandToTerm wsX6_expandToTerm rm_X6_expandToTerm (va_Pc [.ref (o 0), .int a1, .int a2] (px D y sz (XW o y pl te be cn ch le rE rL rP rF rS rD hs ho hc sl fi))) (Qrv D y sz (XW o y pl te be cn ch le rE rL rP rF rS rD hs ho hc sl fi) (XW o y pl te' be' cn' ch le rE rL rP rF rS rD hs ho hc sl fi)) 0 0 (va_A (XW o y pl te be cn ch le rE rL rP rF rS rD hs ho hc sl fi) sz) := by
  refine hd_v (cc := cX6_expandToTerm) (maxL := 3) rfl rfl (Nat.le_of_ble_eq_true rfl) ?_
  intro p e s m args below meth c A Q H locs ls hx hb hml hts hown _ hA hP hD hK hS hl hE
  have hl : lv_has ls 3 [(0, .ref (o 0)), (1, .int a1), (2, .int a2)] := hl
  have q0 := hts (.fieldLink RX6 18 "SliceShares" "continued" "LSliceShares$ContinuedFraction;") (by decide +kernel)
  have q1 := hts (.fieldLink RX6 9 "SliceShares" "plates" "[J") (by decide +kernel)
  have hinRX6 : ∀ w ∈ wsX60, w ∈ wsX6_expandToTerm := by decide +kernel
  unfold F_X6_expandToTerm at h
  refine lv_iload_n hx hb dX6_expandToTerm_0 rfl (lv_at hl 1 rfl) ?_
  obtain ⟨k1, g2, h⟩ := fB1 h
  by_cases e3 : ¬ k1 = 0
  · replace h := fF e3 h
    exact fX e3 h
  replace e3 := Classical.not_not.mp e3
  subst e3
  replace h := fT rfl h
  refine cT_v (As := [.int a1]) (rest := []) ⟨hx, hb, hml, hown, hts⟩ (c_X6_requirePlate l D y _ a1 g2) (va_cwS 1 hts gX6_expandToTerm_X6_requirePlate rfl rfl rfl hd_X6_requirePlate ⟨Nat.le_of_ble_eq_true rfl, Nat.le_of_ble_eq_true rfl⟩) hK hP hD hS hA rfl hl.1 rfl (Nat.le_of_ble_eq_true rfl) dX6_expandToTerm_1 ⟨Nat.le_of_ble_eq_true rfl, Nat.le_of_ble_eq_true rfl⟩ (fun H locs hP hD hS => ?_)
  refine lv_aload_n hx hb dX6_expandToTerm_4 rfl (lv_at hl 0 rfl) ?_
  refine va_get (D := D) (ci := 4) (C := RX6) (T := TX6) (N := 7) hx hb hts hinRX6 hown hK hP 0 rfl rfl 1 (by decide) q0 (fun _ h9 => h9) rfl dX6_expandToTerm_5 ?_
  refine lv_aload_n hx hb dX6_expandToTerm_8 rfl (lv_at hl 0 rfl) ?_
  refine va_get (D := D) (ci := 4) (C := RX6) (T := TX6) (N := 7) hx hb hts hinRX6 hown hK hP 0 rfl rfl 0 (by decide) q1 (fun _ h9 => h9) rfl dX6_expandToTerm_9 ?_
  refine lv_iload_n hx hb dX6_expandToTerm_12 rfl (lv_at hl 1 rfl) ?_
  obtain ⟨g4, h⟩ := fG h
  refine va_lald hx hb hK hP 1 1 rfl rfl g4 dX6_expandToTerm_13 ?_
  obtain ⟨te5, be6, cn7, g8, h⟩ := fB3 h
  refine cV_v (As := [.long (pl a1.toNatClampNeg)]) (rest := []) (ws1 := (XW o y pl te5 be6 cn7 ch le rE rL rP rF rS rD hs ho hc sl fi)) ⟨hx, hb, hml, hown, hts⟩ (c_X2_expand l D o y _ te be cn (pl a1.toNatClampNeg) te5 be6 cn7 g8) (cwV 1 hts gX6_expandToTerm_X2_expand rfl rfl rfl hd_X2_expand ⟨Nat.le_of_ble_eq_true rfl, Nat.le_of_ble_eq_true rfl⟩) hK hP hD hS hA [2, 3, 4] [0, 1, 5, 6, 7, 8, 9, 10, 11] [0, 1, 9, 10, 11, 2, 3, 4, 5, 6, 7, 8] rfl rfl rfl (by decide) rfl rfl rfl 0 (ci := 2) rfl rfl rfl hl.1 rfl (Nat.le_of_ble_eq_true rfl) dX6_expandToTerm_14 ⟨Nat.le_of_ble_eq_true rfl, Nat.le_of_ble_eq_true rfl⟩ (fun H locs hP hD hS => ?_)
  refine lv_iload_n hx hb dX6_expandToTerm_17 rfl (lv_at hl 2 rfl) ?_
  refine lv_if_lt (tgt := 32) hx hb dX6_expandToTerm_18 (by decide) (fun c9 => ?_) (fun c9 => ?_)
  · replace h := fT c9 h
    exact fX (show ¬ (1 : Nat) = 0 by decide) h
  · replace h := fF c9 h
    refine lv_iload_n hx hb dX6_expandToTerm_21 rfl (lv_at hl 2 rfl) ?_
    refine lv_aload_n hx hb dX6_expandToTerm_22 rfl (lv_at hl 0 rfl) ?_
    refine va_get (D := D) (ci := 4) (C := RX6) (T := TX6) (N := 7) hx hb hts hinRX6 hown hK hP 0 rfl rfl 1 (by decide) q0 (fun _ h9 => h9) rfl dX6_expandToTerm_23 ?_
    refine cV_i (As := []) (rest := [.int a2]) (ws1 := (XW o y pl te5 be6 cn7 ch le rE rL rP rF rS rD hs ho hc sl fi)) ⟨hx, hb, hml, hown, hts⟩ (c_X2_count l D o y _ te5 be6 cn7 ) (cwV 0 hts gX6_expandToTerm_X2_count rfl rfl rfl hd_X2_count ⟨Nat.le_of_ble_eq_true rfl, Nat.le_of_ble_eq_true rfl⟩) hK hP hD hS hA [2, 3, 4] [0, 1, 5, 6, 7, 8, 9, 10, 11] [0, 1, 9, 10, 11, 2, 3, 4, 5, 6, 7, 8] rfl rfl rfl (by decide) rfl rfl rfl 0 (ci := 2) rfl rfl rfl hl.1 rfl (Nat.le_of_ble_eq_true rfl) dX6_expandToTerm_26 ⟨Nat.le_of_ble_eq_true rfl, Nat.le_of_ble_eq_true rfl⟩ (fun H locs hP hD hS => ?_)
    refine lv_icmp_lt (tgt := 42) hx hb dX6_expandToTerm_29 (by decide) (fun c10 => ?_) (fun c10 => ?_)
    · replace h := fT c10 h
      cases h
      exact hE _ _ _ _ dX6_expandToTerm_42 hP hD hS
    · replace h := fF c10 h
      exact fX (show ¬ (1 : Nat) = 0 by decide) h
abbrev xrm_X6_expandToTerm : Room := { frames := 7, cells := 1, slots := 6, locals := 102 }
set_option maxHeartbeats 0 in
set_option maxRecDepth 100000 in
theorem x_X6_expandToTerm (l : Launch) (hfl : l.stackTraces = false) (D : va_G) (o : Nat → Nat) (y : Nat → ClassId) (sz : Nat) (pl : Nat → Int64) (te : Nat → Int32) (be : Nat → Int64) (cn : Int32) (ch : Nat → Int32) (le : Int32) (rE : Int32) (rL : Int32) (rP : Int32) (rF : Int32) (rS : Int32) (rD : Int32) (hs : Nat → Int64) (ho : Int32) (hc : Int32) (sl : Nat → Int64) (fi : Nat → Int32) (a1 : Int32) (a2 : Int32) (k : Nat) (te' : Nat → Int32) (be' : Nat → Int64) (cn' : Int32) (hkx : ¬ k = 0) (h : F_X6_expandToTerm pl te be cn a1 a2 = some (k, te', be', cn')) : vx_Met l yX6_expandToTerm wsX6_expandToTerm xrm_X6_expandToTerm (va_Pc [.ref (o 0), .int a1, .int a2] (pxe D y sz (XW o y pl te be cn ch le rE rL rP rF rS rD hs ho hc sl fi))) (QNo (XW o y pl te be cn ch le rE rL rP rF rS rD hs ho hc sl fi) sz) (QX D y sz (XW o y pl te be cn ch le rE rL rP rF rS rD hs ho hc sl fi) (XW o y pl te' be' cn' ch le rE rL rP rF rS rD hs ho hc sl fi) k) 1 6 (va_A (XW o y pl te be cn ch le rE rL rP rF rS rD hs ho hc sl fi) sz) := by
  refine hd_x (cc := cX6_expandToTerm) (maxL := 3) rfl rfl (Nat.le_of_ble_eq_true rfl) ?_
  intro p e s m args below meth c A Q H locs ls hx hb hml hts hown hA hP hD hK hS hl hEX hlocks hout hQ hAe
  have hl : lv_has ls 3 [(0, .ref (o 0)), (1, .int a1), (2, .int a2)] := hl
  have q0 := hts (.fieldLink RX6 18 "SliceShares" "continued" "LSliceShares$ContinuedFraction;") (by decide +kernel)
  have q1 := hts (.fieldLink RX6 9 "SliceShares" "plates" "[J") (by decide +kernel)
  have q2 := hts (.classLink RX6 104 "java/lang/IndexOutOfBoundsException") (by decide +kernel)
  have q3 := hts (.initialized "java/lang/IndexOutOfBoundsException") (by decide +kernel)
  have hinRX6 : ∀ w ∈ wsX60, w ∈ wsX6_expandToTerm := by decide +kernel
  unfold F_X6_expandToTerm at h
  refine lv_iload_n hx hb dX6_expandToTerm_0 rfl (lv_at hl 1 rfl) ?_
  obtain ⟨k1, g2, h⟩ := fB1 h
  by_cases e3 : ¬ k1 = 0
  · replace h := fF e3 h
    refine xc_S (As := [.int a1]) (rest := []) (ws1 := (XW o y pl te be cn ch le rE rL rP rF rS rD hs ho hc sl fi)) ⟨hx, hb, hml, hown, hts⟩ (x_X6_requirePlate l hfl D y _ a1 k1 e3 g2) (va_cwS 1 hts gX6_expandToTerm_X6_requirePlate rfl rfl rfl hd_X6_requirePlate ⟨Nat.le_of_ble_eq_true rfl, Nat.le_of_ble_eq_true rfl⟩) hK hP hD hS hA hEX [] [0, 1, 2, 3, 4, 5, 6, 7, 8, 9, 10, 11] [0, 1, 2, 3, 4, 5, 6, 7, 8, 9, 10, 11] rfl rfl rfl (by decide) rfl rfl rfl rfl hl.1 rfl (Nat.le_of_ble_eq_true rfl) dX6_expandToTerm_1 ⟨Nat.le_of_ble_eq_true rfl, Nat.le_of_ble_eq_true rfl⟩ (fun H locs ce q hP hD hS hce hv hcl => ?_)
    cases h
    exact outX hQ hAe hout hlocks hK hP hD hS hce hv hcl rfl (by decide) (by decide)
  replace e3 := Classical.not_not.mp e3
  subst e3
  replace h := fT rfl h
  refine cT_v (As := [.int a1]) (rest := []) ⟨hx, hb, hml, hown, hts⟩ (c_X6_requirePlate l D y _ a1 g2) (va_cwS 1 hts gX6_expandToTerm_X6_requirePlate rfl rfl rfl hd_X6_requirePlate ⟨Nat.le_of_ble_eq_true rfl, Nat.le_of_ble_eq_true rfl⟩) hK hP hD hS hA rfl hl.1 rfl (Nat.le_of_ble_eq_true rfl) dX6_expandToTerm_1 ⟨Nat.le_of_ble_eq_true rfl, Nat.le_of_ble_eq_true rfl⟩ (fun H locs hP hD hS => ?_)
  refine lv_aload_n hx hb dX6_expandToTerm_4 rfl (lv_at hl 0 rfl) ?_
  refine va_get (D := D) (ci := 4) (C := RX6) (T := TX6) (N := 7) hx hb hts hinRX6 hown hK hP 0 rfl rfl 1 (by decide) q0 (fun _ h9 => h9) rfl dX6_expandToTerm_5 ?_
  refine lv_aload_n hx hb dX6_expandToTerm_8 rfl (lv_at hl 0 rfl) ?_
  refine va_get (D := D) (ci := 4) (C := RX6) (T := TX6) (N := 7) hx hb hts hinRX6 hown hK hP 0 rfl rfl 0 (by decide) q1 (fun _ h9 => h9) rfl dX6_expandToTerm_9 ?_
  refine lv_iload_n hx hb dX6_expandToTerm_12 rfl (lv_at hl 1 rfl) ?_
  obtain ⟨g4, h⟩ := fG h
  refine va_lald hx hb hK hP 1 1 rfl rfl g4 dX6_expandToTerm_13 ?_
  obtain ⟨te5, be6, cn7, g8, h⟩ := fB3 h
  refine cV_v (As := [.long (pl a1.toNatClampNeg)]) (rest := []) (ws1 := (XW o y pl te5 be6 cn7 ch le rE rL rP rF rS rD hs ho hc sl fi)) ⟨hx, hb, hml, hown, hts⟩ (c_X2_expand l D o y _ te be cn (pl a1.toNatClampNeg) te5 be6 cn7 g8) (cwV 1 hts gX6_expandToTerm_X2_expand rfl rfl rfl hd_X2_expand ⟨Nat.le_of_ble_eq_true rfl, Nat.le_of_ble_eq_true rfl⟩) hK hP hD hS hA [2, 3, 4] [0, 1, 5, 6, 7, 8, 9, 10, 11] [0, 1, 9, 10, 11, 2, 3, 4, 5, 6, 7, 8] rfl rfl rfl (by decide) rfl rfl rfl 0 (ci := 2) rfl rfl rfl hl.1 rfl (Nat.le_of_ble_eq_true rfl) dX6_expandToTerm_14 ⟨Nat.le_of_ble_eq_true rfl, Nat.le_of_ble_eq_true rfl⟩ (fun H locs hP hD hS => ?_)
  refine lv_iload_n hx hb dX6_expandToTerm_17 rfl (lv_at hl 2 rfl) ?_
  refine lv_if_lt (tgt := 32) hx hb dX6_expandToTerm_18 (by decide) (fun c9 => ?_) (fun c9 => ?_)
  · replace h := fT c9 h
    cases h
    exact thrS (ik := 104) (is := 253) (ic := 108) (E := "java/lang/IndexOutOfBoundsException") (txt := "there is no such term") hx hb hfl hQ hAe hout hlocks hK hP hD hS hown rfl (by decide +kernel) q2 q3 (fun w hw => hts w (List.mem_cons_of_mem _ (List.mem_append_right _ hw))) th2_108 thg_108 hEX (by decide +kernel) (hl.1.trans hml.symm) dX6_expandToTerm_32 dX6_expandToTerm_35 dX6_expandToTerm_36 dX6_expandToTerm_38 dX6_expandToTerm_41 (by decide) (Nat.le_of_ble_eq_true rfl) (by decide) (by decide) (by decide) (by decide)
  · replace h := fF c9 h
    refine lv_iload_n hx hb dX6_expandToTerm_21 rfl (lv_at hl 2 rfl) ?_
    refine lv_aload_n hx hb dX6_expandToTerm_22 rfl (lv_at hl 0 rfl) ?_
    refine va_get (D := D) (ci := 4) (C := RX6) (T := TX6) (N := 7) hx hb hts hinRX6 hown hK hP 0 rfl rfl 1 (by decide) q0 (fun _ h9 => h9) rfl dX6_expandToTerm_23 ?_
    refine cV_i (As := []) (rest := [.int a2]) (ws1 := (XW o y pl te5 be6 cn7 ch le rE rL rP rF rS rD hs ho hc sl fi)) ⟨hx, hb, hml, hown, hts⟩ (c_X2_count l D o y _ te5 be6 cn7 ) (cwV 0 hts gX6_expandToTerm_X2_count rfl rfl rfl hd_X2_count ⟨Nat.le_of_ble_eq_true rfl, Nat.le_of_ble_eq_true rfl⟩) hK hP hD hS hA [2, 3, 4] [0, 1, 5, 6, 7, 8, 9, 10, 11] [0, 1, 9, 10, 11, 2, 3, 4, 5, 6, 7, 8] rfl rfl rfl (by decide) rfl rfl rfl 0 (ci := 2) rfl rfl rfl hl.1 rfl (Nat.le_of_ble_eq_true rfl) dX6_expandToTerm_26 ⟨Nat.le_of_ble_eq_true rfl, Nat.le_of_ble_eq_true rfl⟩ (fun H locs hP hD hS => ?_)
    refine lv_icmp_lt (tgt := 42) hx hb dX6_expandToTerm_29 (by decide) (fun c10 => ?_) (fun c10 => ?_)
    · replace h := fT c10 h
      exact fY hkx h
    · replace h := fF c10 h
      cases h
      exact thrS (ik := 104) (is := 253) (ic := 108) (E := "java/lang/IndexOutOfBoundsException") (txt := "there is no such term") hx hb hfl hQ hAe hout hlocks hK hP hD hS hown rfl (by decide +kernel) q2 q3 (fun w hw => hts w (List.mem_cons_of_mem _ (List.mem_append_right _ hw))) th2_108 thg_108 hEX (by decide +kernel) (hl.1.trans hml.symm) dX6_expandToTerm_32 dX6_expandToTerm_35 dX6_expandToTerm_36 dX6_expandToTerm_38 dX6_expandToTerm_41 (by decide) (Nat.le_of_ble_eq_true rfl) (by decide) (by decide) (by decide) (by decide)
abbrev rm_X6_termAt : Room := { frames := 5, cells := 0, slots := 0, locals := 118 }
theorem hd_X6_termAt : yX6_termAt.cls = RX6 ∧ yX6_termAt.cls ≠ "java/lang/invoke/MethodHandle" ∧ yX6_termAt.cls ≠ "java/lang/invoke/VarHandle" ∧ (parseMethodDescriptor yX6_termAt.desc).map (fun d => d.parameters.length) = some 2 := by decide +kernel
set_option maxHeartbeats 0 in
set_option maxRecDepth 100000 in
theorem c_X6_termAt (l : Launch) (D : va_G) (o : Nat → Nat) (y : Nat → ClassId) (sz : Nat) (pl : Nat → Int64) (te : Nat → Int32) (be : Nat → Int64) (cn : Int32) (ch : Nat → Int32) (le : Int32) (rE : Int32) (rL : Int32) (rP : Int32) (rF : Int32) (rS : Int32) (rD : Int32) (hs : Nat → Int64) (ho : Int32) (hc : Int32) (sl : Nat → Int64) (fi : Nat → Int32) (a1 : Int32) (a2 : Int32) (r : Int32) (te' : Nat → Int32) (be' : Nat → Int64) (cn' : Int32) (h : F_X6_termAt pl te be cn a1 a2 = some (0, r, te', be', cn')) : Met l yX6_termAt wsX6_termAt rm_X6_termAt (va_Pc [.ref (o 0), .int a1, .int a2] (px D y sz (XW o y pl te be cn ch le rE rL rP rF rS rD hs ho hc sl fi))) (Qri D y sz (XW o y pl te be cn ch le rE rL rP rF rS rD hs ho hc sl fi) (XW o y pl te' be' cn' ch le rE rL rP rF rS rD hs ho hc sl fi) r) 0 0 (va_A (XW o y pl te be cn ch le rE rL rP rF rS rD hs ho hc sl fi) sz) := by
  refine hd_i (cc := cX6_termAt) (maxL := 3) rfl rfl (Nat.le_of_ble_eq_true rfl) ?_
  intro p e s m args below meth c A Q H locs ls hx hb hml hts hown _ hA hP hD hK hS hl hE
  have hl : lv_has ls 3 [(0, .ref (o 0)), (1, .int a1), (2, .int a2)] := hl
  have q0 := hts (.fieldLink RX6 18 "SliceShares" "continued" "LSliceShares$ContinuedFraction;") (by decide +kernel)
  have hinRX6 : ∀ w ∈ wsX60, w ∈ wsX6_termAt := by decide +kernel
  unfold F_X6_termAt at h
  refine lv_aload_n hx hb dX6_termAt_0 rfl (lv_at hl 0 rfl) ?_
  refine lv_iload_n hx hb dX6_termAt_1 rfl (lv_at hl 1 rfl) ?_
  refine lv_iload_n hx hb dX6_termAt_2 rfl (lv_at hl 2 rfl) ?_
  obtain ⟨k1, te2, be3, cn4, g5, h⟩ := fB4 h
  by_cases e6 : ¬ k1 = 0
  · replace h := fF e6 h
    exact fX e6 h
  replace e6 := Classical.not_not.mp e6
  subst e6
  replace h := fT rfl h
  refine cV_v (As := [.int a1, .int a2]) (rest := []) (ws1 := (XW o y pl te2 be3 cn4 ch le rE rL rP rF rS rD hs ho hc sl fi)) ⟨hx, hb, hml, hown, hts⟩ (c_X6_expandToTerm l D o y _ pl te be cn ch le rE rL rP rF rS rD hs ho hc sl fi a1 a2 te2 be3 cn4 g5) (cwV 2 hts gX6_termAt_X6_expandToTerm rfl rfl rfl hd_X6_expandToTerm ⟨Nat.le_of_ble_eq_true rfl, Nat.le_of_ble_eq_true rfl⟩) hK hP hD hS hA [0, 1, 2, 3, 4, 5, 6, 7, 8, 9, 10, 11] [] [0, 1, 2, 3, 4, 5, 6, 7, 8, 9, 10, 11] rfl rfl rfl (by decide) rfl rfl rfl 0 (ci := 4) rfl rfl rfl hl.1 rfl (Nat.le_of_ble_eq_true rfl) dX6_termAt_3 ⟨Nat.le_of_ble_eq_true rfl, Nat.le_of_ble_eq_true rfl⟩ (fun H locs hP hD hS => ?_)
  refine lv_aload_n hx hb dX6_termAt_6 rfl (lv_at hl 0 rfl) ?_
  refine va_get (D := D) (ci := 4) (C := RX6) (T := TX6) (N := 7) hx hb hts hinRX6 hown hK hP 0 rfl rfl 1 (by decide) q0 (fun _ h9 => h9) rfl dX6_termAt_7 ?_
  refine lv_iload_n hx hb dX6_termAt_10 rfl (lv_at hl 2 rfl) ?_
  obtain ⟨r7, g8, h⟩ := fB1 h
  refine cV_i (As := [.int a2]) (rest := []) (ws1 := (XW o y pl te2 be3 cn4 ch le rE rL rP rF rS rD hs ho hc sl fi)) ⟨hx, hb, hml, hown, hts⟩ (c_X2_term l D o y _ te2 be3 cn4 a2 r7 g8) (cwV 1 hts gX6_termAt_X2_term rfl rfl rfl hd_X2_term ⟨Nat.le_of_ble_eq_true rfl, Nat.le_of_ble_eq_true rfl⟩) hK hP hD hS hA [2, 3, 4] [0, 1, 5, 6, 7, 8, 9, 10, 11] [0, 1, 9, 10, 11, 2, 3, 4, 5, 6, 7, 8] rfl rfl rfl (by decide) rfl rfl rfl 0 (ci := 2) rfl rfl rfl hl.1 rfl (Nat.le_of_ble_eq_true rfl) dX6_termAt_11 ⟨Nat.le_of_ble_eq_true rfl, Nat.le_of_ble_eq_true rfl⟩ (fun H locs hP hD hS => ?_)
  cases h
  exact hE _ _ _ _ dX6_termAt_14 hP hD hS
abbrev xrm_X6_termAt : Room := { frames := 8, cells := 1, slots := 6, locals := 124 }
set_option maxHeartbeats 0 in
set_option maxRecDepth 100000 in
theorem x_X6_termAt (l : Launch) (hfl : l.stackTraces = false) (D : va_G) (o : Nat → Nat) (y : Nat → ClassId) (sz : Nat) (pl : Nat → Int64) (te : Nat → Int32) (be : Nat → Int64) (cn : Int32) (ch : Nat → Int32) (le : Int32) (rE : Int32) (rL : Int32) (rP : Int32) (rF : Int32) (rS : Int32) (rD : Int32) (hs : Nat → Int64) (ho : Int32) (hc : Int32) (sl : Nat → Int64) (fi : Nat → Int32) (a1 : Int32) (a2 : Int32) (k : Nat) (r : Int32) (te' : Nat → Int32) (be' : Nat → Int64) (cn' : Int32) (hkx : ¬ k = 0) (h : F_X6_termAt pl te be cn a1 a2 = some (k, r, te', be', cn')) : vx_Met l yX6_termAt wsX6_termAt xrm_X6_termAt (va_Pc [.ref (o 0), .int a1, .int a2] (pxe D y sz (XW o y pl te be cn ch le rE rL rP rF rS rD hs ho hc sl fi))) (QNo (XW o y pl te be cn ch le rE rL rP rF rS rD hs ho hc sl fi) sz) (QX D y sz (XW o y pl te be cn ch le rE rL rP rF rS rD hs ho hc sl fi) (XW o y pl te' be' cn' ch le rE rL rP rF rS rD hs ho hc sl fi) k) 1 6 (va_A (XW o y pl te be cn ch le rE rL rP rF rS rD hs ho hc sl fi) sz) := by
  refine hd_x (cc := cX6_termAt) (maxL := 3) rfl rfl (Nat.le_of_ble_eq_true rfl) ?_
  intro p e s m args below meth c A Q H locs ls hx hb hml hts hown hA hP hD hK hS hl hEX hlocks hout hQ hAe
  have hl : lv_has ls 3 [(0, .ref (o 0)), (1, .int a1), (2, .int a2)] := hl
  have q0 := hts (.fieldLink RX6 18 "SliceShares" "continued" "LSliceShares$ContinuedFraction;") (by decide +kernel)
  have hinRX6 : ∀ w ∈ wsX60, w ∈ wsX6_termAt := by decide +kernel
  unfold F_X6_termAt at h
  refine lv_aload_n hx hb dX6_termAt_0 rfl (lv_at hl 0 rfl) ?_
  refine lv_iload_n hx hb dX6_termAt_1 rfl (lv_at hl 1 rfl) ?_
  refine lv_iload_n hx hb dX6_termAt_2 rfl (lv_at hl 2 rfl) ?_
  obtain ⟨k1, te2, be3, cn4, g5, h⟩ := fB4 h
  by_cases e6 : ¬ k1 = 0
  · replace h := fF e6 h
    refine xc_V (As := [.int a1, .int a2]) (rest := []) (ws1 := (XW o y pl te2 be3 cn4 ch le rE rL rP rF rS rD hs ho hc sl fi)) ⟨hx, hb, hml, hown, hts⟩ (x_X6_expandToTerm l hfl D o y _ pl te be cn ch le rE rL rP rF rS rD hs ho hc sl fi a1 a2 k1 te2 be3 cn4 e6 g5) (cwV 2 hts gX6_termAt_X6_expandToTerm rfl rfl rfl hd_X6_expandToTerm ⟨Nat.le_of_ble_eq_true rfl, Nat.le_of_ble_eq_true rfl⟩) hK hP hD hS hA hEX [0, 1, 2, 3, 4, 5, 6, 7, 8, 9, 10, 11] [] [0, 1, 2, 3, 4, 5, 6, 7, 8, 9, 10, 11] rfl rfl rfl (by decide) rfl rfl rfl 0 (ci := 4) rfl rfl rfl hl.1 rfl (Nat.le_of_ble_eq_true rfl) dX6_termAt_3 ⟨Nat.le_of_ble_eq_true rfl, Nat.le_of_ble_eq_true rfl⟩ (fun H locs ce q hP hD hS hce hv hcl => ?_)
    cases h
    exact outX hQ hAe hout hlocks hK hP hD hS hce hv hcl rfl (by decide) (by decide)
  replace e6 := Classical.not_not.mp e6
  subst e6
  replace h := fT rfl h
  refine cV_v (As := [.int a1, .int a2]) (rest := []) (ws1 := (XW o y pl te2 be3 cn4 ch le rE rL rP rF rS rD hs ho hc sl fi)) ⟨hx, hb, hml, hown, hts⟩ (c_X6_expandToTerm l D o y _ pl te be cn ch le rE rL rP rF rS rD hs ho hc sl fi a1 a2 te2 be3 cn4 g5) (cwV 2 hts gX6_termAt_X6_expandToTerm rfl rfl rfl hd_X6_expandToTerm ⟨Nat.le_of_ble_eq_true rfl, Nat.le_of_ble_eq_true rfl⟩) hK hP hD hS hA [0, 1, 2, 3, 4, 5, 6, 7, 8, 9, 10, 11] [] [0, 1, 2, 3, 4, 5, 6, 7, 8, 9, 10, 11] rfl rfl rfl (by decide) rfl rfl rfl 0 (ci := 4) rfl rfl rfl hl.1 rfl (Nat.le_of_ble_eq_true rfl) dX6_termAt_3 ⟨Nat.le_of_ble_eq_true rfl, Nat.le_of_ble_eq_true rfl⟩ (fun H locs hP hD hS => ?_)
  refine lv_aload_n hx hb dX6_termAt_6 rfl (lv_at hl 0 rfl) ?_
  refine va_get (D := D) (ci := 4) (C := RX6) (T := TX6) (N := 7) hx hb hts hinRX6 hown hK hP 0 rfl rfl 1 (by decide) q0 (fun _ h9 => h9) rfl dX6_termAt_7 ?_
  refine lv_iload_n hx hb dX6_termAt_10 rfl (lv_at hl 2 rfl) ?_
  obtain ⟨r7, g8, h⟩ := fB1 h
  refine cV_i (As := [.int a2]) (rest := []) (ws1 := (XW o y pl te2 be3 cn4 ch le rE rL rP rF rS rD hs ho hc sl fi)) ⟨hx, hb, hml, hown, hts⟩ (c_X2_term l D o y _ te2 be3 cn4 a2 r7 g8) (cwV 1 hts gX6_termAt_X2_term rfl rfl rfl hd_X2_term ⟨Nat.le_of_ble_eq_true rfl, Nat.le_of_ble_eq_true rfl⟩) hK hP hD hS hA [2, 3, 4] [0, 1, 5, 6, 7, 8, 9, 10, 11] [0, 1, 9, 10, 11, 2, 3, 4, 5, 6, 7, 8] rfl rfl rfl (by decide) rfl rfl rfl 0 (ci := 2) rfl rfl rfl hl.1 rfl (Nat.le_of_ble_eq_true rfl) dX6_termAt_11 ⟨Nat.le_of_ble_eq_true rfl, Nat.le_of_ble_eq_true rfl⟩ (fun H locs hP hD hS => ?_)
  exact fY hkx h
abbrev rm_X6_beginningNumerator : Room := { frames := 5, cells := 0, slots := 0, locals := 118 }
theorem hd_X6_beginningNumerator : yX6_beginningNumerator.cls = RX6 ∧ yX6_beginningNumerator.cls ≠ "java/lang/invoke/MethodHandle" ∧ yX6_beginningNumerator.cls ≠ "java/lang/invoke/VarHandle" ∧ (parseMethodDescriptor yX6_beginningNumerator.desc).map (fun d => d.parameters.length) = some 2 := by decide +kernel
set_option maxHeartbeats 0 in
set_option maxRecDepth 100000 in
theorem c_X6_beginningNumerator (l : Launch) (D : va_G) (o : Nat → Nat) (y : Nat → ClassId) (sz : Nat) (pl : Nat → Int64) (te : Nat → Int32) (be : Nat → Int64) (cn : Int32) (ch : Nat → Int32) (le : Int32) (rE : Int32) (rL : Int32) (rP : Int32) (rF : Int32) (rS : Int32) (rD : Int32) (hs : Nat → Int64) (ho : Int32) (hc : Int32) (sl : Nat → Int64) (fi : Nat → Int32) (a1 : Int32) (a2 : Int32) (r : Int32) (te' : Nat → Int32) (be' : Nat → Int64) (cn' : Int32) (h : F_X6_beginningNumerator pl te be cn a1 a2 = some (0, r, te', be', cn')) : Met l yX6_beginningNumerator wsX6_beginningNumerator rm_X6_beginningNumerator (va_Pc [.ref (o 0), .int a1, .int a2] (px D y sz (XW o y pl te be cn ch le rE rL rP rF rS rD hs ho hc sl fi))) (Qri D y sz (XW o y pl te be cn ch le rE rL rP rF rS rD hs ho hc sl fi) (XW o y pl te' be' cn' ch le rE rL rP rF rS rD hs ho hc sl fi) r) 0 0 (va_A (XW o y pl te be cn ch le rE rL rP rF rS rD hs ho hc sl fi) sz) := by
  refine hd_i (cc := cX6_beginningNumerator) (maxL := 3) rfl rfl (Nat.le_of_ble_eq_true rfl) ?_
  intro p e s m args below meth c A Q H locs ls hx hb hml hts hown _ hA hP hD hK hS hl hE
  have hl : lv_has ls 3 [(0, .ref (o 0)), (1, .int a1), (2, .int a2)] := hl
  have q0 := hts (.fieldLink RX6 18 "SliceShares" "continued" "LSliceShares$ContinuedFraction;") (by decide +kernel)
  have hinRX6 : ∀ w ∈ wsX60, w ∈ wsX6_beginningNumerator := by decide +kernel
  unfold F_X6_beginningNumerator at h
  refine lv_aload_n hx hb dX6_beginningNumerator_0 rfl (lv_at hl 0 rfl) ?_
  refine lv_iload_n hx hb dX6_beginningNumerator_1 rfl (lv_at hl 1 rfl) ?_
  refine lv_iload_n hx hb dX6_beginningNumerator_2 rfl (lv_at hl 2 rfl) ?_
  obtain ⟨k1, te2, be3, cn4, g5, h⟩ := fB4 h
  by_cases e6 : ¬ k1 = 0
  · replace h := fF e6 h
    exact fX e6 h
  replace e6 := Classical.not_not.mp e6
  subst e6
  replace h := fT rfl h
  refine cV_v (As := [.int a1, .int a2]) (rest := []) (ws1 := (XW o y pl te2 be3 cn4 ch le rE rL rP rF rS rD hs ho hc sl fi)) ⟨hx, hb, hml, hown, hts⟩ (c_X6_expandToTerm l D o y _ pl te be cn ch le rE rL rP rF rS rD hs ho hc sl fi a1 a2 te2 be3 cn4 g5) (cwV 2 hts gX6_beginningNumerator_X6_expandToTerm rfl rfl rfl hd_X6_expandToTerm ⟨Nat.le_of_ble_eq_true rfl, Nat.le_of_ble_eq_true rfl⟩) hK hP hD hS hA [0, 1, 2, 3, 4, 5, 6, 7, 8, 9, 10, 11] [] [0, 1, 2, 3, 4, 5, 6, 7, 8, 9, 10, 11] rfl rfl rfl (by decide) rfl rfl rfl 0 (ci := 4) rfl rfl rfl hl.1 rfl (Nat.le_of_ble_eq_true rfl) dX6_beginningNumerator_3 ⟨Nat.le_of_ble_eq_true rfl, Nat.le_of_ble_eq_true rfl⟩ (fun H locs hP hD hS => ?_)
  refine lv_aload_n hx hb dX6_beginningNumerator_6 rfl (lv_at hl 0 rfl) ?_
  refine va_get (D := D) (ci := 4) (C := RX6) (T := TX6) (N := 7) hx hb hts hinRX6 hown hK hP 0 rfl rfl 1 (by decide) q0 (fun _ h9 => h9) rfl dX6_beginningNumerator_7 ?_
  refine lv_iload_n hx hb dX6_beginningNumerator_10 rfl (lv_at hl 2 rfl) ?_
  obtain ⟨r7, g8, h⟩ := fB1 h
  refine cV_l (As := [.int a2]) (rest := []) (ws1 := (XW o y pl te2 be3 cn4 ch le rE rL rP rF rS rD hs ho hc sl fi)) ⟨hx, hb, hml, hown, hts⟩ (c_X2_beginning l D o y _ te2 be3 cn4 a2 r7 g8) (cwV 1 hts gX6_beginningNumerator_X2_beginning rfl rfl rfl hd_X2_beginning ⟨Nat.le_of_ble_eq_true rfl, Nat.le_of_ble_eq_true rfl⟩) hK hP hD hS hA [2, 3, 4] [0, 1, 5, 6, 7, 8, 9, 10, 11] [0, 1, 9, 10, 11, 2, 3, 4, 5, 6, 7, 8] rfl rfl rfl (by decide) rfl rfl rfl 0 (ci := 2) rfl rfl rfl hl.1 rfl (Nat.le_of_ble_eq_true rfl) dX6_beginningNumerator_11 ⟨Nat.le_of_ble_eq_true rfl, Nat.le_of_ble_eq_true rfl⟩ (fun H locs hP hD hS => ?_)
  refine cT_l (As := [.long r7]) (rest := []) ⟨hx, hb, hml, hown, hts⟩ (c_X3_numerator l D y _ r7) (va_cwS 1 hts gX6_beginningNumerator_X3_numerator rfl rfl rfl hd_X3_numerator ⟨Nat.le_of_ble_eq_true rfl, Nat.le_of_ble_eq_true rfl⟩) hK hP hD hS hA rfl hl.1 rfl (Nat.le_of_ble_eq_true rfl) dX6_beginningNumerator_14 ⟨Nat.le_of_ble_eq_true rfl, Nat.le_of_ble_eq_true rfl⟩ (fun H locs hP hD hS => ?_)
  refine lv_l2i (v := (F_X3_numerator r7).toInt32) hx hb dX6_beginningNumerator_17 rfl ?_
  cases h
  exact hE _ _ _ _ dX6_beginningNumerator_18 hP hD hS
abbrev xrm_X6_beginningNumerator : Room := { frames := 8, cells := 1, slots := 6, locals := 124 }
set_option maxHeartbeats 0 in
set_option maxRecDepth 100000 in
theorem x_X6_beginningNumerator (l : Launch) (hfl : l.stackTraces = false) (D : va_G) (o : Nat → Nat) (y : Nat → ClassId) (sz : Nat) (pl : Nat → Int64) (te : Nat → Int32) (be : Nat → Int64) (cn : Int32) (ch : Nat → Int32) (le : Int32) (rE : Int32) (rL : Int32) (rP : Int32) (rF : Int32) (rS : Int32) (rD : Int32) (hs : Nat → Int64) (ho : Int32) (hc : Int32) (sl : Nat → Int64) (fi : Nat → Int32) (a1 : Int32) (a2 : Int32) (k : Nat) (r : Int32) (te' : Nat → Int32) (be' : Nat → Int64) (cn' : Int32) (hkx : ¬ k = 0) (h : F_X6_beginningNumerator pl te be cn a1 a2 = some (k, r, te', be', cn')) : vx_Met l yX6_beginningNumerator wsX6_beginningNumerator xrm_X6_beginningNumerator (va_Pc [.ref (o 0), .int a1, .int a2] (pxe D y sz (XW o y pl te be cn ch le rE rL rP rF rS rD hs ho hc sl fi))) (QNo (XW o y pl te be cn ch le rE rL rP rF rS rD hs ho hc sl fi) sz) (QX D y sz (XW o y pl te be cn ch le rE rL rP rF rS rD hs ho hc sl fi) (XW o y pl te' be' cn' ch le rE rL rP rF rS rD hs ho hc sl fi) k) 1 6 (va_A (XW o y pl te be cn ch le rE rL rP rF rS rD hs ho hc sl fi) sz) := by
  refine hd_x (cc := cX6_beginningNumerator) (maxL := 3) rfl rfl (Nat.le_of_ble_eq_true rfl) ?_
  intro p e s m args below meth c A Q H locs ls hx hb hml hts hown hA hP hD hK hS hl hEX hlocks hout hQ hAe
  have hl : lv_has ls 3 [(0, .ref (o 0)), (1, .int a1), (2, .int a2)] := hl
  have q0 := hts (.fieldLink RX6 18 "SliceShares" "continued" "LSliceShares$ContinuedFraction;") (by decide +kernel)
  have hinRX6 : ∀ w ∈ wsX60, w ∈ wsX6_beginningNumerator := by decide +kernel
  unfold F_X6_beginningNumerator at h
  refine lv_aload_n hx hb dX6_beginningNumerator_0 rfl (lv_at hl 0 rfl) ?_
  refine lv_iload_n hx hb dX6_beginningNumerator_1 rfl (lv_at hl 1 rfl) ?_
  refine lv_iload_n hx hb dX6_beginningNumerator_2 rfl (lv_at hl 2 rfl) ?_
  obtain ⟨k1, te2, be3, cn4, g5, h⟩ := fB4 h
  by_cases e6 : ¬ k1 = 0
  · replace h := fF e6 h
    refine xc_V (As := [.int a1, .int a2]) (rest := []) (ws1 := (XW o y pl te2 be3 cn4 ch le rE rL rP rF rS rD hs ho hc sl fi)) ⟨hx, hb, hml, hown, hts⟩ (x_X6_expandToTerm l hfl D o y _ pl te be cn ch le rE rL rP rF rS rD hs ho hc sl fi a1 a2 k1 te2 be3 cn4 e6 g5) (cwV 2 hts gX6_beginningNumerator_X6_expandToTerm rfl rfl rfl hd_X6_expandToTerm ⟨Nat.le_of_ble_eq_true rfl, Nat.le_of_ble_eq_true rfl⟩) hK hP hD hS hA hEX [0, 1, 2, 3, 4, 5, 6, 7, 8, 9, 10, 11] [] [0, 1, 2, 3, 4, 5, 6, 7, 8, 9, 10, 11] rfl rfl rfl (by decide) rfl rfl rfl 0 (ci := 4) rfl rfl rfl hl.1 rfl (Nat.le_of_ble_eq_true rfl) dX6_beginningNumerator_3 ⟨Nat.le_of_ble_eq_true rfl, Nat.le_of_ble_eq_true rfl⟩ (fun H locs ce q hP hD hS hce hv hcl => ?_)
    cases h
    exact outX hQ hAe hout hlocks hK hP hD hS hce hv hcl rfl (by decide) (by decide)
  replace e6 := Classical.not_not.mp e6
  subst e6
  replace h := fT rfl h
  refine cV_v (As := [.int a1, .int a2]) (rest := []) (ws1 := (XW o y pl te2 be3 cn4 ch le rE rL rP rF rS rD hs ho hc sl fi)) ⟨hx, hb, hml, hown, hts⟩ (c_X6_expandToTerm l D o y _ pl te be cn ch le rE rL rP rF rS rD hs ho hc sl fi a1 a2 te2 be3 cn4 g5) (cwV 2 hts gX6_beginningNumerator_X6_expandToTerm rfl rfl rfl hd_X6_expandToTerm ⟨Nat.le_of_ble_eq_true rfl, Nat.le_of_ble_eq_true rfl⟩) hK hP hD hS hA [0, 1, 2, 3, 4, 5, 6, 7, 8, 9, 10, 11] [] [0, 1, 2, 3, 4, 5, 6, 7, 8, 9, 10, 11] rfl rfl rfl (by decide) rfl rfl rfl 0 (ci := 4) rfl rfl rfl hl.1 rfl (Nat.le_of_ble_eq_true rfl) dX6_beginningNumerator_3 ⟨Nat.le_of_ble_eq_true rfl, Nat.le_of_ble_eq_true rfl⟩ (fun H locs hP hD hS => ?_)
  refine lv_aload_n hx hb dX6_beginningNumerator_6 rfl (lv_at hl 0 rfl) ?_
  refine va_get (D := D) (ci := 4) (C := RX6) (T := TX6) (N := 7) hx hb hts hinRX6 hown hK hP 0 rfl rfl 1 (by decide) q0 (fun _ h9 => h9) rfl dX6_beginningNumerator_7 ?_
  refine lv_iload_n hx hb dX6_beginningNumerator_10 rfl (lv_at hl 2 rfl) ?_
  obtain ⟨r7, g8, h⟩ := fB1 h
  refine cV_l (As := [.int a2]) (rest := []) (ws1 := (XW o y pl te2 be3 cn4 ch le rE rL rP rF rS rD hs ho hc sl fi)) ⟨hx, hb, hml, hown, hts⟩ (c_X2_beginning l D o y _ te2 be3 cn4 a2 r7 g8) (cwV 1 hts gX6_beginningNumerator_X2_beginning rfl rfl rfl hd_X2_beginning ⟨Nat.le_of_ble_eq_true rfl, Nat.le_of_ble_eq_true rfl⟩) hK hP hD hS hA [2, 3, 4] [0, 1, 5, 6, 7, 8, 9, 10, 11] [0, 1, 9, 10, 11, 2, 3, 4, 5, 6, 7, 8] rfl rfl rfl (by decide) rfl rfl rfl 0 (ci := 2) rfl rfl rfl hl.1 rfl (Nat.le_of_ble_eq_true rfl) dX6_beginningNumerator_11 ⟨Nat.le_of_ble_eq_true rfl, Nat.le_of_ble_eq_true rfl⟩ (fun H locs hP hD hS => ?_)
  refine cT_l (As := [.long r7]) (rest := []) ⟨hx, hb, hml, hown, hts⟩ (c_X3_numerator l D y _ r7) (va_cwS 1 hts gX6_beginningNumerator_X3_numerator rfl rfl rfl hd_X3_numerator ⟨Nat.le_of_ble_eq_true rfl, Nat.le_of_ble_eq_true rfl⟩) hK hP hD hS hA rfl hl.1 rfl (Nat.le_of_ble_eq_true rfl) dX6_beginningNumerator_14 ⟨Nat.le_of_ble_eq_true rfl, Nat.le_of_ble_eq_true rfl⟩ (fun H locs hP hD hS => ?_)
  refine lv_l2i (v := (F_X3_numerator r7).toInt32) hx hb dX6_beginningNumerator_17 rfl ?_
  exact fY hkx h
abbrev rm_X6_beginningDenominator : Room := { frames := 5, cells := 0, slots := 0, locals := 118 }
theorem hd_X6_beginningDenominator : yX6_beginningDenominator.cls = RX6 ∧ yX6_beginningDenominator.cls ≠ "java/lang/invoke/MethodHandle" ∧ yX6_beginningDenominator.cls ≠ "java/lang/invoke/VarHandle" ∧ (parseMethodDescriptor yX6_beginningDenominator.desc).map (fun d => d.parameters.length) = some 2 := by decide +kernel
set_option maxHeartbeats 0 in
set_option maxRecDepth 100000 in
theorem c_X6_beginningDenominator (l : Launch) (D : va_G) (o : Nat → Nat) (y : Nat → ClassId) (sz : Nat) (pl : Nat → Int64) (te : Nat → Int32) (be : Nat → Int64) (cn : Int32) (ch : Nat → Int32) (le : Int32) (rE : Int32) (rL : Int32) (rP : Int32) (rF : Int32) (rS : Int32) (rD : Int32) (hs : Nat → Int64) (ho : Int32) (hc : Int32) (sl : Nat → Int64) (fi : Nat → Int32) (a1 : Int32) (a2 : Int32) (r : Int32) (te' : Nat → Int32) (be' : Nat → Int64) (cn' : Int32) (h : F_X6_beginningDenominator pl te be cn a1 a2 = some (0, r, te', be', cn')) : Met l yX6_beginningDenominator wsX6_beginningDenominator rm_X6_beginningDenominator (va_Pc [.ref (o 0), .int a1, .int a2] (px D y sz (XW o y pl te be cn ch le rE rL rP rF rS rD hs ho hc sl fi))) (Qri D y sz (XW o y pl te be cn ch le rE rL rP rF rS rD hs ho hc sl fi) (XW o y pl te' be' cn' ch le rE rL rP rF rS rD hs ho hc sl fi) r) 0 0 (va_A (XW o y pl te be cn ch le rE rL rP rF rS rD hs ho hc sl fi) sz) := by
  refine hd_i (cc := cX6_beginningDenominator) (maxL := 3) rfl rfl (Nat.le_of_ble_eq_true rfl) ?_
  intro p e s m args below meth c A Q H locs ls hx hb hml hts hown _ hA hP hD hK hS hl hE
  have hl : lv_has ls 3 [(0, .ref (o 0)), (1, .int a1), (2, .int a2)] := hl
  have q0 := hts (.fieldLink RX6 18 "SliceShares" "continued" "LSliceShares$ContinuedFraction;") (by decide +kernel)
  have hinRX6 : ∀ w ∈ wsX60, w ∈ wsX6_beginningDenominator := by decide +kernel
  unfold F_X6_beginningDenominator at h
  refine lv_aload_n hx hb dX6_beginningDenominator_0 rfl (lv_at hl 0 rfl) ?_
  refine lv_iload_n hx hb dX6_beginningDenominator_1 rfl (lv_at hl 1 rfl) ?_
  refine lv_iload_n hx hb dX6_beginningDenominator_2 rfl (lv_at hl 2 rfl) ?_
  obtain ⟨k1, te2, be3, cn4, g5, h⟩ := fB4 h
  by_cases e6 : ¬ k1 = 0
  · replace h := fF e6 h
    exact fX e6 h
  replace e6 := Classical.not_not.mp e6
  subst e6
  replace h := fT rfl h
  refine cV_v (As := [.int a1, .int a2]) (rest := []) (ws1 := (XW o y pl te2 be3 cn4 ch le rE rL rP rF rS rD hs ho hc sl fi)) ⟨hx, hb, hml, hown, hts⟩ (c_X6_expandToTerm l D o y _ pl te be cn ch le rE rL rP rF rS rD hs ho hc sl fi a1 a2 te2 be3 cn4 g5) (cwV 2 hts gX6_beginningDenominator_X6_expandToTerm rfl rfl rfl hd_X6_expandToTerm ⟨Nat.le_of_ble_eq_true rfl, Nat.le_of_ble_eq_true rfl⟩) hK hP hD hS hA [0, 1, 2, 3, 4, 5, 6, 7, 8, 9, 10, 11] [] [0, 1, 2, 3, 4, 5, 6, 7, 8, 9, 10, 11] rfl rfl rfl (by decide) rfl rfl rfl 0 (ci := 4) rfl rfl rfl hl.1 rfl (Nat.le_of_ble_eq_true rfl) dX6_beginningDenominator_3 ⟨Nat.le_of_ble_eq_true rfl, Nat.le_of_ble_eq_true rfl⟩ (fun H locs hP hD hS => ?_)
  refine lv_aload_n hx hb dX6_beginningDenominator_6 rfl (lv_at hl 0 rfl) ?_
  refine va_get (D := D) (ci := 4) (C := RX6) (T := TX6) (N := 7) hx hb hts hinRX6 hown hK hP 0 rfl rfl 1 (by decide) q0 (fun _ h9 => h9) rfl dX6_beginningDenominator_7 ?_
  refine lv_iload_n hx hb dX6_beginningDenominator_10 rfl (lv_at hl 2 rfl) ?_
  obtain ⟨r7, g8, h⟩ := fB1 h
  refine cV_l (As := [.int a2]) (rest := []) (ws1 := (XW o y pl te2 be3 cn4 ch le rE rL rP rF rS rD hs ho hc sl fi)) ⟨hx, hb, hml, hown, hts⟩ (c_X2_beginning l D o y _ te2 be3 cn4 a2 r7 g8) (cwV 1 hts gX6_beginningDenominator_X2_beginning rfl rfl rfl hd_X2_beginning ⟨Nat.le_of_ble_eq_true rfl, Nat.le_of_ble_eq_true rfl⟩) hK hP hD hS hA [2, 3, 4] [0, 1, 5, 6, 7, 8, 9, 10, 11] [0, 1, 9, 10, 11, 2, 3, 4, 5, 6, 7, 8] rfl rfl rfl (by decide) rfl rfl rfl 0 (ci := 2) rfl rfl rfl hl.1 rfl (Nat.le_of_ble_eq_true rfl) dX6_beginningDenominator_11 ⟨Nat.le_of_ble_eq_true rfl, Nat.le_of_ble_eq_true rfl⟩ (fun H locs hP hD hS => ?_)
  refine cT_l (As := [.long r7]) (rest := []) ⟨hx, hb, hml, hown, hts⟩ (c_X3_denominator l D y _ r7) (va_cwS 1 hts gX6_beginningDenominator_X3_denominator rfl rfl rfl hd_X3_denominator ⟨Nat.le_of_ble_eq_true rfl, Nat.le_of_ble_eq_true rfl⟩) hK hP hD hS hA rfl hl.1 rfl (Nat.le_of_ble_eq_true rfl) dX6_beginningDenominator_14 ⟨Nat.le_of_ble_eq_true rfl, Nat.le_of_ble_eq_true rfl⟩ (fun H locs hP hD hS => ?_)
  refine lv_l2i (v := (F_X3_denominator r7).toInt32) hx hb dX6_beginningDenominator_17 rfl ?_
  cases h
  exact hE _ _ _ _ dX6_beginningDenominator_18 hP hD hS
abbrev xrm_X6_beginningDenominator : Room := { frames := 8, cells := 1, slots := 6, locals := 124 }
set_option maxHeartbeats 0 in
set_option maxRecDepth 100000 in
theorem x_X6_beginningDenominator (l : Launch) (hfl : l.stackTraces = false) (D : va_G) (o : Nat → Nat) (y : Nat → ClassId) (sz : Nat) (pl : Nat → Int64) (te : Nat → Int32) (be : Nat → Int64) (cn : Int32) (ch : Nat → Int32) (le : Int32) (rE : Int32) (rL : Int32) (rP : Int32) (rF : Int32) (rS : Int32) (rD : Int32) (hs : Nat → Int64) (ho : Int32) (hc : Int32) (sl : Nat → Int64) (fi : Nat → Int32) (a1 : Int32) (a2 : Int32) (k : Nat) (r : Int32) (te' : Nat → Int32) (be' : Nat → Int64) (cn' : Int32) (hkx : ¬ k = 0) (h : F_X6_beginningDenominator pl te be cn a1 a2 = some (k, r, te', be', cn')) : vx_Met l yX6_beginningDenominator wsX6_beginningDenominator xrm_X6_beginningDenominator (va_Pc [.ref (o 0), .int a1, .int a2] (pxe D y sz (XW o y pl te be cn ch le rE rL rP rF rS rD hs ho hc sl fi))) (QNo (XW o y pl te be cn ch le rE rL rP rF rS rD hs ho hc sl fi) sz) (QX D y sz (XW o y pl te be cn ch le rE rL rP rF rS rD hs ho hc sl fi) (XW o y pl te' be' cn' ch le rE rL rP rF rS rD hs ho hc sl fi) k) 1 6 (va_A (XW o y pl te be cn ch le rE rL rP rF rS rD hs ho hc sl fi) sz) := by
  refine hd_x (cc := cX6_beginningDenominator) (maxL := 3) rfl rfl (Nat.le_of_ble_eq_true rfl) ?_
  intro p e s m args below meth c A Q H locs ls hx hb hml hts hown hA hP hD hK hS hl hEX hlocks hout hQ hAe
  have hl : lv_has ls 3 [(0, .ref (o 0)), (1, .int a1), (2, .int a2)] := hl
  have q0 := hts (.fieldLink RX6 18 "SliceShares" "continued" "LSliceShares$ContinuedFraction;") (by decide +kernel)
  have hinRX6 : ∀ w ∈ wsX60, w ∈ wsX6_beginningDenominator := by decide +kernel
  unfold F_X6_beginningDenominator at h
  refine lv_aload_n hx hb dX6_beginningDenominator_0 rfl (lv_at hl 0 rfl) ?_
  refine lv_iload_n hx hb dX6_beginningDenominator_1 rfl (lv_at hl 1 rfl) ?_
  refine lv_iload_n hx hb dX6_beginningDenominator_2 rfl (lv_at hl 2 rfl) ?_
  obtain ⟨k1, te2, be3, cn4, g5, h⟩ := fB4 h
  by_cases e6 : ¬ k1 = 0
  · replace h := fF e6 h
    refine xc_V (As := [.int a1, .int a2]) (rest := []) (ws1 := (XW o y pl te2 be3 cn4 ch le rE rL rP rF rS rD hs ho hc sl fi)) ⟨hx, hb, hml, hown, hts⟩ (x_X6_expandToTerm l hfl D o y _ pl te be cn ch le rE rL rP rF rS rD hs ho hc sl fi a1 a2 k1 te2 be3 cn4 e6 g5) (cwV 2 hts gX6_beginningDenominator_X6_expandToTerm rfl rfl rfl hd_X6_expandToTerm ⟨Nat.le_of_ble_eq_true rfl, Nat.le_of_ble_eq_true rfl⟩) hK hP hD hS hA hEX [0, 1, 2, 3, 4, 5, 6, 7, 8, 9, 10, 11] [] [0, 1, 2, 3, 4, 5, 6, 7, 8, 9, 10, 11] rfl rfl rfl (by decide) rfl rfl rfl 0 (ci := 4) rfl rfl rfl hl.1 rfl (Nat.le_of_ble_eq_true rfl) dX6_beginningDenominator_3 ⟨Nat.le_of_ble_eq_true rfl, Nat.le_of_ble_eq_true rfl⟩ (fun H locs ce q hP hD hS hce hv hcl => ?_)
    cases h
    exact outX hQ hAe hout hlocks hK hP hD hS hce hv hcl rfl (by decide) (by decide)
  replace e6 := Classical.not_not.mp e6
  subst e6
  replace h := fT rfl h
  refine cV_v (As := [.int a1, .int a2]) (rest := []) (ws1 := (XW o y pl te2 be3 cn4 ch le rE rL rP rF rS rD hs ho hc sl fi)) ⟨hx, hb, hml, hown, hts⟩ (c_X6_expandToTerm l D o y _ pl te be cn ch le rE rL rP rF rS rD hs ho hc sl fi a1 a2 te2 be3 cn4 g5) (cwV 2 hts gX6_beginningDenominator_X6_expandToTerm rfl rfl rfl hd_X6_expandToTerm ⟨Nat.le_of_ble_eq_true rfl, Nat.le_of_ble_eq_true rfl⟩) hK hP hD hS hA [0, 1, 2, 3, 4, 5, 6, 7, 8, 9, 10, 11] [] [0, 1, 2, 3, 4, 5, 6, 7, 8, 9, 10, 11] rfl rfl rfl (by decide) rfl rfl rfl 0 (ci := 4) rfl rfl rfl hl.1 rfl (Nat.le_of_ble_eq_true rfl) dX6_beginningDenominator_3 ⟨Nat.le_of_ble_eq_true rfl, Nat.le_of_ble_eq_true rfl⟩ (fun H locs hP hD hS => ?_)
  refine lv_aload_n hx hb dX6_beginningDenominator_6 rfl (lv_at hl 0 rfl) ?_
  refine va_get (D := D) (ci := 4) (C := RX6) (T := TX6) (N := 7) hx hb hts hinRX6 hown hK hP 0 rfl rfl 1 (by decide) q0 (fun _ h9 => h9) rfl dX6_beginningDenominator_7 ?_
  refine lv_iload_n hx hb dX6_beginningDenominator_10 rfl (lv_at hl 2 rfl) ?_
  obtain ⟨r7, g8, h⟩ := fB1 h
  refine cV_l (As := [.int a2]) (rest := []) (ws1 := (XW o y pl te2 be3 cn4 ch le rE rL rP rF rS rD hs ho hc sl fi)) ⟨hx, hb, hml, hown, hts⟩ (c_X2_beginning l D o y _ te2 be3 cn4 a2 r7 g8) (cwV 1 hts gX6_beginningDenominator_X2_beginning rfl rfl rfl hd_X2_beginning ⟨Nat.le_of_ble_eq_true rfl, Nat.le_of_ble_eq_true rfl⟩) hK hP hD hS hA [2, 3, 4] [0, 1, 5, 6, 7, 8, 9, 10, 11] [0, 1, 9, 10, 11, 2, 3, 4, 5, 6, 7, 8] rfl rfl rfl (by decide) rfl rfl rfl 0 (ci := 2) rfl rfl rfl hl.1 rfl (Nat.le_of_ble_eq_true rfl) dX6_beginningDenominator_11 ⟨Nat.le_of_ble_eq_true rfl, Nat.le_of_ble_eq_true rfl⟩ (fun H locs hP hD hS => ?_)
  refine cT_l (As := [.long r7]) (rest := []) ⟨hx, hb, hml, hown, hts⟩ (c_X3_denominator l D y _ r7) (va_cwS 1 hts gX6_beginningDenominator_X3_denominator rfl rfl rfl hd_X3_denominator ⟨Nat.le_of_ble_eq_true rfl, Nat.le_of_ble_eq_true rfl⟩) hK hP hD hS hA rfl hl.1 rfl (Nat.le_of_ble_eq_true rfl) dX6_beginningDenominator_14 ⟨Nat.le_of_ble_eq_true rfl, Nat.le_of_ble_eq_true rfl⟩ (fun H locs hP hD hS => ?_)
  refine lv_l2i (v := (F_X3_denominator r7).toInt32) hx hb dX6_beginningDenominator_17 rfl ?_
  exact fY hkx h
abbrev rm_X6_nearestDenominator : Room := { frames := 6, cells := 0, slots := 0, locals := 138 }
theorem hd_X6_nearestDenominator : yX6_nearestDenominator.cls = RX6 ∧ yX6_nearestDenominator.cls ≠ "java/lang/invoke/MethodHandle" ∧ yX6_nearestDenominator.cls ≠ "java/lang/invoke/VarHandle" ∧ (parseMethodDescriptor yX6_nearestDenominator.desc).map (fun d => d.parameters.length) = some 2 := by decide +kernel
set_option maxHeartbeats 0 in
set_option maxRecDepth 100000 in
theorem c_X6_nearestDenominator (l : Launch) (D : va_G) (o : Nat → Nat) (y : Nat → ClassId) (sz : Nat) (pl : Nat → Int64) (te : Nat → Int32) (be : Nat → Int64) (cn : Int32) (ch : Nat → Int32) (le : Int32) (rE : Int32) (rL : Int32) (rP : Int32) (rF : Int32) (rS : Int32) (rD : Int32) (hs : Nat → Int64) (ho : Int32) (hc : Int32) (sl : Nat → Int64) (fi : Nat → Int32) (a1 : Int32) (a2 : Int32) (r : Int32) (te' : Nat → Int32) (be' : Nat → Int64) (cn' : Int32) (h : F_X6_nearestDenominator pl te be cn a1 a2 = some (0, r, te', be', cn')) : Met l yX6_nearestDenominator wsX6_nearestDenominator rm_X6_nearestDenominator (va_Pc [.ref (o 0), .int a1, .int a2] (px D y sz (XW o y pl te be cn ch le rE rL rP rF rS rD hs ho hc sl fi))) (Qri D y sz (XW o y pl te be cn ch le rE rL rP rF rS rD hs ho hc sl fi) (XW o y pl te' be' cn' ch le rE rL rP rF rS rD hs ho hc sl fi) r) 0 0 (va_A (XW o y pl te be cn ch le rE rL rP rF rS rD hs ho hc sl fi) sz) := by
  refine hd_i (cc := cX6_nearestDenominator) (maxL := 3) rfl rfl (Nat.le_of_ble_eq_true rfl) ?_
  intro p e s m args below meth c A Q H locs ls hx hb hml hts hown _ hA hP hD hK hS hl hE
  have hl : lv_has ls 3 [(0, .ref (o 0)), (1, .int a1), (2, .int a2)] := hl
  unfold F_X6_nearestDenominator at h
  refine lv_aload_n hx hb dX6_nearestDenominator_0 rfl (lv_at hl 0 rfl) ?_
  refine lv_iload_n hx hb dX6_nearestDenominator_1 rfl (lv_at hl 1 rfl) ?_
  refine lv_iload_n hx hb dX6_nearestDenominator_2 rfl (lv_at hl 2 rfl) ?_
  obtain ⟨k1, r2, te3, be4, cn5, g6, h⟩ := fB5 h
  by_cases e7 : ¬ k1 = 0
  · replace h := fF e7 h
    exact fX e7 h
  replace e7 := Classical.not_not.mp e7
  subst e7
  replace h := fT rfl h
  refine cV_l (As := [.int a1, .int a2]) (rest := []) (ws1 := (XW o y pl te3 be4 cn5 ch le rE rL rP rF rS rD hs ho hc sl fi)) ⟨hx, hb, hml, hown, hts⟩ (c_X6_nearest l D o y _ pl te be cn ch le rE rL rP rF rS rD hs ho hc sl fi a1 a2 r2 te3 be4 cn5 g6) (cwV 2 hts gX6_nearestDenominator_X6_nearest rfl rfl rfl hd_X6_nearest ⟨Nat.le_of_ble_eq_true rfl, Nat.le_of_ble_eq_true rfl⟩) hK hP hD hS hA [0, 1, 2, 3, 4, 5, 6, 7, 8, 9, 10, 11] [] [0, 1, 2, 3, 4, 5, 6, 7, 8, 9, 10, 11] rfl rfl rfl (by decide) rfl rfl rfl 0 (ci := 4) rfl rfl rfl hl.1 rfl (Nat.le_of_ble_eq_true rfl) dX6_nearestDenominator_3 ⟨Nat.le_of_ble_eq_true rfl, Nat.le_of_ble_eq_true rfl⟩ (fun H locs hP hD hS => ?_)
  refine cT_l (As := [.long r2]) (rest := []) ⟨hx, hb, hml, hown, hts⟩ (c_X3_denominator l D y _ r2) (va_cwS 1 hts gX6_nearestDenominator_X3_denominator rfl rfl rfl hd_X3_denominator ⟨Nat.le_of_ble_eq_true rfl, Nat.le_of_ble_eq_true rfl⟩) hK hP hD hS hA rfl hl.1 rfl (Nat.le_of_ble_eq_true rfl) dX6_nearestDenominator_6 ⟨Nat.le_of_ble_eq_true rfl, Nat.le_of_ble_eq_true rfl⟩ (fun H locs hP hD hS => ?_)
  refine lv_l2i (v := (F_X3_denominator r2).toInt32) hx hb dX6_nearestDenominator_9 rfl ?_
  cases h
  exact hE _ _ _ _ dX6_nearestDenominator_10 hP hD hS
abbrev xrm_X6_nearestDenominator : Room := { frames := 8, cells := 1, slots := 6, locals := 138 }
set_option maxHeartbeats 0 in
set_option maxRecDepth 100000 in
theorem x_X6_nearestDenominator (l : Launch) (hfl : l.stackTraces = false) (D : va_G) (o : Nat → Nat) (y : Nat → ClassId) (sz : Nat) (pl : Nat → Int64) (te : Nat → Int32) (be : Nat → Int64) (cn : Int32) (ch : Nat → Int32) (le : Int32) (rE : Int32) (rL : Int32) (rP : Int32) (rF : Int32) (rS : Int32) (rD : Int32) (hs : Nat → Int64) (ho : Int32) (hc : Int32) (sl : Nat → Int64) (fi : Nat → Int32) (a1 : Int32) (a2 : Int32) (k : Nat) (r : Int32) (te' : Nat → Int32) (be' : Nat → Int64) (cn' : Int32) (hkx : ¬ k = 0) (h : F_X6_nearestDenominator pl te be cn a1 a2 = some (k, r, te', be', cn')) : vx_Met l yX6_nearestDenominator wsX6_nearestDenominator xrm_X6_nearestDenominator (va_Pc [.ref (o 0), .int a1, .int a2] (pxe D y sz (XW o y pl te be cn ch le rE rL rP rF rS rD hs ho hc sl fi))) (QNo (XW o y pl te be cn ch le rE rL rP rF rS rD hs ho hc sl fi) sz) (QX D y sz (XW o y pl te be cn ch le rE rL rP rF rS rD hs ho hc sl fi) (XW o y pl te' be' cn' ch le rE rL rP rF rS rD hs ho hc sl fi) k) 1 6 (va_A (XW o y pl te be cn ch le rE rL rP rF rS rD hs ho hc sl fi) sz) := by
  refine hd_x (cc := cX6_nearestDenominator) (maxL := 3) rfl rfl (Nat.le_of_ble_eq_true rfl) ?_
  intro p e s m args below meth c A Q H locs ls hx hb hml hts hown hA hP hD hK hS hl hEX hlocks hout hQ hAe
  have hl : lv_has ls 3 [(0, .ref (o 0)), (1, .int a1), (2, .int a2)] := hl
  unfold F_X6_nearestDenominator at h
  refine lv_aload_n hx hb dX6_nearestDenominator_0 rfl (lv_at hl 0 rfl) ?_
  refine lv_iload_n hx hb dX6_nearestDenominator_1 rfl (lv_at hl 1 rfl) ?_
  refine lv_iload_n hx hb dX6_nearestDenominator_2 rfl (lv_at hl 2 rfl) ?_
  obtain ⟨k1, r2, te3, be4, cn5, g6, h⟩ := fB5 h
  by_cases e7 : ¬ k1 = 0
  · replace h := fF e7 h
    refine xc_V (As := [.int a1, .int a2]) (rest := []) (ws1 := (XW o y pl te3 be4 cn5 ch le rE rL rP rF rS rD hs ho hc sl fi)) ⟨hx, hb, hml, hown, hts⟩ (x_X6_nearest l hfl D o y _ pl te be cn ch le rE rL rP rF rS rD hs ho hc sl fi a1 a2 k1 r2 te3 be4 cn5 e7 g6) (cwV 2 hts gX6_nearestDenominator_X6_nearest rfl rfl rfl hd_X6_nearest ⟨Nat.le_of_ble_eq_true rfl, Nat.le_of_ble_eq_true rfl⟩) hK hP hD hS hA hEX [0, 1, 2, 3, 4, 5, 6, 7, 8, 9, 10, 11] [] [0, 1, 2, 3, 4, 5, 6, 7, 8, 9, 10, 11] rfl rfl rfl (by decide) rfl rfl rfl 0 (ci := 4) rfl rfl rfl hl.1 rfl (Nat.le_of_ble_eq_true rfl) dX6_nearestDenominator_3 ⟨Nat.le_of_ble_eq_true rfl, Nat.le_of_ble_eq_true rfl⟩ (fun H locs ce q hP hD hS hce hv hcl => ?_)
    cases h
    exact outX hQ hAe hout hlocks hK hP hD hS hce hv hcl rfl (by decide) (by decide)
  replace e7 := Classical.not_not.mp e7
  subst e7
  replace h := fT rfl h
  refine cV_l (As := [.int a1, .int a2]) (rest := []) (ws1 := (XW o y pl te3 be4 cn5 ch le rE rL rP rF rS rD hs ho hc sl fi)) ⟨hx, hb, hml, hown, hts⟩ (c_X6_nearest l D o y _ pl te be cn ch le rE rL rP rF rS rD hs ho hc sl fi a1 a2 r2 te3 be4 cn5 g6) (cwV 2 hts gX6_nearestDenominator_X6_nearest rfl rfl rfl hd_X6_nearest ⟨Nat.le_of_ble_eq_true rfl, Nat.le_of_ble_eq_true rfl⟩) hK hP hD hS hA [0, 1, 2, 3, 4, 5, 6, 7, 8, 9, 10, 11] [] [0, 1, 2, 3, 4, 5, 6, 7, 8, 9, 10, 11] rfl rfl rfl (by decide) rfl rfl rfl 0 (ci := 4) rfl rfl rfl hl.1 rfl (Nat.le_of_ble_eq_true rfl) dX6_nearestDenominator_3 ⟨Nat.le_of_ble_eq_true rfl, Nat.le_of_ble_eq_true rfl⟩ (fun H locs hP hD hS => ?_)
  refine cT_l (As := [.long r2]) (rest := []) ⟨hx, hb, hml, hown, hts⟩ (c_X3_denominator l D y _ r2) (va_cwS 1 hts gX6_nearestDenominator_X3_denominator rfl rfl rfl hd_X3_denominator ⟨Nat.le_of_ble_eq_true rfl, Nat.le_of_ble_eq_true rfl⟩) hK hP hD hS hA rfl hl.1 rfl (Nat.le_of_ble_eq_true rfl) dX6_nearestDenominator_6 ⟨Nat.le_of_ble_eq_true rfl, Nat.le_of_ble_eq_true rfl⟩ (fun H locs hP hD hS => ?_)
  refine lv_l2i (v := (F_X3_denominator r2).toInt32) hx hb dX6_nearestDenominator_9 rfl ?_
  exact fY hkx h
abbrev rm_X6_triedDenominator : Room := { frames := 3, cells := 0, slots := 0, locals := 60 }
theorem hd_X6_triedDenominator : yX6_triedDenominator.cls ≠ "java/lang/invoke/MethodHandle" ∧ yX6_triedDenominator.cls ≠ "java/lang/invoke/VarHandle" ∧ (parseMethodDescriptor yX6_triedDenominator.desc).map (fun d => d.parameters.length) = some 2 := by decide +kernel
set_option maxHeartbeats 0 in
set_option maxRecDepth 100000 in
theorem c_X6_triedDenominator (l : Launch) (D : va_G) (y : Nat → ClassId) (sz : Nat) (a1 : Int64) (a2 : Int32) (r : Int32) (h : F_X6_triedDenominator a1 a2 = some r) : Met l yX6_triedDenominator wsX6_triedDenominator rm_X6_triedDenominator (va_Pc [.long a1, .int a2] (px D y sz [])) (Qri D y sz [] [] r) 0 0 (va_A [] sz) := by
  refine hd_i (cc := cX6_triedDenominator) (maxL := 5) rfl rfl (Nat.le_of_ble_eq_true rfl) ?_
  intro p e s m args below meth c A Q H locs ls hx hb hml hts hown _ hA hP hD hK hS hl hE
  have hl : lv_has ls 5 [(0, .long a1), (2, .int a2)] := hl
  unfold F_X6_triedDenominator at h
  refine lv_iconst (v := (1 : Int32)) hx hb dX6_triedDenominator_0 (by decide) ?_
  refine lv_istore_n (lv' := [(3, .int (1 : Int32)), (0, .long a1), (2, .int a2)]) hx hb dX6_triedDenominator_1 rfl hl (by decide) rfl (fun ls hl => ?_)
  refine lv_iconst (v := (2 : Int32)) hx hb dX6_triedDenominator_2 (by decide) ?_
  refine lv_istore (lv' := [(4, .int (2 : Int32)), (3, .int (1 : Int32)), (0, .long a1), (2, .int a2)]) hx hb dX6_triedDenominator_3 hl (by decide) rfl (fun ls hl => ?_)
  obtain ⟨v3, g4, h⟩ := fB1 h
  have J5 : ∀ (H : Heap) (locs : List Loc) (ls : Array Slot), va_P D vwCl [] H → va_D A [] → va_S A s.heap H locs → lv_has ls 5 [(3, .int v3)] → W p l e rm_X6_triedDenominator s m args below meth c H locs 0 0 Q (F0 m 42 ls []) := by
    intro H locs ls hP hD hS hl
    refine lv_iload_n hx hb dX6_triedDenominator_42 rfl (lv_at hl 0 rfl) ?_
    cases h
    exact hE _ _ _ _ dX6_triedDenominator_43 hP hD hS
  have LP6 : ∀ (n : Nat) (x1 : Int32) (x2 : Int32) (H : Heap) (locs : List Loc) (ls : Array Slot), L_X6_triedDenominator_5 n a1 a2 x1 x2 = some v3 → va_P D vwCl [] H → va_D A [] → va_S A s.heap H locs → lv_has ls 5 [(0, .long a1), (2, .int a2), (3, .int x1), (4, .int x2)] → W p l e rm_X6_triedDenominator s m args below meth c H locs 0 0 Q (F0 m 5 ls []) := by
    intro n
    induction n with
    | zero => intro x1 x2 H locs ls h hP hD hS hl; exact fN h
    | succ n ih =>
      intro x1 x2 H locs ls h hP hD hS hl
      replace h := (L_X6_triedDenominator_5_s n a1 a2 x1 x2).symm.trans h
      refine lv_iload hx hb dX6_triedDenominator_5 (lv_at hl 3 rfl) ?_
      refine lv_iload_n hx hb dX6_triedDenominator_7 rfl (lv_at hl 1 rfl) ?_
      refine lv_icmp_gt (tgt := 42) hx hb dX6_triedDenominator_8 (by decide) (fun c7 => ?_) (fun c7 => ?_)
      · replace h := fT c7 h
        cases h
        exact J5 _ _ _ hP hD hS (lv_sub hl [2] rfl)
      · replace h := fF c7 h
        refine lv_lload_n hx hb dX6_triedDenominator_11 rfl (lv_at hl 0 rfl) ?_
        refine lv_iload hx hb dX6_triedDenominator_12 (lv_at hl 3 rfl) ?_
        obtain ⟨r8, g9, h⟩ := fB1 h
        refine cT_l (As := [.long a1, .int x2]) (rest := []) ⟨hx, hb, hml, hown, hts⟩ (c_X3_partsApart l D y _ a1 x2 r8 g9) (va_cwS 2 hts gX6_triedDenominator_X3_partsApart rfl rfl rfl hd_X3_partsApart ⟨Nat.le_of_ble_eq_true rfl, Nat.le_of_ble_eq_true rfl⟩) hK hP hD hS hA rfl hl.1 rfl (Nat.le_of_ble_eq_true rfl) dX6_triedDenominator_14 ⟨Nat.le_of_ble_eq_true rfl, Nat.le_of_ble_eq_true rfl⟩ (fun H locs hP hD hS => ?_)
        refine lv_iload_n hx hb dX6_triedDenominator_17 rfl (lv_at hl 2 rfl) ?_
        refine lv_i2l (v := x1.toInt64) hx hb dX6_triedDenominator_18 rfl ?_
        refine lv_lmul hx hb dX6_triedDenominator_19 ?_
        refine lv_lload_n hx hb dX6_triedDenominator_20 rfl (lv_at hl 0 rfl) ?_
        refine lv_iload_n hx hb dX6_triedDenominator_21 rfl (lv_at hl 2 rfl) ?_
        obtain ⟨r10, g11, h⟩ := fB1 h
        refine cT_l (As := [.long a1, .int x1]) (rest := [.long (r8 * x1.toInt64)]) ⟨hx, hb, hml, hown, hts⟩ (c_X3_partsApart l D y _ a1 x1 r10 g11) (va_cwS 2 hts gX6_triedDenominator_X3_partsApart rfl rfl rfl hd_X3_partsApart ⟨Nat.le_of_ble_eq_true rfl, Nat.le_of_ble_eq_true rfl⟩) hK hP hD hS hA rfl hl.1 rfl (Nat.le_of_ble_eq_true rfl) dX6_triedDenominator_22 ⟨Nat.le_of_ble_eq_true rfl, Nat.le_of_ble_eq_true rfl⟩ (fun H locs hP hD hS => ?_)
        refine lv_iload hx hb dX6_triedDenominator_25 (lv_at hl 3 rfl) ?_
        refine lv_i2l (v := x2.toInt64) hx hb dX6_triedDenominator_27 rfl ?_
        refine lv_lmul hx hb dX6_triedDenominator_28 ?_
        have J12 : ∀ (v13 : Int32) (ls : Array Slot), v13 = (if (r10 * x2.toInt64) ≤ (r8 * x1.toInt64) then x1 else x2) → lv_has ls 5 [(0, .long a1), (2, .int a2), (3, .int v13), (4, .int x2)] → W p l e rm_X6_triedDenominator s m args below meth c H locs 0 0 Q (F0 m 36 ls []) := by
          intro v13 ls ev13 hl
          subst ev13
          refine lv_iinc (v := x2 + (1 : Int32)) (lv' := [(4, .int (x2 + (1 : Int32))), (0, .long a1), (2, .int a2), (3, .int (if (r10 * x2.toInt64) ≤ (r8 * x1.toInt64) then x1 else x2))]) hx hb dX6_triedDenominator_36 hl (k := 3) rfl rfl (by decide) rfl (fun ls hl => ?_)
          refine lv_goto (tgt := 5) hx hb dX6_triedDenominator_39 (by decide) ?_
          exact ih (if (r10 * x2.toInt64) ≤ (r8 * x1.toInt64) then x1 else x2) (x2 + (1 : Int32)) _ _ _ h hP hD hS (lv_sub hl [1, 2, 3, 0] rfl)
        refine lx_ge (tgt := 36) hx hb dX6_triedDenominator_29 dX6_triedDenominator_30 (by decide) (fun c14 => ?_) (fun c14 => ?_)
        · exact J12 _ _ (by rw [if_pos c14]) (lv_sub hl [0, 1, 2, 3] rfl)
        · refine lv_iload hx hb dX6_triedDenominator_33 (lv_at hl 3 rfl) ?_
          refine lv_istore_n (lv' := [(3, .int x2), (0, .long a1), (2, .int a2), (4, .int x2)]) hx hb dX6_triedDenominator_35 rfl hl (by decide) rfl (fun ls hl => ?_)
          exact J12 _ _ (by rw [if_neg c14]) (lv_sub hl [1, 2, 0, 3] rfl)
  exact LP6 FU (1 : Int32) (2 : Int32) _ _ _ g4 hP hD hS (lv_sub hl [2, 3, 1, 0] rfl)
abbrev rm_X6_nearestByTrying : Room := { frames := 4, cells := 0, slots := 0, locals := 84 }
theorem hd_X6_nearestByTrying : yX6_nearestByTrying.cls = RX6 ∧ yX6_nearestByTrying.cls ≠ "java/lang/invoke/MethodHandle" ∧ yX6_nearestByTrying.cls ≠ "java/lang/invoke/VarHandle" ∧ (parseMethodDescriptor yX6_nearestByTrying.desc).map (fun d => d.parameters.length) = some 2 := by decide +kernel
set_option maxHeartbeats 0 in
set_option maxRecDepth 100000 in
theorem c_X6_nearestByTrying (l : Launch) (D : va_G) (o : Nat → Nat) (y : Nat → ClassId) (sz : Nat) (pl : Nat → Int64) (te : Nat → Int32) (be : Nat → Int64) (cn : Int32) (ch : Nat → Int32) (le : Int32) (rE : Int32) (rL : Int32) (rP : Int32) (rF : Int32) (rS : Int32) (rD : Int32) (hs : Nat → Int64) (ho : Int32) (hc : Int32) (sl : Nat → Int64) (fi : Nat → Int32) (a1 : Int32) (a2 : Int32) (r : Int32) (h : F_X6_nearestByTrying pl a1 a2 = some (0, r)) : Met l yX6_nearestByTrying wsX6_nearestByTrying rm_X6_nearestByTrying (va_Pc [.ref (o 0), .int a1, .int a2] (px D y sz (XW o y pl te be cn ch le rE rL rP rF rS rD hs ho hc sl fi))) (Qri D y sz (XW o y pl te be cn ch le rE rL rP rF rS rD hs ho hc sl fi) (XW o y pl te be cn ch le rE rL rP rF rS rD hs ho hc sl fi) r) 0 0 (va_A (XW o y pl te be cn ch le rE rL rP rF rS rD hs ho hc sl fi) sz) := by
  refine hd_i (cc := cX6_nearestByTrying) (maxL := 3) rfl rfl (Nat.le_of_ble_eq_true rfl) ?_
  intro p e s m args below meth c A Q H locs ls hx hb hml hts hown _ hA hP hD hK hS hl hE
  have hl : lv_has ls 3 [(0, .ref (o 0)), (1, .int a1), (2, .int a2)] := hl
  have q0 := hts (.fieldLink RX6 9 "SliceShares" "plates" "[J") (by decide +kernel)
  have hinRX6 : ∀ w ∈ wsX60, w ∈ wsX6_nearestByTrying := by decide +kernel
  unfold F_X6_nearestByTrying at h
  refine lv_iload_n hx hb dX6_nearestByTrying_0 rfl (lv_at hl 1 rfl) ?_
  obtain ⟨k1, g2, h⟩ := fB1 h
  by_cases e3 : ¬ k1 = 0
  · replace h := fF e3 h
    exact fX e3 h
  replace e3 := Classical.not_not.mp e3
  subst e3
  replace h := fT rfl h
  refine cT_v (As := [.int a1]) (rest := []) ⟨hx, hb, hml, hown, hts⟩ (c_X6_requirePlate l D y _ a1 g2) (va_cwS 1 hts gX6_nearestByTrying_X6_requirePlate rfl rfl rfl hd_X6_requirePlate ⟨Nat.le_of_ble_eq_true rfl, Nat.le_of_ble_eq_true rfl⟩) hK hP hD hS hA rfl hl.1 rfl (Nat.le_of_ble_eq_true rfl) dX6_nearestByTrying_1 ⟨Nat.le_of_ble_eq_true rfl, Nat.le_of_ble_eq_true rfl⟩ (fun H locs hP hD hS => ?_)
  refine lv_iload_n hx hb dX6_nearestByTrying_4 rfl (lv_at hl 2 rfl) ?_
  obtain ⟨k4, g5, h⟩ := fB1 h
  by_cases e6 : ¬ k4 = 0
  · replace h := fF e6 h
    exact fX e6 h
  replace e6 := Classical.not_not.mp e6
  subst e6
  replace h := fT rfl h
  refine cT_v (As := [.int a2]) (rest := []) ⟨hx, hb, hml, hown, hts⟩ (c_X6_requireLimit l D y _ a2 g5) (va_cwS 1 hts gX6_nearestByTrying_X6_requireLimit rfl rfl rfl hd_X6_requireLimit ⟨Nat.le_of_ble_eq_true rfl, Nat.le_of_ble_eq_true rfl⟩) hK hP hD hS hA rfl hl.1 rfl (Nat.le_of_ble_eq_true rfl) dX6_nearestByTrying_5 ⟨Nat.le_of_ble_eq_true rfl, Nat.le_of_ble_eq_true rfl⟩ (fun H locs hP hD hS => ?_)
  refine lv_aload_n hx hb dX6_nearestByTrying_8 rfl (lv_at hl 0 rfl) ?_
  refine va_get (D := D) (ci := 4) (C := RX6) (T := TX6) (N := 7) hx hb hts hinRX6 hown hK hP 0 rfl rfl 0 (by decide) q0 (fun _ h9 => h9) rfl dX6_nearestByTrying_9 ?_
  refine lv_iload_n hx hb dX6_nearestByTrying_12 rfl (lv_at hl 1 rfl) ?_
  obtain ⟨g7, h⟩ := fG h
  refine va_lald hx hb hK hP 1 1 rfl rfl g7 dX6_nearestByTrying_13 ?_
  refine lv_iload_n hx hb dX6_nearestByTrying_14 rfl (lv_at hl 2 rfl) ?_
  obtain ⟨r8, g9, h⟩ := fB1 h
  refine cT_i (As := [.long (pl a1.toNatClampNeg), .int a2]) (rest := []) ⟨hx, hb, hml, hown, hts⟩ (c_X6_triedDenominator l D y _ (pl a1.toNatClampNeg) a2 r8 g9) (va_cwS 2 hts gX6_nearestByTrying_X6_triedDenominator rfl rfl rfl hd_X6_triedDenominator ⟨Nat.le_of_ble_eq_true rfl, Nat.le_of_ble_eq_true rfl⟩) hK hP hD hS hA rfl hl.1 rfl (Nat.le_of_ble_eq_true rfl) dX6_nearestByTrying_15 ⟨Nat.le_of_ble_eq_true rfl, Nat.le_of_ble_eq_true rfl⟩ (fun H locs hP hD hS => ?_)
  cases h
  exact hE _ _ _ _ dX6_nearestByTrying_18 hP hD hS
abbrev xrm_X6_nearestByTrying : Room := { frames := 7, cells := 1, slots := 6, locals := 102 }
set_option maxHeartbeats 0 in
set_option maxRecDepth 100000 in
theorem x_X6_nearestByTrying (l : Launch) (hfl : l.stackTraces = false) (D : va_G) (o : Nat → Nat) (y : Nat → ClassId) (sz : Nat) (pl : Nat → Int64) (te : Nat → Int32) (be : Nat → Int64) (cn : Int32) (ch : Nat → Int32) (le : Int32) (rE : Int32) (rL : Int32) (rP : Int32) (rF : Int32) (rS : Int32) (rD : Int32) (hs : Nat → Int64) (ho : Int32) (hc : Int32) (sl : Nat → Int64) (fi : Nat → Int32) (a1 : Int32) (a2 : Int32) (k : Nat) (r : Int32) (hkx : ¬ k = 0) (h : F_X6_nearestByTrying pl a1 a2 = some (k, r)) : vx_Met l yX6_nearestByTrying wsX6_nearestByTrying xrm_X6_nearestByTrying (va_Pc [.ref (o 0), .int a1, .int a2] (pxe D y sz (XW o y pl te be cn ch le rE rL rP rF rS rD hs ho hc sl fi))) (QNo (XW o y pl te be cn ch le rE rL rP rF rS rD hs ho hc sl fi) sz) (QX D y sz (XW o y pl te be cn ch le rE rL rP rF rS rD hs ho hc sl fi) (XW o y pl te be cn ch le rE rL rP rF rS rD hs ho hc sl fi) k) 1 6 (va_A (XW o y pl te be cn ch le rE rL rP rF rS rD hs ho hc sl fi) sz) := by
  refine hd_x (cc := cX6_nearestByTrying) (maxL := 3) rfl rfl (Nat.le_of_ble_eq_true rfl) ?_
  intro p e s m args below meth c A Q H locs ls hx hb hml hts hown hA hP hD hK hS hl hEX hlocks hout hQ hAe
  have hl : lv_has ls 3 [(0, .ref (o 0)), (1, .int a1), (2, .int a2)] := hl
  have q0 := hts (.fieldLink RX6 9 "SliceShares" "plates" "[J") (by decide +kernel)
  have hinRX6 : ∀ w ∈ wsX60, w ∈ wsX6_nearestByTrying := by decide +kernel
  unfold F_X6_nearestByTrying at h
  refine lv_iload_n hx hb dX6_nearestByTrying_0 rfl (lv_at hl 1 rfl) ?_
  obtain ⟨k1, g2, h⟩ := fB1 h
  by_cases e3 : ¬ k1 = 0
  · replace h := fF e3 h
    refine xc_S (As := [.int a1]) (rest := []) (ws1 := (XW o y pl te be cn ch le rE rL rP rF rS rD hs ho hc sl fi)) ⟨hx, hb, hml, hown, hts⟩ (x_X6_requirePlate l hfl D y _ a1 k1 e3 g2) (va_cwS 1 hts gX6_nearestByTrying_X6_requirePlate rfl rfl rfl hd_X6_requirePlate ⟨Nat.le_of_ble_eq_true rfl, Nat.le_of_ble_eq_true rfl⟩) hK hP hD hS hA hEX [] [0, 1, 2, 3, 4, 5, 6, 7, 8, 9, 10, 11] [0, 1, 2, 3, 4, 5, 6, 7, 8, 9, 10, 11] rfl rfl rfl (by decide) rfl rfl rfl rfl hl.1 rfl (Nat.le_of_ble_eq_true rfl) dX6_nearestByTrying_1 ⟨Nat.le_of_ble_eq_true rfl, Nat.le_of_ble_eq_true rfl⟩ (fun H locs ce q hP hD hS hce hv hcl => ?_)
    cases h
    exact outX hQ hAe hout hlocks hK hP hD hS hce hv hcl rfl (by decide) (by decide)
  replace e3 := Classical.not_not.mp e3
  subst e3
  replace h := fT rfl h
  refine cT_v (As := [.int a1]) (rest := []) ⟨hx, hb, hml, hown, hts⟩ (c_X6_requirePlate l D y _ a1 g2) (va_cwS 1 hts gX6_nearestByTrying_X6_requirePlate rfl rfl rfl hd_X6_requirePlate ⟨Nat.le_of_ble_eq_true rfl, Nat.le_of_ble_eq_true rfl⟩) hK hP hD hS hA rfl hl.1 rfl (Nat.le_of_ble_eq_true rfl) dX6_nearestByTrying_1 ⟨Nat.le_of_ble_eq_true rfl, Nat.le_of_ble_eq_true rfl⟩ (fun H locs hP hD hS => ?_)
  refine lv_iload_n hx hb dX6_nearestByTrying_4 rfl (lv_at hl 2 rfl) ?_
  obtain ⟨k4, g5, h⟩ := fB1 h
  by_cases e6 : ¬ k4 = 0
  · replace h := fF e6 h
    refine xc_S (As := [.int a2]) (rest := []) (ws1 := (XW o y pl te be cn ch le rE rL rP rF rS rD hs ho hc sl fi)) ⟨hx, hb, hml, hown, hts⟩ (x_X6_requireLimit l hfl D y _ a2 k4 e6 g5) (va_cwS 1 hts gX6_nearestByTrying_X6_requireLimit rfl rfl rfl hd_X6_requireLimit ⟨Nat.le_of_ble_eq_true rfl, Nat.le_of_ble_eq_true rfl⟩) hK hP hD hS hA hEX [] [0, 1, 2, 3, 4, 5, 6, 7, 8, 9, 10, 11] [0, 1, 2, 3, 4, 5, 6, 7, 8, 9, 10, 11] rfl rfl rfl (by decide) rfl rfl rfl rfl hl.1 rfl (Nat.le_of_ble_eq_true rfl) dX6_nearestByTrying_5 ⟨Nat.le_of_ble_eq_true rfl, Nat.le_of_ble_eq_true rfl⟩ (fun H locs ce q hP hD hS hce hv hcl => ?_)
    cases h
    exact outX hQ hAe hout hlocks hK hP hD hS hce hv hcl rfl (by decide) (by decide)
  replace e6 := Classical.not_not.mp e6
  subst e6
  replace h := fT rfl h
  refine cT_v (As := [.int a2]) (rest := []) ⟨hx, hb, hml, hown, hts⟩ (c_X6_requireLimit l D y _ a2 g5) (va_cwS 1 hts gX6_nearestByTrying_X6_requireLimit rfl rfl rfl hd_X6_requireLimit ⟨Nat.le_of_ble_eq_true rfl, Nat.le_of_ble_eq_true rfl⟩) hK hP hD hS hA rfl hl.1 rfl (Nat.le_of_ble_eq_true rfl) dX6_nearestByTrying_5 ⟨Nat.le_of_ble_eq_true rfl, Nat.le_of_ble_eq_true rfl⟩ (fun H locs hP hD hS => ?_)
  refine lv_aload_n hx hb dX6_nearestByTrying_8 rfl (lv_at hl 0 rfl) ?_
  refine va_get (D := D) (ci := 4) (C := RX6) (T := TX6) (N := 7) hx hb hts hinRX6 hown hK hP 0 rfl rfl 0 (by decide) q0 (fun _ h9 => h9) rfl dX6_nearestByTrying_9 ?_
  refine lv_iload_n hx hb dX6_nearestByTrying_12 rfl (lv_at hl 1 rfl) ?_
  obtain ⟨g7, h⟩ := fG h
  refine va_lald hx hb hK hP 1 1 rfl rfl g7 dX6_nearestByTrying_13 ?_
  refine lv_iload_n hx hb dX6_nearestByTrying_14 rfl (lv_at hl 2 rfl) ?_
  obtain ⟨r8, g9, h⟩ := fB1 h
  refine cT_i (As := [.long (pl a1.toNatClampNeg), .int a2]) (rest := []) ⟨hx, hb, hml, hown, hts⟩ (c_X6_triedDenominator l D y _ (pl a1.toNatClampNeg) a2 r8 g9) (va_cwS 2 hts gX6_nearestByTrying_X6_triedDenominator rfl rfl rfl hd_X6_triedDenominator ⟨Nat.le_of_ble_eq_true rfl, Nat.le_of_ble_eq_true rfl⟩) hK hP hD hS hA rfl hl.1 rfl (Nat.le_of_ble_eq_true rfl) dX6_nearestByTrying_15 ⟨Nat.le_of_ble_eq_true rfl, Nat.le_of_ble_eq_true rfl⟩ (fun H locs hP hD hS => ?_)
  exact fY hkx h
abbrev rm_X6_nearestNumerator : Room := { frames := 6, cells := 0, slots := 0, locals := 138 }
theorem hd_X6_nearestNumerator : yX6_nearestNumerator.cls = RX6 ∧ yX6_nearestNumerator.cls ≠ "java/lang/invoke/MethodHandle" ∧ yX6_nearestNumerator.cls ≠ "java/lang/invoke/VarHandle" ∧ (parseMethodDescriptor yX6_nearestNumerator.desc).map (fun d => d.parameters.length) = some 2 := by decide +kernel
set_option maxHeartbeats 0 in
set_option maxRecDepth 100000 in
theorem c_X6_nearestNumerator (l : Launch) (D : va_G) (o : Nat → Nat) (y : Nat → ClassId) (sz : Nat) (pl : Nat → Int64) (te : Nat → Int32) (be : Nat → Int64) (cn : Int32) (ch : Nat → Int32) (le : Int32) (rE : Int32) (rL : Int32) (rP : Int32) (rF : Int32) (rS : Int32) (rD : Int32) (hs : Nat → Int64) (ho : Int32) (hc : Int32) (sl : Nat → Int64) (fi : Nat → Int32) (a1 : Int32) (a2 : Int32) (r : Int32) (te' : Nat → Int32) (be' : Nat → Int64) (cn' : Int32) (h : F_X6_nearestNumerator pl te be cn a1 a2 = some (0, r, te', be', cn')) : Met l yX6_nearestNumerator wsX6_nearestNumerator rm_X6_nearestNumerator (va_Pc [.ref (o 0), .int a1, .int a2] (px D y sz (XW o y pl te be cn ch le rE rL rP rF rS rD hs ho hc sl fi))) (Qri D y sz (XW o y pl te be cn ch le rE rL rP rF rS rD hs ho hc sl fi) (XW o y pl te' be' cn' ch le rE rL rP rF rS rD hs ho hc sl fi) r) 0 0 (va_A (XW o y pl te be cn ch le rE rL rP rF rS rD hs ho hc sl fi) sz) := by
  refine hd_i (cc := cX6_nearestNumerator) (maxL := 3) rfl rfl (Nat.le_of_ble_eq_true rfl) ?_
  intro p e s m args below meth c A Q H locs ls hx hb hml hts hown _ hA hP hD hK hS hl hE
  have hl : lv_has ls 3 [(0, .ref (o 0)), (1, .int a1), (2, .int a2)] := hl
  unfold F_X6_nearestNumerator at h
  refine lv_aload_n hx hb dX6_nearestNumerator_0 rfl (lv_at hl 0 rfl) ?_
  refine lv_iload_n hx hb dX6_nearestNumerator_1 rfl (lv_at hl 1 rfl) ?_
  refine lv_iload_n hx hb dX6_nearestNumerator_2 rfl (lv_at hl 2 rfl) ?_
  obtain ⟨k1, r2, te3, be4, cn5, g6, h⟩ := fB5 h
  by_cases e7 : ¬ k1 = 0
  · replace h := fF e7 h
    exact fX e7 h
  replace e7 := Classical.not_not.mp e7
  subst e7
  replace h := fT rfl h
  refine cV_l (As := [.int a1, .int a2]) (rest := []) (ws1 := (XW o y pl te3 be4 cn5 ch le rE rL rP rF rS rD hs ho hc sl fi)) ⟨hx, hb, hml, hown, hts⟩ (c_X6_nearest l D o y _ pl te be cn ch le rE rL rP rF rS rD hs ho hc sl fi a1 a2 r2 te3 be4 cn5 g6) (cwV 2 hts gX6_nearestNumerator_X6_nearest rfl rfl rfl hd_X6_nearest ⟨Nat.le_of_ble_eq_true rfl, Nat.le_of_ble_eq_true rfl⟩) hK hP hD hS hA [0, 1, 2, 3, 4, 5, 6, 7, 8, 9, 10, 11] [] [0, 1, 2, 3, 4, 5, 6, 7, 8, 9, 10, 11] rfl rfl rfl (by decide) rfl rfl rfl 0 (ci := 4) rfl rfl rfl hl.1 rfl (Nat.le_of_ble_eq_true rfl) dX6_nearestNumerator_3 ⟨Nat.le_of_ble_eq_true rfl, Nat.le_of_ble_eq_true rfl⟩ (fun H locs hP hD hS => ?_)
  refine cT_l (As := [.long r2]) (rest := []) ⟨hx, hb, hml, hown, hts⟩ (c_X3_numerator l D y _ r2) (va_cwS 1 hts gX6_nearestNumerator_X3_numerator rfl rfl rfl hd_X3_numerator ⟨Nat.le_of_ble_eq_true rfl, Nat.le_of_ble_eq_true rfl⟩) hK hP hD hS hA rfl hl.1 rfl (Nat.le_of_ble_eq_true rfl) dX6_nearestNumerator_6 ⟨Nat.le_of_ble_eq_true rfl, Nat.le_of_ble_eq_true rfl⟩ (fun H locs hP hD hS => ?_)
  refine lv_l2i (v := (F_X3_numerator r2).toInt32) hx hb dX6_nearestNumerator_9 rfl ?_
  cases h
  exact hE _ _ _ _ dX6_nearestNumerator_10 hP hD hS
abbrev xrm_X6_nearestNumerator : Room := { frames := 8, cells := 1, slots := 6, locals := 138 }
set_option maxHeartbeats 0 in
set_option maxRecDepth 100000 in
theorem x_X6_nearestNumerator (l : Launch) (hfl : l.stackTraces = false) (D : va_G) (o : Nat → Nat) (y : Nat → ClassId) (sz : Nat) (pl : Nat → Int64) (te : Nat → Int32) (be : Nat → Int64) (cn : Int32) (ch : Nat → Int32) (le : Int32) (rE : Int32) (rL : Int32) (rP : Int32) (rF : Int32) (rS : Int32) (rD : Int32) (hs : Nat → Int64) (ho : Int32) (hc : Int32) (sl : Nat → Int64) (fi : Nat → Int32) (a1 : Int32) (a2 : Int32) (k : Nat) (r : Int32) (te' : Nat → Int32) (be' : Nat → Int64) (cn' : Int32) (hkx : ¬ k = 0) (h : F_X6_nearestNumerator pl te be cn a1 a2 = some (k, r, te', be', cn')) : vx_Met l yX6_nearestNumerator wsX6_nearestNumerator xrm_X6_nearestNumerator (va_Pc [.ref (o 0), .int a1, .int a2] (pxe D y sz (XW o y pl te be cn ch le rE rL rP rF rS rD hs ho hc sl fi))) (QNo (XW o y pl te be cn ch le rE rL rP rF rS rD hs ho hc sl fi) sz) (QX D y sz (XW o y pl te be cn ch le rE rL rP rF rS rD hs ho hc sl fi) (XW o y pl te' be' cn' ch le rE rL rP rF rS rD hs ho hc sl fi) k) 1 6 (va_A (XW o y pl te be cn ch le rE rL rP rF rS rD hs ho hc sl fi) sz) := by
  refine hd_x (cc := cX6_nearestNumerator) (maxL := 3) rfl rfl (Nat.le_of_ble_eq_true rfl) ?_
  intro p e s m args below meth c A Q H locs ls hx hb hml hts hown hA hP hD hK hS hl hEX hlocks hout hQ hAe
  have hl : lv_has ls 3 [(0, .ref (o 0)), (1, .int a1), (2, .int a2)] := hl
  unfold F_X6_nearestNumerator at h
  refine lv_aload_n hx hb dX6_nearestNumerator_0 rfl (lv_at hl 0 rfl) ?_
  refine lv_iload_n hx hb dX6_nearestNumerator_1 rfl (lv_at hl 1 rfl) ?_
  refine lv_iload_n hx hb dX6_nearestNumerator_2 rfl (lv_at hl 2 rfl) ?_
  obtain ⟨k1, r2, te3, be4, cn5, g6, h⟩ := fB5 h
  by_cases e7 : ¬ k1 = 0
  · replace h := fF e7 h
    refine xc_V (As := [.int a1, .int a2]) (rest := []) (ws1 := (XW o y pl te3 be4 cn5 ch le rE rL rP rF rS rD hs ho hc sl fi)) ⟨hx, hb, hml, hown, hts⟩ (x_X6_nearest l hfl D o y _ pl te be cn ch le rE rL rP rF rS rD hs ho hc sl fi a1 a2 k1 r2 te3 be4 cn5 e7 g6) (cwV 2 hts gX6_nearestNumerator_X6_nearest rfl rfl rfl hd_X6_nearest ⟨Nat.le_of_ble_eq_true rfl, Nat.le_of_ble_eq_true rfl⟩) hK hP hD hS hA hEX [0, 1, 2, 3, 4, 5, 6, 7, 8, 9, 10, 11] [] [0, 1, 2, 3, 4, 5, 6, 7, 8, 9, 10, 11] rfl rfl rfl (by decide) rfl rfl rfl 0 (ci := 4) rfl rfl rfl hl.1 rfl (Nat.le_of_ble_eq_true rfl) dX6_nearestNumerator_3 ⟨Nat.le_of_ble_eq_true rfl, Nat.le_of_ble_eq_true rfl⟩ (fun H locs ce q hP hD hS hce hv hcl => ?_)
    cases h
    exact outX hQ hAe hout hlocks hK hP hD hS hce hv hcl rfl (by decide) (by decide)
  replace e7 := Classical.not_not.mp e7
  subst e7
  replace h := fT rfl h
  refine cV_l (As := [.int a1, .int a2]) (rest := []) (ws1 := (XW o y pl te3 be4 cn5 ch le rE rL rP rF rS rD hs ho hc sl fi)) ⟨hx, hb, hml, hown, hts⟩ (c_X6_nearest l D o y _ pl te be cn ch le rE rL rP rF rS rD hs ho hc sl fi a1 a2 r2 te3 be4 cn5 g6) (cwV 2 hts gX6_nearestNumerator_X6_nearest rfl rfl rfl hd_X6_nearest ⟨Nat.le_of_ble_eq_true rfl, Nat.le_of_ble_eq_true rfl⟩) hK hP hD hS hA [0, 1, 2, 3, 4, 5, 6, 7, 8, 9, 10, 11] [] [0, 1, 2, 3, 4, 5, 6, 7, 8, 9, 10, 11] rfl rfl rfl (by decide) rfl rfl rfl 0 (ci := 4) rfl rfl rfl hl.1 rfl (Nat.le_of_ble_eq_true rfl) dX6_nearestNumerator_3 ⟨Nat.le_of_ble_eq_true rfl, Nat.le_of_ble_eq_true rfl⟩ (fun H locs hP hD hS => ?_)
  refine cT_l (As := [.long r2]) (rest := []) ⟨hx, hb, hml, hown, hts⟩ (c_X3_numerator l D y _ r2) (va_cwS 1 hts gX6_nearestNumerator_X3_numerator rfl rfl rfl hd_X3_numerator ⟨Nat.le_of_ble_eq_true rfl, Nat.le_of_ble_eq_true rfl⟩) hK hP hD hS hA rfl hl.1 rfl (Nat.le_of_ble_eq_true rfl) dX6_nearestNumerator_6 ⟨Nat.le_of_ble_eq_true rfl, Nat.le_of_ble_eq_true rfl⟩ (fun H locs hP hD hS => ?_)
  refine lv_l2i (v := (F_X3_numerator r2).toInt32) hx hb dX6_nearestNumerator_9 rfl ?_
  exact fY hkx h
abbrev rm_X6_requireLessThanOne : Room := { frames := 3, cells := 0, slots := 0, locals := 63 }
theorem hd_X6_requireLessThanOne : yX6_requireLessThanOne.cls = RX6 ∧ yX6_requireLessThanOne.cls ≠ "java/lang/invoke/MethodHandle" ∧ yX6_requireLessThanOne.cls ≠ "java/lang/invoke/VarHandle" ∧ (parseMethodDescriptor yX6_requireLessThanOne.desc).map (fun d => d.parameters.length) = some 1 := by decide +kernel
set_option maxHeartbeats 0 in
set_option maxRecDepth 100000 in
theorem c_X6_requireLessThanOne (l : Launch) (D : va_G) (o : Nat → Nat) (y : Nat → ClassId) (sz : Nat) (pl : Nat → Int64) (te : Nat → Int32) (be : Nat → Int64) (cn : Int32) (ch : Nat → Int32) (le : Int32) (rE : Int32) (rL : Int32) (rP : Int32) (rF : Int32) (rS : Int32) (rD : Int32) (hs : Nat → Int64) (ho : Int32) (hc : Int32) (sl : Nat → Int64) (fi : Nat → Int32) (a1 : Int32) (h : F_X6_requireLessThanOne pl a1 = some 0) : Met l yX6_requireLessThanOne wsX6_requireLessThanOne rm_X6_requireLessThanOne (va_Pc [.ref (o 0), .int a1] (px D y sz (XW o y pl te be cn ch le rE rL rP rF rS rD hs ho hc sl fi))) (Qrv D y sz (XW o y pl te be cn ch le rE rL rP rF rS rD hs ho hc sl fi) (XW o y pl te be cn ch le rE rL rP rF rS rD hs ho hc sl fi)) 0 0 (va_A (XW o y pl te be cn ch le rE rL rP rF rS rD hs ho hc sl fi) sz) := by
  refine hd_v (cc := cX6_requireLessThanOne) (maxL := 2) rfl rfl (Nat.le_of_ble_eq_true rfl) ?_
  intro p e s m args below meth c A Q H locs ls hx hb hml hts hown _ hA hP hD hK hS hl hE
  have hl : lv_has ls 2 [(0, .ref (o 0)), (1, .int a1)] := hl
  have q0 := hts (.fieldLink RX6 9 "SliceShares" "plates" "[J") (by decide +kernel)
  have q1 := hts (.constantLong RX6 166 (1048577)) (by decide +kernel)
  have hinRX6 : ∀ w ∈ wsX60, w ∈ wsX6_requireLessThanOne := by decide +kernel
  unfold F_X6_requireLessThanOne at h
  refine lv_aload_n hx hb dX6_requireLessThanOne_0 rfl (lv_at hl 0 rfl) ?_
  refine va_get (D := D) (ci := 4) (C := RX6) (T := TX6) (N := 7) hx hb hts hinRX6 hown hK hP 0 rfl rfl 0 (by decide) q0 (fun _ h9 => h9) rfl dX6_requireLessThanOne_1 ?_
  refine lv_iload_n hx hb dX6_requireLessThanOne_4 rfl (lv_at hl 1 rfl) ?_
  obtain ⟨g1, h⟩ := fG h
  refine va_lald hx hb hK hP 1 1 rfl rfl g1 dX6_requireLessThanOne_5 ?_
  refine lv_ldc2 (v := (1048577 : Int64)) hx hb hown q1 dX6_requireLessThanOne_6 ?_
  refine cT_i (As := [.long (pl a1.toNatClampNeg), .long (1048577 : Int64)]) (rest := []) ⟨hx, hb, hml, hown, hts⟩ (c_X3_order l D y _ (pl a1.toNatClampNeg) (1048577 : Int64)) (va_cwS 2 hts gX6_requireLessThanOne_X3_order rfl rfl rfl hd_X3_order ⟨Nat.le_of_ble_eq_true rfl, Nat.le_of_ble_eq_true rfl⟩) hK hP hD hS hA rfl hl.1 rfl (Nat.le_of_ble_eq_true rfl) dX6_requireLessThanOne_9 ⟨Nat.le_of_ble_eq_true rfl, Nat.le_of_ble_eq_true rfl⟩ (fun H locs hP hD hS => ?_)
  refine lv_if_lt (tgt := 25) hx hb dX6_requireLessThanOne_12 (by decide) (fun c2 => ?_) (fun c2 => ?_)
  · replace h := fT c2 h
    cases h
    exact hE _ _ _ _ dX6_requireLessThanOne_25 hP hD hS
  · replace h := fF c2 h
    exact fX1 (show ¬ (3 : Nat) = 0 by decide) h
abbrev xrm_X6_requireLessThanOne : Room := { frames := 6, cells := 1, slots := 6, locals := 82 }
set_option maxHeartbeats 0 in
set_option maxRecDepth 100000 in
theorem x_X6_requireLessThanOne (l : Launch) (hfl : l.stackTraces = false) (D : va_G) (o : Nat → Nat) (y : Nat → ClassId) (sz : Nat) (pl : Nat → Int64) (te : Nat → Int32) (be : Nat → Int64) (cn : Int32) (ch : Nat → Int32) (le : Int32) (rE : Int32) (rL : Int32) (rP : Int32) (rF : Int32) (rS : Int32) (rD : Int32) (hs : Nat → Int64) (ho : Int32) (hc : Int32) (sl : Nat → Int64) (fi : Nat → Int32) (a1 : Int32) (k : Nat) (hkx : ¬ k = 0) (h : F_X6_requireLessThanOne pl a1 = some k) : vx_Met l yX6_requireLessThanOne wsX6_requireLessThanOne xrm_X6_requireLessThanOne (va_Pc [.ref (o 0), .int a1] (pxe D y sz (XW o y pl te be cn ch le rE rL rP rF rS rD hs ho hc sl fi))) (QNo (XW o y pl te be cn ch le rE rL rP rF rS rD hs ho hc sl fi) sz) (QX D y sz (XW o y pl te be cn ch le rE rL rP rF rS rD hs ho hc sl fi) (XW o y pl te be cn ch le rE rL rP rF rS rD hs ho hc sl fi) k) 1 6 (va_A (XW o y pl te be cn ch le rE rL rP rF rS rD hs ho hc sl fi) sz) := by
  refine hd_x (cc := cX6_requireLessThanOne) (maxL := 2) rfl rfl (Nat.le_of_ble_eq_true rfl) ?_
  intro p e s m args below meth c A Q H locs ls hx hb hml hts hown hA hP hD hK hS hl hEX hlocks hout hQ hAe
  have hl : lv_has ls 2 [(0, .ref (o 0)), (1, .int a1)] := hl
  have q0 := hts (.fieldLink RX6 9 "SliceShares" "plates" "[J") (by decide +kernel)
  have q1 := hts (.constantLong RX6 166 (1048577)) (by decide +kernel)
  have q2 := hts (.classLink RX6 176 "java/lang/IllegalStateException") (by decide +kernel)
  have q3 := hts (.initialized "java/lang/IllegalStateException") (by decide +kernel)
  have hinRX6 : ∀ w ∈ wsX60, w ∈ wsX6_requireLessThanOne := by decide +kernel
  unfold F_X6_requireLessThanOne at h
  refine lv_aload_n hx hb dX6_requireLessThanOne_0 rfl (lv_at hl 0 rfl) ?_
  refine va_get (D := D) (ci := 4) (C := RX6) (T := TX6) (N := 7) hx hb hts hinRX6 hown hK hP 0 rfl rfl 0 (by decide) q0 (fun _ h9 => h9) rfl dX6_requireLessThanOne_1 ?_
  refine lv_iload_n hx hb dX6_requireLessThanOne_4 rfl (lv_at hl 1 rfl) ?_
  obtain ⟨g1, h⟩ := fG h
  refine va_lald hx hb hK hP 1 1 rfl rfl g1 dX6_requireLessThanOne_5 ?_
  refine lv_ldc2 (v := (1048577 : Int64)) hx hb hown q1 dX6_requireLessThanOne_6 ?_
  refine cT_i (As := [.long (pl a1.toNatClampNeg), .long (1048577 : Int64)]) (rest := []) ⟨hx, hb, hml, hown, hts⟩ (c_X3_order l D y _ (pl a1.toNatClampNeg) (1048577 : Int64)) (va_cwS 2 hts gX6_requireLessThanOne_X3_order rfl rfl rfl hd_X3_order ⟨Nat.le_of_ble_eq_true rfl, Nat.le_of_ble_eq_true rfl⟩) hK hP hD hS hA rfl hl.1 rfl (Nat.le_of_ble_eq_true rfl) dX6_requireLessThanOne_9 ⟨Nat.le_of_ble_eq_true rfl, Nat.le_of_ble_eq_true rfl⟩ (fun H locs hP hD hS => ?_)
  refine lv_if_lt (tgt := 25) hx hb dX6_requireLessThanOne_12 (by decide) (fun c2 => ?_) (fun c2 => ?_)
  · replace h := fT c2 h
    exact fY1 hkx h
  · replace h := fF c2 h
    cases h
    exact thrS (ik := 176) (is := 245) (ic := 180) (E := "java/lang/IllegalStateException") (txt := "the plate holds 1 or more") hx hb hfl hQ hAe hout hlocks hK hP hD hS hown rfl (by decide +kernel) q2 q3 (fun w hw => hts w (List.mem_cons_of_mem _ (List.mem_append_right _ hw))) th2_180 thg_180 hEX (by decide +kernel) (hl.1.trans hml.symm) dX6_requireLessThanOne_15 dX6_requireLessThanOne_18 dX6_requireLessThanOne_19 dX6_requireLessThanOne_21 dX6_requireLessThanOne_24 (by decide) (Nat.le_of_ble_eq_true rfl) (by decide) (by decide) (by decide) (by decide)
abbrev rm_X6_unitCount : Room := { frames := 4, cells := 0, slots := 0, locals := 88 }
theorem hd_X6_unitCount : yX6_unitCount.cls = RX6 ∧ yX6_unitCount.cls ≠ "java/lang/invoke/MethodHandle" ∧ yX6_unitCount.cls ≠ "java/lang/invoke/VarHandle" ∧ (parseMethodDescriptor yX6_unitCount.desc).map (fun d => d.parameters.length) = some 1 := by decide +kernel
set_option maxHeartbeats 0 in
set_option maxRecDepth 100000 in
theorem c_X6_unitCount (l : Launch) (D : va_G) (o : Nat → Nat) (y : Nat → ClassId) (sz : Nat) (pl : Nat → Int64) (te : Nat → Int32) (be : Nat → Int64) (cn : Int32) (ch : Nat → Int32) (le : Int32) (rE : Int32) (rL : Int32) (rP : Int32) (rF : Int32) (rS : Int32) (rD : Int32) (hs : Nat → Int64) (ho : Int32) (hc : Int32) (sl : Nat → Int64) (fi : Nat → Int32) (a1 : Int32) (r : Int32) (h : F_X6_unitCount pl a1 = some (0, r)) : Met l yX6_unitCount wsX6_unitCount rm_X6_unitCount (va_Pc [.ref (o 0), .int a1] (px D y sz (XW o y pl te be cn ch le rE rL rP rF rS rD hs ho hc sl fi))) (Qri D y sz (XW o y pl te be cn ch le rE rL rP rF rS rD hs ho hc sl fi) (XW o y pl te be cn ch le rE rL rP rF rS rD hs ho hc sl fi) r) 0 0 (va_A (XW o y pl te be cn ch le rE rL rP rF rS rD hs ho hc sl fi) sz) := by
  refine hd_i (cc := cX6_unitCount) (maxL := 2) rfl rfl (Nat.le_of_ble_eq_true rfl) ?_
  intro p e s m args below meth c A Q H locs ls hx hb hml hts hown _ hA hP hD hK hS hl hE
  have hl : lv_has ls 2 [(0, .ref (o 0)), (1, .int a1)] := hl
  have q0 := hts (.fieldLink RX6 9 "SliceShares" "plates" "[J") (by decide +kernel)
  have hinRX6 : ∀ w ∈ wsX60, w ∈ wsX6_unitCount := by decide +kernel
  unfold F_X6_unitCount at h
  refine lv_iload_n hx hb dX6_unitCount_0 rfl (lv_at hl 1 rfl) ?_
  obtain ⟨k1, g2, h⟩ := fB1 h
  by_cases e3 : ¬ k1 = 0
  · replace h := fF e3 h
    exact fX e3 h
  replace e3 := Classical.not_not.mp e3
  subst e3
  replace h := fT rfl h
  refine cT_v (As := [.int a1]) (rest := []) ⟨hx, hb, hml, hown, hts⟩ (c_X6_requirePlate l D y _ a1 g2) (va_cwS 1 hts gX6_unitCount_X6_requirePlate rfl rfl rfl hd_X6_requirePlate ⟨Nat.le_of_ble_eq_true rfl, Nat.le_of_ble_eq_true rfl⟩) hK hP hD hS hA rfl hl.1 rfl (Nat.le_of_ble_eq_true rfl) dX6_unitCount_1 ⟨Nat.le_of_ble_eq_true rfl, Nat.le_of_ble_eq_true rfl⟩ (fun H locs hP hD hS => ?_)
  refine lv_aload_n hx hb dX6_unitCount_4 rfl (lv_at hl 0 rfl) ?_
  refine lv_iload_n hx hb dX6_unitCount_5 rfl (lv_at hl 1 rfl) ?_
  obtain ⟨k4, g5, h⟩ := fB1 h
  by_cases e6 : ¬ k4 = 0
  · replace h := fF e6 h
    exact fX e6 h
  replace e6 := Classical.not_not.mp e6
  subst e6
  replace h := fT rfl h
  refine cV_v (As := [.int a1]) (rest := []) (ws1 := (XW o y pl te be cn ch le rE rL rP rF rS rD hs ho hc sl fi)) ⟨hx, hb, hml, hown, hts⟩ (c_X6_requireLessThanOne l D o y _ pl te be cn ch le rE rL rP rF rS rD hs ho hc sl fi a1 g5) (cwV 1 hts gX6_unitCount_X6_requireLessThanOne rfl rfl rfl hd_X6_requireLessThanOne ⟨Nat.le_of_ble_eq_true rfl, Nat.le_of_ble_eq_true rfl⟩) hK hP hD hS hA [0, 1, 2, 3, 4, 5, 6, 7, 8, 9, 10, 11] [] [0, 1, 2, 3, 4, 5, 6, 7, 8, 9, 10, 11] rfl rfl rfl (by decide) rfl rfl rfl 0 (ci := 4) rfl rfl rfl hl.1 rfl (Nat.le_of_ble_eq_true rfl) dX6_unitCount_6 ⟨Nat.le_of_ble_eq_true rfl, Nat.le_of_ble_eq_true rfl⟩ (fun H locs hP hD hS => ?_)
  refine lv_aload_n hx hb dX6_unitCount_9 rfl (lv_at hl 0 rfl) ?_
  refine va_get (D := D) (ci := 4) (C := RX6) (T := TX6) (N := 7) hx hb hts hinRX6 hown hK hP 0 rfl rfl 0 (by decide) q0 (fun _ h9 => h9) rfl dX6_unitCount_10 ?_
  refine lv_iload_n hx hb dX6_unitCount_13 rfl (lv_at hl 1 rfl) ?_
  obtain ⟨g7, h⟩ := fG h
  refine va_lald hx hb hK hP 1 1 rfl rfl g7 dX6_unitCount_14 ?_
  obtain ⟨r8, g9, h⟩ := fB1 h
  refine cT_i (As := [.long (pl a1.toNatClampNeg)]) (rest := []) ⟨hx, hb, hml, hown, hts⟩ (c_X5_count l D y _ (pl a1.toNatClampNeg) r8 g9) (va_cwS 1 hts gX6_unitCount_X5_count rfl rfl rfl hd_X5_count ⟨Nat.le_of_ble_eq_true rfl, Nat.le_of_ble_eq_true rfl⟩) hK hP hD hS hA rfl hl.1 rfl (Nat.le_of_ble_eq_true rfl) dX6_unitCount_15 ⟨Nat.le_of_ble_eq_true rfl, Nat.le_of_ble_eq_true rfl⟩ (fun H locs hP hD hS => ?_)
  cases h
  exact hE _ _ _ _ dX6_unitCount_18 hP hD hS
abbrev xrm_X6_unitCount : Room := { frames := 7, cells := 1, slots := 6, locals := 103 }
set_option maxHeartbeats 0 in
set_option maxRecDepth 100000 in
theorem x_X6_unitCount (l : Launch) (hfl : l.stackTraces = false) (D : va_G) (o : Nat → Nat) (y : Nat → ClassId) (sz : Nat) (pl : Nat → Int64) (te : Nat → Int32) (be : Nat → Int64) (cn : Int32) (ch : Nat → Int32) (le : Int32) (rE : Int32) (rL : Int32) (rP : Int32) (rF : Int32) (rS : Int32) (rD : Int32) (hs : Nat → Int64) (ho : Int32) (hc : Int32) (sl : Nat → Int64) (fi : Nat → Int32) (a1 : Int32) (k : Nat) (r : Int32) (hkx : ¬ k = 0) (h : F_X6_unitCount pl a1 = some (k, r)) : vx_Met l yX6_unitCount wsX6_unitCount xrm_X6_unitCount (va_Pc [.ref (o 0), .int a1] (pxe D y sz (XW o y pl te be cn ch le rE rL rP rF rS rD hs ho hc sl fi))) (QNo (XW o y pl te be cn ch le rE rL rP rF rS rD hs ho hc sl fi) sz) (QX D y sz (XW o y pl te be cn ch le rE rL rP rF rS rD hs ho hc sl fi) (XW o y pl te be cn ch le rE rL rP rF rS rD hs ho hc sl fi) k) 1 6 (va_A (XW o y pl te be cn ch le rE rL rP rF rS rD hs ho hc sl fi) sz) := by
  refine hd_x (cc := cX6_unitCount) (maxL := 2) rfl rfl (Nat.le_of_ble_eq_true rfl) ?_
  intro p e s m args below meth c A Q H locs ls hx hb hml hts hown hA hP hD hK hS hl hEX hlocks hout hQ hAe
  have hl : lv_has ls 2 [(0, .ref (o 0)), (1, .int a1)] := hl
  have q0 := hts (.fieldLink RX6 9 "SliceShares" "plates" "[J") (by decide +kernel)
  have hinRX6 : ∀ w ∈ wsX60, w ∈ wsX6_unitCount := by decide +kernel
  unfold F_X6_unitCount at h
  refine lv_iload_n hx hb dX6_unitCount_0 rfl (lv_at hl 1 rfl) ?_
  obtain ⟨k1, g2, h⟩ := fB1 h
  by_cases e3 : ¬ k1 = 0
  · replace h := fF e3 h
    refine xc_S (As := [.int a1]) (rest := []) (ws1 := (XW o y pl te be cn ch le rE rL rP rF rS rD hs ho hc sl fi)) ⟨hx, hb, hml, hown, hts⟩ (x_X6_requirePlate l hfl D y _ a1 k1 e3 g2) (va_cwS 1 hts gX6_unitCount_X6_requirePlate rfl rfl rfl hd_X6_requirePlate ⟨Nat.le_of_ble_eq_true rfl, Nat.le_of_ble_eq_true rfl⟩) hK hP hD hS hA hEX [] [0, 1, 2, 3, 4, 5, 6, 7, 8, 9, 10, 11] [0, 1, 2, 3, 4, 5, 6, 7, 8, 9, 10, 11] rfl rfl rfl (by decide) rfl rfl rfl rfl hl.1 rfl (Nat.le_of_ble_eq_true rfl) dX6_unitCount_1 ⟨Nat.le_of_ble_eq_true rfl, Nat.le_of_ble_eq_true rfl⟩ (fun H locs ce q hP hD hS hce hv hcl => ?_)
    cases h
    exact outX hQ hAe hout hlocks hK hP hD hS hce hv hcl rfl (by decide) (by decide)
  replace e3 := Classical.not_not.mp e3
  subst e3
  replace h := fT rfl h
  refine cT_v (As := [.int a1]) (rest := []) ⟨hx, hb, hml, hown, hts⟩ (c_X6_requirePlate l D y _ a1 g2) (va_cwS 1 hts gX6_unitCount_X6_requirePlate rfl rfl rfl hd_X6_requirePlate ⟨Nat.le_of_ble_eq_true rfl, Nat.le_of_ble_eq_true rfl⟩) hK hP hD hS hA rfl hl.1 rfl (Nat.le_of_ble_eq_true rfl) dX6_unitCount_1 ⟨Nat.le_of_ble_eq_true rfl, Nat.le_of_ble_eq_true rfl⟩ (fun H locs hP hD hS => ?_)
  refine lv_aload_n hx hb dX6_unitCount_4 rfl (lv_at hl 0 rfl) ?_
  refine lv_iload_n hx hb dX6_unitCount_5 rfl (lv_at hl 1 rfl) ?_
  obtain ⟨k4, g5, h⟩ := fB1 h
  by_cases e6 : ¬ k4 = 0
  · replace h := fF e6 h
    refine xc_V (As := [.int a1]) (rest := []) (ws1 := (XW o y pl te be cn ch le rE rL rP rF rS rD hs ho hc sl fi)) ⟨hx, hb, hml, hown, hts⟩ (x_X6_requireLessThanOne l hfl D o y _ pl te be cn ch le rE rL rP rF rS rD hs ho hc sl fi a1 k4 e6 g5) (cwV 1 hts gX6_unitCount_X6_requireLessThanOne rfl rfl rfl hd_X6_requireLessThanOne ⟨Nat.le_of_ble_eq_true rfl, Nat.le_of_ble_eq_true rfl⟩) hK hP hD hS hA hEX [0, 1, 2, 3, 4, 5, 6, 7, 8, 9, 10, 11] [] [0, 1, 2, 3, 4, 5, 6, 7, 8, 9, 10, 11] rfl rfl rfl (by decide) rfl rfl rfl 0 (ci := 4) rfl rfl rfl hl.1 rfl (Nat.le_of_ble_eq_true rfl) dX6_unitCount_6 ⟨Nat.le_of_ble_eq_true rfl, Nat.le_of_ble_eq_true rfl⟩ (fun H locs ce q hP hD hS hce hv hcl => ?_)
    cases h
    exact outX hQ hAe hout hlocks hK hP hD hS hce hv hcl rfl (by decide) (by decide)
  replace e6 := Classical.not_not.mp e6
  subst e6
  replace h := fT rfl h
  refine cV_v (As := [.int a1]) (rest := []) (ws1 := (XW o y pl te be cn ch le rE rL rP rF rS rD hs ho hc sl fi)) ⟨hx, hb, hml, hown, hts⟩ (c_X6_requireLessThanOne l D o y _ pl te be cn ch le rE rL rP rF rS rD hs ho hc sl fi a1 g5) (cwV 1 hts gX6_unitCount_X6_requireLessThanOne rfl rfl rfl hd_X6_requireLessThanOne ⟨Nat.le_of_ble_eq_true rfl, Nat.le_of_ble_eq_true rfl⟩) hK hP hD hS hA [0, 1, 2, 3, 4, 5, 6, 7, 8, 9, 10, 11] [] [0, 1, 2, 3, 4, 5, 6, 7, 8, 9, 10, 11] rfl rfl rfl (by decide) rfl rfl rfl 0 (ci := 4) rfl rfl rfl hl.1 rfl (Nat.le_of_ble_eq_true rfl) dX6_unitCount_6 ⟨Nat.le_of_ble_eq_true rfl, Nat.le_of_ble_eq_true rfl⟩ (fun H locs hP hD hS => ?_)
  refine lv_aload_n hx hb dX6_unitCount_9 rfl (lv_at hl 0 rfl) ?_
  refine va_get (D := D) (ci := 4) (C := RX6) (T := TX6) (N := 7) hx hb hts hinRX6 hown hK hP 0 rfl rfl 0 (by decide) q0 (fun _ h9 => h9) rfl dX6_unitCount_10 ?_
  refine lv_iload_n hx hb dX6_unitCount_13 rfl (lv_at hl 1 rfl) ?_
  obtain ⟨g7, h⟩ := fG h
  refine va_lald hx hb hK hP 1 1 rfl rfl g7 dX6_unitCount_14 ?_
  obtain ⟨r8, g9, h⟩ := fB1 h
  refine cT_i (As := [.long (pl a1.toNatClampNeg)]) (rest := []) ⟨hx, hb, hml, hown, hts⟩ (c_X5_count l D y _ (pl a1.toNatClampNeg) r8 g9) (va_cwS 1 hts gX6_unitCount_X5_count rfl rfl rfl hd_X5_count ⟨Nat.le_of_ble_eq_true rfl, Nat.le_of_ble_eq_true rfl⟩) hK hP hD hS hA rfl hl.1 rfl (Nat.le_of_ble_eq_true rfl) dX6_unitCount_15 ⟨Nat.le_of_ble_eq_true rfl, Nat.le_of_ble_eq_true rfl⟩ (fun H locs hP hD hS => ?_)
  exact fY hkx h
abbrev rm_X6_unitAt : Room := { frames := 4, cells := 0, slots := 0, locals := 84 }
theorem hd_X6_unitAt : yX6_unitAt.cls = RX6 ∧ yX6_unitAt.cls ≠ "java/lang/invoke/MethodHandle" ∧ yX6_unitAt.cls ≠ "java/lang/invoke/VarHandle" ∧ (parseMethodDescriptor yX6_unitAt.desc).map (fun d => d.parameters.length) = some 2 := by decide +kernel
set_option maxHeartbeats 0 in
set_option maxRecDepth 100000 in
theorem c_X6_unitAt (l : Launch) (D : va_G) (o : Nat → Nat) (y : Nat → ClassId) (sz : Nat) (pl : Nat → Int64) (te : Nat → Int32) (be : Nat → Int64) (cn : Int32) (ch : Nat → Int32) (le : Int32) (rE : Int32) (rL : Int32) (rP : Int32) (rF : Int32) (rS : Int32) (rD : Int32) (hs : Nat → Int64) (ho : Int32) (hc : Int32) (sl : Nat → Int64) (fi : Nat → Int32) (a1 : Int32) (a2 : Int32) (r : Int32) (h : F_X6_unitAt pl a1 a2 = some (0, r)) : Met l yX6_unitAt wsX6_unitAt rm_X6_unitAt (va_Pc [.ref (o 0), .int a1, .int a2] (px D y sz (XW o y pl te be cn ch le rE rL rP rF rS rD hs ho hc sl fi))) (Qri D y sz (XW o y pl te be cn ch le rE rL rP rF rS rD hs ho hc sl fi) (XW o y pl te be cn ch le rE rL rP rF rS rD hs ho hc sl fi) r) 0 0 (va_A (XW o y pl te be cn ch le rE rL rP rF rS rD hs ho hc sl fi) sz) := by
  refine hd_i (cc := cX6_unitAt) (maxL := 4) rfl rfl (Nat.le_of_ble_eq_true rfl) ?_
  intro p e s m args below meth c A Q H locs ls hx hb hml hts hown _ hA hP hD hK hS hl hE
  have hl : lv_has ls 4 [(0, .ref (o 0)), (1, .int a1), (2, .int a2)] := hl
  have q0 := hts (.fieldLink RX6 9 "SliceShares" "plates" "[J") (by decide +kernel)
  have hinRX6 : ∀ w ∈ wsX60, w ∈ wsX6_unitAt := by decide +kernel
  unfold F_X6_unitAt at h
  refine lv_iload_n hx hb dX6_unitAt_0 rfl (lv_at hl 1 rfl) ?_
  obtain ⟨k1, g2, h⟩ := fB1 h
  by_cases e3 : ¬ k1 = 0
  · replace h := fF e3 h
    exact fX e3 h
  replace e3 := Classical.not_not.mp e3
  subst e3
  replace h := fT rfl h
  refine cT_v (As := [.int a1]) (rest := []) ⟨hx, hb, hml, hown, hts⟩ (c_X6_requirePlate l D y _ a1 g2) (va_cwS 1 hts gX6_unitAt_X6_requirePlate rfl rfl rfl hd_X6_requirePlate ⟨Nat.le_of_ble_eq_true rfl, Nat.le_of_ble_eq_true rfl⟩) hK hP hD hS hA rfl hl.1 rfl (Nat.le_of_ble_eq_true rfl) dX6_unitAt_1 ⟨Nat.le_of_ble_eq_true rfl, Nat.le_of_ble_eq_true rfl⟩ (fun H locs hP hD hS => ?_)
  refine lv_iload_n hx hb dX6_unitAt_4 rfl (lv_at hl 2 rfl) ?_
  refine lv_if_lt (tgt := 13) hx hb dX6_unitAt_5 (by decide) (fun c4 => ?_) (fun c4 => ?_)
  · replace h := fT c4 h
    exact fX (show ¬ (1 : Nat) = 0 by decide) h
  · replace h := fF c4 h
    refine lv_iload_n hx hb dX6_unitAt_8 rfl (lv_at hl 2 rfl) ?_
    refine lv_iconst (v := (4 : Int32)) hx hb dX6_unitAt_9 (by decide) ?_
    refine lv_icmp_lt (tgt := 23) hx hb dX6_unitAt_10 (by decide) (fun c5 => ?_) (fun c5 => ?_)
    · replace h := fT c5 h
      refine lv_aload_n hx hb dX6_unitAt_23 rfl (lv_at hl 0 rfl) ?_
      refine lv_iload_n hx hb dX6_unitAt_24 rfl (lv_at hl 1 rfl) ?_
      obtain ⟨k6, g7, h⟩ := fB1 h
      by_cases e8 : ¬ k6 = 0
      · replace h := fF e8 h
        exact fX e8 h
      replace e8 := Classical.not_not.mp e8
      subst e8
      replace h := fT rfl h
      refine cV_v (As := [.int a1]) (rest := []) (ws1 := (XW o y pl te be cn ch le rE rL rP rF rS rD hs ho hc sl fi)) ⟨hx, hb, hml, hown, hts⟩ (c_X6_requireLessThanOne l D o y _ pl te be cn ch le rE rL rP rF rS rD hs ho hc sl fi a1 g7) (cwV 1 hts gX6_unitAt_X6_requireLessThanOne rfl rfl rfl hd_X6_requireLessThanOne ⟨Nat.le_of_ble_eq_true rfl, Nat.le_of_ble_eq_true rfl⟩) hK hP hD hS hA [0, 1, 2, 3, 4, 5, 6, 7, 8, 9, 10, 11] [] [0, 1, 2, 3, 4, 5, 6, 7, 8, 9, 10, 11] rfl rfl rfl (by decide) rfl rfl rfl 0 (ci := 4) rfl rfl rfl hl.1 rfl (Nat.le_of_ble_eq_true rfl) dX6_unitAt_25 ⟨Nat.le_of_ble_eq_true rfl, Nat.le_of_ble_eq_true rfl⟩ (fun H locs hP hD hS => ?_)
      refine lv_aload_n hx hb dX6_unitAt_28 rfl (lv_at hl 0 rfl) ?_
      refine va_get (D := D) (ci := 4) (C := RX6) (T := TX6) (N := 7) hx hb hts hinRX6 hown hK hP 0 rfl rfl 0 (by decide) q0 (fun _ h9 => h9) rfl dX6_unitAt_29 ?_
      refine lv_iload_n hx hb dX6_unitAt_32 rfl (lv_at hl 1 rfl) ?_
      obtain ⟨g9, h⟩ := fG h
      refine va_lald hx hb hK hP 1 1 rfl rfl g9 dX6_unitAt_33 ?_
      refine lv_iload_n hx hb dX6_unitAt_34 rfl (lv_at hl 2 rfl) ?_
      obtain ⟨r10, g11, h⟩ := fB1 h
      refine cT_i (As := [.long (pl a1.toNatClampNeg), .int a2]) (rest := []) ⟨hx, hb, hml, hown, hts⟩ (c_X5_unit l D y _ (pl a1.toNatClampNeg) a2 r10 g11) (va_cwS 2 hts gX6_unitAt_X5_unit rfl rfl rfl hd_X5_unit ⟨Nat.le_of_ble_eq_true rfl, Nat.le_of_ble_eq_true rfl⟩) hK hP hD hS hA rfl hl.1 rfl (Nat.le_of_ble_eq_true rfl) dX6_unitAt_35 ⟨Nat.le_of_ble_eq_true rfl, Nat.le_of_ble_eq_true rfl⟩ (fun H locs hP hD hS => ?_)
      refine lv_istore_n (lv' := [(3, .int r10), (0, .ref (o 0)), (1, .int a1), (2, .int a2)]) hx hb dX6_unitAt_38 rfl hl (by decide) rfl (fun ls hl => ?_)
      refine lv_iload_n hx hb dX6_unitAt_39 rfl (lv_at hl 0 rfl) ?_
      have J12 : ∀ (v13 : Int32) (ls : Array Slot), v13 = (if r10 = (0 : Int32) then (-1 : Int32) else r10) → lv_has ls 4 [(0, .ref (o 0)), (1, .int a1), (2, .int a2), (3, .int r10)] → W p l e rm_X6_unitAt s m args below meth c H locs 0 0 Q (F0 m 48 ls [.int v13]) := by
        intro v13 ls ev13 hl
        subst ev13
        cases h
        exact hE _ _ _ _ dX6_unitAt_48 hP hD hS
      refine lv_if_ne (tgt := 47) hx hb dX6_unitAt_40 (by decide) (fun c14 => ?_) (fun c14 => ?_)
      · refine lv_iload_n hx hb dX6_unitAt_47 rfl (lv_at hl 0 rfl) ?_
        exact J12 _ _ (by rw [if_neg c14]) (lv_sub hl [1, 2, 3, 0] rfl)
      · refine lv_iconst (v := (-1 : Int32)) hx hb dX6_unitAt_43 (by decide) ?_
        refine lv_goto (tgt := 48) hx hb dX6_unitAt_44 (by decide) ?_
        exact J12 _ _ (by rw [if_pos c14]) (lv_sub hl [1, 2, 3, 0] rfl)
    · replace h := fF c5 h
      exact fX (show ¬ (1 : Nat) = 0 by decide) h
abbrev xrm_X6_unitAt : Room := { frames := 7, cells := 1, slots := 6, locals := 103 }
set_option maxHeartbeats 0 in
set_option maxRecDepth 100000 in
theorem x_X6_unitAt (l : Launch) (hfl : l.stackTraces = false) (D : va_G) (o : Nat → Nat) (y : Nat → ClassId) (sz : Nat) (pl : Nat → Int64) (te : Nat → Int32) (be : Nat → Int64) (cn : Int32) (ch : Nat → Int32) (le : Int32) (rE : Int32) (rL : Int32) (rP : Int32) (rF : Int32) (rS : Int32) (rD : Int32) (hs : Nat → Int64) (ho : Int32) (hc : Int32) (sl : Nat → Int64) (fi : Nat → Int32) (a1 : Int32) (a2 : Int32) (k : Nat) (r : Int32) (hkx : ¬ k = 0) (h : F_X6_unitAt pl a1 a2 = some (k, r)) : vx_Met l yX6_unitAt wsX6_unitAt xrm_X6_unitAt (va_Pc [.ref (o 0), .int a1, .int a2] (pxe D y sz (XW o y pl te be cn ch le rE rL rP rF rS rD hs ho hc sl fi))) (QNo (XW o y pl te be cn ch le rE rL rP rF rS rD hs ho hc sl fi) sz) (QX D y sz (XW o y pl te be cn ch le rE rL rP rF rS rD hs ho hc sl fi) (XW o y pl te be cn ch le rE rL rP rF rS rD hs ho hc sl fi) k) 1 6 (va_A (XW o y pl te be cn ch le rE rL rP rF rS rD hs ho hc sl fi) sz) := by
  refine hd_x (cc := cX6_unitAt) (maxL := 4) rfl rfl (Nat.le_of_ble_eq_true rfl) ?_
  intro p e s m args below meth c A Q H locs ls hx hb hml hts hown hA hP hD hK hS hl hEX hlocks hout hQ hAe
  have hl : lv_has ls 4 [(0, .ref (o 0)), (1, .int a1), (2, .int a2)] := hl
  have q0 := hts (.classLink RX6 104 "java/lang/IndexOutOfBoundsException") (by decide +kernel)
  have q1 := hts (.initialized "java/lang/IndexOutOfBoundsException") (by decide +kernel)
  have q2 := hts (.fieldLink RX6 9 "SliceShares" "plates" "[J") (by decide +kernel)
  have hinRX6 : ∀ w ∈ wsX60, w ∈ wsX6_unitAt := by decide +kernel
  unfold F_X6_unitAt at h
  refine lv_iload_n hx hb dX6_unitAt_0 rfl (lv_at hl 1 rfl) ?_
  obtain ⟨k1, g2, h⟩ := fB1 h
  by_cases e3 : ¬ k1 = 0
  · replace h := fF e3 h
    refine xc_S (As := [.int a1]) (rest := []) (ws1 := (XW o y pl te be cn ch le rE rL rP rF rS rD hs ho hc sl fi)) ⟨hx, hb, hml, hown, hts⟩ (x_X6_requirePlate l hfl D y _ a1 k1 e3 g2) (va_cwS 1 hts gX6_unitAt_X6_requirePlate rfl rfl rfl hd_X6_requirePlate ⟨Nat.le_of_ble_eq_true rfl, Nat.le_of_ble_eq_true rfl⟩) hK hP hD hS hA hEX [] [0, 1, 2, 3, 4, 5, 6, 7, 8, 9, 10, 11] [0, 1, 2, 3, 4, 5, 6, 7, 8, 9, 10, 11] rfl rfl rfl (by decide) rfl rfl rfl rfl hl.1 rfl (Nat.le_of_ble_eq_true rfl) dX6_unitAt_1 ⟨Nat.le_of_ble_eq_true rfl, Nat.le_of_ble_eq_true rfl⟩ (fun H locs ce q hP hD hS hce hv hcl => ?_)
    cases h
    exact outX hQ hAe hout hlocks hK hP hD hS hce hv hcl rfl (by decide) (by decide)
  replace e3 := Classical.not_not.mp e3
  subst e3
  replace h := fT rfl h
  refine cT_v (As := [.int a1]) (rest := []) ⟨hx, hb, hml, hown, hts⟩ (c_X6_requirePlate l D y _ a1 g2) (va_cwS 1 hts gX6_unitAt_X6_requirePlate rfl rfl rfl hd_X6_requirePlate ⟨Nat.le_of_ble_eq_true rfl, Nat.le_of_ble_eq_true rfl⟩) hK hP hD hS hA rfl hl.1 rfl (Nat.le_of_ble_eq_true rfl) dX6_unitAt_1 ⟨Nat.le_of_ble_eq_true rfl, Nat.le_of_ble_eq_true rfl⟩ (fun H locs hP hD hS => ?_)
  refine lv_iload_n hx hb dX6_unitAt_4 rfl (lv_at hl 2 rfl) ?_
  refine lv_if_lt (tgt := 13) hx hb dX6_unitAt_5 (by decide) (fun c4 => ?_) (fun c4 => ?_)
  · replace h := fT c4 h
    cases h
    exact thrS (ik := 104) (is := 158) (ic := 108) (E := "java/lang/IndexOutOfBoundsException") (txt := "the unit is out of range") hx hb hfl hQ hAe hout hlocks hK hP hD hS hown rfl (by decide +kernel) q0 q1 (fun w hw => hts w (List.mem_cons_of_mem _ (List.mem_append_left _ (List.mem_append_right _ hw)))) th2_108 thg_108 hEX (by decide +kernel) (hl.1.trans hml.symm) dX6_unitAt_13 dX6_unitAt_16 dX6_unitAt_17 dX6_unitAt_19 dX6_unitAt_22 (by decide) (Nat.le_of_ble_eq_true rfl) (by decide) (by decide) (by decide) (by decide)
  · replace h := fF c4 h
    refine lv_iload_n hx hb dX6_unitAt_8 rfl (lv_at hl 2 rfl) ?_
    refine lv_iconst (v := (4 : Int32)) hx hb dX6_unitAt_9 (by decide) ?_
    refine lv_icmp_lt (tgt := 23) hx hb dX6_unitAt_10 (by decide) (fun c5 => ?_) (fun c5 => ?_)
    · replace h := fT c5 h
      refine lv_aload_n hx hb dX6_unitAt_23 rfl (lv_at hl 0 rfl) ?_
      refine lv_iload_n hx hb dX6_unitAt_24 rfl (lv_at hl 1 rfl) ?_
      obtain ⟨k6, g7, h⟩ := fB1 h
      by_cases e8 : ¬ k6 = 0
      · replace h := fF e8 h
        refine xc_V (As := [.int a1]) (rest := []) (ws1 := (XW o y pl te be cn ch le rE rL rP rF rS rD hs ho hc sl fi)) ⟨hx, hb, hml, hown, hts⟩ (x_X6_requireLessThanOne l hfl D o y _ pl te be cn ch le rE rL rP rF rS rD hs ho hc sl fi a1 k6 e8 g7) (cwV 1 hts gX6_unitAt_X6_requireLessThanOne rfl rfl rfl hd_X6_requireLessThanOne ⟨Nat.le_of_ble_eq_true rfl, Nat.le_of_ble_eq_true rfl⟩) hK hP hD hS hA hEX [0, 1, 2, 3, 4, 5, 6, 7, 8, 9, 10, 11] [] [0, 1, 2, 3, 4, 5, 6, 7, 8, 9, 10, 11] rfl rfl rfl (by decide) rfl rfl rfl 0 (ci := 4) rfl rfl rfl hl.1 rfl (Nat.le_of_ble_eq_true rfl) dX6_unitAt_25 ⟨Nat.le_of_ble_eq_true rfl, Nat.le_of_ble_eq_true rfl⟩ (fun H locs ce q hP hD hS hce hv hcl => ?_)
        cases h
        exact outX hQ hAe hout hlocks hK hP hD hS hce hv hcl rfl (by decide) (by decide)
      replace e8 := Classical.not_not.mp e8
      subst e8
      replace h := fT rfl h
      refine cV_v (As := [.int a1]) (rest := []) (ws1 := (XW o y pl te be cn ch le rE rL rP rF rS rD hs ho hc sl fi)) ⟨hx, hb, hml, hown, hts⟩ (c_X6_requireLessThanOne l D o y _ pl te be cn ch le rE rL rP rF rS rD hs ho hc sl fi a1 g7) (cwV 1 hts gX6_unitAt_X6_requireLessThanOne rfl rfl rfl hd_X6_requireLessThanOne ⟨Nat.le_of_ble_eq_true rfl, Nat.le_of_ble_eq_true rfl⟩) hK hP hD hS hA [0, 1, 2, 3, 4, 5, 6, 7, 8, 9, 10, 11] [] [0, 1, 2, 3, 4, 5, 6, 7, 8, 9, 10, 11] rfl rfl rfl (by decide) rfl rfl rfl 0 (ci := 4) rfl rfl rfl hl.1 rfl (Nat.le_of_ble_eq_true rfl) dX6_unitAt_25 ⟨Nat.le_of_ble_eq_true rfl, Nat.le_of_ble_eq_true rfl⟩ (fun H locs hP hD hS => ?_)
      refine lv_aload_n hx hb dX6_unitAt_28 rfl (lv_at hl 0 rfl) ?_
      refine va_get (D := D) (ci := 4) (C := RX6) (T := TX6) (N := 7) hx hb hts hinRX6 hown hK hP 0 rfl rfl 0 (by decide) q2 (fun _ h9 => h9) rfl dX6_unitAt_29 ?_
      refine lv_iload_n hx hb dX6_unitAt_32 rfl (lv_at hl 1 rfl) ?_
      obtain ⟨g9, h⟩ := fG h
      refine va_lald hx hb hK hP 1 1 rfl rfl g9 dX6_unitAt_33 ?_
      refine lv_iload_n hx hb dX6_unitAt_34 rfl (lv_at hl 2 rfl) ?_
      obtain ⟨r10, g11, h⟩ := fB1 h
      refine cT_i (As := [.long (pl a1.toNatClampNeg), .int a2]) (rest := []) ⟨hx, hb, hml, hown, hts⟩ (c_X5_unit l D y _ (pl a1.toNatClampNeg) a2 r10 g11) (va_cwS 2 hts gX6_unitAt_X5_unit rfl rfl rfl hd_X5_unit ⟨Nat.le_of_ble_eq_true rfl, Nat.le_of_ble_eq_true rfl⟩) hK hP hD hS hA rfl hl.1 rfl (Nat.le_of_ble_eq_true rfl) dX6_unitAt_35 ⟨Nat.le_of_ble_eq_true rfl, Nat.le_of_ble_eq_true rfl⟩ (fun H locs hP hD hS => ?_)
      refine lv_istore_n (lv' := [(3, .int r10), (0, .ref (o 0)), (1, .int a1), (2, .int a2)]) hx hb dX6_unitAt_38 rfl hl (by decide) rfl (fun ls hl => ?_)
      refine lv_iload_n hx hb dX6_unitAt_39 rfl (lv_at hl 0 rfl) ?_
      have J12 : ∀ (v13 : Int32) (ls : Array Slot), v13 = (if r10 = (0 : Int32) then (-1 : Int32) else r10) → lv_has ls 4 [(0, .ref (o 0)), (1, .int a1), (2, .int a2), (3, .int r10)] → W p l e xrm_X6_unitAt s m args below meth c H locs 0 0 Q (F0 m 48 ls [.int v13]) := by
        intro v13 ls ev13 hl
        subst ev13
        exact fY hkx h
      refine lv_if_ne (tgt := 47) hx hb dX6_unitAt_40 (by decide) (fun c14 => ?_) (fun c14 => ?_)
      · refine lv_iload_n hx hb dX6_unitAt_47 rfl (lv_at hl 0 rfl) ?_
        exact J12 _ _ (by rw [if_neg c14]) (lv_sub hl [1, 2, 3, 0] rfl)
      · refine lv_iconst (v := (-1 : Int32)) hx hb dX6_unitAt_43 (by decide) ?_
        refine lv_goto (tgt := 48) hx hb dX6_unitAt_44 (by decide) ?_
        exact J12 _ _ (by rw [if_pos c14]) (lv_sub hl [1, 2, 3, 0] rfl)
    · replace h := fF c5 h
      cases h
      exact thrS (ik := 104) (is := 158) (ic := 108) (E := "java/lang/IndexOutOfBoundsException") (txt := "the unit is out of range") hx hb hfl hQ hAe hout hlocks hK hP hD hS hown rfl (by decide +kernel) q0 q1 (fun w hw => hts w (List.mem_cons_of_mem _ (List.mem_append_left _ (List.mem_append_right _ hw)))) th2_108 thg_108 hEX (by decide +kernel) (hl.1.trans hml.symm) dX6_unitAt_13 dX6_unitAt_16 dX6_unitAt_17 dX6_unitAt_19 dX6_unitAt_22 (by decide) (Nat.le_of_ble_eq_true rfl) (by decide) (by decide) (by decide) (by decide)
abbrev rm_X6_waySteps : Room := { frames := 4, cells := 0, slots := 0, locals := 96 }
theorem hd_X6_waySteps : yX6_waySteps.cls = RX6 ∧ yX6_waySteps.cls ≠ "java/lang/invoke/MethodHandle" ∧ yX6_waySteps.cls ≠ "java/lang/invoke/VarHandle" ∧ (parseMethodDescriptor yX6_waySteps.desc).map (fun d => d.parameters.length) = some 1 := by decide +kernel
set_option maxHeartbeats 0 in
set_option maxRecDepth 100000 in
theorem c_X6_waySteps (l : Launch) (D : va_G) (o : Nat → Nat) (y : Nat → ClassId) (sz : Nat) (pl : Nat → Int64) (te : Nat → Int32) (be : Nat → Int64) (cn : Int32) (ch : Nat → Int32) (le : Int32) (rE : Int32) (rL : Int32) (rP : Int32) (rF : Int32) (rS : Int32) (rD : Int32) (hs : Nat → Int64) (ho : Int32) (hc : Int32) (sl : Nat → Int64) (fi : Nat → Int32) (a1 : Int32) (r : Int32) (te' : Nat → Int32) (be' : Nat → Int64) (cn' : Int32) (h : F_X6_waySteps pl te be cn a1 = some (0, r, te', be', cn')) : Met l yX6_waySteps wsX6_waySteps rm_X6_waySteps (va_Pc [.ref (o 0), .int a1] (px D y sz (XW o y pl te be cn ch le rE rL rP rF rS rD hs ho hc sl fi))) (Qri D y sz (XW o y pl te be cn ch le rE rL rP rF rS rD hs ho hc sl fi) (XW o y pl te' be' cn' ch le rE rL rP rF rS rD hs ho hc sl fi) r) 0 0 (va_A (XW o y pl te be cn ch le rE rL rP rF rS rD hs ho hc sl fi) sz) := by
  refine hd_i (cc := cX6_waySteps) (maxL := 2) rfl rfl (Nat.le_of_ble_eq_true rfl) ?_
  intro p e s m args below meth c A Q H locs ls hx hb hml hts hown _ hA hP hD hK hS hl hE
  have hl : lv_has ls 2 [(0, .ref (o 0)), (1, .int a1)] := hl
  have q0 := hts (.fieldLink RX6 18 "SliceShares" "continued" "LSliceShares$ContinuedFraction;") (by decide +kernel)
  have q1 := hts (.fieldLink RX6 9 "SliceShares" "plates" "[J") (by decide +kernel)
  have hinRX6 : ∀ w ∈ wsX60, w ∈ wsX6_waySteps := by decide +kernel
  unfold F_X6_waySteps at h
  refine lv_aload_n hx hb dX6_waySteps_0 rfl (lv_at hl 0 rfl) ?_
  refine lv_iload_n hx hb dX6_waySteps_1 rfl (lv_at hl 1 rfl) ?_
  obtain ⟨k1, g2, h⟩ := fB1 h
  by_cases e3 : ¬ k1 = 0
  · replace h := fF e3 h
    exact fX e3 h
  replace e3 := Classical.not_not.mp e3
  subst e3
  replace h := fT rfl h
  refine cV_v (As := [.int a1]) (rest := []) (ws1 := (XW o y pl te be cn ch le rE rL rP rF rS rD hs ho hc sl fi)) ⟨hx, hb, hml, hown, hts⟩ (c_X6_requireNotZero l D o y _ pl te be cn ch le rE rL rP rF rS rD hs ho hc sl fi a1 g2) (cwV 1 hts gX6_waySteps_X6_requireNotZero rfl rfl rfl hd_X6_requireNotZero ⟨Nat.le_of_ble_eq_true rfl, Nat.le_of_ble_eq_true rfl⟩) hK hP hD hS hA [0, 1, 2, 3, 4, 5, 6, 7, 8, 9, 10, 11] [] [0, 1, 2, 3, 4, 5, 6, 7, 8, 9, 10, 11] rfl rfl rfl (by decide) rfl rfl rfl 0 (ci := 4) rfl rfl rfl hl.1 rfl (Nat.le_of_ble_eq_true rfl) dX6_waySteps_2 ⟨Nat.le_of_ble_eq_true rfl, Nat.le_of_ble_eq_true rfl⟩ (fun H locs hP hD hS => ?_)
  refine lv_aload_n hx hb dX6_waySteps_5 rfl (lv_at hl 0 rfl) ?_
  refine va_get (D := D) (ci := 4) (C := RX6) (T := TX6) (N := 7) hx hb hts hinRX6 hown hK hP 0 rfl rfl 1 (by decide) q0 (fun _ h9 => h9) rfl dX6_waySteps_6 ?_
  refine lv_aload_n hx hb dX6_waySteps_9 rfl (lv_at hl 0 rfl) ?_
  refine va_get (D := D) (ci := 4) (C := RX6) (T := TX6) (N := 7) hx hb hts hinRX6 hown hK hP 0 rfl rfl 0 (by decide) q1 (fun _ h9 => h9) rfl dX6_waySteps_10 ?_
  refine lv_iload_n hx hb dX6_waySteps_13 rfl (lv_at hl 1 rfl) ?_
  obtain ⟨g4, h⟩ := fG h
  refine va_lald hx hb hK hP 1 1 rfl rfl g4 dX6_waySteps_14 ?_
  obtain ⟨te5, be6, cn7, g8, h⟩ := fB3 h
  refine cV_v (As := [.long (pl a1.toNatClampNeg)]) (rest := []) (ws1 := (XW o y pl te5 be6 cn7 ch le rE rL rP rF rS rD hs ho hc sl fi)) ⟨hx, hb, hml, hown, hts⟩ (c_X2_expand l D o y _ te be cn (pl a1.toNatClampNeg) te5 be6 cn7 g8) (cwV 1 hts gX6_waySteps_X2_expand rfl rfl rfl hd_X2_expand ⟨Nat.le_of_ble_eq_true rfl, Nat.le_of_ble_eq_true rfl⟩) hK hP hD hS hA [2, 3, 4] [0, 1, 5, 6, 7, 8, 9, 10, 11] [0, 1, 9, 10, 11, 2, 3, 4, 5, 6, 7, 8] rfl rfl rfl (by decide) rfl rfl rfl 0 (ci := 2) rfl rfl rfl hl.1 rfl (Nat.le_of_ble_eq_true rfl) dX6_waySteps_15 ⟨Nat.le_of_ble_eq_true rfl, Nat.le_of_ble_eq_true rfl⟩ (fun H locs hP hD hS => ?_)
  refine lv_aload_n hx hb dX6_waySteps_18 rfl (lv_at hl 0 rfl) ?_
  refine va_get (D := D) (ci := 4) (C := RX6) (T := TX6) (N := 7) hx hb hts hinRX6 hown hK hP 0 rfl rfl 1 (by decide) q0 (fun _ h9 => h9) rfl dX6_waySteps_19 ?_
  obtain ⟨r9, g10, h⟩ := fB1 h
  refine cV_i (As := []) (rest := []) (ws1 := (XW o y pl te5 be6 cn7 ch le rE rL rP rF rS rD hs ho hc sl fi)) ⟨hx, hb, hml, hown, hts⟩ (c_X2_sumOfTerms l D o y _ te5 be6 cn7 r9 g10) (cwV 0 hts gX6_waySteps_X2_sumOfTerms rfl rfl rfl hd_X2_sumOfTerms ⟨Nat.le_of_ble_eq_true rfl, Nat.le_of_ble_eq_true rfl⟩) hK hP hD hS hA [2, 3, 4] [0, 1, 5, 6, 7, 8, 9, 10, 11] [0, 1, 9, 10, 11, 2, 3, 4, 5, 6, 7, 8] rfl rfl rfl (by decide) rfl rfl rfl 0 (ci := 2) rfl rfl rfl hl.1 rfl (Nat.le_of_ble_eq_true rfl) dX6_waySteps_22 ⟨Nat.le_of_ble_eq_true rfl, Nat.le_of_ble_eq_true rfl⟩ (fun H locs hP hD hS => ?_)
  refine lv_iconst (v := (1 : Int32)) hx hb dX6_waySteps_25 (by decide) ?_
  refine lv_isub hx hb dX6_waySteps_26 ?_
  cases h
  exact hE _ _ _ _ dX6_waySteps_27 hP hD hS
abbrev xrm_X6_waySteps : Room := { frames := 8, cells := 1, slots := 6, locals := 123 }
set_option maxHeartbeats 0 in
set_option maxRecDepth 100000 in
theorem x_X6_waySteps (l : Launch) (hfl : l.stackTraces = false) (D : va_G) (o : Nat → Nat) (y : Nat → ClassId) (sz : Nat) (pl : Nat → Int64) (te : Nat → Int32) (be : Nat → Int64) (cn : Int32) (ch : Nat → Int32) (le : Int32) (rE : Int32) (rL : Int32) (rP : Int32) (rF : Int32) (rS : Int32) (rD : Int32) (hs : Nat → Int64) (ho : Int32) (hc : Int32) (sl : Nat → Int64) (fi : Nat → Int32) (a1 : Int32) (k : Nat) (r : Int32) (te' : Nat → Int32) (be' : Nat → Int64) (cn' : Int32) (hkx : ¬ k = 0) (h : F_X6_waySteps pl te be cn a1 = some (k, r, te', be', cn')) : vx_Met l yX6_waySteps wsX6_waySteps xrm_X6_waySteps (va_Pc [.ref (o 0), .int a1] (pxe D y sz (XW o y pl te be cn ch le rE rL rP rF rS rD hs ho hc sl fi))) (QNo (XW o y pl te be cn ch le rE rL rP rF rS rD hs ho hc sl fi) sz) (QX D y sz (XW o y pl te be cn ch le rE rL rP rF rS rD hs ho hc sl fi) (XW o y pl te' be' cn' ch le rE rL rP rF rS rD hs ho hc sl fi) k) 1 6 (va_A (XW o y pl te be cn ch le rE rL rP rF rS rD hs ho hc sl fi) sz) := by
  refine hd_x (cc := cX6_waySteps) (maxL := 2) rfl rfl (Nat.le_of_ble_eq_true rfl) ?_
  intro p e s m args below meth c A Q H locs ls hx hb hml hts hown hA hP hD hK hS hl hEX hlocks hout hQ hAe
  have hl : lv_has ls 2 [(0, .ref (o 0)), (1, .int a1)] := hl
  have q0 := hts (.fieldLink RX6 18 "SliceShares" "continued" "LSliceShares$ContinuedFraction;") (by decide +kernel)
  have q1 := hts (.fieldLink RX6 9 "SliceShares" "plates" "[J") (by decide +kernel)
  have hinRX6 : ∀ w ∈ wsX60, w ∈ wsX6_waySteps := by decide +kernel
  unfold F_X6_waySteps at h
  refine lv_aload_n hx hb dX6_waySteps_0 rfl (lv_at hl 0 rfl) ?_
  refine lv_iload_n hx hb dX6_waySteps_1 rfl (lv_at hl 1 rfl) ?_
  obtain ⟨k1, g2, h⟩ := fB1 h
  by_cases e3 : ¬ k1 = 0
  · replace h := fF e3 h
    refine xc_V (As := [.int a1]) (rest := []) (ws1 := (XW o y pl te be cn ch le rE rL rP rF rS rD hs ho hc sl fi)) ⟨hx, hb, hml, hown, hts⟩ (x_X6_requireNotZero l hfl D o y _ pl te be cn ch le rE rL rP rF rS rD hs ho hc sl fi a1 k1 e3 g2) (cwV 1 hts gX6_waySteps_X6_requireNotZero rfl rfl rfl hd_X6_requireNotZero ⟨Nat.le_of_ble_eq_true rfl, Nat.le_of_ble_eq_true rfl⟩) hK hP hD hS hA hEX [0, 1, 2, 3, 4, 5, 6, 7, 8, 9, 10, 11] [] [0, 1, 2, 3, 4, 5, 6, 7, 8, 9, 10, 11] rfl rfl rfl (by decide) rfl rfl rfl 0 (ci := 4) rfl rfl rfl hl.1 rfl (Nat.le_of_ble_eq_true rfl) dX6_waySteps_2 ⟨Nat.le_of_ble_eq_true rfl, Nat.le_of_ble_eq_true rfl⟩ (fun H locs ce q hP hD hS hce hv hcl => ?_)
    cases h
    exact outX hQ hAe hout hlocks hK hP hD hS hce hv hcl rfl (by decide) (by decide)
  replace e3 := Classical.not_not.mp e3
  subst e3
  replace h := fT rfl h
  refine cV_v (As := [.int a1]) (rest := []) (ws1 := (XW o y pl te be cn ch le rE rL rP rF rS rD hs ho hc sl fi)) ⟨hx, hb, hml, hown, hts⟩ (c_X6_requireNotZero l D o y _ pl te be cn ch le rE rL rP rF rS rD hs ho hc sl fi a1 g2) (cwV 1 hts gX6_waySteps_X6_requireNotZero rfl rfl rfl hd_X6_requireNotZero ⟨Nat.le_of_ble_eq_true rfl, Nat.le_of_ble_eq_true rfl⟩) hK hP hD hS hA [0, 1, 2, 3, 4, 5, 6, 7, 8, 9, 10, 11] [] [0, 1, 2, 3, 4, 5, 6, 7, 8, 9, 10, 11] rfl rfl rfl (by decide) rfl rfl rfl 0 (ci := 4) rfl rfl rfl hl.1 rfl (Nat.le_of_ble_eq_true rfl) dX6_waySteps_2 ⟨Nat.le_of_ble_eq_true rfl, Nat.le_of_ble_eq_true rfl⟩ (fun H locs hP hD hS => ?_)
  refine lv_aload_n hx hb dX6_waySteps_5 rfl (lv_at hl 0 rfl) ?_
  refine va_get (D := D) (ci := 4) (C := RX6) (T := TX6) (N := 7) hx hb hts hinRX6 hown hK hP 0 rfl rfl 1 (by decide) q0 (fun _ h9 => h9) rfl dX6_waySteps_6 ?_
  refine lv_aload_n hx hb dX6_waySteps_9 rfl (lv_at hl 0 rfl) ?_
  refine va_get (D := D) (ci := 4) (C := RX6) (T := TX6) (N := 7) hx hb hts hinRX6 hown hK hP 0 rfl rfl 0 (by decide) q1 (fun _ h9 => h9) rfl dX6_waySteps_10 ?_
  refine lv_iload_n hx hb dX6_waySteps_13 rfl (lv_at hl 1 rfl) ?_
  obtain ⟨g4, h⟩ := fG h
  refine va_lald hx hb hK hP 1 1 rfl rfl g4 dX6_waySteps_14 ?_
  obtain ⟨te5, be6, cn7, g8, h⟩ := fB3 h
  refine cV_v (As := [.long (pl a1.toNatClampNeg)]) (rest := []) (ws1 := (XW o y pl te5 be6 cn7 ch le rE rL rP rF rS rD hs ho hc sl fi)) ⟨hx, hb, hml, hown, hts⟩ (c_X2_expand l D o y _ te be cn (pl a1.toNatClampNeg) te5 be6 cn7 g8) (cwV 1 hts gX6_waySteps_X2_expand rfl rfl rfl hd_X2_expand ⟨Nat.le_of_ble_eq_true rfl, Nat.le_of_ble_eq_true rfl⟩) hK hP hD hS hA [2, 3, 4] [0, 1, 5, 6, 7, 8, 9, 10, 11] [0, 1, 9, 10, 11, 2, 3, 4, 5, 6, 7, 8] rfl rfl rfl (by decide) rfl rfl rfl 0 (ci := 2) rfl rfl rfl hl.1 rfl (Nat.le_of_ble_eq_true rfl) dX6_waySteps_15 ⟨Nat.le_of_ble_eq_true rfl, Nat.le_of_ble_eq_true rfl⟩ (fun H locs hP hD hS => ?_)
  refine lv_aload_n hx hb dX6_waySteps_18 rfl (lv_at hl 0 rfl) ?_
  refine va_get (D := D) (ci := 4) (C := RX6) (T := TX6) (N := 7) hx hb hts hinRX6 hown hK hP 0 rfl rfl 1 (by decide) q0 (fun _ h9 => h9) rfl dX6_waySteps_19 ?_
  obtain ⟨r9, g10, h⟩ := fB1 h
  refine cV_i (As := []) (rest := []) (ws1 := (XW o y pl te5 be6 cn7 ch le rE rL rP rF rS rD hs ho hc sl fi)) ⟨hx, hb, hml, hown, hts⟩ (c_X2_sumOfTerms l D o y _ te5 be6 cn7 r9 g10) (cwV 0 hts gX6_waySteps_X2_sumOfTerms rfl rfl rfl hd_X2_sumOfTerms ⟨Nat.le_of_ble_eq_true rfl, Nat.le_of_ble_eq_true rfl⟩) hK hP hD hS hA [2, 3, 4] [0, 1, 5, 6, 7, 8, 9, 10, 11] [0, 1, 9, 10, 11, 2, 3, 4, 5, 6, 7, 8] rfl rfl rfl (by decide) rfl rfl rfl 0 (ci := 2) rfl rfl rfl hl.1 rfl (Nat.le_of_ble_eq_true rfl) dX6_waySteps_22 ⟨Nat.le_of_ble_eq_true rfl, Nat.le_of_ble_eq_true rfl⟩ (fun H locs hP hD hS => ?_)
  refine lv_iconst (v := (1 : Int32)) hx hb dX6_waySteps_25 (by decide) ?_
  refine lv_isub hx hb dX6_waySteps_26 ?_
  exact fY hkx h
