abbrev rm_X6_platesAhead : Room := { frames := 3, cells := 0, slots := 0, locals := 63 }
theorem hd_X6_platesAhead : yX6_platesAhead.cls = RX6 ∧ yX6_platesAhead.cls ≠ "java/lang/invoke/MethodHandle" ∧ yX6_platesAhead.cls ≠ "java/lang/invoke/VarHandle" ∧ (parseMethodDescriptor yX6_platesAhead.desc).map (fun d => d.parameters.length) = some 1 := by decide +kernel
set_option maxHeartbeats 0 in
set_option maxRecDepth 100000 in
theorem c_X6_platesAhead (l : Launch) (D : va_G) (o : Nat → Nat) (y : Nat → ClassId) (sz : Nat) (pl : Nat → Int64) (te : Nat → Int32) (be : Nat → Int64) (cn : Int32) (ch : Nat → Int32) (le : Int32) (rE : Int32) (rL : Int32) (rP : Int32) (rF : Int32) (rS : Int32) (rD : Int32) (hs : Nat → Int64) (ho : Int32) (hc : Int32) (sl : Nat → Int64) (fi : Nat → Int32) (a1 : Int32) (r : Int32) (h : F_X6_platesAhead pl a1 = some r) : Met l yX6_platesAhead wsX6_platesAhead rm_X6_platesAhead (va_Pc [.ref (o 0), .int a1] (px D y sz (XW o y pl te be cn ch le rE rL rP rF rS rD hs ho hc sl fi))) (Qri D y sz (XW o y pl te be cn ch le rE rL rP rF rS rD hs ho hc sl fi) (XW o y pl te be cn ch le rE rL rP rF rS rD hs ho hc sl fi) r) 0 0 (va_A (XW o y pl te be cn ch le rE rL rP rF rS rD hs ho hc sl fi) sz) := by
  refine hd_i (cc := cX6_platesAhead) (maxL := 5) rfl rfl (Nat.le_of_ble_eq_true rfl) ?_
  intro p e s m args below meth c A Q H locs ls hx hb hml hts hown _ hA hP hD hK hS hl hE
  have hl : lv_has ls 5 [(0, .ref (o 0)), (1, .int a1)] := hl
  have q0 := hts (.fieldLink RX6 9 "SliceShares" "plates" "[J") (by decide +kernel)
  have hinRX6 : ∀ w ∈ wsX60, w ∈ wsX6_platesAhead := by decide +kernel
  unfold F_X6_platesAhead at h
  refine lv_iconst (v := (0 : Int32)) hx hb dX6_platesAhead_0 (by decide) ?_
  refine lv_istore_n (lv' := [(2, .int (0 : Int32)), (0, .ref (o 0)), (1, .int a1)]) hx hb dX6_platesAhead_1 rfl hl (by decide) rfl (fun ls hl => ?_)
  refine lv_iconst (v := (0 : Int32)) hx hb dX6_platesAhead_2 (by decide) ?_
  refine lv_istore_n (lv' := [(3, .int (0 : Int32)), (2, .int (0 : Int32)), (0, .ref (o 0)), (1, .int a1)]) hx hb dX6_platesAhead_3 rfl hl (by decide) rfl (fun ls hl => ?_)
  obtain ⟨v3, g4, h⟩ := fB1 h
  have J5 : ∀ (H : Heap) (locs : List Loc) (ls : Array Slot), va_P D vwCl (XW o y pl te be cn ch le rE rL rP rF rS rD hs ho hc sl fi) H → va_D A (XW o y pl te be cn ch le rE rL rP rF rS rD hs ho hc sl fi) → va_S A s.heap H locs → lv_has ls 5 [(2, .int v3)] → W p l e rm_X6_platesAhead s m args below meth c H locs 0 0 Q (F0 m 51 ls []) := by
    intro H locs ls hP hD hS hl
    refine lv_iload_n hx hb dX6_platesAhead_51 rfl (lv_at hl 0 rfl) ?_
    cases h
    exact hE _ _ _ _ dX6_platesAhead_52 hP hD hS
  have LP6 : ∀ (n : Nat) (x1 : Int32) (x2 : Int32) (H : Heap) (locs : List Loc) (ls : Array Slot), L_X6_platesAhead_4 n a1 x1 x2 pl = some v3 → va_P D vwCl (XW o y pl te be cn ch le rE rL rP rF rS rD hs ho hc sl fi) H → va_D A (XW o y pl te be cn ch le rE rL rP rF rS rD hs ho hc sl fi) → va_S A s.heap H locs → lv_has ls 5 [(0, .ref (o 0)), (1, .int a1), (2, .int x1), (3, .int x2)] → W p l e rm_X6_platesAhead s m args below meth c H locs 0 0 Q (F0 m 4 ls []) := by
    intro n
    induction n with
    | zero => intro x1 x2 H locs ls h hP hD hS hl; exact fN h
    | succ n ih =>
      intro x1 x2 H locs ls h hP hD hS hl
      replace h := (L_X6_platesAhead_4_s n a1 x1 x2 pl).symm.trans h
      refine lv_iload_n hx hb dX6_platesAhead_4 rfl (lv_at hl 3 rfl) ?_
      refine lv_bipush (v := (6 : Int32)) hx hb dX6_platesAhead_5 (by decide) ?_
      refine lv_icmp_ge (tgt := 51) hx hb dX6_platesAhead_7 (by decide) (fun c7 => ?_) (fun c7 => ?_)
      · replace h := fT c7 h
        cases h
        exact J5 _ _ _ hP hD hS (lv_sub hl [2] rfl)
      · replace h := fF c7 h
        refine lv_aload_n hx hb dX6_platesAhead_10 rfl (lv_at hl 0 rfl) ?_
        refine va_get (D := D) (ci := 4) (C := RX6) (T := TX6) (N := 7) hx hb hts hinRX6 hown hK hP 0 rfl rfl 0 (by decide) q0 (fun _ h9 => h9) rfl dX6_platesAhead_11 ?_
        refine lv_iload_n hx hb dX6_platesAhead_14 rfl (lv_at hl 3 rfl) ?_
        obtain ⟨g8, h⟩ := fG h
        refine va_lald hx hb hK hP 1 1 rfl rfl g8 dX6_platesAhead_15 ?_
        refine lv_aload_n hx hb dX6_platesAhead_16 rfl (lv_at hl 0 rfl) ?_
        refine va_get (D := D) (ci := 4) (C := RX6) (T := TX6) (N := 7) hx hb hts hinRX6 hown hK hP 0 rfl rfl 0 (by decide) q0 (fun _ h9 => h9) rfl dX6_platesAhead_17 ?_
        refine lv_iload_n hx hb dX6_platesAhead_20 rfl (lv_at hl 1 rfl) ?_
        obtain ⟨g9, h⟩ := fG h
        refine va_lald hx hb hK hP 1 1 rfl rfl g9 dX6_platesAhead_21 ?_
        refine cT_i (As := [.long (pl x2.toNatClampNeg), .long (pl a1.toNatClampNeg)]) (rest := []) ⟨hx, hb, hml, hown, hts⟩ (c_X3_order l D y _ (pl x2.toNatClampNeg) (pl a1.toNatClampNeg)) (va_cwS 2 hts gX6_platesAhead_X3_order rfl rfl rfl hd_X3_order ⟨Nat.le_of_ble_eq_true rfl, Nat.le_of_ble_eq_true rfl⟩) hK hP hD hS hA rfl hl.1 rfl (Nat.le_of_ble_eq_true rfl) dX6_platesAhead_22 ⟨Nat.le_of_ble_eq_true rfl, Nat.le_of_ble_eq_true rfl⟩ (fun H locs hP hD hS => ?_)
        refine lv_istore (lv' := [(4, .int (F_X3_order (pl x2.toNatClampNeg) (pl a1.toNatClampNeg))), (0, .ref (o 0)), (1, .int a1), (2, .int x1), (3, .int x2)]) hx hb dX6_platesAhead_25 hl (by decide) rfl (fun ls hl => ?_)
        refine lv_iload hx hb dX6_platesAhead_27 (lv_at hl 0 rfl) ?_
        have J10 : ∀ (v11 : Int32) (ls : Array Slot), v11 = (if (0 : Int32) < (F_X3_order (pl x2.toNatClampNeg) (pl a1.toNatClampNeg)) then (x1 + (1 : Int32)) else (if (F_X3_order (pl x2.toNatClampNeg) (pl a1.toNatClampNeg)) = (0 : Int32) then (if a1 ≤ x2 then x1 else (x1 + (1 : Int32))) else x1)) → lv_has ls 5 [(0, .ref (o 0)), (1, .int a1), (2, .int v11), (3, .int x2), (4, .int (F_X3_order (pl x2.toNatClampNeg) (pl a1.toNatClampNeg)))] → W p l e rm_X6_platesAhead s m args below meth c H locs 0 0 Q (F0 m 45 ls []) := by
          intro v11 ls ev11 hl
          subst ev11
          refine lv_iinc (v := x2 + (1 : Int32)) (lv' := [(3, .int (x2 + (1 : Int32))), (0, .ref (o 0)), (1, .int a1), (2, .int (if (0 : Int32) < (F_X3_order (pl x2.toNatClampNeg) (pl a1.toNatClampNeg)) then (x1 + (1 : Int32)) else (if (F_X3_order (pl x2.toNatClampNeg) (pl a1.toNatClampNeg)) = (0 : Int32) then (if a1 ≤ x2 then x1 else (x1 + (1 : Int32))) else x1))), (4, .int (F_X3_order (pl x2.toNatClampNeg) (pl a1.toNatClampNeg)))]) hx hb dX6_platesAhead_45 hl (k := 3) rfl rfl (by decide) rfl (fun ls hl => ?_)
          refine lv_goto (tgt := 4) hx hb dX6_platesAhead_48 (by decide) ?_
          exact ih (if (0 : Int32) < (F_X3_order (pl x2.toNatClampNeg) (pl a1.toNatClampNeg)) then (x1 + (1 : Int32)) else (if (F_X3_order (pl x2.toNatClampNeg) (pl a1.toNatClampNeg)) = (0 : Int32) then (if a1 ≤ x2 then x1 else (x1 + (1 : Int32))) else x1)) (x2 + (1 : Int32)) _ _ _ h hP hD hS (lv_sub hl [1, 2, 3, 0] rfl)
        refine lv_if_gt (tgt := 42) hx hb dX6_platesAhead_29 (by decide) (fun c12 => ?_) (fun c12 => ?_)
        · refine lv_iinc (v := x1 + (1 : Int32)) (lv' := [(2, .int (x1 + (1 : Int32))), (4, .int (F_X3_order (pl x2.toNatClampNeg) (pl a1.toNatClampNeg))), (0, .ref (o 0)), (1, .int a1), (3, .int x2)]) hx hb dX6_platesAhead_42 hl (k := 3) rfl rfl (by decide) rfl (fun ls hl => ?_)
          exact J10 _ _ (by rw [if_pos c12]) (lv_sub hl [2, 3, 0, 4, 1] rfl)
        · refine lv_iload hx hb dX6_platesAhead_32 (lv_at hl 0 rfl) ?_
          refine lv_if_ne (tgt := 45) hx hb dX6_platesAhead_34 (by decide) (fun c13 => ?_) (fun c13 => ?_)
          · exact J10 _ _ (by rw [if_neg c12, if_neg c13]) (lv_sub hl [1, 2, 3, 4, 0] rfl)
          · refine lv_iload_n hx hb dX6_platesAhead_37 rfl (lv_at hl 4 rfl) ?_
            refine lv_iload_n hx hb dX6_platesAhead_38 rfl (lv_at hl 2 rfl) ?_
            refine lv_icmp_ge (tgt := 45) hx hb dX6_platesAhead_39 (by decide) (fun c14 => ?_) (fun c14 => ?_)
            · exact J10 _ _ (by rw [if_neg c12, if_pos c13, if_pos c14]) (lv_sub hl [1, 2, 3, 4, 0] rfl)
            · refine lv_iinc (v := x1 + (1 : Int32)) (lv' := [(2, .int (x1 + (1 : Int32))), (4, .int (F_X3_order (pl x2.toNatClampNeg) (pl a1.toNatClampNeg))), (0, .ref (o 0)), (1, .int a1), (3, .int x2)]) hx hb dX6_platesAhead_42 hl (k := 3) rfl rfl (by decide) rfl (fun ls hl => ?_)
              exact J10 _ _ (by rw [if_neg c12, if_pos c13, if_neg c14]) (lv_sub hl [2, 3, 0, 4, 1] rfl)
  exact LP6 FU (0 : Int32) (0 : Int32) _ _ _ g4 hP hD hS (lv_sub hl [2, 3, 1, 0] rfl)
abbrev rm_X6_plateByAmount : Room := { frames := 4, cells := 0, slots := 0, locals := 87 }
theorem hd_X6_plateByAmount : yX6_plateByAmount.cls = RX6 ∧ yX6_plateByAmount.cls ≠ "java/lang/invoke/MethodHandle" ∧ yX6_plateByAmount.cls ≠ "java/lang/invoke/VarHandle" ∧ (parseMethodDescriptor yX6_plateByAmount.desc).map (fun d => d.parameters.length) = some 1 := by decide +kernel
set_option maxHeartbeats 0 in
set_option maxRecDepth 100000 in
theorem c_X6_plateByAmount (l : Launch) (D : va_G) (o : Nat → Nat) (y : Nat → ClassId) (sz : Nat) (pl : Nat → Int64) (te : Nat → Int32) (be : Nat → Int64) (cn : Int32) (ch : Nat → Int32) (le : Int32) (rE : Int32) (rL : Int32) (rP : Int32) (rF : Int32) (rS : Int32) (rD : Int32) (hs : Nat → Int64) (ho : Int32) (hc : Int32) (sl : Nat → Int64) (fi : Nat → Int32) (a1 : Int32) (r : Int32) (h : F_X6_plateByAmount pl a1 = some (0, r)) : Met l yX6_plateByAmount wsX6_plateByAmount rm_X6_plateByAmount (va_Pc [.ref (o 0), .int a1] (px D y sz (XW o y pl te be cn ch le rE rL rP rF rS rD hs ho hc sl fi))) (Qri D y sz (XW o y pl te be cn ch le rE rL rP rF rS rD hs ho hc sl fi) (XW o y pl te be cn ch le rE rL rP rF rS rD hs ho hc sl fi) r) 0 0 (va_A (XW o y pl te be cn ch le rE rL rP rF rS rD hs ho hc sl fi) sz) := by
  refine hd_i (cc := cX6_plateByAmount) (maxL := 4) rfl rfl (Nat.le_of_ble_eq_true rfl) ?_
  intro p e s m args below meth c A Q H locs ls hx hb hml hts hown _ hA hP hD hK hS hl hE
  have hl : lv_has ls 4 [(0, .ref (o 0)), (1, .int a1)] := hl
  unfold F_X6_plateByAmount at h
  refine lv_iload_n hx hb dX6_plateByAmount_0 rfl (lv_at hl 1 rfl) ?_
  refine lv_if_lt (tgt := 10) hx hb dX6_plateByAmount_1 (by decide) (fun c1 => ?_) (fun c1 => ?_)
  · replace h := fT c1 h
    exact fX (show ¬ (1 : Nat) = 0 by decide) h
  · replace h := fF c1 h
    refine lv_iload_n hx hb dX6_plateByAmount_4 rfl (lv_at hl 1 rfl) ?_
    refine lv_bipush (v := (6 : Int32)) hx hb dX6_plateByAmount_5 (by decide) ?_
    refine lv_icmp_lt (tgt := 20) hx hb dX6_plateByAmount_7 (by decide) (fun c2 => ?_) (fun c2 => ?_)
    · replace h := fT c2 h
      refine lv_iconst (v := (-1 : Int32)) hx hb dX6_plateByAmount_20 (by decide) ?_
      refine lv_istore_n (lv' := [(2, .int (-1 : Int32)), (0, .ref (o 0)), (1, .int a1)]) hx hb dX6_plateByAmount_21 rfl hl (by decide) rfl (fun ls hl => ?_)
      refine lv_iconst (v := (0 : Int32)) hx hb dX6_plateByAmount_22 (by decide) ?_
      refine lv_istore_n (lv' := [(3, .int (0 : Int32)), (2, .int (-1 : Int32)), (0, .ref (o 0)), (1, .int a1)]) hx hb dX6_plateByAmount_23 rfl hl (by decide) rfl (fun ls hl => ?_)
      obtain ⟨v5, g6, h⟩ := fB1 h
      have J7 : ∀ (H : Heap) (locs : List Loc) (ls : Array Slot), va_P D vwCl (XW o y pl te be cn ch le rE rL rP rF rS rD hs ho hc sl fi) H → va_D A (XW o y pl te be cn ch le rE rL rP rF rS rD hs ho hc sl fi) → va_S A s.heap H locs → lv_has ls 4 [(2, .int v5)] → W p l e rm_X6_plateByAmount s m args below meth c H locs 0 0 Q (F0 m 47 ls []) := by
        intro H locs ls hP hD hS hl
        refine lv_iload_n hx hb dX6_plateByAmount_47 rfl (lv_at hl 0 rfl) ?_
        cases h
        exact hE _ _ _ _ dX6_plateByAmount_48 hP hD hS
      have LP8 : ∀ (n : Nat) (x3 : Int32) (x4 : Int32) (H : Heap) (locs : List Loc) (ls : Array Slot), L_X6_plateByAmount_24 n a1 x3 x4 pl = some v5 → va_P D vwCl (XW o y pl te be cn ch le rE rL rP rF rS rD hs ho hc sl fi) H → va_D A (XW o y pl te be cn ch le rE rL rP rF rS rD hs ho hc sl fi) → va_S A s.heap H locs → lv_has ls 4 [(0, .ref (o 0)), (1, .int a1), (2, .int x3), (3, .int x4)] → W p l e rm_X6_plateByAmount s m args below meth c H locs 0 0 Q (F0 m 24 ls []) := by
        intro n
        induction n with
        | zero => intro x3 x4 H locs ls h hP hD hS hl; exact fN h
        | succ n ih =>
          intro x3 x4 H locs ls h hP hD hS hl
          replace h := (L_X6_plateByAmount_24_s n a1 x3 x4 pl).symm.trans h
          refine lv_iload_n hx hb dX6_plateByAmount_24 rfl (lv_at hl 3 rfl) ?_
          refine lv_bipush (v := (6 : Int32)) hx hb dX6_plateByAmount_25 (by decide) ?_
          refine lv_icmp_ge (tgt := 47) hx hb dX6_plateByAmount_27 (by decide) (fun c9 => ?_) (fun c9 => ?_)
          · replace h := fT c9 h
            cases h
            exact J7 _ _ _ hP hD hS (lv_sub hl [2] rfl)
          · replace h := fF c9 h
            refine lv_aload_n hx hb dX6_plateByAmount_30 rfl (lv_at hl 0 rfl) ?_
            refine lv_iload_n hx hb dX6_plateByAmount_31 rfl (lv_at hl 3 rfl) ?_
            obtain ⟨r10, g11, h⟩ := fB1 h
            refine cV_i (As := [.int x4]) (rest := []) (ws1 := (XW o y pl te be cn ch le rE rL rP rF rS rD hs ho hc sl fi)) ⟨hx, hb, hml, hown, hts⟩ (c_X6_platesAhead l D o y _ pl te be cn ch le rE rL rP rF rS rD hs ho hc sl fi x4 r10 g11) (cwV 1 hts gX6_plateByAmount_X6_platesAhead rfl rfl rfl hd_X6_platesAhead ⟨Nat.le_of_ble_eq_true rfl, Nat.le_of_ble_eq_true rfl⟩) hK hP hD hS hA [0, 1, 2, 3, 4, 5, 6, 7, 8, 9, 10, 11] [] [0, 1, 2, 3, 4, 5, 6, 7, 8, 9, 10, 11] rfl rfl rfl (by decide) rfl rfl rfl 0 (ci := 4) rfl rfl rfl hl.1 rfl (Nat.le_of_ble_eq_true rfl) dX6_plateByAmount_32 ⟨Nat.le_of_ble_eq_true rfl, Nat.le_of_ble_eq_true rfl⟩ (fun H locs hP hD hS => ?_)
            refine lv_iload_n hx hb dX6_plateByAmount_35 rfl (lv_at hl 1 rfl) ?_
            have J12 : ∀ (v13 : Int32) (ls : Array Slot), v13 = (if r10 = a1 then x4 else x3) → lv_has ls 4 [(0, .ref (o 0)), (1, .int a1), (2, .int v13), (3, .int x4)] → W p l e rm_X6_plateByAmount s m args below meth c H locs 0 0 Q (F0 m 41 ls []) := by
              intro v13 ls ev13 hl
              subst ev13
              refine lv_iinc (v := x4 + (1 : Int32)) (lv' := [(3, .int (x4 + (1 : Int32))), (0, .ref (o 0)), (1, .int a1), (2, .int (if r10 = a1 then x4 else x3))]) hx hb dX6_plateByAmount_41 hl (k := 3) rfl rfl (by decide) rfl (fun ls hl => ?_)
              refine lv_goto (tgt := 24) hx hb dX6_plateByAmount_44 (by decide) ?_
              exact ih (if r10 = a1 then x4 else x3) (x4 + (1 : Int32)) _ _ _ h hP hD hS (lv_sub hl [1, 2, 3, 0] rfl)
            refine lv_icmp_ne (tgt := 41) hx hb dX6_plateByAmount_36 (by decide) (fun c14 => ?_) (fun c14 => ?_)
            · exact J12 _ _ (by rw [if_neg c14]) (lv_sub hl [0, 1, 2, 3] rfl)
            · refine lv_iload_n hx hb dX6_plateByAmount_39 rfl (lv_at hl 3 rfl) ?_
              refine lv_istore_n (lv' := [(2, .int x4), (0, .ref (o 0)), (1, .int a1), (3, .int x4)]) hx hb dX6_plateByAmount_40 rfl hl (by decide) rfl (fun ls hl => ?_)
              exact J12 _ _ (by rw [if_pos c14]) (lv_sub hl [1, 2, 0, 3] rfl)
      exact LP8 FU (-1 : Int32) (0 : Int32) _ _ _ g6 hP hD hS (lv_sub hl [2, 3, 1, 0] rfl)
    · replace h := fF c2 h
      exact fX (show ¬ (1 : Nat) = 0 by decide) h
abbrev rm_X6_commonParts : Room := { frames := 2, cells := 0, slots := 0, locals := 45 }
theorem hd_X6_commonParts : yX6_commonParts.cls = RX6 ∧ yX6_commonParts.cls ≠ "java/lang/invoke/MethodHandle" ∧ yX6_commonParts.cls ≠ "java/lang/invoke/VarHandle" ∧ (parseMethodDescriptor yX6_commonParts.desc).map (fun d => d.parameters.length) = some 0 := by decide +kernel
set_option maxHeartbeats 0 in
set_option maxRecDepth 100000 in
theorem c_X6_commonParts (l : Launch) (D : va_G) (o : Nat → Nat) (y : Nat → ClassId) (sz : Nat) (pl : Nat → Int64) (te : Nat → Int32) (be : Nat → Int64) (cn : Int32) (ch : Nat → Int32) (le : Int32) (rE : Int32) (rL : Int32) (rP : Int32) (rF : Int32) (rS : Int32) (rD : Int32) (hs : Nat → Int64) (ho : Int32) (hc : Int32) (sl : Nat → Int64) (fi : Nat → Int32) (r : Int64) (h : F_X6_commonParts pl = some r) : Met l yX6_commonParts wsX6_commonParts rm_X6_commonParts (va_Pc [.ref (o 0)] (px D y sz (XW o y pl te be cn ch le rE rL rP rF rS rD hs ho hc sl fi))) (Qrl D y sz (XW o y pl te be cn ch le rE rL rP rF rS rD hs ho hc sl fi) (XW o y pl te be cn ch le rE rL rP rF rS rD hs ho hc sl fi) r) 0 0 (va_A (XW o y pl te be cn ch le rE rL rP rF rS rD hs ho hc sl fi) sz) := by
  refine hd_l (cc := cX6_commonParts) (maxL := 8) rfl rfl (Nat.le_of_ble_eq_true rfl) ?_
  intro p e s m args below meth c A Q H locs ls hx hb hml hts hown _ hA hP hD hK hS hl hE
  have hl : lv_has ls 8 [(0, .ref (o 0))] := hl
  have q0 := hts (.constantLong RX6 118 (-1)) (by decide +kernel)
  have q1 := hts (.fieldLink RX6 9 "SliceShares" "plates" "[J") (by decide +kernel)
  have q2 := hts (.constantLong RX6 116 (1000000000000000)) (by decide +kernel)
  have hinRX6 : ∀ w ∈ wsX60, w ∈ wsX6_commonParts := by decide +kernel
  unfold F_X6_commonParts at h
  refine lv_lconst (v := (1 : Int64)) hx hb dX6_commonParts_0 rfl ?_
  refine lv_lstore_n (lv' := [(1, .long (1 : Int64)), (0, .ref (o 0))]) hx hb dX6_commonParts_1 rfl hl (by decide) rfl (fun ls hl => ?_)
  refine lv_iconst (v := (0 : Int32)) hx hb dX6_commonParts_2 (by decide) ?_
  refine lv_istore_n (lv' := [(3, .int (0 : Int32)), (1, .long (1 : Int64)), (0, .ref (o 0))]) hx hb dX6_commonParts_3 rfl hl (by decide) rfl (fun ls hl => ?_)
  obtain ⟨t3, v4, g5, h⟩ := fB2 h
  have J6 : t3 = 0 → ∀ (H : Heap) (locs : List Loc) (ls : Array Slot), va_P D vwCl (XW o y pl te be cn ch le rE rL rP rF rS rD hs ho hc sl fi) H → va_D A (XW o y pl te be cn ch le rE rL rP rF rS rD hs ho hc sl fi) → va_S A s.heap H locs → lv_has ls 8 [] → W p l e rm_X6_commonParts s m args below meth c H locs 0 0 Q (F0 m 43 ls []) := by
    intro ht H locs ls hP hD hS hl
    replace h := fT ht h
    refine lv_ldc2 (v := (-1 : Int64)) hx hb hown q0 dX6_commonParts_43 ?_
    cases h
    exact hE _ _ _ _ dX6_commonParts_46 hP hD hS
  have J7 : t3 = 1 → ∀ (H : Heap) (locs : List Loc) (ls : Array Slot), va_P D vwCl (XW o y pl te be cn ch le rE rL rP rF rS rD hs ho hc sl fi) H → va_D A (XW o y pl te be cn ch le rE rL rP rF rS rD hs ho hc sl fi) → va_S A s.heap H locs → lv_has ls 8 [(1, .long v4)] → W p l e rm_X6_commonParts s m args below meth c H locs 0 0 Q (F0 m 59 ls []) := by
    intro ht H locs ls hP hD hS hl
    replace h := fF (show ¬ t3 = 0 by omega) h
    refine lv_lload_n hx hb dX6_commonParts_59 rfl (lv_at hl 0 rfl) ?_
    cases h
    exact hE _ _ _ _ dX6_commonParts_60 hP hD hS
  have LP8 : ∀ (n : Nat) (x1 : Int64) (x2 : Int32) (H : Heap) (locs : List Loc) (ls : Array Slot), L_X6_commonParts_4 n x1 x2 pl = some (t3, v4) → va_P D vwCl (XW o y pl te be cn ch le rE rL rP rF rS rD hs ho hc sl fi) H → va_D A (XW o y pl te be cn ch le rE rL rP rF rS rD hs ho hc sl fi) → va_S A s.heap H locs → lv_has ls 8 [(0, .ref (o 0)), (1, .long x1), (3, .int x2)] → W p l e rm_X6_commonParts s m args below meth c H locs 0 0 Q (F0 m 4 ls []) := by
    intro n
    induction n with
    | zero => intro x1 x2 H locs ls h hP hD hS hl; exact fN h
    | succ n ih =>
      intro x1 x2 H locs ls h hP hD hS hl
      replace h := (L_X6_commonParts_4_s n x1 x2 pl).symm.trans h
      refine lv_iload_n hx hb dX6_commonParts_4 rfl (lv_at hl 2 rfl) ?_
      refine lv_bipush (v := (6 : Int32)) hx hb dX6_commonParts_5 (by decide) ?_
      refine lv_icmp_ge (tgt := 59) hx hb dX6_commonParts_7 (by decide) (fun c9 => ?_) (fun c9 => ?_)
      · replace h := fT c9 h
        cases h
        exact J7 rfl _ _ _ hP hD hS (lv_sub hl [1] rfl)
      · replace h := fF c9 h
        refine lv_aload_n hx hb dX6_commonParts_10 rfl (lv_at hl 0 rfl) ?_
        refine va_get (D := D) (ci := 4) (C := RX6) (T := TX6) (N := 7) hx hb hts hinRX6 hown hK hP 0 rfl rfl 0 (by decide) q1 (fun _ h9 => h9) rfl dX6_commonParts_11 ?_
        refine lv_iload_n hx hb dX6_commonParts_14 rfl (lv_at hl 2 rfl) ?_
        obtain ⟨g10, h⟩ := fG h
        refine va_lald hx hb hK hP 1 1 rfl rfl g10 dX6_commonParts_15 ?_
        refine cT_l (As := [.long (pl x2.toNatClampNeg)]) (rest := []) ⟨hx, hb, hml, hown, hts⟩ (c_X3_denominator l D y _ (pl x2.toNatClampNeg)) (va_cwS 1 hts gX6_commonParts_X3_denominator rfl rfl rfl hd_X3_denominator ⟨Nat.le_of_ble_eq_true rfl, Nat.le_of_ble_eq_true rfl⟩) hK hP hD hS hA rfl hl.1 rfl (Nat.le_of_ble_eq_true rfl) dX6_commonParts_16 ⟨Nat.le_of_ble_eq_true rfl, Nat.le_of_ble_eq_true rfl⟩ (fun H locs hP hD hS => ?_)
        refine lv_lstore (lv' := [(4, .long (F_X3_denominator (pl x2.toNatClampNeg))), (0, .ref (o 0)), (1, .long x1), (3, .int x2)]) hx hb dX6_commonParts_19 hl (by decide) rfl (fun ls hl => ?_)
        refine lv_lload_n hx hb dX6_commonParts_21 rfl (lv_at hl 2 rfl) ?_
        refine lv_lload_n hx hb dX6_commonParts_22 rfl (lv_at hl 2 rfl) ?_
        refine lv_lload hx hb dX6_commonParts_23 (lv_at hl 0 rfl) ?_
        obtain ⟨r11, g12, h⟩ := fB1 h
        refine cT_l (As := [.long x1, .long (F_X3_denominator (pl x2.toNatClampNeg))]) (rest := [.long x1]) ⟨hx, hb, hml, hown, hts⟩ (c_X3_commonDivisor l D y _ x1 (F_X3_denominator (pl x2.toNatClampNeg)) r11 g12) (va_cwS 2 hts gX6_commonParts_X3_commonDivisor rfl rfl rfl hd_X3_commonDivisor ⟨Nat.le_of_ble_eq_true rfl, Nat.le_of_ble_eq_true rfl⟩) hK hP hD hS hA rfl hl.1 rfl (Nat.le_of_ble_eq_true rfl) dX6_commonParts_25 ⟨Nat.le_of_ble_eq_true rfl, Nat.le_of_ble_eq_true rfl⟩ (fun H locs hP hD hS => ?_)
        obtain ⟨g13, h⟩ := fG h
        refine lv_ldiv hx hb dX6_commonParts_28 g13 ?_
        refine lv_lstore (lv' := [(6, .long (x1 / r11)), (4, .long (F_X3_denominator (pl x2.toNatClampNeg))), (0, .ref (o 0)), (1, .long x1), (3, .int x2)]) hx hb dX6_commonParts_29 hl (by decide) rfl (fun ls hl => ?_)
        refine lv_lload hx hb dX6_commonParts_31 (lv_at hl 0 rfl) ?_
        refine lv_ldc2 (v := (1000000000000000 : Int64)) hx hb hown q2 dX6_commonParts_33 ?_
        refine lv_lload hx hb dX6_commonParts_36 (lv_at hl 1 rfl) ?_
        obtain ⟨g14, h⟩ := fG h
        refine lv_ldiv hx hb dX6_commonParts_38 g14 ?_
        refine lx_le (tgt := 47) hx hb dX6_commonParts_39 dX6_commonParts_40 (by decide) (fun c15 => ?_) (fun c15 => ?_)
        · replace h := fT c15 h
          refine lv_lload hx hb dX6_commonParts_47 (lv_at hl 0 rfl) ?_
          refine lv_lload hx hb dX6_commonParts_49 (lv_at hl 1 rfl) ?_
          refine lv_lmul hx hb dX6_commonParts_51 ?_
          refine lv_lstore_n (lv' := [(1, .long ((x1 / r11) * (F_X3_denominator (pl x2.toNatClampNeg)))), (6, .long (x1 / r11)), (4, .long (F_X3_denominator (pl x2.toNatClampNeg))), (0, .ref (o 0)), (3, .int x2)]) hx hb dX6_commonParts_52 rfl hl (by decide) rfl (fun ls hl => ?_)
          refine lv_iinc (v := x2 + (1 : Int32)) (lv' := [(3, .int (x2 + (1 : Int32))), (1, .long ((x1 / r11) * (F_X3_denominator (pl x2.toNatClampNeg)))), (6, .long (x1 / r11)), (4, .long (F_X3_denominator (pl x2.toNatClampNeg))), (0, .ref (o 0))]) hx hb dX6_commonParts_53 hl (k := 4) rfl rfl (by decide) rfl (fun ls hl => ?_)
          refine lv_goto (tgt := 4) hx hb dX6_commonParts_56 (by decide) ?_
          exact ih ((x1 / r11) * (F_X3_denominator (pl x2.toNatClampNeg))) (x2 + (1 : Int32)) _ _ _ h hP hD hS (lv_sub hl [4, 1, 0] rfl)
        · replace h := fF c15 h
          cases h
          exact J6 rfl _ _ _ hP hD hS (lv_sub hl [] rfl)
  exact LP8 FU (1 : Int64) (0 : Int32) _ _ _ g5 hP hD hS (lv_sub hl [2, 1, 0] rfl)
abbrev rm_X6_isOnLowerPlate : Room := { frames := 0, cells := 0, slots := 0, locals := 0 }
theorem hd_X6_isOnLowerPlate : yX6_isOnLowerPlate.cls = RX6 ∧ yX6_isOnLowerPlate.cls ≠ "java/lang/invoke/MethodHandle" ∧ yX6_isOnLowerPlate.cls ≠ "java/lang/invoke/VarHandle" ∧ (parseMethodDescriptor yX6_isOnLowerPlate.desc).map (fun d => d.parameters.length) = some 1 := by decide +kernel
set_option maxHeartbeats 0 in
set_option maxRecDepth 100000 in
theorem c_X6_isOnLowerPlate (l : Launch) (D : va_G) (o : Nat → Nat) (y : Nat → ClassId) (sz : Nat) (pl : Nat → Int64) (te : Nat → Int32) (be : Nat → Int64) (cn : Int32) (ch : Nat → Int32) (le : Int32) (rE : Int32) (rL : Int32) (rP : Int32) (rF : Int32) (rS : Int32) (rD : Int32) (hs : Nat → Int64) (ho : Int32) (hc : Int32) (sl : Nat → Int64) (fi : Nat → Int32) (a1 : Int32) (r : Int32) (h : F_X6_isOnLowerPlate pl a1 = some r) : Met l yX6_isOnLowerPlate wsX6_isOnLowerPlate rm_X6_isOnLowerPlate (va_Pc [.ref (o 0), .int a1] (px D y sz (XW o y pl te be cn ch le rE rL rP rF rS rD hs ho hc sl fi))) (Qri D y sz (XW o y pl te be cn ch le rE rL rP rF rS rD hs ho hc sl fi) (XW o y pl te be cn ch le rE rL rP rF rS rD hs ho hc sl fi) r) 0 0 (va_A (XW o y pl te be cn ch le rE rL rP rF rS rD hs ho hc sl fi) sz) := by
  refine hd_z (cc := cX6_isOnLowerPlate) (maxL := 3) (rt := .boolean) rfl rfl (Nat.le_of_ble_eq_true rfl) ?_
  intro p e s m args below meth c A Q H locs ls hx hb hml hts hown _ hA hP hD hK hS hl hE
  have hl : lv_has ls 3 [(0, .ref (o 0)), (1, .int a1)] := hl
  have q0 := hts (.fieldLink RX6 9 "SliceShares" "plates" "[J") (by decide +kernel)
  have hinRX6 : ∀ w ∈ wsX60, w ∈ wsX6_isOnLowerPlate := by decide +kernel
  unfold F_X6_isOnLowerPlate at h
  refine lv_iconst (v := (0 : Int32)) hx hb dX6_isOnLowerPlate_0 (by decide) ?_
  refine lv_istore_n (lv' := [(2, .int (0 : Int32)), (0, .ref (o 0)), (1, .int a1)]) hx hb dX6_isOnLowerPlate_1 rfl hl (by decide) rfl (fun ls hl => ?_)
  obtain ⟨t2, g3, h⟩ := fB1 h
  have J4 : t2 = 0 → ∀ (H : Heap) (locs : List Loc) (ls : Array Slot), va_P D vwCl (XW o y pl te be cn ch le rE rL rP rF rS rD hs ho hc sl fi) H → va_D A (XW o y pl te be cn ch le rE rL rP rF rS rD hs ho hc sl fi) → va_S A s.heap H locs → lv_has ls 3 [] → W p l e rm_X6_isOnLowerPlate s m args below meth c H locs 0 0 Q (F0 m 23 ls []) := by
    intro ht H locs ls hP hD hS hl
    replace h := fT ht h
    refine lv_iconst (v := (1 : Int32)) hx hb dX6_isOnLowerPlate_23 (by decide) ?_
    cases h
    exact hE _ _ _ _ dX6_isOnLowerPlate_24 hP hD hS (nz01 (Or.inr rfl))
  have J5 : t2 = 1 → ∀ (H : Heap) (locs : List Loc) (ls : Array Slot), va_P D vwCl (XW o y pl te be cn ch le rE rL rP rF rS rD hs ho hc sl fi) H → va_D A (XW o y pl te be cn ch le rE rL rP rF rS rD hs ho hc sl fi) → va_S A s.heap H locs → lv_has ls 3 [] → W p l e rm_X6_isOnLowerPlate s m args below meth c H locs 0 0 Q (F0 m 31 ls []) := by
    intro ht H locs ls hP hD hS hl
    replace h := fF (show ¬ t2 = 0 by omega) h
    refine lv_iconst (v := (0 : Int32)) hx hb dX6_isOnLowerPlate_31 (by decide) ?_
    cases h
    exact hE _ _ _ _ dX6_isOnLowerPlate_32 hP hD hS (nz01 (Or.inl rfl))
  have LP6 : ∀ (n : Nat) (x1 : Int32) (H : Heap) (locs : List Loc) (ls : Array Slot), L_X6_isOnLowerPlate_2 n a1 x1 pl = some t2 → va_P D vwCl (XW o y pl te be cn ch le rE rL rP rF rS rD hs ho hc sl fi) H → va_D A (XW o y pl te be cn ch le rE rL rP rF rS rD hs ho hc sl fi) → va_S A s.heap H locs → lv_has ls 3 [(0, .ref (o 0)), (1, .int a1), (2, .int x1)] → W p l e rm_X6_isOnLowerPlate s m args below meth c H locs 0 0 Q (F0 m 2 ls []) := by
    intro n
    induction n with
    | zero => intro x1 H locs ls h hP hD hS hl; exact fN h
    | succ n ih =>
      intro x1 H locs ls h hP hD hS hl
      replace h := (L_X6_isOnLowerPlate_2_s n a1 x1 pl).symm.trans h
      refine lv_iload_n hx hb dX6_isOnLowerPlate_2 rfl (lv_at hl 2 rfl) ?_
      refine lv_iload_n hx hb dX6_isOnLowerPlate_3 rfl (lv_at hl 1 rfl) ?_
      refine lv_icmp_ge (tgt := 31) hx hb dX6_isOnLowerPlate_4 (by decide) (fun c7 => ?_) (fun c7 => ?_)
      · replace h := fT c7 h
        cases h
        exact J5 rfl _ _ _ hP hD hS (lv_sub hl [] rfl)
      · replace h := fF c7 h
        refine lv_aload_n hx hb dX6_isOnLowerPlate_7 rfl (lv_at hl 0 rfl) ?_
        refine va_get (D := D) (ci := 4) (C := RX6) (T := TX6) (N := 7) hx hb hts hinRX6 hown hK hP 0 rfl rfl 0 (by decide) q0 (fun _ h9 => h9) rfl dX6_isOnLowerPlate_8 ?_
        refine lv_iload_n hx hb dX6_isOnLowerPlate_11 rfl (lv_at hl 2 rfl) ?_
        obtain ⟨g8, h⟩ := fG h
        refine va_lald hx hb hK hP 1 1 rfl rfl g8 dX6_isOnLowerPlate_12 ?_
        refine lv_aload_n hx hb dX6_isOnLowerPlate_13 rfl (lv_at hl 0 rfl) ?_
        refine va_get (D := D) (ci := 4) (C := RX6) (T := TX6) (N := 7) hx hb hts hinRX6 hown hK hP 0 rfl rfl 0 (by decide) q0 (fun _ h9 => h9) rfl dX6_isOnLowerPlate_14 ?_
        refine lv_iload_n hx hb dX6_isOnLowerPlate_17 rfl (lv_at hl 1 rfl) ?_
        obtain ⟨g9, h⟩ := fG h
        refine va_lald hx hb hK hP 1 1 rfl rfl g9 dX6_isOnLowerPlate_18 ?_
        refine lx_ne (tgt := 25) hx hb dX6_isOnLowerPlate_19 dX6_isOnLowerPlate_20 (by decide) (fun c10 => ?_) (fun c10 => ?_)
        · replace h := fF c10 h
          refine lv_iinc (v := x1 + (1 : Int32)) (lv' := [(2, .int (x1 + (1 : Int32))), (0, .ref (o 0)), (1, .int a1)]) hx hb dX6_isOnLowerPlate_25 hl (k := 2) rfl rfl (by decide) rfl (fun ls hl => ?_)
          refine lv_goto (tgt := 2) hx hb dX6_isOnLowerPlate_28 (by decide) ?_
          exact ih (x1 + (1 : Int32)) _ _ _ h hP hD hS (lv_sub hl [1, 2, 0] rfl)
        · replace h := fT c10 h
          cases h
          exact J4 rfl _ _ _ hP hD hS (lv_sub hl [] rfl)
  exact LP6 FU (0 : Int32) _ _ _ g3 hP hD hS (lv_sub hl [1, 2, 0] rfl)
abbrev rm_X6_differentFractions : Room := { frames := 1, cells := 0, slots := 0, locals := 22 }
theorem hd_X6_differentFractions : yX6_differentFractions.cls = RX6 ∧ yX6_differentFractions.cls ≠ "java/lang/invoke/MethodHandle" ∧ yX6_differentFractions.cls ≠ "java/lang/invoke/VarHandle" ∧ (parseMethodDescriptor yX6_differentFractions.desc).map (fun d => d.parameters.length) = some 0 := by decide +kernel
set_option maxHeartbeats 0 in
set_option maxRecDepth 100000 in
theorem c_X6_differentFractions (l : Launch) (D : va_G) (o : Nat → Nat) (y : Nat → ClassId) (sz : Nat) (pl : Nat → Int64) (te : Nat → Int32) (be : Nat → Int64) (cn : Int32) (ch : Nat → Int32) (le : Int32) (rE : Int32) (rL : Int32) (rP : Int32) (rF : Int32) (rS : Int32) (rD : Int32) (hs : Nat → Int64) (ho : Int32) (hc : Int32) (sl : Nat → Int64) (fi : Nat → Int32) (r : Int32) (h : F_X6_differentFractions pl = some r) : Met l yX6_differentFractions wsX6_differentFractions rm_X6_differentFractions (va_Pc [.ref (o 0)] (px D y sz (XW o y pl te be cn ch le rE rL rP rF rS rD hs ho hc sl fi))) (Qri D y sz (XW o y pl te be cn ch le rE rL rP rF rS rD hs ho hc sl fi) (XW o y pl te be cn ch le rE rL rP rF rS rD hs ho hc sl fi) r) 0 0 (va_A (XW o y pl te be cn ch le rE rL rP rF rS rD hs ho hc sl fi) sz) := by
  refine hd_i (cc := cX6_differentFractions) (maxL := 3) rfl rfl (Nat.le_of_ble_eq_true rfl) ?_
  intro p e s m args below meth c A Q H locs ls hx hb hml hts hown _ hA hP hD hK hS hl hE
  have hl : lv_has ls 3 [(0, .ref (o 0))] := hl
  unfold F_X6_differentFractions at h
  refine lv_iconst (v := (0 : Int32)) hx hb dX6_differentFractions_0 (by decide) ?_
  refine lv_istore_n (lv' := [(1, .int (0 : Int32)), (0, .ref (o 0))]) hx hb dX6_differentFractions_1 rfl hl (by decide) rfl (fun ls hl => ?_)
  refine lv_iconst (v := (0 : Int32)) hx hb dX6_differentFractions_2 (by decide) ?_
  refine lv_istore_n (lv' := [(2, .int (0 : Int32)), (1, .int (0 : Int32)), (0, .ref (o 0))]) hx hb dX6_differentFractions_3 rfl hl (by decide) rfl (fun ls hl => ?_)
  obtain ⟨v3, g4, h⟩ := fB1 h
  have J5 : ∀ (H : Heap) (locs : List Loc) (ls : Array Slot), va_P D vwCl (XW o y pl te be cn ch le rE rL rP rF rS rD hs ho hc sl fi) H → va_D A (XW o y pl te be cn ch le rE rL rP rF rS rD hs ho hc sl fi) → va_S A s.heap H locs → lv_has ls 3 [(1, .int v3)] → W p l e rm_X6_differentFractions s m args below meth c H locs 0 0 Q (F0 m 27 ls []) := by
    intro H locs ls hP hD hS hl
    refine lv_iload_n hx hb dX6_differentFractions_27 rfl (lv_at hl 0 rfl) ?_
    cases h
    exact hE _ _ _ _ dX6_differentFractions_28 hP hD hS
  have LP6 : ∀ (n : Nat) (x1 : Int32) (x2 : Int32) (H : Heap) (locs : List Loc) (ls : Array Slot), L_X6_differentFractions_4 n x1 x2 pl = some v3 → va_P D vwCl (XW o y pl te be cn ch le rE rL rP rF rS rD hs ho hc sl fi) H → va_D A (XW o y pl te be cn ch le rE rL rP rF rS rD hs ho hc sl fi) → va_S A s.heap H locs → lv_has ls 3 [(0, .ref (o 0)), (1, .int x1), (2, .int x2)] → W p l e rm_X6_differentFractions s m args below meth c H locs 0 0 Q (F0 m 4 ls []) := by
    intro n
    induction n with
    | zero => intro x1 x2 H locs ls h hP hD hS hl; exact fN h
    | succ n ih =>
      intro x1 x2 H locs ls h hP hD hS hl
      replace h := (L_X6_differentFractions_4_s n x1 x2 pl).symm.trans h
      refine lv_iload_n hx hb dX6_differentFractions_4 rfl (lv_at hl 2 rfl) ?_
      refine lv_bipush (v := (6 : Int32)) hx hb dX6_differentFractions_5 (by decide) ?_
      refine lv_icmp_ge (tgt := 27) hx hb dX6_differentFractions_7 (by decide) (fun c7 => ?_) (fun c7 => ?_)
      · replace h := fT c7 h
        cases h
        exact J5 _ _ _ hP hD hS (lv_sub hl [1] rfl)
      · replace h := fF c7 h
        refine lv_aload_n hx hb dX6_differentFractions_10 rfl (lv_at hl 0 rfl) ?_
        refine lv_iload_n hx hb dX6_differentFractions_11 rfl (lv_at hl 2 rfl) ?_
        obtain ⟨r8, g9, h⟩ := fB1 h
        refine cV_i (As := [.int x2]) (rest := []) (ws1 := (XW o y pl te be cn ch le rE rL rP rF rS rD hs ho hc sl fi)) ⟨hx, hb, hml, hown, hts⟩ (c_X6_isOnLowerPlate l D o y _ pl te be cn ch le rE rL rP rF rS rD hs ho hc sl fi x2 r8 g9) (cwV 1 hts gX6_differentFractions_X6_isOnLowerPlate rfl rfl rfl hd_X6_isOnLowerPlate ⟨Nat.le_of_ble_eq_true rfl, Nat.le_of_ble_eq_true rfl⟩) hK hP hD hS hA [0, 1, 2, 3, 4, 5, 6, 7, 8, 9, 10, 11] [] [0, 1, 2, 3, 4, 5, 6, 7, 8, 9, 10, 11] rfl rfl rfl (by decide) rfl rfl rfl 0 (ci := 4) rfl rfl rfl hl.1 rfl (Nat.le_of_ble_eq_true rfl) dX6_differentFractions_12 ⟨Nat.le_of_ble_eq_true rfl, Nat.le_of_ble_eq_true rfl⟩ (fun H locs hP hD hS => ?_)
        have J10 : ∀ (v11 : Int32) (ls : Array Slot), v11 = (if r8 = (0 : Int32) then (x1 + (1 : Int32)) else x1) → lv_has ls 3 [(0, .ref (o 0)), (1, .int v11), (2, .int x2)] → W p l e rm_X6_differentFractions s m args below meth c H locs 0 0 Q (F0 m 21 ls []) := by
          intro v11 ls ev11 hl
          subst ev11
          refine lv_iinc (v := x2 + (1 : Int32)) (lv' := [(2, .int (x2 + (1 : Int32))), (0, .ref (o 0)), (1, .int (if r8 = (0 : Int32) then (x1 + (1 : Int32)) else x1))]) hx hb dX6_differentFractions_21 hl (k := 2) rfl rfl (by decide) rfl (fun ls hl => ?_)
          refine lv_goto (tgt := 4) hx hb dX6_differentFractions_24 (by decide) ?_
          exact ih (if r8 = (0 : Int32) then (x1 + (1 : Int32)) else x1) (x2 + (1 : Int32)) _ _ _ h hP hD hS (lv_sub hl [1, 2, 0] rfl)
        refine lv_if_ne (tgt := 21) hx hb dX6_differentFractions_15 (by decide) (fun c12 => ?_) (fun c12 => ?_)
        · exact J10 _ _ (by rw [if_neg c12]) (lv_sub hl [0, 1, 2] rfl)
        · refine lv_iinc (v := x1 + (1 : Int32)) (lv' := [(1, .int (x1 + (1 : Int32))), (0, .ref (o 0)), (2, .int x2)]) hx hb dX6_differentFractions_18 hl (k := 1) rfl rfl (by decide) rfl (fun ls hl => ?_)
          exact J10 _ _ (by rw [if_pos c12]) (lv_sub hl [1, 0, 2] rfl)
  exact LP6 FU (0 : Int32) (0 : Int32) _ _ _ g4 hP hD hS (lv_sub hl [2, 1, 0] rfl)
abbrev rm_X6_termCount : Room := { frames := 4, cells := 0, slots := 0, locals := 96 }
theorem hd_X6_termCount : yX6_termCount.cls = RX6 ∧ yX6_termCount.cls ≠ "java/lang/invoke/MethodHandle" ∧ yX6_termCount.cls ≠ "java/lang/invoke/VarHandle" ∧ (parseMethodDescriptor yX6_termCount.desc).map (fun d => d.parameters.length) = some 1 := by decide +kernel
set_option maxHeartbeats 0 in
set_option maxRecDepth 100000 in
theorem c_X6_termCount (l : Launch) (D : va_G) (o : Nat → Nat) (y : Nat → ClassId) (sz : Nat) (pl : Nat → Int64) (te : Nat → Int32) (be : Nat → Int64) (cn : Int32) (ch : Nat → Int32) (le : Int32) (rE : Int32) (rL : Int32) (rP : Int32) (rF : Int32) (rS : Int32) (rD : Int32) (hs : Nat → Int64) (ho : Int32) (hc : Int32) (sl : Nat → Int64) (fi : Nat → Int32) (a1 : Int32) (r : Int32) (te' : Nat → Int32) (be' : Nat → Int64) (cn' : Int32) (h : F_X6_termCount pl te be cn a1 = some (0, r, te', be', cn')) : Met l yX6_termCount wsX6_termCount rm_X6_termCount (va_Pc [.ref (o 0), .int a1] (px D y sz (XW o y pl te be cn ch le rE rL rP rF rS rD hs ho hc sl fi))) (Qri D y sz (XW o y pl te be cn ch le rE rL rP rF rS rD hs ho hc sl fi) (XW o y pl te' be' cn' ch le rE rL rP rF rS rD hs ho hc sl fi) r) 0 0 (va_A (XW o y pl te be cn ch le rE rL rP rF rS rD hs ho hc sl fi) sz) := by
  refine hd_i (cc := cX6_termCount) (maxL := 2) rfl rfl (Nat.le_of_ble_eq_true rfl) ?_
  intro p e s m args below meth c A Q H locs ls hx hb hml hts hown _ hA hP hD hK hS hl hE
  have hl : lv_has ls 2 [(0, .ref (o 0)), (1, .int a1)] := hl
  have q0 := hts (.fieldLink RX6 18 "SliceShares" "continued" "LSliceShares$ContinuedFraction;") (by decide +kernel)
  have q1 := hts (.fieldLink RX6 9 "SliceShares" "plates" "[J") (by decide +kernel)
  have hinRX6 : ∀ w ∈ wsX60, w ∈ wsX6_termCount := by decide +kernel
  unfold F_X6_termCount at h
  refine lv_iload_n hx hb dX6_termCount_0 rfl (lv_at hl 1 rfl) ?_
  obtain ⟨k1, g2, h⟩ := fB1 h
  by_cases e3 : ¬ k1 = 0
  · replace h := fF e3 h
    exact fX e3 h
  replace e3 := Classical.not_not.mp e3
  subst e3
  replace h := fT rfl h
  refine cT_v (As := [.int a1]) (rest := []) ⟨hx, hb, hml, hown, hts⟩ (c_X6_requirePlate l D y _ a1 g2) (va_cwS 1 hts gX6_termCount_X6_requirePlate rfl rfl rfl hd_X6_requirePlate ⟨Nat.le_of_ble_eq_true rfl, Nat.le_of_ble_eq_true rfl⟩) hK hP hD hS hA rfl hl.1 rfl (Nat.le_of_ble_eq_true rfl) dX6_termCount_1 ⟨Nat.le_of_ble_eq_true rfl, Nat.le_of_ble_eq_true rfl⟩ (fun H locs hP hD hS => ?_)
  refine lv_aload_n hx hb dX6_termCount_4 rfl (lv_at hl 0 rfl) ?_
  refine va_get (D := D) (ci := 4) (C := RX6) (T := TX6) (N := 7) hx hb hts hinRX6 hown hK hP 0 rfl rfl 1 (by decide) q0 (fun _ h9 => h9) rfl dX6_termCount_5 ?_
  refine lv_aload_n hx hb dX6_termCount_8 rfl (lv_at hl 0 rfl) ?_
  refine va_get (D := D) (ci := 4) (C := RX6) (T := TX6) (N := 7) hx hb hts hinRX6 hown hK hP 0 rfl rfl 0 (by decide) q1 (fun _ h9 => h9) rfl dX6_termCount_9 ?_
  refine lv_iload_n hx hb dX6_termCount_12 rfl (lv_at hl 1 rfl) ?_
  obtain ⟨g4, h⟩ := fG h
  refine va_lald hx hb hK hP 1 1 rfl rfl g4 dX6_termCount_13 ?_
  obtain ⟨te5, be6, cn7, g8, h⟩ := fB3 h
  refine cV_v (As := [.long (pl a1.toNatClampNeg)]) (rest := []) (ws1 := (XW o y pl te5 be6 cn7 ch le rE rL rP rF rS rD hs ho hc sl fi)) ⟨hx, hb, hml, hown, hts⟩ (c_X2_expand l D o y _ te be cn (pl a1.toNatClampNeg) te5 be6 cn7 g8) (cwV 1 hts gX6_termCount_X2_expand rfl rfl rfl hd_X2_expand ⟨Nat.le_of_ble_eq_true rfl, Nat.le_of_ble_eq_true rfl⟩) hK hP hD hS hA [2, 3, 4] [0, 1, 5, 6, 7, 8, 9, 10, 11] [0, 1, 9, 10, 11, 2, 3, 4, 5, 6, 7, 8] rfl rfl rfl (by decide) rfl rfl rfl 0 (ci := 2) rfl rfl rfl hl.1 rfl (Nat.le_of_ble_eq_true rfl) dX6_termCount_14 ⟨Nat.le_of_ble_eq_true rfl, Nat.le_of_ble_eq_true rfl⟩ (fun H locs hP hD hS => ?_)
  refine lv_aload_n hx hb dX6_termCount_17 rfl (lv_at hl 0 rfl) ?_
  refine va_get (D := D) (ci := 4) (C := RX6) (T := TX6) (N := 7) hx hb hts hinRX6 hown hK hP 0 rfl rfl 1 (by decide) q0 (fun _ h9 => h9) rfl dX6_termCount_18 ?_
  refine cV_i (As := []) (rest := []) (ws1 := (XW o y pl te5 be6 cn7 ch le rE rL rP rF rS rD hs ho hc sl fi)) ⟨hx, hb, hml, hown, hts⟩ (c_X2_count l D o y _ te5 be6 cn7 ) (cwV 0 hts gX6_termCount_X2_count rfl rfl rfl hd_X2_count ⟨Nat.le_of_ble_eq_true rfl, Nat.le_of_ble_eq_true rfl⟩) hK hP hD hS hA [2, 3, 4] [0, 1, 5, 6, 7, 8, 9, 10, 11] [0, 1, 9, 10, 11, 2, 3, 4, 5, 6, 7, 8] rfl rfl rfl (by decide) rfl rfl rfl 0 (ci := 2) rfl rfl rfl hl.1 rfl (Nat.le_of_ble_eq_true rfl) dX6_termCount_21 ⟨Nat.le_of_ble_eq_true rfl, Nat.le_of_ble_eq_true rfl⟩ (fun H locs hP hD hS => ?_)
  cases h
  exact hE _ _ _ _ dX6_termCount_24 hP hD hS
abbrev rm_X6_expandToTerm : Room := { frames := 4, cells := 0, slots := 0, locals := 96 }
theorem hd_X6_expandToTerm : yX6_expandToTerm.cls = RX6 ∧ yX6_expandToTerm.cls ≠ "java/lang/invoke/MethodHandle" ∧ yX6_expandToTerm.cls ≠ "java/lang/invoke/VarHandle" ∧ (parseMethodDescriptor yX6_expandToTerm.desc).map (fun d => d.parameters.length) = some 2 := by decide +kernel
set_option maxHeartbeats 0 in
set_option maxRecDepth 100000 in
theorem c_X6_expandToTerm (l : Launch) (D : va_G) (o : Nat → Nat) (y : Nat → ClassId) (sz : Nat) (pl : Nat → Int64) (te : Nat → Int32) (be : Nat → Int64) (cn : Int32) (ch : Nat → Int32) (le : Int32) (rE : Int32) (rL : Int32) (rP : Int32) (rF : Int32) (rS : Int32) (rD : Int32) (hs : Nat → Int64) (ho : Int32) (hc : Int32) (sl : Nat → Int64) (fi : Nat → Int32) (a1 : Int32) (a2 : Int32) (te' : Nat → Int32) (be' : Nat → Int64) (cn' : Int32) (h : F_X6_expandToTerm pl te be cn a1 a2 = some (0, te', be', cn')) : Met l yX6_expandToTerm wsX6_expandToTerm rm_X6_expandToTerm (va_Pc [.ref (o 0), .int a1, .int a2] (px D y sz (XW o y pl te be cn ch le rE rL rP rF rS rD hs ho hc sl fi))) (Qrv D y sz (XW o y pl te be cn ch le rE rL rP rF rS rD hs ho hc sl fi) (XW o y pl te' be' cn' ch le rE rL rP rF rS rD hs ho hc sl fi)) 0 0 (va_A (XW o y pl te be cn ch le rE rL rP rF rS rD hs ho hc sl fi) sz) := by
  refine hd_v (cc := cX6_expandToTerm) (maxL := 3) rfl rfl (Nat.le_of_ble_eq_true rfl) ?_
  intro p e s m args below meth c A Q H locs ls hx hb hml hts hown _ hA hP hD hK hS hl hE
  have hl : lv_has ls 3 [(0, .ref (o 0)), (1, .int a1), (2, .int a2)] := hl
  have q0 := hts (.fieldLink RX6 18 "SliceShares" "continued" "LSliceShares$ContinuedFraction;") (by decide +kernel)
  have q1 := hts (.fieldLink RX6 9 "SliceShares" "plates" "[J") (by decide +kernel)
  have hinRX6 : ∀ w ∈ wsX60, w ∈ wsX6_expandToTerm := by decide +kernel
  unfold F_X6_expandToTerm at h
  refine lv_iload_n hx hb dX6_expandToTerm_0 rfl (lv_at hl 1 rfl) ?_
  obtain ⟨k1, g2, h⟩ := fB1 h
  by_cases e3 : ¬ k1 = 0
  · replace h := fF e3 h
    exact fX e3 h
  replace e3 := Classical.not_not.mp e3
  subst e3
  replace h := fT rfl h
  refine cT_v (As := [.int a1]) (rest := []) ⟨hx, hb, hml, hown, hts⟩ (c_X6_requirePlate l D y _ a1 g2) (va_cwS 1 hts gX6_expandToTerm_X6_requirePlate rfl rfl rfl hd_X6_requirePlate ⟨Nat.le_of_ble_eq_true rfl, Nat.le_of_ble_eq_true rfl⟩) hK hP hD hS hA rfl hl.1 rfl (Nat.le_of_ble_eq_true rfl) dX6_expandToTerm_1 ⟨Nat.le_of_ble_eq_true rfl, Nat.le_of_ble_eq_true rfl⟩ (fun H locs hP hD hS => ?_)
  refine lv_aload_n hx hb dX6_expandToTerm_4 rfl (lv_at hl 0 rfl) ?_
  refine va_get (D := D) (ci := 4) (C := RX6) (T := TX6) (N := 7) hx hb hts hinRX6 hown hK hP 0 rfl rfl 1 (by decide) q0 (fun _ h9 => h9) rfl dX6_expandToTerm_5 ?_
  refine lv_aload_n hx hb dX6_expandToTerm_8 rfl (lv_at hl 0 rfl) ?_
  refine va_get (D := D) (ci := 4) (C := RX6) (T := TX6) (N := 7) hx hb hts hinRX6 hown hK hP 0 rfl rfl 0 (by decide) q1 (fun _ h9 => h9) rfl dX6_expandToTerm_9 ?_
  refine lv_iload_n hx hb dX6_expandToTerm_12 rfl (lv_at hl 1 rfl) ?_
  obtain ⟨g4, h⟩ := fG h
  refine va_lald hx hb hK hP 1 1 rfl rfl g4 dX6_expandToTerm_13 ?_
  obtain ⟨te5, be6, cn7, g8, h⟩ := fB3 h
  refine cV_v (As := [.long (pl a1.toNatClampNeg)]) (rest := []) (ws1 := (XW o y pl te5 be6 cn7 ch le rE rL rP rF rS rD hs ho hc sl fi)) ⟨hx, hb, hml, hown, hts⟩ (c_X2_expand l D o y _ te be cn (pl a1.toNatClampNeg) te5 be6 cn7 g8) (cwV 1 hts gX6_expandToTerm_X2_expand rfl rfl rfl hd_X2_expand ⟨Nat.le_of_ble_eq_true rfl, Nat.le_of_ble_eq_true rfl⟩) hK hP hD hS hA [2, 3, 4] [0, 1, 5, 6, 7, 8, 9, 10, 11] [0, 1, 9, 10, 11, 2, 3, 4, 5, 6, 7, 8] rfl rfl rfl (by decide) rfl rfl rfl 0 (ci := 2) rfl rfl rfl hl.1 rfl (Nat.le_of_ble_eq_true rfl) dX6_expandToTerm_14 ⟨Nat.le_of_ble_eq_true rfl, Nat.le_of_ble_eq_true rfl⟩ (fun H locs hP hD hS => ?_)
  refine lv_iload_n hx hb dX6_expandToTerm_17 rfl (lv_at hl 2 rfl) ?_
  refine lv_if_lt (tgt := 32) hx hb dX6_expandToTerm_18 (by decide) (fun c9 => ?_) (fun c9 => ?_)
  · replace h := fT c9 h
    exact fX (show ¬ (1 : Nat) = 0 by decide) h
  · replace h := fF c9 h
    refine lv_iload_n hx hb dX6_expandToTerm_21 rfl (lv_at hl 2 rfl) ?_
    refine lv_aload_n hx hb dX6_expandToTerm_22 rfl (lv_at hl 0 rfl) ?_
    refine va_get (D := D) (ci := 4) (C := RX6) (T := TX6) (N := 7) hx hb hts hinRX6 hown hK hP 0 rfl rfl 1 (by decide) q0 (fun _ h9 => h9) rfl dX6_expandToTerm_23 ?_
    refine cV_i (As := []) (rest := [.int a2]) (ws1 := (XW o y pl te5 be6 cn7 ch le rE rL rP rF rS rD hs ho hc sl fi)) ⟨hx, hb, hml, hown, hts⟩ (c_X2_count l D o y _ te5 be6 cn7 ) (cwV 0 hts gX6_expandToTerm_X2_count rfl rfl rfl hd_X2_count ⟨Nat.le_of_ble_eq_true rfl, Nat.le_of_ble_eq_true rfl⟩) hK hP hD hS hA [2, 3, 4] [0, 1, 5, 6, 7, 8, 9, 10, 11] [0, 1, 9, 10, 11, 2, 3, 4, 5, 6, 7, 8] rfl rfl rfl (by decide) rfl rfl rfl 0 (ci := 2) rfl rfl rfl hl.1 rfl (Nat.le_of_ble_eq_true rfl) dX6_expandToTerm_26 ⟨Nat.le_of_ble_eq_true rfl, Nat.le_of_ble_eq_true rfl⟩ (fun H locs hP hD hS => ?_)
    refine lv_icmp_lt (tgt := 42) hx hb dX6_expandToTerm_29 (by decide) (fun c10 => ?_) (fun c10 => ?_)
    · replace h := fT c10 h
      cases h
      exact hE _ _ _ _ dX6_expandToTerm_42 hP hD hS
    · replace h := fF c10 h
      exact fX (show ¬ (1 : Nat) = 0 by decide) h
abbrev rm_X6_beginningNumerator : Room := { frames := 5, cells := 0, slots := 0, locals := 118 }
theorem hd_X6_beginningNumerator : yX6_beginningNumerator.cls = RX6 ∧ yX6_beginningNumerator.cls ≠ "java/lang/invoke/MethodHandle" ∧ yX6_beginningNumerator.cls ≠ "java/lang/invoke/VarHandle" ∧ (parseMethodDescriptor yX6_beginningNumerator.desc).map (fun d => d.parameters.length) = some 2 := by decide +kernel
set_option maxHeartbeats 0 in
set_option maxRecDepth 100000 in
theorem c_X6_beginningNumerator (l : Launch) (D : va_G) (o : Nat → Nat) (y : Nat → ClassId) (sz : Nat) (pl : Nat → Int64) (te : Nat → Int32) (be : Nat → Int64) (cn : Int32) (ch : Nat → Int32) (le : Int32) (rE : Int32) (rL : Int32) (rP : Int32) (rF : Int32) (rS : Int32) (rD : Int32) (hs : Nat → Int64) (ho : Int32) (hc : Int32) (sl : Nat → Int64) (fi : Nat → Int32) (a1 : Int32) (a2 : Int32) (r : Int32) (te' : Nat → Int32) (be' : Nat → Int64) (cn' : Int32) (h : F_X6_beginningNumerator pl te be cn a1 a2 = some (0, r, te', be', cn')) : Met l yX6_beginningNumerator wsX6_beginningNumerator rm_X6_beginningNumerator (va_Pc [.ref (o 0), .int a1, .int a2] (px D y sz (XW o y pl te be cn ch le rE rL rP rF rS rD hs ho hc sl fi))) (Qri D y sz (XW o y pl te be cn ch le rE rL rP rF rS rD hs ho hc sl fi) (XW o y pl te' be' cn' ch le rE rL rP rF rS rD hs ho hc sl fi) r) 0 0 (va_A (XW o y pl te be cn ch le rE rL rP rF rS rD hs ho hc sl fi) sz) := by
  refine hd_i (cc := cX6_beginningNumerator) (maxL := 3) rfl rfl (Nat.le_of_ble_eq_true rfl) ?_
  intro p e s m args below meth c A Q H locs ls hx hb hml hts hown _ hA hP hD hK hS hl hE
  have hl : lv_has ls 3 [(0, .ref (o 0)), (1, .int a1), (2, .int a2)] := hl
  have q0 := hts (.fieldLink RX6 18 "SliceShares" "continued" "LSliceShares$ContinuedFraction;") (by decide +kernel)
  have hinRX6 : ∀ w ∈ wsX60, w ∈ wsX6_beginningNumerator := by decide +kernel
  unfold F_X6_beginningNumerator at h
  refine lv_aload_n hx hb dX6_beginningNumerator_0 rfl (lv_at hl 0 rfl) ?_
  refine lv_iload_n hx hb dX6_beginningNumerator_1 rfl (lv_at hl 1 rfl) ?_
  refine lv_iload_n hx hb dX6_beginningNumerator_2 rfl (lv_at hl 2 rfl) ?_
  obtain ⟨k1, te2, be3, cn4, g5, h⟩ := fB4 h
  by_cases e6 : ¬ k1 = 0
  · replace h := fF e6 h
    exact fX e6 h
  replace e6 := Classical.not_not.mp e6
  subst e6
  replace h := fT rfl h
  refine cV_v (As := [.int a1, .int a2]) (rest := []) (ws1 := (XW o y pl te2 be3 cn4 ch le rE rL rP rF rS rD hs ho hc sl fi)) ⟨hx, hb, hml, hown, hts⟩ (c_X6_expandToTerm l D o y _ pl te be cn ch le rE rL rP rF rS rD hs ho hc sl fi a1 a2 te2 be3 cn4 g5) (cwV 2 hts gX6_beginningNumerator_X6_expandToTerm rfl rfl rfl hd_X6_expandToTerm ⟨Nat.le_of_ble_eq_true rfl, Nat.le_of_ble_eq_true rfl⟩) hK hP hD hS hA [0, 1, 2, 3, 4, 5, 6, 7, 8, 9, 10, 11] [] [0, 1, 2, 3, 4, 5, 6, 7, 8, 9, 10, 11] rfl rfl rfl (by decide) rfl rfl rfl 0 (ci := 4) rfl rfl rfl hl.1 rfl (Nat.le_of_ble_eq_true rfl) dX6_beginningNumerator_3 ⟨Nat.le_of_ble_eq_true rfl, Nat.le_of_ble_eq_true rfl⟩ (fun H locs hP hD hS => ?_)
  refine lv_aload_n hx hb dX6_beginningNumerator_6 rfl (lv_at hl 0 rfl) ?_
  refine va_get (D := D) (ci := 4) (C := RX6) (T := TX6) (N := 7) hx hb hts hinRX6 hown hK hP 0 rfl rfl 1 (by decide) q0 (fun _ h9 => h9) rfl dX6_beginningNumerator_7 ?_
  refine lv_iload_n hx hb dX6_beginningNumerator_10 rfl (lv_at hl 2 rfl) ?_
  obtain ⟨r7, g8, h⟩ := fB1 h
  refine cV_l (As := [.int a2]) (rest := []) (ws1 := (XW o y pl te2 be3 cn4 ch le rE rL rP rF rS rD hs ho hc sl fi)) ⟨hx, hb, hml, hown, hts⟩ (c_X2_beginning l D o y _ te2 be3 cn4 a2 r7 g8) (cwV 1 hts gX6_beginningNumerator_X2_beginning rfl rfl rfl hd_X2_beginning ⟨Nat.le_of_ble_eq_true rfl, Nat.le_of_ble_eq_true rfl⟩) hK hP hD hS hA [2, 3, 4] [0, 1, 5, 6, 7, 8, 9, 10, 11] [0, 1, 9, 10, 11, 2, 3, 4, 5, 6, 7, 8] rfl rfl rfl (by decide) rfl rfl rfl 0 (ci := 2) rfl rfl rfl hl.1 rfl (Nat.le_of_ble_eq_true rfl) dX6_beginningNumerator_11 ⟨Nat.le_of_ble_eq_true rfl, Nat.le_of_ble_eq_true rfl⟩ (fun H locs hP hD hS => ?_)
  refine cT_l (As := [.long r7]) (rest := []) ⟨hx, hb, hml, hown, hts⟩ (c_X3_numerator l D y _ r7) (va_cwS 1 hts gX6_beginningNumerator_X3_numerator rfl rfl rfl hd_X3_numerator ⟨Nat.le_of_ble_eq_true rfl, Nat.le_of_ble_eq_true rfl⟩) hK hP hD hS hA rfl hl.1 rfl (Nat.le_of_ble_eq_true rfl) dX6_beginningNumerator_14 ⟨Nat.le_of_ble_eq_true rfl, Nat.le_of_ble_eq_true rfl⟩ (fun H locs hP hD hS => ?_)
  refine lv_l2i (v := (F_X3_numerator r7).toInt32) hx hb dX6_beginningNumerator_17 rfl ?_
  cases h
  exact hE _ _ _ _ dX6_beginningNumerator_18 hP hD hS
abbrev rm_X6_beginningDenominator : Room := { frames := 5, cells := 0, slots := 0, locals := 118 }
theorem hd_X6_beginningDenominator : yX6_beginningDenominator.cls = RX6 ∧ yX6_beginningDenominator.cls ≠ "java/lang/invoke/MethodHandle" ∧ yX6_beginningDenominator.cls ≠ "java/lang/invoke/VarHandle" ∧ (parseMethodDescriptor yX6_beginningDenominator.desc).map (fun d => d.parameters.length) = some 2 := by decide +kernel
set_option maxHeartbeats 0 in
set_option maxRecDepth 100000 in
theorem c_X6_beginningDenominator (l : Launch) (D : va_G) (o : Nat → Nat) (y : Nat → ClassId) (sz : Nat) (pl : Nat → Int64) (te : Nat → Int32) (be : Nat → Int64) (cn : Int32) (ch : Nat → Int32) (le : Int32) (rE : Int32) (rL : Int32) (rP : Int32) (rF : Int32) (rS : Int32) (rD : Int32) (hs : Nat → Int64) (ho : Int32) (hc : Int32) (sl : Nat → Int64) (fi : Nat → Int32) (a1 : Int32) (a2 : Int32) (r : Int32) (te' : Nat → Int32) (be' : Nat → Int64) (cn' : Int32) (h : F_X6_beginningDenominator pl te be cn a1 a2 = some (0, r, te', be', cn')) : Met l yX6_beginningDenominator wsX6_beginningDenominator rm_X6_beginningDenominator (va_Pc [.ref (o 0), .int a1, .int a2] (px D y sz (XW o y pl te be cn ch le rE rL rP rF rS rD hs ho hc sl fi))) (Qri D y sz (XW o y pl te be cn ch le rE rL rP rF rS rD hs ho hc sl fi) (XW o y pl te' be' cn' ch le rE rL rP rF rS rD hs ho hc sl fi) r) 0 0 (va_A (XW o y pl te be cn ch le rE rL rP rF rS rD hs ho hc sl fi) sz) := by
  refine hd_i (cc := cX6_beginningDenominator) (maxL := 3) rfl rfl (Nat.le_of_ble_eq_true rfl) ?_
  intro p e s m args below meth c A Q H locs ls hx hb hml hts hown _ hA hP hD hK hS hl hE
  have hl : lv_has ls 3 [(0, .ref (o 0)), (1, .int a1), (2, .int a2)] := hl
  have q0 := hts (.fieldLink RX6 18 "SliceShares" "continued" "LSliceShares$ContinuedFraction;") (by decide +kernel)
  have hinRX6 : ∀ w ∈ wsX60, w ∈ wsX6_beginningDenominator := by decide +kernel
  unfold F_X6_beginningDenominator at h
  refine lv_aload_n hx hb dX6_beginningDenominator_0 rfl (lv_at hl 0 rfl) ?_
  refine lv_iload_n hx hb dX6_beginningDenominator_1 rfl (lv_at hl 1 rfl) ?_
  refine lv_iload_n hx hb dX6_beginningDenominator_2 rfl (lv_at hl 2 rfl) ?_
  obtain ⟨k1, te2, be3, cn4, g5, h⟩ := fB4 h
  by_cases e6 : ¬ k1 = 0
  · replace h := fF e6 h
    exact fX e6 h
  replace e6 := Classical.not_not.mp e6
  subst e6
  replace h := fT rfl h
  refine cV_v (As := [.int a1, .int a2]) (rest := []) (ws1 := (XW o y pl te2 be3 cn4 ch le rE rL rP rF rS rD hs ho hc sl fi)) ⟨hx, hb, hml, hown, hts⟩ (c_X6_expandToTerm l D o y _ pl te be cn ch le rE rL rP rF rS rD hs ho hc sl fi a1 a2 te2 be3 cn4 g5) (cwV 2 hts gX6_beginningDenominator_X6_expandToTerm rfl rfl rfl hd_X6_expandToTerm ⟨Nat.le_of_ble_eq_true rfl, Nat.le_of_ble_eq_true rfl⟩) hK hP hD hS hA [0, 1, 2, 3, 4, 5, 6, 7, 8, 9, 10, 11] [] [0, 1, 2, 3, 4, 5, 6, 7, 8, 9, 10, 11] rfl rfl rfl (by decide) rfl rfl rfl 0 (ci := 4) rfl rfl rfl hl.1 rfl (Nat.le_of_ble_eq_true rfl) dX6_beginningDenominator_3 ⟨Nat.le_of_ble_eq_true rfl, Nat.le_of_ble_eq_true rfl⟩ (fun H locs hP hD hS => ?_)
  refine lv_aload_n hx hb dX6_beginningDenominator_6 rfl (lv_at hl 0 rfl) ?_
  refine va_get (D := D) (ci := 4) (C := RX6) (T := TX6) (N := 7) hx hb hts hinRX6 hown hK hP 0 rfl rfl 1 (by decide) q0 (fun _ h9 => h9) rfl dX6_beginningDenominator_7 ?_
  refine lv_iload_n hx hb dX6_beginningDenominator_10 rfl (lv_at hl 2 rfl) ?_
  obtain ⟨r7, g8, h⟩ := fB1 h
  refine cV_l (As := [.int a2]) (rest := []) (ws1 := (XW o y pl te2 be3 cn4 ch le rE rL rP rF rS rD hs ho hc sl fi)) ⟨hx, hb, hml, hown, hts⟩ (c_X2_beginning l D o y _ te2 be3 cn4 a2 r7 g8) (cwV 1 hts gX6_beginningDenominator_X2_beginning rfl rfl rfl hd_X2_beginning ⟨Nat.le_of_ble_eq_true rfl, Nat.le_of_ble_eq_true rfl⟩) hK hP hD hS hA [2, 3, 4] [0, 1, 5, 6, 7, 8, 9, 10, 11] [0, 1, 9, 10, 11, 2, 3, 4, 5, 6, 7, 8] rfl rfl rfl (by decide) rfl rfl rfl 0 (ci := 2) rfl rfl rfl hl.1 rfl (Nat.le_of_ble_eq_true rfl) dX6_beginningDenominator_11 ⟨Nat.le_of_ble_eq_true rfl, Nat.le_of_ble_eq_true rfl⟩ (fun H locs hP hD hS => ?_)
  refine cT_l (As := [.long r7]) (rest := []) ⟨hx, hb, hml, hown, hts⟩ (c_X3_denominator l D y _ r7) (va_cwS 1 hts gX6_beginningDenominator_X3_denominator rfl rfl rfl hd_X3_denominator ⟨Nat.le_of_ble_eq_true rfl, Nat.le_of_ble_eq_true rfl⟩) hK hP hD hS hA rfl hl.1 rfl (Nat.le_of_ble_eq_true rfl) dX6_beginningDenominator_14 ⟨Nat.le_of_ble_eq_true rfl, Nat.le_of_ble_eq_true rfl⟩ (fun H locs hP hD hS => ?_)
  refine lv_l2i (v := (F_X3_denominator r7).toInt32) hx hb dX6_beginningDenominator_17 rfl ?_
  cases h
  exact hE _ _ _ _ dX6_beginningDenominator_18 hP hD hS
abbrev rm_X6_nearestDenominator : Room := { frames := 6, cells := 0, slots := 0, locals := 138 }
theorem hd_X6_nearestDenominator : yX6_nearestDenominator.cls = RX6 ∧ yX6_nearestDenominator.cls ≠ "java/lang/invoke/MethodHandle" ∧ yX6_nearestDenominator.cls ≠ "java/lang/invoke/VarHandle" ∧ (parseMethodDescriptor yX6_nearestDenominator.desc).map (fun d => d.parameters.length) = some 2 := by decide +kernel
set_option maxHeartbeats 0 in
set_option maxRecDepth 100000 in
theorem c_X6_nearestDenominator (l : Launch) (D : va_G) (o : Nat → Nat) (y : Nat → ClassId) (sz : Nat) (pl : Nat → Int64) (te : Nat → Int32) (be : Nat → Int64) (cn : Int32) (ch : Nat → Int32) (le : Int32) (rE : Int32) (rL : Int32) (rP : Int32) (rF : Int32) (rS : Int32) (rD : Int32) (hs : Nat → Int64) (ho : Int32) (hc : Int32) (sl : Nat → Int64) (fi : Nat → Int32) (a1 : Int32) (a2 : Int32) (r : Int32) (te' : Nat → Int32) (be' : Nat → Int64) (cn' : Int32) (h : F_X6_nearestDenominator pl te be cn a1 a2 = some (0, r, te', be', cn')) : Met l yX6_nearestDenominator wsX6_nearestDenominator rm_X6_nearestDenominator (va_Pc [.ref (o 0), .int a1, .int a2] (px D y sz (XW o y pl te be cn ch le rE rL rP rF rS rD hs ho hc sl fi))) (Qri D y sz (XW o y pl te be cn ch le rE rL rP rF rS rD hs ho hc sl fi) (XW o y pl te' be' cn' ch le rE rL rP rF rS rD hs ho hc sl fi) r) 0 0 (va_A (XW o y pl te be cn ch le rE rL rP rF rS rD hs ho hc sl fi) sz) := by
  refine hd_i (cc := cX6_nearestDenominator) (maxL := 3) rfl rfl (Nat.le_of_ble_eq_true rfl) ?_
  intro p e s m args below meth c A Q H locs ls hx hb hml hts hown _ hA hP hD hK hS hl hE
  have hl : lv_has ls 3 [(0, .ref (o 0)), (1, .int a1), (2, .int a2)] := hl
  unfold F_X6_nearestDenominator at h
  refine lv_aload_n hx hb dX6_nearestDenominator_0 rfl (lv_at hl 0 rfl) ?_
  refine lv_iload_n hx hb dX6_nearestDenominator_1 rfl (lv_at hl 1 rfl) ?_
  refine lv_iload_n hx hb dX6_nearestDenominator_2 rfl (lv_at hl 2 rfl) ?_
  obtain ⟨k1, r2, te3, be4, cn5, g6, h⟩ := fB5 h
  by_cases e7 : ¬ k1 = 0
  · replace h := fF e7 h
    exact fX e7 h
  replace e7 := Classical.not_not.mp e7
  subst e7
  replace h := fT rfl h
  refine cV_l (As := [.int a1, .int a2]) (rest := []) (ws1 := (XW o y pl te3 be4 cn5 ch le rE rL rP rF rS rD hs ho hc sl fi)) ⟨hx, hb, hml, hown, hts⟩ (c_X6_nearest l D o y _ pl te be cn ch le rE rL rP rF rS rD hs ho hc sl fi a1 a2 r2 te3 be4 cn5 g6) (cwV 2 hts gX6_nearestDenominator_X6_nearest rfl rfl rfl hd_X6_nearest ⟨Nat.le_of_ble_eq_true rfl, Nat.le_of_ble_eq_true rfl⟩) hK hP hD hS hA [0, 1, 2, 3, 4, 5, 6, 7, 8, 9, 10, 11] [] [0, 1, 2, 3, 4, 5, 6, 7, 8, 9, 10, 11] rfl rfl rfl (by decide) rfl rfl rfl 0 (ci := 4) rfl rfl rfl hl.1 rfl (Nat.le_of_ble_eq_true rfl) dX6_nearestDenominator_3 ⟨Nat.le_of_ble_eq_true rfl, Nat.le_of_ble_eq_true rfl⟩ (fun H locs hP hD hS => ?_)
  refine cT_l (As := [.long r2]) (rest := []) ⟨hx, hb, hml, hown, hts⟩ (c_X3_denominator l D y _ r2) (va_cwS 1 hts gX6_nearestDenominator_X3_denominator rfl rfl rfl hd_X3_denominator ⟨Nat.le_of_ble_eq_true rfl, Nat.le_of_ble_eq_true rfl⟩) hK hP hD hS hA rfl hl.1 rfl (Nat.le_of_ble_eq_true rfl) dX6_nearestDenominator_6 ⟨Nat.le_of_ble_eq_true rfl, Nat.le_of_ble_eq_true rfl⟩ (fun H locs hP hD hS => ?_)
  refine lv_l2i (v := (F_X3_denominator r2).toInt32) hx hb dX6_nearestDenominator_9 rfl ?_
  cases h
  exact hE _ _ _ _ dX6_nearestDenominator_10 hP hD hS
abbrev rm_X6_triedDenominator : Room := { frames := 3, cells := 0, slots := 0, locals := 60 }
theorem hd_X6_triedDenominator : yX6_triedDenominator.cls ≠ "java/lang/invoke/MethodHandle" ∧ yX6_triedDenominator.cls ≠ "java/lang/invoke/VarHandle" ∧ (parseMethodDescriptor yX6_triedDenominator.desc).map (fun d => d.parameters.length) = some 2 := by decide +kernel
set_option maxHeartbeats 0 in
set_option maxRecDepth 100000 in
theorem c_X6_triedDenominator (l : Launch) (D : va_G) (y : Nat → ClassId) (sz : Nat) (a1 : Int64) (a2 : Int32) (r : Int32) (h : F_X6_triedDenominator a1 a2 = some r) : Met l yX6_triedDenominator wsX6_triedDenominator rm_X6_triedDenominator (va_Pc [.long a1, .int a2] (px D y sz [])) (Qri D y sz [] [] r) 0 0 (va_A [] sz) := by
  refine hd_i (cc := cX6_triedDenominator) (maxL := 5) rfl rfl (Nat.le_of_ble_eq_true rfl) ?_
  intro p e s m args below meth c A Q H locs ls hx hb hml hts hown _ hA hP hD hK hS hl hE
  have hl : lv_has ls 5 [(0, .long a1), (2, .int a2)] := hl
  unfold F_X6_triedDenominator at h
  refine lv_iconst (v := (1 : Int32)) hx hb dX6_triedDenominator_0 (by decide) ?_
  refine lv_istore_n (lv' := [(3, .int (1 : Int32)), (0, .long a1), (2, .int a2)]) hx hb dX6_triedDenominator_1 rfl hl (by decide) rfl (fun ls hl => ?_)
  refine lv_iconst (v := (2 : Int32)) hx hb dX6_triedDenominator_2 (by decide) ?_
  refine lv_istore (lv' := [(4, .int (2 : Int32)), (3, .int (1 : Int32)), (0, .long a1), (2, .int a2)]) hx hb dX6_triedDenominator_3 hl (by decide) rfl (fun ls hl => ?_)
  obtain ⟨v3, g4, h⟩ := fB1 h
  have J5 : ∀ (H : Heap) (locs : List Loc) (ls : Array Slot), va_P D vwCl [] H → va_D A [] → va_S A s.heap H locs → lv_has ls 5 [(3, .int v3)] → W p l e rm_X6_triedDenominator s m args below meth c H locs 0 0 Q (F0 m 42 ls []) := by
    intro H locs ls hP hD hS hl
    refine lv_iload_n hx hb dX6_triedDenominator_42 rfl (lv_at hl 0 rfl) ?_
    cases h
    exact hE _ _ _ _ dX6_triedDenominator_43 hP hD hS
  have LP6 : ∀ (n : Nat) (x1 : Int32) (x2 : Int32) (H : Heap) (locs : List Loc) (ls : Array Slot), L_X6_triedDenominator_5 n a1 a2 x1 x2 = some v3 → va_P D vwCl [] H → va_D A [] → va_S A s.heap H locs → lv_has ls 5 [(0, .long a1), (2, .int a2), (3, .int x1), (4, .int x2)] → W p l e rm_X6_triedDenominator s m args below meth c H locs 0 0 Q (F0 m 5 ls []) := by
    intro n
    induction n with
    | zero => intro x1 x2 H locs ls h hP hD hS hl; exact fN h
    | succ n ih =>
      intro x1 x2 H locs ls h hP hD hS hl
      replace h := (L_X6_triedDenominator_5_s n a1 a2 x1 x2).symm.trans h
      refine lv_iload hx hb dX6_triedDenominator_5 (lv_at hl 3 rfl) ?_
      refine lv_iload_n hx hb dX6_triedDenominator_7 rfl (lv_at hl 1 rfl) ?_
      refine lv_icmp_gt (tgt := 42) hx hb dX6_triedDenominator_8 (by decide) (fun c7 => ?_) (fun c7 => ?_)
      · replace h := fT c7 h
        cases h
        exact J5 _ _ _ hP hD hS (lv_sub hl [2] rfl)
      · replace h := fF c7 h
        refine lv_lload_n hx hb dX6_triedDenominator_11 rfl (lv_at hl 0 rfl) ?_
        refine lv_iload hx hb dX6_triedDenominator_12 (lv_at hl 3 rfl) ?_
        obtain ⟨r8, g9, h⟩ := fB1 h
        refine cT_l (As := [.long a1, .int x2]) (rest := []) ⟨hx, hb, hml, hown, hts⟩ (c_X3_partsApart l D y _ a1 x2 r8 g9) (va_cwS 2 hts gX6_triedDenominator_X3_partsApart rfl rfl rfl hd_X3_partsApart ⟨Nat.le_of_ble_eq_true rfl, Nat.le_of_ble_eq_true rfl⟩) hK hP hD hS hA rfl hl.1 rfl (Nat.le_of_ble_eq_true rfl) dX6_triedDenominator_14 ⟨Nat.le_of_ble_eq_true rfl, Nat.le_of_ble_eq_true rfl⟩ (fun H locs hP hD hS => ?_)
        refine lv_iload_n hx hb dX6_triedDenominator_17 rfl (lv_at hl 2 rfl) ?_
        refine lv_i2l (v := x1.toInt64) hx hb dX6_triedDenominator_18 rfl ?_
        refine lv_lmul hx hb dX6_triedDenominator_19 ?_
        refine lv_lload_n hx hb dX6_triedDenominator_20 rfl (lv_at hl 0 rfl) ?_
        refine lv_iload_n hx hb dX6_triedDenominator_21 rfl (lv_at hl 2 rfl) ?_
        obtain ⟨r10, g11, h⟩ := fB1 h
        refine cT_l (As := [.long a1, .int x1]) (rest := [.long (r8 * x1.toInt64)]) ⟨hx, hb, hml, hown, hts⟩ (c_X3_partsApart l D y _ a1 x1 r10 g11) (va_cwS 2 hts gX6_triedDenominator_X3_partsApart rfl rfl rfl hd_X3_partsApart ⟨Nat.le_of_ble_eq_true rfl, Nat.le_of_ble_eq_true rfl⟩) hK hP hD hS hA rfl hl.1 rfl (Nat.le_of_ble_eq_true rfl) dX6_triedDenominator_22 ⟨Nat.le_of_ble_eq_true rfl, Nat.le_of_ble_eq_true rfl⟩ (fun H locs hP hD hS => ?_)
        refine lv_iload hx hb dX6_triedDenominator_25 (lv_at hl 3 rfl) ?_
        refine lv_i2l (v := x2.toInt64) hx hb dX6_triedDenominator_27 rfl ?_
        refine lv_lmul hx hb dX6_triedDenominator_28 ?_
        have J12 : ∀ (v13 : Int32) (ls : Array Slot), v13 = (if (r10 * x2.toInt64) ≤ (r8 * x1.toInt64) then x1 else x2) → lv_has ls 5 [(0, .long a1), (2, .int a2), (3, .int v13), (4, .int x2)] → W p l e rm_X6_triedDenominator s m args below meth c H locs 0 0 Q (F0 m 36 ls []) := by
          intro v13 ls ev13 hl
          subst ev13
          refine lv_iinc (v := x2 + (1 : Int32)) (lv' := [(4, .int (x2 + (1 : Int32))), (0, .long a1), (2, .int a2), (3, .int (if (r10 * x2.toInt64) ≤ (r8 * x1.toInt64) then x1 else x2))]) hx hb dX6_triedDenominator_36 hl (k := 3) rfl rfl (by decide) rfl (fun ls hl => ?_)
          refine lv_goto (tgt := 5) hx hb dX6_triedDenominator_39 (by decide) ?_
          exact ih (if (r10 * x2.toInt64) ≤ (r8 * x1.toInt64) then x1 else x2) (x2 + (1 : Int32)) _ _ _ h hP hD hS (lv_sub hl [1, 2, 3, 0] rfl)
        refine lx_ge (tgt := 36) hx hb dX6_triedDenominator_29 dX6_triedDenominator_30 (by decide) (fun c14 => ?_) (fun c14 => ?_)
        · exact J12 _ _ (by rw [if_pos c14]) (lv_sub hl [0, 1, 2, 3] rfl)
        · refine lv_iload hx hb dX6_triedDenominator_33 (lv_at hl 3 rfl) ?_
          refine lv_istore_n (lv' := [(3, .int x2), (0, .long a1), (2, .int a2), (4, .int x2)]) hx hb dX6_triedDenominator_35 rfl hl (by decide) rfl (fun ls hl => ?_)
          exact J12 _ _ (by rw [if_neg c14]) (lv_sub hl [1, 2, 0, 3] rfl)
  exact LP6 FU (1 : Int32) (2 : Int32) _ _ _ g4 hP hD hS (lv_sub hl [2, 3, 1, 0] rfl)
abbrev rm_X6_nearestByTrying : Room := { frames := 4, cells := 0, slots := 0, locals := 84 }
theorem hd_X6_nearestByTrying : yX6_nearestByTrying.cls = RX6 ∧ yX6_nearestByTrying.cls ≠ "java/lang/invoke/MethodHandle" ∧ yX6_nearestByTrying.cls ≠ "java/lang/invoke/VarHandle" ∧ (parseMethodDescriptor yX6_nearestByTrying.desc).map (fun d => d.parameters.length) = some 2 := by decide +kernel
set_option maxHeartbeats 0 in
set_option maxRecDepth 100000 in
theorem c_X6_nearestByTrying (l : Launch) (D : va_G) (o : Nat → Nat) (y : Nat → ClassId) (sz : Nat) (pl : Nat → Int64) (te : Nat → Int32) (be : Nat → Int64) (cn : Int32) (ch : Nat → Int32) (le : Int32) (rE : Int32) (rL : Int32) (rP : Int32) (rF : Int32) (rS : Int32) (rD : Int32) (hs : Nat → Int64) (ho : Int32) (hc : Int32) (sl : Nat → Int64) (fi : Nat → Int32) (a1 : Int32) (a2 : Int32) (r : Int32) (h : F_X6_nearestByTrying pl a1 a2 = some (0, r)) : Met l yX6_nearestByTrying wsX6_nearestByTrying rm_X6_nearestByTrying (va_Pc [.ref (o 0), .int a1, .int a2] (px D y sz (XW o y pl te be cn ch le rE rL rP rF rS rD hs ho hc sl fi))) (Qri D y sz (XW o y pl te be cn ch le rE rL rP rF rS rD hs ho hc sl fi) (XW o y pl te be cn ch le rE rL rP rF rS rD hs ho hc sl fi) r) 0 0 (va_A (XW o y pl te be cn ch le rE rL rP rF rS rD hs ho hc sl fi) sz) := by
  refine hd_i (cc := cX6_nearestByTrying) (maxL := 3) rfl rfl (Nat.le_of_ble_eq_true rfl) ?_
  intro p e s m args below meth c A Q H locs ls hx hb hml hts hown _ hA hP hD hK hS hl hE
  have hl : lv_has ls 3 [(0, .ref (o 0)), (1, .int a1), (2, .int a2)] := hl
  have q0 := hts (.fieldLink RX6 9 "SliceShares" "plates" "[J") (by decide +kernel)
  have hinRX6 : ∀ w ∈ wsX60, w ∈ wsX6_nearestByTrying := by decide +kernel
  unfold F_X6_nearestByTrying at h
  refine lv_iload_n hx hb dX6_nearestByTrying_0 rfl (lv_at hl 1 rfl) ?_
  obtain ⟨k1, g2, h⟩ := fB1 h
  by_cases e3 : ¬ k1 = 0
  · replace h := fF e3 h
    exact fX e3 h
  replace e3 := Classical.not_not.mp e3
  subst e3
  replace h := fT rfl h
  refine cT_v (As := [.int a1]) (rest := []) ⟨hx, hb, hml, hown, hts⟩ (c_X6_requirePlate l D y _ a1 g2) (va_cwS 1 hts gX6_nearestByTrying_X6_requirePlate rfl rfl rfl hd_X6_requirePlate ⟨Nat.le_of_ble_eq_true rfl, Nat.le_of_ble_eq_true rfl⟩) hK hP hD hS hA rfl hl.1 rfl (Nat.le_of_ble_eq_true rfl) dX6_nearestByTrying_1 ⟨Nat.le_of_ble_eq_true rfl, Nat.le_of_ble_eq_true rfl⟩ (fun H locs hP hD hS => ?_)
  refine lv_iload_n hx hb dX6_nearestByTrying_4 rfl (lv_at hl 2 rfl) ?_
  obtain ⟨k4, g5, h⟩ := fB1 h
  by_cases e6 : ¬ k4 = 0
  · replace h := fF e6 h
    exact fX e6 h
  replace e6 := Classical.not_not.mp e6
  subst e6
  replace h := fT rfl h
  refine cT_v (As := [.int a2]) (rest := []) ⟨hx, hb, hml, hown, hts⟩ (c_X6_requireLimit l D y _ a2 g5) (va_cwS 1 hts gX6_nearestByTrying_X6_requireLimit rfl rfl rfl hd_X6_requireLimit ⟨Nat.le_of_ble_eq_true rfl, Nat.le_of_ble_eq_true rfl⟩) hK hP hD hS hA rfl hl.1 rfl (Nat.le_of_ble_eq_true rfl) dX6_nearestByTrying_5 ⟨Nat.le_of_ble_eq_true rfl, Nat.le_of_ble_eq_true rfl⟩ (fun H locs hP hD hS => ?_)
  refine lv_aload_n hx hb dX6_nearestByTrying_8 rfl (lv_at hl 0 rfl) ?_
  refine va_get (D := D) (ci := 4) (C := RX6) (T := TX6) (N := 7) hx hb hts hinRX6 hown hK hP 0 rfl rfl 0 (by decide) q0 (fun _ h9 => h9) rfl dX6_nearestByTrying_9 ?_
  refine lv_iload_n hx hb dX6_nearestByTrying_12 rfl (lv_at hl 1 rfl) ?_
  obtain ⟨g7, h⟩ := fG h
  refine va_lald hx hb hK hP 1 1 rfl rfl g7 dX6_nearestByTrying_13 ?_
  refine lv_iload_n hx hb dX6_nearestByTrying_14 rfl (lv_at hl 2 rfl) ?_
  obtain ⟨r8, g9, h⟩ := fB1 h
  refine cT_i (As := [.long (pl a1.toNatClampNeg), .int a2]) (rest := []) ⟨hx, hb, hml, hown, hts⟩ (c_X6_triedDenominator l D y _ (pl a1.toNatClampNeg) a2 r8 g9) (va_cwS 2 hts gX6_nearestByTrying_X6_triedDenominator rfl rfl rfl hd_X6_triedDenominator ⟨Nat.le_of_ble_eq_true rfl, Nat.le_of_ble_eq_true rfl⟩) hK hP hD hS hA rfl hl.1 rfl (Nat.le_of_ble_eq_true rfl) dX6_nearestByTrying_15 ⟨Nat.le_of_ble_eq_true rfl, Nat.le_of_ble_eq_true rfl⟩ (fun H locs hP hD hS => ?_)
  cases h
  exact hE _ _ _ _ dX6_nearestByTrying_18 hP hD hS
abbrev rm_X6_nearestNumerator : Room := { frames := 6, cells := 0, slots := 0, locals := 138 }
theorem hd_X6_nearestNumerator : yX6_nearestNumerator.cls = RX6 ∧ yX6_nearestNumerator.cls ≠ "java/lang/invoke/MethodHandle" ∧ yX6_nearestNumerator.cls ≠ "java/lang/invoke/VarHandle" ∧ (parseMethodDescriptor yX6_nearestNumerator.desc).map (fun d => d.parameters.length) = some 2 := by decide +kernel
set_option maxHeartbeats 0 in
set_option maxRecDepth 100000 in
theorem c_X6_nearestNumerator (l : Launch) (D : va_G) (o : Nat → Nat) (y : Nat → ClassId) (sz : Nat) (pl : Nat → Int64) (te : Nat → Int32) (be : Nat → Int64) (cn : Int32) (ch : Nat → Int32) (le : Int32) (rE : Int32) (rL : Int32) (rP : Int32) (rF : Int32) (rS : Int32) (rD : Int32) (hs : Nat → Int64) (ho : Int32) (hc : Int32) (sl : Nat → Int64) (fi : Nat → Int32) (a1 : Int32) (a2 : Int32) (r : Int32) (te' : Nat → Int32) (be' : Nat → Int64) (cn' : Int32) (h : F_X6_nearestNumerator pl te be cn a1 a2 = some (0, r, te', be', cn')) : Met l yX6_nearestNumerator wsX6_nearestNumerator rm_X6_nearestNumerator (va_Pc [.ref (o 0), .int a1, .int a2] (px D y sz (XW o y pl te be cn ch le rE rL rP rF rS rD hs ho hc sl fi))) (Qri D y sz (XW o y pl te be cn ch le rE rL rP rF rS rD hs ho hc sl fi) (XW o y pl te' be' cn' ch le rE rL rP rF rS rD hs ho hc sl fi) r) 0 0 (va_A (XW o y pl te be cn ch le rE rL rP rF rS rD hs ho hc sl fi) sz) := by
  refine hd_i (cc := cX6_nearestNumerator) (maxL := 3) rfl rfl (Nat.le_of_ble_eq_true rfl) ?_
  intro p e s m args below meth c A Q H locs ls hx hb hml hts hown _ hA hP hD hK hS hl hE
  have hl : lv_has ls 3 [(0, .ref (o 0)), (1, .int a1), (2, .int a2)] := hl
  unfold F_X6_nearestNumerator at h
  refine lv_aload_n hx hb dX6_nearestNumerator_0 rfl (lv_at hl 0 rfl) ?_
  refine lv_iload_n hx hb dX6_nearestNumerator_1 rfl (lv_at hl 1 rfl) ?_
  refine lv_iload_n hx hb dX6_nearestNumerator_2 rfl (lv_at hl 2 rfl) ?_
  obtain ⟨k1, r2, te3, be4, cn5, g6, h⟩ := fB5 h
  by_cases e7 : ¬ k1 = 0
  · replace h := fF e7 h
    exact fX e7 h
  replace e7 := Classical.not_not.mp e7
  subst e7
  replace h := fT rfl h
  refine cV_l (As := [.int a1, .int a2]) (rest := []) (ws1 := (XW o y pl te3 be4 cn5 ch le rE rL rP rF rS rD hs ho hc sl fi)) ⟨hx, hb, hml, hown, hts⟩ (c_X6_nearest l D o y _ pl te be cn ch le rE rL rP rF rS rD hs ho hc sl fi a1 a2 r2 te3 be4 cn5 g6) (cwV 2 hts gX6_nearestNumerator_X6_nearest rfl rfl rfl hd_X6_nearest ⟨Nat.le_of_ble_eq_true rfl, Nat.le_of_ble_eq_true rfl⟩) hK hP hD hS hA [0, 1, 2, 3, 4, 5, 6, 7, 8, 9, 10, 11] [] [0, 1, 2, 3, 4, 5, 6, 7, 8, 9, 10, 11] rfl rfl rfl (by decide) rfl rfl rfl 0 (ci := 4) rfl rfl rfl hl.1 rfl (Nat.le_of_ble_eq_true rfl) dX6_nearestNumerator_3 ⟨Nat.le_of_ble_eq_true rfl, Nat.le_of_ble_eq_true rfl⟩ (fun H locs hP hD hS => ?_)
  refine cT_l (As := [.long r2]) (rest := []) ⟨hx, hb, hml, hown, hts⟩ (c_X3_numerator l D y _ r2) (va_cwS 1 hts gX6_nearestNumerator_X3_numerator rfl rfl rfl hd_X3_numerator ⟨Nat.le_of_ble_eq_true rfl, Nat.le_of_ble_eq_true rfl⟩) hK hP hD hS hA rfl hl.1 rfl (Nat.le_of_ble_eq_true rfl) dX6_nearestNumerator_6 ⟨Nat.le_of_ble_eq_true rfl, Nat.le_of_ble_eq_true rfl⟩ (fun H locs hP hD hS => ?_)
  refine lv_l2i (v := (F_X3_numerator r2).toInt32) hx hb dX6_nearestNumerator_9 rfl ?_
  cases h
  exact hE _ _ _ _ dX6_nearestNumerator_10 hP hD hS
abbrev rm_X6_requireLessThanOne : Room := { frames := 3, cells := 0, slots := 0, locals := 63 }
theorem hd_X6_requireLessThanOne : yX6_requireLessThanOne.cls = RX6 ∧ yX6_requireLessThanOne.cls ≠ "java/lang/invoke/MethodHandle" ∧ yX6_requireLessThanOne.cls ≠ "java/lang/invoke/VarHandle" ∧ (parseMethodDescriptor yX6_requireLessThanOne.desc).map (fun d => d.parameters.length) = some 1 := by decide +kernel
set_option maxHeartbeats 0 in
set_option maxRecDepth 100000 in
theorem c_X6_requireLessThanOne (l : Launch) (D : va_G) (o : Nat → Nat) (y : Nat → ClassId) (sz : Nat) (pl : Nat → Int64) (te : Nat → Int32) (be : Nat → Int64) (cn : Int32) (ch : Nat → Int32) (le : Int32) (rE : Int32) (rL : Int32) (rP : Int32) (rF : Int32) (rS : Int32) (rD : Int32) (hs : Nat → Int64) (ho : Int32) (hc : Int32) (sl : Nat → Int64) (fi : Nat → Int32) (a1 : Int32) (h : F_X6_requireLessThanOne pl a1 = some 0) : Met l yX6_requireLessThanOne wsX6_requireLessThanOne rm_X6_requireLessThanOne (va_Pc [.ref (o 0), .int a1] (px D y sz (XW o y pl te be cn ch le rE rL rP rF rS rD hs ho hc sl fi))) (Qrv D y sz (XW o y pl te be cn ch le rE rL rP rF rS rD hs ho hc sl fi) (XW o y pl te be cn ch le rE rL rP rF rS rD hs ho hc sl fi)) 0 0 (va_A (XW o y pl te be cn ch le rE rL rP rF rS rD hs ho hc sl fi) sz) := by
  refine hd_v (cc := cX6_requireLessThanOne) (maxL := 2) rfl rfl (Nat.le_of_ble_eq_true rfl) ?_
  intro p e s m args below meth c A Q H locs ls hx hb hml hts hown _ hA hP hD hK hS hl hE
  have hl : lv_has ls 2 [(0, .ref (o 0)), (1, .int a1)] := hl
  have q0 := hts (.fieldLink RX6 9 "SliceShares" "plates" "[J") (by decide +kernel)
  have q1 := hts (.constantLong RX6 166 (1048577)) (by decide +kernel)
  have hinRX6 : ∀ w ∈ wsX60, w ∈ wsX6_requireLessThanOne := by decide +kernel
  unfold F_X6_requireLessThanOne at h
  refine lv_aload_n hx hb dX6_requireLessThanOne_0 rfl (lv_at hl 0 rfl) ?_
  refine va_get (D := D) (ci := 4) (C := RX6) (T := TX6) (N := 7) hx hb hts hinRX6 hown hK hP 0 rfl rfl 0 (by decide) q0 (fun _ h9 => h9) rfl dX6_requireLessThanOne_1 ?_
  refine lv_iload_n hx hb dX6_requireLessThanOne_4 rfl (lv_at hl 1 rfl) ?_
  obtain ⟨g1, h⟩ := fG h
  refine va_lald hx hb hK hP 1 1 rfl rfl g1 dX6_requireLessThanOne_5 ?_
  refine lv_ldc2 (v := (1048577 : Int64)) hx hb hown q1 dX6_requireLessThanOne_6 ?_
  refine cT_i (As := [.long (pl a1.toNatClampNeg), .long (1048577 : Int64)]) (rest := []) ⟨hx, hb, hml, hown, hts⟩ (c_X3_order l D y _ (pl a1.toNatClampNeg) (1048577 : Int64)) (va_cwS 2 hts gX6_requireLessThanOne_X3_order rfl rfl rfl hd_X3_order ⟨Nat.le_of_ble_eq_true rfl, Nat.le_of_ble_eq_true rfl⟩) hK hP hD hS hA rfl hl.1 rfl (Nat.le_of_ble_eq_true rfl) dX6_requireLessThanOne_9 ⟨Nat.le_of_ble_eq_true rfl, Nat.le_of_ble_eq_true rfl⟩ (fun H locs hP hD hS => ?_)
  refine lv_if_lt (tgt := 25) hx hb dX6_requireLessThanOne_12 (by decide) (fun c2 => ?_) (fun c2 => ?_)
  · replace h := fT c2 h
    cases h
    exact hE _ _ _ _ dX6_requireLessThanOne_25 hP hD hS
  · replace h := fF c2 h
    exact fX1 (show ¬ (3 : Nat) = 0 by decide) h
abbrev rm_X6_unitCount : Room := { frames := 4, cells := 0, slots := 0, locals := 88 }
theorem hd_X6_unitCount : yX6_unitCount.cls = RX6 ∧ yX6_unitCount.cls ≠ "java/lang/invoke/MethodHandle" ∧ yX6_unitCount.cls ≠ "java/lang/invoke/VarHandle" ∧ (parseMethodDescriptor yX6_unitCount.desc).map (fun d => d.parameters.length) = some 1 := by decide +kernel
set_option maxHeartbeats 0 in
set_option maxRecDepth 100000 in
theorem c_X6_unitCount (l : Launch) (D : va_G) (o : Nat → Nat) (y : Nat → ClassId) (sz : Nat) (pl : Nat → Int64) (te : Nat → Int32) (be : Nat → Int64) (cn : Int32) (ch : Nat → Int32) (le : Int32) (rE : Int32) (rL : Int32) (rP : Int32) (rF : Int32) (rS : Int32) (rD : Int32) (hs : Nat → Int64) (ho : Int32) (hc : Int32) (sl : Nat → Int64) (fi : Nat → Int32) (a1 : Int32) (r : Int32) (h : F_X6_unitCount pl a1 = some (0, r)) : Met l yX6_unitCount wsX6_unitCount rm_X6_unitCount (va_Pc [.ref (o 0), .int a1] (px D y sz (XW o y pl te be cn ch le rE rL rP rF rS rD hs ho hc sl fi))) (Qri D y sz (XW o y pl te be cn ch le rE rL rP rF rS rD hs ho hc sl fi) (XW o y pl te be cn ch le rE rL rP rF rS rD hs ho hc sl fi) r) 0 0 (va_A (XW o y pl te be cn ch le rE rL rP rF rS rD hs ho hc sl fi) sz) := by
  refine hd_i (cc := cX6_unitCount) (maxL := 2) rfl rfl (Nat.le_of_ble_eq_true rfl) ?_
  intro p e s m args below meth c A Q H locs ls hx hb hml hts hown _ hA hP hD hK hS hl hE
  have hl : lv_has ls 2 [(0, .ref (o 0)), (1, .int a1)] := hl
  have q0 := hts (.fieldLink RX6 9 "SliceShares" "plates" "[J") (by decide +kernel)
  have hinRX6 : ∀ w ∈ wsX60, w ∈ wsX6_unitCount := by decide +kernel
  unfold F_X6_unitCount at h
  refine lv_iload_n hx hb dX6_unitCount_0 rfl (lv_at hl 1 rfl) ?_
  obtain ⟨k1, g2, h⟩ := fB1 h
  by_cases e3 : ¬ k1 = 0
  · replace h := fF e3 h
    exact fX e3 h
  replace e3 := Classical.not_not.mp e3
  subst e3
  replace h := fT rfl h
  refine cT_v (As := [.int a1]) (rest := []) ⟨hx, hb, hml, hown, hts⟩ (c_X6_requirePlate l D y _ a1 g2) (va_cwS 1 hts gX6_unitCount_X6_requirePlate rfl rfl rfl hd_X6_requirePlate ⟨Nat.le_of_ble_eq_true rfl, Nat.le_of_ble_eq_true rfl⟩) hK hP hD hS hA rfl hl.1 rfl (Nat.le_of_ble_eq_true rfl) dX6_unitCount_1 ⟨Nat.le_of_ble_eq_true rfl, Nat.le_of_ble_eq_true rfl⟩ (fun H locs hP hD hS => ?_)
  refine lv_aload_n hx hb dX6_unitCount_4 rfl (lv_at hl 0 rfl) ?_
  refine lv_iload_n hx hb dX6_unitCount_5 rfl (lv_at hl 1 rfl) ?_
  obtain ⟨k4, g5, h⟩ := fB1 h
  by_cases e6 : ¬ k4 = 0
  · replace h := fF e6 h
    exact fX e6 h
  replace e6 := Classical.not_not.mp e6
  subst e6
  replace h := fT rfl h
  refine cV_v (As := [.int a1]) (rest := []) (ws1 := (XW o y pl te be cn ch le rE rL rP rF rS rD hs ho hc sl fi)) ⟨hx, hb, hml, hown, hts⟩ (c_X6_requireLessThanOne l D o y _ pl te be cn ch le rE rL rP rF rS rD hs ho hc sl fi a1 g5) (cwV 1 hts gX6_unitCount_X6_requireLessThanOne rfl rfl rfl hd_X6_requireLessThanOne ⟨Nat.le_of_ble_eq_true rfl, Nat.le_of_ble_eq_true rfl⟩) hK hP hD hS hA [0, 1, 2, 3, 4, 5, 6, 7, 8, 9, 10, 11] [] [0, 1, 2, 3, 4, 5, 6, 7, 8, 9, 10, 11] rfl rfl rfl (by decide) rfl rfl rfl 0 (ci := 4) rfl rfl rfl hl.1 rfl (Nat.le_of_ble_eq_true rfl) dX6_unitCount_6 ⟨Nat.le_of_ble_eq_true rfl, Nat.le_of_ble_eq_true rfl⟩ (fun H locs hP hD hS => ?_)
  refine lv_aload_n hx hb dX6_unitCount_9 rfl (lv_at hl 0 rfl) ?_
  refine va_get (D := D) (ci := 4) (C := RX6) (T := TX6) (N := 7) hx hb hts hinRX6 hown hK hP 0 rfl rfl 0 (by decide) q0 (fun _ h9 => h9) rfl dX6_unitCount_10 ?_
  refine lv_iload_n hx hb dX6_unitCount_13 rfl (lv_at hl 1 rfl) ?_
  obtain ⟨g7, h⟩ := fG h
  refine va_lald hx hb hK hP 1 1 rfl rfl g7 dX6_unitCount_14 ?_
  obtain ⟨r8, g9, h⟩ := fB1 h
  refine cT_i (As := [.long (pl a1.toNatClampNeg)]) (rest := []) ⟨hx, hb, hml, hown, hts⟩ (c_X5_count l D y _ (pl a1.toNatClampNeg) r8 g9) (va_cwS 1 hts gX6_unitCount_X5_count rfl rfl rfl hd_X5_count ⟨Nat.le_of_ble_eq_true rfl, Nat.le_of_ble_eq_true rfl⟩) hK hP hD hS hA rfl hl.1 rfl (Nat.le_of_ble_eq_true rfl) dX6_unitCount_15 ⟨Nat.le_of_ble_eq_true rfl, Nat.le_of_ble_eq_true rfl⟩ (fun H locs hP hD hS => ?_)
  cases h
  exact hE _ _ _ _ dX6_unitCount_18 hP hD hS
abbrev rm_X6_beginsRight : Room := { frames := 3, cells := 0, slots := 0, locals := 63 }
theorem hd_X6_beginsRight : yX6_beginsRight.cls = RX6 ∧ yX6_beginsRight.cls ≠ "java/lang/invoke/MethodHandle" ∧ yX6_beginsRight.cls ≠ "java/lang/invoke/VarHandle" ∧ (parseMethodDescriptor yX6_beginsRight.desc).map (fun d => d.parameters.length) = some 1 := by decide +kernel
set_option maxHeartbeats 0 in
set_option maxRecDepth 100000 in
theorem c_X6_beginsRight (l : Launch) (D : va_G) (o : Nat → Nat) (y : Nat → ClassId) (sz : Nat) (pl : Nat → Int64) (te : Nat → Int32) (be : Nat → Int64) (cn : Int32) (ch : Nat → Int32) (le : Int32) (rE : Int32) (rL : Int32) (rP : Int32) (rF : Int32) (rS : Int32) (rD : Int32) (hs : Nat → Int64) (ho : Int32) (hc : Int32) (sl : Nat → Int64) (fi : Nat → Int32) (a1 : Int32) (r : Int32) (h : F_X6_beginsRight pl a1 = some (0, r)) : Met l yX6_beginsRight wsX6_beginsRight rm_X6_beginsRight (va_Pc [.ref (o 0), .int a1] (px D y sz (XW o y pl te be cn ch le rE rL rP rF rS rD hs ho hc sl fi))) (Qri D y sz (XW o y pl te be cn ch le rE rL rP rF rS rD hs ho hc sl fi) (XW o y pl te be cn ch le rE rL rP rF rS rD hs ho hc sl fi) r) 0 0 (va_A (XW o y pl te be cn ch le rE rL rP rF rS rD hs ho hc sl fi) sz) := by
  refine hd_z (cc := cX6_beginsRight) (maxL := 2) (rt := .boolean) rfl rfl (Nat.le_of_ble_eq_true rfl) ?_
  intro p e s m args below meth c A Q H locs ls hx hb hml hts hown _ hA hP hD hK hS hl hE
  have hl : lv_has ls 2 [(0, .ref (o 0)), (1, .int a1)] := hl
  have q0 := hts (.fieldLink RX6 9 "SliceShares" "plates" "[J") (by decide +kernel)
  have q1 := hts (.constantLong RX6 166 (1048577)) (by decide +kernel)
  have hinRX6 : ∀ w ∈ wsX60, w ∈ wsX6_beginsRight := by decide +kernel
  unfold F_X6_beginsRight at h
  refine lv_aload_n hx hb dX6_beginsRight_0 rfl (lv_at hl 0 rfl) ?_
  refine lv_iload_n hx hb dX6_beginsRight_1 rfl (lv_at hl 1 rfl) ?_
  obtain ⟨k1, g2, h⟩ := fB1 h
  by_cases e3 : ¬ k1 = 0
  · replace h := fF e3 h
    exact fX e3 h
  replace e3 := Classical.not_not.mp e3
  subst e3
  replace h := fT rfl h
  refine cV_v (As := [.int a1]) (rest := []) (ws1 := (XW o y pl te be cn ch le rE rL rP rF rS rD hs ho hc sl fi)) ⟨hx, hb, hml, hown, hts⟩ (c_X6_requireNotZero l D o y _ pl te be cn ch le rE rL rP rF rS rD hs ho hc sl fi a1 g2) (cwV 1 hts gX6_beginsRight_X6_requireNotZero rfl rfl rfl hd_X6_requireNotZero ⟨Nat.le_of_ble_eq_true rfl, Nat.le_of_ble_eq_true rfl⟩) hK hP hD hS hA [0, 1, 2, 3, 4, 5, 6, 7, 8, 9, 10, 11] [] [0, 1, 2, 3, 4, 5, 6, 7, 8, 9, 10, 11] rfl rfl rfl (by decide) rfl rfl rfl 0 (ci := 4) rfl rfl rfl hl.1 rfl (Nat.le_of_ble_eq_true rfl) dX6_beginsRight_2 ⟨Nat.le_of_ble_eq_true rfl, Nat.le_of_ble_eq_true rfl⟩ (fun H locs hP hD hS => ?_)
  refine lv_aload_n hx hb dX6_beginsRight_5 rfl (lv_at hl 0 rfl) ?_
  refine va_get (D := D) (ci := 4) (C := RX6) (T := TX6) (N := 7) hx hb hts hinRX6 hown hK hP 0 rfl rfl 0 (by decide) q0 (fun _ h9 => h9) rfl dX6_beginsRight_6 ?_
  refine lv_iload_n hx hb dX6_beginsRight_9 rfl (lv_at hl 1 rfl) ?_
  obtain ⟨g4, h⟩ := fG h
  refine va_lald hx hb hK hP 1 1 rfl rfl g4 dX6_beginsRight_10 ?_
  refine lv_ldc2 (v := (1048577 : Int64)) hx hb hown q1 dX6_beginsRight_11 ?_
  refine cT_i (As := [.long (pl a1.toNatClampNeg), .long (1048577 : Int64)]) (rest := []) ⟨hx, hb, hml, hown, hts⟩ (c_X3_order l D y _ (pl a1.toNatClampNeg) (1048577 : Int64)) (va_cwS 2 hts gX6_beginsRight_X3_order rfl rfl rfl hd_X3_order ⟨Nat.le_of_ble_eq_true rfl, Nat.le_of_ble_eq_true rfl⟩) hK hP hD hS hA rfl hl.1 rfl (Nat.le_of_ble_eq_true rfl) dX6_beginsRight_14 ⟨Nat.le_of_ble_eq_true rfl, Nat.le_of_ble_eq_true rfl⟩ (fun H locs hP hD hS => ?_)
  have J5 : ∀ (v6 : Int32) (ls : Array Slot), v6 = (if (F_X3_order (pl a1.toNatClampNeg) (1048577 : Int64)) ≤ (0 : Int32) then (0 : Int32) else (1 : Int32)) → lv_has ls 2 [(0, .ref (o 0)), (1, .int a1)] → W p l e rm_X6_beginsRight s m args below meth c H locs 0 0 Q (F0 m 25 ls [.int v6]) := by
    intro v6 ls ev6 hl
    subst ev6
    cases h
    exact hE _ _ _ _ dX6_beginsRight_25 hP hD hS (nz01 (z01 (Or.inl rfl) (Or.inr rfl)))
  refine lv_if_le (tgt := 24) hx hb dX6_beginsRight_17 (by decide) (fun c7 => ?_) (fun c7 => ?_)
  · refine lv_iconst (v := (0 : Int32)) hx hb dX6_beginsRight_24 (by decide) ?_
    exact J5 _ _ (by rw [if_pos c7]) (lv_sub hl [0, 1] rfl)
  · refine lv_iconst (v := (1 : Int32)) hx hb dX6_beginsRight_20 (by decide) ?_
    refine lv_goto (tgt := 25) hx hb dX6_beginsRight_21 (by decide) ?_
    exact J5 _ _ (by rw [if_neg c7]) (lv_sub hl [0, 1] rfl)
abbrev rm_X6_textError : Room := { frames := 4, cells := 0, slots := 0, locals := 85 }
theorem hd_X6_textError : yX6_textError.cls = RX6 ∧ yX6_textError.cls ≠ "java/lang/invoke/MethodHandle" ∧ yX6_textError.cls ≠ "java/lang/invoke/VarHandle" ∧ (parseMethodDescriptor yX6_textError.desc).map (fun d => d.parameters.length) = some 0 := by decide +kernel
set_option maxHeartbeats 0 in
set_option maxRecDepth 100000 in
theorem c_X6_textError (l : Launch) (D : va_G) (o : Nat → Nat) (y : Nat → ClassId) (sz : Nat) (pl : Nat → Int64) (te : Nat → Int32) (be : Nat → Int64) (cn : Int32) (ch : Nat → Int32) (le : Int32) (rE : Int32) (rL : Int32) (rP : Int32) (rF : Int32) (rS : Int32) (rD : Int32) (hs : Nat → Int64) (ho : Int32) (hc : Int32) (sl : Nat → Int64) (fi : Nat → Int32) (r : Int32) (rE' : Int32) (rL' : Int32) (rP' : Int32) (rF' : Int32) (rS' : Int32) (rD' : Int32) (h : F_X6_textError ch le rE rL rP rF rS rD = some (r, rE', rL', rP', rF', rS', rD')) : Met l yX6_textError wsX6_textError rm_X6_textError (va_Pc [.ref (o 0)] (px D y sz (XW o y pl te be cn ch le rE rL rP rF rS rD hs ho hc sl fi))) (Qri D y sz (XW o y pl te be cn ch le rE rL rP rF rS rD hs ho hc sl fi) (XW o y pl te be cn ch le rE' rL' rP' rF' rS' rD' hs ho hc sl fi) r) 0 0 (va_A (XW o y pl te be cn ch le rE rL rP rF rS rD hs ho hc sl fi) sz) := by
  refine hd_i (cc := cX6_textError) (maxL := 2) rfl rfl (Nat.le_of_ble_eq_true rfl) ?_
  intro p e s m args below meth c A Q H locs ls hx hb hml hts hown _ hA hP hD hK hS hl hE
  have hl : lv_has ls 2 [(0, .ref (o 0))] := hl
  have q0 := hts (.fieldLink RX6 32 "SliceShares" "reader" "LSliceShares$CommandReader;") (by decide +kernel)
  have q1 := hts (.fieldLink RX6 25 "SliceShares" "text" "LSliceShares$CommandText;") (by decide +kernel)
  have hinRX6 : ∀ w ∈ wsX60, w ∈ wsX6_textError := by decide +kernel
  unfold F_X6_textError at h
  refine lv_aload_n hx hb dX6_textError_0 rfl (lv_at hl 0 rfl) ?_
  refine va_get (D := D) (ci := 4) (C := RX6) (T := TX6) (N := 7) hx hb hts hinRX6 hown hK hP 0 rfl rfl 3 (by decide) q0 (fun _ h9 => h9) rfl dX6_textError_1 ?_
  obtain ⟨rE1, g2, h⟩ := fB1 h
  refine cV_v (As := []) (rest := []) (ws1 := (XW o y pl te be cn ch le rE1 rL rP rF rS rD hs ho hc sl fi)) ⟨hx, hb, hml, hown, hts⟩ (c_X0_begin l D o y _ rE rL rP rF rS rD rE1 g2) (cwV 0 hts gX6_textError_X0_begin rfl rfl rfl hd_X0_begin ⟨Nat.le_of_ble_eq_true rfl, Nat.le_of_ble_eq_true rfl⟩) hK hP hD hS hA [7] [0, 1, 2, 3, 4, 5, 6, 8, 9, 10, 11] [0, 1, 2, 3, 4, 5, 6, 11, 7, 8, 9, 10] rfl rfl rfl (by decide) rfl rfl rfl 0 (ci := 0) rfl rfl rfl hl.1 rfl (Nat.le_of_ble_eq_true rfl) dX6_textError_4 ⟨Nat.le_of_ble_eq_true rfl, Nat.le_of_ble_eq_true rfl⟩ (fun H locs hP hD hS => ?_)
  refine lv_iconst (v := (0 : Int32)) hx hb dX6_textError_7 (by decide) ?_
  refine lv_istore_n (lv' := [(1, .int (0 : Int32)), (0, .ref (o 0))]) hx hb dX6_textError_8 rfl hl (by decide) rfl (fun ls hl => ?_)
  obtain ⟨t10, v11, rE12, rL13, rP14, rF15, rS16, rD17, g18, h⟩ := fB8 h
  have J19 : t10 = 0 → ∀ (H : Heap) (locs : List Loc) (ls : Array Slot), va_P D vwCl (XW o y pl te be cn ch le rE12 rL13 rP14 rF15 rS16 rD17 hs ho hc sl fi) H → va_D A (XW o y pl te be cn ch le rE12 rL13 rP14 rF15 rS16 rD17 hs ho hc sl fi) → va_S A s.heap H locs → lv_has ls 2 [(1, .int v11)] → W p l e rm_X6_textError s m args below meth c H locs 0 0 Q (F0 m 38 ls []) := by
    intro ht H locs ls hP hD hS hl
    replace h := fT ht h
    refine lv_iload_n hx hb dX6_textError_38 rfl (lv_at hl 0 rfl) ?_
    cases h
    exact hE _ _ _ _ dX6_textError_39 hP hD hS
  have J20 : t10 = 1 → ∀ (H : Heap) (locs : List Loc) (ls : Array Slot), va_P D vwCl (XW o y pl te be cn ch le rE12 rL13 rP14 rF15 rS16 rD17 hs ho hc sl fi) H → va_D A (XW o y pl te be cn ch le rE12 rL13 rP14 rF15 rS16 rD17 hs ho hc sl fi) → va_S A s.heap H locs → lv_has ls 2 [(0, .ref (o 0))] → W p l e rm_X6_textError s m args below meth c H locs 0 0 Q (F0 m 46 ls []) := by
    intro ht H locs ls hP hD hS hl
    replace h := fF (show ¬ t10 = 0 by omega) h
    refine lv_aload_n hx hb dX6_textError_46 rfl (lv_at hl 0 rfl) ?_
    refine va_get (D := D) (ci := 4) (C := RX6) (T := TX6) (N := 7) hx hb hts hinRX6 hown hK hP 0 rfl rfl 3 (by decide) q0 (fun _ h9 => h9) rfl dX6_textError_47 ?_
    refine cV_i (As := []) (rest := []) (ws1 := (XW o y pl te be cn ch le rE12 rL13 rP14 rF15 rS16 rD17 hs ho hc sl fi)) ⟨hx, hb, hml, hown, hts⟩ (c_X0_isComplete l D o y _ rE12 rL13 rP14 rF15 rS16 rD17 ) (cwV 0 hts gX6_textError_X0_isComplete rfl rfl rfl hd_X0_isComplete ⟨Nat.le_of_ble_eq_true rfl, Nat.le_of_ble_eq_true rfl⟩) hK hP hD hS hA [7] [0, 1, 2, 3, 4, 5, 6, 8, 9, 10, 11] [0, 1, 2, 3, 4, 5, 6, 11, 7, 8, 9, 10] rfl rfl rfl (by decide) rfl rfl rfl 0 (ci := 0) rfl rfl rfl hl.1 rfl (Nat.le_of_ble_eq_true rfl) dX6_textError_50 ⟨Nat.le_of_ble_eq_true rfl, Nat.le_of_ble_eq_true rfl⟩ (fun H locs hP hD hS => ?_)
    have J21 : ∀ (v22 : Int32) (H : Heap) (locs : List Loc) (ls : Array Slot), v22 = (if (F_X0_isComplete rE12 rD17) = (0 : Int32) then (F_X1_length le) else (-1 : Int32)) → va_P D vwCl (XW o y pl te be cn ch le rE12 rL13 rP14 rF15 rS16 rD17 hs ho hc sl fi) H → va_S A s.heap H locs → lv_has ls 2 [(0, .ref (o 0))] → W p l e rm_X6_textError s m args below meth c H locs 0 0 Q (F0 m 67 ls [.int v22]) := by
      intro v22 H locs ls ev22 hP hS hl
      subst ev22
      cases h
      exact hE _ _ _ _ dX6_textError_67 hP hD hS
    refine lv_if_eq (tgt := 60) hx hb dX6_textError_53 (by decide) (fun c23 => ?_) (fun c23 => ?_)
    · refine lv_aload_n hx hb dX6_textError_60 rfl (lv_at hl 0 rfl) ?_
      refine va_get (D := D) (ci := 4) (C := RX6) (T := TX6) (N := 7) hx hb hts hinRX6 hown hK hP 0 rfl rfl 2 (by decide) q1 (fun _ h9 => h9) rfl dX6_textError_61 ?_
      refine cV_i (As := []) (rest := []) (ws1 := (XW o y pl te be cn ch le rE12 rL13 rP14 rF15 rS16 rD17 hs ho hc sl fi)) ⟨hx, hb, hml, hown, hts⟩ (c_X1_length l D o y _ ch le ) (cwV 0 hts gX6_textError_X1_length rfl rfl rfl hd_X1_length ⟨Nat.le_of_ble_eq_true rfl, Nat.le_of_ble_eq_true rfl⟩) hK hP hD hS hA [5, 6] [0, 1, 2, 3, 4, 7, 8, 9, 10, 11] [0, 1, 2, 3, 4, 10, 11, 5, 6, 7, 8, 9] rfl rfl rfl (by decide) rfl rfl rfl 0 (ci := 1) rfl rfl rfl hl.1 rfl (Nat.le_of_ble_eq_true rfl) dX6_textError_64 ⟨Nat.le_of_ble_eq_true rfl, Nat.le_of_ble_eq_true rfl⟩ (fun H locs hP hD hS => ?_)
      exact J21 _ _ _ _ (by rw [if_pos c23]) hP hS (lv_sub hl [0] rfl)
    · refine lv_iconst (v := (-1 : Int32)) hx hb dX6_textError_56 (by decide) ?_
      refine lv_goto (tgt := 67) hx hb dX6_textError_57 (by decide) ?_
      exact J21 _ _ _ _ (by rw [if_neg c23]) hP hS (lv_sub hl [0] rfl)
  have LP24 : ∀ (n : Nat) (x3 : Int32) (rE4 : Int32) (rL5 : Int32) (rP6 : Int32) (rF7 : Int32) (rS8 : Int32) (rD9 : Int32) (H : Heap) (locs : List Loc) (ls : Array Slot), L_X6_textError_9 n x3 ch le rE4 rL5 rP6 rF7 rS8 rD9 = some (t10, v11, rE12, rL13, rP14, rF15, rS16, rD17) → va_P D vwCl (XW o y pl te be cn ch le rE4 rL5 rP6 rF7 rS8 rD9 hs ho hc sl fi) H → va_D A (XW o y pl te be cn ch le rE4 rL5 rP6 rF7 rS8 rD9 hs ho hc sl fi) → va_S A s.heap H locs → lv_has ls 2 [(0, .ref (o 0)), (1, .int x3)] → W p l e rm_X6_textError s m args below meth c H locs 0 0 Q (F0 m 9 ls []) := by
    intro n
    induction n with
    | zero => intro x3 rE4 rL5 rP6 rF7 rS8 rD9 H locs ls h hP hD hS hl; exact fN h
    | succ n ih =>
      intro x3 rE4 rL5 rP6 rF7 rS8 rD9 H locs ls h hP hD hS hl
      replace h := (L_X6_textError_9_s n x3 ch le rE4 rL5 rP6 rF7 rS8 rD9).symm.trans h
      refine lv_iload_n hx hb dX6_textError_9 rfl (lv_at hl 1 rfl) ?_
      refine lv_aload_n hx hb dX6_textError_10 rfl (lv_at hl 0 rfl) ?_
      refine va_get (D := D) (ci := 4) (C := RX6) (T := TX6) (N := 7) hx hb hts hinRX6 hown hK hP 0 rfl rfl 2 (by decide) q1 (fun _ h9 => h9) rfl dX6_textError_11 ?_
      refine cV_i (As := []) (rest := [.int x3]) (ws1 := (XW o y pl te be cn ch le rE4 rL5 rP6 rF7 rS8 rD9 hs ho hc sl fi)) ⟨hx, hb, hml, hown, hts⟩ (c_X1_length l D o y _ ch le ) (cwV 0 hts gX6_textError_X1_length rfl rfl rfl hd_X1_length ⟨Nat.le_of_ble_eq_true rfl, Nat.le_of_ble_eq_true rfl⟩) hK hP hD hS hA [5, 6] [0, 1, 2, 3, 4, 7, 8, 9, 10, 11] [0, 1, 2, 3, 4, 10, 11, 5, 6, 7, 8, 9] rfl rfl rfl (by decide) rfl rfl rfl 0 (ci := 1) rfl rfl rfl hl.1 rfl (Nat.le_of_ble_eq_true rfl) dX6_textError_14 ⟨Nat.le_of_ble_eq_true rfl, Nat.le_of_ble_eq_true rfl⟩ (fun H locs hP hD hS => ?_)
      refine lv_icmp_ge (tgt := 46) hx hb dX6_textError_17 (by decide) (fun c25 => ?_) (fun c25 => ?_)
      · replace h := fT c25 h
        cases h
        exact J20 rfl _ _ _ hP hD hS (lv_sub hl [0] rfl)
      · replace h := fF c25 h
        refine lv_aload_n hx hb dX6_textError_20 rfl (lv_at hl 0 rfl) ?_
        refine va_get (D := D) (ci := 4) (C := RX6) (T := TX6) (N := 7) hx hb hts hinRX6 hown hK hP 0 rfl rfl 3 (by decide) q0 (fun _ h9 => h9) rfl dX6_textError_21 ?_
        refine lv_aload_n hx hb dX6_textError_24 rfl (lv_at hl 0 rfl) ?_
        refine va_get (D := D) (ci := 4) (C := RX6) (T := TX6) (N := 7) hx hb hts hinRX6 hown hK hP 0 rfl rfl 2 (by decide) q1 (fun _ h9 => h9) rfl dX6_textError_25 ?_
        refine lv_iload_n hx hb dX6_textError_28 rfl (lv_at hl 1 rfl) ?_
        obtain ⟨r26, g27, h⟩ := fB1 h
        refine cV_i (As := [.int x3]) (rest := [.ref (o 7)]) (ws1 := (XW o y pl te be cn ch le rE4 rL5 rP6 rF7 rS8 rD9 hs ho hc sl fi)) ⟨hx, hb, hml, hown, hts⟩ (c_X1_character l D o y _ ch le x3 r26 g27) (cwV 1 hts gX6_textError_X1_character rfl rfl rfl hd_X1_character ⟨Nat.le_of_ble_eq_true rfl, Nat.le_of_ble_eq_true rfl⟩) hK hP hD hS hA [5, 6] [0, 1, 2, 3, 4, 7, 8, 9, 10, 11] [0, 1, 2, 3, 4, 10, 11, 5, 6, 7, 8, 9] rfl rfl rfl (by decide) rfl rfl rfl 0 (ci := 1) rfl rfl rfl hl.1 rfl (Nat.le_of_ble_eq_true rfl) dX6_textError_29 ⟨Nat.le_of_ble_eq_true rfl, Nat.le_of_ble_eq_true rfl⟩ (fun H locs hP hD hS => ?_)
        obtain ⟨r28, rE29, rL30, rP31, rF32, rS33, rD34, g35, h⟩ := fB7 h
        refine cV_i (As := [.int r26]) (rest := []) (ws1 := (XW o y pl te be cn ch le rE29 rL30 rP31 rF32 rS33 rD34 hs ho hc sl fi)) ⟨hx, hb, hml, hown, hts⟩ (c_X0_accept l D o y _ rE4 rL5 rP6 rF7 rS8 rD9 r26 r28 rE29 rL30 rP31 rF32 rS33 rD34 g35) (cwV 1 hts gX6_textError_X0_accept rfl rfl rfl hd_X0_accept ⟨Nat.le_of_ble_eq_true rfl, Nat.le_of_ble_eq_true rfl⟩) hK hP hD hS hA [7] [0, 1, 2, 3, 4, 5, 6, 8, 9, 10, 11] [0, 1, 2, 3, 4, 5, 6, 11, 7, 8, 9, 10] rfl rfl rfl (by decide) rfl rfl rfl 0 (ci := 0) rfl rfl rfl hl.1 rfl (Nat.le_of_ble_eq_true rfl) dX6_textError_32 ⟨Nat.le_of_ble_eq_true rfl, Nat.le_of_ble_eq_true rfl⟩ (fun H locs hP hD hS => ?_)
        refine lv_if_ne (tgt := 40) hx hb dX6_textError_35 (by decide) (fun c36 => ?_) (fun c36 => ?_)
        · replace h := fF c36 h
          refine lv_iinc (v := x3 + (1 : Int32)) (lv' := [(1, .int (x3 + (1 : Int32))), (0, .ref (o 0))]) hx hb dX6_textError_40 hl (k := 1) rfl rfl (by decide) rfl (fun ls hl => ?_)
          refine lv_goto (tgt := 9) hx hb dX6_textError_43 (by decide) ?_
          exact ih (x3 + (1 : Int32)) rE29 rL30 rP31 rF32 rS33 rD34 _ _ _ h hP hD hS (lv_sub hl [1, 0] rfl)
        · replace h := fT c36 h
          cases h
          exact J19 rfl _ _ _ hP hD hS (lv_sub hl [1] rfl)
  exact LP24 FU (0 : Int32) rE1 rL rP rF rS rD _ _ _ g18 hP hD hS (lv_sub hl [1, 0] rfl)
abbrev rm_X6_undo : Room := { frames := 2, cells := 0, slots := 0, locals := 42 }
theorem hd_X6_undo : yX6_undo.cls = RX6 ∧ yX6_undo.cls ≠ "java/lang/invoke/MethodHandle" ∧ yX6_undo.cls ≠ "java/lang/invoke/VarHandle" ∧ (parseMethodDescriptor yX6_undo.desc).map (fun d => d.parameters.length) = some 0 := by decide +kernel
set_option maxHeartbeats 0 in
set_option maxRecDepth 100000 in
theorem c_X6_undo (l : Launch) (D : va_G) (o : Nat → Nat) (y : Nat → ClassId) (sz : Nat) (pl : Nat → Int64) (te : Nat → Int32) (be : Nat → Int64) (cn : Int32) (ch : Nat → Int32) (le : Int32) (rE : Int32) (rL : Int32) (rP : Int32) (rF : Int32) (rS : Int32) (rD : Int32) (hs : Nat → Int64) (ho : Int32) (hc : Int32) (sl : Nat → Int64) (fi : Nat → Int32) (r : Int32) (pl' : Nat → Int64) (hc' : Int32) (h : F_X6_undo pl hs ho hc = some (0, r, pl', hc')) : Met l yX6_undo wsX6_undo rm_X6_undo (va_Pc [.ref (o 0)] (px D y sz (XW o y pl te be cn ch le rE rL rP rF rS rD hs ho hc sl fi))) (Qri D y sz (XW o y pl te be cn ch le rE rL rP rF rS rD hs ho hc sl fi) (XW o y pl' te be cn ch le rE rL rP rF rS rD hs ho hc' sl fi) r) 0 0 (va_A (XW o y pl te be cn ch le rE rL rP rF rS rD hs ho hc sl fi) sz) := by
  refine hd_i (cc := cX6_undo) (maxL := 1) rfl rfl (Nat.le_of_ble_eq_true rfl) ?_
  intro p e s m args below meth c A Q H locs ls hx hb hml hts hown _ hA hP hD hK hS hl hE
  have hl : lv_has ls 1 [(0, .ref (o 0))] := hl
  have q0 := hts (.fieldLink RX6 39 "SliceShares" "history" "LSliceShares$History;") (by decide +kernel)
  have q1 := hts (.fieldLink RX6 9 "SliceShares" "plates" "[J") (by decide +kernel)
  have hinRX6 : ∀ w ∈ wsX60, w ∈ wsX6_undo := by decide +kernel
  unfold F_X6_undo at h
  refine lv_aload_n hx hb dX6_undo_0 rfl (lv_at hl 0 rfl) ?_
  refine va_get (D := D) (ci := 4) (C := RX6) (T := TX6) (N := 7) hx hb hts hinRX6 hown hK hP 0 rfl rfl 4 (by decide) q0 (fun _ h9 => h9) rfl dX6_undo_1 ?_
  refine cV_i (As := []) (rest := []) (ws1 := (XW o y pl te be cn ch le rE rL rP rF rS rD hs ho hc sl fi)) ⟨hx, hb, hml, hown, hts⟩ (c_X4_count l D o y _ hs ho hc ) (cwV 0 hts gX6_undo_X4_count rfl rfl rfl hd_X4_count ⟨Nat.le_of_ble_eq_true rfl, Nat.le_of_ble_eq_true rfl⟩) hK hP hD hS hA [8, 9] [0, 1, 2, 3, 4, 5, 6, 7, 10, 11] [0, 1, 2, 3, 4, 5, 6, 7, 10, 11, 8, 9] rfl rfl rfl (by decide) rfl rfl rfl 0 (ci := 3) rfl rfl rfl hl.1 rfl (Nat.le_of_ble_eq_true rfl) dX6_undo_4 ⟨Nat.le_of_ble_eq_true rfl, Nat.le_of_ble_eq_true rfl⟩ (fun H locs hP hD hS => ?_)
  refine lv_if_ne (tgt := 20) hx hb dX6_undo_7 (by decide) (fun c1 => ?_) (fun c1 => ?_)
  · replace h := fF c1 h
    refine lv_aload_n hx hb dX6_undo_20 rfl (lv_at hl 0 rfl) ?_
    refine va_get (D := D) (ci := 4) (C := RX6) (T := TX6) (N := 7) hx hb hts hinRX6 hown hK hP 0 rfl rfl 4 (by decide) q0 (fun _ h9 => h9) rfl dX6_undo_21 ?_
    refine lv_aload_n hx hb dX6_undo_24 rfl (lv_at hl 0 rfl) ?_
    refine va_get (D := D) (ci := 4) (C := RX6) (T := TX6) (N := 7) hx hb hts hinRX6 hown hK hP 0 rfl rfl 0 (by decide) q1 (fun _ h9 => h9) rfl dX6_undo_25 ?_
    obtain ⟨pl2, hc3, g4, h⟩ := fB2 h
    refine cV_v (As := [.ref (o 1)]) (rest := []) (ws1 := (XW o y pl2 te be cn ch le rE rL rP rF rS rD hs ho hc3 sl fi)) ⟨hx, hb, hml, hown, hts⟩ (c_X4_restore l D o y _ pl hs ho hc pl2 hc3 g4) (cwV 1 hts gX6_undo_X4_restore rfl rfl rfl hd_X4_restore ⟨Nat.le_of_ble_eq_true rfl, Nat.le_of_ble_eq_true rfl⟩) hK hP hD hS hA [8, 9, 1] [0, 2, 3, 4, 5, 6, 7, 10, 11] [0, 11, 1, 2, 3, 4, 5, 6, 9, 10, 7, 8] rfl rfl rfl (by decide) rfl rfl rfl 0 (ci := 3) rfl rfl rfl hl.1 rfl (Nat.le_of_ble_eq_true rfl) dX6_undo_28 ⟨Nat.le_of_ble_eq_true rfl, Nat.le_of_ble_eq_true rfl⟩ (fun H locs hP hD hS => ?_)
    refine lv_aload_n hx hb dX6_undo_31 rfl (lv_at hl 0 rfl) ?_
    refine va_get (D := D) (ci := 4) (C := RX6) (T := TX6) (N := 7) hx hb hts hinRX6 hown hK hP 0 rfl rfl 4 (by decide) q0 (fun _ h9 => h9) rfl dX6_undo_32 ?_
    refine cV_i (As := []) (rest := []) (ws1 := (XW o y pl2 te be cn ch le rE rL rP rF rS rD hs ho hc3 sl fi)) ⟨hx, hb, hml, hown, hts⟩ (c_X4_count l D o y _ hs ho hc3 ) (cwV 0 hts gX6_undo_X4_count rfl rfl rfl hd_X4_count ⟨Nat.le_of_ble_eq_true rfl, Nat.le_of_ble_eq_true rfl⟩) hK hP hD hS hA [8, 9] [0, 1, 2, 3, 4, 5, 6, 7, 10, 11] [0, 1, 2, 3, 4, 5, 6, 7, 10, 11, 8, 9] rfl rfl rfl (by decide) rfl rfl rfl 0 (ci := 3) rfl rfl rfl hl.1 rfl (Nat.le_of_ble_eq_true rfl) dX6_undo_35 ⟨Nat.le_of_ble_eq_true rfl, Nat.le_of_ble_eq_true rfl⟩ (fun H locs hP hD hS => ?_)
    cases h
    exact hE _ _ _ _ dX6_undo_38 hP hD hS
  · replace h := fT c1 h
    exact fX (show ¬ (3 : Nat) = 0 by decide) h
abbrev rm_X6_undoCount : Room := { frames := 1, cells := 0, slots := 0, locals := 20 }
theorem hd_X6_undoCount : yX6_undoCount.cls = RX6 ∧ yX6_undoCount.cls ≠ "java/lang/invoke/MethodHandle" ∧ yX6_undoCount.cls ≠ "java/lang/invoke/VarHandle" ∧ (parseMethodDescriptor yX6_undoCount.desc).map (fun d => d.parameters.length) = some 0 := by decide +kernel
set_option maxHeartbeats 0 in
set_option maxRecDepth 100000 in
theorem c_X6_undoCount (l : Launch) (D : va_G) (o : Nat → Nat) (y : Nat → ClassId) (sz : Nat) (pl : Nat → Int64) (te : Nat → Int32) (be : Nat → Int64) (cn : Int32) (ch : Nat → Int32) (le : Int32) (rE : Int32) (rL : Int32) (rP : Int32) (rF : Int32) (rS : Int32) (rD : Int32) (hs : Nat → Int64) (ho : Int32) (hc : Int32) (sl : Nat → Int64) (fi : Nat → Int32) : Met l yX6_undoCount wsX6_undoCount rm_X6_undoCount (va_Pc [.ref (o 0)] (px D y sz (XW o y pl te be cn ch le rE rL rP rF rS rD hs ho hc sl fi))) (Qri D y sz (XW o y pl te be cn ch le rE rL rP rF rS rD hs ho hc sl fi) (XW o y pl te be cn ch le rE rL rP rF rS rD hs ho hc sl fi) (F_X6_undoCount hc)) 0 0 (va_A (XW o y pl te be cn ch le rE rL rP rF rS rD hs ho hc sl fi) sz) := by
  refine hd_i (cc := cX6_undoCount) (maxL := 1) rfl rfl (Nat.le_of_ble_eq_true rfl) ?_
  intro p e s m args below meth c A Q H locs ls hx hb hml hts hown _ hA hP hD hK hS hl hE
  have hl : lv_has ls 1 [(0, .ref (o 0))] := hl
  have q0 := hts (.fieldLink RX6 39 "SliceShares" "history" "LSliceShares$History;") (by decide +kernel)
  have hinRX6 : ∀ w ∈ wsX60, w ∈ wsX6_undoCount := by decide +kernel
  refine lv_aload_n hx hb dX6_undoCount_0 rfl (lv_at hl 0 rfl) ?_
  refine va_get (D := D) (ci := 4) (C := RX6) (T := TX6) (N := 7) hx hb hts hinRX6 hown hK hP 0 rfl rfl 4 (by decide) q0 (fun _ h9 => h9) rfl dX6_undoCount_1 ?_
  refine cV_i (As := []) (rest := []) (ws1 := (XW o y pl te be cn ch le rE rL rP rF rS rD hs ho hc sl fi)) ⟨hx, hb, hml, hown, hts⟩ (c_X4_count l D o y _ hs ho hc ) (cwV 0 hts gX6_undoCount_X4_count rfl rfl rfl hd_X4_count ⟨Nat.le_of_ble_eq_true rfl, Nat.le_of_ble_eq_true rfl⟩) hK hP hD hS hA [8, 9] [0, 1, 2, 3, 4, 5, 6, 7, 10, 11] [0, 1, 2, 3, 4, 5, 6, 7, 10, 11, 8, 9] rfl rfl rfl (by decide) rfl rfl rfl 0 (ci := 3) rfl rfl rfl hl.1 rfl (Nat.le_of_ble_eq_true rfl) dX6_undoCount_4 ⟨Nat.le_of_ble_eq_true rfl, Nat.le_of_ble_eq_true rfl⟩ (fun H locs hP hD hS => ?_)
  exact hE _ _ _ _ dX6_undoCount_7 hP hD hS
abbrev rm_L_low : Room := { frames := 0, cells := 0, slots := 0, locals := 0 }
theorem hd_L_low : yL_low.cls ≠ "java/lang/invoke/MethodHandle" ∧ yL_low.cls ≠ "java/lang/invoke/VarHandle" ∧ (parseMethodDescriptor yL_low.desc).map (fun d => d.parameters.length) = some 2 := by decide +kernel
set_option maxHeartbeats 0 in
set_option maxRecDepth 100000 in
theorem c_L_low (l : Launch) (D : va_G) (y : Nat → ClassId) (sz : Nat) (a1 : Int32) (a2 : Int32) (r : Int32) (h : F_L_low a1 a2 = some r) : Met l yL_low wsL_low rm_L_low (va_Pc [.int a1, .int a2] (px D y sz [])) (Qri D y sz [] [] r) 0 0 (va_A [] sz) := by
  refine hd_i (cc := cL_low) (maxL := 2) rfl rfl (Nat.le_of_ble_eq_true rfl) ?_
  intro p e s m args below meth c A Q H locs ls hx hb hml hts hown _ hA hP hD hK hS hl hE
  have hl : lv_has ls 2 [(0, .int a1), (1, .int a2)] := hl
  have q0 := hts (.constant RL 7 (2147483647)) (by decide +kernel)
  unfold F_L_low at h
  refine lv_iload_n hx hb dL_low_0 rfl (lv_at hl 0 rfl) ?_
  refine lv_ldc (v := (2147483647 : Int32)) hx hb hown q0 dL_low_1 ?_
  refine lv_iand hx hb dL_low_3 ?_
  refine lv_iload_n hx hb dL_low_4 rfl (lv_at hl 1 rfl) ?_
  obtain ⟨g1, h⟩ := fG h
  refine lv_irem hx hb dL_low_5 g1 ?_
  cases h
  exact hE _ _ _ _ dL_low_6 hP hD hS
abbrev rm_L_told : Room := { frames := 3, cells := 0, slots := 0, locals := 61 }
theorem hd_L_told : yL_told.cls ≠ "java/lang/invoke/MethodHandle" ∧ yL_told.cls ≠ "java/lang/invoke/VarHandle" ∧ (parseMethodDescriptor yL_told.desc).map (fun d => d.parameters.length) = some 1 := by decide +kernel
set_option maxHeartbeats 0 in
set_option maxRecDepth 100000 in
theorem c_L_told (l : Launch) (D : va_G) (o : Nat → Nat) (y : Nat → ClassId) (sz : Nat) (pl : Nat → Int64) (te : Nat → Int32) (be : Nat → Int64) (cn : Int32) (ch : Nat → Int32) (le : Int32) (rE : Int32) (rL : Int32) (rP : Int32) (rF : Int32) (rS : Int32) (rD : Int32) (hs : Nat → Int64) (ho : Int32) (hc : Int32) (sl : Nat → Int64) (fi : Nat → Int32) (r : Int64) (h : F_L_told pl = some r) : Met l yL_told wsL_told rm_L_told (va_Pc [.ref (o 0)] (px D y sz (XW o y pl te be cn ch le rE rL rP rF rS rD hs ho hc sl fi))) (Qrl D y sz (XW o y pl te be cn ch le rE rL rP rF rS rD hs ho hc sl fi) (XW o y pl te be cn ch le rE rL rP rF rS rD hs ho hc sl fi) r) 0 0 (va_A (XW o y pl te be cn ch le rE rL rP rF rS rD hs ho hc sl fi) sz) := by
  refine hd_l (cc := cL_told) (maxL := 4) rfl rfl (Nat.le_of_ble_eq_true rfl) ?_
  intro p e s m args below meth c A Q H locs ls hx hb hml hts hown _ hA hP hD hK hS hl hE
  have hl : lv_has ls 4 [(0, .ref (o 0))] := hl
  have q0 := hts (.constantLong RL 8 (3)) (by decide +kernel)
  have q1 := hts (.constantLong RL 10 (31)) (by decide +kernel)
  unfold F_L_told at h
  refine lv_ldc2 (v := (3 : Int64)) hx hb hown q0 dL_told_0 ?_
  refine lv_lstore_n (lv' := [(1, .long (3 : Int64)), (0, .ref (o 0))]) hx hb dL_told_3 rfl hl (by decide) rfl (fun ls hl => ?_)
  refine lv_iconst (v := (0 : Int32)) hx hb dL_told_4 (by decide) ?_
  refine lv_istore_n (lv' := [(3, .int (0 : Int32)), (1, .long (3 : Int64)), (0, .ref (o 0))]) hx hb dL_told_5 rfl hl (by decide) rfl (fun ls hl => ?_)
  obtain ⟨v3, g4, h⟩ := fB1 h
  have J5 : ∀ (H : Heap) (locs : List Loc) (ls : Array Slot), va_P D vwCl (XW o y pl te be cn ch le rE rL rP rF rS rD hs ho hc sl fi) H → va_D A (XW o y pl te be cn ch le rE rL rP rF rS rD hs ho hc sl fi) → va_S A s.heap H locs → lv_has ls 4 [(1, .long v3)] → W p l e rm_L_told s m args below meth c H locs 0 0 Q (F0 m 42 ls []) := by
    intro H locs ls hP hD hS hl
    refine lv_lload_n hx hb dL_told_42 rfl (lv_at hl 0 rfl) ?_
    cases h
    exact hE _ _ _ _ dL_told_43 hP hD hS
  have LP6 : ∀ (n : Nat) (x1 : Int64) (x2 : Int32) (H : Heap) (locs : List Loc) (ls : Array Slot), L_L_told_6 n x1 x2 pl = some v3 → va_P D vwCl (XW o y pl te be cn ch le rE rL rP rF rS rD hs ho hc sl fi) H → va_D A (XW o y pl te be cn ch le rE rL rP rF rS rD hs ho hc sl fi) → va_S A s.heap H locs → lv_has ls 4 [(0, .ref (o 0)), (1, .long x1), (3, .int x2)] → W p l e rm_L_told s m args below meth c H locs 0 0 Q (F0 m 6 ls []) := by
    intro n
    induction n with
    | zero => intro x1 x2 H locs ls h hP hD hS hl; exact fN h
    | succ n ih =>
      intro x1 x2 H locs ls h hP hD hS hl
      replace h := (L_L_told_6_s n x1 x2 pl).symm.trans h
      refine lv_iload_n hx hb dL_told_6 rfl (lv_at hl 2 rfl) ?_
      refine lv_bipush (v := (6 : Int32)) hx hb dL_told_7 (by decide) ?_
      refine lv_icmp_ge (tgt := 42) hx hb dL_told_9 (by decide) (fun c7 => ?_) (fun c7 => ?_)
      · replace h := fT c7 h
        cases h
        exact J5 _ _ _ hP hD hS (lv_sub hl [1] rfl)
      · replace h := fF c7 h
        refine lv_ldc2 (v := (31 : Int64)) hx hb hown q1 dL_told_12 ?_
        refine lv_ldc2 (v := (31 : Int64)) hx hb hown q1 dL_told_15 ?_
        refine lv_lload_n hx hb dL_told_18 rfl (lv_at hl 1 rfl) ?_
        refine lv_lmul hx hb dL_told_19 ?_
        refine lv_aload_n hx hb dL_told_20 rfl (lv_at hl 0 rfl) ?_
        refine lv_iload_n hx hb dL_told_21 rfl (lv_at hl 2 rfl) ?_
        obtain ⟨k8, r9, g10, h⟩ := fB2 h
        by_cases e11 : ¬ k8 = 0
        · replace h := fF e11 h
          exact fN h
        replace e11 := Classical.not_not.mp e11
        subst e11
        replace h := fT rfl h
        refine cV_i (As := [.int x2]) (rest := [.long ((31 : Int64) * x1), .long (31 : Int64)]) (ws1 := (XW o y pl te be cn ch le rE rL rP rF rS rD hs ho hc sl fi)) ⟨hx, hb, hml, hown, hts⟩ (c_X6_numeratorOf l D o y _ pl te be cn ch le rE rL rP rF rS rD hs ho hc sl fi x2 r9 g10) (cwV 1 hts gL_told_X6_numeratorOf rfl rfl rfl hd_X6_numeratorOf ⟨Nat.le_of_ble_eq_true rfl, Nat.le_of_ble_eq_true rfl⟩) hK hP hD hS hA [0, 1, 2, 3, 4, 5, 6, 7, 8, 9, 10, 11] [] [0, 1, 2, 3, 4, 5, 6, 7, 8, 9, 10, 11] rfl rfl rfl (by decide) rfl rfl rfl 0 (ci := 4) rfl rfl rfl hl.1 rfl (Nat.le_of_ble_eq_true rfl) dL_told_22 ⟨Nat.le_of_ble_eq_true rfl, Nat.le_of_ble_eq_true rfl⟩ (fun H locs hP hD hS => ?_)
        refine lv_i2l (v := r9.toInt64) hx hb dL_told_25 rfl ?_
        refine lv_ladd hx hb dL_told_26 ?_
        refine lv_lmul hx hb dL_told_27 ?_
        refine lv_aload_n hx hb dL_told_28 rfl (lv_at hl 0 rfl) ?_
        refine lv_iload_n hx hb dL_told_29 rfl (lv_at hl 2 rfl) ?_
        obtain ⟨k12, r13, g14, h⟩ := fB2 h
        by_cases e15 : ¬ k12 = 0
        · replace h := fF e15 h
          exact fN h
        replace e15 := Classical.not_not.mp e15
        subst e15
        replace h := fT rfl h
        refine cV_i (As := [.int x2]) (rest := [.long ((31 : Int64) * (((31 : Int64) * x1) + r9.toInt64))]) (ws1 := (XW o y pl te be cn ch le rE rL rP rF rS rD hs ho hc sl fi)) ⟨hx, hb, hml, hown, hts⟩ (c_X6_denominatorOf l D o y _ pl te be cn ch le rE rL rP rF rS rD hs ho hc sl fi x2 r13 g14) (cwV 1 hts gL_told_X6_denominatorOf rfl rfl rfl hd_X6_denominatorOf ⟨Nat.le_of_ble_eq_true rfl, Nat.le_of_ble_eq_true rfl⟩) hK hP hD hS hA [0, 1, 2, 3, 4, 5, 6, 7, 8, 9, 10, 11] [] [0, 1, 2, 3, 4, 5, 6, 7, 8, 9, 10, 11] rfl rfl rfl (by decide) rfl rfl rfl 0 (ci := 4) rfl rfl rfl hl.1 rfl (Nat.le_of_ble_eq_true rfl) dL_told_30 ⟨Nat.le_of_ble_eq_true rfl, Nat.le_of_ble_eq_true rfl⟩ (fun H locs hP hD hS => ?_)
        refine lv_i2l (v := r13.toInt64) hx hb dL_told_33 rfl ?_
        refine lv_ladd hx hb dL_told_34 ?_
        refine lv_lstore_n (lv' := [(1, .long (((31 : Int64) * (((31 : Int64) * x1) + r9.toInt64)) + r13.toInt64)), (0, .ref (o 0)), (3, .int x2)]) hx hb dL_told_35 rfl hl (by decide) rfl (fun ls hl => ?_)
        refine lv_iinc (v := x2 + (1 : Int32)) (lv' := [(3, .int (x2 + (1 : Int32))), (1, .long (((31 : Int64) * (((31 : Int64) * x1) + r9.toInt64)) + r13.toInt64)), (0, .ref (o 0))]) hx hb dL_told_36 hl (k := 2) rfl rfl (by decide) rfl (fun ls hl => ?_)
        refine lv_goto (tgt := 6) hx hb dL_told_39 (by decide) ?_
        exact ih (((31 : Int64) * (((31 : Int64) * x1) + r9.toInt64)) + r13.toInt64) (x2 + (1 : Int32)) _ _ _ h hP hD hS (lv_sub hl [2, 1, 0] rfl)
  exact LP6 FU (3 : Int64) (0 : Int32) _ _ _ g4 hP hD hS (lv_sub hl [2, 1, 0] rfl)
abbrev rm_L_act : Room := { frames := 7, cells := 0, slots := 0, locals := 160 }
theorem hd_L_act : yL_act.cls ≠ "java/lang/invoke/MethodHandle" ∧ yL_act.cls ≠ "java/lang/invoke/VarHandle" ∧ (parseMethodDescriptor yL_act.desc).map (fun d => d.parameters.length) = some 3 := by decide +kernel
set_option maxHeartbeats 0 in
set_option maxRecDepth 100000 in
theorem c_L_act (l : Launch) (D : va_G) (o : Nat → Nat) (y : Nat → ClassId) (sz : Nat) (pl : Nat → Int64) (te : Nat → Int32) (be : Nat → Int64) (cn : Int32) (ch : Nat → Int32) (le : Int32) (rE : Int32) (rL : Int32) (rP : Int32) (rF : Int32) (rS : Int32) (rD : Int32) (hs : Nat → Int64) (ho : Int32) (hc : Int32) (sl : Nat → Int64) (fi : Nat → Int32) (a1 : Int32) (a2 : Int32) (r : Int32) (pl' : Nat → Int64) (te' : Nat → Int32) (be' : Nat → Int64) (cn' : Int32) (hs' : Nat → Int64) (ho' : Int32) (hc' : Int32) (h : F_L_act pl te be cn hs ho hc a1 a2 = some (r, pl', te', be', cn', hs', ho', hc')) : Met l yL_act wsL_act rm_L_act (va_Pc [.ref (o 0), .int a1, .int a2] (px D y sz (XW o y pl te be cn ch le rE rL rP rF rS rD hs ho hc sl fi))) (Qri D y sz (XW o y pl te be cn ch le rE rL rP rF rS rD hs ho hc sl fi) (XW o y pl' te' be' cn' ch le rE rL rP rF rS rD hs' ho' hc' sl fi) r) 0 0 (va_A (XW o y pl te be cn ch le rE rL rP rF rS rD hs ho hc sl fi) sz) := by
  refine hd_z (cc := cL_act) (maxL := 8) (rt := .boolean) rfl rfl (Nat.le_of_ble_eq_true rfl) ?_
  intro p e s m args below meth c A Q H locs ls hx hb hml hts hown _ hA hP hD hK hS hl hE
  have hl : lv_has ls 8 [(0, .ref (o 0)), (1, .int a1), (2, .int a2)] := hl
  have q0 := hts (.constant RL 28 (1000000)) (by decide +kernel)
  have q1 := hts (.constant RL 27 (1000001)) (by decide +kernel)
  unfold F_L_act at h
  refine lv_iload_n hx hb dL_act_0 rfl (lv_at hl 1 rfl) ?_
  refine lv_iconst (v := (4 : Int32)) hx hb dL_act_1 (by decide) ?_
  refine lv_ishr hx hb dL_act_2 ?_
  refine lv_bipush (v := (6 : Int32)) hx hb dL_act_3 (by decide) ?_
  obtain ⟨r1, g2, h⟩ := fB1 h
  refine cT_i (As := [.int (a1 >>> ((4 : Int32) &&& 31)), .int (6 : Int32)]) (rest := []) ⟨hx, hb, hml, hown, hts⟩ (c_L_low l D y _ (a1 >>> ((4 : Int32) &&& 31)) (6 : Int32) r1 g2) (va_cwS 2 hts gL_act_L_low rfl rfl rfl hd_L_low ⟨Nat.le_of_ble_eq_true rfl, Nat.le_of_ble_eq_true rfl⟩) hK hP hD hS hA rfl hl.1 rfl (Nat.le_of_ble_eq_true rfl) dL_act_5 ⟨Nat.le_of_ble_eq_true rfl, Nat.le_of_ble_eq_true rfl⟩ (fun H locs hP hD hS => ?_)
  refine lv_istore_n (lv' := [(3, .int r1), (0, .ref (o 0)), (1, .int a1), (2, .int a2)]) hx hb dL_act_8 rfl hl (by decide) rfl (fun ls hl => ?_)
  refine lv_iload_n hx hb dL_act_9 rfl (lv_at hl 2 rfl) ?_
  refine lv_bipush (v := (7 : Int32)) hx hb dL_act_10 (by decide) ?_
  refine lv_ishr hx hb dL_act_12 ?_
  refine lv_bipush (v := (6 : Int32)) hx hb dL_act_13 (by decide) ?_
  obtain ⟨r3, g4, h⟩ := fB1 h
  refine cT_i (As := [.int (a1 >>> ((7 : Int32) &&& 31)), .int (6 : Int32)]) (rest := []) ⟨hx, hb, hml, hown, hts⟩ (c_L_low l D y _ (a1 >>> ((7 : Int32) &&& 31)) (6 : Int32) r3 g4) (va_cwS 2 hts gL_act_L_low rfl rfl rfl hd_L_low ⟨Nat.le_of_ble_eq_true rfl, Nat.le_of_ble_eq_true rfl⟩) hK hP hD hS hA rfl hl.1 rfl (Nat.le_of_ble_eq_true rfl) dL_act_15 ⟨Nat.le_of_ble_eq_true rfl, Nat.le_of_ble_eq_true rfl⟩ (fun H locs hP hD hS => ?_)
  refine lv_istore (lv' := [(4, .int r3), (3, .int r1), (0, .ref (o 0)), (1, .int a1), (2, .int a2)]) hx hb dL_act_18 hl (by decide) rfl (fun ls hl => ?_)
  refine lv_aload_n hx hb dL_act_20 rfl (lv_at hl 2 rfl) ?_
  refine lv_iload_n hx hb dL_act_21 rfl (lv_at hl 1 rfl) ?_
  obtain ⟨k5, r6, g7, h⟩ := fB2 h
  by_cases e8 : ¬ k5 = 0
  · replace h := fF e8 h
    exact fN h
  replace e8 := Classical.not_not.mp e8
  subst e8
  replace h := fT rfl h
  refine cV_i (As := [.int r1]) (rest := []) (ws1 := (XW o y pl te be cn ch le rE rL rP rF rS rD hs ho hc sl fi)) ⟨hx, hb, hml, hown, hts⟩ (c_X6_numeratorOf l D o y _ pl te be cn ch le rE rL rP rF rS rD hs ho hc sl fi r1 r6 g7) (cwV 1 hts gL_act_X6_numeratorOf rfl rfl rfl hd_X6_numeratorOf ⟨Nat.le_of_ble_eq_true rfl, Nat.le_of_ble_eq_true rfl⟩) hK hP hD hS hA [0, 1, 2, 3, 4, 5, 6, 7, 8, 9, 10, 11] [] [0, 1, 2, 3, 4, 5, 6, 7, 8, 9, 10, 11] rfl rfl rfl (by decide) rfl rfl rfl 0 (ci := 4) rfl rfl rfl hl.1 rfl (Nat.le_of_ble_eq_true rfl) dL_act_22 ⟨Nat.le_of_ble_eq_true rfl, Nat.le_of_ble_eq_true rfl⟩ (fun H locs hP hD hS => ?_)
  refine lv_istore (lv' := [(5, .int r6), (4, .int r3), (3, .int r1), (0, .ref (o 0)), (1, .int a1), (2, .int a2)]) hx hb dL_act_25 hl (by decide) rfl (fun ls hl => ?_)
  refine lv_aload_n hx hb dL_act_27 rfl (lv_at hl 3 rfl) ?_
  refine lv_iload_n hx hb dL_act_28 rfl (lv_at hl 2 rfl) ?_
  obtain ⟨k9, r10, g11, h⟩ := fB2 h
  by_cases e12 : ¬ k9 = 0
  · replace h := fF e12 h
    exact fN h
  replace e12 := Classical.not_not.mp e12
  subst e12
  replace h := fT rfl h
  refine cV_i (As := [.int r1]) (rest := []) (ws1 := (XW o y pl te be cn ch le rE rL rP rF rS rD hs ho hc sl fi)) ⟨hx, hb, hml, hown, hts⟩ (c_X6_denominatorOf l D o y _ pl te be cn ch le rE rL rP rF rS rD hs ho hc sl fi r1 r10 g11) (cwV 1 hts gL_act_X6_denominatorOf rfl rfl rfl hd_X6_denominatorOf ⟨Nat.le_of_ble_eq_true rfl, Nat.le_of_ble_eq_true rfl⟩) hK hP hD hS hA [0, 1, 2, 3, 4, 5, 6, 7, 8, 9, 10, 11] [] [0, 1, 2, 3, 4, 5, 6, 7, 8, 9, 10, 11] rfl rfl rfl (by decide) rfl rfl rfl 0 (ci := 4) rfl rfl rfl hl.1 rfl (Nat.le_of_ble_eq_true rfl) dL_act_29 ⟨Nat.le_of_ble_eq_true rfl, Nat.le_of_ble_eq_true rfl⟩ (fun H locs hP hD hS => ?_)
  refine lv_istore (lv' := [(6, .int r10), (5, .int r6), (4, .int r3), (3, .int r1), (0, .ref (o 0)), (1, .int a1), (2, .int a2)]) hx hb dL_act_32 hl (by decide) rfl (fun ls hl => ?_)
  refine lv_iload hx hb dL_act_34 (lv_at hl 1 rfl) ?_
  refine lv_sipush (v := (1000 : Int32)) hx hb dL_act_36 (by decide) ?_
  obtain ⟨v13, g14, h⟩ := fB1 h
  have J15 : ∀ (H : Heap) (locs : List Loc) (ls : Array Slot), va_P D vwCl (XW o y pl te be cn ch le rE rL rP rF rS rD hs ho hc sl fi) H → va_D A (XW o y pl te be cn ch le rE rL rP rF rS rD hs ho hc sl fi) → va_S A s.heap H locs → lv_has ls 8 [(0, .ref (o 0)), (1, .int a1), (2, .int a2), (3, .int r1), (4, .int r3), (5, .int r6), (6, .int r10)] → W p l e rm_L_act s m args below meth c H locs 0 0 Q (F0 m 79 ls [.int v13]) := by
    intro H locs ls hP hD hS hl
    refine lv_istore (lv' := [(7, .int v13), (0, .ref (o 0)), (1, .int a1), (2, .int a2), (3, .int r1), (4, .int r3), (5, .int r6), (6, .int r10)]) hx hb dL_act_79 hl (by decide) rfl (fun ls hl => ?_)
    refine lv_iload_n hx hb dL_act_81 rfl (lv_at hl 2 rfl) ?_
    refine lv_bipush (v := (15 : Int32)) hx hb dL_act_82 (by decide) ?_
    refine lv_iand hx hb dL_act_84 ?_
    by_cases c16 : (a1 &&& (15 : Int32)) = (0 : Int32)
    · replace h := fT c16 h
      refine lv_tableIn (off := 71) (tgt := 156) hx hb dL_act_85 (by rw [c16]; decide) (by rw [c16]; decide) (by rw [c16]; rfl) (by decide) ?_
      refine lv_aload_n hx hb dL_act_156 rfl (lv_at hl 1 rfl) ?_
      refine lv_iload_n hx hb dL_act_157 rfl (lv_at hl 4 rfl) ?_
      refine lv_iload_n hx hb dL_act_158 rfl (lv_at hl 3 rfl) ?_
      refine lv_iload_n hx hb dL_act_159 rfl (lv_at hl 3 rfl) ?_
      refine lv_bipush (v := (20 : Int32)) hx hb dL_act_160 (by decide) ?_
      refine lv_ishr hx hb dL_act_162 ?_
      refine lv_iconst (v := (1 : Int32)) hx hb dL_act_163 (by decide) ?_
      refine lv_iand hx hb dL_act_164 ?_
      have J17 : ∀ (v18 : Int32) (ls : Array Slot), v18 = (if ((a2 >>> ((20 : Int32) &&& 31)) &&& (1 : Int32)) = (0 : Int32) then (40 : Int32) else (1000001 : Int32)) → lv_has ls 8 [(0, .ref (o 0)), (1, .int a1), (2, .int a2), (3, .int r1), (4, .int r3), (5, .int r6), (6, .int r10), (7, .int v13)] → W p l e rm_L_act s m args below meth c H locs 0 0 Q (F0 m 175 ls [.int v18, .int a2, .int r1, .ref (o 0)]) := by
        intro v18 ls ev18 hl
        subst ev18
        obtain ⟨r19, g20, h⟩ := fB1 h
        refine cT_i (As := [.int a2, .int (if ((a2 >>> ((20 : Int32) &&& 31)) &&& (1 : Int32)) = (0 : Int32) then (40 : Int32) else (1000001 : Int32))]) (rest := [.int r1, .ref (o 0)]) ⟨hx, hb, hml, hown, hts⟩ (c_L_low l D y _ a2 (if ((a2 >>> ((20 : Int32) &&& 31)) &&& (1 : Int32)) = (0 : Int32) then (40 : Int32) else (1000001 : Int32)) r19 g20) (va_cwS 2 hts gL_act_L_low rfl rfl rfl hd_L_low ⟨Nat.le_of_ble_eq_true rfl, Nat.le_of_ble_eq_true rfl⟩) hK hP hD hS hA rfl hl.1 rfl (Nat.le_of_ble_eq_true rfl) dL_act_175 ⟨Nat.le_of_ble_eq_true rfl, Nat.le_of_ble_eq_true rfl⟩ (fun H locs hP hD hS => ?_)
        refine lv_iconst (v := (1 : Int32)) hx hb dL_act_178 (by decide) ?_
        refine lv_iload_n hx hb dL_act_179 rfl (lv_at hl 2 rfl) ?_
        refine lv_bipush (v := (6 : Int32)) hx hb dL_act_180 (by decide) ?_
        refine lv_ishr hx hb dL_act_182 ?_
        refine lv_iload_n hx hb dL_act_183 rfl (lv_at hl 2 rfl) ?_
        refine lv_bipush (v := (19 : Int32)) hx hb dL_act_184 (by decide) ?_
        refine lv_ishr hx hb dL_act_186 ?_
        refine lv_iconst (v := (1 : Int32)) hx hb dL_act_187 (by decide) ?_
        refine lv_iand hx hb dL_act_188 ?_
        have J21 : ∀ (v22 : Int32) (ls : Array Slot), v22 = (if ((a2 >>> ((19 : Int32) &&& 31)) &&& (1 : Int32)) = (0 : Int32) then (60 : Int32) else (1000000 : Int32)) → lv_has ls 8 [(0, .ref (o 0)), (1, .int a1), (2, .int a2), (3, .int r1), (4, .int r3), (5, .int r6), (6, .int r10), (7, .int v13)] → W p l e rm_L_act s m args below meth c H locs 0 0 Q (F0 m 199 ls [.int v22, .int (a2 >>> ((6 : Int32) &&& 31)), .int (1 : Int32), .int r19, .int r1, .ref (o 0)]) := by
          intro v22 ls ev22 hl
          subst ev22
          obtain ⟨r23, g24, h⟩ := fB1 h
          refine cT_i (As := [.int (a2 >>> ((6 : Int32) &&& 31)), .int (if ((a2 >>> ((19 : Int32) &&& 31)) &&& (1 : Int32)) = (0 : Int32) then (60 : Int32) else (1000000 : Int32))]) (rest := [.int (1 : Int32), .int r19, .int r1, .ref (o 0)]) ⟨hx, hb, hml, hown, hts⟩ (c_L_low l D y _ (a2 >>> ((6 : Int32) &&& 31)) (if ((a2 >>> ((19 : Int32) &&& 31)) &&& (1 : Int32)) = (0 : Int32) then (60 : Int32) else (1000000 : Int32)) r23 g24) (va_cwS 2 hts gL_act_L_low rfl rfl rfl hd_L_low ⟨Nat.le_of_ble_eq_true rfl, Nat.le_of_ble_eq_true rfl⟩) hK hP hD hS hA rfl hl.1 rfl (Nat.le_of_ble_eq_true rfl) dL_act_199 ⟨Nat.le_of_ble_eq_true rfl, Nat.le_of_ble_eq_true rfl⟩ (fun H locs hP hD hS => ?_)
          refine lv_iadd hx hb dL_act_202 ?_
          obtain ⟨k25, r26, pl27, hs28, ho29, hc30, g31, h⟩ := fB6 h
          by_cases e32 : ¬ k25 = 0
          · replace h := fF e32 h
            exact fN h
          replace e32 := Classical.not_not.mp e32
          subst e32
          replace h := fT rfl h
          refine cV_i (As := [.int r1, .int r19, .int ((1 : Int32) + r23)]) (rest := []) (ws1 := (XW o y pl27 te be cn ch le rE rL rP rF rS rD hs28 ho29 hc30 sl fi)) ⟨hx, hb, hml, hown, hts⟩ (c_X6_set l D o y _ pl te be cn ch le rE rL rP rF rS rD hs ho hc sl fi r1 r19 ((1 : Int32) + r23) r26 pl27 hs28 ho29 hc30 g31) (cwV 3 hts gL_act_X6_set rfl rfl rfl hd_X6_set ⟨Nat.le_of_ble_eq_true rfl, Nat.le_of_ble_eq_true rfl⟩) hK hP hD hS hA [0, 1, 2, 3, 4, 5, 6, 7, 8, 9, 10, 11] [] [0, 1, 2, 3, 4, 5, 6, 7, 8, 9, 10, 11] rfl rfl rfl (by decide) rfl rfl rfl 0 (ci := 4) rfl rfl rfl hl.1 rfl (Nat.le_of_ble_eq_true rfl) dL_act_203 ⟨Nat.le_of_ble_eq_true rfl, Nat.le_of_ble_eq_true rfl⟩ (fun H locs hP hD hS => ?_)
          refine lv_pop hx hb dL_act_206 rfl ?_
          refine lv_iconst (v := (1 : Int32)) hx hb dL_act_207 (by decide) ?_
          cases h
          exact hE _ _ _ _ dL_act_208 hP hD hS (nz01 (Or.inr rfl))
        refine lv_if_ne (tgt := 197) hx hb dL_act_189 (by decide) (fun c33 => ?_) (fun c33 => ?_)
        · refine lv_ldc (v := (1000000 : Int32)) hx hb hown q0 dL_act_197 ?_
          exact J21 _ _ (by rw [if_neg c33]) (lv_sub hl [0, 1, 2, 3, 4, 5, 6, 7] rfl)
        · refine lv_bipush (v := (60 : Int32)) hx hb dL_act_192 (by decide) ?_
          refine lv_goto (tgt := 199) hx hb dL_act_194 (by decide) ?_
          exact J21 _ _ (by rw [if_pos c33]) (lv_sub hl [0, 1, 2, 3, 4, 5, 6, 7] rfl)
      refine lv_if_ne (tgt := 173) hx hb dL_act_165 (by decide) (fun c34 => ?_) (fun c34 => ?_)
      · refine lv_ldc (v := (1000001 : Int32)) hx hb hown q1 dL_act_173 ?_
        exact J17 _ _ (by rw [if_neg c34]) (lv_sub hl [1, 2, 3, 4, 5, 6, 7, 0] rfl)
      · refine lv_bipush (v := (40 : Int32)) hx hb dL_act_168 (by decide) ?_
        refine lv_goto (tgt := 175) hx hb dL_act_170 (by decide) ?_
        exact J17 _ _ (by rw [if_pos c34]) (lv_sub hl [1, 2, 3, 4, 5, 6, 7, 0] rfl)
    replace h := fF c16 h
    by_cases c35 : (a1 &&& (15 : Int32)) = (1 : Int32)
    · replace h := fT c35 h
      refine lv_tableIn (off := 71) (tgt := 156) hx hb dL_act_85 (by rw [c35]; decide) (by rw [c35]; decide) (by rw [c35]; rfl) (by decide) ?_
      refine lv_aload_n hx hb dL_act_156 rfl (lv_at hl 1 rfl) ?_
      refine lv_iload_n hx hb dL_act_157 rfl (lv_at hl 4 rfl) ?_
      refine lv_iload_n hx hb dL_act_158 rfl (lv_at hl 3 rfl) ?_
      refine lv_iload_n hx hb dL_act_159 rfl (lv_at hl 3 rfl) ?_
      refine lv_bipush (v := (20 : Int32)) hx hb dL_act_160 (by decide) ?_
      refine lv_ishr hx hb dL_act_162 ?_
      refine lv_iconst (v := (1 : Int32)) hx hb dL_act_163 (by decide) ?_
      refine lv_iand hx hb dL_act_164 ?_
      have J36 : ∀ (v37 : Int32) (ls : Array Slot), v37 = (if ((a2 >>> ((20 : Int32) &&& 31)) &&& (1 : Int32)) = (0 : Int32) then (40 : Int32) else (1000001 : Int32)) → lv_has ls 8 [(0, .ref (o 0)), (1, .int a1), (2, .int a2), (3, .int r1), (4, .int r3), (5, .int r6), (6, .int r10), (7, .int v13)] → W p l e rm_L_act s m args below meth c H locs 0 0 Q (F0 m 175 ls [.int v37, .int a2, .int r1, .ref (o 0)]) := by
        intro v37 ls ev37 hl
        subst ev37
        obtain ⟨r38, g39, h⟩ := fB1 h
        refine cT_i (As := [.int a2, .int (if ((a2 >>> ((20 : Int32) &&& 31)) &&& (1 : Int32)) = (0 : Int32) then (40 : Int32) else (1000001 : Int32))]) (rest := [.int r1, .ref (o 0)]) ⟨hx, hb, hml, hown, hts⟩ (c_L_low l D y _ a2 (if ((a2 >>> ((20 : Int32) &&& 31)) &&& (1 : Int32)) = (0 : Int32) then (40 : Int32) else (1000001 : Int32)) r38 g39) (va_cwS 2 hts gL_act_L_low rfl rfl rfl hd_L_low ⟨Nat.le_of_ble_eq_true rfl, Nat.le_of_ble_eq_true rfl⟩) hK hP hD hS hA rfl hl.1 rfl (Nat.le_of_ble_eq_true rfl) dL_act_175 ⟨Nat.le_of_ble_eq_true rfl, Nat.le_of_ble_eq_true rfl⟩ (fun H locs hP hD hS => ?_)
        refine lv_iconst (v := (1 : Int32)) hx hb dL_act_178 (by decide) ?_
        refine lv_iload_n hx hb dL_act_179 rfl (lv_at hl 2 rfl) ?_
        refine lv_bipush (v := (6 : Int32)) hx hb dL_act_180 (by decide) ?_
        refine lv_ishr hx hb dL_act_182 ?_
        refine lv_iload_n hx hb dL_act_183 rfl (lv_at hl 2 rfl) ?_
        refine lv_bipush (v := (19 : Int32)) hx hb dL_act_184 (by decide) ?_
        refine lv_ishr hx hb dL_act_186 ?_
        refine lv_iconst (v := (1 : Int32)) hx hb dL_act_187 (by decide) ?_
        refine lv_iand hx hb dL_act_188 ?_
        have J40 : ∀ (v41 : Int32) (ls : Array Slot), v41 = (if ((a2 >>> ((19 : Int32) &&& 31)) &&& (1 : Int32)) = (0 : Int32) then (60 : Int32) else (1000000 : Int32)) → lv_has ls 8 [(0, .ref (o 0)), (1, .int a1), (2, .int a2), (3, .int r1), (4, .int r3), (5, .int r6), (6, .int r10), (7, .int v13)] → W p l e rm_L_act s m args below meth c H locs 0 0 Q (F0 m 199 ls [.int v41, .int (a2 >>> ((6 : Int32) &&& 31)), .int (1 : Int32), .int r38, .int r1, .ref (o 0)]) := by
          intro v41 ls ev41 hl
          subst ev41
          obtain ⟨r42, g43, h⟩ := fB1 h
          refine cT_i (As := [.int (a2 >>> ((6 : Int32) &&& 31)), .int (if ((a2 >>> ((19 : Int32) &&& 31)) &&& (1 : Int32)) = (0 : Int32) then (60 : Int32) else (1000000 : Int32))]) (rest := [.int (1 : Int32), .int r38, .int r1, .ref (o 0)]) ⟨hx, hb, hml, hown, hts⟩ (c_L_low l D y _ (a2 >>> ((6 : Int32) &&& 31)) (if ((a2 >>> ((19 : Int32) &&& 31)) &&& (1 : Int32)) = (0 : Int32) then (60 : Int32) else (1000000 : Int32)) r42 g43) (va_cwS 2 hts gL_act_L_low rfl rfl rfl hd_L_low ⟨Nat.le_of_ble_eq_true rfl, Nat.le_of_ble_eq_true rfl⟩) hK hP hD hS hA rfl hl.1 rfl (Nat.le_of_ble_eq_true rfl) dL_act_199 ⟨Nat.le_of_ble_eq_true rfl, Nat.le_of_ble_eq_true rfl⟩ (fun H locs hP hD hS => ?_)
          refine lv_iadd hx hb dL_act_202 ?_
          obtain ⟨k44, r45, pl46, hs47, ho48, hc49, g50, h⟩ := fB6 h
          by_cases e51 : ¬ k44 = 0
          · replace h := fF e51 h
            exact fN h
          replace e51 := Classical.not_not.mp e51
          subst e51
          replace h := fT rfl h
          refine cV_i (As := [.int r1, .int r38, .int ((1 : Int32) + r42)]) (rest := []) (ws1 := (XW o y pl46 te be cn ch le rE rL rP rF rS rD hs47 ho48 hc49 sl fi)) ⟨hx, hb, hml, hown, hts⟩ (c_X6_set l D o y _ pl te be cn ch le rE rL rP rF rS rD hs ho hc sl fi r1 r38 ((1 : Int32) + r42) r45 pl46 hs47 ho48 hc49 g50) (cwV 3 hts gL_act_X6_set rfl rfl rfl hd_X6_set ⟨Nat.le_of_ble_eq_true rfl, Nat.le_of_ble_eq_true rfl⟩) hK hP hD hS hA [0, 1, 2, 3, 4, 5, 6, 7, 8, 9, 10, 11] [] [0, 1, 2, 3, 4, 5, 6, 7, 8, 9, 10, 11] rfl rfl rfl (by decide) rfl rfl rfl 0 (ci := 4) rfl rfl rfl hl.1 rfl (Nat.le_of_ble_eq_true rfl) dL_act_203 ⟨Nat.le_of_ble_eq_true rfl, Nat.le_of_ble_eq_true rfl⟩ (fun H locs hP hD hS => ?_)
          refine lv_pop hx hb dL_act_206 rfl ?_
          refine lv_iconst (v := (1 : Int32)) hx hb dL_act_207 (by decide) ?_
          cases h
          exact hE _ _ _ _ dL_act_208 hP hD hS (nz01 (Or.inr rfl))
        refine lv_if_ne (tgt := 197) hx hb dL_act_189 (by decide) (fun c52 => ?_) (fun c52 => ?_)
        · refine lv_ldc (v := (1000000 : Int32)) hx hb hown q0 dL_act_197 ?_
          exact J40 _ _ (by rw [if_neg c52]) (lv_sub hl [0, 1, 2, 3, 4, 5, 6, 7] rfl)
        · refine lv_bipush (v := (60 : Int32)) hx hb dL_act_192 (by decide) ?_
          refine lv_goto (tgt := 199) hx hb dL_act_194 (by decide) ?_
          exact J40 _ _ (by rw [if_pos c52]) (lv_sub hl [0, 1, 2, 3, 4, 5, 6, 7] rfl)
      refine lv_if_ne (tgt := 173) hx hb dL_act_165 (by decide) (fun c53 => ?_) (fun c53 => ?_)
      · refine lv_ldc (v := (1000001 : Int32)) hx hb hown q1 dL_act_173 ?_
        exact J36 _ _ (by rw [if_neg c53]) (lv_sub hl [1, 2, 3, 4, 5, 6, 7, 0] rfl)
      · refine lv_bipush (v := (40 : Int32)) hx hb dL_act_168 (by decide) ?_
        refine lv_goto (tgt := 175) hx hb dL_act_170 (by decide) ?_
        exact J36 _ _ (by rw [if_pos c53]) (lv_sub hl [1, 2, 3, 4, 5, 6, 7, 0] rfl)
    replace h := fF c35 h
    by_cases c54 : (a1 &&& (15 : Int32)) = (2 : Int32)
    · replace h := fT c54 h
      refine lv_tableIn (off := 71) (tgt := 156) hx hb dL_act_85 (by rw [c54]; decide) (by rw [c54]; decide) (by rw [c54]; rfl) (by decide) ?_
      refine lv_aload_n hx hb dL_act_156 rfl (lv_at hl 1 rfl) ?_
      refine lv_iload_n hx hb dL_act_157 rfl (lv_at hl 4 rfl) ?_
      refine lv_iload_n hx hb dL_act_158 rfl (lv_at hl 3 rfl) ?_
      refine lv_iload_n hx hb dL_act_159 rfl (lv_at hl 3 rfl) ?_
      refine lv_bipush (v := (20 : Int32)) hx hb dL_act_160 (by decide) ?_
      refine lv_ishr hx hb dL_act_162 ?_
      refine lv_iconst (v := (1 : Int32)) hx hb dL_act_163 (by decide) ?_
      refine lv_iand hx hb dL_act_164 ?_
      have J55 : ∀ (v56 : Int32) (ls : Array Slot), v56 = (if ((a2 >>> ((20 : Int32) &&& 31)) &&& (1 : Int32)) = (0 : Int32) then (40 : Int32) else (1000001 : Int32)) → lv_has ls 8 [(0, .ref (o 0)), (1, .int a1), (2, .int a2), (3, .int r1), (4, .int r3), (5, .int r6), (6, .int r10), (7, .int v13)] → W p l e rm_L_act s m args below meth c H locs 0 0 Q (F0 m 175 ls [.int v56, .int a2, .int r1, .ref (o 0)]) := by
        intro v56 ls ev56 hl
        subst ev56
        obtain ⟨r57, g58, h⟩ := fB1 h
        refine cT_i (As := [.int a2, .int (if ((a2 >>> ((20 : Int32) &&& 31)) &&& (1 : Int32)) = (0 : Int32) then (40 : Int32) else (1000001 : Int32))]) (rest := [.int r1, .ref (o 0)]) ⟨hx, hb, hml, hown, hts⟩ (c_L_low l D y _ a2 (if ((a2 >>> ((20 : Int32) &&& 31)) &&& (1 : Int32)) = (0 : Int32) then (40 : Int32) else (1000001 : Int32)) r57 g58) (va_cwS 2 hts gL_act_L_low rfl rfl rfl hd_L_low ⟨Nat.le_of_ble_eq_true rfl, Nat.le_of_ble_eq_true rfl⟩) hK hP hD hS hA rfl hl.1 rfl (Nat.le_of_ble_eq_true rfl) dL_act_175 ⟨Nat.le_of_ble_eq_true rfl, Nat.le_of_ble_eq_true rfl⟩ (fun H locs hP hD hS => ?_)
        refine lv_iconst (v := (1 : Int32)) hx hb dL_act_178 (by decide) ?_
        refine lv_iload_n hx hb dL_act_179 rfl (lv_at hl 2 rfl) ?_
        refine lv_bipush (v := (6 : Int32)) hx hb dL_act_180 (by decide) ?_
        refine lv_ishr hx hb dL_act_182 ?_
        refine lv_iload_n hx hb dL_act_183 rfl (lv_at hl 2 rfl) ?_
        refine lv_bipush (v := (19 : Int32)) hx hb dL_act_184 (by decide) ?_
        refine lv_ishr hx hb dL_act_186 ?_
        refine lv_iconst (v := (1 : Int32)) hx hb dL_act_187 (by decide) ?_
        refine lv_iand hx hb dL_act_188 ?_
        have J59 : ∀ (v60 : Int32) (ls : Array Slot), v60 = (if ((a2 >>> ((19 : Int32) &&& 31)) &&& (1 : Int32)) = (0 : Int32) then (60 : Int32) else (1000000 : Int32)) → lv_has ls 8 [(0, .ref (o 0)), (1, .int a1), (2, .int a2), (3, .int r1), (4, .int r3), (5, .int r6), (6, .int r10), (7, .int v13)] → W p l e rm_L_act s m args below meth c H locs 0 0 Q (F0 m 199 ls [.int v60, .int (a2 >>> ((6 : Int32) &&& 31)), .int (1 : Int32), .int r57, .int r1, .ref (o 0)]) := by
          intro v60 ls ev60 hl
          subst ev60
          obtain ⟨r61, g62, h⟩ := fB1 h
          refine cT_i (As := [.int (a2 >>> ((6 : Int32) &&& 31)), .int (if ((a2 >>> ((19 : Int32) &&& 31)) &&& (1 : Int32)) = (0 : Int32) then (60 : Int32) else (1000000 : Int32))]) (rest := [.int (1 : Int32), .int r57, .int r1, .ref (o 0)]) ⟨hx, hb, hml, hown, hts⟩ (c_L_low l D y _ (a2 >>> ((6 : Int32) &&& 31)) (if ((a2 >>> ((19 : Int32) &&& 31)) &&& (1 : Int32)) = (0 : Int32) then (60 : Int32) else (1000000 : Int32)) r61 g62) (va_cwS 2 hts gL_act_L_low rfl rfl rfl hd_L_low ⟨Nat.le_of_ble_eq_true rfl, Nat.le_of_ble_eq_true rfl⟩) hK hP hD hS hA rfl hl.1 rfl (Nat.le_of_ble_eq_true rfl) dL_act_199 ⟨Nat.le_of_ble_eq_true rfl, Nat.le_of_ble_eq_true rfl⟩ (fun H locs hP hD hS => ?_)
          refine lv_iadd hx hb dL_act_202 ?_
          obtain ⟨k63, r64, pl65, hs66, ho67, hc68, g69, h⟩ := fB6 h
          by_cases e70 : ¬ k63 = 0
          · replace h := fF e70 h
            exact fN h
          replace e70 := Classical.not_not.mp e70
          subst e70
          replace h := fT rfl h
          refine cV_i (As := [.int r1, .int r57, .int ((1 : Int32) + r61)]) (rest := []) (ws1 := (XW o y pl65 te be cn ch le rE rL rP rF rS rD hs66 ho67 hc68 sl fi)) ⟨hx, hb, hml, hown, hts⟩ (c_X6_set l D o y _ pl te be cn ch le rE rL rP rF rS rD hs ho hc sl fi r1 r57 ((1 : Int32) + r61) r64 pl65 hs66 ho67 hc68 g69) (cwV 3 hts gL_act_X6_set rfl rfl rfl hd_X6_set ⟨Nat.le_of_ble_eq_true rfl, Nat.le_of_ble_eq_true rfl⟩) hK hP hD hS hA [0, 1, 2, 3, 4, 5, 6, 7, 8, 9, 10, 11] [] [0, 1, 2, 3, 4, 5, 6, 7, 8, 9, 10, 11] rfl rfl rfl (by decide) rfl rfl rfl 0 (ci := 4) rfl rfl rfl hl.1 rfl (Nat.le_of_ble_eq_true rfl) dL_act_203 ⟨Nat.le_of_ble_eq_true rfl, Nat.le_of_ble_eq_true rfl⟩ (fun H locs hP hD hS => ?_)
          refine lv_pop hx hb dL_act_206 rfl ?_
          refine lv_iconst (v := (1 : Int32)) hx hb dL_act_207 (by decide) ?_
          cases h
          exact hE _ _ _ _ dL_act_208 hP hD hS (nz01 (Or.inr rfl))
        refine lv_if_ne (tgt := 197) hx hb dL_act_189 (by decide) (fun c71 => ?_) (fun c71 => ?_)
        · refine lv_ldc (v := (1000000 : Int32)) hx hb hown q0 dL_act_197 ?_
          exact J59 _ _ (by rw [if_neg c71]) (lv_sub hl [0, 1, 2, 3, 4, 5, 6, 7] rfl)
        · refine lv_bipush (v := (60 : Int32)) hx hb dL_act_192 (by decide) ?_
          refine lv_goto (tgt := 199) hx hb dL_act_194 (by decide) ?_
          exact J59 _ _ (by rw [if_pos c71]) (lv_sub hl [0, 1, 2, 3, 4, 5, 6, 7] rfl)
      refine lv_if_ne (tgt := 173) hx hb dL_act_165 (by decide) (fun c72 => ?_) (fun c72 => ?_)
      · refine lv_ldc (v := (1000001 : Int32)) hx hb hown q1 dL_act_173 ?_
        exact J55 _ _ (by rw [if_neg c72]) (lv_sub hl [1, 2, 3, 4, 5, 6, 7, 0] rfl)
      · refine lv_bipush (v := (40 : Int32)) hx hb dL_act_168 (by decide) ?_
        refine lv_goto (tgt := 175) hx hb dL_act_170 (by decide) ?_
        exact J55 _ _ (by rw [if_pos c72]) (lv_sub hl [1, 2, 3, 4, 5, 6, 7, 0] rfl)
    replace h := fF c54 h
    by_cases c73 : (a1 &&& (15 : Int32)) = (3 : Int32)
    · replace h := fT c73 h
      refine lv_tableIn (off := 71) (tgt := 156) hx hb dL_act_85 (by rw [c73]; decide) (by rw [c73]; decide) (by rw [c73]; rfl) (by decide) ?_
      refine lv_aload_n hx hb dL_act_156 rfl (lv_at hl 1 rfl) ?_
      refine lv_iload_n hx hb dL_act_157 rfl (lv_at hl 4 rfl) ?_
      refine lv_iload_n hx hb dL_act_158 rfl (lv_at hl 3 rfl) ?_
      refine lv_iload_n hx hb dL_act_159 rfl (lv_at hl 3 rfl) ?_
      refine lv_bipush (v := (20 : Int32)) hx hb dL_act_160 (by decide) ?_
      refine lv_ishr hx hb dL_act_162 ?_
      refine lv_iconst (v := (1 : Int32)) hx hb dL_act_163 (by decide) ?_
      refine lv_iand hx hb dL_act_164 ?_
      have J74 : ∀ (v75 : Int32) (ls : Array Slot), v75 = (if ((a2 >>> ((20 : Int32) &&& 31)) &&& (1 : Int32)) = (0 : Int32) then (40 : Int32) else (1000001 : Int32)) → lv_has ls 8 [(0, .ref (o 0)), (1, .int a1), (2, .int a2), (3, .int r1), (4, .int r3), (5, .int r6), (6, .int r10), (7, .int v13)] → W p l e rm_L_act s m args below meth c H locs 0 0 Q (F0 m 175 ls [.int v75, .int a2, .int r1, .ref (o 0)]) := by
        intro v75 ls ev75 hl
        subst ev75
        obtain ⟨r76, g77, h⟩ := fB1 h
        refine cT_i (As := [.int a2, .int (if ((a2 >>> ((20 : Int32) &&& 31)) &&& (1 : Int32)) = (0 : Int32) then (40 : Int32) else (1000001 : Int32))]) (rest := [.int r1, .ref (o 0)]) ⟨hx, hb, hml, hown, hts⟩ (c_L_low l D y _ a2 (if ((a2 >>> ((20 : Int32) &&& 31)) &&& (1 : Int32)) = (0 : Int32) then (40 : Int32) else (1000001 : Int32)) r76 g77) (va_cwS 2 hts gL_act_L_low rfl rfl rfl hd_L_low ⟨Nat.le_of_ble_eq_true rfl, Nat.le_of_ble_eq_true rfl⟩) hK hP hD hS hA rfl hl.1 rfl (Nat.le_of_ble_eq_true rfl) dL_act_175 ⟨Nat.le_of_ble_eq_true rfl, Nat.le_of_ble_eq_true rfl⟩ (fun H locs hP hD hS => ?_)
        refine lv_iconst (v := (1 : Int32)) hx hb dL_act_178 (by decide) ?_
        refine lv_iload_n hx hb dL_act_179 rfl (lv_at hl 2 rfl) ?_
        refine lv_bipush (v := (6 : Int32)) hx hb dL_act_180 (by decide) ?_
        refine lv_ishr hx hb dL_act_182 ?_
        refine lv_iload_n hx hb dL_act_183 rfl (lv_at hl 2 rfl) ?_
        refine lv_bipush (v := (19 : Int32)) hx hb dL_act_184 (by decide) ?_
        refine lv_ishr hx hb dL_act_186 ?_
        refine lv_iconst (v := (1 : Int32)) hx hb dL_act_187 (by decide) ?_
        refine lv_iand hx hb dL_act_188 ?_
        have J78 : ∀ (v79 : Int32) (ls : Array Slot), v79 = (if ((a2 >>> ((19 : Int32) &&& 31)) &&& (1 : Int32)) = (0 : Int32) then (60 : Int32) else (1000000 : Int32)) → lv_has ls 8 [(0, .ref (o 0)), (1, .int a1), (2, .int a2), (3, .int r1), (4, .int r3), (5, .int r6), (6, .int r10), (7, .int v13)] → W p l e rm_L_act s m args below meth c H locs 0 0 Q (F0 m 199 ls [.int v79, .int (a2 >>> ((6 : Int32) &&& 31)), .int (1 : Int32), .int r76, .int r1, .ref (o 0)]) := by
          intro v79 ls ev79 hl
          subst ev79
          obtain ⟨r80, g81, h⟩ := fB1 h
          refine cT_i (As := [.int (a2 >>> ((6 : Int32) &&& 31)), .int (if ((a2 >>> ((19 : Int32) &&& 31)) &&& (1 : Int32)) = (0 : Int32) then (60 : Int32) else (1000000 : Int32))]) (rest := [.int (1 : Int32), .int r76, .int r1, .ref (o 0)]) ⟨hx, hb, hml, hown, hts⟩ (c_L_low l D y _ (a2 >>> ((6 : Int32) &&& 31)) (if ((a2 >>> ((19 : Int32) &&& 31)) &&& (1 : Int32)) = (0 : Int32) then (60 : Int32) else (1000000 : Int32)) r80 g81) (va_cwS 2 hts gL_act_L_low rfl rfl rfl hd_L_low ⟨Nat.le_of_ble_eq_true rfl, Nat.le_of_ble_eq_true rfl⟩) hK hP hD hS hA rfl hl.1 rfl (Nat.le_of_ble_eq_true rfl) dL_act_199 ⟨Nat.le_of_ble_eq_true rfl, Nat.le_of_ble_eq_true rfl⟩ (fun H locs hP hD hS => ?_)
          refine lv_iadd hx hb dL_act_202 ?_
          obtain ⟨k82, r83, pl84, hs85, ho86, hc87, g88, h⟩ := fB6 h
          by_cases e89 : ¬ k82 = 0
          · replace h := fF e89 h
            exact fN h
          replace e89 := Classical.not_not.mp e89
          subst e89
          replace h := fT rfl h
          refine cV_i (As := [.int r1, .int r76, .int ((1 : Int32) + r80)]) (rest := []) (ws1 := (XW o y pl84 te be cn ch le rE rL rP rF rS rD hs85 ho86 hc87 sl fi)) ⟨hx, hb, hml, hown, hts⟩ (c_X6_set l D o y _ pl te be cn ch le rE rL rP rF rS rD hs ho hc sl fi r1 r76 ((1 : Int32) + r80) r83 pl84 hs85 ho86 hc87 g88) (cwV 3 hts gL_act_X6_set rfl rfl rfl hd_X6_set ⟨Nat.le_of_ble_eq_true rfl, Nat.le_of_ble_eq_true rfl⟩) hK hP hD hS hA [0, 1, 2, 3, 4, 5, 6, 7, 8, 9, 10, 11] [] [0, 1, 2, 3, 4, 5, 6, 7, 8, 9, 10, 11] rfl rfl rfl (by decide) rfl rfl rfl 0 (ci := 4) rfl rfl rfl hl.1 rfl (Nat.le_of_ble_eq_true rfl) dL_act_203 ⟨Nat.le_of_ble_eq_true rfl, Nat.le_of_ble_eq_true rfl⟩ (fun H locs hP hD hS => ?_)
          refine lv_pop hx hb dL_act_206 rfl ?_
          refine lv_iconst (v := (1 : Int32)) hx hb dL_act_207 (by decide) ?_
          cases h
          exact hE _ _ _ _ dL_act_208 hP hD hS (nz01 (Or.inr rfl))
        refine lv_if_ne (tgt := 197) hx hb dL_act_189 (by decide) (fun c90 => ?_) (fun c90 => ?_)
        · refine lv_ldc (v := (1000000 : Int32)) hx hb hown q0 dL_act_197 ?_
          exact J78 _ _ (by rw [if_neg c90]) (lv_sub hl [0, 1, 2, 3, 4, 5, 6, 7] rfl)
        · refine lv_bipush (v := (60 : Int32)) hx hb dL_act_192 (by decide) ?_
          refine lv_goto (tgt := 199) hx hb dL_act_194 (by decide) ?_
          exact J78 _ _ (by rw [if_pos c90]) (lv_sub hl [0, 1, 2, 3, 4, 5, 6, 7] rfl)
      refine lv_if_ne (tgt := 173) hx hb dL_act_165 (by decide) (fun c91 => ?_) (fun c91 => ?_)
      · refine lv_ldc (v := (1000001 : Int32)) hx hb hown q1 dL_act_173 ?_
        exact J74 _ _ (by rw [if_neg c91]) (lv_sub hl [1, 2, 3, 4, 5, 6, 7, 0] rfl)
      · refine lv_bipush (v := (40 : Int32)) hx hb dL_act_168 (by decide) ?_
        refine lv_goto (tgt := 175) hx hb dL_act_170 (by decide) ?_
        exact J74 _ _ (by rw [if_pos c91]) (lv_sub hl [1, 2, 3, 4, 5, 6, 7, 0] rfl)
    replace h := fF c73 h
    by_cases c92 : (a1 &&& (15 : Int32)) = (4 : Int32)
    · replace h := fT c92 h
      refine lv_tableIn (off := 71) (tgt := 156) hx hb dL_act_85 (by rw [c92]; decide) (by rw [c92]; decide) (by rw [c92]; rfl) (by decide) ?_
      refine lv_aload_n hx hb dL_act_156 rfl (lv_at hl 1 rfl) ?_
      refine lv_iload_n hx hb dL_act_157 rfl (lv_at hl 4 rfl) ?_
      refine lv_iload_n hx hb dL_act_158 rfl (lv_at hl 3 rfl) ?_
      refine lv_iload_n hx hb dL_act_159 rfl (lv_at hl 3 rfl) ?_
      refine lv_bipush (v := (20 : Int32)) hx hb dL_act_160 (by decide) ?_
      refine lv_ishr hx hb dL_act_162 ?_
      refine lv_iconst (v := (1 : Int32)) hx hb dL_act_163 (by decide) ?_
      refine lv_iand hx hb dL_act_164 ?_
      have J93 : ∀ (v94 : Int32) (ls : Array Slot), v94 = (if ((a2 >>> ((20 : Int32) &&& 31)) &&& (1 : Int32)) = (0 : Int32) then (40 : Int32) else (1000001 : Int32)) → lv_has ls 8 [(0, .ref (o 0)), (1, .int a1), (2, .int a2), (3, .int r1), (4, .int r3), (5, .int r6), (6, .int r10), (7, .int v13)] → W p l e rm_L_act s m args below meth c H locs 0 0 Q (F0 m 175 ls [.int v94, .int a2, .int r1, .ref (o 0)]) := by
        intro v94 ls ev94 hl
        subst ev94
        obtain ⟨r95, g96, h⟩ := fB1 h
        refine cT_i (As := [.int a2, .int (if ((a2 >>> ((20 : Int32) &&& 31)) &&& (1 : Int32)) = (0 : Int32) then (40 : Int32) else (1000001 : Int32))]) (rest := [.int r1, .ref (o 0)]) ⟨hx, hb, hml, hown, hts⟩ (c_L_low l D y _ a2 (if ((a2 >>> ((20 : Int32) &&& 31)) &&& (1 : Int32)) = (0 : Int32) then (40 : Int32) else (1000001 : Int32)) r95 g96) (va_cwS 2 hts gL_act_L_low rfl rfl rfl hd_L_low ⟨Nat.le_of_ble_eq_true rfl, Nat.le_of_ble_eq_true rfl⟩) hK hP hD hS hA rfl hl.1 rfl (Nat.le_of_ble_eq_true rfl) dL_act_175 ⟨Nat.le_of_ble_eq_true rfl, Nat.le_of_ble_eq_true rfl⟩ (fun H locs hP hD hS => ?_)
        refine lv_iconst (v := (1 : Int32)) hx hb dL_act_178 (by decide) ?_
        refine lv_iload_n hx hb dL_act_179 rfl (lv_at hl 2 rfl) ?_
        refine lv_bipush (v := (6 : Int32)) hx hb dL_act_180 (by decide) ?_
        refine lv_ishr hx hb dL_act_182 ?_
        refine lv_iload_n hx hb dL_act_183 rfl (lv_at hl 2 rfl) ?_
        refine lv_bipush (v := (19 : Int32)) hx hb dL_act_184 (by decide) ?_
        refine lv_ishr hx hb dL_act_186 ?_
        refine lv_iconst (v := (1 : Int32)) hx hb dL_act_187 (by decide) ?_
        refine lv_iand hx hb dL_act_188 ?_
        have J97 : ∀ (v98 : Int32) (ls : Array Slot), v98 = (if ((a2 >>> ((19 : Int32) &&& 31)) &&& (1 : Int32)) = (0 : Int32) then (60 : Int32) else (1000000 : Int32)) → lv_has ls 8 [(0, .ref (o 0)), (1, .int a1), (2, .int a2), (3, .int r1), (4, .int r3), (5, .int r6), (6, .int r10), (7, .int v13)] → W p l e rm_L_act s m args below meth c H locs 0 0 Q (F0 m 199 ls [.int v98, .int (a2 >>> ((6 : Int32) &&& 31)), .int (1 : Int32), .int r95, .int r1, .ref (o 0)]) := by
          intro v98 ls ev98 hl
          subst ev98
          obtain ⟨r99, g100, h⟩ := fB1 h
          refine cT_i (As := [.int (a2 >>> ((6 : Int32) &&& 31)), .int (if ((a2 >>> ((19 : Int32) &&& 31)) &&& (1 : Int32)) = (0 : Int32) then (60 : Int32) else (1000000 : Int32))]) (rest := [.int (1 : Int32), .int r95, .int r1, .ref (o 0)]) ⟨hx, hb, hml, hown, hts⟩ (c_L_low l D y _ (a2 >>> ((6 : Int32) &&& 31)) (if ((a2 >>> ((19 : Int32) &&& 31)) &&& (1 : Int32)) = (0 : Int32) then (60 : Int32) else (1000000 : Int32)) r99 g100) (va_cwS 2 hts gL_act_L_low rfl rfl rfl hd_L_low ⟨Nat.le_of_ble_eq_true rfl, Nat.le_of_ble_eq_true rfl⟩) hK hP hD hS hA rfl hl.1 rfl (Nat.le_of_ble_eq_true rfl) dL_act_199 ⟨Nat.le_of_ble_eq_true rfl, Nat.le_of_ble_eq_true rfl⟩ (fun H locs hP hD hS => ?_)
          refine lv_iadd hx hb dL_act_202 ?_
          obtain ⟨k101, r102, pl103, hs104, ho105, hc106, g107, h⟩ := fB6 h
          by_cases e108 : ¬ k101 = 0
          · replace h := fF e108 h
            exact fN h
          replace e108 := Classical.not_not.mp e108
          subst e108
          replace h := fT rfl h
          refine cV_i (As := [.int r1, .int r95, .int ((1 : Int32) + r99)]) (rest := []) (ws1 := (XW o y pl103 te be cn ch le rE rL rP rF rS rD hs104 ho105 hc106 sl fi)) ⟨hx, hb, hml, hown, hts⟩ (c_X6_set l D o y _ pl te be cn ch le rE rL rP rF rS rD hs ho hc sl fi r1 r95 ((1 : Int32) + r99) r102 pl103 hs104 ho105 hc106 g107) (cwV 3 hts gL_act_X6_set rfl rfl rfl hd_X6_set ⟨Nat.le_of_ble_eq_true rfl, Nat.le_of_ble_eq_true rfl⟩) hK hP hD hS hA [0, 1, 2, 3, 4, 5, 6, 7, 8, 9, 10, 11] [] [0, 1, 2, 3, 4, 5, 6, 7, 8, 9, 10, 11] rfl rfl rfl (by decide) rfl rfl rfl 0 (ci := 4) rfl rfl rfl hl.1 rfl (Nat.le_of_ble_eq_true rfl) dL_act_203 ⟨Nat.le_of_ble_eq_true rfl, Nat.le_of_ble_eq_true rfl⟩ (fun H locs hP hD hS => ?_)
          refine lv_pop hx hb dL_act_206 rfl ?_
          refine lv_iconst (v := (1 : Int32)) hx hb dL_act_207 (by decide) ?_
          cases h
          exact hE _ _ _ _ dL_act_208 hP hD hS (nz01 (Or.inr rfl))
        refine lv_if_ne (tgt := 197) hx hb dL_act_189 (by decide) (fun c109 => ?_) (fun c109 => ?_)
        · refine lv_ldc (v := (1000000 : Int32)) hx hb hown q0 dL_act_197 ?_
          exact J97 _ _ (by rw [if_neg c109]) (lv_sub hl [0, 1, 2, 3, 4, 5, 6, 7] rfl)
        · refine lv_bipush (v := (60 : Int32)) hx hb dL_act_192 (by decide) ?_
          refine lv_goto (tgt := 199) hx hb dL_act_194 (by decide) ?_
          exact J97 _ _ (by rw [if_pos c109]) (lv_sub hl [0, 1, 2, 3, 4, 5, 6, 7] rfl)
      refine lv_if_ne (tgt := 173) hx hb dL_act_165 (by decide) (fun c110 => ?_) (fun c110 => ?_)
      · refine lv_ldc (v := (1000001 : Int32)) hx hb hown q1 dL_act_173 ?_
        exact J93 _ _ (by rw [if_neg c110]) (lv_sub hl [1, 2, 3, 4, 5, 6, 7, 0] rfl)
      · refine lv_bipush (v := (40 : Int32)) hx hb dL_act_168 (by decide) ?_
        refine lv_goto (tgt := 175) hx hb dL_act_170 (by decide) ?_
        exact J93 _ _ (by rw [if_pos c110]) (lv_sub hl [1, 2, 3, 4, 5, 6, 7, 0] rfl)
    replace h := fF c92 h
    by_cases c111 : (a1 &&& (15 : Int32)) = (5 : Int32)
    · replace h := fT c111 h
      refine lv_tableIn (off := 124) (tgt := 209) hx hb dL_act_85 (by rw [c111]; decide) (by rw [c111]; decide) (by rw [c111]; rfl) (by decide) ?_
      refine lv_iload hx hb dL_act_209 (lv_at hl 0 rfl) ?_
      refine lv_if_ne (tgt := 216) hx hb dL_act_211 (by decide) (fun c112 => ?_) (fun c112 => ?_)
      · replace h := fF c112 h
        refine lv_aload_n hx hb dL_act_216 rfl (lv_at hl 1 rfl) ?_
        refine lv_iload_n hx hb dL_act_217 rfl (lv_at hl 4 rfl) ?_
        refine lv_iload hx hb dL_act_218 (lv_at hl 5 rfl) ?_
        obtain ⟨k113, r114, pl115, hs116, ho117, hc118, g119, h⟩ := fB6 h
        by_cases e120 : ¬ k113 = 0
        · replace h := fF e120 h
          exact fN h
        replace e120 := Classical.not_not.mp e120
        subst e120
        replace h := fT rfl h
        refine cV_i (As := [.int r1, .int r3]) (rest := []) (ws1 := (XW o y pl115 te be cn ch le rE rL rP rF rS rD hs116 ho117 hc118 sl fi)) ⟨hx, hb, hml, hown, hts⟩ (c_X6_add l D o y _ pl te be cn ch le rE rL rP rF rS rD hs ho hc sl fi r1 r3 r114 pl115 hs116 ho117 hc118 g119) (cwV 2 hts gL_act_X6_add rfl rfl rfl hd_X6_add ⟨Nat.le_of_ble_eq_true rfl, Nat.le_of_ble_eq_true rfl⟩) hK hP hD hS hA [0, 1, 2, 3, 4, 5, 6, 7, 8, 9, 10, 11] [] [0, 1, 2, 3, 4, 5, 6, 7, 8, 9, 10, 11] rfl rfl rfl (by decide) rfl rfl rfl 0 (ci := 4) rfl rfl rfl hl.1 rfl (Nat.le_of_ble_eq_true rfl) dL_act_220 ⟨Nat.le_of_ble_eq_true rfl, Nat.le_of_ble_eq_true rfl⟩ (fun H locs hP hD hS => ?_)
        refine lv_pop hx hb dL_act_223 rfl ?_
        refine lv_iconst (v := (1 : Int32)) hx hb dL_act_224 (by decide) ?_
        cases h
        exact hE _ _ _ _ dL_act_225 hP hD hS (nz01 (Or.inr rfl))
      · replace h := fT c112 h
        refine lv_iconst (v := (0 : Int32)) hx hb dL_act_214 (by decide) ?_
        cases h
        exact hE _ _ _ _ dL_act_215 hP hD hS (nz01 (Or.inl rfl))
    replace h := fF c111 h
    by_cases c121 : (a1 &&& (15 : Int32)) = (6 : Int32)
    · replace h := fT c121 h
      refine lv_tableIn (off := 124) (tgt := 209) hx hb dL_act_85 (by rw [c121]; decide) (by rw [c121]; decide) (by rw [c121]; rfl) (by decide) ?_
      refine lv_iload hx hb dL_act_209 (lv_at hl 0 rfl) ?_
      refine lv_if_ne (tgt := 216) hx hb dL_act_211 (by decide) (fun c122 => ?_) (fun c122 => ?_)
      · replace h := fF c122 h
        refine lv_aload_n hx hb dL_act_216 rfl (lv_at hl 1 rfl) ?_
        refine lv_iload_n hx hb dL_act_217 rfl (lv_at hl 4 rfl) ?_
        refine lv_iload hx hb dL_act_218 (lv_at hl 5 rfl) ?_
        obtain ⟨k123, r124, pl125, hs126, ho127, hc128, g129, h⟩ := fB6 h
        by_cases e130 : ¬ k123 = 0
        · replace h := fF e130 h
          exact fN h
        replace e130 := Classical.not_not.mp e130
        subst e130
        replace h := fT rfl h
        refine cV_i (As := [.int r1, .int r3]) (rest := []) (ws1 := (XW o y pl125 te be cn ch le rE rL rP rF rS rD hs126 ho127 hc128 sl fi)) ⟨hx, hb, hml, hown, hts⟩ (c_X6_add l D o y _ pl te be cn ch le rE rL rP rF rS rD hs ho hc sl fi r1 r3 r124 pl125 hs126 ho127 hc128 g129) (cwV 2 hts gL_act_X6_add rfl rfl rfl hd_X6_add ⟨Nat.le_of_ble_eq_true rfl, Nat.le_of_ble_eq_true rfl⟩) hK hP hD hS hA [0, 1, 2, 3, 4, 5, 6, 7, 8, 9, 10, 11] [] [0, 1, 2, 3, 4, 5, 6, 7, 8, 9, 10, 11] rfl rfl rfl (by decide) rfl rfl rfl 0 (ci := 4) rfl rfl rfl hl.1 rfl (Nat.le_of_ble_eq_true rfl) dL_act_220 ⟨Nat.le_of_ble_eq_true rfl, Nat.le_of_ble_eq_true rfl⟩ (fun H locs hP hD hS => ?_)
        refine lv_pop hx hb dL_act_223 rfl ?_
        refine lv_iconst (v := (1 : Int32)) hx hb dL_act_224 (by decide) ?_
        cases h
        exact hE _ _ _ _ dL_act_225 hP hD hS (nz01 (Or.inr rfl))
      · replace h := fT c122 h
        refine lv_iconst (v := (0 : Int32)) hx hb dL_act_214 (by decide) ?_
        cases h
        exact hE _ _ _ _ dL_act_215 hP hD hS (nz01 (Or.inl rfl))
    replace h := fF c121 h
    by_cases c131 : (a1 &&& (15 : Int32)) = (7 : Int32)
    · replace h := fT c131 h
      refine lv_tableIn (off := 141) (tgt := 226) hx hb dL_act_85 (by rw [c131]; decide) (by rw [c131]; decide) (by rw [c131]; rfl) (by decide) ?_
      refine lv_iload hx hb dL_act_226 (lv_at hl 0 rfl) ?_
      refine lv_if_eq (tgt := 241) hx hb dL_act_228 (by decide) (fun c132 => ?_) (fun c132 => ?_)
      · replace h := fT c132 h
        refine lv_iconst (v := (0 : Int32)) hx hb dL_act_241 (by decide) ?_
        cases h
        exact hE _ _ _ _ dL_act_242 hP hD hS (nz01 (Or.inl rfl))
      · replace h := fF c132 h
        refine lv_aload_n hx hb dL_act_231 rfl (lv_at hl 1 rfl) ?_
        refine lv_iload_n hx hb dL_act_232 rfl (lv_at hl 4 rfl) ?_
        refine lv_iload hx hb dL_act_233 (lv_at hl 5 rfl) ?_
        obtain ⟨k133, r134, g135, h⟩ := fB2 h
        by_cases e136 : ¬ k133 = 0
        · replace h := fF e136 h
          exact fN h
        replace e136 := Classical.not_not.mp e136
        subst e136
        replace h := fT rfl h
        refine cV_i (As := [.int r1, .int r3]) (rest := []) (ws1 := (XW o y pl te be cn ch le rE rL rP rF rS rD hs ho hc sl fi)) ⟨hx, hb, hml, hown, hts⟩ (c_X6_compare l D o y _ pl te be cn ch le rE rL rP rF rS rD hs ho hc sl fi r1 r3 r134 g135) (cwV 2 hts gL_act_X6_compare rfl rfl rfl hd_X6_compare ⟨Nat.le_of_ble_eq_true rfl, Nat.le_of_ble_eq_true rfl⟩) hK hP hD hS hA [0, 1, 2, 3, 4, 5, 6, 7, 8, 9, 10, 11] [] [0, 1, 2, 3, 4, 5, 6, 7, 8, 9, 10, 11] rfl rfl rfl (by decide) rfl rfl rfl 0 (ci := 4) rfl rfl rfl hl.1 rfl (Nat.le_of_ble_eq_true rfl) dL_act_235 ⟨Nat.le_of_ble_eq_true rfl, Nat.le_of_ble_eq_true rfl⟩ (fun H locs hP hD hS => ?_)
        refine lv_if_ge (tgt := 243) hx hb dL_act_238 (by decide) (fun c137 => ?_) (fun c137 => ?_)
        · replace h := fT c137 h
          refine lv_aload_n hx hb dL_act_243 rfl (lv_at hl 1 rfl) ?_
          refine lv_iload_n hx hb dL_act_244 rfl (lv_at hl 4 rfl) ?_
          refine lv_iload hx hb dL_act_245 (lv_at hl 5 rfl) ?_
          obtain ⟨k138, r139, pl140, hs141, ho142, hc143, g144, h⟩ := fB6 h
          by_cases e145 : ¬ k138 = 0
          · replace h := fF e145 h
            exact fN h
          replace e145 := Classical.not_not.mp e145
          subst e145
          replace h := fT rfl h
          refine cV_i (As := [.int r1, .int r3]) (rest := []) (ws1 := (XW o y pl140 te be cn ch le rE rL rP rF rS rD hs141 ho142 hc143 sl fi)) ⟨hx, hb, hml, hown, hts⟩ (c_X6_takeAway l D o y _ pl te be cn ch le rE rL rP rF rS rD hs ho hc sl fi r1 r3 r139 pl140 hs141 ho142 hc143 g144) (cwV 2 hts gL_act_X6_takeAway rfl rfl rfl hd_X6_takeAway ⟨Nat.le_of_ble_eq_true rfl, Nat.le_of_ble_eq_true rfl⟩) hK hP hD hS hA [0, 1, 2, 3, 4, 5, 6, 7, 8, 9, 10, 11] [] [0, 1, 2, 3, 4, 5, 6, 7, 8, 9, 10, 11] rfl rfl rfl (by decide) rfl rfl rfl 0 (ci := 4) rfl rfl rfl hl.1 rfl (Nat.le_of_ble_eq_true rfl) dL_act_247 ⟨Nat.le_of_ble_eq_true rfl, Nat.le_of_ble_eq_true rfl⟩ (fun H locs hP hD hS => ?_)
          refine lv_pop hx hb dL_act_250 rfl ?_
          refine lv_iconst (v := (1 : Int32)) hx hb dL_act_251 (by decide) ?_
          cases h
          exact hE _ _ _ _ dL_act_252 hP hD hS (nz01 (Or.inr rfl))
        · replace h := fF c137 h
          refine lv_iconst (v := (0 : Int32)) hx hb dL_act_241 (by decide) ?_
          cases h
          exact hE _ _ _ _ dL_act_242 hP hD hS (nz01 (Or.inl rfl))
    replace h := fF c131 h
    by_cases c146 : (a1 &&& (15 : Int32)) = (8 : Int32)
    · replace h := fT c146 h
      refine lv_tableIn (off := 168) (tgt := 253) hx hb dL_act_85 (by rw [c146]; decide) (by rw [c146]; decide) (by rw [c146]; rfl) (by decide) ?_
      refine lv_iload hx hb dL_act_253 (lv_at hl 0 rfl) ?_
      refine lv_if_ne (tgt := 260) hx hb dL_act_255 (by decide) (fun c147 => ?_) (fun c147 => ?_)
      · replace h := fF c147 h
        refine lv_aload_n hx hb dL_act_260 rfl (lv_at hl 1 rfl) ?_
        refine lv_iload_n hx hb dL_act_261 rfl (lv_at hl 4 rfl) ?_
        refine lv_iload hx hb dL_act_262 (lv_at hl 5 rfl) ?_
        obtain ⟨k148, r149, pl150, hs151, ho152, hc153, g154, h⟩ := fB6 h
        by_cases e155 : ¬ k148 = 0
        · replace h := fF e155 h
          exact fN h
        replace e155 := Classical.not_not.mp e155
        subst e155
        replace h := fT rfl h
        refine cV_i (As := [.int r1, .int r3]) (rest := []) (ws1 := (XW o y pl150 te be cn ch le rE rL rP rF rS rD hs151 ho152 hc153 sl fi)) ⟨hx, hb, hml, hown, hts⟩ (c_X6_multiply l D o y _ pl te be cn ch le rE rL rP rF rS rD hs ho hc sl fi r1 r3 r149 pl150 hs151 ho152 hc153 g154) (cwV 2 hts gL_act_X6_multiply rfl rfl rfl hd_X6_multiply ⟨Nat.le_of_ble_eq_true rfl, Nat.le_of_ble_eq_true rfl⟩) hK hP hD hS hA [0, 1, 2, 3, 4, 5, 6, 7, 8, 9, 10, 11] [] [0, 1, 2, 3, 4, 5, 6, 7, 8, 9, 10, 11] rfl rfl rfl (by decide) rfl rfl rfl 0 (ci := 4) rfl rfl rfl hl.1 rfl (Nat.le_of_ble_eq_true rfl) dL_act_264 ⟨Nat.le_of_ble_eq_true rfl, Nat.le_of_ble_eq_true rfl⟩ (fun H locs hP hD hS => ?_)
        refine lv_pop hx hb dL_act_267 rfl ?_
        refine lv_iconst (v := (1 : Int32)) hx hb dL_act_268 (by decide) ?_
        cases h
        exact hE _ _ _ _ dL_act_269 hP hD hS (nz01 (Or.inr rfl))
      · replace h := fT c147 h
        refine lv_iconst (v := (0 : Int32)) hx hb dL_act_258 (by decide) ?_
        cases h
        exact hE _ _ _ _ dL_act_259 hP hD hS (nz01 (Or.inl rfl))
    replace h := fF c146 h
    by_cases c156 : (a1 &&& (15 : Int32)) = (9 : Int32)
    · replace h := fT c156 h
      refine lv_tableIn (off := 168) (tgt := 253) hx hb dL_act_85 (by rw [c156]; decide) (by rw [c156]; decide) (by rw [c156]; rfl) (by decide) ?_
      refine lv_iload hx hb dL_act_253 (lv_at hl 0 rfl) ?_
      refine lv_if_ne (tgt := 260) hx hb dL_act_255 (by decide) (fun c157 => ?_) (fun c157 => ?_)
      · replace h := fF c157 h
        refine lv_aload_n hx hb dL_act_260 rfl (lv_at hl 1 rfl) ?_
        refine lv_iload_n hx hb dL_act_261 rfl (lv_at hl 4 rfl) ?_
        refine lv_iload hx hb dL_act_262 (lv_at hl 5 rfl) ?_
        obtain ⟨k158, r159, pl160, hs161, ho162, hc163, g164, h⟩ := fB6 h
        by_cases e165 : ¬ k158 = 0
        · replace h := fF e165 h
          exact fN h
        replace e165 := Classical.not_not.mp e165
        subst e165
        replace h := fT rfl h
        refine cV_i (As := [.int r1, .int r3]) (rest := []) (ws1 := (XW o y pl160 te be cn ch le rE rL rP rF rS rD hs161 ho162 hc163 sl fi)) ⟨hx, hb, hml, hown, hts⟩ (c_X6_multiply l D o y _ pl te be cn ch le rE rL rP rF rS rD hs ho hc sl fi r1 r3 r159 pl160 hs161 ho162 hc163 g164) (cwV 2 hts gL_act_X6_multiply rfl rfl rfl hd_X6_multiply ⟨Nat.le_of_ble_eq_true rfl, Nat.le_of_ble_eq_true rfl⟩) hK hP hD hS hA [0, 1, 2, 3, 4, 5, 6, 7, 8, 9, 10, 11] [] [0, 1, 2, 3, 4, 5, 6, 7, 8, 9, 10, 11] rfl rfl rfl (by decide) rfl rfl rfl 0 (ci := 4) rfl rfl rfl hl.1 rfl (Nat.le_of_ble_eq_true rfl) dL_act_264 ⟨Nat.le_of_ble_eq_true rfl, Nat.le_of_ble_eq_true rfl⟩ (fun H locs hP hD hS => ?_)
        refine lv_pop hx hb dL_act_267 rfl ?_
        refine lv_iconst (v := (1 : Int32)) hx hb dL_act_268 (by decide) ?_
        cases h
        exact hE _ _ _ _ dL_act_269 hP hD hS (nz01 (Or.inr rfl))
      · replace h := fT c157 h
        refine lv_iconst (v := (0 : Int32)) hx hb dL_act_258 (by decide) ?_
        cases h
        exact hE _ _ _ _ dL_act_259 hP hD hS (nz01 (Or.inl rfl))
    replace h := fF c156 h
    by_cases c166 : (a1 &&& (15 : Int32)) = (10 : Int32)
    · replace h := fT c166 h
      refine lv_tableIn (off := 185) (tgt := 270) hx hb dL_act_85 (by rw [c166]; decide) (by rw [c166]; decide) (by rw [c166]; rfl) (by decide) ?_
      refine lv_aload_n hx hb dL_act_270 rfl (lv_at hl 1 rfl) ?_
      refine lv_iload_n hx hb dL_act_271 rfl (lv_at hl 4 rfl) ?_
      refine lv_iload hx hb dL_act_272 (lv_at hl 5 rfl) ?_
      obtain ⟨k167, r168, pl169, hs170, ho171, hc172, g173, h⟩ := fB6 h
      by_cases e174 : ¬ k167 = 0
      · replace h := fF e174 h
        exact fN h
      replace e174 := Classical.not_not.mp e174
      subst e174
      replace h := fT rfl h
      refine cV_i (As := [.int r1, .int r3]) (rest := []) (ws1 := (XW o y pl169 te be cn ch le rE rL rP rF rS rD hs170 ho171 hc172 sl fi)) ⟨hx, hb, hml, hown, hts⟩ (c_X6_copyTo l D o y _ pl te be cn ch le rE rL rP rF rS rD hs ho hc sl fi r1 r3 r168 pl169 hs170 ho171 hc172 g173) (cwV 2 hts gL_act_X6_copyTo rfl rfl rfl hd_X6_copyTo ⟨Nat.le_of_ble_eq_true rfl, Nat.le_of_ble_eq_true rfl⟩) hK hP hD hS hA [0, 1, 2, 3, 4, 5, 6, 7, 8, 9, 10, 11] [] [0, 1, 2, 3, 4, 5, 6, 7, 8, 9, 10, 11] rfl rfl rfl (by decide) rfl rfl rfl 0 (ci := 4) rfl rfl rfl hl.1 rfl (Nat.le_of_ble_eq_true rfl) dL_act_274 ⟨Nat.le_of_ble_eq_true rfl, Nat.le_of_ble_eq_true rfl⟩ (fun H locs hP hD hS => ?_)
      refine lv_pop hx hb dL_act_277 rfl ?_
      refine lv_iconst (v := (1 : Int32)) hx hb dL_act_278 (by decide) ?_
      cases h
      exact hE _ _ _ _ dL_act_279 hP hD hS (nz01 (Or.inr rfl))
    replace h := fF c166 h
    by_cases c175 : (a1 &&& (15 : Int32)) = (11 : Int32)
    · replace h := fT c175 h
      refine lv_tableIn (off := 195) (tgt := 280) hx hb dL_act_85 (by rw [c175]; decide) (by rw [c175]; decide) (by rw [c175]; rfl) (by decide) ?_
      refine lv_iload hx hb dL_act_280 (lv_at hl 6 rfl) ?_
      refine lv_if_ne (tgt := 287) hx hb dL_act_282 (by decide) (fun c176 => ?_) (fun c176 => ?_)
      · replace h := fF c176 h
        refine lv_aload_n hx hb dL_act_287 rfl (lv_at hl 1 rfl) ?_
        refine lv_iload_n hx hb dL_act_288 rfl (lv_at hl 4 rfl) ?_
        obtain ⟨k177, r178, pl179, hs180, ho181, hc182, g183, h⟩ := fB6 h
        by_cases e184 : ¬ k177 = 0
        · replace h := fF e184 h
          exact fN h
        replace e184 := Classical.not_not.mp e184
        subst e184
        replace h := fT rfl h
        refine cV_i (As := [.int r1]) (rest := []) (ws1 := (XW o y pl179 te be cn ch le rE rL rP rF rS rD hs180 ho181 hc182 sl fi)) ⟨hx, hb, hml, hown, hts⟩ (c_X6_invert l D o y _ pl te be cn ch le rE rL rP rF rS rD hs ho hc sl fi r1 r178 pl179 hs180 ho181 hc182 g183) (cwV 1 hts gL_act_X6_invert rfl rfl rfl hd_X6_invert ⟨Nat.le_of_ble_eq_true rfl, Nat.le_of_ble_eq_true rfl⟩) hK hP hD hS hA [0, 1, 2, 3, 4, 5, 6, 7, 8, 9, 10, 11] [] [0, 1, 2, 3, 4, 5, 6, 7, 8, 9, 10, 11] rfl rfl rfl (by decide) rfl rfl rfl 0 (ci := 4) rfl rfl rfl hl.1 rfl (Nat.le_of_ble_eq_true rfl) dL_act_289 ⟨Nat.le_of_ble_eq_true rfl, Nat.le_of_ble_eq_true rfl⟩ (fun H locs hP hD hS => ?_)
        refine lv_pop hx hb dL_act_292 rfl ?_
        refine lv_iconst (v := (1 : Int32)) hx hb dL_act_293 (by decide) ?_
        cases h
        exact hE _ _ _ _ dL_act_294 hP hD hS (nz01 (Or.inr rfl))
      · replace h := fT c176 h
        refine lv_iconst (v := (0 : Int32)) hx hb dL_act_285 (by decide) ?_
        cases h
        exact hE _ _ _ _ dL_act_286 hP hD hS (nz01 (Or.inl rfl))
    replace h := fF c175 h
    by_cases c185 : (a1 &&& (15 : Int32)) = (12 : Int32)
    · replace h := fT c185 h
      refine lv_tableIn (off := 210) (tgt := 295) hx hb dL_act_85 (by rw [c185]; decide) (by rw [c185]; decide) (by rw [c185]; rfl) (by decide) ?_
      refine lv_iload hx hb dL_act_295 (lv_at hl 7 rfl) ?_
      refine lv_sipush (v := (10000 : Int32)) hx hb dL_act_297 (by decide) ?_
      refine lv_icmp_le (tgt := 305) hx hb dL_act_300 (by decide) (fun c186 => ?_) (fun c186 => ?_)
      · replace h := fT c186 h
        refine lv_aload_n hx hb dL_act_305 rfl (lv_at hl 1 rfl) ?_
        refine lv_iload_n hx hb dL_act_306 rfl (lv_at hl 4 rfl) ?_
        refine lv_iconst (v := (1 : Int32)) hx hb dL_act_307 (by decide) ?_
        refine lv_iload_n hx hb dL_act_308 rfl (lv_at hl 3 rfl) ?_
        refine lv_bipush (v := (100 : Int32)) hx hb dL_act_309 (by decide) ?_
        obtain ⟨r187, g188, h⟩ := fB1 h
        refine cT_i (As := [.int a2, .int (100 : Int32)]) (rest := [.int (1 : Int32), .int r1, .ref (o 0)]) ⟨hx, hb, hml, hown, hts⟩ (c_L_low l D y _ a2 (100 : Int32) r187 g188) (va_cwS 2 hts gL_act_L_low rfl rfl rfl hd_L_low ⟨Nat.le_of_ble_eq_true rfl, Nat.le_of_ble_eq_true rfl⟩) hK hP hD hS hA rfl hl.1 rfl (Nat.le_of_ble_eq_true rfl) dL_act_311 ⟨Nat.le_of_ble_eq_true rfl, Nat.le_of_ble_eq_true rfl⟩ (fun H locs hP hD hS => ?_)
        refine lv_iadd hx hb dL_act_314 ?_
        obtain ⟨k189, r190, pl191, hs192, ho193, hc194, g195, h⟩ := fB6 h
        by_cases e196 : ¬ k189 = 0
        · replace h := fF e196 h
          exact fN h
        replace e196 := Classical.not_not.mp e196
        subst e196
        replace h := fT rfl h
        refine cV_i (As := [.int r1, .int ((1 : Int32) + r187)]) (rest := []) (ws1 := (XW o y pl191 te be cn ch le rE rL rP rF rS rD hs192 ho193 hc194 sl fi)) ⟨hx, hb, hml, hown, hts⟩ (c_X6_share l D o y _ pl te be cn ch le rE rL rP rF rS rD hs ho hc sl fi r1 ((1 : Int32) + r187) r190 pl191 hs192 ho193 hc194 g195) (cwV 2 hts gL_act_X6_share rfl rfl rfl hd_X6_share ⟨Nat.le_of_ble_eq_true rfl, Nat.le_of_ble_eq_true rfl⟩) hK hP hD hS hA [0, 1, 2, 3, 4, 5, 6, 7, 8, 9, 10, 11] [] [0, 1, 2, 3, 4, 5, 6, 7, 8, 9, 10, 11] rfl rfl rfl (by decide) rfl rfl rfl 0 (ci := 4) rfl rfl rfl hl.1 rfl (Nat.le_of_ble_eq_true rfl) dL_act_315 ⟨Nat.le_of_ble_eq_true rfl, Nat.le_of_ble_eq_true rfl⟩ (fun H locs hP hD hS => ?_)
        refine lv_pop hx hb dL_act_318 rfl ?_
        refine lv_iconst (v := (1 : Int32)) hx hb dL_act_319 (by decide) ?_
        cases h
        exact hE _ _ _ _ dL_act_320 hP hD hS (nz01 (Or.inr rfl))
      · replace h := fF c186 h
        refine lv_iconst (v := (0 : Int32)) hx hb dL_act_303 (by decide) ?_
        cases h
        exact hE _ _ _ _ dL_act_304 hP hD hS (nz01 (Or.inl rfl))
    replace h := fF c185 h
    by_cases c197 : (a1 &&& (15 : Int32)) = (13 : Int32)
    · replace h := fT c197 h
      refine lv_tableIn (off := 210) (tgt := 295) hx hb dL_act_85 (by rw [c197]; decide) (by rw [c197]; decide) (by rw [c197]; rfl) (by decide) ?_
      refine lv_iload hx hb dL_act_295 (lv_at hl 7 rfl) ?_
      refine lv_sipush (v := (10000 : Int32)) hx hb dL_act_297 (by decide) ?_
      refine lv_icmp_le (tgt := 305) hx hb dL_act_300 (by decide) (fun c198 => ?_) (fun c198 => ?_)
      · replace h := fT c198 h
        refine lv_aload_n hx hb dL_act_305 rfl (lv_at hl 1 rfl) ?_
        refine lv_iload_n hx hb dL_act_306 rfl (lv_at hl 4 rfl) ?_
        refine lv_iconst (v := (1 : Int32)) hx hb dL_act_307 (by decide) ?_
        refine lv_iload_n hx hb dL_act_308 rfl (lv_at hl 3 rfl) ?_
        refine lv_bipush (v := (100 : Int32)) hx hb dL_act_309 (by decide) ?_
        obtain ⟨r199, g200, h⟩ := fB1 h
        refine cT_i (As := [.int a2, .int (100 : Int32)]) (rest := [.int (1 : Int32), .int r1, .ref (o 0)]) ⟨hx, hb, hml, hown, hts⟩ (c_L_low l D y _ a2 (100 : Int32) r199 g200) (va_cwS 2 hts gL_act_L_low rfl rfl rfl hd_L_low ⟨Nat.le_of_ble_eq_true rfl, Nat.le_of_ble_eq_true rfl⟩) hK hP hD hS hA rfl hl.1 rfl (Nat.le_of_ble_eq_true rfl) dL_act_311 ⟨Nat.le_of_ble_eq_true rfl, Nat.le_of_ble_eq_true rfl⟩ (fun H locs hP hD hS => ?_)
        refine lv_iadd hx hb dL_act_314 ?_
        obtain ⟨k201, r202, pl203, hs204, ho205, hc206, g207, h⟩ := fB6 h
        by_cases e208 : ¬ k201 = 0
        · replace h := fF e208 h
          exact fN h
        replace e208 := Classical.not_not.mp e208
        subst e208
        replace h := fT rfl h
        refine cV_i (As := [.int r1, .int ((1 : Int32) + r199)]) (rest := []) (ws1 := (XW o y pl203 te be cn ch le rE rL rP rF rS rD hs204 ho205 hc206 sl fi)) ⟨hx, hb, hml, hown, hts⟩ (c_X6_share l D o y _ pl te be cn ch le rE rL rP rF rS rD hs ho hc sl fi r1 ((1 : Int32) + r199) r202 pl203 hs204 ho205 hc206 g207) (cwV 2 hts gL_act_X6_share rfl rfl rfl hd_X6_share ⟨Nat.le_of_ble_eq_true rfl, Nat.le_of_ble_eq_true rfl⟩) hK hP hD hS hA [0, 1, 2, 3, 4, 5, 6, 7, 8, 9, 10, 11] [] [0, 1, 2, 3, 4, 5, 6, 7, 8, 9, 10, 11] rfl rfl rfl (by decide) rfl rfl rfl 0 (ci := 4) rfl rfl rfl hl.1 rfl (Nat.le_of_ble_eq_true rfl) dL_act_315 ⟨Nat.le_of_ble_eq_true rfl, Nat.le_of_ble_eq_true rfl⟩ (fun H locs hP hD hS => ?_)
        refine lv_pop hx hb dL_act_318 rfl ?_
        refine lv_iconst (v := (1 : Int32)) hx hb dL_act_319 (by decide) ?_
        cases h
        exact hE _ _ _ _ dL_act_320 hP hD hS (nz01 (Or.inr rfl))
      · replace h := fF c198 h
        refine lv_iconst (v := (0 : Int32)) hx hb dL_act_303 (by decide) ?_
        cases h
        exact hE _ _ _ _ dL_act_304 hP hD hS (nz01 (Or.inl rfl))
    replace h := fF c197 h
    refine lv_tableOut (tgt := 321) hx hb dL_act_85 (by have tc16 := lv_neT c16 (show (0 : Int32).toInt = 0 from by decide); have tc35 := lv_neT c35 (show (1 : Int32).toInt = 1 from by decide); have tc54 := lv_neT c54 (show (2 : Int32).toInt = 2 from by decide); have tc73 := lv_neT c73 (show (3 : Int32).toInt = 3 from by decide); have tc92 := lv_neT c92 (show (4 : Int32).toInt = 4 from by decide); have tc111 := lv_neT c111 (show (5 : Int32).toInt = 5 from by decide); have tc121 := lv_neT c121 (show (6 : Int32).toInt = 6 from by decide); have tc131 := lv_neT c131 (show (7 : Int32).toInt = 7 from by decide); have tc146 := lv_neT c146 (show (8 : Int32).toInt = 8 from by decide); have tc156 := lv_neT c156 (show (9 : Int32).toInt = 9 from by decide); have tc166 := lv_neT c166 (show (10 : Int32).toInt = 10 from by decide); have tc175 := lv_neT c175 (show (11 : Int32).toInt = 11 from by decide); have tc185 := lv_neT c185 (show (12 : Int32).toInt = 12 from by decide); have tc197 := lv_neT c197 (show (13 : Int32).toInt = 13 from by decide); omega) (by decide) ?_
    refine lv_aload_n hx hb dL_act_321 rfl (lv_at hl 1 rfl) ?_
    refine lv_iload_n hx hb dL_act_322 rfl (lv_at hl 4 rfl) ?_
    refine lv_iconst (v := (1 : Int32)) hx hb dL_act_323 (by decide) ?_
    refine lv_iload_n hx hb dL_act_324 rfl (lv_at hl 3 rfl) ?_
    refine lv_iload_n hx hb dL_act_325 rfl (lv_at hl 3 rfl) ?_
    refine lv_bipush (v := (20 : Int32)) hx hb dL_act_326 (by decide) ?_
    refine lv_ishr hx hb dL_act_328 ?_
    refine lv_iconst (v := (1 : Int32)) hx hb dL_act_329 (by decide) ?_
    refine lv_iand hx hb dL_act_330 ?_
    have J209 : ∀ (v210 : Int32) (ls : Array Slot), v210 = (if ((a2 >>> ((20 : Int32) &&& 31)) &&& (1 : Int32)) = (0 : Int32) then (30 : Int32) else (300 : Int32)) → lv_has ls 8 [(0, .ref (o 0)), (1, .int a1), (2, .int a2), (3, .int r1), (4, .int r3), (5, .int r6), (6, .int r10), (7, .int v13)] → W p l e rm_L_act s m args below meth c H locs 0 0 Q (F0 m 342 ls [.int v210, .int a2, .int (1 : Int32), .int r1, .ref (o 0)]) := by
      intro v210 ls ev210 hl
      subst ev210
      obtain ⟨r211, g212, h⟩ := fB1 h
      refine cT_i (As := [.int a2, .int (if ((a2 >>> ((20 : Int32) &&& 31)) &&& (1 : Int32)) = (0 : Int32) then (30 : Int32) else (300 : Int32))]) (rest := [.int (1 : Int32), .int r1, .ref (o 0)]) ⟨hx, hb, hml, hown, hts⟩ (c_L_low l D y _ a2 (if ((a2 >>> ((20 : Int32) &&& 31)) &&& (1 : Int32)) = (0 : Int32) then (30 : Int32) else (300 : Int32)) r211 g212) (va_cwS 2 hts gL_act_L_low rfl rfl rfl hd_L_low ⟨Nat.le_of_ble_eq_true rfl, Nat.le_of_ble_eq_true rfl⟩) hK hP hD hS hA rfl hl.1 rfl (Nat.le_of_ble_eq_true rfl) dL_act_342 ⟨Nat.le_of_ble_eq_true rfl, Nat.le_of_ble_eq_true rfl⟩ (fun H locs hP hD hS => ?_)
      refine lv_iadd hx hb dL_act_345 ?_
      obtain ⟨k213, r214, pl215, te216, be217, cn218, hs219, ho220, hc221, g222, h⟩ := fB9 h
      by_cases e223 : ¬ k213 = 0
      · replace h := fF e223 h
        exact fN h
      replace e223 := Classical.not_not.mp e223
      subst e223
      replace h := fT rfl h
      refine cV_i (As := [.int r1, .int ((1 : Int32) + r211)]) (rest := []) (ws1 := (XW o y pl215 te216 be217 cn218 ch le rE rL rP rF rS rD hs219 ho220 hc221 sl fi)) ⟨hx, hb, hml, hown, hts⟩ (c_X6_roundTo l D o y _ pl te be cn ch le rE rL rP rF rS rD hs ho hc sl fi r1 ((1 : Int32) + r211) r214 pl215 te216 be217 cn218 hs219 ho220 hc221 g222) (cwV 2 hts gL_act_X6_roundTo rfl rfl rfl hd_X6_roundTo ⟨Nat.le_of_ble_eq_true rfl, Nat.le_of_ble_eq_true rfl⟩) hK hP hD hS hA [0, 1, 2, 3, 4, 5, 6, 7, 8, 9, 10, 11] [] [0, 1, 2, 3, 4, 5, 6, 7, 8, 9, 10, 11] rfl rfl rfl (by decide) rfl rfl rfl 0 (ci := 4) rfl rfl rfl hl.1 rfl (Nat.le_of_ble_eq_true rfl) dL_act_346 ⟨Nat.le_of_ble_eq_true rfl, Nat.le_of_ble_eq_true rfl⟩ (fun H locs hP hD hS => ?_)
      refine lv_pop hx hb dL_act_349 rfl ?_
      refine lv_iconst (v := (1 : Int32)) hx hb dL_act_350 (by decide) ?_
      cases h
      exact hE _ _ _ _ dL_act_351 hP hD hS (nz01 (Or.inr rfl))
    refine lv_if_ne (tgt := 339) hx hb dL_act_331 (by decide) (fun c224 => ?_) (fun c224 => ?_)
    · refine lv_sipush (v := (300 : Int32)) hx hb dL_act_339 (by decide) ?_
      exact J209 _ _ (by rw [if_neg c224]) (lv_sub hl [1, 2, 3, 4, 5, 6, 7, 0] rfl)
    · refine lv_bipush (v := (30 : Int32)) hx hb dL_act_334 (by decide) ?_
      refine lv_goto (tgt := 342) hx hb dL_act_336 (by decide) ?_
      exact J209 _ _ (by rw [if_pos c224]) (lv_sub hl [1, 2, 3, 4, 5, 6, 7, 0] rfl)
  refine lv_icmp_ge (tgt := 78) hx hb dL_act_39 (by decide) (fun c225 => ?_) (fun c225 => ?_)
  · replace g14 := fT c225 g14
    refine lv_iconst (v := (0 : Int32)) hx hb dL_act_78 (by decide) ?_
    cases g14
    exact J15 _ _ _ hP hD hS (lv_sub hl [4, 5, 6, 3, 2, 1, 0] rfl)
  · replace g14 := fF c225 g14
    refine lv_iload hx hb dL_act_42 (lv_at hl 0 rfl) ?_
    refine lv_sipush (v := (1000 : Int32)) hx hb dL_act_44 (by decide) ?_
    refine lv_icmp_ge (tgt := 78) hx hb dL_act_47 (by decide) (fun c226 => ?_) (fun c226 => ?_)
    · replace g14 := fT c226 g14
      refine lv_iconst (v := (0 : Int32)) hx hb dL_act_78 (by decide) ?_
      cases g14
      exact J15 _ _ _ hP hD hS (lv_sub hl [4, 5, 6, 3, 2, 1, 0] rfl)
    · replace g14 := fF c226 g14
      refine lv_aload_n hx hb dL_act_50 rfl (lv_at hl 4 rfl) ?_
      refine lv_iload hx hb dL_act_51 (lv_at hl 2 rfl) ?_
      obtain ⟨k227, r228, g229, g14⟩ := fB2 g14
      by_cases e230 : ¬ k227 = 0
      · replace g14 := fF e230 g14
        exact fN g14
      replace e230 := Classical.not_not.mp e230
      subst e230
      replace g14 := fT rfl g14
      refine cV_i (As := [.int r3]) (rest := []) (ws1 := (XW o y pl te be cn ch le rE rL rP rF rS rD hs ho hc sl fi)) ⟨hx, hb, hml, hown, hts⟩ (c_X6_numeratorOf l D o y _ pl te be cn ch le rE rL rP rF rS rD hs ho hc sl fi r3 r228 g229) (cwV 1 hts gL_act_X6_numeratorOf rfl rfl rfl hd_X6_numeratorOf ⟨Nat.le_of_ble_eq_true rfl, Nat.le_of_ble_eq_true rfl⟩) hK hP hD hS hA [0, 1, 2, 3, 4, 5, 6, 7, 8, 9, 10, 11] [] [0, 1, 2, 3, 4, 5, 6, 7, 8, 9, 10, 11] rfl rfl rfl (by decide) rfl rfl rfl 0 (ci := 4) rfl rfl rfl hl.1 rfl (Nat.le_of_ble_eq_true rfl) dL_act_53 ⟨Nat.le_of_ble_eq_true rfl, Nat.le_of_ble_eq_true rfl⟩ (fun H locs hP hD hS => ?_)
      refine lv_sipush (v := (400 : Int32)) hx hb dL_act_56 (by decide) ?_
      refine lv_icmp_ge (tgt := 78) hx hb dL_act_59 (by decide) (fun c231 => ?_) (fun c231 => ?_)
      · replace g14 := fT c231 g14
        refine lv_iconst (v := (0 : Int32)) hx hb dL_act_78 (by decide) ?_
        cases g14
        exact J15 _ _ _ hP hD hS (lv_sub hl [4, 5, 6, 3, 2, 1, 0] rfl)
      · replace g14 := fF c231 g14
        refine lv_aload_n hx hb dL_act_62 rfl (lv_at hl 4 rfl) ?_
        refine lv_iload hx hb dL_act_63 (lv_at hl 2 rfl) ?_
        obtain ⟨k232, r233, g234, g14⟩ := fB2 g14
        by_cases e235 : ¬ k232 = 0
        · replace g14 := fF e235 g14
          exact fN g14
        replace e235 := Classical.not_not.mp e235
        subst e235
        replace g14 := fT rfl g14
        refine cV_i (As := [.int r3]) (rest := []) (ws1 := (XW o y pl te be cn ch le rE rL rP rF rS rD hs ho hc sl fi)) ⟨hx, hb, hml, hown, hts⟩ (c_X6_denominatorOf l D o y _ pl te be cn ch le rE rL rP rF rS rD hs ho hc sl fi r3 r233 g234) (cwV 1 hts gL_act_X6_denominatorOf rfl rfl rfl hd_X6_denominatorOf ⟨Nat.le_of_ble_eq_true rfl, Nat.le_of_ble_eq_true rfl⟩) hK hP hD hS hA [0, 1, 2, 3, 4, 5, 6, 7, 8, 9, 10, 11] [] [0, 1, 2, 3, 4, 5, 6, 7, 8, 9, 10, 11] rfl rfl rfl (by decide) rfl rfl rfl 0 (ci := 4) rfl rfl rfl hl.1 rfl (Nat.le_of_ble_eq_true rfl) dL_act_65 ⟨Nat.le_of_ble_eq_true rfl, Nat.le_of_ble_eq_true rfl⟩ (fun H locs hP hD hS => ?_)
        refine lv_sipush (v := (500 : Int32)) hx hb dL_act_68 (by decide) ?_
        refine lv_icmp_ge (tgt := 78) hx hb dL_act_71 (by decide) (fun c236 => ?_) (fun c236 => ?_)
        · replace g14 := fT c236 g14
          refine lv_iconst (v := (0 : Int32)) hx hb dL_act_78 (by decide) ?_
          cases g14
          exact J15 _ _ _ hP hD hS (lv_sub hl [4, 5, 6, 3, 2, 1, 0] rfl)
        · replace g14 := fF c236 g14
          refine lv_iconst (v := (1 : Int32)) hx hb dL_act_74 (by decide) ?_
          refine lv_goto (tgt := 79) hx hb dL_act_75 (by decide) ?_
          cases g14
          exact J15 _ _ _ hP hD hS (lv_sub hl [4, 5, 6, 3, 2, 1, 0] rfl)
