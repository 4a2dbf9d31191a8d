abbrev rm_X3_distanceTimesDenominators : Room := { frames := 2, cells := 0, slots := 0, locals := 36 }
theorem hd_X3_distanceTimesDenominators : yX3_distanceTimesDenominators.cls ≠ "java/lang/invoke/MethodHandle" ∧ yX3_distanceTimesDenominators.cls ≠ "java/lang/invoke/VarHandle" ∧ (parseMethodDescriptor yX3_distanceTimesDenominators.desc).map (fun d => d.parameters.length) = some 2 := by decide +kernel
set_option maxHeartbeats 0 in
set_option maxRecDepth 100000 in
theorem c_X3_distanceTimesDenominators (l : Launch) (D : va_G) (y : Nat → ClassId) (sz : Nat) (a1 : Int64) (a2 : Int64) : Met l yX3_distanceTimesDenominators wsX3_distanceTimesDenominators rm_X3_distanceTimesDenominators (va_Pc [.long a1, .long a2] (px D y sz [])) (Qrl D y sz [] [] (F_X3_distanceTimesDenominators a1 a2)) 0 0 (va_A [] sz) := by
  refine hd_l (cc := cX3_distanceTimesDenominators) (maxL := 4) rfl rfl (Nat.le_of_ble_eq_true rfl) ?_
  intro p e s m args below meth c A Q H locs ls hx hb hml hts hown _ hA hP hD hK hS hl hE
  have hl : lv_has ls 4 [(0, .long a1), (2, .long a2)] := hl
  have q0 := hts (.methodLink RX3 45 Lib.MathLoose.abs_long.x) (by decide +kernel)
  have q1 := hts (.static Lib.MathLoose.abs_long.x) (by decide +kernel)
  have q2 := hts (.initialized "java/lang/Math") (by decide +kernel)
  have q3 := hts (.code Lib.MathLoose.abs_long.x Lib.MathLoose.abs_long.code 2 (some .long)) (by decide +kernel)
  refine lv_lload_n hx hb dX3_distanceTimesDenominators_0 rfl (lv_at hl 0 rfl) ?_
  refine cT_l (As := [.long a1]) (rest := []) ⟨hx, hb, hml, hown, hts⟩ (c_X3_numerator l D y _ a1) (va_cwS 1 hts gX3_distanceTimesDenominators_X3_numerator rfl rfl rfl hd_X3_numerator ⟨Nat.le_of_ble_eq_true rfl, Nat.le_of_ble_eq_true rfl⟩) hK hP hD hS hA rfl hl.1 rfl (Nat.le_of_ble_eq_true rfl) dX3_distanceTimesDenominators_1 ⟨Nat.le_of_ble_eq_true rfl, Nat.le_of_ble_eq_true rfl⟩ (fun H locs hP hD hS => ?_)
  refine lv_lload_n hx hb dX3_distanceTimesDenominators_4 rfl (lv_at hl 1 rfl) ?_
  refine cT_l (As := [.long a2]) (rest := [.long (F_X3_numerator a1)]) ⟨hx, hb, hml, hown, hts⟩ (c_X3_denominator l D y _ a2) (va_cwS 1 hts gX3_distanceTimesDenominators_X3_denominator rfl rfl rfl hd_X3_denominator ⟨Nat.le_of_ble_eq_true rfl, Nat.le_of_ble_eq_true rfl⟩) hK hP hD hS hA rfl hl.1 rfl (Nat.le_of_ble_eq_true rfl) dX3_distanceTimesDenominators_5 ⟨Nat.le_of_ble_eq_true rfl, Nat.le_of_ble_eq_true rfl⟩ (fun H locs hP hD hS => ?_)
  refine lv_lmul hx hb dX3_distanceTimesDenominators_8 ?_
  refine lv_lload_n hx hb dX3_distanceTimesDenominators_9 rfl (lv_at hl 1 rfl) ?_
  refine cT_l (As := [.long a2]) (rest := [.long ((F_X3_numerator a1) * (F_X3_denominator a2))]) ⟨hx, hb, hml, hown, hts⟩ (c_X3_numerator l D y _ a2) (va_cwS 1 hts gX3_distanceTimesDenominators_X3_numerator rfl rfl rfl hd_X3_numerator ⟨Nat.le_of_ble_eq_true rfl, Nat.le_of_ble_eq_true rfl⟩) hK hP hD hS hA rfl hl.1 rfl (Nat.le_of_ble_eq_true rfl) dX3_distanceTimesDenominators_10 ⟨Nat.le_of_ble_eq_true rfl, Nat.le_of_ble_eq_true rfl⟩ (fun H locs hP hD hS => ?_)
  refine lv_lload_n hx hb dX3_distanceTimesDenominators_13 rfl (lv_at hl 0 rfl) ?_
  refine cT_l (As := [.long a1]) (rest := [.long (F_X3_numerator a2), .long ((F_X3_numerator a1) * (F_X3_denominator a2))]) ⟨hx, hb, hml, hown, hts⟩ (c_X3_denominator l D y _ a1) (va_cwS 1 hts gX3_distanceTimesDenominators_X3_denominator rfl rfl rfl hd_X3_denominator ⟨Nat.le_of_ble_eq_true rfl, Nat.le_of_ble_eq_true rfl⟩) hK hP hD hS hA rfl hl.1 rfl (Nat.le_of_ble_eq_true rfl) dX3_distanceTimesDenominators_14 ⟨Nat.le_of_ble_eq_true rfl, Nat.le_of_ble_eq_true rfl⟩ (fun H locs hP hD hS => ?_)
  refine lv_lmul hx hb dX3_distanceTimesDenominators_17 ?_
  refine lv_lsub hx hb dX3_distanceTimesDenominators_18 ?_
  refine va_mabs_long hx hb (hml.trans hl.1.symm) hown q0 q1 q2 q3 (Nat.le_of_ble_eq_true rfl) (Nat.le_of_ble_eq_true rfl) (Nat.zero_le _) (Nat.zero_le _) dX3_distanceTimesDenominators_19 ?_
  exact hE _ _ _ _ dX3_distanceTimesDenominators_22 hP hD hS
abbrev rm_X3_nearer : Room := { frames := 3, cells := 0, slots := 0, locals := 59 }
theorem hd_X3_nearer : yX3_nearer.cls ≠ "java/lang/invoke/MethodHandle" ∧ yX3_nearer.cls ≠ "java/lang/invoke/VarHandle" ∧ (parseMethodDescriptor yX3_nearer.desc).map (fun d => d.parameters.length) = some 3 := by decide +kernel
set_option maxHeartbeats 0 in
set_option maxRecDepth 100000 in
theorem c_X3_nearer (l : Launch) (D : va_G) (y : Nat → ClassId) (sz : Nat) (a1 : Int64) (a2 : Int64) (a3 : Int64) : Met l yX3_nearer wsX3_nearer rm_X3_nearer (va_Pc [.long a1, .long a2, .long a3] (px D y sz [])) (Qrl D y sz [] [] (F_X3_nearer a1 a2 a3)) 0 0 (va_A [] sz) := by
  refine hd_l (cc := cX3_nearer) (maxL := 10) rfl rfl (Nat.le_of_ble_eq_true rfl) ?_
  intro p e s m args below meth c A Q H locs ls hx hb hml hts hown _ hA hP hD hK hS hl hE
  have hl : lv_has ls 10 [(0, .long a1), (2, .long a2), (4, .long a3)] := hl
  refine lv_lload_n hx hb dX3_nearer_0 rfl (lv_at hl 0 rfl) ?_
  refine lv_lload_n hx hb dX3_nearer_1 rfl (lv_at hl 1 rfl) ?_
  refine cT_l (As := [.long a1, .long a2]) (rest := []) ⟨hx, hb, hml, hown, hts⟩ (c_X3_distanceTimesDenominators l D y _ a1 a2) (va_cwS 2 hts gX3_nearer_X3_distanceTimesDenominators rfl rfl rfl hd_X3_distanceTimesDenominators ⟨Nat.le_of_ble_eq_true rfl, Nat.le_of_ble_eq_true rfl⟩) hK hP hD hS hA rfl hl.1 rfl (Nat.le_of_ble_eq_true rfl) dX3_nearer_2 ⟨Nat.le_of_ble_eq_true rfl, Nat.le_of_ble_eq_true rfl⟩ (fun H locs hP hD hS => ?_)
  refine lv_lload hx hb dX3_nearer_5 (lv_at hl 2 rfl) ?_
  refine cT_l (As := [.long a3]) (rest := [.long (F_X3_distanceTimesDenominators a1 a2)]) ⟨hx, hb, hml, hown, hts⟩ (c_X3_denominator l D y _ a3) (va_cwS 1 hts gX3_nearer_X3_denominator rfl rfl rfl hd_X3_denominator ⟨Nat.le_of_ble_eq_true rfl, Nat.le_of_ble_eq_true rfl⟩) hK hP hD hS hA rfl hl.1 rfl (Nat.le_of_ble_eq_true rfl) dX3_nearer_7 ⟨Nat.le_of_ble_eq_true rfl, Nat.le_of_ble_eq_true rfl⟩ (fun H locs hP hD hS => ?_)
  refine lv_lmul hx hb dX3_nearer_10 ?_
  refine lv_lstore (lv' := [(6, .long ((F_X3_distanceTimesDenominators a1 a2) * (F_X3_denominator a3))), (0, .long a1), (2, .long a2), (4, .long a3)]) hx hb dX3_nearer_11 hl (by decide) rfl (fun ls hl => ?_)
  refine lv_lload_n hx hb dX3_nearer_13 rfl (lv_at hl 1 rfl) ?_
  refine lv_lload hx hb dX3_nearer_14 (lv_at hl 3 rfl) ?_
  refine cT_l (As := [.long a1, .long a3]) (rest := []) ⟨hx, hb, hml, hown, hts⟩ (c_X3_distanceTimesDenominators l D y _ a1 a3) (va_cwS 2 hts gX3_nearer_X3_distanceTimesDenominators rfl rfl rfl hd_X3_distanceTimesDenominators ⟨Nat.le_of_ble_eq_true rfl, Nat.le_of_ble_eq_true rfl⟩) hK hP hD hS hA rfl hl.1 rfl (Nat.le_of_ble_eq_true rfl) dX3_nearer_16 ⟨Nat.le_of_ble_eq_true rfl, Nat.le_of_ble_eq_true rfl⟩ (fun H locs hP hD hS => ?_)
  refine lv_lload_n hx hb dX3_nearer_19 rfl (lv_at hl 2 rfl) ?_
  refine cT_l (As := [.long a2]) (rest := [.long (F_X3_distanceTimesDenominators a1 a3)]) ⟨hx, hb, hml, hown, hts⟩ (c_X3_denominator l D y _ a2) (va_cwS 1 hts gX3_nearer_X3_denominator rfl rfl rfl hd_X3_denominator ⟨Nat.le_of_ble_eq_true rfl, Nat.le_of_ble_eq_true rfl⟩) hK hP hD hS hA rfl hl.1 rfl (Nat.le_of_ble_eq_true rfl) dX3_nearer_20 ⟨Nat.le_of_ble_eq_true rfl, Nat.le_of_ble_eq_true rfl⟩ (fun H locs hP hD hS => ?_)
  refine lv_lmul hx hb dX3_nearer_23 ?_
  refine lv_lstore (lv' := [(8, .long ((F_X3_distanceTimesDenominators a1 a3) * (F_X3_denominator a2))), (6, .long ((F_X3_distanceTimesDenominators a1 a2) * (F_X3_denominator a3))), (0, .long a1), (2, .long a2), (4, .long a3)]) hx hb dX3_nearer_24 hl (by decide) rfl (fun ls hl => ?_)
  refine lv_lload hx hb dX3_nearer_26 (lv_at hl 0 rfl) ?_
  refine lv_lload hx hb dX3_nearer_28 (lv_at hl 1 rfl) ?_
  have J1 : ∀ (v2 : Int64) (ls : Array Slot), v2 = (if ((F_X3_distanceTimesDenominators a1 a2) * (F_X3_denominator a3)) ≤ ((F_X3_distanceTimesDenominators a1 a3) * (F_X3_denominator a2)) then a2 else a3) → lv_has ls 10 [(0, .long a1), (2, .long a2), (4, .long a3), (6, .long ((F_X3_distanceTimesDenominators a1 a2) * (F_X3_denominator a3))), (8, .long ((F_X3_distanceTimesDenominators a1 a3) * (F_X3_denominator a2)))] → W p l e rm_X3_nearer s m args below meth c H locs 0 0 Q (F0 m 40 ls [.long v2]) := by
    intro v2 ls ev2 hl
    subst ev2
    exact hE _ _ _ _ dX3_nearer_40 hP hD hS
  refine lx_ge (tgt := 39) hx hb dX3_nearer_30 dX3_nearer_31 (by decide) (fun c3 => ?_) (fun c3 => ?_)
  · refine lv_lload_n hx hb dX3_nearer_39 rfl (lv_at hl 3 rfl) ?_
    exact J1 _ _ (by rw [if_pos c3]) (lv_sub hl [2, 3, 4, 1, 0] rfl)
  · refine lv_lload hx hb dX3_nearer_34 (lv_at hl 4 rfl) ?_
    refine lv_goto (tgt := 40) hx hb dX3_nearer_36 (by decide) ?_
    exact J1 _ _ (by rw [if_neg c3]) (lv_sub hl [2, 3, 4, 1, 0] rfl)
abbrev rm_X2_nearest : Room := { frames := 4, cells := 0, slots := 0, locals := 88 }
theorem hd_X2_nearest : yX2_nearest.cls = RX2 ∧ yX2_nearest.cls ≠ "java/lang/invoke/MethodHandle" ∧ yX2_nearest.cls ≠ "java/lang/invoke/VarHandle" ∧ (parseMethodDescriptor yX2_nearest.desc).map (fun d => d.parameters.length) = some 1 := by decide +kernel
set_option maxHeartbeats 0 in
set_option maxRecDepth 100000 in
theorem c_X2_nearest (l : Launch) (D : va_G) (o : Nat → Nat) (y : Nat → ClassId) (sz : Nat) (te : Nat → Int32) (be : Nat → Int64) (cn : Int32) (a1 : Int32) (r : Int64) (h : F_X2_nearest be cn a1 = some r) : Met l yX2_nearest wsX2_nearest rm_X2_nearest (va_Pc [.ref (o 2), .int a1] (px D y sz (CF o y te be cn))) (Qrl D y sz (CF o y te be cn) (CF o y te be cn) r) 0 0 (va_A (CF o y te be cn) sz) := by
  refine hd_l (cc := cX2_nearest) (maxL := 9) rfl rfl (Nat.le_of_ble_eq_true rfl) ?_
  intro p e s m args below meth c A Q H locs ls hx hb hml hts hown _ hA hP hD hK hS hl hE
  have hl : lv_has ls 9 [(0, .ref (o 2)), (1, .int a1)] := hl
  have q0 := hts (.fieldLink RX2 26 "SliceShares$ContinuedFraction" "count" "I") (by decide +kernel)
  have q1 := hts (.fieldLink RX2 13 "SliceShares$ContinuedFraction" "beginnings" "[J") (by decide +kernel)
  have hinRX2 : ∀ w ∈ wsX20, w ∈ wsX2_nearest := by decide +kernel
  unfold F_X2_nearest at h
  refine lv_iconst (v := (0 : Int32)) hx hb dX2_nearest_0 (by decide) ?_
  refine lv_istore_n (lv' := [(2, .int (0 : Int32)), (0, .ref (o 2)), (1, .int a1)]) hx hb dX2_nearest_1 rfl hl (by decide) rfl (fun ls hl => ?_)
  refine lv_iconst (v := (1 : Int32)) hx hb dX2_nearest_2 (by decide) ?_
  refine lv_istore_n (lv' := [(3, .int (1 : Int32)), (2, .int (0 : Int32)), (0, .ref (o 2)), (1, .int a1)]) hx hb dX2_nearest_3 rfl hl (by decide) rfl (fun ls hl => ?_)
  obtain ⟨v3, g4, h⟩ := fB1 h
  have J5 : ∀ (H : Heap) (locs : List Loc) (ls : Array Slot), va_P D vwCl (CF o y te be cn) H → va_D A (CF o y te be cn) → va_S A s.heap H locs → lv_has ls 9 [(0, .ref (o 2)), (1, .int a1), (2, .int v3)] → W p l e rm_X2_nearest s m args below meth c H locs 0 0 Q (F0 m 35 ls []) := by
    intro H locs ls hP hD hS hl
    refine lv_iload_n hx hb dX2_nearest_35 rfl (lv_at hl 2 rfl) ?_
    refine lv_aload_n hx hb dX2_nearest_36 rfl (lv_at hl 0 rfl) ?_
    refine va_get (D := D) (ci := 2) (C := RX2) (T := TX2) (N := 3) hx hb hts hinRX2 hown hK hP 0 rfl rfl 2 (by decide) q0 (fun _ h9 => h9) rfl dX2_nearest_37 ?_
    refine lv_iconst (v := (1 : Int32)) hx hb dX2_nearest_40 (by decide) ?_
    refine lv_isub hx hb dX2_nearest_41 ?_
    refine lv_icmp_ne (tgt := 52) hx hb dX2_nearest_42 (by decide) (fun c6 => ?_) (fun c6 => ?_)
    · replace h := fF c6 h
      refine lv_iload_n hx hb dX2_nearest_52 rfl (lv_at hl 2 rfl) ?_
      obtain ⟨v7, g8, h⟩ := fB1 h
      have J9 : ∀ (H : Heap) (locs : List Loc) (ls : Array Slot), va_P D vwCl (CF o y te be cn) H → va_D A (CF o y te be cn) → va_S A s.heap H locs → lv_has ls 9 [(0, .ref (o 2)), (1, .int a1), (2, .int v3)] → W p l e rm_X2_nearest s m args below meth c H locs 0 0 Q (F0 m 71 ls [.long v7]) := by
        intro H locs ls hP hD hS hl
        refine lv_lstore_n (lv' := [(3, .long v7), (0, .ref (o 2)), (1, .int a1), (2, .int v3)]) hx hb dX2_nearest_71 rfl hl (by decide) rfl (fun ls hl => ?_)
        refine lv_iload_n hx hb dX2_nearest_72 rfl (lv_at hl 2 rfl) ?_
        refine lv_i2l (v := a1.toInt64) hx hb dX2_nearest_73 rfl ?_
        refine lv_lload_n hx hb dX2_nearest_74 rfl (lv_at hl 0 rfl) ?_
        refine lv_lsub hx hb dX2_nearest_75 ?_
        refine lv_aload_n hx hb dX2_nearest_76 rfl (lv_at hl 1 rfl) ?_
        refine va_get (D := D) (ci := 2) (C := RX2) (T := TX2) (N := 3) hx hb hts hinRX2 hown hK hP 0 rfl rfl 1 (by decide) q1 (fun _ h9 => h9) rfl dX2_nearest_77 ?_
        refine lv_iload_n hx hb dX2_nearest_80 rfl (lv_at hl 3 rfl) ?_
        obtain ⟨g10, h⟩ := fG h
        refine va_lald hx hb hK hP 2 1 rfl rfl g10 dX2_nearest_81 ?_
        refine cT_l (As := [.long (be v3.toNatClampNeg)]) (rest := [.long (a1.toInt64 - v7)]) ⟨hx, hb, hml, hown, hts⟩ (c_X3_denominator l D y _ (be v3.toNatClampNeg)) (va_cwS 1 hts gX2_nearest_X3_denominator rfl rfl rfl hd_X3_denominator ⟨Nat.le_of_ble_eq_true rfl, Nat.le_of_ble_eq_true rfl⟩) hK hP hD hS hA rfl hl.1 rfl (Nat.le_of_ble_eq_true rfl) dX2_nearest_82 ⟨Nat.le_of_ble_eq_true rfl, Nat.le_of_ble_eq_true rfl⟩ (fun H locs hP hD hS => ?_)
        obtain ⟨g11, h⟩ := fG h
        refine lv_ldiv hx hb dX2_nearest_85 g11 ?_
        refine lv_lstore (lv' := [(5, .long ((a1.toInt64 - v7) / (F_X3_denominator (be v3.toNatClampNeg)))), (3, .long v7), (0, .ref (o 2)), (1, .int a1), (2, .int v3)]) hx hb dX2_nearest_86 hl (by decide) rfl (fun ls hl => ?_)
        refine lv_aload_n hx hb dX2_nearest_88 rfl (lv_at hl 2 rfl) ?_
        refine va_get (D := D) (ci := 2) (C := RX2) (T := TX2) (N := 3) hx hb hts hinRX2 hown hK hP 0 rfl rfl 1 (by decide) q1 (fun _ h9 => h9) rfl dX2_nearest_89 ?_
        refine lv_aload_n hx hb dX2_nearest_92 rfl (lv_at hl 2 rfl) ?_
        refine va_get (D := D) (ci := 2) (C := RX2) (T := TX2) (N := 3) hx hb hts hinRX2 hown hK hP 0 rfl rfl 2 (by decide) q0 (fun _ h9 => h9) rfl dX2_nearest_93 ?_
        refine lv_iconst (v := (1 : Int32)) hx hb dX2_nearest_96 (by decide) ?_
        refine lv_isub hx hb dX2_nearest_97 ?_
        obtain ⟨g12, h⟩ := fG h
        refine va_lald hx hb hK hP 2 1 rfl rfl g12 dX2_nearest_98 ?_
        refine lv_lstore (lv' := [(7, .long (be (cn - (1 : Int32)).toNatClampNeg)), (5, .long ((a1.toInt64 - v7) / (F_X3_denominator (be v3.toNatClampNeg)))), (3, .long v7), (0, .ref (o 2)), (1, .int a1), (2, .int v3)]) hx hb dX2_nearest_99 hl (by decide) rfl (fun ls hl => ?_)
        refine lv_lload hx hb dX2_nearest_101 (lv_at hl 0 rfl) ?_
        refine lv_aload_n hx hb dX2_nearest_103 rfl (lv_at hl 3 rfl) ?_
        refine va_get (D := D) (ci := 2) (C := RX2) (T := TX2) (N := 3) hx hb hts hinRX2 hown hK hP 0 rfl rfl 1 (by decide) q1 (fun _ h9 => h9) rfl dX2_nearest_104 ?_
        refine lv_iload_n hx hb dX2_nearest_107 rfl (lv_at hl 5 rfl) ?_
        refine va_lald hx hb hK hP 2 1 rfl rfl g10 dX2_nearest_108 ?_
        refine lv_aload_n hx hb dX2_nearest_109 rfl (lv_at hl 3 rfl) ?_
        refine lv_iload_n hx hb dX2_nearest_110 rfl (lv_at hl 5 rfl) ?_
        refine lv_iconst (v := (1 : Int32)) hx hb dX2_nearest_111 (by decide) ?_
        refine lv_iadd hx hb dX2_nearest_112 ?_
        refine lv_lload hx hb dX2_nearest_113 (lv_at hl 1 rfl) ?_
        obtain ⟨r13, g14, h⟩ := fB1 h
        refine cV_l (As := [.int (v3 + (1 : Int32)), .long ((a1.toInt64 - v7) / (F_X3_denominator (be v3.toNatClampNeg)))]) (rest := [.long (be v3.toNatClampNeg), .long (be (cn - (1 : Int32)).toNatClampNeg)]) (ws1 := (CF o y te be cn)) ⟨hx, hb, hml, hown, hts⟩ (c_X2_nextBeginning l D o y _ te be cn (v3 + (1 : Int32)) ((a1.toInt64 - v7) / (F_X3_denominator (be v3.toNatClampNeg))) r13 g14) (cwV 2 hts gX2_nearest_X2_nextBeginning rfl rfl rfl hd_X2_nextBeginning ⟨Nat.le_of_ble_eq_true rfl, Nat.le_of_ble_eq_true rfl⟩) hK hP hD hS hA [0, 1, 2] [] [0, 1, 2] rfl rfl rfl (by decide) rfl rfl rfl 0 (ci := 2) rfl rfl rfl hl.1 rfl (Nat.le_of_ble_eq_true rfl) dX2_nearest_115 ⟨Nat.le_of_ble_eq_true rfl, Nat.le_of_ble_eq_true rfl⟩ (fun H locs hP hD hS => ?_)
        refine cT_l (As := [.long (be (cn - (1 : Int32)).toNatClampNeg), .long (be v3.toNatClampNeg), .long r13]) (rest := []) ⟨hx, hb, hml, hown, hts⟩ (c_X3_nearer l D y _ (be (cn - (1 : Int32)).toNatClampNeg) (be v3.toNatClampNeg) r13) (va_cwS 3 hts gX2_nearest_X3_nearer rfl rfl rfl hd_X3_nearer ⟨Nat.le_of_ble_eq_true rfl, Nat.le_of_ble_eq_true rfl⟩) hK hP hD hS hA rfl hl.1 rfl (Nat.le_of_ble_eq_true rfl) dX2_nearest_118 ⟨Nat.le_of_ble_eq_true rfl, Nat.le_of_ble_eq_true rfl⟩ (fun H locs hP hD hS => ?_)
        cases h
        exact hE _ _ _ _ dX2_nearest_121 hP hD hS
      refine lv_if_ne (tgt := 60) hx hb dX2_nearest_53 (by decide) (fun c15 => ?_) (fun c15 => ?_)
      · replace g8 := fF c15 g8
        refine lv_aload_n hx hb dX2_nearest_60 rfl (lv_at hl 0 rfl) ?_
        refine va_get (D := D) (ci := 2) (C := RX2) (T := TX2) (N := 3) hx hb hts hinRX2 hown hK hP 0 rfl rfl 1 (by decide) q1 (fun _ h9 => h9) rfl dX2_nearest_61 ?_
        refine lv_iload_n hx hb dX2_nearest_64 rfl (lv_at hl 2 rfl) ?_
        refine lv_iconst (v := (1 : Int32)) hx hb dX2_nearest_65 (by decide) ?_
        refine lv_isub hx hb dX2_nearest_66 ?_
        obtain ⟨g16, g8⟩ := fG g8
        refine va_lald hx hb hK hP 2 1 rfl rfl g16 dX2_nearest_67 ?_
        refine cT_l (As := [.long (be (v3 - (1 : Int32)).toNatClampNeg)]) (rest := []) ⟨hx, hb, hml, hown, hts⟩ (c_X3_denominator l D y _ (be (v3 - (1 : Int32)).toNatClampNeg)) (va_cwS 1 hts gX2_nearest_X3_denominator rfl rfl rfl hd_X3_denominator ⟨Nat.le_of_ble_eq_true rfl, Nat.le_of_ble_eq_true rfl⟩) hK hP hD hS hA rfl hl.1 rfl (Nat.le_of_ble_eq_true rfl) dX2_nearest_68 ⟨Nat.le_of_ble_eq_true rfl, Nat.le_of_ble_eq_true rfl⟩ (fun H locs hP hD hS => ?_)
        cases g8
        exact J9 _ _ _ hP hD hS (lv_sub hl [0, 1, 2] rfl)
      · replace g8 := fT c15 g8
        refine lv_lconst (v := (0 : Int64)) hx hb dX2_nearest_56 rfl ?_
        refine lv_goto (tgt := 71) hx hb dX2_nearest_57 (by decide) ?_
        cases g8
        exact J9 _ _ _ hP hD hS (lv_sub hl [0, 1, 2] rfl)
    · replace h := fT c6 h
      refine lv_aload_n hx hb dX2_nearest_45 rfl (lv_at hl 0 rfl) ?_
      refine va_get (D := D) (ci := 2) (C := RX2) (T := TX2) (N := 3) hx hb hts hinRX2 hown hK hP 0 rfl rfl 1 (by decide) q1 (fun _ h9 => h9) rfl dX2_nearest_46 ?_
      refine lv_iload_n hx hb dX2_nearest_49 rfl (lv_at hl 2 rfl) ?_
      obtain ⟨g17, h⟩ := fG h
      refine va_lald hx hb hK hP 2 1 rfl rfl g17 dX2_nearest_50 ?_
      cases h
      exact hE _ _ _ _ dX2_nearest_51 hP hD hS
  have LP18 : ∀ (n : Nat) (x1 : Int32) (x2 : Int32) (H : Heap) (locs : List Loc) (ls : Array Slot), L_X2_nearest_4 n a1 x1 x2 be cn = some v3 → va_P D vwCl (CF o y te be cn) H → va_D A (CF o y te be cn) → va_S A s.heap H locs → lv_has ls 9 [(0, .ref (o 2)), (1, .int a1), (2, .int x1), (3, .int x2)] → W p l e rm_X2_nearest s m args below meth c H locs 0 0 Q (F0 m 4 ls []) := by
    intro n
    induction n with
    | zero => intro x1 x2 H locs ls h hP hD hS hl; exact fN h
    | succ n ih =>
      intro x1 x2 H locs ls h hP hD hS hl
      replace h := (L_X2_nearest_4_s n a1 x1 x2 be cn).symm.trans h
      refine lv_iload_n hx hb dX2_nearest_4 rfl (lv_at hl 3 rfl) ?_
      refine lv_aload_n hx hb dX2_nearest_5 rfl (lv_at hl 0 rfl) ?_
      refine va_get (D := D) (ci := 2) (C := RX2) (T := TX2) (N := 3) hx hb hts hinRX2 hown hK hP 0 rfl rfl 2 (by decide) q0 (fun _ h9 => h9) rfl dX2_nearest_6 ?_
      refine lv_icmp_ge (tgt := 35) hx hb dX2_nearest_9 (by decide) (fun c19 => ?_) (fun c19 => ?_)
      · replace h := fT c19 h
        cases h
        exact J5 _ _ _ hP hD hS (lv_sub hl [0, 1, 2] rfl)
      · replace h := fF c19 h
        refine lv_aload_n hx hb dX2_nearest_12 rfl (lv_at hl 0 rfl) ?_
        refine va_get (D := D) (ci := 2) (C := RX2) (T := TX2) (N := 3) hx hb hts hinRX2 hown hK hP 0 rfl rfl 1 (by decide) q1 (fun _ h9 => h9) rfl dX2_nearest_13 ?_
        refine lv_iload_n hx hb dX2_nearest_16 rfl (lv_at hl 3 rfl) ?_
        obtain ⟨g20, h⟩ := fG h
        refine va_lald hx hb hK hP 2 1 rfl rfl g20 dX2_nearest_17 ?_
        refine cT_l (As := [.long (be x2.toNatClampNeg)]) (rest := []) ⟨hx, hb, hml, hown, hts⟩ (c_X3_denominator l D y _ (be x2.toNatClampNeg)) (va_cwS 1 hts gX2_nearest_X3_denominator rfl rfl rfl hd_X3_denominator ⟨Nat.le_of_ble_eq_true rfl, Nat.le_of_ble_eq_true rfl⟩) hK hP hD hS hA rfl hl.1 rfl (Nat.le_of_ble_eq_true rfl) dX2_nearest_18 ⟨Nat.le_of_ble_eq_true rfl, Nat.le_of_ble_eq_true rfl⟩ (fun H locs hP hD hS => ?_)
        refine lv_iload_n hx hb dX2_nearest_21 rfl (lv_at hl 1 rfl) ?_
        refine lv_i2l (v := a1.toInt64) hx hb dX2_nearest_22 rfl ?_
        have J21 : ∀ (v22 : Int32) (ls : Array Slot), v22 = (if a1.toInt64 < (F_X3_denominator (be x2.toNatClampNeg)) then x1 else x2) → lv_has ls 9 [(0, .ref (o 2)), (1, .int a1), (2, .int v22), (3, .int x2)] → W p l e rm_X2_nearest s m args below meth c H locs 0 0 Q (F0 m 29 ls []) := by
          intro v22 ls ev22 hl
          subst ev22
          refine lv_iinc (v := x2 + (1 : Int32)) (lv' := [(3, .int (x2 + (1 : Int32))), (0, .ref (o 2)), (1, .int a1), (2, .int (if a1.toInt64 < (F_X3_denominator (be x2.toNatClampNeg)) then x1 else x2))]) hx hb dX2_nearest_29 hl (k := 3) rfl rfl (by decide) rfl (fun ls hl => ?_)
          refine lv_goto (tgt := 4) hx hb dX2_nearest_32 (by decide) ?_
          exact ih (if a1.toInt64 < (F_X3_denominator (be x2.toNatClampNeg)) then x1 else x2) (x2 + (1 : Int32)) _ _ _ h hP hD hS (lv_sub hl [1, 2, 3, 0] rfl)
        refine lx_gt (tgt := 29) hx hb dX2_nearest_23 dX2_nearest_24 (by decide) (fun c23 => ?_) (fun c23 => ?_)
        · exact J21 _ _ (by rw [if_pos c23]) (lv_sub hl [0, 1, 2, 3] rfl)
        · refine lv_iload_n hx hb dX2_nearest_27 rfl (lv_at hl 3 rfl) ?_
          refine lv_istore_n (lv' := [(2, .int x2), (0, .ref (o 2)), (1, .int a1), (3, .int x2)]) hx hb dX2_nearest_28 rfl hl (by decide) rfl (fun ls hl => ?_)
          exact J21 _ _ (by rw [if_neg c23]) (lv_sub hl [1, 2, 0, 3] rfl)
  exact LP18 FU (0 : Int32) (1 : Int32) _ _ _ g4 hP hD hS (lv_sub hl [2, 3, 1, 0] rfl)
abbrev rm_X3_commonDivisor : Room := { frames := 1, cells := 0, slots := 0, locals := 15 }
theorem hd_X3_commonDivisor : yX3_commonDivisor.cls ≠ "java/lang/invoke/MethodHandle" ∧ yX3_commonDivisor.cls ≠ "java/lang/invoke/VarHandle" ∧ (parseMethodDescriptor yX3_commonDivisor.desc).map (fun d => d.parameters.length) = some 2 := by decide +kernel
set_option maxHeartbeats 0 in
set_option maxRecDepth 100000 in
theorem c_X3_commonDivisor (l : Launch) (D : va_G) (y : Nat → ClassId) (sz : Nat) (a1 : Int64) (a2 : Int64) (r : Int64) (h : F_X3_commonDivisor a1 a2 = some r) : Met l yX3_commonDivisor wsX3_commonDivisor rm_X3_commonDivisor (va_Pc [.long a1, .long a2] (px D y sz [])) (Qrl D y sz [] [] r) 0 0 (va_A [] sz) := by
  refine hd_l (cc := cX3_commonDivisor) (maxL := 11) rfl rfl (Nat.le_of_ble_eq_true rfl) ?_
  intro p e s m args below meth c A Q H locs ls hx hb hml hts hown _ hA hP hD hK hS hl hE
  have hl : lv_has ls 11 [(0, .long a1), (2, .long a2)] := hl
  have q0 := hts (.methodLink RX3 13 Lib.MathLoose.max_long.x) (by decide +kernel)
  have q1 := hts (.static Lib.MathLoose.max_long.x) (by decide +kernel)
  have q2 := hts (.initialized "java/lang/Math") (by decide +kernel)
  have q3 := hts (.code Lib.MathLoose.max_long.x Lib.MathLoose.max_long.code 4 (some .long)) (by decide +kernel)
  unfold F_X3_commonDivisor at h
  refine lv_lload_n hx hb dX3_commonDivisor_0 rfl (lv_at hl 0 rfl) ?_
  refine lv_lstore (lv' := [(4, .long a1), (0, .long a1), (2, .long a2)]) hx hb dX3_commonDivisor_1 hl (by decide) rfl (fun ls hl => ?_)
  refine lv_lload_n hx hb dX3_commonDivisor_3 rfl (lv_at hl 2 rfl) ?_
  refine lv_lstore (lv' := [(6, .long a2), (4, .long a1), (0, .long a1), (2, .long a2)]) hx hb dX3_commonDivisor_4 hl (by decide) rfl (fun ls hl => ?_)
  refine lv_iconst (v := (0 : Int32)) hx hb dX3_commonDivisor_6 (by decide) ?_
  refine lv_istore (lv' := [(8, .int (0 : Int32)), (6, .long a2), (4, .long a1), (0, .long a1), (2, .long a2)]) hx hb dX3_commonDivisor_7 hl (by decide) rfl (fun ls hl => ?_)
  obtain ⟨v4, g5, h⟩ := fB1 h
  have J6 : ∀ (H : Heap) (locs : List Loc) (ls : Array Slot), va_P D vwCl [] H → va_D A [] → va_S A s.heap H locs → lv_has ls 11 [(4, .long v4)] → W p l e rm_X3_commonDivisor s m args below meth c H locs 0 0 Q (F0 m 45 ls []) := by
    intro H locs ls hP hD hS hl
    refine lv_lconst (v := (1 : Int64)) hx hb dX3_commonDivisor_45 rfl ?_
    refine lv_lload hx hb dX3_commonDivisor_46 (lv_at hl 0 rfl) ?_
    refine va_mmax_long hx hb (hml.trans hl.1.symm) hown q0 q1 q2 q3 (Nat.le_of_ble_eq_true rfl) (Nat.le_of_ble_eq_true rfl) (Nat.zero_le _) (Nat.zero_le _) dX3_commonDivisor_48 ?_
    cases h
    exact hE _ _ _ _ dX3_commonDivisor_51 hP hD hS
  have LP7 : ∀ (n : Nat) (x1 : Int64) (x2 : Int64) (x3 : Int32) (H : Heap) (locs : List Loc) (ls : Array Slot), L_X3_commonDivisor_9 n x1 x2 x3 = some v4 → va_P D vwCl [] H → va_D A [] → va_S A s.heap H locs → lv_has ls 11 [(4, .long x1), (6, .long x2), (8, .int x3)] → W p l e rm_X3_commonDivisor s m args below meth c H locs 0 0 Q (F0 m 9 ls []) := by
    intro n
    induction n with
    | zero => intro x1 x2 x3 H locs ls h hP hD hS hl; exact fN h
    | succ n ih =>
      intro x1 x2 x3 H locs ls h hP hD hS hl
      replace h := (L_X3_commonDivisor_9_s n x1 x2 x3).symm.trans h
      refine lv_iload hx hb dX3_commonDivisor_9 (lv_at hl 2 rfl) ?_
      refine lv_sipush (v := (1000 : Int32)) hx hb dX3_commonDivisor_11 (by decide) ?_
      refine lv_icmp_ge (tgt := 45) hx hb dX3_commonDivisor_14 (by decide) (fun c8 => ?_) (fun c8 => ?_)
      · replace h := fT c8 h
        cases h
        exact J6 _ _ _ hP hD hS (lv_sub hl [0] rfl)
      · replace h := fF c8 h
        refine lv_lload hx hb dX3_commonDivisor_17 (lv_at hl 1 rfl) ?_
        refine lv_lconst (v := (0 : Int64)) hx hb dX3_commonDivisor_19 rfl ?_
        refine lx_eq (tgt := 45) hx hb dX3_commonDivisor_20 dX3_commonDivisor_21 (by decide) (fun c9 => ?_) (fun c9 => ?_)
        · replace h := fT c9 h
          cases h
          exact J6 _ _ _ hP hD hS (lv_sub hl [0] rfl)
        · replace h := fF c9 h
          refine lv_lload hx hb dX3_commonDivisor_24 (lv_at hl 0 rfl) ?_
          refine lv_lload hx hb dX3_commonDivisor_26 (lv_at hl 1 rfl) ?_
          obtain ⟨g10, h⟩ := fG h
          refine lv_lrem hx hb dX3_commonDivisor_28 g10 ?_
          refine lv_lstore (lv' := [(9, .long (x1 - x1 / x2 * x2)), (4, .long x1), (6, .long x2), (8, .int x3)]) hx hb dX3_commonDivisor_29 hl (by decide) rfl (fun ls hl => ?_)
          refine lv_lload hx hb dX3_commonDivisor_31 (lv_at hl 2 rfl) ?_
          refine lv_lstore (lv' := [(4, .long x2), (9, .long (x1 - x1 / x2 * x2)), (6, .long x2), (8, .int x3)]) hx hb dX3_commonDivisor_33 hl (by decide) rfl (fun ls hl => ?_)
          refine lv_lload hx hb dX3_commonDivisor_35 (lv_at hl 1 rfl) ?_
          refine lv_lstore (lv' := [(6, .long (x1 - x1 / x2 * x2)), (4, .long x2), (9, .long (x1 - x1 / x2 * x2)), (8, .int x3)]) hx hb dX3_commonDivisor_37 hl (by decide) rfl (fun ls hl => ?_)
          refine lv_iinc (v := x3 + (1 : Int32)) (lv' := [(8, .int (x3 + (1 : Int32))), (6, .long (x1 - x1 / x2 * x2)), (4, .long x2), (9, .long (x1 - x1 / x2 * x2))]) hx hb dX3_commonDivisor_39 hl (k := 3) rfl rfl (by decide) rfl (fun ls hl => ?_)
          refine lv_goto (tgt := 9) hx hb dX3_commonDivisor_42 (by decide) ?_
          exact ih x2 (x1 - x1 / x2 * x2) (x3 + (1 : Int32)) _ _ _ h hP hD hS (lv_sub hl [2, 1, 0] rfl)
  exact LP7 FU a1 a2 (0 : Int32) _ _ _ g5 hP hD hS (lv_sub hl [2, 1, 0] rfl)
abbrev rm_X3_inLowestTerms : Room := { frames := 2, cells := 0, slots := 0, locals := 45 }
theorem hd_X3_inLowestTerms : yX3_inLowestTerms.cls ≠ "java/lang/invoke/MethodHandle" ∧ yX3_inLowestTerms.cls ≠ "java/lang/invoke/VarHandle" ∧ (parseMethodDescriptor yX3_inLowestTerms.desc).map (fun d => d.parameters.length) = some 2 := by decide +kernel
set_option maxHeartbeats 0 in
set_option maxRecDepth 100000 in
theorem c_X3_inLowestTerms (l : Launch) (D : va_G) (y : Nat → ClassId) (sz : Nat) (a1 : Int64) (a2 : Int64) (r : Int64) (h : F_X3_inLowestTerms a1 a2 = some r) : Met l yX3_inLowestTerms wsX3_inLowestTerms rm_X3_inLowestTerms (va_Pc [.long a1, .long a2] (px D y sz [])) (Qrl D y sz [] [] r) 0 0 (va_A [] sz) := by
  refine hd_l (cc := cX3_inLowestTerms) (maxL := 10) rfl rfl (Nat.le_of_ble_eq_true rfl) ?_
  intro p e s m args below meth c A Q H locs ls hx hb hml hts hown _ hA hP hD hK hS hl hE
  have hl : lv_has ls 10 [(0, .long a1), (2, .long a2)] := hl
  have q0 := hts (.constantLong RX3 19 (-1)) (by decide +kernel)
  have q1 := hts (.constantLong RX3 24 (1000000)) (by decide +kernel)
  unfold F_X3_inLowestTerms at h
  refine lv_lload_n hx hb dX3_inLowestTerms_0 rfl (lv_at hl 0 rfl) ?_
  refine lv_lconst (v := (0 : Int64)) hx hb dX3_inLowestTerms_1 rfl ?_
  refine lx_lt (tgt := 12) hx hb dX3_inLowestTerms_2 dX3_inLowestTerms_3 (by decide) (fun c1 => ?_) (fun c1 => ?_)
  · replace h := fT c1 h
    refine lv_ldc2 (v := (-1 : Int64)) hx hb hown q0 dX3_inLowestTerms_12 ?_
    cases h
    exact hE _ _ _ _ dX3_inLowestTerms_15 hP hD hS
  · replace h := fF c1 h
    refine lv_lload_n hx hb dX3_inLowestTerms_6 rfl (lv_at hl 1 rfl) ?_
    refine lv_lconst (v := (1 : Int64)) hx hb dX3_inLowestTerms_7 rfl ?_
    refine lx_ge (tgt := 16) hx hb dX3_inLowestTerms_8 dX3_inLowestTerms_9 (by decide) (fun c2 => ?_) (fun c2 => ?_)
    · replace h := fT c2 h
      refine lv_lload_n hx hb dX3_inLowestTerms_16 rfl (lv_at hl 0 rfl) ?_
      refine lv_lload_n hx hb dX3_inLowestTerms_17 rfl (lv_at hl 1 rfl) ?_
      obtain ⟨r3, g4, h⟩ := fB1 h
      refine cT_l (As := [.long a1, .long a2]) (rest := []) ⟨hx, hb, hml, hown, hts⟩ (c_X3_commonDivisor l D y _ a1 a2 r3 g4) (va_cwS 2 hts gX3_inLowestTerms_X3_commonDivisor rfl rfl rfl hd_X3_commonDivisor ⟨Nat.le_of_ble_eq_true rfl, Nat.le_of_ble_eq_true rfl⟩) hK hP hD hS hA rfl hl.1 rfl (Nat.le_of_ble_eq_true rfl) dX3_inLowestTerms_18 ⟨Nat.le_of_ble_eq_true rfl, Nat.le_of_ble_eq_true rfl⟩ (fun H locs hP hD hS => ?_)
      refine lv_lstore (lv' := [(4, .long r3), (0, .long a1), (2, .long a2)]) hx hb dX3_inLowestTerms_21 hl (by decide) rfl (fun ls hl => ?_)
      refine lv_lload_n hx hb dX3_inLowestTerms_23 rfl (lv_at hl 2 rfl) ?_
      refine lv_lload hx hb dX3_inLowestTerms_24 (lv_at hl 0 rfl) ?_
      obtain ⟨g5, h⟩ := fG h
      refine lv_ldiv hx hb dX3_inLowestTerms_26 g5 ?_
      refine lv_lstore (lv' := [(6, .long (a2 / r3)), (4, .long r3), (0, .long a1), (2, .long a2)]) hx hb dX3_inLowestTerms_27 hl (by decide) rfl (fun ls hl => ?_)
      refine lv_lload_n hx hb dX3_inLowestTerms_29 rfl (lv_at hl 2 rfl) ?_
      refine lv_lload hx hb dX3_inLowestTerms_30 (lv_at hl 1 rfl) ?_
      refine lv_ldiv hx hb dX3_inLowestTerms_32 g5 ?_
      refine lv_lstore (lv' := [(8, .long (a1 / r3)), (6, .long (a2 / r3)), (4, .long r3), (0, .long a1), (2, .long a2)]) hx hb dX3_inLowestTerms_33 hl (by decide) rfl (fun ls hl => ?_)
      refine lv_lload hx hb dX3_inLowestTerms_35 (lv_at hl 0 rfl) ?_
      refine lv_ldc2 (v := (1000000 : Int64)) hx hb hown q1 dX3_inLowestTerms_37 ?_
      refine lx_gt (tgt := 53) hx hb dX3_inLowestTerms_40 dX3_inLowestTerms_41 (by decide) (fun c6 => ?_) (fun c6 => ?_)
      · replace h := fT c6 h
        refine lv_ldc2 (v := (-1 : Int64)) hx hb hown q0 dX3_inLowestTerms_53 ?_
        cases h
        exact hE _ _ _ _ dX3_inLowestTerms_56 hP hD hS
      · replace h := fF c6 h
        refine lv_lload hx hb dX3_inLowestTerms_44 (lv_at hl 1 rfl) ?_
        refine lv_ldc2 (v := (1000000 : Int64)) hx hb hown q1 dX3_inLowestTerms_46 ?_
        refine lx_le (tgt := 57) hx hb dX3_inLowestTerms_49 dX3_inLowestTerms_50 (by decide) (fun c7 => ?_) (fun c7 => ?_)
        · replace h := fT c7 h
          refine lv_lload hx hb dX3_inLowestTerms_57 (lv_at hl 0 rfl) ?_
          refine lv_lload hx hb dX3_inLowestTerms_59 (lv_at hl 1 rfl) ?_
          refine cT_l (As := [.long (a1 / r3), .long (a2 / r3)]) (rest := []) ⟨hx, hb, hml, hown, hts⟩ (c_X3_pair l D y _ (a1 / r3) (a2 / r3)) (va_cwS 2 hts gX3_inLowestTerms_X3_pair rfl rfl rfl hd_X3_pair ⟨Nat.le_of_ble_eq_true rfl, Nat.le_of_ble_eq_true rfl⟩) hK hP hD hS hA rfl hl.1 rfl (Nat.le_of_ble_eq_true rfl) dX3_inLowestTerms_61 ⟨Nat.le_of_ble_eq_true rfl, Nat.le_of_ble_eq_true rfl⟩ (fun H locs hP hD hS => ?_)
          cases h
          exact hE _ _ _ _ dX3_inLowestTerms_64 hP hD hS
        · replace h := fF c7 h
          refine lv_ldc2 (v := (-1 : Int64)) hx hb hown q0 dX3_inLowestTerms_53 ?_
          cases h
          exact hE _ _ _ _ dX3_inLowestTerms_56 hP hD hS
    · replace h := fF c2 h
      refine lv_ldc2 (v := (-1 : Int64)) hx hb hown q0 dX3_inLowestTerms_12 ?_
      cases h
      exact hE _ _ _ _ dX3_inLowestTerms_15 hP hD hS
abbrev rm_X3_sum : Room := { frames := 3, cells := 0, slots := 0, locals := 74 }
theorem hd_X3_sum : yX3_sum.cls ≠ "java/lang/invoke/MethodHandle" ∧ yX3_sum.cls ≠ "java/lang/invoke/VarHandle" ∧ (parseMethodDescriptor yX3_sum.desc).map (fun d => d.parameters.length) = some 2 := by decide +kernel
set_option maxHeartbeats 0 in
set_option maxRecDepth 100000 in
theorem c_X3_sum (l : Launch) (D : va_G) (y : Nat → ClassId) (sz : Nat) (a1 : Int64) (a2 : Int64) (r : Int64) (h : F_X3_sum a1 a2 = some r) : Met l yX3_sum wsX3_sum rm_X3_sum (va_Pc [.long a1, .long a2] (px D y sz [])) (Qrl D y sz [] [] r) 0 0 (va_A [] sz) := by
  refine hd_l (cc := cX3_sum) (maxL := 4) rfl rfl (Nat.le_of_ble_eq_true rfl) ?_
  intro p e s m args below meth c A Q H locs ls hx hb hml hts hown _ hA hP hD hK hS hl hE
  have hl : lv_has ls 4 [(0, .long a1), (2, .long a2)] := hl
  unfold F_X3_sum at h
  refine lv_lload_n hx hb dX3_sum_0 rfl (lv_at hl 0 rfl) ?_
  refine cT_l (As := [.long a1]) (rest := []) ⟨hx, hb, hml, hown, hts⟩ (c_X3_numerator l D y _ a1) (va_cwS 1 hts gX3_sum_X3_numerator rfl rfl rfl hd_X3_numerator ⟨Nat.le_of_ble_eq_true rfl, Nat.le_of_ble_eq_true rfl⟩) hK hP hD hS hA rfl hl.1 rfl (Nat.le_of_ble_eq_true rfl) dX3_sum_1 ⟨Nat.le_of_ble_eq_true rfl, Nat.le_of_ble_eq_true rfl⟩ (fun H locs hP hD hS => ?_)
  refine lv_lload_n hx hb dX3_sum_4 rfl (lv_at hl 1 rfl) ?_
  refine cT_l (As := [.long a2]) (rest := [.long (F_X3_numerator a1)]) ⟨hx, hb, hml, hown, hts⟩ (c_X3_denominator l D y _ a2) (va_cwS 1 hts gX3_sum_X3_denominator rfl rfl rfl hd_X3_denominator ⟨Nat.le_of_ble_eq_true rfl, Nat.le_of_ble_eq_true rfl⟩) hK hP hD hS hA rfl hl.1 rfl (Nat.le_of_ble_eq_true rfl) dX3_sum_5 ⟨Nat.le_of_ble_eq_true rfl, Nat.le_of_ble_eq_true rfl⟩ (fun H locs hP hD hS => ?_)
  refine lv_lmul hx hb dX3_sum_8 ?_
  refine lv_lload_n hx hb dX3_sum_9 rfl (lv_at hl 1 rfl) ?_
  refine cT_l (As := [.long a2]) (rest := [.long ((F_X3_numerator a1) * (F_X3_denominator a2))]) ⟨hx, hb, hml, hown, hts⟩ (c_X3_numerator l D y _ a2) (va_cwS 1 hts gX3_sum_X3_numerator rfl rfl rfl hd_X3_numerator ⟨Nat.le_of_ble_eq_true rfl, Nat.le_of_ble_eq_true rfl⟩) hK hP hD hS hA rfl hl.1 rfl (Nat.le_of_ble_eq_true rfl) dX3_sum_10 ⟨Nat.le_of_ble_eq_true rfl, Nat.le_of_ble_eq_true rfl⟩ (fun H locs hP hD hS => ?_)
  refine lv_lload_n hx hb dX3_sum_13 rfl (lv_at hl 0 rfl) ?_
  refine cT_l (As := [.long a1]) (rest := [.long (F_X3_numerator a2), .long ((F_X3_numerator a1) * (F_X3_denominator a2))]) ⟨hx, hb, hml, hown, hts⟩ (c_X3_denominator l D y _ a1) (va_cwS 1 hts gX3_sum_X3_denominator rfl rfl rfl hd_X3_denominator ⟨Nat.le_of_ble_eq_true rfl, Nat.le_of_ble_eq_true rfl⟩) hK hP hD hS hA rfl hl.1 rfl (Nat.le_of_ble_eq_true rfl) dX3_sum_14 ⟨Nat.le_of_ble_eq_true rfl, Nat.le_of_ble_eq_true rfl⟩ (fun H locs hP hD hS => ?_)
  refine lv_lmul hx hb dX3_sum_17 ?_
  refine lv_ladd hx hb dX3_sum_18 ?_
  refine lv_lload_n hx hb dX3_sum_19 rfl (lv_at hl 0 rfl) ?_
  refine cT_l (As := [.long a1]) (rest := [.long (((F_X3_numerator a1) * (F_X3_denominator a2)) + ((F_X3_numerator a2) * (F_X3_denominator a1)))]) ⟨hx, hb, hml, hown, hts⟩ (c_X3_denominator l D y _ a1) (va_cwS 1 hts gX3_sum_X3_denominator rfl rfl rfl hd_X3_denominator ⟨Nat.le_of_ble_eq_true rfl, Nat.le_of_ble_eq_true rfl⟩) hK hP hD hS hA rfl hl.1 rfl (Nat.le_of_ble_eq_true rfl) dX3_sum_20 ⟨Nat.le_of_ble_eq_true rfl, Nat.le_of_ble_eq_true rfl⟩ (fun H locs hP hD hS => ?_)
  refine lv_lload_n hx hb dX3_sum_23 rfl (lv_at hl 1 rfl) ?_
  refine cT_l (As := [.long a2]) (rest := [.long (F_X3_denominator a1), .long (((F_X3_numerator a1) * (F_X3_denominator a2)) + ((F_X3_numerator a2) * (F_X3_denominator a1)))]) ⟨hx, hb, hml, hown, hts⟩ (c_X3_denominator l D y _ a2) (va_cwS 1 hts gX3_sum_X3_denominator rfl rfl rfl hd_X3_denominator ⟨Nat.le_of_ble_eq_true rfl, Nat.le_of_ble_eq_true rfl⟩) hK hP hD hS hA rfl hl.1 rfl (Nat.le_of_ble_eq_true rfl) dX3_sum_24 ⟨Nat.le_of_ble_eq_true rfl, Nat.le_of_ble_eq_true rfl⟩ (fun H locs hP hD hS => ?_)
  refine lv_lmul hx hb dX3_sum_27 ?_
  obtain ⟨r1, g2, h⟩ := fB1 h
  refine cT_l (As := [.long (((F_X3_numerator a1) * (F_X3_denominator a2)) + ((F_X3_numerator a2) * (F_X3_denominator a1))), .long ((F_X3_denominator a1) * (F_X3_denominator a2))]) (rest := []) ⟨hx, hb, hml, hown, hts⟩ (c_X3_inLowestTerms l D y _ (((F_X3_numerator a1) * (F_X3_denominator a2)) + ((F_X3_numerator a2) * (F_X3_denominator a1))) ((F_X3_denominator a1) * (F_X3_denominator a2)) r1 g2) (va_cwS 2 hts gX3_sum_X3_inLowestTerms rfl rfl rfl hd_X3_inLowestTerms ⟨Nat.le_of_ble_eq_true rfl, Nat.le_of_ble_eq_true rfl⟩) hK hP hD hS hA rfl hl.1 rfl (Nat.le_of_ble_eq_true rfl) dX3_sum_28 ⟨Nat.le_of_ble_eq_true rfl, Nat.le_of_ble_eq_true rfl⟩ (fun H locs hP hD hS => ?_)
  cases h
  exact hE _ _ _ _ dX3_sum_31 hP hD hS
abbrev rm_X3_difference : Room := { frames := 3, cells := 0, slots := 0, locals := 74 }
theorem hd_X3_difference : yX3_difference.cls ≠ "java/lang/invoke/MethodHandle" ∧ yX3_difference.cls ≠ "java/lang/invoke/VarHandle" ∧ (parseMethodDescriptor yX3_difference.desc).map (fun d => d.parameters.length) = some 2 := by decide +kernel
set_option maxHeartbeats 0 in
set_option maxRecDepth 100000 in
theorem c_X3_difference (l : Launch) (D : va_G) (y : Nat → ClassId) (sz : Nat) (a1 : Int64) (a2 : Int64) (r : Int64) (h : F_X3_difference a1 a2 = some r) : Met l yX3_difference wsX3_difference rm_X3_difference (va_Pc [.long a1, .long a2] (px D y sz [])) (Qrl D y sz [] [] r) 0 0 (va_A [] sz) := by
  refine hd_l (cc := cX3_difference) (maxL := 4) rfl rfl (Nat.le_of_ble_eq_true rfl) ?_
  intro p e s m args below meth c A Q H locs ls hx hb hml hts hown _ hA hP hD hK hS hl hE
  have hl : lv_has ls 4 [(0, .long a1), (2, .long a2)] := hl
  unfold F_X3_difference at h
  refine lv_lload_n hx hb dX3_difference_0 rfl (lv_at hl 0 rfl) ?_
  refine cT_l (As := [.long a1]) (rest := []) ⟨hx, hb, hml, hown, hts⟩ (c_X3_numerator l D y _ a1) (va_cwS 1 hts gX3_difference_X3_numerator rfl rfl rfl hd_X3_numerator ⟨Nat.le_of_ble_eq_true rfl, Nat.le_of_ble_eq_true rfl⟩) hK hP hD hS hA rfl hl.1 rfl (Nat.le_of_ble_eq_true rfl) dX3_difference_1 ⟨Nat.le_of_ble_eq_true rfl, Nat.le_of_ble_eq_true rfl⟩ (fun H locs hP hD hS => ?_)
  refine lv_lload_n hx hb dX3_difference_4 rfl (lv_at hl 1 rfl) ?_
  refine cT_l (As := [.long a2]) (rest := [.long (F_X3_numerator a1)]) ⟨hx, hb, hml, hown, hts⟩ (c_X3_denominator l D y _ a2) (va_cwS 1 hts gX3_difference_X3_denominator rfl rfl rfl hd_X3_denominator ⟨Nat.le_of_ble_eq_true rfl, Nat.le_of_ble_eq_true rfl⟩) hK hP hD hS hA rfl hl.1 rfl (Nat.le_of_ble_eq_true rfl) dX3_difference_5 ⟨Nat.le_of_ble_eq_true rfl, Nat.le_of_ble_eq_true rfl⟩ (fun H locs hP hD hS => ?_)
  refine lv_lmul hx hb dX3_difference_8 ?_
  refine lv_lload_n hx hb dX3_difference_9 rfl (lv_at hl 1 rfl) ?_
  refine cT_l (As := [.long a2]) (rest := [.long ((F_X3_numerator a1) * (F_X3_denominator a2))]) ⟨hx, hb, hml, hown, hts⟩ (c_X3_numerator l D y _ a2) (va_cwS 1 hts gX3_difference_X3_numerator rfl rfl rfl hd_X3_numerator ⟨Nat.le_of_ble_eq_true rfl, Nat.le_of_ble_eq_true rfl⟩) hK hP hD hS hA rfl hl.1 rfl (Nat.le_of_ble_eq_true rfl) dX3_difference_10 ⟨Nat.le_of_ble_eq_true rfl, Nat.le_of_ble_eq_true rfl⟩ (fun H locs hP hD hS => ?_)
  refine lv_lload_n hx hb dX3_difference_13 rfl (lv_at hl 0 rfl) ?_
  refine cT_l (As := [.long a1]) (rest := [.long (F_X3_numerator a2), .long ((F_X3_numerator a1) * (F_X3_denominator a2))]) ⟨hx, hb, hml, hown, hts⟩ (c_X3_denominator l D y _ a1) (va_cwS 1 hts gX3_difference_X3_denominator rfl rfl rfl hd_X3_denominator ⟨Nat.le_of_ble_eq_true rfl, Nat.le_of_ble_eq_true rfl⟩) hK hP hD hS hA rfl hl.1 rfl (Nat.le_of_ble_eq_true rfl) dX3_difference_14 ⟨Nat.le_of_ble_eq_true rfl, Nat.le_of_ble_eq_true rfl⟩ (fun H locs hP hD hS => ?_)
  refine lv_lmul hx hb dX3_difference_17 ?_
  refine lv_lsub hx hb dX3_difference_18 ?_
  refine lv_lload_n hx hb dX3_difference_19 rfl (lv_at hl 0 rfl) ?_
  refine cT_l (As := [.long a1]) (rest := [.long (((F_X3_numerator a1) * (F_X3_denominator a2)) - ((F_X3_numerator a2) * (F_X3_denominator a1)))]) ⟨hx, hb, hml, hown, hts⟩ (c_X3_denominator l D y _ a1) (va_cwS 1 hts gX3_difference_X3_denominator rfl rfl rfl hd_X3_denominator ⟨Nat.le_of_ble_eq_true rfl, Nat.le_of_ble_eq_true rfl⟩) hK hP hD hS hA rfl hl.1 rfl (Nat.le_of_ble_eq_true rfl) dX3_difference_20 ⟨Nat.le_of_ble_eq_true rfl, Nat.le_of_ble_eq_true rfl⟩ (fun H locs hP hD hS => ?_)
  refine lv_lload_n hx hb dX3_difference_23 rfl (lv_at hl 1 rfl) ?_
  refine cT_l (As := [.long a2]) (rest := [.long (F_X3_denominator a1), .long (((F_X3_numerator a1) * (F_X3_denominator a2)) - ((F_X3_numerator a2) * (F_X3_denominator a1)))]) ⟨hx, hb, hml, hown, hts⟩ (c_X3_denominator l D y _ a2) (va_cwS 1 hts gX3_difference_X3_denominator rfl rfl rfl hd_X3_denominator ⟨Nat.le_of_ble_eq_true rfl, Nat.le_of_ble_eq_true rfl⟩) hK hP hD hS hA rfl hl.1 rfl (Nat.le_of_ble_eq_true rfl) dX3_difference_24 ⟨Nat.le_of_ble_eq_true rfl, Nat.le_of_ble_eq_true rfl⟩ (fun H locs hP hD hS => ?_)
  refine lv_lmul hx hb dX3_difference_27 ?_
  obtain ⟨r1, g2, h⟩ := fB1 h
  refine cT_l (As := [.long (((F_X3_numerator a1) * (F_X3_denominator a2)) - ((F_X3_numerator a2) * (F_X3_denominator a1))), .long ((F_X3_denominator a1) * (F_X3_denominator a2))]) (rest := []) ⟨hx, hb, hml, hown, hts⟩ (c_X3_inLowestTerms l D y _ (((F_X3_numerator a1) * (F_X3_denominator a2)) - ((F_X3_numerator a2) * (F_X3_denominator a1))) ((F_X3_denominator a1) * (F_X3_denominator a2)) r1 g2) (va_cwS 2 hts gX3_difference_X3_inLowestTerms rfl rfl rfl hd_X3_inLowestTerms ⟨Nat.le_of_ble_eq_true rfl, Nat.le_of_ble_eq_true rfl⟩) hK hP hD hS hA rfl hl.1 rfl (Nat.le_of_ble_eq_true rfl) dX3_difference_28 ⟨Nat.le_of_ble_eq_true rfl, Nat.le_of_ble_eq_true rfl⟩ (fun H locs hP hD hS => ?_)
  cases h
  exact hE _ _ _ _ dX3_difference_31 hP hD hS
abbrev rm_X3_product : Room := { frames := 3, cells := 0, slots := 0, locals := 74 }
theorem hd_X3_product : yX3_product.cls ≠ "java/lang/invoke/MethodHandle" ∧ yX3_product.cls ≠ "java/lang/invoke/VarHandle" ∧ (parseMethodDescriptor yX3_product.desc).map (fun d => d.parameters.length) = some 2 := by decide +kernel
set_option maxHeartbeats 0 in
set_option maxRecDepth 100000 in
theorem c_X3_product (l : Launch) (D : va_G) (y : Nat → ClassId) (sz : Nat) (a1 : Int64) (a2 : Int64) (r : Int64) (h : F_X3_product a1 a2 = some r) : Met l yX3_product wsX3_product rm_X3_product (va_Pc [.long a1, .long a2] (px D y sz [])) (Qrl D y sz [] [] r) 0 0 (va_A [] sz) := by
  refine hd_l (cc := cX3_product) (maxL := 4) rfl rfl (Nat.le_of_ble_eq_true rfl) ?_
  intro p e s m args below meth c A Q H locs ls hx hb hml hts hown _ hA hP hD hK hS hl hE
  have hl : lv_has ls 4 [(0, .long a1), (2, .long a2)] := hl
  unfold F_X3_product at h
  refine lv_lload_n hx hb dX3_product_0 rfl (lv_at hl 0 rfl) ?_
  refine cT_l (As := [.long a1]) (rest := []) ⟨hx, hb, hml, hown, hts⟩ (c_X3_numerator l D y _ a1) (va_cwS 1 hts gX3_product_X3_numerator rfl rfl rfl hd_X3_numerator ⟨Nat.le_of_ble_eq_true rfl, Nat.le_of_ble_eq_true rfl⟩) hK hP hD hS hA rfl hl.1 rfl (Nat.le_of_ble_eq_true rfl) dX3_product_1 ⟨Nat.le_of_ble_eq_true rfl, Nat.le_of_ble_eq_true rfl⟩ (fun H locs hP hD hS => ?_)
  refine lv_lload_n hx hb dX3_product_4 rfl (lv_at hl 1 rfl) ?_
  refine cT_l (As := [.long a2]) (rest := [.long (F_X3_numerator a1)]) ⟨hx, hb, hml, hown, hts⟩ (c_X3_numerator l D y _ a2) (va_cwS 1 hts gX3_product_X3_numerator rfl rfl rfl hd_X3_numerator ⟨Nat.le_of_ble_eq_true rfl, Nat.le_of_ble_eq_true rfl⟩) hK hP hD hS hA rfl hl.1 rfl (Nat.le_of_ble_eq_true rfl) dX3_product_5 ⟨Nat.le_of_ble_eq_true rfl, Nat.le_of_ble_eq_true rfl⟩ (fun H locs hP hD hS => ?_)
  refine lv_lmul hx hb dX3_product_8 ?_
  refine lv_lload_n hx hb dX3_product_9 rfl (lv_at hl 0 rfl) ?_
  refine cT_l (As := [.long a1]) (rest := [.long ((F_X3_numerator a1) * (F_X3_numerator a2))]) ⟨hx, hb, hml, hown, hts⟩ (c_X3_denominator l D y _ a1) (va_cwS 1 hts gX3_product_X3_denominator rfl rfl rfl hd_X3_denominator ⟨Nat.le_of_ble_eq_true rfl, Nat.le_of_ble_eq_true rfl⟩) hK hP hD hS hA rfl hl.1 rfl (Nat.le_of_ble_eq_true rfl) dX3_product_10 ⟨Nat.le_of_ble_eq_true rfl, Nat.le_of_ble_eq_true rfl⟩ (fun H locs hP hD hS => ?_)
  refine lv_lload_n hx hb dX3_product_13 rfl (lv_at hl 1 rfl) ?_
  refine cT_l (As := [.long a2]) (rest := [.long (F_X3_denominator a1), .long ((F_X3_numerator a1) * (F_X3_numerator a2))]) ⟨hx, hb, hml, hown, hts⟩ (c_X3_denominator l D y _ a2) (va_cwS 1 hts gX3_product_X3_denominator rfl rfl rfl hd_X3_denominator ⟨Nat.le_of_ble_eq_true rfl, Nat.le_of_ble_eq_true rfl⟩) hK hP hD hS hA rfl hl.1 rfl (Nat.le_of_ble_eq_true rfl) dX3_product_14 ⟨Nat.le_of_ble_eq_true rfl, Nat.le_of_ble_eq_true rfl⟩ (fun H locs hP hD hS => ?_)
  refine lv_lmul hx hb dX3_product_17 ?_
  obtain ⟨r1, g2, h⟩ := fB1 h
  refine cT_l (As := [.long ((F_X3_numerator a1) * (F_X3_numerator a2)), .long ((F_X3_denominator a1) * (F_X3_denominator a2))]) (rest := []) ⟨hx, hb, hml, hown, hts⟩ (c_X3_inLowestTerms l D y _ ((F_X3_numerator a1) * (F_X3_numerator a2)) ((F_X3_denominator a1) * (F_X3_denominator a2)) r1 g2) (va_cwS 2 hts gX3_product_X3_inLowestTerms rfl rfl rfl hd_X3_inLowestTerms ⟨Nat.le_of_ble_eq_true rfl, Nat.le_of_ble_eq_true rfl⟩) hK hP hD hS hA rfl hl.1 rfl (Nat.le_of_ble_eq_true rfl) dX3_product_18 ⟨Nat.le_of_ble_eq_true rfl, Nat.le_of_ble_eq_true rfl⟩ (fun H locs hP hD hS => ?_)
  cases h
  exact hE _ _ _ _ dX3_product_21 hP hD hS
abbrev rm_X3_order : Room := { frames := 2, cells := 0, slots := 0, locals := 36 }
theorem hd_X3_order : yX3_order.cls ≠ "java/lang/invoke/MethodHandle" ∧ yX3_order.cls ≠ "java/lang/invoke/VarHandle" ∧ (parseMethodDescriptor yX3_order.desc).map (fun d => d.parameters.length) = some 2 := by decide +kernel
set_option maxHeartbeats 0 in
set_option maxRecDepth 100000 in
theorem c_X3_order (l : Launch) (D : va_G) (y : Nat → ClassId) (sz : Nat) (a1 : Int64) (a2 : Int64) : Met l yX3_order wsX3_order rm_X3_order (va_Pc [.long a1, .long a2] (px D y sz [])) (Qri D y sz [] [] (F_X3_order a1 a2)) 0 0 (va_A [] sz) := by
  refine hd_i (cc := cX3_order) (maxL := 8) rfl rfl (Nat.le_of_ble_eq_true rfl) ?_
  intro p e s m args below meth c A Q H locs ls hx hb hml hts hown _ hA hP hD hK hS hl hE
  have hl : lv_has ls 8 [(0, .long a1), (2, .long a2)] := hl
  refine lv_lload_n hx hb dX3_order_0 rfl (lv_at hl 0 rfl) ?_
  refine cT_l (As := [.long a1]) (rest := []) ⟨hx, hb, hml, hown, hts⟩ (c_X3_numerator l D y _ a1) (va_cwS 1 hts gX3_order_X3_numerator rfl rfl rfl hd_X3_numerator ⟨Nat.le_of_ble_eq_true rfl, Nat.le_of_ble_eq_true rfl⟩) hK hP hD hS hA rfl hl.1 rfl (Nat.le_of_ble_eq_true rfl) dX3_order_1 ⟨Nat.le_of_ble_eq_true rfl, Nat.le_of_ble_eq_true rfl⟩ (fun H locs hP hD hS => ?_)
  refine lv_lload_n hx hb dX3_order_4 rfl (lv_at hl 1 rfl) ?_
  refine cT_l (As := [.long a2]) (rest := [.long (F_X3_numerator a1)]) ⟨hx, hb, hml, hown, hts⟩ (c_X3_denominator l D y _ a2) (va_cwS 1 hts gX3_order_X3_denominator rfl rfl rfl hd_X3_denominator ⟨Nat.le_of_ble_eq_true rfl, Nat.le_of_ble_eq_true rfl⟩) hK hP hD hS hA rfl hl.1 rfl (Nat.le_of_ble_eq_true rfl) dX3_order_5 ⟨Nat.le_of_ble_eq_true rfl, Nat.le_of_ble_eq_true rfl⟩ (fun H locs hP hD hS => ?_)
  refine lv_lmul hx hb dX3_order_8 ?_
  refine lv_lstore (lv' := [(4, .long ((F_X3_numerator a1) * (F_X3_denominator a2))), (0, .long a1), (2, .long a2)]) hx hb dX3_order_9 hl (by decide) rfl (fun ls hl => ?_)
  refine lv_lload_n hx hb dX3_order_11 rfl (lv_at hl 2 rfl) ?_
  refine cT_l (As := [.long a2]) (rest := []) ⟨hx, hb, hml, hown, hts⟩ (c_X3_numerator l D y _ a2) (va_cwS 1 hts gX3_order_X3_numerator rfl rfl rfl hd_X3_numerator ⟨Nat.le_of_ble_eq_true rfl, Nat.le_of_ble_eq_true rfl⟩) hK hP hD hS hA rfl hl.1 rfl (Nat.le_of_ble_eq_true rfl) dX3_order_12 ⟨Nat.le_of_ble_eq_true rfl, Nat.le_of_ble_eq_true rfl⟩ (fun H locs hP hD hS => ?_)
  refine lv_lload_n hx hb dX3_order_15 rfl (lv_at hl 1 rfl) ?_
  refine cT_l (As := [.long a1]) (rest := [.long (F_X3_numerator a2)]) ⟨hx, hb, hml, hown, hts⟩ (c_X3_denominator l D y _ a1) (va_cwS 1 hts gX3_order_X3_denominator rfl rfl rfl hd_X3_denominator ⟨Nat.le_of_ble_eq_true rfl, Nat.le_of_ble_eq_true rfl⟩) hK hP hD hS hA rfl hl.1 rfl (Nat.le_of_ble_eq_true rfl) dX3_order_16 ⟨Nat.le_of_ble_eq_true rfl, Nat.le_of_ble_eq_true rfl⟩ (fun H locs hP hD hS => ?_)
  refine lv_lmul hx hb dX3_order_19 ?_
  refine lv_lstore (lv' := [(6, .long ((F_X3_numerator a2) * (F_X3_denominator a1))), (4, .long ((F_X3_numerator a1) * (F_X3_denominator a2))), (0, .long a1), (2, .long a2)]) hx hb dX3_order_20 hl (by decide) rfl (fun ls hl => ?_)
  refine lv_lload hx hb dX3_order_22 (lv_at hl 1 rfl) ?_
  refine lv_lload hx hb dX3_order_24 (lv_at hl 0 rfl) ?_
  refine lx_ne (tgt := 32) hx hb dX3_order_26 dX3_order_27 (by decide) (fun c1 => ?_) (fun c1 => ?_)
  · refine lv_lload hx hb dX3_order_32 (lv_at hl 1 rfl) ?_
    refine lv_lload hx hb dX3_order_34 (lv_at hl 0 rfl) ?_
    have J2 : ∀ (v3 : Int32) (ls : Array Slot), v3 = (if ((F_X3_numerator a2) * (F_X3_denominator a1)) ≤ ((F_X3_numerator a1) * (F_X3_denominator a2)) then (1 : Int32) else (-1 : Int32)) → lv_has ls 8 [(0, .long a1), (2, .long a2), (4, .long ((F_X3_numerator a1) * (F_X3_denominator a2))), (6, .long ((F_X3_numerator a2) * (F_X3_denominator a1)))] → W p l e rm_X3_order s m args below meth c H locs 0 0 Q (F0 m 45 ls [.int v3]) := by
      intro v3 ls ev3 hl
      subst ev3
      refine eqi (show (if ((F_X3_numerator a2) * (F_X3_denominator a1)) ≤ ((F_X3_numerator a1) * (F_X3_denominator a2)) then (1 : Int32) else (-1 : Int32)) = F_X3_order a1 a2 from by unfold F_X3_order; rw [if_neg c1]) ?_
      exact hE _ _ _ _ dX3_order_45 hP hD hS
    refine lx_ge (tgt := 44) hx hb dX3_order_36 dX3_order_37 (by decide) (fun c4 => ?_) (fun c4 => ?_)
    · refine lv_iconst (v := (1 : Int32)) hx hb dX3_order_44 (by decide) ?_
      exact J2 _ _ (by rw [if_pos c4]) (lv_sub hl [2, 3, 1, 0] rfl)
    · refine lv_iconst (v := (-1 : Int32)) hx hb dX3_order_40 (by decide) ?_
      refine lv_goto (tgt := 45) hx hb dX3_order_41 (by decide) ?_
      exact J2 _ _ (by rw [if_neg c4]) (lv_sub hl [2, 3, 1, 0] rfl)
  · refine lv_iconst (v := (0 : Int32)) hx hb dX3_order_30 (by decide) ?_
    refine eqi (show (0 : Int32) = F_X3_order a1 a2 from by unfold F_X3_order; rw [if_pos c1]) ?_
    exact hE _ _ _ _ dX3_order_31 hP hD hS
abbrev rm_X3_partsApart : Room := { frames := 2, cells := 0, slots := 0, locals := 36 }
theorem hd_X3_partsApart : yX3_partsApart.cls ≠ "java/lang/invoke/MethodHandle" ∧ yX3_partsApart.cls ≠ "java/lang/invoke/VarHandle" ∧ (parseMethodDescriptor yX3_partsApart.desc).map (fun d => d.parameters.length) = some 2 := by decide +kernel
set_option maxHeartbeats 0 in
set_option maxRecDepth 100000 in
theorem c_X3_partsApart (l : Launch) (D : va_G) (y : Nat → ClassId) (sz : Nat) (a1 : Int64) (a2 : Int32) (r : Int64) (h : F_X3_partsApart a1 a2 = some r) : Met l yX3_partsApart wsX3_partsApart rm_X3_partsApart (va_Pc [.long a1, .int a2] (px D y sz [])) (Qrl D y sz [] [] r) 0 0 (va_A [] sz) := by
  refine hd_l (cc := cX3_partsApart) (maxL := 5) rfl rfl (Nat.le_of_ble_eq_true rfl) ?_
  intro p e s m args below meth c A Q H locs ls hx hb hml hts hown _ hA hP hD hK hS hl hE
  have hl : lv_has ls 5 [(0, .long a1), (2, .int a2)] := hl
  have q0 := hts (.methodLink RX3 39 Lib.MathLoose.min_long.x) (by decide +kernel)
  have q1 := hts (.static Lib.MathLoose.min_long.x) (by decide +kernel)
  have q2 := hts (.initialized "java/lang/Math") (by decide +kernel)
  have q3 := hts (.code Lib.MathLoose.min_long.x Lib.MathLoose.min_long.code 4 (some .long)) (by decide +kernel)
  unfold F_X3_partsApart at h
  refine lv_lload_n hx hb dX3_partsApart_0 rfl (lv_at hl 0 rfl) ?_
  refine cT_l (As := [.long a1]) (rest := []) ⟨hx, hb, hml, hown, hts⟩ (c_X3_numerator l D y _ a1) (va_cwS 1 hts gX3_partsApart_X3_numerator rfl rfl rfl hd_X3_numerator ⟨Nat.le_of_ble_eq_true rfl, Nat.le_of_ble_eq_true rfl⟩) hK hP hD hS hA rfl hl.1 rfl (Nat.le_of_ble_eq_true rfl) dX3_partsApart_1 ⟨Nat.le_of_ble_eq_true rfl, Nat.le_of_ble_eq_true rfl⟩ (fun H locs hP hD hS => ?_)
  refine lv_iload_n hx hb dX3_partsApart_4 rfl (lv_at hl 1 rfl) ?_
  refine lv_i2l (v := a2.toInt64) hx hb dX3_partsApart_5 rfl ?_
  refine lv_lmul hx hb dX3_partsApart_6 ?_
  refine lv_lload_n hx hb dX3_partsApart_7 rfl (lv_at hl 0 rfl) ?_
  refine cT_l (As := [.long a1]) (rest := [.long ((F_X3_numerator a1) * a2.toInt64)]) ⟨hx, hb, hml, hown, hts⟩ (c_X3_denominator l D y _ a1) (va_cwS 1 hts gX3_partsApart_X3_denominator rfl rfl rfl hd_X3_denominator ⟨Nat.le_of_ble_eq_true rfl, Nat.le_of_ble_eq_true rfl⟩) hK hP hD hS hA rfl hl.1 rfl (Nat.le_of_ble_eq_true rfl) dX3_partsApart_8 ⟨Nat.le_of_ble_eq_true rfl, Nat.le_of_ble_eq_true rfl⟩ (fun H locs hP hD hS => ?_)
  obtain ⟨g1, h⟩ := fG h
  refine lv_lrem hx hb dX3_partsApart_11 g1 ?_
  refine lv_lstore_n (lv' := [(3, .long (((F_X3_numerator a1) * a2.toInt64) - ((F_X3_numerator a1) * a2.toInt64) / (F_X3_denominator a1) * (F_X3_denominator a1))), (0, .long a1), (2, .int a2)]) hx hb dX3_partsApart_12 rfl hl (by decide) rfl (fun ls hl => ?_)
  refine lv_lload_n hx hb dX3_partsApart_13 rfl (lv_at hl 0 rfl) ?_
  refine lv_lload_n hx hb dX3_partsApart_14 rfl (lv_at hl 1 rfl) ?_
  refine cT_l (As := [.long a1]) (rest := [.long (((F_X3_numerator a1) * a2.toInt64) - ((F_X3_numerator a1) * a2.toInt64) / (F_X3_denominator a1) * (F_X3_denominator a1))]) ⟨hx, hb, hml, hown, hts⟩ (c_X3_denominator l D y _ a1) (va_cwS 1 hts gX3_partsApart_X3_denominator rfl rfl rfl hd_X3_denominator ⟨Nat.le_of_ble_eq_true rfl, Nat.le_of_ble_eq_true rfl⟩) hK hP hD hS hA rfl hl.1 rfl (Nat.le_of_ble_eq_true rfl) dX3_partsApart_15 ⟨Nat.le_of_ble_eq_true rfl, Nat.le_of_ble_eq_true rfl⟩ (fun H locs hP hD hS => ?_)
  refine lv_lload_n hx hb dX3_partsApart_18 rfl (lv_at hl 0 rfl) ?_
  refine lv_lsub hx hb dX3_partsApart_19 ?_
  refine va_mmin_long hx hb (hml.trans hl.1.symm) hown q0 q1 q2 q3 (Nat.le_of_ble_eq_true rfl) (Nat.le_of_ble_eq_true rfl) (Nat.zero_le _) (Nat.zero_le _) dX3_partsApart_20 ?_
  cases h
  exact hE _ _ _ _ dX3_partsApart_23 hP hD hS
abbrev rm_X4_count : Room := { frames := 0, cells := 0, slots := 0, locals := 0 }
theorem hd_X4_count : yX4_count.cls = RX4 ∧ yX4_count.cls ≠ "java/lang/invoke/MethodHandle" ∧ yX4_count.cls ≠ "java/lang/invoke/VarHandle" ∧ (parseMethodDescriptor yX4_count.desc).map (fun d => d.parameters.length) = some 0 := by decide +kernel
set_option maxHeartbeats 0 in
set_option maxRecDepth 100000 in
theorem c_X4_count (l : Launch) (D : va_G) (o : Nat → Nat) (y : Nat → ClassId) (sz : Nat) (hs : Nat → Int64) (ho : Int32) (hc : Int32) : Met l yX4_count wsX4_count rm_X4_count (va_Pc [.ref (o 8)] (px D y sz (HI o y hs ho hc))) (Qri D y sz (HI o y hs ho hc) (HI o y hs ho hc) (F_X4_count hc)) 0 0 (va_A (HI o y hs ho hc) sz) := by
  refine hd_i (cc := cX4_count) (maxL := 1) rfl rfl (Nat.le_of_ble_eq_true rfl) ?_
  intro p e s m args below meth c A Q H locs ls hx hb hml hts hown _ hA hP hD hK hS hl hE
  have hl : lv_has ls 1 [(0, .ref (o 8))] := hl
  have q0 := hts (.fieldLink RX4 15 "SliceShares$History" "count" "I") (by decide +kernel)
  have hinRX4 : ∀ w ∈ wsX40, w ∈ wsX4_count := by decide +kernel
  refine lv_aload_n hx hb dX4_count_0 rfl (lv_at hl 0 rfl) ?_
  refine va_get (D := D) (ci := 3) (C := RX4) (T := TX4) (N := 3) hx hb hts hinRX4 hown hK hP 0 rfl rfl 2 (by decide) q0 (fun _ h9 => h9) rfl dX4_count_1 ?_
  exact hE _ _ _ _ dX4_count_4 hP hD hS
abbrev rm_X4_startBehindOldest : Room := { frames := 0, cells := 0, slots := 0, locals := 0 }
theorem hd_X4_startBehindOldest : yX4_startBehindOldest.cls = RX4 ∧ yX4_startBehindOldest.cls ≠ "java/lang/invoke/MethodHandle" ∧ yX4_startBehindOldest.cls ≠ "java/lang/invoke/VarHandle" ∧ (parseMethodDescriptor yX4_startBehindOldest.desc).map (fun d => d.parameters.length) = some 1 := by decide +kernel
set_option maxHeartbeats 0 in
set_option maxRecDepth 100000 in
theorem c_X4_startBehindOldest (l : Launch) (D : va_G) (o : Nat → Nat) (y : Nat → ClassId) (sz : Nat) (hs : Nat → Int64) (ho : Int32) (hc : Int32) (a1 : Int32) : Met l yX4_startBehindOldest wsX4_startBehindOldest rm_X4_startBehindOldest (va_Pc [.ref (o 8), .int a1] (px D y sz (HI o y hs ho hc))) (Qri D y sz (HI o y hs ho hc) (HI o y hs ho hc) (F_X4_startBehindOldest ho a1)) 0 0 (va_A (HI o y hs ho hc) sz) := by
  refine hd_i (cc := cX4_startBehindOldest) (maxL := 2) rfl rfl (Nat.le_of_ble_eq_true rfl) ?_
  intro p e s m args below meth c A Q H locs ls hx hb hml hts hown _ hA hP hD hK hS hl hE
  have hl : lv_has ls 2 [(0, .ref (o 8)), (1, .int a1)] := hl
  have q0 := hts (.fieldLink RX4 29 "SliceShares$History" "oldest" "I") (by decide +kernel)
  have hinRX4 : ∀ w ∈ wsX40, w ∈ wsX4_startBehindOldest := by decide +kernel
  refine lv_aload_n hx hb dX4_startBehindOldest_0 rfl (lv_at hl 0 rfl) ?_
  refine va_get (D := D) (ci := 3) (C := RX4) (T := TX4) (N := 3) hx hb hts hinRX4 hown hK hP 0 rfl rfl 1 (by decide) q0 (fun _ h9 => h9) rfl dX4_startBehindOldest_1 ?_
  refine lv_iload_n hx hb dX4_startBehindOldest_4 rfl (lv_at hl 1 rfl) ?_
  refine lv_iadd hx hb dX4_startBehindOldest_5 ?_
  refine lv_bipush (v := (6 : Int32)) hx hb dX4_startBehindOldest_6 (by decide) ?_
  refine lv_irem hx hb dX4_startBehindOldest_8 (by decide) ?_
  refine lv_bipush (v := (6 : Int32)) hx hb dX4_startBehindOldest_9 (by decide) ?_
  refine lv_imul hx hb dX4_startBehindOldest_11 ?_
  exact hE _ _ _ _ dX4_startBehindOldest_12 hP hD hS
abbrev rm_X4_record : Room := { frames := 1, cells := 0, slots := 0, locals := 21 }
theorem hd_X4_record : yX4_record.cls = RX4 ∧ yX4_record.cls ≠ "java/lang/invoke/MethodHandle" ∧ yX4_record.cls ≠ "java/lang/invoke/VarHandle" ∧ (parseMethodDescriptor yX4_record.desc).map (fun d => d.parameters.length) = some 1 := by decide +kernel
set_option maxHeartbeats 0 in
set_option maxRecDepth 100000 in
theorem c_X4_record (l : Launch) (D : va_G) (o : Nat → Nat) (y : Nat → ClassId) (sz : Nat) (pl : Nat → Int64) (hs : Nat → Int64) (ho : Int32) (hc : Int32) (hs' : Nat → Int64) (ho' : Int32) (hc' : Int32) (h : F_X4_record pl hs ho hc = some (hs', ho', hc')) : Met l yX4_record wsX4_record rm_X4_record (va_Pc [.ref (o 8), .ref (o 1)] (px D y sz (HP o y pl hs ho hc))) (Qrv D y sz (HP o y pl hs ho hc) (HP o y pl hs' ho' hc')) 0 0 (va_A (HP o y pl hs ho hc) sz) := by
  refine hd_v (cc := cX4_record) (maxL := 2) rfl rfl (Nat.le_of_ble_eq_true rfl) ?_
  intro p e s m args below meth c A Q H locs ls hx hb hml hts hown _ hA hP hD hK hS hl hE
  have hl : lv_has ls 2 [(0, .ref (o 8)), (1, .ref (o 1))] := hl
  have q0 := hts (.fieldLink RX4 11 "SliceShares$History" "states" "[J") (by decide +kernel)
  have q1 := hts (.fieldLink RX4 15 "SliceShares$History" "count" "I") (by decide +kernel)
  have q2 := hts (.methodLink RX4 23 arraycopyName) (by decide +kernel)
  have q3 := hts (.native arraycopyName) (by decide +kernel)
  have q4 := hts (.static arraycopyName) (by decide +kernel)
  have q5 := hts (.initialized "java/lang/System") (by decide +kernel)
  have q6 := hts (.fieldLink RX4 29 "SliceShares$History" "oldest" "I") (by decide +kernel)
  have hinRX4 : ∀ w ∈ wsX40, w ∈ wsX4_record := by decide +kernel
  unfold F_X4_record at h
  refine lv_aload_n hx hb dX4_record_0 rfl (lv_at hl 1 rfl) ?_
  refine lv_iconst (v := (0 : Int32)) hx hb dX4_record_1 (by decide) ?_
  refine lv_aload_n hx hb dX4_record_2 rfl (lv_at hl 0 rfl) ?_
  refine va_get (D := D) (ci := 3) (C := RX4) (T := TX4) (N := 3) hx hb hts hinRX4 hown hK hP 0 rfl rfl 0 (by decide) q0 (fun _ h9 => h9) rfl dX4_record_3 ?_
  refine lv_aload_n hx hb dX4_record_6 rfl (lv_at hl 0 rfl) ?_
  refine lv_aload_n hx hb dX4_record_7 rfl (lv_at hl 0 rfl) ?_
  refine va_get (D := D) (ci := 3) (C := RX4) (T := TX4) (N := 3) hx hb hts hinRX4 hown hK hP 0 rfl rfl 2 (by decide) q1 (fun _ h9 => h9) rfl dX4_record_8 ?_
  refine cV_i (As := [.int hc]) (rest := [.ref (o 9), .int (0 : Int32), .ref (o 1)]) (ws1 := (HP o y pl hs ho hc)) ⟨hx, hb, hml, hown, hts⟩ (c_X4_startBehindOldest l D o y _ hs ho hc hc) (cwV 1 hts gX4_record_X4_startBehindOldest rfl rfl rfl hd_X4_startBehindOldest ⟨Nat.le_of_ble_eq_true rfl, Nat.le_of_ble_eq_true rfl⟩) hK hP hD hS hA [0, 1] [2] [1, 2, 0] rfl rfl rfl (by decide) rfl rfl rfl 0 (ci := 3) rfl rfl rfl hl.1 rfl (Nat.le_of_ble_eq_true rfl) dX4_record_11 ⟨Nat.le_of_ble_eq_true rfl, Nat.le_of_ble_eq_true rfl⟩ (fun H locs hP hD hS => ?_)
  refine lv_bipush (v := (6 : Int32)) hx hb dX4_record_14 (by decide) ?_
  obtain ⟨g1, h⟩ := fG h
  refine va_copyl (n := (6 : Int32)) hx hb (hml.trans hl.1.symm) hown q2 q3 q4 q5 hK hP hD hS 2 1 1 1 rfl rfl rfl rfl rfl (by decide) (fun q => g1 (Or.inl q)) (by decide) (by decide) (Nat.le_of_not_lt (fun q => g1 (Or.inr q))) (fun _ _ => rfl) (Nat.le_of_ble_eq_true rfl) (Nat.le_of_ble_eq_true rfl) dX4_record_16 (fun H locs hP hD hS => ?_)
  have hP : va_P D vwCl (HP o y pl (va_cpy pl hs (0 : Int32).toNatClampNeg (F_X4_startBehindOldest ho hc).toNatClampNeg (6 : Int32).toNatClampNeg) ho hc) H := hP
  have hD : va_D A (HP o y pl (va_cpy pl hs (0 : Int32).toNatClampNeg (F_X4_startBehindOldest ho hc).toNatClampNeg (6 : Int32).toNatClampNeg) ho hc) := hD
  refine lv_aload_n hx hb dX4_record_19 rfl (lv_at hl 0 rfl) ?_
  refine va_get (D := D) (ci := 3) (C := RX4) (T := TX4) (N := 3) hx hb hts hinRX4 hown hK hP 0 rfl rfl 2 (by decide) q1 (fun _ h9 => h9) rfl dX4_record_20 ?_
  refine lv_bipush (v := (6 : Int32)) hx hb dX4_record_23 (by decide) ?_
  refine lv_icmp_ge (tgt := 41) hx hb dX4_record_25 (by decide) (fun c2 => ?_) (fun c2 => ?_)
  · replace h := fT c2 h
    refine lv_aload_n hx hb dX4_record_41 rfl (lv_at hl 0 rfl) ?_
    refine lv_aload_n hx hb dX4_record_42 rfl (lv_at hl 0 rfl) ?_
    refine va_get (D := D) (ci := 3) (C := RX4) (T := TX4) (N := 3) hx hb hts hinRX4 hown hK hP 0 rfl rfl 1 (by decide) q6 (fun _ h9 => h9) rfl dX4_record_43 ?_
    refine lv_iconst (v := (1 : Int32)) hx hb dX4_record_46 (by decide) ?_
    refine lv_iadd hx hb dX4_record_47 ?_
    refine lv_bipush (v := (6 : Int32)) hx hb dX4_record_48 (by decide) ?_
    refine lv_irem hx hb dX4_record_50 (by decide) ?_
    refine va_put (D := D) (ci := 3) (v := .int ((ho + (1 : Int32)) - (ho + (1 : Int32)) / (6 : Int32) * (6 : Int32))) (ty := .int) (C := RX4) (T := TX4) (N := 3) hx hb hts hinRX4 tyX4 tyX4_ok nmX4 hown hK hP hD hS 0 rfl rfl 1 (by decide) q6 (fun _ h9 => h9) rfl (by decide +kernel) rfl rfl (Nat.le_of_ble_eq_true rfl) dX4_record_51 (fun H locs hP hD hS => ?_)
    have hP : va_P D vwCl (HP o y pl (va_cpy pl hs (0 : Int32).toNatClampNeg (F_X4_startBehindOldest ho hc).toNatClampNeg (6 : Int32).toNatClampNeg) ((ho + (1 : Int32)) - (ho + (1 : Int32)) / (6 : Int32) * (6 : Int32)) hc) H := hP
    have hD : va_D A (HP o y pl (va_cpy pl hs (0 : Int32).toNatClampNeg (F_X4_startBehindOldest ho hc).toNatClampNeg (6 : Int32).toNatClampNeg) ((ho + (1 : Int32)) - (ho + (1 : Int32)) / (6 : Int32) * (6 : Int32)) hc) := hD
    cases h
    exact hE _ _ _ _ dX4_record_54 hP hD hS
  · replace h := fF c2 h
    refine lv_aload_n hx hb dX4_record_28 rfl (lv_at hl 0 rfl) ?_
    refine lv_dup hx hb dX4_record_29 rfl ?_
    refine va_get (D := D) (ci := 3) (C := RX4) (T := TX4) (N := 3) hx hb hts hinRX4 hown hK hP 0 rfl rfl 2 (by decide) q1 (fun _ h9 => h9) rfl dX4_record_30 ?_
    refine lv_iconst (v := (1 : Int32)) hx hb dX4_record_33 (by decide) ?_
    refine lv_iadd hx hb dX4_record_34 ?_
    refine va_put (D := D) (ci := 3) (v := .int (hc + (1 : Int32))) (ty := .int) (C := RX4) (T := TX4) (N := 3) hx hb hts hinRX4 tyX4 tyX4_ok nmX4 hown hK hP hD hS 0 rfl rfl 2 (by decide) q1 (fun _ h9 => h9) rfl (by decide +kernel) rfl rfl (Nat.le_of_ble_eq_true rfl) dX4_record_35 (fun H locs hP hD hS => ?_)
    have hP : va_P D vwCl (HP o y pl (va_cpy pl hs (0 : Int32).toNatClampNeg (F_X4_startBehindOldest ho hc).toNatClampNeg (6 : Int32).toNatClampNeg) ho (hc + (1 : Int32))) H := hP
    have hD : va_D A (HP o y pl (va_cpy pl hs (0 : Int32).toNatClampNeg (F_X4_startBehindOldest ho hc).toNatClampNeg (6 : Int32).toNatClampNeg) ho (hc + (1 : Int32))) := hD
    refine lv_goto (tgt := 54) hx hb dX4_record_38 (by decide) ?_
    cases h
    exact hE _ _ _ _ dX4_record_54 hP hD hS
abbrev rm_X4_restore : Room := { frames := 1, cells := 0, slots := 0, locals := 21 }
theorem hd_X4_restore : yX4_restore.cls = RX4 ∧ yX4_restore.cls ≠ "java/lang/invoke/MethodHandle" ∧ yX4_restore.cls ≠ "java/lang/invoke/VarHandle" ∧ (parseMethodDescriptor yX4_restore.desc).map (fun d => d.parameters.length) = some 1 := by decide +kernel
set_option maxHeartbeats 0 in
set_option maxRecDepth 100000 in
theorem c_X4_restore (l : Launch) (D : va_G) (o : Nat → Nat) (y : Nat → ClassId) (sz : Nat) (pl : Nat → Int64) (hs : Nat → Int64) (ho : Int32) (hc : Int32) (pl' : Nat → Int64) (hc' : Int32) (h : F_X4_restore pl hs ho hc = some (pl', hc')) : Met l yX4_restore wsX4_restore rm_X4_restore (va_Pc [.ref (o 8), .ref (o 1)] (px D y sz (HP o y pl hs ho hc))) (Qrv D y sz (HP o y pl hs ho hc) (HP o y pl' hs ho hc')) 0 0 (va_A (HP o y pl hs ho hc) sz) := by
  refine hd_v (cc := cX4_restore) (maxL := 2) rfl rfl (Nat.le_of_ble_eq_true rfl) ?_
  intro p e s m args below meth c A Q H locs ls hx hb hml hts hown _ hA hP hD hK hS hl hE
  have hl : lv_has ls 2 [(0, .ref (o 8)), (1, .ref (o 1))] := hl
  have q0 := hts (.fieldLink RX4 15 "SliceShares$History" "count" "I") (by decide +kernel)
  have q1 := hts (.fieldLink RX4 11 "SliceShares$History" "states" "[J") (by decide +kernel)
  have q2 := hts (.methodLink RX4 23 arraycopyName) (by decide +kernel)
  have q3 := hts (.native arraycopyName) (by decide +kernel)
  have q4 := hts (.static arraycopyName) (by decide +kernel)
  have q5 := hts (.initialized "java/lang/System") (by decide +kernel)
  have hinRX4 : ∀ w ∈ wsX40, w ∈ wsX4_restore := by decide +kernel
  unfold F_X4_restore at h
  refine lv_aload_n hx hb dX4_restore_0 rfl (lv_at hl 0 rfl) ?_
  refine lv_dup hx hb dX4_restore_1 rfl ?_
  refine va_get (D := D) (ci := 3) (C := RX4) (T := TX4) (N := 3) hx hb hts hinRX4 hown hK hP 0 rfl rfl 2 (by decide) q0 (fun _ h9 => h9) rfl dX4_restore_2 ?_
  refine lv_iconst (v := (1 : Int32)) hx hb dX4_restore_5 (by decide) ?_
  refine lv_isub hx hb dX4_restore_6 ?_
  refine va_put (D := D) (ci := 3) (v := .int (hc - (1 : Int32))) (ty := .int) (C := RX4) (T := TX4) (N := 3) hx hb hts hinRX4 tyX4 tyX4_ok nmX4 hown hK hP hD hS 0 rfl rfl 2 (by decide) q0 (fun _ h9 => h9) rfl (by decide +kernel) rfl rfl (Nat.le_of_ble_eq_true rfl) dX4_restore_7 (fun H locs hP hD hS => ?_)
  have hP : va_P D vwCl (HP o y pl hs ho (hc - (1 : Int32))) H := hP
  have hD : va_D A (HP o y pl hs ho (hc - (1 : Int32))) := hD
  refine lv_aload_n hx hb dX4_restore_10 rfl (lv_at hl 0 rfl) ?_
  refine va_get (D := D) (ci := 3) (C := RX4) (T := TX4) (N := 3) hx hb hts hinRX4 hown hK hP 0 rfl rfl 0 (by decide) q1 (fun _ h9 => h9) rfl dX4_restore_11 ?_
  refine lv_aload_n hx hb dX4_restore_14 rfl (lv_at hl 0 rfl) ?_
  refine lv_aload_n hx hb dX4_restore_15 rfl (lv_at hl 0 rfl) ?_
  refine va_get (D := D) (ci := 3) (C := RX4) (T := TX4) (N := 3) hx hb hts hinRX4 hown hK hP 0 rfl rfl 2 (by decide) q0 (fun _ h9 => h9) rfl dX4_restore_16 ?_
  refine cV_i (As := [.int (hc - (1 : Int32))]) (rest := [.ref (o 9)]) (ws1 := (HP o y pl hs ho (hc - (1 : Int32)))) ⟨hx, hb, hml, hown, hts⟩ (c_X4_startBehindOldest l D o y _ hs ho (hc - (1 : Int32)) (hc - (1 : Int32))) (cwV 1 hts gX4_restore_X4_startBehindOldest rfl rfl rfl hd_X4_startBehindOldest ⟨Nat.le_of_ble_eq_true rfl, Nat.le_of_ble_eq_true rfl⟩) hK hP hD hS hA [0, 1] [2] [1, 2, 0] rfl rfl rfl (by decide) rfl rfl rfl 0 (ci := 3) rfl rfl rfl hl.1 rfl (Nat.le_of_ble_eq_true rfl) dX4_restore_19 ⟨Nat.le_of_ble_eq_true rfl, Nat.le_of_ble_eq_true rfl⟩ (fun H locs hP hD hS => ?_)
  refine lv_aload_n hx hb dX4_restore_22 rfl (lv_at hl 1 rfl) ?_
  refine lv_iconst (v := (0 : Int32)) hx hb dX4_restore_23 (by decide) ?_
  refine lv_bipush (v := (6 : Int32)) hx hb dX4_restore_24 (by decide) ?_
  obtain ⟨g1, h⟩ := fG h
  refine va_copyl (n := (6 : Int32)) hx hb (hml.trans hl.1.symm) hown q2 q3 q4 q5 hK hP hD hS 1 2 1 1 rfl rfl rfl rfl rfl (fun q => g1 (Or.inl q)) (by decide) (by decide) (Nat.le_of_not_lt (fun q => g1 (Or.inr q))) (by decide) (fun _ _ => rfl) (Nat.le_of_ble_eq_true rfl) (Nat.le_of_ble_eq_true rfl) dX4_restore_26 (fun H locs hP hD hS => ?_)
  have hP : va_P D vwCl (HP o y (va_cpy hs pl (F_X4_startBehindOldest ho (hc - (1 : Int32))).toNatClampNeg (0 : Int32).toNatClampNeg (6 : Int32).toNatClampNeg) hs ho (hc - (1 : Int32))) H := hP
  have hD : va_D A (HP o y (va_cpy hs pl (F_X4_startBehindOldest ho (hc - (1 : Int32))).toNatClampNeg (0 : Int32).toNatClampNeg (6 : Int32).toNatClampNeg) hs ho (hc - (1 : Int32))) := hD
  cases h
  exact hE _ _ _ _ dX4_restore_29 hP hD hS
abbrev rm_X5_unit : Room := { frames := 2, cells := 0, slots := 0, locals := 36 }
theorem hd_X5_unit : yX5_unit.cls ≠ "java/lang/invoke/MethodHandle" ∧ yX5_unit.cls ≠ "java/lang/invoke/VarHandle" ∧ (parseMethodDescriptor yX5_unit.desc).map (fun d => d.parameters.length) = some 2 := by decide +kernel
set_option maxHeartbeats 0 in
set_option maxRecDepth 100000 in
theorem c_X5_unit (l : Launch) (D : va_G) (y : Nat → ClassId) (sz : Nat) (a1 : Int64) (a2 : Int32) (r : Int32) (h : F_X5_unit a1 a2 = some r) : Met l yX5_unit wsX5_unit rm_X5_unit (va_Pc [.long a1, .int a2] (px D y sz [])) (Qri D y sz [] [] r) 0 0 (va_A [] sz) := by
  refine hd_i (cc := cX5_unit) (maxL := 10) rfl rfl (Nat.le_of_ble_eq_true rfl) ?_
  intro p e s m args below meth c A Q H locs ls hx hb hml hts hown _ hA hP hD hK hS hl hE
  have hl : lv_has ls 10 [(0, .long a1), (2, .int a2)] := hl
  have q0 := hts (.constantLong RX5 24 (1000000000)) (by decide +kernel)
  have q1 := hts (.constantLong RX5 26 (40000)) (by decide +kernel)
  unfold F_X5_unit at h
  refine lv_lload_n hx hb dX5_unit_0 rfl (lv_at hl 0 rfl) ?_
  refine cT_l (As := [.long a1]) (rest := []) ⟨hx, hb, hml, hown, hts⟩ (c_X3_numerator l D y _ a1) (va_cwS 1 hts gX5_unit_X3_numerator rfl rfl rfl hd_X3_numerator ⟨Nat.le_of_ble_eq_true rfl, Nat.le_of_ble_eq_true rfl⟩) hK hP hD hS hA rfl hl.1 rfl (Nat.le_of_ble_eq_true rfl) dX5_unit_1 ⟨Nat.le_of_ble_eq_true rfl, Nat.le_of_ble_eq_true rfl⟩ (fun H locs hP hD hS => ?_)
  refine lv_lstore_n (lv' := [(3, .long (F_X3_numerator a1)), (0, .long a1), (2, .int a2)]) hx hb dX5_unit_4 rfl hl (by decide) rfl (fun ls hl => ?_)
  refine lv_lload_n hx hb dX5_unit_5 rfl (lv_at hl 1 rfl) ?_
  refine cT_l (As := [.long a1]) (rest := []) ⟨hx, hb, hml, hown, hts⟩ (c_X3_denominator l D y _ a1) (va_cwS 1 hts gX5_unit_X3_denominator rfl rfl rfl hd_X3_denominator ⟨Nat.le_of_ble_eq_true rfl, Nat.le_of_ble_eq_true rfl⟩) hK hP hD hS hA rfl hl.1 rfl (Nat.le_of_ble_eq_true rfl) dX5_unit_6 ⟨Nat.le_of_ble_eq_true rfl, Nat.le_of_ble_eq_true rfl⟩ (fun H locs hP hD hS => ?_)
  refine lv_lstore (lv' := [(5, .long (F_X3_denominator a1)), (3, .long (F_X3_numerator a1)), (0, .long a1), (2, .int a2)]) hx hb dX5_unit_9 hl (by decide) rfl (fun ls hl => ?_)
  refine lv_iconst (v := (0 : Int32)) hx hb dX5_unit_11 (by decide) ?_
  refine lv_istore (lv' := [(7, .int (0 : Int32)), (5, .long (F_X3_denominator a1)), (3, .long (F_X3_numerator a1)), (0, .long a1), (2, .int a2)]) hx hb dX5_unit_12 hl (by decide) rfl (fun ls hl => ?_)
  obtain ⟨t4, v5, g6, h⟩ := fB2 h
  have J7 : t4 = 0 → ∀ (H : Heap) (locs : List Loc) (ls : Array Slot), va_P D vwCl [] H → va_D A [] → va_S A s.heap H locs → lv_has ls 10 [] → W p l e rm_X5_unit s m args below meth c H locs 0 0 Q (F0 m 46 ls []) := by
    intro ht H locs ls hP hD hS hl
    replace h := fT ht h
    refine lv_iconst (v := (-1 : Int32)) hx hb dX5_unit_46 (by decide) ?_
    cases h
    exact hE _ _ _ _ dX5_unit_47 hP hD hS
  have J8 : t4 = 1 → ∀ (H : Heap) (locs : List Loc) (ls : Array Slot), va_P D vwCl [] H → va_D A [] → va_S A s.heap H locs → lv_has ls 10 [(8, .long v5)] → W p l e rm_X5_unit s m args below meth c H locs 0 0 Q (F0 m 54 ls []) := by
    intro ht H locs ls hP hD hS hl
    replace h := fF (show ¬ t4 = 0 by omega) h
    replace h := fT ht h
    refine lv_lload hx hb dX5_unit_54 (lv_at hl 0 rfl) ?_
    refine lv_l2i (v := v5.toInt32) hx hb dX5_unit_56 rfl ?_
    cases h
    exact hE _ _ _ _ dX5_unit_57 hP hD hS
  have J9 : t4 = 2 → ∀ (H : Heap) (locs : List Loc) (ls : Array Slot), va_P D vwCl [] H → va_D A [] → va_S A s.heap H locs → lv_has ls 10 [] → W p l e rm_X5_unit s m args below meth c H locs 0 0 Q (F0 m 81 ls []) := by
    intro ht H locs ls hP hD hS hl
    replace h := fF (show ¬ t4 = 0 by omega) h
    replace h := fF (show ¬ t4 = 1 by omega) h
    replace h := fT ht h
    refine lv_iconst (v := (-1 : Int32)) hx hb dX5_unit_81 (by decide) ?_
    cases h
    exact hE _ _ _ _ dX5_unit_82 hP hD hS
  have J10 : t4 = 3 → ∀ (H : Heap) (locs : List Loc) (ls : Array Slot), va_P D vwCl [] H → va_D A [] → va_S A s.heap H locs → lv_has ls 10 [] → W p l e rm_X5_unit s m args below meth c H locs 0 0 Q (F0 m 96 ls []) := by
    intro ht H locs ls hP hD hS hl
    replace h := fF (show ¬ t4 = 0 by omega) h
    replace h := fF (show ¬ t4 = 1 by omega) h
    replace h := fF (show ¬ t4 = 2 by omega) h
    refine lv_iconst (v := (0 : Int32)) hx hb dX5_unit_96 (by decide) ?_
    cases h
    exact hE _ _ _ _ dX5_unit_97 hP hD hS
  have LP11 : ∀ (n : Nat) (x1 : Int64) (x2 : Int64) (x3 : Int32) (H : Heap) (locs : List Loc) (ls : Array Slot), L_X5_unit_14 n a2 x1 x2 x3 = some (t4, v5) → va_P D vwCl [] H → va_D A [] → va_S A s.heap H locs → lv_has ls 10 [(2, .int a2), (3, .long x1), (5, .long x2), (7, .int x3)] → W p l e rm_X5_unit s m args below meth c H locs 0 0 Q (F0 m 14 ls []) := by
    intro n
    induction n with
    | zero => intro x1 x2 x3 H locs ls h hP hD hS hl; exact fN h
    | succ n ih =>
      intro x1 x2 x3 H locs ls h hP hD hS hl
      replace h := (L_X5_unit_14_s n a2 x1 x2 x3).symm.trans h
      refine lv_iload hx hb dX5_unit_14 (lv_at hl 3 rfl) ?_
      refine lv_bipush (v := (8 : Int32)) hx hb dX5_unit_16 (by decide) ?_
      refine lv_icmp_ge (tgt := 96) hx hb dX5_unit_18 (by decide) (fun c12 => ?_) (fun c12 => ?_)
      · replace h := fT c12 h
        cases h
        exact J10 rfl _ _ _ hP hD hS (lv_sub hl [] rfl)
      · replace h := fF c12 h
        refine lv_lload_n hx hb dX5_unit_21 rfl (lv_at hl 1 rfl) ?_
        refine lv_lconst (v := (0 : Int64)) hx hb dX5_unit_22 rfl ?_
        refine lx_le (tgt := 96) hx hb dX5_unit_23 dX5_unit_24 (by decide) (fun c13 => ?_) (fun c13 => ?_)
        · replace h := fT c13 h
          cases h
          exact J10 rfl _ _ _ hP hD hS (lv_sub hl [] rfl)
        · replace h := fF c13 h
          refine lv_lload hx hb dX5_unit_27 (lv_at hl 2 rfl) ?_
          refine lv_lload_n hx hb dX5_unit_29 rfl (lv_at hl 1 rfl) ?_
          refine lv_ladd hx hb dX5_unit_30 ?_
          refine lv_lconst (v := (1 : Int64)) hx hb dX5_unit_31 rfl ?_
          refine lv_lsub hx hb dX5_unit_32 ?_
          refine lv_lload_n hx hb dX5_unit_33 rfl (lv_at hl 1 rfl) ?_
          obtain ⟨g14, h⟩ := fG h
          refine lv_ldiv hx hb dX5_unit_34 g14 ?_
          refine lv_lstore (lv' := [(8, .long (((x2 + x1) - (1 : Int64)) / x1)), (2, .int a2), (3, .long x1), (5, .long x2), (7, .int x3)]) hx hb dX5_unit_35 hl (by decide) rfl (fun ls hl => ?_)
          refine lv_lload hx hb dX5_unit_37 (lv_at hl 0 rfl) ?_
          refine lv_ldc2 (v := (1000000000 : Int64)) hx hb hown q0 dX5_unit_39 ?_
          refine lx_le (tgt := 48) hx hb dX5_unit_42 dX5_unit_43 (by decide) (fun c15 => ?_) (fun c15 => ?_)
          · replace h := fT c15 h
            refine lv_iload hx hb dX5_unit_48 (lv_at hl 4 rfl) ?_
            refine lv_iload_n hx hb dX5_unit_50 rfl (lv_at hl 1 rfl) ?_
            refine lv_icmp_ne (tgt := 58) hx hb dX5_unit_51 (by decide) (fun c16 => ?_) (fun c16 => ?_)
            · replace h := fF c16 h
              refine lv_lload_n hx hb dX5_unit_58 rfl (lv_at hl 2 rfl) ?_
              refine lv_lload hx hb dX5_unit_59 (lv_at hl 0 rfl) ?_
              refine lv_lmul hx hb dX5_unit_61 ?_
              refine lv_lload hx hb dX5_unit_62 (lv_at hl 3 rfl) ?_
              refine lv_lsub hx hb dX5_unit_64 ?_
              refine lv_lstore_n (lv' := [(3, .long ((x1 * (((x2 + x1) - (1 : Int64)) / x1)) - x2)), (8, .long (((x2 + x1) - (1 : Int64)) / x1)), (2, .int a2), (5, .long x2), (7, .int x3)]) hx hb dX5_unit_65 rfl hl (by decide) rfl (fun ls hl => ?_)
              refine lv_lload_n hx hb dX5_unit_66 rfl (lv_at hl 0 rfl) ?_
              refine lv_lconst (v := (0 : Int64)) hx hb dX5_unit_67 rfl ?_
              refine lx_le (tgt := 83) hx hb dX5_unit_68 dX5_unit_69 (by decide) (fun c17 => ?_) (fun c17 => ?_)
              · replace h := fT c17 h
                refine lv_lload hx hb dX5_unit_83 (lv_at hl 3 rfl) ?_
                refine lv_lload hx hb dX5_unit_85 (lv_at hl 1 rfl) ?_
                refine lv_lmul hx hb dX5_unit_87 ?_
                refine lv_lstore (lv' := [(5, .long (x2 * (((x2 + x1) - (1 : Int64)) / x1))), (3, .long ((x1 * (((x2 + x1) - (1 : Int64)) / x1)) - x2)), (8, .long (((x2 + x1) - (1 : Int64)) / x1)), (2, .int a2), (7, .int x3)]) hx hb dX5_unit_88 hl (by decide) rfl (fun ls hl => ?_)
                refine lv_iinc (v := x3 + (1 : Int32)) (lv' := [(7, .int (x3 + (1 : Int32))), (5, .long (x2 * (((x2 + x1) - (1 : Int64)) / x1))), (3, .long ((x1 * (((x2 + x1) - (1 : Int64)) / x1)) - x2)), (8, .long (((x2 + x1) - (1 : Int64)) / x1)), (2, .int a2)]) hx hb dX5_unit_90 hl (k := 4) rfl rfl (by decide) rfl (fun ls hl => ?_)
                refine lv_goto (tgt := 14) hx hb dX5_unit_93 (by decide) ?_
                exact ih ((x1 * (((x2 + x1) - (1 : Int64)) / x1)) - x2) (x2 * (((x2 + x1) - (1 : Int64)) / x1)) (x3 + (1 : Int32)) _ _ _ h hP hD hS (lv_sub hl [4, 2, 1, 0] rfl)
              · replace h := fF c17 h
                refine lv_lload hx hb dX5_unit_72 (lv_at hl 1 rfl) ?_
                refine lv_ldc2 (v := (40000 : Int64)) hx hb hown q1 dX5_unit_74 ?_
                refine lx_le (tgt := 83) hx hb dX5_unit_77 dX5_unit_78 (by decide) (fun c18 => ?_) (fun c18 => ?_)
                · replace h := fT c18 h
                  refine lv_lload hx hb dX5_unit_83 (lv_at hl 3 rfl) ?_
                  refine lv_lload hx hb dX5_unit_85 (lv_at hl 1 rfl) ?_
                  refine lv_lmul hx hb dX5_unit_87 ?_
                  refine lv_lstore (lv' := [(5, .long (x2 * (((x2 + x1) - (1 : Int64)) / x1))), (3, .long ((x1 * (((x2 + x1) - (1 : Int64)) / x1)) - x2)), (8, .long (((x2 + x1) - (1 : Int64)) / x1)), (2, .int a2), (7, .int x3)]) hx hb dX5_unit_88 hl (by decide) rfl (fun ls hl => ?_)
                  refine lv_iinc (v := x3 + (1 : Int32)) (lv' := [(7, .int (x3 + (1 : Int32))), (5, .long (x2 * (((x2 + x1) - (1 : Int64)) / x1))), (3, .long ((x1 * (((x2 + x1) - (1 : Int64)) / x1)) - x2)), (8, .long (((x2 + x1) - (1 : Int64)) / x1)), (2, .int a2)]) hx hb dX5_unit_90 hl (k := 4) rfl rfl (by decide) rfl (fun ls hl => ?_)
                  refine lv_goto (tgt := 14) hx hb dX5_unit_93 (by decide) ?_
                  exact ih ((x1 * (((x2 + x1) - (1 : Int64)) / x1)) - x2) (x2 * (((x2 + x1) - (1 : Int64)) / x1)) (x3 + (1 : Int32)) _ _ _ h hP hD hS (lv_sub hl [4, 2, 1, 0] rfl)
                · replace h := fF c18 h
                  cases h
                  exact J9 rfl _ _ _ hP hD hS (lv_sub hl [] rfl)
            · replace h := fT c16 h
              cases h
              exact J8 rfl _ _ _ hP hD hS (lv_sub hl [0] rfl)
          · replace h := fF c15 h
            cases h
            exact J7 rfl _ _ _ hP hD hS (lv_sub hl [] rfl)
  exact LP11 FU (F_X3_numerator a1) (F_X3_denominator a1) (0 : Int32) _ _ _ g6 hP hD hS (lv_sub hl [4, 2, 1, 0] rfl)
abbrev rm_X5_count : Room := { frames := 3, cells := 0, slots := 0, locals := 65 }
theorem hd_X5_count : yX5_count.cls ≠ "java/lang/invoke/MethodHandle" ∧ yX5_count.cls ≠ "java/lang/invoke/VarHandle" ∧ (parseMethodDescriptor yX5_count.desc).map (fun d => d.parameters.length) = some 1 := by decide +kernel
set_option maxHeartbeats 0 in
set_option maxRecDepth 100000 in
theorem c_X5_count (l : Launch) (D : va_G) (y : Nat → ClassId) (sz : Nat) (a1 : Int64) (r : Int32) (h : F_X5_count a1 = some r) : Met l yX5_count wsX5_count rm_X5_count (va_Pc [.long a1] (px D y sz [])) (Qri D y sz [] [] r) 0 0 (va_A [] sz) := by
  refine hd_i (cc := cX5_count) (maxL := 4) rfl rfl (Nat.le_of_ble_eq_true rfl) ?_
  intro p e s m args below meth c A Q H locs ls hx hb hml hts hown _ hA hP hD hK hS hl hE
  have hl : lv_has ls 4 [(0, .long a1)] := hl
  unfold F_X5_count at h
  refine lv_iconst (v := (0 : Int32)) hx hb dX5_count_0 (by decide) ?_
  refine lv_istore_n (lv' := [(2, .int (0 : Int32)), (0, .long a1)]) hx hb dX5_count_1 rfl hl (by decide) rfl (fun ls hl => ?_)
  refine lv_lload_n hx hb dX5_count_2 rfl (lv_at hl 1 rfl) ?_
  refine lv_iload_n hx hb dX5_count_3 rfl (lv_at hl 0 rfl) ?_
  obtain ⟨r1, g2, h⟩ := fB1 h
  refine cT_i (As := [.long a1, .int (0 : Int32)]) (rest := []) ⟨hx, hb, hml, hown, hts⟩ (c_X5_unit l D y _ a1 (0 : Int32) r1 g2) (va_cwS 2 hts gX5_count_X5_unit rfl rfl rfl hd_X5_unit ⟨Nat.le_of_ble_eq_true rfl, Nat.le_of_ble_eq_true rfl⟩) hK hP hD hS hA rfl hl.1 rfl (Nat.le_of_ble_eq_true rfl) dX5_count_4 ⟨Nat.le_of_ble_eq_true rfl, Nat.le_of_ble_eq_true rfl⟩ (fun H locs hP hD hS => ?_)
  refine lv_istore_n (lv' := [(3, .int r1), (2, .int (0 : Int32)), (0, .long a1)]) hx hb dX5_count_7 rfl hl (by decide) rfl (fun ls hl => ?_)
  obtain ⟨v5, v6, g7, h⟩ := fB2 h
  have J8 : ∀ (H : Heap) (locs : List Loc) (ls : Array Slot), va_P D vwCl [] H → va_D A [] → va_S A s.heap H locs → lv_has ls 4 [(2, .int v5), (3, .int v6)] → W p l e rm_X5_count s m args below meth c H locs 0 0 Q (F0 m 30 ls []) := by
    intro H locs ls hP hD hS hl
    refine lv_iload_n hx hb dX5_count_30 rfl (lv_at hl 1 rfl) ?_
    have J9 : ∀ (v10 : Int32) (ls : Array Slot), v10 = (if v6 = (0 : Int32) then v5 else (-1 : Int32)) → lv_has ls 4 [(2, .int v5), (3, .int v6)] → W p l e rm_X5_count s m args below meth c H locs 0 0 Q (F0 m 39 ls [.int v10]) := by
      intro v10 ls ev10 hl
      subst ev10
      cases h
      exact hE _ _ _ _ dX5_count_39 hP hD hS
    refine lv_if_ne (tgt := 38) hx hb dX5_count_31 (by decide) (fun c11 => ?_) (fun c11 => ?_)
    · refine lv_iconst (v := (-1 : Int32)) hx hb dX5_count_38 (by decide) ?_
      exact J9 _ _ (by rw [if_neg c11]) (lv_sub hl [0, 1] rfl)
    · refine lv_iload_n hx hb dX5_count_34 rfl (lv_at hl 0 rfl) ?_
      refine lv_goto (tgt := 39) hx hb dX5_count_35 (by decide) ?_
      exact J9 _ _ (by rw [if_pos c11]) (lv_sub hl [0, 1] rfl)
  have LP12 : ∀ (n : Nat) (x3 : Int32) (x4 : Int32) (H : Heap) (locs : List Loc) (ls : Array Slot), L_X5_count_8 n a1 x3 x4 = some (v5, v6) → va_P D vwCl [] H → va_D A [] → va_S A s.heap H locs → lv_has ls 4 [(0, .long a1), (2, .int x3), (3, .int x4)] → W p l e rm_X5_count s m args below meth c H locs 0 0 Q (F0 m 8 ls []) := by
    intro n
    induction n with
    | zero => intro x3 x4 H locs ls h hP hD hS hl; exact fN h
    | succ n ih =>
      intro x3 x4 H locs ls h hP hD hS hl
      replace h := (L_X5_count_8_s n a1 x3 x4).symm.trans h
      refine lv_iload_n hx hb dX5_count_8 rfl (lv_at hl 1 rfl) ?_
      refine lv_bipush (v := (8 : Int32)) hx hb dX5_count_9 (by decide) ?_
      refine lv_icmp_ge (tgt := 30) hx hb dX5_count_11 (by decide) (fun c13 => ?_) (fun c13 => ?_)
      · replace h := fT c13 h
        cases h
        exact J8 _ _ _ hP hD hS (lv_sub hl [1, 2] rfl)
      · replace h := fF c13 h
        refine lv_iload_n hx hb dX5_count_14 rfl (lv_at hl 2 rfl) ?_
        refine lv_if_le (tgt := 30) hx hb dX5_count_15 (by decide) (fun c14 => ?_) (fun c14 => ?_)
        · replace h := fT c14 h
          cases h
          exact J8 _ _ _ hP hD hS (lv_sub hl [1, 2] rfl)
        · replace h := fF c14 h
          refine lv_iinc (v := x3 + (1 : Int32)) (lv' := [(2, .int (x3 + (1 : Int32))), (0, .long a1), (3, .int x4)]) hx hb dX5_count_18 hl (k := 1) rfl rfl (by decide) rfl (fun ls hl => ?_)
          refine lv_lload_n hx hb dX5_count_21 rfl (lv_at hl 1 rfl) ?_
          refine lv_iload_n hx hb dX5_count_22 rfl (lv_at hl 0 rfl) ?_
          obtain ⟨r15, g16, h⟩ := fB1 h
          refine cT_i (As := [.long a1, .int (x3 + (1 : Int32))]) (rest := []) ⟨hx, hb, hml, hown, hts⟩ (c_X5_unit l D y _ a1 (x3 + (1 : Int32)) r15 g16) (va_cwS 2 hts gX5_count_X5_unit rfl rfl rfl hd_X5_unit ⟨Nat.le_of_ble_eq_true rfl, Nat.le_of_ble_eq_true rfl⟩) hK hP hD hS hA rfl hl.1 rfl (Nat.le_of_ble_eq_true rfl) dX5_count_23 ⟨Nat.le_of_ble_eq_true rfl, Nat.le_of_ble_eq_true rfl⟩ (fun H locs hP hD hS => ?_)
          refine lv_istore_n (lv' := [(3, .int r15), (2, .int (x3 + (1 : Int32))), (0, .long a1)]) hx hb dX5_count_26 rfl hl (by decide) rfl (fun ls hl => ?_)
          refine lv_goto (tgt := 8) hx hb dX5_count_27 (by decide) ?_
          exact ih (x3 + (1 : Int32)) r15 _ _ _ h hP hD hS (lv_sub hl [2, 1, 0] rfl)
  exact LP12 FU (0 : Int32) r1 _ _ _ g7 hP hD hS (lv_sub hl [2, 1, 0] rfl)
abbrev rm_X6_isPlate : Room := { frames := 0, cells := 0, slots := 0, locals := 0 }
theorem hd_X6_isPlate : yX6_isPlate.cls ≠ "java/lang/invoke/MethodHandle" ∧ yX6_isPlate.cls ≠ "java/lang/invoke/VarHandle" ∧ (parseMethodDescriptor yX6_isPlate.desc).map (fun d => d.parameters.length) = some 1 := by decide +kernel
set_option maxHeartbeats 0 in
set_option maxRecDepth 100000 in
theorem c_X6_isPlate (l : Launch) (D : va_G) (y : Nat → ClassId) (sz : Nat) (a1 : Int32) : Met l yX6_isPlate wsX6_isPlate rm_X6_isPlate (va_Pc [.int a1] (px D y sz [])) (Qri D y sz [] [] (F_X6_isPlate a1)) 0 0 (va_A [] sz) := by
  refine hd_z (cc := cX6_isPlate) (maxL := 1) (rt := .boolean) rfl rfl (Nat.le_of_ble_eq_true rfl) ?_
  intro p e s m args below meth c A Q H locs ls hx hb hml hts hown _ hA hP hD hK hS hl hE
  have hl : lv_has ls 1 [(0, .int a1)] := hl
  refine lv_iload_n hx hb dX6_isPlate_0 rfl (lv_at hl 0 rfl) ?_
  have J1 : ∀ (v2 : Int32) (ls : Array Slot), v2 = (if a1 < (0 : Int32) then (0 : Int32) else (if (6 : Int32) ≤ a1 then (0 : Int32) else (1 : Int32))) → lv_has ls 1 [(0, .int a1)] → W p l e rm_X6_isPlate s m args below meth c H locs 0 0 Q (F0 m 15 ls [.int v2]) := by
    intro v2 ls ev2 hl
    subst ev2
    exact hE _ _ _ _ dX6_isPlate_15 hP hD hS (nz01 (z01 (Or.inl rfl) (z01 (Or.inl rfl) (Or.inr rfl))))
  refine lv_if_lt (tgt := 14) hx hb dX6_isPlate_1 (by decide) (fun c3 => ?_) (fun c3 => ?_)
  · refine lv_iconst (v := (0 : Int32)) hx hb dX6_isPlate_14 (by decide) ?_
    exact J1 _ _ (by rw [if_pos c3]) (lv_sub hl [0] rfl)
  · refine lv_iload_n hx hb dX6_isPlate_4 rfl (lv_at hl 0 rfl) ?_
    refine lv_bipush (v := (6 : Int32)) hx hb dX6_isPlate_5 (by decide) ?_
    refine lv_icmp_ge (tgt := 14) hx hb dX6_isPlate_7 (by decide) (fun c4 => ?_) (fun c4 => ?_)
    · refine lv_iconst (v := (0 : Int32)) hx hb dX6_isPlate_14 (by decide) ?_
      exact J1 _ _ (by rw [if_neg c3, if_pos c4]) (lv_sub hl [0] rfl)
    · refine lv_iconst (v := (1 : Int32)) hx hb dX6_isPlate_10 (by decide) ?_
      refine lv_goto (tgt := 15) hx hb dX6_isPlate_11 (by decide) ?_
      exact J1 _ _ (by rw [if_neg c3, if_neg c4]) (lv_sub hl [0] rfl)
abbrev rm_X6_requirePlate : Room := { frames := 1, cells := 0, slots := 0, locals := 20 }
theorem hd_X6_requirePlate : yX6_requirePlate.cls ≠ "java/lang/invoke/MethodHandle" ∧ yX6_requirePlate.cls ≠ "java/lang/invoke/VarHandle" ∧ (parseMethodDescriptor yX6_requirePlate.desc).map (fun d => d.parameters.length) = some 1 := by decide +kernel
set_option maxHeartbeats 0 in
set_option maxRecDepth 100000 in
theorem c_X6_requirePlate (l : Launch) (D : va_G) (y : Nat → ClassId) (sz : Nat) (a1 : Int32) (h : F_X6_requirePlate a1 = some 0) : Met l yX6_requirePlate wsX6_requirePlate rm_X6_requirePlate (va_Pc [.int a1] (px D y sz [])) (Qrv D y sz [] []) 0 0 (va_A [] sz) := by
  refine hd_v (cc := cX6_requirePlate) (maxL := 1) rfl rfl (Nat.le_of_ble_eq_true rfl) ?_
  intro p e s m args below meth c A Q H locs ls hx hb hml hts hown _ hA hP hD hK hS hl hE
  have hl : lv_has ls 1 [(0, .int a1)] := hl
  unfold F_X6_requirePlate at h
  refine lv_iload_n hx hb dX6_requirePlate_0 rfl (lv_at hl 0 rfl) ?_
  refine cT_i (As := [.int a1]) (rest := []) ⟨hx, hb, hml, hown, hts⟩ (c_X6_isPlate l D y _ a1) (va_cwS 1 hts gX6_requirePlate_X6_isPlate rfl rfl rfl hd_X6_isPlate ⟨Nat.le_of_ble_eq_true rfl, Nat.le_of_ble_eq_true rfl⟩) hK hP hD hS hA rfl hl.1 rfl (Nat.le_of_ble_eq_true rfl) dX6_requirePlate_1 ⟨Nat.le_of_ble_eq_true rfl, Nat.le_of_ble_eq_true rfl⟩ (fun H locs hP hD hS => ?_)
  refine lv_if_ne (tgt := 17) hx hb dX6_requirePlate_4 (by decide) (fun c1 => ?_) (fun c1 => ?_)
  · replace h := fF c1 h
    cases h
    exact hE _ _ _ _ dX6_requirePlate_17 hP hD hS
  · replace h := fT c1 h
    exact fX1 (show ¬ (1 : Nat) = 0 by decide) h
abbrev xrm_X6_requirePlate : Room := { frames := 6, cells := 1, slots := 6, locals := 82 }
set_option maxHeartbeats 0 in
set_option maxRecDepth 100000 in
theorem x_X6_requirePlate (l : Launch) (hfl : l.stackTraces = false) (D : va_G) (y : Nat → ClassId) (sz : Nat) (a1 : Int32) (k : Nat) (hkx : ¬ k = 0) (h : F_X6_requirePlate a1 = some k) : vx_Met l yX6_requirePlate wsX6_requirePlate xrm_X6_requirePlate (va_Pc [.int a1] (pxe D y sz [])) (QNo [] sz) (QX D y sz [] [] k) 1 6 (va_A [] sz) := by
  refine hd_x (cc := cX6_requirePlate) (maxL := 1) rfl rfl (Nat.le_of_ble_eq_true rfl) ?_
  intro p e s m args below meth c A Q H locs ls hx hb hml hts hown hA hP hD hK hS hl hEX hlocks hout hQ hAe
  have hl : lv_has ls 1 [(0, .int a1)] := hl
  have q0 := hts (.classLink RX6 104 "java/lang/IndexOutOfBoundsException") (by decide +kernel)
  have q1 := hts (.initialized "java/lang/IndexOutOfBoundsException") (by decide +kernel)
  unfold F_X6_requirePlate at h
  refine lv_iload_n hx hb dX6_requirePlate_0 rfl (lv_at hl 0 rfl) ?_
  refine cT_i (As := [.int a1]) (rest := []) ⟨hx, hb, hml, hown, hts⟩ (c_X6_isPlate l D y _ a1) (va_cwS 1 hts gX6_requirePlate_X6_isPlate rfl rfl rfl hd_X6_isPlate ⟨Nat.le_of_ble_eq_true rfl, Nat.le_of_ble_eq_true rfl⟩) hK hP hD hS hA rfl hl.1 rfl (Nat.le_of_ble_eq_true rfl) dX6_requirePlate_1 ⟨Nat.le_of_ble_eq_true rfl, Nat.le_of_ble_eq_true rfl⟩ (fun H locs hP hD hS => ?_)
  refine lv_if_ne (tgt := 17) hx hb dX6_requirePlate_4 (by decide) (fun c1 => ?_) (fun c1 => ?_)
  · replace h := fF c1 h
    exact fY1 hkx h
  · replace h := fT c1 h
    cases h
    exact thrS (ik := 104) (is := 241) (ic := 108) (E := "java/lang/IndexOutOfBoundsException") (txt := "there is no such plate") hx hb hfl hQ hAe hout hlocks hK hP hD hS hown rfl (by decide +kernel) q0 q1 (fun w hw => hts w (List.mem_cons_of_mem _ (List.mem_append_right _ hw))) th2_108 thg_108 hEX (by decide +kernel) (hl.1.trans hml.symm) dX6_requirePlate_7 dX6_requirePlate_10 dX6_requirePlate_11 dX6_requirePlate_13 dX6_requirePlate_16 (by decide) (Nat.le_of_ble_eq_true rfl) (by decide) (by decide) (by decide) (by decide)
abbrev rm_X6_change : Room := { frames := 2, cells := 0, slots := 0, locals := 42 }
theorem hd_X6_change : yX6_change.cls = RX6 ∧ yX6_change.cls ≠ "java/lang/invoke/MethodHandle" ∧ yX6_change.cls ≠ "java/lang/invoke/VarHandle" ∧ (parseMethodDescriptor yX6_change.desc).map (fun d => d.parameters.length) = some 2 := by decide +kernel
set_option maxHeartbeats 0 in
set_option maxRecDepth 100000 in
theorem c_X6_change (l : Launch) (D : va_G) (o : Nat → Nat) (y : Nat → ClassId) (sz : Nat) (pl : Nat → Int64) (te : Nat → Int32) (be : Nat → Int64) (cn : Int32) (ch : Nat → Int32) (le : Int32) (rE : Int32) (rL : Int32) (rP : Int32) (rF : Int32) (rS : Int32) (rD : Int32) (hs : Nat → Int64) (ho : Int32) (hc : Int32) (sl : Nat → Int64) (fi : Nat → Int32) (a1 : Int32) (a2 : Int64) (r : Int32) (pl' : Nat → Int64) (hs' : Nat → Int64) (ho' : Int32) (hc' : Int32) (h : F_X6_change pl hs ho hc a1 a2 = some (r, pl', hs', ho', hc')) : Met l yX6_change wsX6_change rm_X6_change (va_Pc [.ref (o 0), .int a1, .long a2] (px D y sz (XW o y pl te be cn ch le rE rL rP rF rS rD hs ho hc sl fi))) (Qri D y sz (XW o y pl te be cn ch le rE rL rP rF rS rD hs ho hc sl fi) (XW o y pl' te be cn ch le rE rL rP rF rS rD hs' ho' hc' sl fi) r) 0 0 (va_A (XW o y pl te be cn ch le rE rL rP rF rS rD hs ho hc sl fi) sz) := by
  refine hd_i (cc := cX6_change) (maxL := 4) rfl rfl (Nat.le_of_ble_eq_true rfl) ?_
  intro p e s m args below meth c A Q H locs ls hx hb hml hts hown _ hA hP hD hK hS hl hE
  have hl : lv_has ls 4 [(0, .ref (o 0)), (1, .int a1), (2, .long a2)] := hl
  have q0 := hts (.fieldLink RX6 39 "SliceShares" "history" "LSliceShares$History;") (by decide +kernel)
  have q1 := hts (.fieldLink RX6 9 "SliceShares" "plates" "[J") (by decide +kernel)
  have hinRX6 : ∀ w ∈ wsX60, w ∈ wsX6_change := by decide +kernel
  unfold F_X6_change at h
  refine lv_aload_n hx hb dX6_change_0 rfl (lv_at hl 0 rfl) ?_
  refine va_get (D := D) (ci := 4) (C := RX6) (T := TX6) (N := 7) hx hb hts hinRX6 hown hK hP 0 rfl rfl 4 (by decide) q0 (fun _ h9 => h9) rfl dX6_change_1 ?_
  refine lv_aload_n hx hb dX6_change_4 rfl (lv_at hl 0 rfl) ?_
  refine va_get (D := D) (ci := 4) (C := RX6) (T := TX6) (N := 7) hx hb hts hinRX6 hown hK hP 0 rfl rfl 0 (by decide) q1 (fun _ h9 => h9) rfl dX6_change_5 ?_
  obtain ⟨hs1, ho2, hc3, g4, h⟩ := fB3 h
  refine cV_v (As := [.ref (o 1)]) (rest := []) (ws1 := (XW o y pl te be cn ch le rE rL rP rF rS rD hs1 ho2 hc3 sl fi)) ⟨hx, hb, hml, hown, hts⟩ (c_X4_record l D o y _ pl hs ho hc hs1 ho2 hc3 g4) (cwV 1 hts gX6_change_X4_record rfl rfl rfl hd_X4_record ⟨Nat.le_of_ble_eq_true rfl, Nat.le_of_ble_eq_true rfl⟩) hK hP hD hS hA [8, 9, 1] [0, 2, 3, 4, 5, 6, 7, 10, 11] [0, 11, 1, 2, 3, 4, 5, 6, 9, 10, 7, 8] rfl rfl rfl (by decide) rfl rfl rfl 0 (ci := 3) rfl rfl rfl hl.1 rfl (Nat.le_of_ble_eq_true rfl) dX6_change_8 ⟨Nat.le_of_ble_eq_true rfl, Nat.le_of_ble_eq_true rfl⟩ (fun H locs hP hD hS => ?_)
  refine lv_aload_n hx hb dX6_change_11 rfl (lv_at hl 0 rfl) ?_
  refine va_get (D := D) (ci := 4) (C := RX6) (T := TX6) (N := 7) hx hb hts hinRX6 hown hK hP 0 rfl rfl 0 (by decide) q1 (fun _ h9 => h9) rfl dX6_change_12 ?_
  refine lv_iload_n hx hb dX6_change_15 rfl (lv_at hl 1 rfl) ?_
  refine lv_lload_n hx hb dX6_change_16 rfl (lv_at hl 2 rfl) ?_
  obtain ⟨g5, h⟩ := fG h
  refine va_last hx hb hK hP hD hS 1 1 rfl rfl g5 dX6_change_17 (fun H locs hP hD hS => ?_)
  have hP : va_P D vwCl (XW o y (vp_updL pl a1.toNatClampNeg a2) te be cn ch le rE rL rP rF rS rD hs1 ho2 hc3 sl fi) H := hP
  have hD : va_D A (XW o y (vp_updL pl a1.toNatClampNeg a2) te be cn ch le rE rL rP rF rS rD hs1 ho2 hc3 sl fi) := hD
  refine lv_lload_n hx hb dX6_change_18 rfl (lv_at hl 2 rfl) ?_
  refine cT_l (As := [.long a2]) (rest := []) ⟨hx, hb, hml, hown, hts⟩ (c_X3_denominator l D y _ a2) (va_cwS 1 hts gX6_change_X3_denominator rfl rfl rfl hd_X3_denominator ⟨Nat.le_of_ble_eq_true rfl, Nat.le_of_ble_eq_true rfl⟩) hK hP hD hS hA rfl hl.1 rfl (Nat.le_of_ble_eq_true rfl) dX6_change_19 ⟨Nat.le_of_ble_eq_true rfl, Nat.le_of_ble_eq_true rfl⟩ (fun H locs hP hD hS => ?_)
  refine lv_l2i (v := (F_X3_denominator a2).toInt32) hx hb dX6_change_22 rfl ?_
  cases h
  exact hE _ _ _ _ dX6_change_23 hP hD hS
abbrev rm_X6_set : Room := { frames := 3, cells := 0, slots := 0, locals := 74 }
theorem hd_X6_set : yX6_set.cls = RX6 ∧ yX6_set.cls ≠ "java/lang/invoke/MethodHandle" ∧ yX6_set.cls ≠ "java/lang/invoke/VarHandle" ∧ (parseMethodDescriptor yX6_set.desc).map (fun d => d.parameters.length) = some 3 := by decide +kernel
set_option maxHeartbeats 0 in
set_option maxRecDepth 100000 in
theorem c_X6_set (l : Launch) (D : va_G) (o : Nat → Nat) (y : Nat → ClassId) (sz : Nat) (pl : Nat → Int64) (te : Nat → Int32) (be : Nat → Int64) (cn : Int32) (ch : Nat → Int32) (le : Int32) (rE : Int32) (rL : Int32) (rP : Int32) (rF : Int32) (rS : Int32) (rD : Int32) (hs : Nat → Int64) (ho : Int32) (hc : Int32) (sl : Nat → Int64) (fi : Nat → Int32) (a1 : Int32) (a2 : Int32) (a3 : Int32) (r : Int32) (pl' : Nat → Int64) (hs' : Nat → Int64) (ho' : Int32) (hc' : Int32) (h : F_X6_set pl hs ho hc a1 a2 a3 = some (0, r, pl', hs', ho', hc')) : Met l yX6_set wsX6_set rm_X6_set (va_Pc [.ref (o 0), .int a1, .int a2, .int a3] (px D y sz (XW o y pl te be cn ch le rE rL rP rF rS rD hs ho hc sl fi))) (Qri D y sz (XW o y pl te be cn ch le rE rL rP rF rS rD hs ho hc sl fi) (XW o y pl' te be cn ch le rE rL rP rF rS rD hs' ho' hc' sl fi) r) 0 0 (va_A (XW o y pl te be cn ch le rE rL rP rF rS rD hs ho hc sl fi) sz) := by
  refine hd_i (cc := cX6_set) (maxL := 4) rfl rfl (Nat.le_of_ble_eq_true rfl) ?_
  intro p e s m args below meth c A Q H locs ls hx hb hml hts hown _ hA hP hD hK hS hl hE
  have hl : lv_has ls 4 [(0, .ref (o 0)), (1, .int a1), (2, .int a2), (3, .int a3)] := hl
  have q0 := hts (.constant RX6 54 (1000000)) (by decide +kernel)
  unfold F_X6_set at h
  refine lv_iload_n hx hb dX6_set_0 rfl (lv_at hl 1 rfl) ?_
  obtain ⟨k1, g2, h⟩ := fB1 h
  by_cases e3 : ¬ k1 = 0
  · replace h := fF e3 h
    exact fX e3 h
  replace e3 := Classical.not_not.mp e3
  subst e3
  replace h := fT rfl h
  refine cT_v (As := [.int a1]) (rest := []) ⟨hx, hb, hml, hown, hts⟩ (c_X6_requirePlate l D y _ a1 g2) (va_cwS 1 hts gX6_set_X6_requirePlate rfl rfl rfl hd_X6_requirePlate ⟨Nat.le_of_ble_eq_true rfl, Nat.le_of_ble_eq_true rfl⟩) hK hP hD hS hA rfl hl.1 rfl (Nat.le_of_ble_eq_true rfl) dX6_set_1 ⟨Nat.le_of_ble_eq_true rfl, Nat.le_of_ble_eq_true rfl⟩ (fun H locs hP hD hS => ?_)
  refine lv_iload_n hx hb dX6_set_4 rfl (lv_at hl 2 rfl) ?_
  refine lv_if_lt (tgt := 14) hx hb dX6_set_5 (by decide) (fun c4 => ?_) (fun c4 => ?_)
  · replace h := fT c4 h
    exact fX (show ¬ (2 : Nat) = 0 by decide) h
  · replace h := fF c4 h
    refine lv_iload_n hx hb dX6_set_8 rfl (lv_at hl 2 rfl) ?_
    refine lv_ldc (v := (1000000 : Int32)) hx hb hown q0 dX6_set_9 ?_
    refine lv_icmp_le (tgt := 24) hx hb dX6_set_11 (by decide) (fun c5 => ?_) (fun c5 => ?_)
    · replace h := fT c5 h
      refine lv_iload_n hx hb dX6_set_24 rfl (lv_at hl 3 rfl) ?_
      refine lv_iconst (v := (1 : Int32)) hx hb dX6_set_25 (by decide) ?_
      refine lv_icmp_lt (tgt := 35) hx hb dX6_set_26 (by decide) (fun c6 => ?_) (fun c6 => ?_)
      · replace h := fT c6 h
        exact fX (show ¬ (2 : Nat) = 0 by decide) h
      · replace h := fF c6 h
        refine lv_iload_n hx hb dX6_set_29 rfl (lv_at hl 3 rfl) ?_
        refine lv_ldc (v := (1000000 : Int32)) hx hb hown q0 dX6_set_30 ?_
        refine lv_icmp_le (tgt := 45) hx hb dX6_set_32 (by decide) (fun c7 => ?_) (fun c7 => ?_)
        · replace h := fT c7 h
          refine lv_aload_n hx hb dX6_set_45 rfl (lv_at hl 0 rfl) ?_
          refine lv_iload_n hx hb dX6_set_46 rfl (lv_at hl 1 rfl) ?_
          refine lv_iload_n hx hb dX6_set_47 rfl (lv_at hl 2 rfl) ?_
          refine lv_i2l (v := a2.toInt64) hx hb dX6_set_48 rfl ?_
          refine lv_iload_n hx hb dX6_set_49 rfl (lv_at hl 3 rfl) ?_
          refine lv_i2l (v := a3.toInt64) hx hb dX6_set_50 rfl ?_
          obtain ⟨r8, g9, h⟩ := fB1 h
          refine cT_l (As := [.long a2.toInt64, .long a3.toInt64]) (rest := [.int a1, .ref (o 0)]) ⟨hx, hb, hml, hown, hts⟩ (c_X3_inLowestTerms l D y _ a2.toInt64 a3.toInt64 r8 g9) (va_cwS 2 hts gX6_set_X3_inLowestTerms rfl rfl rfl hd_X3_inLowestTerms ⟨Nat.le_of_ble_eq_true rfl, Nat.le_of_ble_eq_true rfl⟩) hK hP hD hS hA rfl hl.1 rfl (Nat.le_of_ble_eq_true rfl) dX6_set_51 ⟨Nat.le_of_ble_eq_true rfl, Nat.le_of_ble_eq_true rfl⟩ (fun H locs hP hD hS => ?_)
          obtain ⟨r10, pl11, hs12, ho13, hc14, g15, h⟩ := fB5 h
          refine cV_i (As := [.int a1, .long r8]) (rest := []) (ws1 := (XW o y pl11 te be cn ch le rE rL rP rF rS rD hs12 ho13 hc14 sl fi)) ⟨hx, hb, hml, hown, hts⟩ (c_X6_change l D o y _ pl te be cn ch le rE rL rP rF rS rD hs ho hc sl fi a1 r8 r10 pl11 hs12 ho13 hc14 g15) (cwV 2 hts gX6_set_X6_change rfl rfl rfl hd_X6_change ⟨Nat.le_of_ble_eq_true rfl, Nat.le_of_ble_eq_true rfl⟩) hK hP hD hS hA [0, 1, 2, 3, 4, 5, 6, 7, 8, 9, 10, 11] [] [0, 1, 2, 3, 4, 5, 6, 7, 8, 9, 10, 11] rfl rfl rfl (by decide) rfl rfl rfl 0 (ci := 4) rfl rfl rfl hl.1 rfl (Nat.le_of_ble_eq_true rfl) dX6_set_54 ⟨Nat.le_of_ble_eq_true rfl, Nat.le_of_ble_eq_true rfl⟩ (fun H locs hP hD hS => ?_)
          cases h
          exact hE _ _ _ _ dX6_set_57 hP hD hS
        · replace h := fF c7 h
          exact fX (show ¬ (2 : Nat) = 0 by decide) h
    · replace h := fF c5 h
      exact fX (show ¬ (2 : Nat) = 0 by decide) h
abbrev xrm_X6_set : Room := { frames := 7, cells := 1, slots := 6, locals := 102 }
set_option maxHeartbeats 0 in
set_option maxRecDepth 100000 in
theorem x_X6_set (l : Launch) (hfl : l.stackTraces = false) (D : va_G) (o : Nat → Nat) (y : Nat → ClassId) (sz : Nat) (pl : Nat → Int64) (te : Nat → Int32) (be : Nat → Int64) (cn : Int32) (ch : Nat → Int32) (le : Int32) (rE : Int32) (rL : Int32) (rP : Int32) (rF : Int32) (rS : Int32) (rD : Int32) (hs : Nat → Int64) (ho : Int32) (hc : Int32) (sl : Nat → Int64) (fi : Nat → Int32) (a1 : Int32) (a2 : Int32) (a3 : Int32) (k : Nat) (r : Int32) (pl' : Nat → Int64) (hs' : Nat → Int64) (ho' : Int32) (hc' : Int32) (hkx : ¬ k = 0) (h : F_X6_set pl hs ho hc a1 a2 a3 = some (k, r, pl', hs', ho', hc')) : vx_Met l yX6_set wsX6_set xrm_X6_set (va_Pc [.ref (o 0), .int a1, .int a2, .int a3] (pxe D y sz (XW o y pl te be cn ch le rE rL rP rF rS rD hs ho hc sl fi))) (QNo (XW o y pl te be cn ch le rE rL rP rF rS rD hs ho hc sl fi) sz) (QX D y sz (XW o y pl te be cn ch le rE rL rP rF rS rD hs ho hc sl fi) (XW o y pl' te be cn ch le rE rL rP rF rS rD hs' ho' hc' sl fi) k) 1 6 (va_A (XW o y pl te be cn ch le rE rL rP rF rS rD hs ho hc sl fi) sz) := by
  refine hd_x (cc := cX6_set) (maxL := 4) rfl rfl (Nat.le_of_ble_eq_true rfl) ?_
  intro p e s m args below meth c A Q H locs ls hx hb hml hts hown hA hP hD hK hS hl hEX hlocks hout hQ hAe
  have hl : lv_has ls 4 [(0, .ref (o 0)), (1, .int a1), (2, .int a2), (3, .int a3)] := hl
  have q0 := hts (.classLink RX6 55 "java/lang/IllegalArgumentException") (by decide +kernel)
  have q1 := hts (.initialized "java/lang/IllegalArgumentException") (by decide +kernel)
  have q2 := hts (.constant RX6 54 (1000000)) (by decide +kernel)
  unfold F_X6_set at h
  refine lv_iload_n hx hb dX6_set_0 rfl (lv_at hl 1 rfl) ?_
  obtain ⟨k1, g2, h⟩ := fB1 h
  by_cases e3 : ¬ k1 = 0
  · replace h := fF e3 h
    refine xc_S (As := [.int a1]) (rest := []) (ws1 := (XW o y pl te be cn ch le rE rL rP rF rS rD hs ho hc sl fi)) ⟨hx, hb, hml, hown, hts⟩ (x_X6_requirePlate l hfl D y _ a1 k1 e3 g2) (va_cwS 1 hts gX6_set_X6_requirePlate rfl rfl rfl hd_X6_requirePlate ⟨Nat.le_of_ble_eq_true rfl, Nat.le_of_ble_eq_true rfl⟩) hK hP hD hS hA hEX [] [0, 1, 2, 3, 4, 5, 6, 7, 8, 9, 10, 11] [0, 1, 2, 3, 4, 5, 6, 7, 8, 9, 10, 11] rfl rfl rfl (by decide) rfl rfl rfl rfl hl.1 rfl (Nat.le_of_ble_eq_true rfl) dX6_set_1 ⟨Nat.le_of_ble_eq_true rfl, Nat.le_of_ble_eq_true rfl⟩ (fun H locs ce q hP hD hS hce hv hcl => ?_)
    cases h
    exact outX hQ hAe hout hlocks hK hP hD hS hce hv hcl rfl (by decide) (by decide)
  replace e3 := Classical.not_not.mp e3
  subst e3
  replace h := fT rfl h
  refine cT_v (As := [.int a1]) (rest := []) ⟨hx, hb, hml, hown, hts⟩ (c_X6_requirePlate l D y _ a1 g2) (va_cwS 1 hts gX6_set_X6_requirePlate rfl rfl rfl hd_X6_requirePlate ⟨Nat.le_of_ble_eq_true rfl, Nat.le_of_ble_eq_true rfl⟩) hK hP hD hS hA rfl hl.1 rfl (Nat.le_of_ble_eq_true rfl) dX6_set_1 ⟨Nat.le_of_ble_eq_true rfl, Nat.le_of_ble_eq_true rfl⟩ (fun H locs hP hD hS => ?_)
  refine lv_iload_n hx hb dX6_set_4 rfl (lv_at hl 2 rfl) ?_
  refine lv_if_lt (tgt := 14) hx hb dX6_set_5 (by decide) (fun c4 => ?_) (fun c4 => ?_)
  · replace h := fT c4 h
    cases h
    exact thrS (ik := 55) (is := 57) (ic := 59) (E := "java/lang/IllegalArgumentException") (txt := "the numerator is out of range") hx hb hfl hQ hAe hout hlocks hK hP hD hS hown rfl (by decide +kernel) q0 q1 (fun w hw => hts w (List.mem_cons_of_mem _ (List.mem_append_left _ (List.mem_append_right _ hw)))) th2_59 thg_59 hEX (by decide +kernel) (hl.1.trans hml.symm) dX6_set_14 dX6_set_17 dX6_set_18 dX6_set_20 dX6_set_23 (by decide) (Nat.le_of_ble_eq_true rfl) (by decide) (by decide) (by decide) (by decide)
  · replace h := fF c4 h
    refine lv_iload_n hx hb dX6_set_8 rfl (lv_at hl 2 rfl) ?_
    refine lv_ldc (v := (1000000 : Int32)) hx hb hown q2 dX6_set_9 ?_
    refine lv_icmp_le (tgt := 24) hx hb dX6_set_11 (by decide) (fun c5 => ?_) (fun c5 => ?_)
    · replace h := fT c5 h
      refine lv_iload_n hx hb dX6_set_24 rfl (lv_at hl 3 rfl) ?_
      refine lv_iconst (v := (1 : Int32)) hx hb dX6_set_25 (by decide) ?_
      refine lv_icmp_lt (tgt := 35) hx hb dX6_set_26 (by decide) (fun c6 => ?_) (fun c6 => ?_)
      · replace h := fT c6 h
        cases h
        exact thrS (ik := 55) (is := 62) (ic := 59) (E := "java/lang/IllegalArgumentException") (txt := "the denominator is out of range") hx hb hfl hQ hAe hout hlocks hK hP hD hS hown rfl (by decide +kernel) q0 q1 (fun w hw => hts w (List.mem_cons_of_mem _ (List.mem_append_left _ (List.mem_append_right _ hw)))) th2_59 thg_59 hEX (by decide +kernel) (hl.1.trans hml.symm) dX6_set_35 dX6_set_38 dX6_set_39 dX6_set_41 dX6_set_44 (by decide) (Nat.le_of_ble_eq_true rfl) (by decide) (by decide) (by decide) (by decide)
      · replace h := fF c6 h
        refine lv_iload_n hx hb dX6_set_29 rfl (lv_at hl 3 rfl) ?_
        refine lv_ldc (v := (1000000 : Int32)) hx hb hown q2 dX6_set_30 ?_
        refine lv_icmp_le (tgt := 45) hx hb dX6_set_32 (by decide) (fun c7 => ?_) (fun c7 => ?_)
        · replace h := fT c7 h
          refine lv_aload_n hx hb dX6_set_45 rfl (lv_at hl 0 rfl) ?_
          refine lv_iload_n hx hb dX6_set_46 rfl (lv_at hl 1 rfl) ?_
          refine lv_iload_n hx hb dX6_set_47 rfl (lv_at hl 2 rfl) ?_
          refine lv_i2l (v := a2.toInt64) hx hb dX6_set_48 rfl ?_
          refine lv_iload_n hx hb dX6_set_49 rfl (lv_at hl 3 rfl) ?_
          refine lv_i2l (v := a3.toInt64) hx hb dX6_set_50 rfl ?_
          obtain ⟨r8, g9, h⟩ := fB1 h
          refine cT_l (As := [.long a2.toInt64, .long a3.toInt64]) (rest := [.int a1, .ref (o 0)]) ⟨hx, hb, hml, hown, hts⟩ (c_X3_inLowestTerms l D y _ a2.toInt64 a3.toInt64 r8 g9) (va_cwS 2 hts gX6_set_X3_inLowestTerms rfl rfl rfl hd_X3_inLowestTerms ⟨Nat.le_of_ble_eq_true rfl, Nat.le_of_ble_eq_true rfl⟩) hK hP hD hS hA rfl hl.1 rfl (Nat.le_of_ble_eq_true rfl) dX6_set_51 ⟨Nat.le_of_ble_eq_true rfl, Nat.le_of_ble_eq_true rfl⟩ (fun H locs hP hD hS => ?_)
          obtain ⟨r10, pl11, hs12, ho13, hc14, g15, h⟩ := fB5 h
          refine cV_i (As := [.int a1, .long r8]) (rest := []) (ws1 := (XW o y pl11 te be cn ch le rE rL rP rF rS rD hs12 ho13 hc14 sl fi)) ⟨hx, hb, hml, hown, hts⟩ (c_X6_change l D o y _ pl te be cn ch le rE rL rP rF rS rD hs ho hc sl fi a1 r8 r10 pl11 hs12 ho13 hc14 g15) (cwV 2 hts gX6_set_X6_change rfl rfl rfl hd_X6_change ⟨Nat.le_of_ble_eq_true rfl, Nat.le_of_ble_eq_true rfl⟩) hK hP hD hS hA [0, 1, 2, 3, 4, 5, 6, 7, 8, 9, 10, 11] [] [0, 1, 2, 3, 4, 5, 6, 7, 8, 9, 10, 11] rfl rfl rfl (by decide) rfl rfl rfl 0 (ci := 4) rfl rfl rfl hl.1 rfl (Nat.le_of_ble_eq_true rfl) dX6_set_54 ⟨Nat.le_of_ble_eq_true rfl, Nat.le_of_ble_eq_true rfl⟩ (fun H locs hP hD hS => ?_)
          exact fY hkx h
        · replace h := fF c7 h
          cases h
          exact thrS (ik := 55) (is := 62) (ic := 59) (E := "java/lang/IllegalArgumentException") (txt := "the denominator is out of range") hx hb hfl hQ hAe hout hlocks hK hP hD hS hown rfl (by decide +kernel) q0 q1 (fun w hw => hts w (List.mem_cons_of_mem _ (List.mem_append_left _ (List.mem_append_right _ hw)))) th2_59 thg_59 hEX (by decide +kernel) (hl.1.trans hml.symm) dX6_set_35 dX6_set_38 dX6_set_39 dX6_set_41 dX6_set_44 (by decide) (Nat.le_of_ble_eq_true rfl) (by decide) (by decide) (by decide) (by decide)
    · replace h := fF c5 h
      cases h
      exact thrS (ik := 55) (is := 57) (ic := 59) (E := "java/lang/IllegalArgumentException") (txt := "the numerator is out of range") hx hb hfl hQ hAe hout hlocks hK hP hD hS hown rfl (by decide +kernel) q0 q1 (fun w hw => hts w (List.mem_cons_of_mem _ (List.mem_append_left _ (List.mem_append_right _ hw)))) th2_59 thg_59 hEX (by decide +kernel) (hl.1.trans hml.symm) dX6_set_14 dX6_set_17 dX6_set_18 dX6_set_20 dX6_set_23 (by decide) (Nat.le_of_ble_eq_true rfl) (by decide) (by decide) (by decide) (by decide)
abbrev rm_X6_changeIfPossible : Room := { frames := 3, cells := 0, slots := 0, locals := 65 }
theorem hd_X6_changeIfPossible : yX6_changeIfPossible.cls = RX6 ∧ yX6_changeIfPossible.cls ≠ "java/lang/invoke/MethodHandle" ∧ yX6_changeIfPossible.cls ≠ "java/lang/invoke/VarHandle" ∧ (parseMethodDescriptor yX6_changeIfPossible.desc).map (fun d => d.parameters.length) = some 2 := by decide +kernel
set_option maxHeartbeats 0 in
set_option maxRecDepth 100000 in
theorem c_X6_changeIfPossible (l : Launch) (D : va_G) (o : Nat → Nat) (y : Nat → ClassId) (sz : Nat) (pl : Nat → Int64) (te : Nat → Int32) (be : Nat → Int64) (cn : Int32) (ch : Nat → Int32) (le : Int32) (rE : Int32) (rL : Int32) (rP : Int32) (rF : Int32) (rS : Int32) (rD : Int32) (hs : Nat → Int64) (ho : Int32) (hc : Int32) (sl : Nat → Int64) (fi : Nat → Int32) (a1 : Int32) (a2 : Int64) (r : Int32) (pl' : Nat → Int64) (hs' : Nat → Int64) (ho' : Int32) (hc' : Int32) (h : F_X6_changeIfPossible pl hs ho hc a1 a2 = some (0, r, pl', hs', ho', hc')) : Met l yX6_changeIfPossible wsX6_changeIfPossible rm_X6_changeIfPossible (va_Pc [.ref (o 0), .int a1, .long a2] (px D y sz (XW o y pl te be cn ch le rE rL rP rF rS rD hs ho hc sl fi))) (Qri D y sz (XW o y pl te be cn ch le rE rL rP rF rS rD hs ho hc sl fi) (XW o y pl' te be cn ch le rE rL rP rF rS rD hs' ho' hc' sl fi) r) 0 0 (va_A (XW o y pl te be cn ch le rE rL rP rF rS rD hs ho hc sl fi) sz) := by
  refine hd_i (cc := cX6_changeIfPossible) (maxL := 4) rfl rfl (Nat.le_of_ble_eq_true rfl) ?_
  intro p e s m args below meth c A Q H locs ls hx hb hml hts hown _ hA hP hD hK hS hl hE
  have hl : lv_has ls 4 [(0, .ref (o 0)), (1, .int a1), (2, .long a2)] := hl
  have q0 := hts (.constantLong RX6 118 (-1)) (by decide +kernel)
  unfold F_X6_changeIfPossible at h
  refine lv_lload_n hx hb dX6_changeIfPossible_0 rfl (lv_at hl 2 rfl) ?_
  refine lv_ldc2 (v := (-1 : Int64)) hx hb hown q0 dX6_changeIfPossible_1 ?_
  refine lx_ne (tgt := 18) hx hb dX6_changeIfPossible_4 dX6_changeIfPossible_5 (by decide) (fun c1 => ?_) (fun c1 => ?_)
  · replace h := fF c1 h
    refine lv_aload_n hx hb dX6_changeIfPossible_18 rfl (lv_at hl 0 rfl) ?_
    refine lv_iload_n hx hb dX6_changeIfPossible_19 rfl (lv_at hl 1 rfl) ?_
    refine lv_lload_n hx hb dX6_changeIfPossible_20 rfl (lv_at hl 2 rfl) ?_
    obtain ⟨r2, pl3, hs4, ho5, hc6, g7, h⟩ := fB5 h
    refine cV_i (As := [.int a1, .long a2]) (rest := []) (ws1 := (XW o y pl3 te be cn ch le rE rL rP rF rS rD hs4 ho5 hc6 sl fi)) ⟨hx, hb, hml, hown, hts⟩ (c_X6_change l D o y _ pl te be cn ch le rE rL rP rF rS rD hs ho hc sl fi a1 a2 r2 pl3 hs4 ho5 hc6 g7) (cwV 2 hts gX6_changeIfPossible_X6_change rfl rfl rfl hd_X6_change ⟨Nat.le_of_ble_eq_true rfl, Nat.le_of_ble_eq_true rfl⟩) hK hP hD hS hA [0, 1, 2, 3, 4, 5, 6, 7, 8, 9, 10, 11] [] [0, 1, 2, 3, 4, 5, 6, 7, 8, 9, 10, 11] rfl rfl rfl (by decide) rfl rfl rfl 0 (ci := 4) rfl rfl rfl hl.1 rfl (Nat.le_of_ble_eq_true rfl) dX6_changeIfPossible_21 ⟨Nat.le_of_ble_eq_true rfl, Nat.le_of_ble_eq_true rfl⟩ (fun H locs hP hD hS => ?_)
    cases h
    exact hE _ _ _ _ dX6_changeIfPossible_24 hP hD hS
  · replace h := fT c1 h
    exact fX (show ¬ (3 : Nat) = 0 by decide) h
abbrev xrm_X6_changeIfPossible : Room := { frames := 6, cells := 1, slots := 6, locals := 82 }
set_option maxHeartbeats 0 in
set_option maxRecDepth 100000 in
theorem x_X6_changeIfPossible (l : Launch) (hfl : l.stackTraces = false) (D : va_G) (o : Nat → Nat) (y : Nat → ClassId) (sz : Nat) (pl : Nat → Int64) (te : Nat → Int32) (be : Nat → Int64) (cn : Int32) (ch : Nat → Int32) (le : Int32) (rE : Int32) (rL : Int32) (rP : Int32) (rF : Int32) (rS : Int32) (rD : Int32) (hs : Nat → Int64) (ho : Int32) (hc : Int32) (sl : Nat → Int64) (fi : Nat → Int32) (a1 : Int32) (a2 : Int64) (k : Nat) (r : Int32) (pl' : Nat → Int64) (hs' : Nat → Int64) (ho' : Int32) (hc' : Int32) (hkx : ¬ k = 0) (h : F_X6_changeIfPossible pl hs ho hc a1 a2 = some (k, r, pl', hs', ho', hc')) : vx_Met l yX6_changeIfPossible wsX6_changeIfPossible xrm_X6_changeIfPossible (va_Pc [.ref (o 0), .int a1, .long a2] (pxe D y sz (XW o y pl te be cn ch le rE rL rP rF rS rD hs ho hc sl fi))) (QNo (XW o y pl te be cn ch le rE rL rP rF rS rD hs ho hc sl fi) sz) (QX D y sz (XW o y pl te be cn ch le rE rL rP rF rS rD hs ho hc sl fi) (XW o y pl' te be cn ch le rE rL rP rF rS rD hs' ho' hc' sl fi) k) 1 6 (va_A (XW o y pl te be cn ch le rE rL rP rF rS rD hs ho hc sl fi) sz) := by
  refine hd_x (cc := cX6_changeIfPossible) (maxL := 4) rfl rfl (Nat.le_of_ble_eq_true rfl) ?_
  intro p e s m args below meth c A Q H locs ls hx hb hml hts hown hA hP hD hK hS hl hEX hlocks hout hQ hAe
  have hl : lv_has ls 4 [(0, .ref (o 0)), (1, .int a1), (2, .long a2)] := hl
  have q0 := hts (.constantLong RX6 118 (-1)) (by decide +kernel)
  have q1 := hts (.classLink RX6 176 "java/lang/IllegalStateException") (by decide +kernel)
  have q2 := hts (.initialized "java/lang/IllegalStateException") (by decide +kernel)
  unfold F_X6_changeIfPossible at h
  refine lv_lload_n hx hb dX6_changeIfPossible_0 rfl (lv_at hl 2 rfl) ?_
  refine lv_ldc2 (v := (-1 : Int64)) hx hb hown q0 dX6_changeIfPossible_1 ?_
  refine lx_ne (tgt := 18) hx hb dX6_changeIfPossible_4 dX6_changeIfPossible_5 (by decide) (fun c1 => ?_) (fun c1 => ?_)
  · replace h := fF c1 h
    refine lv_aload_n hx hb dX6_changeIfPossible_18 rfl (lv_at hl 0 rfl) ?_
    refine lv_iload_n hx hb dX6_changeIfPossible_19 rfl (lv_at hl 1 rfl) ?_
    refine lv_lload_n hx hb dX6_changeIfPossible_20 rfl (lv_at hl 2 rfl) ?_
    obtain ⟨r2, pl3, hs4, ho5, hc6, g7, h⟩ := fB5 h
    refine cV_i (As := [.int a1, .long a2]) (rest := []) (ws1 := (XW o y pl3 te be cn ch le rE rL rP rF rS rD hs4 ho5 hc6 sl fi)) ⟨hx, hb, hml, hown, hts⟩ (c_X6_change l D o y _ pl te be cn ch le rE rL rP rF rS rD hs ho hc sl fi a1 a2 r2 pl3 hs4 ho5 hc6 g7) (cwV 2 hts gX6_changeIfPossible_X6_change rfl rfl rfl hd_X6_change ⟨Nat.le_of_ble_eq_true rfl, Nat.le_of_ble_eq_true rfl⟩) hK hP hD hS hA [0, 1, 2, 3, 4, 5, 6, 7, 8, 9, 10, 11] [] [0, 1, 2, 3, 4, 5, 6, 7, 8, 9, 10, 11] rfl rfl rfl (by decide) rfl rfl rfl 0 (ci := 4) rfl rfl rfl hl.1 rfl (Nat.le_of_ble_eq_true rfl) dX6_changeIfPossible_21 ⟨Nat.le_of_ble_eq_true rfl, Nat.le_of_ble_eq_true rfl⟩ (fun H locs hP hD hS => ?_)
    exact fY hkx h
  · replace h := fT c1 h
    cases h
    exact thrS (ik := 176) (is := 251) (ic := 180) (E := "java/lang/IllegalStateException") (txt := "the fraction is not possible") hx hb hfl hQ hAe hout hlocks hK hP hD hS hown rfl (by decide +kernel) q1 q2 (fun w hw => hts w (List.mem_cons_of_mem _ (List.mem_append_right _ hw))) th2_180 thg_180 hEX (by decide +kernel) (hl.1.trans hml.symm) dX6_changeIfPossible_8 dX6_changeIfPossible_11 dX6_changeIfPossible_12 dX6_changeIfPossible_14 dX6_changeIfPossible_17 (by decide) (Nat.le_of_ble_eq_true rfl) (by decide) (by decide) (by decide) (by decide)
abbrev rm_X6_add : Room := { frames := 4, cells := 0, slots := 0, locals := 97 }
theorem hd_X6_add : yX6_add.cls = RX6 ∧ yX6_add.cls ≠ "java/lang/invoke/MethodHandle" ∧ yX6_add.cls ≠ "java/lang/invoke/VarHandle" ∧ (parseMethodDescriptor yX6_add.desc).map (fun d => d.parameters.length) = some 2 := by decide +kernel
set_option maxHeartbeats 0 in
set_option maxRecDepth 100000 in
theorem c_X6_add (l : Launch) (D : va_G) (o : Nat → Nat) (y : Nat → ClassId) (sz : Nat) (pl : Nat → Int64) (te : Nat → Int32) (be : Nat → Int64) (cn : Int32) (ch : Nat → Int32) (le : Int32) (rE : Int32) (rL : Int32) (rP : Int32) (rF : Int32) (rS : Int32) (rD : Int32) (hs : Nat → Int64) (ho : Int32) (hc : Int32) (sl : Nat → Int64) (fi : Nat → Int32) (a1 : Int32) (a2 : Int32) (r : Int32) (pl' : Nat → Int64) (hs' : Nat → Int64) (ho' : Int32) (hc' : Int32) (h : F_X6_add pl hs ho hc a1 a2 = some (0, r, pl', hs', ho', hc')) : Met l yX6_add wsX6_add rm_X6_add (va_Pc [.ref (o 0), .int a1, .int a2] (px D y sz (XW o y pl te be cn ch le rE rL rP rF rS rD hs ho hc sl fi))) (Qri D y sz (XW o y pl te be cn ch le rE rL rP rF rS rD hs ho hc sl fi) (XW o y pl' te be cn ch le rE rL rP rF rS rD hs' ho' hc' sl fi) r) 0 0 (va_A (XW o y pl te be cn ch le rE rL rP rF rS rD hs ho hc sl fi) sz) := by
  refine hd_i (cc := cX6_add) (maxL := 3) rfl rfl (Nat.le_of_ble_eq_true rfl) ?_
  intro p e s m args below meth c A Q H locs ls hx hb hml hts hown _ hA hP hD hK hS hl hE
  have hl : lv_has ls 3 [(0, .ref (o 0)), (1, .int a1), (2, .int a2)] := hl
  have q0 := hts (.fieldLink RX6 9 "SliceShares" "plates" "[J") (by decide +kernel)
  have hinRX6 : ∀ w ∈ wsX60, w ∈ wsX6_add := by decide +kernel
  unfold F_X6_add at h
  refine lv_iload_n hx hb dX6_add_0 rfl (lv_at hl 1 rfl) ?_
  obtain ⟨k1, g2, h⟩ := fB1 h
  by_cases e3 : ¬ k1 = 0
  · replace h := fF e3 h
    exact fX e3 h
  replace e3 := Classical.not_not.mp e3
  subst e3
  replace h := fT rfl h
  refine cT_v (As := [.int a1]) (rest := []) ⟨hx, hb, hml, hown, hts⟩ (c_X6_requirePlate l D y _ a1 g2) (va_cwS 1 hts gX6_add_X6_requirePlate rfl rfl rfl hd_X6_requirePlate ⟨Nat.le_of_ble_eq_true rfl, Nat.le_of_ble_eq_true rfl⟩) hK hP hD hS hA rfl hl.1 rfl (Nat.le_of_ble_eq_true rfl) dX6_add_1 ⟨Nat.le_of_ble_eq_true rfl, Nat.le_of_ble_eq_true rfl⟩ (fun H locs hP hD hS => ?_)
  refine lv_iload_n hx hb dX6_add_4 rfl (lv_at hl 2 rfl) ?_
  obtain ⟨k4, g5, h⟩ := fB1 h
  by_cases e6 : ¬ k4 = 0
  · replace h := fF e6 h
    exact fX e6 h
  replace e6 := Classical.not_not.mp e6
  subst e6
  replace h := fT rfl h
  refine cT_v (As := [.int a2]) (rest := []) ⟨hx, hb, hml, hown, hts⟩ (c_X6_requirePlate l D y _ a2 g5) (va_cwS 1 hts gX6_add_X6_requirePlate rfl rfl rfl hd_X6_requirePlate ⟨Nat.le_of_ble_eq_true rfl, Nat.le_of_ble_eq_true rfl⟩) hK hP hD hS hA rfl hl.1 rfl (Nat.le_of_ble_eq_true rfl) dX6_add_5 ⟨Nat.le_of_ble_eq_true rfl, Nat.le_of_ble_eq_true rfl⟩ (fun H locs hP hD hS => ?_)
  refine lv_aload_n hx hb dX6_add_8 rfl (lv_at hl 0 rfl) ?_
  refine lv_iload_n hx hb dX6_add_9 rfl (lv_at hl 1 rfl) ?_
  refine lv_aload_n hx hb dX6_add_10 rfl (lv_at hl 0 rfl) ?_
  refine va_get (D := D) (ci := 4) (C := RX6) (T := TX6) (N := 7) hx hb hts hinRX6 hown hK hP 0 rfl rfl 0 (by decide) q0 (fun _ h9 => h9) rfl dX6_add_11 ?_
  refine lv_iload_n hx hb dX6_add_14 rfl (lv_at hl 1 rfl) ?_
  obtain ⟨g7, h⟩ := fG h
  refine va_lald hx hb hK hP 1 1 rfl rfl g7 dX6_add_15 ?_
  refine lv_aload_n hx hb dX6_add_16 rfl (lv_at hl 0 rfl) ?_
  refine va_get (D := D) (ci := 4) (C := RX6) (T := TX6) (N := 7) hx hb hts hinRX6 hown hK hP 0 rfl rfl 0 (by decide) q0 (fun _ h9 => h9) rfl dX6_add_17 ?_
  refine lv_iload_n hx hb dX6_add_20 rfl (lv_at hl 2 rfl) ?_
  obtain ⟨g8, h⟩ := fG h
  refine va_lald hx hb hK hP 1 1 rfl rfl g8 dX6_add_21 ?_
  obtain ⟨r9, g10, h⟩ := fB1 h
  refine cT_l (As := [.long (pl a1.toNatClampNeg), .long (pl a2.toNatClampNeg)]) (rest := [.int a1, .ref (o 0)]) ⟨hx, hb, hml, hown, hts⟩ (c_X3_sum l D y _ (pl a1.toNatClampNeg) (pl a2.toNatClampNeg) r9 g10) (va_cwS 2 hts gX6_add_X3_sum rfl rfl rfl hd_X3_sum ⟨Nat.le_of_ble_eq_true rfl, Nat.le_of_ble_eq_true rfl⟩) hK hP hD hS hA rfl hl.1 rfl (Nat.le_of_ble_eq_true rfl) dX6_add_22 ⟨Nat.le_of_ble_eq_true rfl, Nat.le_of_ble_eq_true rfl⟩ (fun H locs hP hD hS => ?_)
  obtain ⟨k11, r12, pl13, hs14, ho15, hc16, g17, h⟩ := fB6 h
  by_cases e18 : ¬ k11 = 0
  · replace h := fF e18 h
    exact fX e18 h
  replace e18 := Classical.not_not.mp e18
  subst e18
  replace h := fT rfl h
  refine cV_i (As := [.int a1, .long r9]) (rest := []) (ws1 := (XW o y pl13 te be cn ch le rE rL rP rF rS rD hs14 ho15 hc16 sl fi)) ⟨hx, hb, hml, hown, hts⟩ (c_X6_changeIfPossible l D o y _ pl te be cn ch le rE rL rP rF rS rD hs ho hc sl fi a1 r9 r12 pl13 hs14 ho15 hc16 g17) (cwV 2 hts gX6_add_X6_changeIfPossible rfl rfl rfl hd_X6_changeIfPossible ⟨Nat.le_of_ble_eq_true rfl, Nat.le_of_ble_eq_true rfl⟩) hK hP hD hS hA [0, 1, 2, 3, 4, 5, 6, 7, 8, 9, 10, 11] [] [0, 1, 2, 3, 4, 5, 6, 7, 8, 9, 10, 11] rfl rfl rfl (by decide) rfl rfl rfl 0 (ci := 4) rfl rfl rfl hl.1 rfl (Nat.le_of_ble_eq_true rfl) dX6_add_25 ⟨Nat.le_of_ble_eq_true rfl, Nat.le_of_ble_eq_true rfl⟩ (fun H locs hP hD hS => ?_)
  cases h
  exact hE _ _ _ _ dX6_add_28 hP hD hS
abbrev xrm_X6_add : Room := { frames := 7, cells := 1, slots := 6, locals := 105 }
set_option maxHeartbeats 0 in
set_option maxRecDepth 100000 in
theorem x_X6_add (l : Launch) (hfl : l.stackTraces = false) (D : va_G) (o : Nat → Nat) (y : Nat → ClassId) (sz : Nat) (pl : Nat → Int64) (te : Nat → Int32) (be : Nat → Int64) (cn : Int32) (ch : Nat → Int32) (le : Int32) (rE : Int32) (rL : Int32) (rP : Int32) (rF : Int32) (rS : Int32) (rD : Int32) (hs : Nat → Int64) (ho : Int32) (hc : Int32) (sl : Nat → Int64) (fi : Nat → Int32) (a1 : Int32) (a2 : Int32) (k : Nat) (r : Int32) (pl' : Nat → Int64) (hs' : Nat → Int64) (ho' : Int32) (hc' : Int32) (hkx : ¬ k = 0) (h : F_X6_add pl hs ho hc a1 a2 = some (k, r, pl', hs', ho', hc')) : vx_Met l yX6_add wsX6_add xrm_X6_add (va_Pc [.ref (o 0), .int a1, .int a2] (pxe D y sz (XW o y pl te be cn ch le rE rL rP rF rS rD hs ho hc sl fi))) (QNo (XW o y pl te be cn ch le rE rL rP rF rS rD hs ho hc sl fi) sz) (QX D y sz (XW o y pl te be cn ch le rE rL rP rF rS rD hs ho hc sl fi) (XW o y pl' te be cn ch le rE rL rP rF rS rD hs' ho' hc' sl fi) k) 1 6 (va_A (XW o y pl te be cn ch le rE rL rP rF rS rD hs ho hc sl fi) sz) := by
  refine hd_x (cc := cX6_add) (maxL := 3) rfl rfl (Nat.le_of_ble_eq_true rfl) ?_
  intro p e s m args below meth c A Q H locs ls hx hb hml hts hown hA hP hD hK hS hl hEX hlocks hout hQ hAe
  have hl : lv_has ls 3 [(0, .ref (o 0)), (1, .int a1), (2, .int a2)] := hl
  have q0 := hts (.fieldLink RX6 9 "SliceShares" "plates" "[J") (by decide +kernel)
  have hinRX6 : ∀ w ∈ wsX60, w ∈ wsX6_add := by decide +kernel
  unfold F_X6_add at h
  refine lv_iload_n hx hb dX6_add_0 rfl (lv_at hl 1 rfl) ?_
  obtain ⟨k1, g2, h⟩ := fB1 h
  by_cases e3 : ¬ k1 = 0
  · replace h := fF e3 h
    refine xc_S (As := [.int a1]) (rest := []) (ws1 := (XW o y pl te be cn ch le rE rL rP rF rS rD hs ho hc sl fi)) ⟨hx, hb, hml, hown, hts⟩ (x_X6_requirePlate l hfl D y _ a1 k1 e3 g2) (va_cwS 1 hts gX6_add_X6_requirePlate rfl rfl rfl hd_X6_requirePlate ⟨Nat.le_of_ble_eq_true rfl, Nat.le_of_ble_eq_true rfl⟩) hK hP hD hS hA hEX [] [0, 1, 2, 3, 4, 5, 6, 7, 8, 9, 10, 11] [0, 1, 2, 3, 4, 5, 6, 7, 8, 9, 10, 11] rfl rfl rfl (by decide) rfl rfl rfl rfl hl.1 rfl (Nat.le_of_ble_eq_true rfl) dX6_add_1 ⟨Nat.le_of_ble_eq_true rfl, Nat.le_of_ble_eq_true rfl⟩ (fun H locs ce q hP hD hS hce hv hcl => ?_)
    cases h
    exact outX hQ hAe hout hlocks hK hP hD hS hce hv hcl rfl (by decide) (by decide)
  replace e3 := Classical.not_not.mp e3
  subst e3
  replace h := fT rfl h
  refine cT_v (As := [.int a1]) (rest := []) ⟨hx, hb, hml, hown, hts⟩ (c_X6_requirePlate l D y _ a1 g2) (va_cwS 1 hts gX6_add_X6_requirePlate rfl rfl rfl hd_X6_requirePlate ⟨Nat.le_of_ble_eq_true rfl, Nat.le_of_ble_eq_true rfl⟩) hK hP hD hS hA rfl hl.1 rfl (Nat.le_of_ble_eq_true rfl) dX6_add_1 ⟨Nat.le_of_ble_eq_true rfl, Nat.le_of_ble_eq_true rfl⟩ (fun H locs hP hD hS => ?_)
  refine lv_iload_n hx hb dX6_add_4 rfl (lv_at hl 2 rfl) ?_
  obtain ⟨k4, g5, h⟩ := fB1 h
  by_cases e6 : ¬ k4 = 0
  · replace h := fF e6 h
    refine xc_S (As := [.int a2]) (rest := []) (ws1 := (XW o y pl te be cn ch le rE rL rP rF rS rD hs ho hc sl fi)) ⟨hx, hb, hml, hown, hts⟩ (x_X6_requirePlate l hfl D y _ a2 k4 e6 g5) (va_cwS 1 hts gX6_add_X6_requirePlate rfl rfl rfl hd_X6_requirePlate ⟨Nat.le_of_ble_eq_true rfl, Nat.le_of_ble_eq_true rfl⟩) hK hP hD hS hA hEX [] [0, 1, 2, 3, 4, 5, 6, 7, 8, 9, 10, 11] [0, 1, 2, 3, 4, 5, 6, 7, 8, 9, 10, 11] rfl rfl rfl (by decide) rfl rfl rfl rfl hl.1 rfl (Nat.le_of_ble_eq_true rfl) dX6_add_5 ⟨Nat.le_of_ble_eq_true rfl, Nat.le_of_ble_eq_true rfl⟩ (fun H locs ce q hP hD hS hce hv hcl => ?_)
    cases h
    exact outX hQ hAe hout hlocks hK hP hD hS hce hv hcl rfl (by decide) (by decide)
  replace e6 := Classical.not_not.mp e6
  subst e6
  replace h := fT rfl h
  refine cT_v (As := [.int a2]) (rest := []) ⟨hx, hb, hml, hown, hts⟩ (c_X6_requirePlate l D y _ a2 g5) (va_cwS 1 hts gX6_add_X6_requirePlate rfl rfl rfl hd_X6_requirePlate ⟨Nat.le_of_ble_eq_true rfl, Nat.le_of_ble_eq_true rfl⟩) hK hP hD hS hA rfl hl.1 rfl (Nat.le_of_ble_eq_true rfl) dX6_add_5 ⟨Nat.le_of_ble_eq_true rfl, Nat.le_of_ble_eq_true rfl⟩ (fun H locs hP hD hS => ?_)
  refine lv_aload_n hx hb dX6_add_8 rfl (lv_at hl 0 rfl) ?_
  refine lv_iload_n hx hb dX6_add_9 rfl (lv_at hl 1 rfl) ?_
  refine lv_aload_n hx hb dX6_add_10 rfl (lv_at hl 0 rfl) ?_
  refine va_get (D := D) (ci := 4) (C := RX6) (T := TX6) (N := 7) hx hb hts hinRX6 hown hK hP 0 rfl rfl 0 (by decide) q0 (fun _ h9 => h9) rfl dX6_add_11 ?_
  refine lv_iload_n hx hb dX6_add_14 rfl (lv_at hl 1 rfl) ?_
  obtain ⟨g7, h⟩ := fG h
  refine va_lald hx hb hK hP 1 1 rfl rfl g7 dX6_add_15 ?_
  refine lv_aload_n hx hb dX6_add_16 rfl (lv_at hl 0 rfl) ?_
  refine va_get (D := D) (ci := 4) (C := RX6) (T := TX6) (N := 7) hx hb hts hinRX6 hown hK hP 0 rfl rfl 0 (by decide) q0 (fun _ h9 => h9) rfl dX6_add_17 ?_
  refine lv_iload_n hx hb dX6_add_20 rfl (lv_at hl 2 rfl) ?_
  obtain ⟨g8, h⟩ := fG h
  refine va_lald hx hb hK hP 1 1 rfl rfl g8 dX6_add_21 ?_
  obtain ⟨r9, g10, h⟩ := fB1 h
  refine cT_l (As := [.long (pl a1.toNatClampNeg), .long (pl a2.toNatClampNeg)]) (rest := [.int a1, .ref (o 0)]) ⟨hx, hb, hml, hown, hts⟩ (c_X3_sum l D y _ (pl a1.toNatClampNeg) (pl a2.toNatClampNeg) r9 g10) (va_cwS 2 hts gX6_add_X3_sum rfl rfl rfl hd_X3_sum ⟨Nat.le_of_ble_eq_true rfl, Nat.le_of_ble_eq_true rfl⟩) hK hP hD hS hA rfl hl.1 rfl (Nat.le_of_ble_eq_true rfl) dX6_add_22 ⟨Nat.le_of_ble_eq_true rfl, Nat.le_of_ble_eq_true rfl⟩ (fun H locs hP hD hS => ?_)
  obtain ⟨k11, r12, pl13, hs14, ho15, hc16, g17, h⟩ := fB6 h
  by_cases e18 : ¬ k11 = 0
  · replace h := fF e18 h
    refine xc_V (As := [.int a1, .long r9]) (rest := []) (ws1 := (XW o y pl13 te be cn ch le rE rL rP rF rS rD hs14 ho15 hc16 sl fi)) ⟨hx, hb, hml, hown, hts⟩ (x_X6_changeIfPossible l hfl D o y _ pl te be cn ch le rE rL rP rF rS rD hs ho hc sl fi a1 r9 k11 r12 pl13 hs14 ho15 hc16 e18 g17) (cwV 2 hts gX6_add_X6_changeIfPossible rfl rfl rfl hd_X6_changeIfPossible ⟨Nat.le_of_ble_eq_true rfl, Nat.le_of_ble_eq_true rfl⟩) hK hP hD hS hA hEX [0, 1, 2, 3, 4, 5, 6, 7, 8, 9, 10, 11] [] [0, 1, 2, 3, 4, 5, 6, 7, 8, 9, 10, 11] rfl rfl rfl (by decide) rfl rfl rfl 0 (ci := 4) rfl rfl rfl hl.1 rfl (Nat.le_of_ble_eq_true rfl) dX6_add_25 ⟨Nat.le_of_ble_eq_true rfl, Nat.le_of_ble_eq_true rfl⟩ (fun H locs ce q hP hD hS hce hv hcl => ?_)
    cases h
    exact outX hQ hAe hout hlocks hK hP hD hS hce hv hcl rfl (by decide) (by decide)
  replace e18 := Classical.not_not.mp e18
  subst e18
  replace h := fT rfl h
  refine cV_i (As := [.int a1, .long r9]) (rest := []) (ws1 := (XW o y pl13 te be cn ch le rE rL rP rF rS rD hs14 ho15 hc16 sl fi)) ⟨hx, hb, hml, hown, hts⟩ (c_X6_changeIfPossible l D o y _ pl te be cn ch le rE rL rP rF rS rD hs ho hc sl fi a1 r9 r12 pl13 hs14 ho15 hc16 g17) (cwV 2 hts gX6_add_X6_changeIfPossible rfl rfl rfl hd_X6_changeIfPossible ⟨Nat.le_of_ble_eq_true rfl, Nat.le_of_ble_eq_true rfl⟩) hK hP hD hS hA [0, 1, 2, 3, 4, 5, 6, 7, 8, 9, 10, 11] [] [0, 1, 2, 3, 4, 5, 6, 7, 8, 9, 10, 11] rfl rfl rfl (by decide) rfl rfl rfl 0 (ci := 4) rfl rfl rfl hl.1 rfl (Nat.le_of_ble_eq_true rfl) dX6_add_25 ⟨Nat.le_of_ble_eq_true rfl, Nat.le_of_ble_eq_true rfl⟩ (fun H locs hP hD hS => ?_)
  exact fY hkx h
abbrev rm_X6_takeAway : Room := { frames := 4, cells := 0, slots := 0, locals := 97 }
theorem hd_X6_takeAway : yX6_takeAway.cls = RX6 ∧ yX6_takeAway.cls ≠ "java/lang/invoke/MethodHandle" ∧ yX6_takeAway.cls ≠ "java/lang/invoke/VarHandle" ∧ (parseMethodDescriptor yX6_takeAway.desc).map (fun d => d.parameters.length) = some 2 := by decide +kernel
set_option maxHeartbeats 0 in
set_option maxRecDepth 100000 in
theorem c_X6_takeAway (l : Launch) (D : va_G) (o : Nat → Nat) (y : Nat → ClassId) (sz : Nat) (pl : Nat → Int64) (te : Nat → Int32) (be : Nat → Int64) (cn : Int32) (ch : Nat → Int32) (le : Int32) (rE : Int32) (rL : Int32) (rP : Int32) (rF : Int32) (rS : Int32) (rD : Int32) (hs : Nat → Int64) (ho : Int32) (hc : Int32) (sl : Nat → Int64) (fi : Nat → Int32) (a1 : Int32) (a2 : Int32) (r : Int32) (pl' : Nat → Int64) (hs' : Nat → Int64) (ho' : Int32) (hc' : Int32) (h : F_X6_takeAway pl hs ho hc a1 a2 = some (0, r, pl', hs', ho', hc')) : Met l yX6_takeAway wsX6_takeAway rm_X6_takeAway (va_Pc [.ref (o 0), .int a1, .int a2] (px D y sz (XW o y pl te be cn ch le rE rL rP rF rS rD hs ho hc sl fi))) (Qri D y sz (XW o y pl te be cn ch le rE rL rP rF rS rD hs ho hc sl fi) (XW o y pl' te be cn ch le rE rL rP rF rS rD hs' ho' hc' sl fi) r) 0 0 (va_A (XW o y pl te be cn ch le rE rL rP rF rS rD hs ho hc sl fi) sz) := by
  refine hd_i (cc := cX6_takeAway) (maxL := 3) rfl rfl (Nat.le_of_ble_eq_true rfl) ?_
  intro p e s m args below meth c A Q H locs ls hx hb hml hts hown _ hA hP hD hK hS hl hE
  have hl : lv_has ls 3 [(0, .ref (o 0)), (1, .int a1), (2, .int a2)] := hl
  have q0 := hts (.fieldLink RX6 9 "SliceShares" "plates" "[J") (by decide +kernel)
  have hinRX6 : ∀ w ∈ wsX60, w ∈ wsX6_takeAway := by decide +kernel
  unfold F_X6_takeAway at h
  refine lv_iload_n hx hb dX6_takeAway_0 rfl (lv_at hl 1 rfl) ?_
  obtain ⟨k1, g2, h⟩ := fB1 h
  by_cases e3 : ¬ k1 = 0
  · replace h := fF e3 h
    exact fX e3 h
  replace e3 := Classical.not_not.mp e3
  subst e3
  replace h := fT rfl h
  refine cT_v (As := [.int a1]) (rest := []) ⟨hx, hb, hml, hown, hts⟩ (c_X6_requirePlate l D y _ a1 g2) (va_cwS 1 hts gX6_takeAway_X6_requirePlate rfl rfl rfl hd_X6_requirePlate ⟨Nat.le_of_ble_eq_true rfl, Nat.le_of_ble_eq_true rfl⟩) hK hP hD hS hA rfl hl.1 rfl (Nat.le_of_ble_eq_true rfl) dX6_takeAway_1 ⟨Nat.le_of_ble_eq_true rfl, Nat.le_of_ble_eq_true rfl⟩ (fun H locs hP hD hS => ?_)
  refine lv_iload_n hx hb dX6_takeAway_4 rfl (lv_at hl 2 rfl) ?_
  obtain ⟨k4, g5, h⟩ := fB1 h
  by_cases e6 : ¬ k4 = 0
  · replace h := fF e6 h
    exact fX e6 h
  replace e6 := Classical.not_not.mp e6
  subst e6
  replace h := fT rfl h
  refine cT_v (As := [.int a2]) (rest := []) ⟨hx, hb, hml, hown, hts⟩ (c_X6_requirePlate l D y _ a2 g5) (va_cwS 1 hts gX6_takeAway_X6_requirePlate rfl rfl rfl hd_X6_requirePlate ⟨Nat.le_of_ble_eq_true rfl, Nat.le_of_ble_eq_true rfl⟩) hK hP hD hS hA rfl hl.1 rfl (Nat.le_of_ble_eq_true rfl) dX6_takeAway_5 ⟨Nat.le_of_ble_eq_true rfl, Nat.le_of_ble_eq_true rfl⟩ (fun H locs hP hD hS => ?_)
  refine lv_aload_n hx hb dX6_takeAway_8 rfl (lv_at hl 0 rfl) ?_
  refine lv_iload_n hx hb dX6_takeAway_9 rfl (lv_at hl 1 rfl) ?_
  refine lv_aload_n hx hb dX6_takeAway_10 rfl (lv_at hl 0 rfl) ?_
  refine va_get (D := D) (ci := 4) (C := RX6) (T := TX6) (N := 7) hx hb hts hinRX6 hown hK hP 0 rfl rfl 0 (by decide) q0 (fun _ h9 => h9) rfl dX6_takeAway_11 ?_
  refine lv_iload_n hx hb dX6_takeAway_14 rfl (lv_at hl 1 rfl) ?_
  obtain ⟨g7, h⟩ := fG h
  refine va_lald hx hb hK hP 1 1 rfl rfl g7 dX6_takeAway_15 ?_
  refine lv_aload_n hx hb dX6_takeAway_16 rfl (lv_at hl 0 rfl) ?_
  refine va_get (D := D) (ci := 4) (C := RX6) (T := TX6) (N := 7) hx hb hts hinRX6 hown hK hP 0 rfl rfl 0 (by decide) q0 (fun _ h9 => h9) rfl dX6_takeAway_17 ?_
  refine lv_iload_n hx hb dX6_takeAway_20 rfl (lv_at hl 2 rfl) ?_
  obtain ⟨g8, h⟩ := fG h
  refine va_lald hx hb hK hP 1 1 rfl rfl g8 dX6_takeAway_21 ?_
  obtain ⟨r9, g10, h⟩ := fB1 h
  refine cT_l (As := [.long (pl a1.toNatClampNeg), .long (pl a2.toNatClampNeg)]) (rest := [.int a1, .ref (o 0)]) ⟨hx, hb, hml, hown, hts⟩ (c_X3_difference l D y _ (pl a1.toNatClampNeg) (pl a2.toNatClampNeg) r9 g10) (va_cwS 2 hts gX6_takeAway_X3_difference rfl rfl rfl hd_X3_difference ⟨Nat.le_of_ble_eq_true rfl, Nat.le_of_ble_eq_true rfl⟩) hK hP hD hS hA rfl hl.1 rfl (Nat.le_of_ble_eq_true rfl) dX6_takeAway_22 ⟨Nat.le_of_ble_eq_true rfl, Nat.le_of_ble_eq_true rfl⟩ (fun H locs hP hD hS => ?_)
  obtain ⟨k11, r12, pl13, hs14, ho15, hc16, g17, h⟩ := fB6 h
  by_cases e18 : ¬ k11 = 0
  · replace h := fF e18 h
    exact fX e18 h
  replace e18 := Classical.not_not.mp e18
  subst e18
  replace h := fT rfl h
  refine cV_i (As := [.int a1, .long r9]) (rest := []) (ws1 := (XW o y pl13 te be cn ch le rE rL rP rF rS rD hs14 ho15 hc16 sl fi)) ⟨hx, hb, hml, hown, hts⟩ (c_X6_changeIfPossible l D o y _ pl te be cn ch le rE rL rP rF rS rD hs ho hc sl fi a1 r9 r12 pl13 hs14 ho15 hc16 g17) (cwV 2 hts gX6_takeAway_X6_changeIfPossible rfl rfl rfl hd_X6_changeIfPossible ⟨Nat.le_of_ble_eq_true rfl, Nat.le_of_ble_eq_true rfl⟩) hK hP hD hS hA [0, 1, 2, 3, 4, 5, 6, 7, 8, 9, 10, 11] [] [0, 1, 2, 3, 4, 5, 6, 7, 8, 9, 10, 11] rfl rfl rfl (by decide) rfl rfl rfl 0 (ci := 4) rfl rfl rfl hl.1 rfl (Nat.le_of_ble_eq_true rfl) dX6_takeAway_25 ⟨Nat.le_of_ble_eq_true rfl, Nat.le_of_ble_eq_true rfl⟩ (fun H locs hP hD hS => ?_)
  cases h
  exact hE _ _ _ _ dX6_takeAway_28 hP hD hS
abbrev xrm_X6_takeAway : Room := { frames := 7, cells := 1, slots := 6, locals := 105 }
set_option maxHeartbeats 0 in
set_option maxRecDepth 100000 in
theorem x_X6_takeAway (l : Launch) (hfl : l.stackTraces = false) (D : va_G) (o : Nat → Nat) (y : Nat → ClassId) (sz : Nat) (pl : Nat → Int64) (te : Nat → Int32) (be : Nat → Int64) (cn : Int32) (ch : Nat → Int32) (le : Int32) (rE : Int32) (rL : Int32) (rP : Int32) (rF : Int32) (rS : Int32) (rD : Int32) (hs : Nat → Int64) (ho : Int32) (hc : Int32) (sl : Nat → Int64) (fi : Nat → Int32) (a1 : Int32) (a2 : Int32) (k : Nat) (r : Int32) (pl' : Nat → Int64) (hs' : Nat → Int64) (ho' : Int32) (hc' : Int32) (hkx : ¬ k = 0) (h : F_X6_takeAway pl hs ho hc a1 a2 = some (k, r, pl', hs', ho', hc')) : vx_Met l yX6_takeAway wsX6_takeAway xrm_X6_takeAway (va_Pc [.ref (o 0), .int a1, .int a2] (pxe D y sz (XW o y pl te be cn ch le rE rL rP rF rS rD hs ho hc sl fi))) (QNo (XW o y pl te be cn ch le rE rL rP rF rS rD hs ho hc sl fi) sz) (QX D y sz (XW o y pl te be cn ch le rE rL rP rF rS rD hs ho hc sl fi) (XW o y pl' te be cn ch le rE rL rP rF rS rD hs' ho' hc' sl fi) k) 1 6 (va_A (XW o y pl te be cn ch le rE rL rP rF rS rD hs ho hc sl fi) sz) := by
  refine hd_x (cc := cX6_takeAway) (maxL := 3) rfl rfl (Nat.le_of_ble_eq_true rfl) ?_
  intro p e s m args below meth c A Q H locs ls hx hb hml hts hown hA hP hD hK hS hl hEX hlocks hout hQ hAe
  have hl : lv_has ls 3 [(0, .ref (o 0)), (1, .int a1), (2, .int a2)] := hl
  have q0 := hts (.fieldLink RX6 9 "SliceShares" "plates" "[J") (by decide +kernel)
  have hinRX6 : ∀ w ∈ wsX60, w ∈ wsX6_takeAway := by decide +kernel
  unfold F_X6_takeAway at h
  refine lv_iload_n hx hb dX6_takeAway_0 rfl (lv_at hl 1 rfl) ?_
  obtain ⟨k1, g2, h⟩ := fB1 h
  by_cases e3 : ¬ k1 = 0
  · replace h := fF e3 h
    refine xc_S (As := [.int a1]) (rest := []) (ws1 := (XW o y pl te be cn ch le rE rL rP rF rS rD hs ho hc sl fi)) ⟨hx, hb, hml, hown, hts⟩ (x_X6_requirePlate l hfl D y _ a1 k1 e3 g2) (va_cwS 1 hts gX6_takeAway_X6_requirePlate rfl rfl rfl hd_X6_requirePlate ⟨Nat.le_of_ble_eq_true rfl, Nat.le_of_ble_eq_true rfl⟩) hK hP hD hS hA hEX [] [0, 1, 2, 3, 4, 5, 6, 7, 8, 9, 10, 11] [0, 1, 2, 3, 4, 5, 6, 7, 8, 9, 10, 11] rfl rfl rfl (by decide) rfl rfl rfl rfl hl.1 rfl (Nat.le_of_ble_eq_true rfl) dX6_takeAway_1 ⟨Nat.le_of_ble_eq_true rfl, Nat.le_of_ble_eq_true rfl⟩ (fun H locs ce q hP hD hS hce hv hcl => ?_)
    cases h
    exact outX hQ hAe hout hlocks hK hP hD hS hce hv hcl rfl (by decide) (by decide)
  replace e3 := Classical.not_not.mp e3
  subst e3
  replace h := fT rfl h
  refine cT_v (As := [.int a1]) (rest := []) ⟨hx, hb, hml, hown, hts⟩ (c_X6_requirePlate l D y _ a1 g2) (va_cwS 1 hts gX6_takeAway_X6_requirePlate rfl rfl rfl hd_X6_requirePlate ⟨Nat.le_of_ble_eq_true rfl, Nat.le_of_ble_eq_true rfl⟩) hK hP hD hS hA rfl hl.1 rfl (Nat.le_of_ble_eq_true rfl) dX6_takeAway_1 ⟨Nat.le_of_ble_eq_true rfl, Nat.le_of_ble_eq_true rfl⟩ (fun H locs hP hD hS => ?_)
  refine lv_iload_n hx hb dX6_takeAway_4 rfl (lv_at hl 2 rfl) ?_
  obtain ⟨k4, g5, h⟩ := fB1 h
  by_cases e6 : ¬ k4 = 0
  · replace h := fF e6 h
    refine xc_S (As := [.int a2]) (rest := []) (ws1 := (XW o y pl te be cn ch le rE rL rP rF rS rD hs ho hc sl fi)) ⟨hx, hb, hml, hown, hts⟩ (x_X6_requirePlate l hfl D y _ a2 k4 e6 g5) (va_cwS 1 hts gX6_takeAway_X6_requirePlate rfl rfl rfl hd_X6_requirePlate ⟨Nat.le_of_ble_eq_true rfl, Nat.le_of_ble_eq_true rfl⟩) hK hP hD hS hA hEX [] [0, 1, 2, 3, 4, 5, 6, 7, 8, 9, 10, 11] [0, 1, 2, 3, 4, 5, 6, 7, 8, 9, 10, 11] rfl rfl rfl (by decide) rfl rfl rfl rfl hl.1 rfl (Nat.le_of_ble_eq_true rfl) dX6_takeAway_5 ⟨Nat.le_of_ble_eq_true rfl, Nat.le_of_ble_eq_true rfl⟩ (fun H locs ce q hP hD hS hce hv hcl => ?_)
    cases h
    exact outX hQ hAe hout hlocks hK hP hD hS hce hv hcl rfl (by decide) (by decide)
  replace e6 := Classical.not_not.mp e6
  subst e6
  replace h := fT rfl h
  refine cT_v (As := [.int a2]) (rest := []) ⟨hx, hb, hml, hown, hts⟩ (c_X6_requirePlate l D y _ a2 g5) (va_cwS 1 hts gX6_takeAway_X6_requirePlate rfl rfl rfl hd_X6_requirePlate ⟨Nat.le_of_ble_eq_true rfl, Nat.le_of_ble_eq_true rfl⟩) hK hP hD hS hA rfl hl.1 rfl (Nat.le_of_ble_eq_true rfl) dX6_takeAway_5 ⟨Nat.le_of_ble_eq_true rfl, Nat.le_of_ble_eq_true rfl⟩ (fun H locs hP hD hS => ?_)
  refine lv_aload_n hx hb dX6_takeAway_8 rfl (lv_at hl 0 rfl) ?_
  refine lv_iload_n hx hb dX6_takeAway_9 rfl (lv_at hl 1 rfl) ?_
  refine lv_aload_n hx hb dX6_takeAway_10 rfl (lv_at hl 0 rfl) ?_
  refine va_get (D := D) (ci := 4) (C := RX6) (T := TX6) (N := 7) hx hb hts hinRX6 hown hK hP 0 rfl rfl 0 (by decide) q0 (fun _ h9 => h9) rfl dX6_takeAway_11 ?_
  refine lv_iload_n hx hb dX6_takeAway_14 rfl (lv_at hl 1 rfl) ?_
  obtain ⟨g7, h⟩ := fG h
  refine va_lald hx hb hK hP 1 1 rfl rfl g7 dX6_takeAway_15 ?_
  refine lv_aload_n hx hb dX6_takeAway_16 rfl (lv_at hl 0 rfl) ?_
  refine va_get (D := D) (ci := 4) (C := RX6) (T := TX6) (N := 7) hx hb hts hinRX6 hown hK hP 0 rfl rfl 0 (by decide) q0 (fun _ h9 => h9) rfl dX6_takeAway_17 ?_
  refine lv_iload_n hx hb dX6_takeAway_20 rfl (lv_at hl 2 rfl) ?_
  obtain ⟨g8, h⟩ := fG h
  refine va_lald hx hb hK hP 1 1 rfl rfl g8 dX6_takeAway_21 ?_
  obtain ⟨r9, g10, h⟩ := fB1 h
  refine cT_l (As := [.long (pl a1.toNatClampNeg), .long (pl a2.toNatClampNeg)]) (rest := [.int a1, .ref (o 0)]) ⟨hx, hb, hml, hown, hts⟩ (c_X3_difference l D y _ (pl a1.toNatClampNeg) (pl a2.toNatClampNeg) r9 g10) (va_cwS 2 hts gX6_takeAway_X3_difference rfl rfl rfl hd_X3_difference ⟨Nat.le_of_ble_eq_true rfl, Nat.le_of_ble_eq_true rfl⟩) hK hP hD hS hA rfl hl.1 rfl (Nat.le_of_ble_eq_true rfl) dX6_takeAway_22 ⟨Nat.le_of_ble_eq_true rfl, Nat.le_of_ble_eq_true rfl⟩ (fun H locs hP hD hS => ?_)
  obtain ⟨k11, r12, pl13, hs14, ho15, hc16, g17, h⟩ := fB6 h
  by_cases e18 : ¬ k11 = 0
  · replace h := fF e18 h
    refine xc_V (As := [.int a1, .long r9]) (rest := []) (ws1 := (XW o y pl13 te be cn ch le rE rL rP rF rS rD hs14 ho15 hc16 sl fi)) ⟨hx, hb, hml, hown, hts⟩ (x_X6_changeIfPossible l hfl D o y _ pl te be cn ch le rE rL rP rF rS rD hs ho hc sl fi a1 r9 k11 r12 pl13 hs14 ho15 hc16 e18 g17) (cwV 2 hts gX6_takeAway_X6_changeIfPossible rfl rfl rfl hd_X6_changeIfPossible ⟨Nat.le_of_ble_eq_true rfl, Nat.le_of_ble_eq_true rfl⟩) hK hP hD hS hA hEX [0, 1, 2, 3, 4, 5, 6, 7, 8, 9, 10, 11] [] [0, 1, 2, 3, 4, 5, 6, 7, 8, 9, 10, 11] rfl rfl rfl (by decide) rfl rfl rfl 0 (ci := 4) rfl rfl rfl hl.1 rfl (Nat.le_of_ble_eq_true rfl) dX6_takeAway_25 ⟨Nat.le_of_ble_eq_true rfl, Nat.le_of_ble_eq_true rfl⟩ (fun H locs ce q hP hD hS hce hv hcl => ?_)
    cases h
    exact outX hQ hAe hout hlocks hK hP hD hS hce hv hcl rfl (by decide) (by decide)
  replace e18 := Classical.not_not.mp e18
  subst e18
  replace h := fT rfl h
  refine cV_i (As := [.int a1, .long r9]) (rest := []) (ws1 := (XW o y pl13 te be cn ch le rE rL rP rF rS rD hs14 ho15 hc16 sl fi)) ⟨hx, hb, hml, hown, hts⟩ (c_X6_changeIfPossible l D o y _ pl te be cn ch le rE rL rP rF rS rD hs ho hc sl fi a1 r9 r12 pl13 hs14 ho15 hc16 g17) (cwV 2 hts gX6_takeAway_X6_changeIfPossible rfl rfl rfl hd_X6_changeIfPossible ⟨Nat.le_of_ble_eq_true rfl, Nat.le_of_ble_eq_true rfl⟩) hK hP hD hS hA [0, 1, 2, 3, 4, 5, 6, 7, 8, 9, 10, 11] [] [0, 1, 2, 3, 4, 5, 6, 7, 8, 9, 10, 11] rfl rfl rfl (by decide) rfl rfl rfl 0 (ci := 4) rfl rfl rfl hl.1 rfl (Nat.le_of_ble_eq_true rfl) dX6_takeAway_25 ⟨Nat.le_of_ble_eq_true rfl, Nat.le_of_ble_eq_true rfl⟩ (fun H locs hP hD hS => ?_)
  exact fY hkx h
