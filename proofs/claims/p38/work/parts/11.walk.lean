abbrev rm_X3_inLowestTerms : Room := { frames := 2, cells := 0, slots := 0, locals := 45 }
theorem hd_X3_inLowestTerms : yX3_inLowestTerms.cls ≠ "java/lang/invoke/MethodHandle" ∧ yX3_inLowestTerms.cls ≠ "java/lang/invoke/VarHandle" ∧ (parseMethodDescriptor yX3_inLowestTerms.desc).map (fun d => d.parameters.length) = some 2 := by decide +kernel
set_option maxHeartbeats 0 in
set_option maxRecDepth 100000 in
theorem c_X3_inLowestTerms (l : Launch) (D : va_G) (y : Nat → ClassId) (sz : Nat) (a1 : Int64) (a2 : Int64) (r : Int64) (h : F_X3_inLowestTerms a1 a2 = some r) : Met l yX3_inLowestTerms wsX3_inLowestTerms rm_X3_inLowestTerms (va_Pc [.long a1, .long a2] (px D y sz [])) (Qrl D y sz [] [] r) 0 0 (va_A [] sz) := by
  refine hd_l (cc := cX3_inLowestTerms) (maxL := 10) rfl rfl (Nat.le_of_ble_eq_true rfl) ?_
  intro p e s m args below meth c A Q H locs ls hx hb hml hts hown _ hA hP hD hK hS hl hE
  have hl : lv_has ls 10 [(0, .long a1), (2, .long a2)] := hl
  have q0 := hts (.constantLong RX3 19 (-1)) (by decide +kernel)
  have q1 := hts (.constantLong RX3 24 (1000000)) (by decide +kernel)
  unfold F_X3_inLowestTerms at h
  refine lv_lload_n hx hb dX3_inLowestTerms_0 rfl (lv_at hl 0 rfl) ?_
  refine lv_lconst (v := (0 : Int64)) hx hb dX3_inLowestTerms_1 rfl ?_
  refine lx_lt (tgt := 12) hx hb dX3_inLowestTerms_2 dX3_inLowestTerms_3 (by decide) (fun c1 => ?_) (fun c1 => ?_)
  · replace h := fT c1 h
    refine lv_ldc2 (v := (-1 : Int64)) hx hb hown q0 dX3_inLowestTerms_12 ?_
    cases h
    exact hE _ _ _ _ dX3_inLowestTerms_15 hP hD hS
  · replace h := fF c1 h
    refine lv_lload_n hx hb dX3_inLowestTerms_6 rfl (lv_at hl 1 rfl) ?_
    refine lv_lconst (v := (1 : Int64)) hx hb dX3_inLowestTerms_7 rfl ?_
    refine lx_ge (tgt := 16) hx hb dX3_inLowestTerms_8 dX3_inLowestTerms_9 (by decide) (fun c2 => ?_) (fun c2 => ?_)
    · replace h := fT c2 h
      refine lv_lload_n hx hb dX3_inLowestTerms_16 rfl (lv_at hl 0 rfl) ?_
      refine lv_lload_n hx hb dX3_inLowestTerms_17 rfl (lv_at hl 1 rfl) ?_
      obtain ⟨r3, g4, h⟩ := fB1 h
      refine cT_l (As := [.long a1, .long a2]) (rest := []) ⟨hx, hb, hml, hown, hts⟩ (c_X3_commonDivisor l D y _ a1 a2 r3 g4) (va_cwS 2 hts gX3_inLowestTerms_X3_commonDivisor rfl rfl rfl hd_X3_commonDivisor ⟨Nat.le_of_ble_eq_true rfl, Nat.le_of_ble_eq_true rfl⟩) hK hP hD hS hA rfl hl.1 rfl (Nat.le_of_ble_eq_true rfl) dX3_inLowestTerms_18 ⟨Nat.le_of_ble_eq_true rfl, Nat.le_of_ble_eq_true rfl⟩ (fun H locs hP hD hS => ?_)
      refine lv_lstore (lv' := [(4, .long r3), (0, .long a1), (2, .long a2)]) hx hb dX3_inLowestTerms_21 hl (by decide) rfl (fun ls hl => ?_)
      refine lv_lload_n hx hb dX3_inLowestTerms_23 rfl (lv_at hl 2 rfl) ?_
      refine lv_lload hx hb dX3_inLowestTerms_24 (lv_at hl 0 rfl) ?_
      obtain ⟨g5, h⟩ := fG h
      refine lv_ldiv hx hb dX3_inLowestTerms_26 g5 ?_
      refine lv_lstore (lv' := [(6, .long (a2 / r3)), (4, .long r3), (0, .long a1), (2, .long a2)]) hx hb dX3_inLowestTerms_27 hl (by decide) rfl (fun ls hl => ?_)
      refine lv_lload_n hx hb dX3_inLowestTerms_29 rfl (lv_at hl 2 rfl) ?_
      refine lv_lload hx hb dX3_inLowestTerms_30 (lv_at hl 1 rfl) ?_
      refine lv_ldiv hx hb dX3_inLowestTerms_32 g5 ?_
      refine lv_lstore (lv' := [(8, .long (a1 / r3)), (6, .long (a2 / r3)), (4, .long r3), (0, .long a1), (2, .long a2)]) hx hb dX3_inLowestTerms_33 hl (by decide) rfl (fun ls hl => ?_)
      refine lv_lload hx hb dX3_inLowestTerms_35 (lv_at hl 0 rfl) ?_
      refine lv_ldc2 (v := (1000000 : Int64)) hx hb hown q1 dX3_inLowestTerms_37 ?_
      refine lx_gt (tgt := 53) hx hb dX3_inLowestTerms_40 dX3_inLowestTerms_41 (by decide) (fun c6 => ?_) (fun c6 => ?_)
      · replace h := fT c6 h
        refine lv_ldc2 (v := (-1 : Int64)) hx hb hown q0 dX3_inLowestTerms_53 ?_
        cases h
        exact hE _ _ _ _ dX3_inLowestTerms_56 hP hD hS
      · replace h := fF c6 h
        refine lv_lload hx hb dX3_inLowestTerms_44 (lv_at hl 1 rfl) ?_
        refine lv_ldc2 (v := (1000000 : Int64)) hx hb hown q1 dX3_inLowestTerms_46 ?_
        refine lx_le (tgt := 57) hx hb dX3_inLowestTerms_49 dX3_inLowestTerms_50 (by decide) (fun c7 => ?_) (fun c7 => ?_)
        · replace h := fT c7 h
          refine lv_lload hx hb dX3_inLowestTerms_57 (lv_at hl 0 rfl) ?_
          refine lv_lload hx hb dX3_inLowestTerms_59 (lv_at hl 1 rfl) ?_
          refine cT_l (As := [.long (a1 / r3), .long (a2 / r3)]) (rest := []) ⟨hx, hb, hml, hown, hts⟩ (c_X3_pair l D y _ (a1 / r3) (a2 / r3)) (va_cwS 2 hts gX3_inLowestTerms_X3_pair rfl rfl rfl hd_X3_pair ⟨Nat.le_of_ble_eq_true rfl, Nat.le_of_ble_eq_true rfl⟩) hK hP hD hS hA rfl hl.1 rfl (Nat.le_of_ble_eq_true rfl) dX3_inLowestTerms_61 ⟨Nat.le_of_ble_eq_true rfl, Nat.le_of_ble_eq_true rfl⟩ (fun H locs hP hD hS => ?_)
          cases h
          exact hE _ _ _ _ dX3_inLowestTerms_64 hP hD hS
        · replace h := fF c7 h
          refine lv_ldc2 (v := (-1 : Int64)) hx hb hown q0 dX3_inLowestTerms_53 ?_
          cases h
          exact hE _ _ _ _ dX3_inLowestTerms_56 hP hD hS
    · replace h := fF c2 h
      refine lv_ldc2 (v := (-1 : Int64)) hx hb hown q0 dX3_inLowestTerms_12 ?_
      cases h
      exact hE _ _ _ _ dX3_inLowestTerms_15 hP hD hS
abbrev rm_X3_sum : Room := { frames := 3, cells := 0, slots := 0, locals := 74 }
theorem hd_X3_sum : yX3_sum.cls ≠ "java/lang/invoke/MethodHandle" ∧ yX3_sum.cls ≠ "java/lang/invoke/VarHandle" ∧ (parseMethodDescriptor yX3_sum.desc).map (fun d => d.parameters.length) = some 2 := by decide +kernel
set_option maxHeartbeats 0 in
set_option maxRecDepth 100000 in
theorem c_X3_sum (l : Launch) (D : va_G) (y : Nat → ClassId) (sz : Nat) (a1 : Int64) (a2 : Int64) (r : Int64) (h : F_X3_sum a1 a2 = some r) : Met l yX3_sum wsX3_sum rm_X3_sum (va_Pc [.long a1, .long a2] (px D y sz [])) (Qrl D y sz [] [] r) 0 0 (va_A [] sz) := by
  refine hd_l (cc := cX3_sum) (maxL := 4) rfl rfl (Nat.le_of_ble_eq_true rfl) ?_
  intro p e s m args below meth c A Q H locs ls hx hb hml hts hown _ hA hP hD hK hS hl hE
  have hl : lv_has ls 4 [(0, .long a1), (2, .long a2)] := hl
  unfold F_X3_sum at h
  refine lv_lload_n hx hb dX3_sum_0 rfl (lv_at hl 0 rfl) ?_
  refine cT_l (As := [.long a1]) (rest := []) ⟨hx, hb, hml, hown, hts⟩ (c_X3_numerator l D y _ a1) (va_cwS 1 hts gX3_sum_X3_numerator rfl rfl rfl hd_X3_numerator ⟨Nat.le_of_ble_eq_true rfl, Nat.le_of_ble_eq_true rfl⟩) hK hP hD hS hA rfl hl.1 rfl (Nat.le_of_ble_eq_true rfl) dX3_sum_1 ⟨Nat.le_of_ble_eq_true rfl, Nat.le_of_ble_eq_true rfl⟩ (fun H locs hP hD hS => ?_)
  refine lv_lload_n hx hb dX3_sum_4 rfl (lv_at hl 1 rfl) ?_
  refine cT_l (As := [.long a2]) (rest := [.long (F_X3_numerator a1)]) ⟨hx, hb, hml, hown, hts⟩ (c_X3_denominator l D y _ a2) (va_cwS 1 hts gX3_sum_X3_denominator rfl rfl rfl hd_X3_denominator ⟨Nat.le_of_ble_eq_true rfl, Nat.le_of_ble_eq_true rfl⟩) hK hP hD hS hA rfl hl.1 rfl (Nat.le_of_ble_eq_true rfl) dX3_sum_5 ⟨Nat.le_of_ble_eq_true rfl, Nat.le_of_ble_eq_true rfl⟩ (fun H locs hP hD hS => ?_)
  refine lv_lmul hx hb dX3_sum_8 ?_
  refine lv_lload_n hx hb dX3_sum_9 rfl (lv_at hl 1 rfl) ?_
  refine cT_l (As := [.long a2]) (rest := [.long ((F_X3_numerator a1) * (F_X3_denominator a2))]) ⟨hx, hb, hml, hown, hts⟩ (c_X3_numerator l D y _ a2) (va_cwS 1 hts gX3_sum_X3_numerator rfl rfl rfl hd_X3_numerator ⟨Nat.le_of_ble_eq_true rfl, Nat.le_of_ble_eq_true rfl⟩) hK hP hD hS hA rfl hl.1 rfl (Nat.le_of_ble_eq_true rfl) dX3_sum_10 ⟨Nat.le_of_ble_eq_true rfl, Nat.le_of_ble_eq_true rfl⟩ (fun H locs hP hD hS => ?_)
  refine lv_lload_n hx hb dX3_sum_13 rfl (lv_at hl 0 rfl) ?_
  refine cT_l (As := [.long a1]) (rest := [.long (F_X3_numerator a2), .long ((F_X3_numerator a1) * (F_X3_denominator a2))]) ⟨hx, hb, hml, hown, hts⟩ (c_X3_denominator l D y _ a1) (va_cwS 1 hts gX3_sum_X3_denominator rfl rfl rfl hd_X3_denominator ⟨Nat.le_of_ble_eq_true rfl, Nat.le_of_ble_eq_true rfl⟩) hK hP hD hS hA rfl hl.1 rfl (Nat.le_of_ble_eq_true rfl) dX3_sum_14 ⟨Nat.le_of_ble_eq_true rfl, Nat.le_of_ble_eq_true rfl⟩ (fun H locs hP hD hS => ?_)
  refine lv_lmul hx hb dX3_sum_17 ?_
  refine lv_ladd hx hb dX3_sum_18 ?_
  refine lv_lload_n hx hb dX3_sum_19 rfl (lv_at hl 0 rfl) ?_
  refine cT_l (As := [.long a1]) (rest := [.long (((F_X3_numerator a1) * (F_X3_denominator a2)) + ((F_X3_numerator a2) * (F_X3_denominator a1)))]) ⟨hx, hb, hml, hown, hts⟩ (c_X3_denominator l D y _ a1) (va_cwS 1 hts gX3_sum_X3_denominator rfl rfl rfl hd_X3_denominator ⟨Nat.le_of_ble_eq_true rfl, Nat.le_of_ble_eq_true rfl⟩) hK hP hD hS hA rfl hl.1 rfl (Nat.le_of_ble_eq_true rfl) dX3_sum_20 ⟨Nat.le_of_ble_eq_true rfl, Nat.le_of_ble_eq_true rfl⟩ (fun H locs hP hD hS => ?_)
  refine lv_lload_n hx hb dX3_sum_23 rfl (lv_at hl 1 rfl) ?_
  refine cT_l (As := [.long a2]) (rest := [.long (F_X3_denominator a1), .long (((F_X3_numerator a1) * (F_X3_denominator a2)) + ((F_X3_numerator a2) * (F_X3_denominator a1)))]) ⟨hx, hb, hml, hown, hts⟩ (c_X3_denominator l D y _ a2) (va_cwS 1 hts gX3_sum_X3_denominator rfl rfl rfl hd_X3_denominator ⟨Nat.le_of_ble_eq_true rfl, Nat.le_of_ble_eq_true rfl⟩) hK hP hD hS hA rfl hl.1 rfl (Nat.le_of_ble_eq_true rfl) dX3_sum_24 ⟨Nat.le_of_ble_eq_true rfl, Nat.le_of_ble_eq_true rfl⟩ (fun H locs hP hD hS => ?_)
  refine lv_lmul hx hb dX3_sum_27 ?_
  obtain ⟨r1, g2, h⟩ := fB1 h
  refine cT_l (As := [.long (((F_X3_numerator a1) * (F_X3_denominator a2)) + ((F_X3_numerator a2) * (F_X3_denominator a1))), .long ((F_X3_denominator a1) * (F_X3_denominator a2))]) (rest := []) ⟨hx, hb, hml, hown, hts⟩ (c_X3_inLowestTerms l D y _ (((F_X3_numerator a1) * (F_X3_denominator a2)) + ((F_X3_numerator a2) * (F_X3_denominator a1))) ((F_X3_denominator a1) * (F_X3_denominator a2)) r1 g2) (va_cwS 2 hts gX3_sum_X3_inLowestTerms rfl rfl rfl hd_X3_inLowestTerms ⟨Nat.le_of_ble_eq_true rfl, Nat.le_of_ble_eq_true rfl⟩) hK hP hD hS hA rfl hl.1 rfl (Nat.le_of_ble_eq_true rfl) dX3_sum_28 ⟨Nat.le_of_ble_eq_true rfl, Nat.le_of_ble_eq_true rfl⟩ (fun H locs hP hD hS => ?_)
  cases h
  exact hE _ _ _ _ dX3_sum_31 hP hD hS
abbrev rm_X3_difference : Room := { frames := 3, cells := 0, slots := 0, locals := 74 }
theorem hd_X3_difference : yX3_difference.cls ≠ "java/lang/invoke/MethodHandle" ∧ yX3_difference.cls ≠ "java/lang/invoke/VarHandle" ∧ (parseMethodDescriptor yX3_difference.desc).map (fun d => d.parameters.length) = some 2 := by decide +kernel
set_option maxHeartbeats 0 in
set_option maxRecDepth 100000 in
theorem c_X3_difference (l : Launch) (D : va_G) (y : Nat → ClassId) (sz : Nat) (a1 : Int64) (a2 : Int64) (r : Int64) (h : F_X3_difference a1 a2 = some r) : Met l yX3_difference wsX3_difference rm_X3_difference (va_Pc [.long a1, .long a2] (px D y sz [])) (Qrl D y sz [] [] r) 0 0 (va_A [] sz) := by
  refine hd_l (cc := cX3_difference) (maxL := 4) rfl rfl (Nat.le_of_ble_eq_true rfl) ?_
  intro p e s m args below meth c A Q H locs ls hx hb hml hts hown _ hA hP hD hK hS hl hE
  have hl : lv_has ls 4 [(0, .long a1), (2, .long a2)] := hl
  unfold F_X3_difference at h
  refine lv_lload_n hx hb dX3_difference_0 rfl (lv_at hl 0 rfl) ?_
  refine cT_l (As := [.long a1]) (rest := []) ⟨hx, hb, hml, hown, hts⟩ (c_X3_numerator l D y _ a1) (va_cwS 1 hts gX3_difference_X3_numerator rfl rfl rfl hd_X3_numerator ⟨Nat.le_of_ble_eq_true rfl, Nat.le_of_ble_eq_true rfl⟩) hK hP hD hS hA rfl hl.1 rfl (Nat.le_of_ble_eq_true rfl) dX3_difference_1 ⟨Nat.le_of_ble_eq_true rfl, Nat.le_of_ble_eq_true rfl⟩ (fun H locs hP hD hS => ?_)
  refine lv_lload_n hx hb dX3_difference_4 rfl (lv_at hl 1 rfl) ?_
  refine cT_l (As := [.long a2]) (rest := [.long (F_X3_numerator a1)]) ⟨hx, hb, hml, hown, hts⟩ (c_X3_denominator l D y _ a2) (va_cwS 1 hts gX3_difference_X3_denominator rfl rfl rfl hd_X3_denominator ⟨Nat.le_of_ble_eq_true rfl, Nat.le_of_ble_eq_true rfl⟩) hK hP hD hS hA rfl hl.1 rfl (Nat.le_of_ble_eq_true rfl) dX3_difference_5 ⟨Nat.le_of_ble_eq_true rfl, Nat.le_of_ble_eq_true rfl⟩ (fun H locs hP hD hS => ?_)
  refine lv_lmul hx hb dX3_difference_8 ?_
  refine lv_lload_n hx hb dX3_difference_9 rfl (lv_at hl 1 rfl) ?_
  refine cT_l (As := [.long a2]) (rest := [.long ((F_X3_numerator a1) * (F_X3_denominator a2))]) ⟨hx, hb, hml, hown, hts⟩ (c_X3_numerator l D y _ a2) (va_cwS 1 hts gX3_difference_X3_numerator rfl rfl rfl hd_X3_numerator ⟨Nat.le_of_ble_eq_true rfl, Nat.le_of_ble_eq_true rfl⟩) hK hP hD hS hA rfl hl.1 rfl (Nat.le_of_ble_eq_true rfl) dX3_difference_10 ⟨Nat.le_of_ble_eq_true rfl, Nat.le_of_ble_eq_true rfl⟩ (fun H locs hP hD hS => ?_)
  refine lv_lload_n hx hb dX3_difference_13 rfl (lv_at hl 0 rfl) ?_
  refine cT_l (As := [.long a1]) (rest := [.long (F_X3_numerator a2), .long ((F_X3_numerator a1) * (F_X3_denominator a2))]) ⟨hx, hb, hml, hown, hts⟩ (c_X3_denominator l D y _ a1) (va_cwS 1 hts gX3_difference_X3_denominator rfl rfl rfl hd_X3_denominator ⟨Nat.le_of_ble_eq_true rfl, Nat.le_of_ble_eq_true rfl⟩) hK hP hD hS hA rfl hl.1 rfl (Nat.le_of_ble_eq_true rfl) dX3_difference_14 ⟨Nat.le_of_ble_eq_true rfl, Nat.le_of_ble_eq_true rfl⟩ (fun H locs hP hD hS => ?_)
  refine lv_lmul hx hb dX3_difference_17 ?_
  refine lv_lsub hx hb dX3_difference_18 ?_
  refine lv_lload_n hx hb dX3_difference_19 rfl (lv_at hl 0 rfl) ?_
  refine cT_l (As := [.long a1]) (rest := [.long (((F_X3_numerator a1) * (F_X3_denominator a2)) - ((F_X3_numerator a2) * (F_X3_denominator a1)))]) ⟨hx, hb, hml, hown, hts⟩ (c_X3_denominator l D y _ a1) (va_cwS 1 hts gX3_difference_X3_denominator rfl rfl rfl hd_X3_denominator ⟨Nat.le_of_ble_eq_true rfl, Nat.le_of_ble_eq_true rfl⟩) hK hP hD hS hA rfl hl.1 rfl (Nat.le_of_ble_eq_true rfl) dX3_difference_20 ⟨Nat.le_of_ble_eq_true rfl, Nat.le_of_ble_eq_true rfl⟩ (fun H locs hP hD hS => ?_)
  refine lv_lload_n hx hb dX3_difference_23 rfl (lv_at hl 1 rfl) ?_
  refine cT_l (As := [.long a2]) (rest := [.long (F_X3_denominator a1), .long (((F_X3_numerator a1) * (F_X3_denominator a2)) - ((F_X3_numerator a2) * (F_X3_denominator a1)))]) ⟨hx, hb, hml, hown, hts⟩ (c_X3_denominator l D y _ a2) (va_cwS 1 hts gX3_difference_X3_denominator rfl rfl rfl hd_X3_denominator ⟨Nat.le_of_ble_eq_true rfl, Nat.le_of_ble_eq_true rfl⟩) hK hP hD hS hA rfl hl.1 rfl (Nat.le_of_ble_eq_true rfl) dX3_difference_24 ⟨Nat.le_of_ble_eq_true rfl, Nat.le_of_ble_eq_true rfl⟩ (fun H locs hP hD hS => ?_)
  refine lv_lmul hx hb dX3_difference_27 ?_
  obtain ⟨r1, g2, h⟩ := fB1 h
  refine cT_l (As := [.long (((F_X3_numerator a1) * (F_X3_denominator a2)) - ((F_X3_numerator a2) * (F_X3_denominator a1))), .long ((F_X3_denominator a1) * (F_X3_denominator a2))]) (rest := []) ⟨hx, hb, hml, hown, hts⟩ (c_X3_inLowestTerms l D y _ (((F_X3_numerator a1) * (F_X3_denominator a2)) - ((F_X3_numerator a2) * (F_X3_denominator a1))) ((F_X3_denominator a1) * (F_X3_denominator a2)) r1 g2) (va_cwS 2 hts gX3_difference_X3_inLowestTerms rfl rfl rfl hd_X3_inLowestTerms ⟨Nat.le_of_ble_eq_true rfl, Nat.le_of_ble_eq_true rfl⟩) hK hP hD hS hA rfl hl.1 rfl (Nat.le_of_ble_eq_true rfl) dX3_difference_28 ⟨Nat.le_of_ble_eq_true rfl, Nat.le_of_ble_eq_true rfl⟩ (fun H locs hP hD hS => ?_)
  cases h
  exact hE _ _ _ _ dX3_difference_31 hP hD hS
abbrev rm_X3_product : Room := { frames := 3, cells := 0, slots := 0, locals := 74 }
theorem hd_X3_product : yX3_product.cls ≠ "java/lang/invoke/MethodHandle" ∧ yX3_product.cls ≠ "java/lang/invoke/VarHandle" ∧ (parseMethodDescriptor yX3_product.desc).map (fun d => d.parameters.length) = some 2 := by decide +kernel
set_option maxHeartbeats 0 in
set_option maxRecDepth 100000 in
theorem c_X3_product (l : Launch) (D : va_G) (y : Nat → ClassId) (sz : Nat) (a1 : Int64) (a2 : Int64) (r : Int64) (h : F_X3_product a1 a2 = some r) : Met l yX3_product wsX3_product rm_X3_product (va_Pc [.long a1, .long a2] (px D y sz [])) (Qrl D y sz [] [] r) 0 0 (va_A [] sz) := by
  refine hd_l (cc := cX3_product) (maxL := 4) rfl rfl (Nat.le_of_ble_eq_true rfl) ?_
  intro p e s m args below meth c A Q H locs ls hx hb hml hts hown _ hA hP hD hK hS hl hE
  have hl : lv_has ls 4 [(0, .long a1), (2, .long a2)] := hl
  unfold F_X3_product at h
  refine lv_lload_n hx hb dX3_product_0 rfl (lv_at hl 0 rfl) ?_
  refine cT_l (As := [.long a1]) (rest := []) ⟨hx, hb, hml, hown, hts⟩ (c_X3_numerator l D y _ a1) (va_cwS 1 hts gX3_product_X3_numerator rfl rfl rfl hd_X3_numerator ⟨Nat.le_of_ble_eq_true rfl, Nat.le_of_ble_eq_true rfl⟩) hK hP hD hS hA rfl hl.1 rfl (Nat.le_of_ble_eq_true rfl) dX3_product_1 ⟨Nat.le_of_ble_eq_true rfl, Nat.le_of_ble_eq_true rfl⟩ (fun H locs hP hD hS => ?_)
  refine lv_lload_n hx hb dX3_product_4 rfl (lv_at hl 1 rfl) ?_
  refine cT_l (As := [.long a2]) (rest := [.long (F_X3_numerator a1)]) ⟨hx, hb, hml, hown, hts⟩ (c_X3_numerator l D y _ a2) (va_cwS 1 hts gX3_product_X3_numerator rfl rfl rfl hd_X3_numerator ⟨Nat.le_of_ble_eq_true rfl, Nat.le_of_ble_eq_true rfl⟩) hK hP hD hS hA rfl hl.1 rfl (Nat.le_of_ble_eq_true rfl) dX3_product_5 ⟨Nat.le_of_ble_eq_true rfl, Nat.le_of_ble_eq_true rfl⟩ (fun H locs hP hD hS => ?_)
  refine lv_lmul hx hb dX3_product_8 ?_
  refine lv_lload_n hx hb dX3_product_9 rfl (lv_at hl 0 rfl) ?_
  refine cT_l (As := [.long a1]) (rest := [.long ((F_X3_numerator a1) * (F_X3_numerator a2))]) ⟨hx, hb, hml, hown, hts⟩ (c_X3_denominator l D y _ a1) (va_cwS 1 hts gX3_product_X3_denominator rfl rfl rfl hd_X3_denominator ⟨Nat.le_of_ble_eq_true rfl, Nat.le_of_ble_eq_true rfl⟩) hK hP hD hS hA rfl hl.1 rfl (Nat.le_of_ble_eq_true rfl) dX3_product_10 ⟨Nat.le_of_ble_eq_true rfl, Nat.le_of_ble_eq_true rfl⟩ (fun H locs hP hD hS => ?_)
  refine lv_lload_n hx hb dX3_product_13 rfl (lv_at hl 1 rfl) ?_
  refine cT_l (As := [.long a2]) (rest := [.long (F_X3_denominator a1), .long ((F_X3_numerator a1) * (F_X3_numerator a2))]) ⟨hx, hb, hml, hown, hts⟩ (c_X3_denominator l D y _ a2) (va_cwS 1 hts gX3_product_X3_denominator rfl rfl rfl hd_X3_denominator ⟨Nat.le_of_ble_eq_true rfl, Nat.le_of_ble_eq_true rfl⟩) hK hP hD hS hA rfl hl.1 rfl (Nat.le_of_ble_eq_true rfl) dX3_product_14 ⟨Nat.le_of_ble_eq_true rfl, Nat.le_of_ble_eq_true rfl⟩ (fun H locs hP hD hS => ?_)
  refine lv_lmul hx hb dX3_product_17 ?_
  obtain ⟨r1, g2, h⟩ := fB1 h
  refine cT_l (As := [.long ((F_X3_numerator a1) * (F_X3_numerator a2)), .long ((F_X3_denominator a1) * (F_X3_denominator a2))]) (rest := []) ⟨hx, hb, hml, hown, hts⟩ (c_X3_inLowestTerms l D y _ ((F_X3_numerator a1) * (F_X3_numerator a2)) ((F_X3_denominator a1) * (F_X3_denominator a2)) r1 g2) (va_cwS 2 hts gX3_product_X3_inLowestTerms rfl rfl rfl hd_X3_inLowestTerms ⟨Nat.le_of_ble_eq_true rfl, Nat.le_of_ble_eq_true rfl⟩) hK hP hD hS hA rfl hl.1 rfl (Nat.le_of_ble_eq_true rfl) dX3_product_18 ⟨Nat.le_of_ble_eq_true rfl, Nat.le_of_ble_eq_true rfl⟩ (fun H locs hP hD hS => ?_)
  cases h
  exact hE _ _ _ _ dX3_product_21 hP hD hS
abbrev rm_X3_order : Room := { frames := 2, cells := 0, slots := 0, locals := 36 }
theorem hd_X3_order : yX3_order.cls ≠ "java/lang/invoke/MethodHandle" ∧ yX3_order.cls ≠ "java/lang/invoke/VarHandle" ∧ (parseMethodDescriptor yX3_order.desc).map (fun d => d.parameters.length) = some 2 := by decide +kernel
set_option maxHeartbeats 0 in
set_option maxRecDepth 100000 in
theorem c_X3_order (l : Launch) (D : va_G) (y : Nat → ClassId) (sz : Nat) (a1 : Int64) (a2 : Int64) : Met l yX3_order wsX3_order rm_X3_order (va_Pc [.long a1, .long a2] (px D y sz [])) (Qri D y sz [] [] (F_X3_order a1 a2)) 0 0 (va_A [] sz) := by
  refine hd_i (cc := cX3_order) (maxL := 8) rfl rfl (Nat.le_of_ble_eq_true rfl) ?_
  intro p e s m args below meth c A Q H locs ls hx hb hml hts hown _ hA hP hD hK hS hl hE
  have hl : lv_has ls 8 [(0, .long a1), (2, .long a2)] := hl
  refine lv_lload_n hx hb dX3_order_0 rfl (lv_at hl 0 rfl) ?_
  refine cT_l (As := [.long a1]) (rest := []) ⟨hx, hb, hml, hown, hts⟩ (c_X3_numerator l D y _ a1) (va_cwS 1 hts gX3_order_X3_numerator rfl rfl rfl hd_X3_numerator ⟨Nat.le_of_ble_eq_true rfl, Nat.le_of_ble_eq_true rfl⟩) hK hP hD hS hA rfl hl.1 rfl (Nat.le_of_ble_eq_true rfl) dX3_order_1 ⟨Nat.le_of_ble_eq_true rfl, Nat.le_of_ble_eq_true rfl⟩ (fun H locs hP hD hS => ?_)
  refine lv_lload_n hx hb dX3_order_4 rfl (lv_at hl 1 rfl) ?_
  refine cT_l (As := [.long a2]) (rest := [.long (F_X3_numerator a1)]) ⟨hx, hb, hml, hown, hts⟩ (c_X3_denominator l D y _ a2) (va_cwS 1 hts gX3_order_X3_denominator rfl rfl rfl hd_X3_denominator ⟨Nat.le_of_ble_eq_true rfl, Nat.le_of_ble_eq_true rfl⟩) hK hP hD hS hA rfl hl.1 rfl (Nat.le_of_ble_eq_true rfl) dX3_order_5 ⟨Nat.le_of_ble_eq_true rfl, Nat.le_of_ble_eq_true rfl⟩ (fun H locs hP hD hS => ?_)
  refine lv_lmul hx hb dX3_order_8 ?_
  refine lv_lstore (lv' := [(4, .long ((F_X3_numerator a1) * (F_X3_denominator a2))), (0, .long a1), (2, .long a2)]) hx hb dX3_order_9 hl (by decide) rfl (fun ls hl => ?_)
  refine lv_lload_n hx hb dX3_order_11 rfl (lv_at hl 2 rfl) ?_
  refine cT_l (As := [.long a2]) (rest := []) ⟨hx, hb, hml, hown, hts⟩ (c_X3_numerator l D y _ a2) (va_cwS 1 hts gX3_order_X3_numerator rfl rfl rfl hd_X3_numerator ⟨Nat.le_of_ble_eq_true rfl, Nat.le_of_ble_eq_true rfl⟩) hK hP hD hS hA rfl hl.1 rfl (Nat.le_of_ble_eq_true rfl) dX3_order_12 ⟨Nat.le_of_ble_eq_true rfl, Nat.le_of_ble_eq_true rfl⟩ (fun H locs hP hD hS => ?_)
  refine lv_lload_n hx hb dX3_order_15 rfl (lv_at hl 1 rfl) ?_
  refine cT_l (As := [.long a1]) (rest := [.long (F_X3_numerator a2)]) ⟨hx, hb, hml, hown, hts⟩ (c_X3_denominator l D y _ a1) (va_cwS 1 hts gX3_order_X3_denominator rfl rfl rfl hd_X3_denominator ⟨Nat.le_of_ble_eq_true rfl, Nat.le_of_ble_eq_true rfl⟩) hK hP hD hS hA rfl hl.1 rfl (Nat.le_of_ble_eq_true rfl) dX3_order_16 ⟨Nat.le_of_ble_eq_true rfl, Nat.le_of_ble_eq_true rfl⟩ (fun H locs hP hD hS => ?_)
  refine lv_lmul hx hb dX3_order_19 ?_
  refine lv_lstore (lv' := [(6, .long ((F_X3_numerator a2) * (F_X3_denominator a1))), (4, .long ((F_X3_numerator a1) * (F_X3_denominator a2))), (0, .long a1), (2, .long a2)]) hx hb dX3_order_20 hl (by decide) rfl (fun ls hl => ?_)
  refine lv_lload hx hb dX3_order_22 (lv_at hl 1 rfl) ?_
  refine lv_lload hx hb dX3_order_24 (lv_at hl 0 rfl) ?_
  refine lx_ne (tgt := 32) hx hb dX3_order_26 dX3_order_27 (by decide) (fun c1 => ?_) (fun c1 => ?_)
  · refine lv_lload hx hb dX3_order_32 (lv_at hl 1 rfl) ?_
    refine lv_lload hx hb dX3_order_34 (lv_at hl 0 rfl) ?_
    have J2 : ∀ (v3 : Int32) (ls : Array Slot), v3 = (if ((F_X3_numerator a2) * (F_X3_denominator a1)) ≤ ((F_X3_numerator a1) * (F_X3_denominator a2)) then (1 : Int32) else (-1 : Int32)) → lv_has ls 8 [(0, .long a1), (2, .long a2), (4, .long ((F_X3_numerator a1) * (F_X3_denominator a2))), (6, .long ((F_X3_numerator a2) * (F_X3_denominator a1)))] → W p l e rm_X3_order s m args below meth c H locs 0 0 Q (F0 m 45 ls [.int v3]) := by
      intro v3 ls ev3 hl
      subst ev3
      refine eqi (show (if ((F_X3_numerator a2) * (F_X3_denominator a1)) ≤ ((F_X3_numerator a1) * (F_X3_denominator a2)) then (1 : Int32) else (-1 : Int32)) = F_X3_order a1 a2 from by unfold F_X3_order; rw [if_neg c1]) ?_
      exact hE _ _ _ _ dX3_order_45 hP hD hS
    refine lx_ge (tgt := 44) hx hb dX3_order_36 dX3_order_37 (by decide) (fun c4 => ?_) (fun c4 => ?_)
    · refine lv_iconst (v := (1 : Int32)) hx hb dX3_order_44 (by decide) ?_
      exact J2 _ _ (by rw [if_pos c4]) (lv_sub hl [2, 3, 1, 0] rfl)
    · refine lv_iconst (v := (-1 : Int32)) hx hb dX3_order_40 (by decide) ?_
      refine lv_goto (tgt := 45) hx hb dX3_order_41 (by decide) ?_
      exact J2 _ _ (by rw [if_neg c4]) (lv_sub hl [2, 3, 1, 0] rfl)
  · refine lv_iconst (v := (0 : Int32)) hx hb dX3_order_30 (by decide) ?_
    refine eqi (show (0 : Int32) = F_X3_order a1 a2 from by unfold F_X3_order; rw [if_pos c1]) ?_
    exact hE _ _ _ _ dX3_order_31 hP hD hS
abbrev rm_X3_partsApart : Room := { frames := 2, cells := 0, slots := 0, locals := 36 }
theorem hd_X3_partsApart : yX3_partsApart.cls ≠ "java/lang/invoke/MethodHandle" ∧ yX3_partsApart.cls ≠ "java/lang/invoke/VarHandle" ∧ (parseMethodDescriptor yX3_partsApart.desc).map (fun d => d.parameters.length) = some 2 := by decide +kernel
set_option maxHeartbeats 0 in
set_option maxRecDepth 100000 in
theorem c_X3_partsApart (l : Launch) (D : va_G) (y : Nat → ClassId) (sz : Nat) (a1 : Int64) (a2 : Int32) (r : Int64) (h : F_X3_partsApart a1 a2 = some r) : Met l yX3_partsApart wsX3_partsApart rm_X3_partsApart (va_Pc [.long a1, .int a2] (px D y sz [])) (Qrl D y sz [] [] r) 0 0 (va_A [] sz) := by
  refine hd_l (cc := cX3_partsApart) (maxL := 5) rfl rfl (Nat.le_of_ble_eq_true rfl) ?_
  intro p e s m args below meth c A Q H locs ls hx hb hml hts hown _ hA hP hD hK hS hl hE
  have hl : lv_has ls 5 [(0, .long a1), (2, .int a2)] := hl
  have q0 := hts (.methodLink RX3 39 Lib.MathLoose.min_long.x) (by decide +kernel)
  have q1 := hts (.static Lib.MathLoose.min_long.x) (by decide +kernel)
  have q2 := hts (.initialized "java/lang/Math") (by decide +kernel)
  have q3 := hts (.code Lib.MathLoose.min_long.x Lib.MathLoose.min_long.code 4 (some .long)) (by decide +kernel)
  unfold F_X3_partsApart at h
  refine lv_lload_n hx hb dX3_partsApart_0 rfl (lv_at hl 0 rfl) ?_
  refine cT_l (As := [.long a1]) (rest := []) ⟨hx, hb, hml, hown, hts⟩ (c_X3_numerator l D y _ a1) (va_cwS 1 hts gX3_partsApart_X3_numerator rfl rfl rfl hd_X3_numerator ⟨Nat.le_of_ble_eq_true rfl, Nat.le_of_ble_eq_true rfl⟩) hK hP hD hS hA rfl hl.1 rfl (Nat.le_of_ble_eq_true rfl) dX3_partsApart_1 ⟨Nat.le_of_ble_eq_true rfl, Nat.le_of_ble_eq_true rfl⟩ (fun H locs hP hD hS => ?_)
  refine lv_iload_n hx hb dX3_partsApart_4 rfl (lv_at hl 1 rfl) ?_
  refine lv_i2l (v := a2.toInt64) hx hb dX3_partsApart_5 rfl ?_
  refine lv_lmul hx hb dX3_partsApart_6 ?_
  refine lv_lload_n hx hb dX3_partsApart_7 rfl (lv_at hl 0 rfl) ?_
  refine cT_l (As := [.long a1]) (rest := [.long ((F_X3_numerator a1) * a2.toInt64)]) ⟨hx, hb, hml, hown, hts⟩ (c_X3_denominator l D y _ a1) (va_cwS 1 hts gX3_partsApart_X3_denominator rfl rfl rfl hd_X3_denominator ⟨Nat.le_of_ble_eq_true rfl, Nat.le_of_ble_eq_true rfl⟩) hK hP hD hS hA rfl hl.1 rfl (Nat.le_of_ble_eq_true rfl) dX3_partsApart_8 ⟨Nat.le_of_ble_eq_true rfl, Nat.le_of_ble_eq_true rfl⟩ (fun H locs hP hD hS => ?_)
  obtain ⟨g1, h⟩ := fG h
  refine lv_lrem hx hb dX3_partsApart_11 g1 ?_
  refine lv_lstore_n (lv' := [(3, .long (((F_X3_numerator a1) * a2.toInt64) - ((F_X3_numerator a1) * a2.toInt64) / (F_X3_denominator a1) * (F_X3_denominator a1))), (0, .long a1), (2, .int a2)]) hx hb dX3_partsApart_12 rfl hl (by decide) rfl (fun ls hl => ?_)
  refine lv_lload_n hx hb dX3_partsApart_13 rfl (lv_at hl 0 rfl) ?_
  refine lv_lload_n hx hb dX3_partsApart_14 rfl (lv_at hl 1 rfl) ?_
  refine cT_l (As := [.long a1]) (rest := [.long (((F_X3_numerator a1) * a2.toInt64) - ((F_X3_numerator a1) * a2.toInt64) / (F_X3_denominator a1) * (F_X3_denominator a1))]) ⟨hx, hb, hml, hown, hts⟩ (c_X3_denominator l D y _ a1) (va_cwS 1 hts gX3_partsApart_X3_denominator rfl rfl rfl hd_X3_denominator ⟨Nat.le_of_ble_eq_true rfl, Nat.le_of_ble_eq_true rfl⟩) hK hP hD hS hA rfl hl.1 rfl (Nat.le_of_ble_eq_true rfl) dX3_partsApart_15 ⟨Nat.le_of_ble_eq_true rfl, Nat.le_of_ble_eq_true rfl⟩ (fun H locs hP hD hS => ?_)
  refine lv_lload_n hx hb dX3_partsApart_18 rfl (lv_at hl 0 rfl) ?_
  refine lv_lsub hx hb dX3_partsApart_19 ?_
  refine va_mmin_long hx hb (hml.trans hl.1.symm) hown q0 q1 q2 q3 (Nat.le_of_ble_eq_true rfl) (Nat.le_of_ble_eq_true rfl) (Nat.zero_le _) (Nat.zero_le _) dX3_partsApart_20 ?_
  cases h
  exact hE _ _ _ _ dX3_partsApart_23 hP hD hS
abbrev rm_X4_count : Room := { frames := 0, cells := 0, slots := 0, locals := 0 }
theorem hd_X4_count : yX4_count.cls = RX4 ∧ yX4_count.cls ≠ "java/lang/invoke/MethodHandle" ∧ yX4_count.cls ≠ "java/lang/invoke/VarHandle" ∧ (parseMethodDescriptor yX4_count.desc).map (fun d => d.parameters.length) = some 0 := by decide +kernel
set_option maxHeartbeats 0 in
set_option maxRecDepth 100000 in
theorem c_X4_count (l : Launch) (D : va_G) (o : Nat → Nat) (y : Nat → ClassId) (sz : Nat) (hs : Nat → Int64) (ho : Int32) (hc : Int32) : Met l yX4_count wsX4_count rm_X4_count (va_Pc [.ref (o 8)] (px D y sz (HI o y hs ho hc))) (Qri D y sz (HI o y hs ho hc) (HI o y hs ho hc) (F_X4_count hc)) 0 0 (va_A (HI o y hs ho hc) sz) := by
  refine hd_i (cc := cX4_count) (maxL := 1) rfl rfl (Nat.le_of_ble_eq_true rfl) ?_
  intro p e s m args below meth c A Q H locs ls hx hb hml hts hown _ hA hP hD hK hS hl hE
  have hl : lv_has ls 1 [(0, .ref (o 8))] := hl
  have q0 := hts (.fieldLink RX4 15 "SliceShares$History" "count" "I") (by decide +kernel)
  have hinRX4 : ∀ w ∈ wsX40, w ∈ wsX4_count := by decide +kernel
  refine lv_aload_n hx hb dX4_count_0 rfl (lv_at hl 0 rfl) ?_
  refine va_get (D := D) (ci := 3) (C := RX4) (T := TX4) (N := 3) hx hb hts hinRX4 hown hK hP 0 rfl rfl 2 (by decide) q0 (fun _ h9 => h9) rfl dX4_count_1 ?_
  exact hE _ _ _ _ dX4_count_4 hP hD hS
abbrev rm_X4_startBehindOldest : Room := { frames := 0, cells := 0, slots := 0, locals := 0 }
theorem hd_X4_startBehindOldest : yX4_startBehindOldest.cls = RX4 ∧ yX4_startBehindOldest.cls ≠ "java/lang/invoke/MethodHandle" ∧ yX4_startBehindOldest.cls ≠ "java/lang/invoke/VarHandle" ∧ (parseMethodDescriptor yX4_startBehindOldest.desc).map (fun d => d.parameters.length) = some 1 := by decide +kernel
set_option maxHeartbeats 0 in
set_option maxRecDepth 100000 in
theorem c_X4_startBehindOldest (l : Launch) (D : va_G) (o : Nat → Nat) (y : Nat → ClassId) (sz : Nat) (hs : Nat → Int64) (ho : Int32) (hc : Int32) (a1 : Int32) : Met l yX4_startBehindOldest wsX4_startBehindOldest rm_X4_startBehindOldest (va_Pc [.ref (o 8), .int a1] (px D y sz (HI o y hs ho hc))) (Qri D y sz (HI o y hs ho hc) (HI o y hs ho hc) (F_X4_startBehindOldest ho a1)) 0 0 (va_A (HI o y hs ho hc) sz) := by
  refine hd_i (cc := cX4_startBehindOldest) (maxL := 2) rfl rfl (Nat.le_of_ble_eq_true rfl) ?_
  intro p e s m args below meth c A Q H locs ls hx hb hml hts hown _ hA hP hD hK hS hl hE
  have hl : lv_has ls 2 [(0, .ref (o 8)), (1, .int a1)] := hl
  have q0 := hts (.fieldLink RX4 29 "SliceShares$History" "oldest" "I") (by decide +kernel)
  have hinRX4 : ∀ w ∈ wsX40, w ∈ wsX4_startBehindOldest := by decide +kernel
  refine lv_aload_n hx hb dX4_startBehindOldest_0 rfl (lv_at hl 0 rfl) ?_
  refine va_get (D := D) (ci := 3) (C := RX4) (T := TX4) (N := 3) hx hb hts hinRX4 hown hK hP 0 rfl rfl 1 (by decide) q0 (fun _ h9 => h9) rfl dX4_startBehindOldest_1 ?_
  refine lv_iload_n hx hb dX4_startBehindOldest_4 rfl (lv_at hl 1 rfl) ?_
  refine lv_iadd hx hb dX4_startBehindOldest_5 ?_
  refine lv_bipush (v := (6 : Int32)) hx hb dX4_startBehindOldest_6 (by decide) ?_
  refine lv_irem hx hb dX4_startBehindOldest_8 (by decide) ?_
  refine lv_bipush (v := (6 : Int32)) hx hb dX4_startBehindOldest_9 (by decide) ?_
  refine lv_imul hx hb dX4_startBehindOldest_11 ?_
  exact hE _ _ _ _ dX4_startBehindOldest_12 hP hD hS
abbrev rm_X4_record : Room := { frames := 1, cells := 0, slots := 0, locals := 21 }
theorem hd_X4_record : yX4_record.cls = RX4 ∧ yX4_record.cls ≠ "java/lang/invoke/MethodHandle" ∧ yX4_record.cls ≠ "java/lang/invoke/VarHandle" ∧ (parseMethodDescriptor yX4_record.desc).map (fun d => d.parameters.length) = some 1 := by decide +kernel
set_option maxHeartbeats 0 in
set_option maxRecDepth 100000 in
theorem c_X4_record (l : Launch) (D : va_G) (o : Nat → Nat) (y : Nat → ClassId) (sz : Nat) (pl : Nat → Int64) (hs : Nat → Int64) (ho : Int32) (hc : Int32) (hs' : Nat → Int64) (ho' : Int32) (hc' : Int32) (h : F_X4_record pl hs ho hc = some (hs', ho', hc')) : Met l yX4_record wsX4_record rm_X4_record (va_Pc [.ref (o 8), .ref (o 1)] (px D y sz (HP o y pl hs ho hc))) (Qrv D y sz (HP o y pl hs ho hc) (HP o y pl hs' ho' hc')) 0 0 (va_A (HP o y pl hs ho hc) sz) := by
  refine hd_v (cc := cX4_record) (maxL := 2) rfl rfl (Nat.le_of_ble_eq_true rfl) ?_
  intro p e s m args below meth c A Q H locs ls hx hb hml hts hown _ hA hP hD hK hS hl hE
  have hl : lv_has ls 2 [(0, .ref (o 8)), (1, .ref (o 1))] := hl
  have q0 := hts (.fieldLink RX4 11 "SliceShares$History" "states" "[J") (by decide +kernel)
  have q1 := hts (.fieldLink RX4 15 "SliceShares$History" "count" "I") (by decide +kernel)
  have q2 := hts (.methodLink RX4 23 arraycopyName) (by decide +kernel)
  have q3 := hts (.native arraycopyName) (by decide +kernel)
  have q4 := hts (.static arraycopyName) (by decide +kernel)
  have q5 := hts (.initialized "java/lang/System") (by decide +kernel)
  have q6 := hts (.fieldLink RX4 29 "SliceShares$History" "oldest" "I") (by decide +kernel)
  have hinRX4 : ∀ w ∈ wsX40, w ∈ wsX4_record := by decide +kernel
  unfold F_X4_record at h
  refine lv_aload_n hx hb dX4_record_0 rfl (lv_at hl 1 rfl) ?_
  refine lv_iconst (v := (0 : Int32)) hx hb dX4_record_1 (by decide) ?_
  refine lv_aload_n hx hb dX4_record_2 rfl (lv_at hl 0 rfl) ?_
  refine va_get (D := D) (ci := 3) (C := RX4) (T := TX4) (N := 3) hx hb hts hinRX4 hown hK hP 0 rfl rfl 0 (by decide) q0 (fun _ h9 => h9) rfl dX4_record_3 ?_
  refine lv_aload_n hx hb dX4_record_6 rfl (lv_at hl 0 rfl) ?_
  refine lv_aload_n hx hb dX4_record_7 rfl (lv_at hl 0 rfl) ?_
  refine va_get (D := D) (ci := 3) (C := RX4) (T := TX4) (N := 3) hx hb hts hinRX4 hown hK hP 0 rfl rfl 2 (by decide) q1 (fun _ h9 => h9) rfl dX4_record_8 ?_
  refine cV_i (As := [.int hc]) (rest := [.ref (o 9), .int (0 : Int32), .ref (o 1)]) (ws1 := (HP o y pl hs ho hc)) ⟨hx, hb, hml, hown, hts⟩ (c_X4_startBehindOldest l D o y _ hs ho hc hc) (cwV 1 hts gX4_record_X4_startBehindOldest rfl rfl rfl hd_X4_startBehindOldest ⟨Nat.le_of_ble_eq_true rfl, Nat.le_of_ble_eq_true rfl⟩) hK hP hD hS hA [0, 1] [2] [1, 2, 0] rfl rfl rfl (by decide) rfl rfl rfl 0 (ci := 3) rfl rfl rfl hl.1 rfl (Nat.le_of_ble_eq_true rfl) dX4_record_11 ⟨Nat.le_of_ble_eq_true rfl, Nat.le_of_ble_eq_true rfl⟩ (fun H locs hP hD hS => ?_)
  refine lv_bipush (v := (6 : Int32)) hx hb dX4_record_14 (by decide) ?_
  obtain ⟨g1, h⟩ := fG h
  refine va_copyl (n := (6 : Int32)) hx hb (hml.trans hl.1.symm) hown q2 q3 q4 q5 hK hP hD hS 2 1 1 1 rfl rfl rfl rfl rfl (by decide) (fun q => g1 (Or.inl q)) (by decide) (by decide) (Nat.le_of_not_lt (fun q => g1 (Or.inr q))) (fun _ _ => rfl) (Nat.le_of_ble_eq_true rfl) (Nat.le_of_ble_eq_true rfl) dX4_record_16 (fun H locs hP hD hS => ?_)
  have hP : va_P D vwCl (HP o y pl (va_cpy pl hs (0 : Int32).toNatClampNeg (F_X4_startBehindOldest ho hc).toNatClampNeg (6 : Int32).toNatClampNeg) ho hc) H := hP
  have hD : va_D A (HP o y pl (va_cpy pl hs (0 : Int32).toNatClampNeg (F_X4_startBehindOldest ho hc).toNatClampNeg (6 : Int32).toNatClampNeg) ho hc) := hD
  refine lv_aload_n hx hb dX4_record_19 rfl (lv_at hl 0 rfl) ?_
  refine va_get (D := D) (ci := 3) (C := RX4) (T := TX4) (N := 3) hx hb hts hinRX4 hown hK hP 0 rfl rfl 2 (by decide) q1 (fun _ h9 => h9) rfl dX4_record_20 ?_
  refine lv_bipush (v := (6 : Int32)) hx hb dX4_record_23 (by decide) ?_
  refine lv_icmp_ge (tgt := 41) hx hb dX4_record_25 (by decide) (fun c2 => ?_) (fun c2 => ?_)
  · replace h := fT c2 h
    refine lv_aload_n hx hb dX4_record_41 rfl (lv_at hl 0 rfl) ?_
    refine lv_aload_n hx hb dX4_record_42 rfl (lv_at hl 0 rfl) ?_
    refine va_get (D := D) (ci := 3) (C := RX4) (T := TX4) (N := 3) hx hb hts hinRX4 hown hK hP 0 rfl rfl 1 (by decide) q6 (fun _ h9 => h9) rfl dX4_record_43 ?_
    refine lv_iconst (v := (1 : Int32)) hx hb dX4_record_46 (by decide) ?_
    refine lv_iadd hx hb dX4_record_47 ?_
    refine lv_bipush (v := (6 : Int32)) hx hb dX4_record_48 (by decide) ?_
    refine lv_irem hx hb dX4_record_50 (by decide) ?_
    refine va_put (D := D) (ci := 3) (v := .int ((ho + (1 : Int32)) - (ho + (1 : Int32)) / (6 : Int32) * (6 : Int32))) (ty := .int) (C := RX4) (T := TX4) (N := 3) hx hb hts hinRX4 tyX4 tyX4_ok nmX4 hown hK hP hD hS 0 rfl rfl 1 (by decide) q6 (fun _ h9 => h9) rfl (by decide +kernel) rfl rfl (Nat.le_of_ble_eq_true rfl) dX4_record_51 (fun H locs hP hD hS => ?_)
    have hP : va_P D vwCl (HP o y pl (va_cpy pl hs (0 : Int32).toNatClampNeg (F_X4_startBehindOldest ho hc).toNatClampNeg (6 : Int32).toNatClampNeg) ((ho + (1 : Int32)) - (ho + (1 : Int32)) / (6 : Int32) * (6 : Int32)) hc) H := hP
    have hD : va_D A (HP o y pl (va_cpy pl hs (0 : Int32).toNatClampNeg (F_X4_startBehindOldest ho hc).toNatClampNeg (6 : Int32).toNatClampNeg) ((ho + (1 : Int32)) - (ho + (1 : Int32)) / (6 : Int32) * (6 : Int32)) hc) := hD
    cases h
    exact hE _ _ _ _ dX4_record_54 hP hD hS
  · replace h := fF c2 h
    refine lv_aload_n hx hb dX4_record_28 rfl (lv_at hl 0 rfl) ?_
    refine lv_dup hx hb dX4_record_29 rfl ?_
    refine va_get (D := D) (ci := 3) (C := RX4) (T := TX4) (N := 3) hx hb hts hinRX4 hown hK hP 0 rfl rfl 2 (by decide) q1 (fun _ h9 => h9) rfl dX4_record_30 ?_
    refine lv_iconst (v := (1 : Int32)) hx hb dX4_record_33 (by decide) ?_
    refine lv_iadd hx hb dX4_record_34 ?_
    refine va_put (D := D) (ci := 3) (v := .int (hc + (1 : Int32))) (ty := .int) (C := RX4) (T := TX4) (N := 3) hx hb hts hinRX4 tyX4 tyX4_ok nmX4 hown hK hP hD hS 0 rfl rfl 2 (by decide) q1 (fun _ h9 => h9) rfl (by decide +kernel) rfl rfl (Nat.le_of_ble_eq_true rfl) dX4_record_35 (fun H locs hP hD hS => ?_)
    have hP : va_P D vwCl (HP o y pl (va_cpy pl hs (0 : Int32).toNatClampNeg (F_X4_startBehindOldest ho hc).toNatClampNeg (6 : Int32).toNatClampNeg) ho (hc + (1 : Int32))) H := hP
    have hD : va_D A (HP o y pl (va_cpy pl hs (0 : Int32).toNatClampNeg (F_X4_startBehindOldest ho hc).toNatClampNeg (6 : Int32).toNatClampNeg) ho (hc + (1 : Int32))) := hD
    refine lv_goto (tgt := 54) hx hb dX4_record_38 (by decide) ?_
    cases h
    exact hE _ _ _ _ dX4_record_54 hP hD hS
abbrev rm_X4_restore : Room := { frames := 1, cells := 0, slots := 0, locals := 21 }
theorem hd_X4_restore : yX4_restore.cls = RX4 ∧ yX4_restore.cls ≠ "java/lang/invoke/MethodHandle" ∧ yX4_restore.cls ≠ "java/lang/invoke/VarHandle" ∧ (parseMethodDescriptor yX4_restore.desc).map (fun d => d.parameters.length) = some 1 := by decide +kernel
set_option maxHeartbeats 0 in
set_option maxRecDepth 100000 in
theorem c_X4_restore (l : Launch) (D : va_G) (o : Nat → Nat) (y : Nat → ClassId) (sz : Nat) (pl : Nat → Int64) (hs : Nat → Int64) (ho : Int32) (hc : Int32) (pl' : Nat → Int64) (hc' : Int32) (h : F_X4_restore pl hs ho hc = some (pl', hc')) : Met l yX4_restore wsX4_restore rm_X4_restore (va_Pc [.ref (o 8), .ref (o 1)] (px D y sz (HP o y pl hs ho hc))) (Qrv D y sz (HP o y pl hs ho hc) (HP o y pl' hs ho hc')) 0 0 (va_A (HP o y pl hs ho hc) sz) := by
  refine hd_v (cc := cX4_restore) (maxL := 2) rfl rfl (Nat.le_of_ble_eq_true rfl) ?_
  intro p e s m args below meth c A Q H locs ls hx hb hml hts hown _ hA hP hD hK hS hl hE
  have hl : lv_has ls 2 [(0, .ref (o 8)), (1, .ref (o 1))] := hl
  have q0 := hts (.fieldLink RX4 15 "SliceShares$History" "count" "I") (by decide +kernel)
  have q1 := hts (.fieldLink RX4 11 "SliceShares$History" "states" "[J") (by decide +kernel)
  have q2 := hts (.methodLink RX4 23 arraycopyName) (by decide +kernel)
  have q3 := hts (.native arraycopyName) (by decide +kernel)
  have q4 := hts (.static arraycopyName) (by decide +kernel)
  have q5 := hts (.initialized "java/lang/System") (by decide +kernel)
  have hinRX4 : ∀ w ∈ wsX40, w ∈ wsX4_restore := by decide +kernel
  unfold F_X4_restore at h
  refine lv_aload_n hx hb dX4_restore_0 rfl (lv_at hl 0 rfl) ?_
  refine lv_dup hx hb dX4_restore_1 rfl ?_
  refine va_get (D := D) (ci := 3) (C := RX4) (T := TX4) (N := 3) hx hb hts hinRX4 hown hK hP 0 rfl rfl 2 (by decide) q0 (fun _ h9 => h9) rfl dX4_restore_2 ?_
  refine lv_iconst (v := (1 : Int32)) hx hb dX4_restore_5 (by decide) ?_
  refine lv_isub hx hb dX4_restore_6 ?_
  refine va_put (D := D) (ci := 3) (v := .int (hc - (1 : Int32))) (ty := .int) (C := RX4) (T := TX4) (N := 3) hx hb hts hinRX4 tyX4 tyX4_ok nmX4 hown hK hP hD hS 0 rfl rfl 2 (by decide) q0 (fun _ h9 => h9) rfl (by decide +kernel) rfl rfl (Nat.le_of_ble_eq_true rfl) dX4_restore_7 (fun H locs hP hD hS => ?_)
  have hP : va_P D vwCl (HP o y pl hs ho (hc - (1 : Int32))) H := hP
  have hD : va_D A (HP o y pl hs ho (hc - (1 : Int32))) := hD
  refine lv_aload_n hx hb dX4_restore_10 rfl (lv_at hl 0 rfl) ?_
  refine va_get (D := D) (ci := 3) (C := RX4) (T := TX4) (N := 3) hx hb hts hinRX4 hown hK hP 0 rfl rfl 0 (by decide) q1 (fun _ h9 => h9) rfl dX4_restore_11 ?_
  refine lv_aload_n hx hb dX4_restore_14 rfl (lv_at hl 0 rfl) ?_
  refine lv_aload_n hx hb dX4_restore_15 rfl (lv_at hl 0 rfl) ?_
  refine va_get (D := D) (ci := 3) (C := RX4) (T := TX4) (N := 3) hx hb hts hinRX4 hown hK hP 0 rfl rfl 2 (by decide) q0 (fun _ h9 => h9) rfl dX4_restore_16 ?_
  refine cV_i (As := [.int (hc - (1 : Int32))]) (rest := [.ref (o 9)]) (ws1 := (HP o y pl hs ho (hc - (1 : Int32)))) ⟨hx, hb, hml, hown, hts⟩ (c_X4_startBehindOldest l D o y _ hs ho (hc - (1 : Int32)) (hc - (1 : Int32))) (cwV 1 hts gX4_restore_X4_startBehindOldest rfl rfl rfl hd_X4_startBehindOldest ⟨Nat.le_of_ble_eq_true rfl, Nat.le_of_ble_eq_true rfl⟩) hK hP hD hS hA [0, 1] [2] [1, 2, 0] rfl rfl rfl (by decide) rfl rfl rfl 0 (ci := 3) rfl rfl rfl hl.1 rfl (Nat.le_of_ble_eq_true rfl) dX4_restore_19 ⟨Nat.le_of_ble_eq_true rfl, Nat.le_of_ble_eq_true rfl⟩ (fun H locs hP hD hS => ?_)
  refine lv_aload_n hx hb dX4_restore_22 rfl (lv_at hl 1 rfl) ?_
  refine lv_iconst (v := (0 : Int32)) hx hb dX4_restore_23 (by decide) ?_
  refine lv_bipush (v := (6 : Int32)) hx hb dX4_restore_24 (by decide) ?_
  obtain ⟨g1, h⟩ := fG h
  refine va_copyl (n := (6 : Int32)) hx hb (hml.trans hl.1.symm) hown q2 q3 q4 q5 hK hP hD hS 1 2 1 1 rfl rfl rfl rfl rfl (fun q => g1 (Or.inl q)) (by decide) (by decide) (Nat.le_of_not_lt (fun q => g1 (Or.inr q))) (by decide) (fun _ _ => rfl) (Nat.le_of_ble_eq_true rfl) (Nat.le_of_ble_eq_true rfl) dX4_restore_26 (fun H locs hP hD hS => ?_)
  have hP : va_P D vwCl (HP o y (va_cpy hs pl (F_X4_startBehindOldest ho (hc - (1 : Int32))).toNatClampNeg (0 : Int32).toNatClampNeg (6 : Int32).toNatClampNeg) hs ho (hc - (1 : Int32))) H := hP
  have hD : va_D A (HP o y (va_cpy hs pl (F_X4_startBehindOldest ho (hc - (1 : Int32))).toNatClampNeg (0 : Int32).toNatClampNeg (6 : Int32).toNatClampNeg) hs ho (hc - (1 : Int32))) := hD
  cases h
  exact hE _ _ _ _ dX4_restore_29 hP hD hS
abbrev rm_X5_unit : Room := { frames := 2, cells := 0, slots := 0, locals := 36 }
theorem hd_X5_unit : yX5_unit.cls ≠ "java/lang/invoke/MethodHandle" ∧ yX5_unit.cls ≠ "java/lang/invoke/VarHandle" ∧ (parseMethodDescriptor yX5_unit.desc).map (fun d => d.parameters.length) = some 2 := by decide +kernel
set_option maxHeartbeats 0 in
set_option maxRecDepth 100000 in
theorem c_X5_unit (l : Launch) (D : va_G) (y : Nat → ClassId) (sz : Nat) (a1 : Int64) (a2 : Int32) (r : Int32) (h : F_X5_unit a1 a2 = some r) : Met l yX5_unit wsX5_unit rm_X5_unit (va_Pc [.long a1, .int a2] (px D y sz [])) (Qri D y sz [] [] r) 0 0 (va_A [] sz) := by
  refine hd_i (cc := cX5_unit) (maxL := 10) rfl rfl (Nat.le_of_ble_eq_true rfl) ?_
  intro p e s m args below meth c A Q H locs ls hx hb hml hts hown _ hA hP hD hK hS hl hE
  have hl : lv_has ls 10 [(0, .long a1), (2, .int a2)] := hl
  have q0 := hts (.constantLong RX5 24 (1000000000)) (by decide +kernel)
  have q1 := hts (.constantLong RX5 26 (40000)) (by decide +kernel)
  unfold F_X5_unit at h
  refine lv_lload_n hx hb dX5_unit_0 rfl (lv_at hl 0 rfl) ?_
  refine cT_l (As := [.long a1]) (rest := []) ⟨hx, hb, hml, hown, hts⟩ (c_X3_numerator l D y _ a1) (va_cwS 1 hts gX5_unit_X3_numerator rfl rfl rfl hd_X3_numerator ⟨Nat.le_of_ble_eq_true rfl, Nat.le_of_ble_eq_true rfl⟩) hK hP hD hS hA rfl hl.1 rfl (Nat.le_of_ble_eq_true rfl) dX5_unit_1 ⟨Nat.le_of_ble_eq_true rfl, Nat.le_of_ble_eq_true rfl⟩ (fun H locs hP hD hS => ?_)
  refine lv_lstore_n (lv' := [(3, .long (F_X3_numerator a1)), (0, .long a1), (2, .int a2)]) hx hb dX5_unit_4 rfl hl (by decide) rfl (fun ls hl => ?_)
  refine lv_lload_n hx hb dX5_unit_5 rfl (lv_at hl 1 rfl) ?_
  refine cT_l (As := [.long a1]) (rest := []) ⟨hx, hb, hml, hown, hts⟩ (c_X3_denominator l D y _ a1) (va_cwS 1 hts gX5_unit_X3_denominator rfl rfl rfl hd_X3_denominator ⟨Nat.le_of_ble_eq_true rfl, Nat.le_of_ble_eq_true rfl⟩) hK hP hD hS hA rfl hl.1 rfl (Nat.le_of_ble_eq_true rfl) dX5_unit_6 ⟨Nat.le_of_ble_eq_true rfl, Nat.le_of_ble_eq_true rfl⟩ (fun H locs hP hD hS => ?_)
  refine lv_lstore (lv' := [(5, .long (F_X3_denominator a1)), (3, .long (F_X3_numerator a1)), (0, .long a1), (2, .int a2)]) hx hb dX5_unit_9 hl (by decide) rfl (fun ls hl => ?_)
  refine lv_iconst (v := (0 : Int32)) hx hb dX5_unit_11 (by decide) ?_
  refine lv_istore (lv' := [(7, .int (0 : Int32)), (5, .long (F_X3_denominator a1)), (3, .long (F_X3_numerator a1)), (0, .long a1), (2, .int a2)]) hx hb dX5_unit_12 hl (by decide) rfl (fun ls hl => ?_)
  obtain ⟨t4, v5, g6, h⟩ := fB2 h
  have J7 : t4 = 0 → ∀ (H : Heap) (locs : List Loc) (ls : Array Slot), va_P D vwCl [] H → va_D A [] → va_S A s.heap H locs → lv_has ls 10 [] → W p l e rm_X5_unit s m args below meth c H locs 0 0 Q (F0 m 46 ls []) := by
    intro ht H locs ls hP hD hS hl
    replace h := fT ht h
    refine lv_iconst (v := (-1 : Int32)) hx hb dX5_unit_46 (by decide) ?_
    cases h
    exact hE _ _ _ _ dX5_unit_47 hP hD hS
  have J8 : t4 = 1 → ∀ (H : Heap) (locs : List Loc) (ls : Array Slot), va_P D vwCl [] H → va_D A [] → va_S A s.heap H locs → lv_has ls 10 [(8, .long v5)] → W p l e rm_X5_unit s m args below meth c H locs 0 0 Q (F0 m 54 ls []) := by
    intro ht H locs ls hP hD hS hl
    replace h := fF (show ¬ t4 = 0 by omega) h
    replace h := fT ht h
    refine lv_lload hx hb dX5_unit_54 (lv_at hl 0 rfl) ?_
    refine lv_l2i (v := v5.toInt32) hx hb dX5_unit_56 rfl ?_
    cases h
    exact hE _ _ _ _ dX5_unit_57 hP hD hS
  have J9 : t4 = 2 → ∀ (H : Heap) (locs : List Loc) (ls : Array Slot), va_P D vwCl [] H → va_D A [] → va_S A s.heap H locs → lv_has ls 10 [] → W p l e rm_X5_unit s m args below meth c H locs 0 0 Q (F0 m 81 ls []) := by
    intro ht H locs ls hP hD hS hl
    replace h := fF (show ¬ t4 = 0 by omega) h
    replace h := fF (show ¬ t4 = 1 by omega) h
    replace h := fT ht h
    refine lv_iconst (v := (-1 : Int32)) hx hb dX5_unit_81 (by decide) ?_
    cases h
    exact hE _ _ _ _ dX5_unit_82 hP hD hS
  have J10 : t4 = 3 → ∀ (H : Heap) (locs : List Loc) (ls : Array Slot), va_P D vwCl [] H → va_D A [] → va_S A s.heap H locs → lv_has ls 10 [] → W p l e rm_X5_unit s m args below meth c H locs 0 0 Q (F0 m 96 ls []) := by
    intro ht H locs ls hP hD hS hl
    replace h := fF (show ¬ t4 = 0 by omega) h
    replace h := fF (show ¬ t4 = 1 by omega) h
    replace h := fF (show ¬ t4 = 2 by omega) h
    refine lv_iconst (v := (0 : Int32)) hx hb dX5_unit_96 (by decide) ?_
    cases h
    exact hE _ _ _ _ dX5_unit_97 hP hD hS
  have LP11 : ∀ (n : Nat) (x1 : Int64) (x2 : Int64) (x3 : Int32) (H : Heap) (locs : List Loc) (ls : Array Slot), L_X5_unit_14 n a2 x1 x2 x3 = some (t4, v5) → va_P D vwCl [] H → va_D A [] → va_S A s.heap H locs → lv_has ls 10 [(2, .int a2), (3, .long x1), (5, .long x2), (7, .int x3)] → W p l e rm_X5_unit s m args below meth c H locs 0 0 Q (F0 m 14 ls []) := by
    intro n
    induction n with
    | zero => intro x1 x2 x3 H locs ls h hP hD hS hl; exact fN h
    | succ n ih =>
      intro x1 x2 x3 H locs ls h hP hD hS hl
      replace h := (L_X5_unit_14_s n a2 x1 x2 x3).symm.trans h
      refine lv_iload hx hb dX5_unit_14 (lv_at hl 3 rfl) ?_
      refine lv_bipush (v := (8 : Int32)) hx hb dX5_unit_16 (by decide) ?_
      refine lv_icmp_ge (tgt := 96) hx hb dX5_unit_18 (by decide) (fun c12 => ?_) (fun c12 => ?_)
      · replace h := fT c12 h
        cases h
        exact J10 rfl _ _ _ hP hD hS (lv_sub hl [] rfl)
      · replace h := fF c12 h
        refine lv_lload_n hx hb dX5_unit_21 rfl (lv_at hl 1 rfl) ?_
        refine lv_lconst (v := (0 : Int64)) hx hb dX5_unit_22 rfl ?_
        refine lx_le (tgt := 96) hx hb dX5_unit_23 dX5_unit_24 (by decide) (fun c13 => ?_) (fun c13 => ?_)
        · replace h := fT c13 h
          cases h
          exact J10 rfl _ _ _ hP hD hS (lv_sub hl [] rfl)
        · replace h := fF c13 h
          refine lv_lload hx hb dX5_unit_27 (lv_at hl 2 rfl) ?_
          refine lv_lload_n hx hb dX5_unit_29 rfl (lv_at hl 1 rfl) ?_
          refine lv_ladd hx hb dX5_unit_30 ?_
          refine lv_lconst (v := (1 : Int64)) hx hb dX5_unit_31 rfl ?_
          refine lv_lsub hx hb dX5_unit_32 ?_
          refine lv_lload_n hx hb dX5_unit_33 rfl (lv_at hl 1 rfl) ?_
          obtain ⟨g14, h⟩ := fG h
          refine lv_ldiv hx hb dX5_unit_34 g14 ?_
          refine lv_lstore (lv' := [(8, .long (((x2 + x1) - (1 : Int64)) / x1)), (2, .int a2), (3, .long x1), (5, .long x2), (7, .int x3)]) hx hb dX5_unit_35 hl (by decide) rfl (fun ls hl => ?_)
          refine lv_lload hx hb dX5_unit_37 (lv_at hl 0 rfl) ?_
          refine lv_ldc2 (v := (1000000000 : Int64)) hx hb hown q0 dX5_unit_39 ?_
          refine lx_le (tgt := 48) hx hb dX5_unit_42 dX5_unit_43 (by decide) (fun c15 => ?_) (fun c15 => ?_)
          · replace h := fT c15 h
            refine lv_iload hx hb dX5_unit_48 (lv_at hl 4 rfl) ?_
            refine lv_iload_n hx hb dX5_unit_50 rfl (lv_at hl 1 rfl) ?_
            refine lv_icmp_ne (tgt := 58) hx hb dX5_unit_51 (by decide) (fun c16 => ?_) (fun c16 => ?_)
            · replace h := fF c16 h
              refine lv_lload_n hx hb dX5_unit_58 rfl (lv_at hl 2 rfl) ?_
              refine lv_lload hx hb dX5_unit_59 (lv_at hl 0 rfl) ?_
              refine lv_lmul hx hb dX5_unit_61 ?_
              refine lv_lload hx hb dX5_unit_62 (lv_at hl 3 rfl) ?_
              refine lv_lsub hx hb dX5_unit_64 ?_
              refine lv_lstore_n (lv' := [(3, .long ((x1 * (((x2 + x1) - (1 : Int64)) / x1)) - x2)), (8, .long (((x2 + x1) - (1 : Int64)) / x1)), (2, .int a2), (5, .long x2), (7, .int x3)]) hx hb dX5_unit_65 rfl hl (by decide) rfl (fun ls hl => ?_)
              refine lv_lload_n hx hb dX5_unit_66 rfl (lv_at hl 0 rfl) ?_
              refine lv_lconst (v := (0 : Int64)) hx hb dX5_unit_67 rfl ?_
              refine lx_le (tgt := 83) hx hb dX5_unit_68 dX5_unit_69 (by decide) (fun c17 => ?_) (fun c17 => ?_)
              · replace h := fT c17 h
                refine lv_lload hx hb dX5_unit_83 (lv_at hl 3 rfl) ?_
                refine lv_lload hx hb dX5_unit_85 (lv_at hl 1 rfl) ?_
                refine lv_lmul hx hb dX5_unit_87 ?_
                refine lv_lstore (lv' := [(5, .long (x2 * (((x2 + x1) - (1 : Int64)) / x1))), (3, .long ((x1 * (((x2 + x1) - (1 : Int64)) / x1)) - x2)), (8, .long (((x2 + x1) - (1 : Int64)) / x1)), (2, .int a2), (7, .int x3)]) hx hb dX5_unit_88 hl (by decide) rfl (fun ls hl => ?_)
                refine lv_iinc (v := x3 + (1 : Int32)) (lv' := [(7, .int (x3 + (1 : Int32))), (5, .long (x2 * (((x2 + x1) - (1 : Int64)) / x1))), (3, .long ((x1 * (((x2 + x1) - (1 : Int64)) / x1)) - x2)), (8, .long (((x2 + x1) - (1 : Int64)) / x1)), (2, .int a2)]) hx hb dX5_unit_90 hl (k := 4) rfl rfl (by decide) rfl (fun ls hl => ?_)
                refine lv_goto (tgt := 14) hx hb dX5_unit_93 (by decide) ?_
                exact ih ((x1 * (((x2 + x1) - (1 : Int64)) / x1)) - x2) (x2 * (((x2 + x1) - (1 : Int64)) / x1)) (x3 + (1 : Int32)) _ _ _ h hP hD hS (lv_sub hl [4, 2, 1, 0] rfl)
              · replace h := fF c17 h
                refine lv_lload hx hb dX5_unit_72 (lv_at hl 1 rfl) ?_
                refine lv_ldc2 (v := (40000 : Int64)) hx hb hown q1 dX5_unit_74 ?_
                refine lx_le (tgt := 83) hx hb dX5_unit_77 dX5_unit_78 (by decide) (fun c18 => ?_) (fun c18 => ?_)
                · replace h := fT c18 h
                  refine lv_lload hx hb dX5_unit_83 (lv_at hl 3 rfl) ?_
                  refine lv_lload hx hb dX5_unit_85 (lv_at hl 1 rfl) ?_
                  refine lv_lmul hx hb dX5_unit_87 ?_
                  refine lv_lstore (lv' := [(5, .long (x2 * (((x2 + x1) - (1 : Int64)) / x1))), (3, .long ((x1 * (((x2 + x1) - (1 : Int64)) / x1)) - x2)), (8, .long (((x2 + x1) - (1 : Int64)) / x1)), (2, .int a2), (7, .int x3)]) hx hb dX5_unit_88 hl (by decide) rfl (fun ls hl => ?_)
                  refine lv_iinc (v := x3 + (1 : Int32)) (lv' := [(7, .int (x3 + (1 : Int32))), (5, .long (x2 * (((x2 + x1) - (1 : Int64)) / x1))), (3, .long ((x1 * (((x2 + x1) - (1 : Int64)) / x1)) - x2)), (8, .long (((x2 + x1) - (1 : Int64)) / x1)), (2, .int a2)]) hx hb dX5_unit_90 hl (k := 4) rfl rfl (by decide) rfl (fun ls hl => ?_)
                  refine lv_goto (tgt := 14) hx hb dX5_unit_93 (by decide) ?_
                  exact ih ((x1 * (((x2 + x1) - (1 : Int64)) / x1)) - x2) (x2 * (((x2 + x1) - (1 : Int64)) / x1)) (x3 + (1 : Int32)) _ _ _ h hP hD hS (lv_sub hl [4, 2, 1, 0] rfl)
                · replace h := fF c18 h
                  cases h
                  exact J9 rfl _ _ _ hP hD hS (lv_sub hl [] rfl)
            · replace h := fT c16 h
              cases h
              exact J8 rfl _ _ _ hP hD hS (lv_sub hl [0] rfl)
          · replace h := fF c15 h
            cases h
            exact J7 rfl _ _ _ hP hD hS (lv_sub hl [] rfl)
  exact LP11 FU (F_X3_numerator a1) (F_X3_denominator a1) (0 : Int32) _ _ _ g6 hP hD hS (lv_sub hl [4, 2, 1, 0] rfl)
abbrev rm_X5_count : Room := { frames := 3, cells := 0, slots := 0, locals := 65 }
theorem hd_X5_count : yX5_count.cls ≠ "java/lang/invoke/MethodHandle" ∧ yX5_count.cls ≠ "java/lang/invoke/VarHandle" ∧ (parseMethodDescriptor yX5_count.desc).map (fun d => d.parameters.length) = some 1 := by decide +kernel
set_option maxHeartbeats 0 in
set_option maxRecDepth 100000 in
theorem c_X5_count (l : Launch) (D : va_G) (y : Nat → ClassId) (sz : Nat) (a1 : Int64) (r : Int32) (h : F_X5_count a1 = some r) : Met l yX5_count wsX5_count rm_X5_count (va_Pc [.long a1] (px D y sz [])) (Qri D y sz [] [] r) 0 0 (va_A [] sz) := by
  refine hd_i (cc := cX5_count) (maxL := 4) rfl rfl (Nat.le_of_ble_eq_true rfl) ?_
  intro p e s m args below meth c A Q H locs ls hx hb hml hts hown _ hA hP hD hK hS hl hE
  have hl : lv_has ls 4 [(0, .long a1)] := hl
  unfold F_X5_count at h
  refine lv_iconst (v := (0 : Int32)) hx hb dX5_count_0 (by decide) ?_
  refine lv_istore_n (lv' := [(2, .int (0 : Int32)), (0, .long a1)]) hx hb dX5_count_1 rfl hl (by decide) rfl (fun ls hl => ?_)
  refine lv_lload_n hx hb dX5_count_2 rfl (lv_at hl 1 rfl) ?_
  refine lv_iload_n hx hb dX5_count_3 rfl (lv_at hl 0 rfl) ?_
  obtain ⟨r1, g2, h⟩ := fB1 h
  refine cT_i (As := [.long a1, .int (0 : Int32)]) (rest := []) ⟨hx, hb, hml, hown, hts⟩ (c_X5_unit l D y _ a1 (0 : Int32) r1 g2) (va_cwS 2 hts gX5_count_X5_unit rfl rfl rfl hd_X5_unit ⟨Nat.le_of_ble_eq_true rfl, Nat.le_of_ble_eq_true rfl⟩) hK hP hD hS hA rfl hl.1 rfl (Nat.le_of_ble_eq_true rfl) dX5_count_4 ⟨Nat.le_of_ble_eq_true rfl, Nat.le_of_ble_eq_true rfl⟩ (fun H locs hP hD hS => ?_)
  refine lv_istore_n (lv' := [(3, .int r1), (2, .int (0 : Int32)), (0, .long a1)]) hx hb dX5_count_7 rfl hl (by decide) rfl (fun ls hl => ?_)
  obtain ⟨v5, v6, g7, h⟩ := fB2 h
  have J8 : ∀ (H : Heap) (locs : List Loc) (ls : Array Slot), va_P D vwCl [] H → va_D A [] → va_S A s.heap H locs → lv_has ls 4 [(2, .int v5), (3, .int v6)] → W p l e rm_X5_count s m args below meth c H locs 0 0 Q (F0 m 30 ls []) := by
    intro H locs ls hP hD hS hl
    refine lv_iload_n hx hb dX5_count_30 rfl (lv_at hl 1 rfl) ?_
    have J9 : ∀ (v10 : Int32) (ls : Array Slot), v10 = (if v6 = (0 : Int32) then v5 else (-1 : Int32)) → lv_has ls 4 [(2, .int v5), (3, .int v6)] → W p l e rm_X5_count s m args below meth c H locs 0 0 Q (F0 m 39 ls [.int v10]) := by
      intro v10 ls ev10 hl
      subst ev10
      cases h
      exact hE _ _ _ _ dX5_count_39 hP hD hS
    refine lv_if_ne (tgt := 38) hx hb dX5_count_31 (by decide) (fun c11 => ?_) (fun c11 => ?_)
    · refine lv_iconst (v := (-1 : Int32)) hx hb dX5_count_38 (by decide) ?_
      exact J9 _ _ (by rw [if_neg c11]) (lv_sub hl [0, 1] rfl)
    · refine lv_iload_n hx hb dX5_count_34 rfl (lv_at hl 0 rfl) ?_
      refine lv_goto (tgt := 39) hx hb dX5_count_35 (by decide) ?_
      exact J9 _ _ (by rw [if_pos c11]) (lv_sub hl [0, 1] rfl)
  have LP12 : ∀ (n : Nat) (x3 : Int32) (x4 : Int32) (H : Heap) (locs : List Loc) (ls : Array Slot), L_X5_count_8 n a1 x3 x4 = some (v5, v6) → va_P D vwCl [] H → va_D A [] → va_S A s.heap H locs → lv_has ls 4 [(0, .long a1), (2, .int x3), (3, .int x4)] → W p l e rm_X5_count s m args below meth c H locs 0 0 Q (F0 m 8 ls []) := by
    intro n
    induction n with
    | zero => intro x3 x4 H locs ls h hP hD hS hl; exact fN h
    | succ n ih =>
      intro x3 x4 H locs ls h hP hD hS hl
      replace h := (L_X5_count_8_s n a1 x3 x4).symm.trans h
      refine lv_iload_n hx hb dX5_count_8 rfl (lv_at hl 1 rfl) ?_
      refine lv_bipush (v := (8 : Int32)) hx hb dX5_count_9 (by decide) ?_
      refine lv_icmp_ge (tgt := 30) hx hb dX5_count_11 (by decide) (fun c13 => ?_) (fun c13 => ?_)
      · replace h := fT c13 h
        cases h
        exact J8 _ _ _ hP hD hS (lv_sub hl [1, 2] rfl)
      · replace h := fF c13 h
        refine lv_iload_n hx hb dX5_count_14 rfl (lv_at hl 2 rfl) ?_
        refine lv_if_le (tgt := 30) hx hb dX5_count_15 (by decide) (fun c14 => ?_) (fun c14 => ?_)
        · replace h := fT c14 h
          cases h
          exact J8 _ _ _ hP hD hS (lv_sub hl [1, 2] rfl)
        · replace h := fF c14 h
          refine lv_iinc (v := x3 + (1 : Int32)) (lv' := [(2, .int (x3 + (1 : Int32))), (0, .long a1), (3, .int x4)]) hx hb dX5_count_18 hl (k := 1) rfl rfl (by decide) rfl (fun ls hl => ?_)
          refine lv_lload_n hx hb dX5_count_21 rfl (lv_at hl 1 rfl) ?_
          refine lv_iload_n hx hb dX5_count_22 rfl (lv_at hl 0 rfl) ?_
          obtain ⟨r15, g16, h⟩ := fB1 h
          refine cT_i (As := [.long a1, .int (x3 + (1 : Int32))]) (rest := []) ⟨hx, hb, hml, hown, hts⟩ (c_X5_unit l D y _ a1 (x3 + (1 : Int32)) r15 g16) (va_cwS 2 hts gX5_count_X5_unit rfl rfl rfl hd_X5_unit ⟨Nat.le_of_ble_eq_true rfl, Nat.le_of_ble_eq_true rfl⟩) hK hP hD hS hA rfl hl.1 rfl (Nat.le_of_ble_eq_true rfl) dX5_count_23 ⟨Nat.le_of_ble_eq_true rfl, Nat.le_of_ble_eq_true rfl⟩ (fun H locs hP hD hS => ?_)
          refine lv_istore_n (lv' := [(3, .int r15), (2, .int (x3 + (1 : Int32))), (0, .long a1)]) hx hb dX5_count_26 rfl hl (by decide) rfl (fun ls hl => ?_)
          refine lv_goto (tgt := 8) hx hb dX5_count_27 (by decide) ?_
          exact ih (x3 + (1 : Int32)) r15 _ _ _ h hP hD hS (lv_sub hl [2, 1, 0] rfl)
  exact LP12 FU (0 : Int32) r1 _ _ _ g7 hP hD hS (lv_sub hl [2, 1, 0] rfl)
abbrev rm_X6_isPlate : Room := { frames := 0, cells := 0, slots := 0, locals := 0 }
theorem hd_X6_isPlate : yX6_isPlate.cls ≠ "java/lang/invoke/MethodHandle" ∧ yX6_isPlate.cls ≠ "java/lang/invoke/VarHandle" ∧ (parseMethodDescriptor yX6_isPlate.desc).map (fun d => d.parameters.length) = some 1 := by decide +kernel
set_option maxHeartbeats 0 in
set_option maxRecDepth 100000 in
theorem c_X6_isPlate (l : Launch) (D : va_G) (y : Nat → ClassId) (sz : Nat) (a1 : Int32) : Met l yX6_isPlate wsX6_isPlate rm_X6_isPlate (va_Pc [.int a1] (px D y sz [])) (Qri D y sz [] [] (F_X6_isPlate a1)) 0 0 (va_A [] sz) := by
  refine hd_z (cc := cX6_isPlate) (maxL := 1) (rt := .boolean) rfl rfl (Nat.le_of_ble_eq_true rfl) ?_
  intro p e s m args below meth c A Q H locs ls hx hb hml hts hown _ hA hP hD hK hS hl hE
  have hl : lv_has ls 1 [(0, .int a1)] := hl
  refine lv_iload_n hx hb dX6_isPlate_0 rfl (lv_at hl 0 rfl) ?_
  have J1 : ∀ (v2 : Int32) (ls : Array Slot), v2 = (if a1 < (0 : Int32) then (0 : Int32) else (if (6 : Int32) ≤ a1 then (0 : Int32) else (1 : Int32))) → lv_has ls 1 [(0, .int a1)] → W p l e rm_X6_isPlate s m args below meth c H locs 0 0 Q (F0 m 15 ls [.int v2]) := by
    intro v2 ls ev2 hl
    subst ev2
    exact hE _ _ _ _ dX6_isPlate_15 hP hD hS (nz01 (z01 (Or.inl rfl) (z01 (Or.inl rfl) (Or.inr rfl))))
  refine lv_if_lt (tgt := 14) hx hb dX6_isPlate_1 (by decide) (fun c3 => ?_) (fun c3 => ?_)
  · refine lv_iconst (v := (0 : Int32)) hx hb dX6_isPlate_14 (by decide) ?_
    exact J1 _ _ (by rw [if_pos c3]) (lv_sub hl [0] rfl)
  · refine lv_iload_n hx hb dX6_isPlate_4 rfl (lv_at hl 0 rfl) ?_
    refine lv_bipush (v := (6 : Int32)) hx hb dX6_isPlate_5 (by decide) ?_
    refine lv_icmp_ge (tgt := 14) hx hb dX6_isPlate_7 (by decide) (fun c4 => ?_) (fun c4 => ?_)
    · refine lv_iconst (v := (0 : Int32)) hx hb dX6_isPlate_14 (by decide) ?_
      exact J1 _ _ (by rw [if_neg c3, if_pos c4]) (lv_sub hl [0] rfl)
    · refine lv_iconst (v := (1 : Int32)) hx hb dX6_isPlate_10 (by decide) ?_
      refine lv_goto (tgt := 15) hx hb dX6_isPlate_11 (by decide) ?_
      exact J1 _ _ (by rw [if_neg c3, if_neg c4]) (lv_sub hl [0] rfl)
abbrev rm_X6_requirePlate : Room := { frames := 1, cells := 0, slots := 0, locals := 20 }
theorem hd_X6_requirePlate : yX6_requirePlate.cls ≠ "java/lang/invoke/MethodHandle" ∧ yX6_requirePlate.cls ≠ "java/lang/invoke/VarHandle" ∧ (parseMethodDescriptor yX6_requirePlate.desc).map (fun d => d.parameters.length) = some 1 := by decide +kernel
set_option maxHeartbeats 0 in
set_option maxRecDepth 100000 in
theorem c_X6_requirePlate (l : Launch) (D : va_G) (y : Nat → ClassId) (sz : Nat) (a1 : Int32) (h : F_X6_requirePlate a1 = some 0) : Met l yX6_requirePlate wsX6_requirePlate rm_X6_requirePlate (va_Pc [.int a1] (px D y sz [])) (Qrv D y sz [] []) 0 0 (va_A [] sz) := by
  refine hd_v (cc := cX6_requirePlate) (maxL := 1) rfl rfl (Nat.le_of_ble_eq_true rfl) ?_
  intro p e s m args below meth c A Q H locs ls hx hb hml hts hown _ hA hP hD hK hS hl hE
  have hl : lv_has ls 1 [(0, .int a1)] := hl
  unfold F_X6_requirePlate at h
  refine lv_iload_n hx hb dX6_requirePlate_0 rfl (lv_at hl 0 rfl) ?_
  refine cT_i (As := [.int a1]) (rest := []) ⟨hx, hb, hml, hown, hts⟩ (c_X6_isPlate l D y _ a1) (va_cwS 1 hts gX6_requirePlate_X6_isPlate rfl rfl rfl hd_X6_isPlate ⟨Nat.le_of_ble_eq_true rfl, Nat.le_of_ble_eq_true rfl⟩) hK hP hD hS hA rfl hl.1 rfl (Nat.le_of_ble_eq_true rfl) dX6_requirePlate_1 ⟨Nat.le_of_ble_eq_true rfl, Nat.le_of_ble_eq_true rfl⟩ (fun H locs hP hD hS => ?_)
  refine lv_if_ne (tgt := 17) hx hb dX6_requirePlate_4 (by decide) (fun c1 => ?_) (fun c1 => ?_)
  · replace h := fF c1 h
    cases h
    exact hE _ _ _ _ dX6_requirePlate_17 hP hD hS
  · replace h := fT c1 h
    exact fX1 (show ¬ (1 : Nat) = 0 by decide) h
abbrev rm_X6_change : Room := { frames := 2, cells := 0, slots := 0, locals := 42 }
theorem hd_X6_change : yX6_change.cls = RX6 ∧ yX6_change.cls ≠ "java/lang/invoke/MethodHandle" ∧ yX6_change.cls ≠ "java/lang/invoke/VarHandle" ∧ (parseMethodDescriptor yX6_change.desc).map (fun d => d.parameters.length) = some 2 := by decide +kernel
set_option maxHeartbeats 0 in
set_option maxRecDepth 100000 in
theorem c_X6_change (l : Launch) (D : va_G) (o : Nat → Nat) (y : Nat → ClassId) (sz : Nat) (pl : Nat → Int64) (te : Nat → Int32) (be : Nat → Int64) (cn : Int32) (ch : Nat → Int32) (le : Int32) (rE : Int32) (rL : Int32) (rP : Int32) (rF : Int32) (rS : Int32) (rD : Int32) (hs : Nat → Int64) (ho : Int32) (hc : Int32) (sl : Nat → Int64) (fi : Nat → Int32) (a1 : Int32) (a2 : Int64) (r : Int32) (pl' : Nat → Int64) (hs' : Nat → Int64) (ho' : Int32) (hc' : Int32) (h : F_X6_change pl hs ho hc a1 a2 = some (r, pl', hs', ho', hc')) : Met l yX6_change wsX6_change rm_X6_change (va_Pc [.ref (o 0), .int a1, .long a2] (px D y sz (XW o y pl te be cn ch le rE rL rP rF rS rD hs ho hc sl fi))) (Qri D y sz (XW o y pl te be cn ch le rE rL rP rF rS rD hs ho hc sl fi) (XW o y pl' te be cn ch le rE rL rP rF rS rD hs' ho' hc' sl fi) r) 0 0 (va_A (XW o y pl te be cn ch le rE rL rP rF rS rD hs ho hc sl fi) sz) := by
  refine hd_i (cc := cX6_change) (maxL := 4) rfl rfl (Nat.le_of_ble_eq_true rfl) ?_
  intro p e s m args below meth c A Q H locs ls hx hb hml hts hown _ hA hP hD hK hS hl hE
  have hl : lv_has ls 4 [(0, .ref (o 0)), (1, .int a1), (2, .long a2)] := hl
  have q0 := hts (.fieldLink RX6 39 "SliceShares" "history" "LSliceShares$History;") (by decide +kernel)
  have q1 := hts (.fieldLink RX6 9 "SliceShares" "plates" "[J") (by decide +kernel)
  have hinRX6 : ∀ w ∈ wsX60, w ∈ wsX6_change := by decide +kernel
  unfold F_X6_change at h
  refine lv_aload_n hx hb dX6_change_0 rfl (lv_at hl 0 rfl) ?_
  refine va_get (D := D) (ci := 4) (C := RX6) (T := TX6) (N := 7) hx hb hts hinRX6 hown hK hP 0 rfl rfl 4 (by decide) q0 (fun _ h9 => h9) rfl dX6_change_1 ?_
  refine lv_aload_n hx hb dX6_change_4 rfl (lv_at hl 0 rfl) ?_
  refine va_get (D := D) (ci := 4) (C := RX6) (T := TX6) (N := 7) hx hb hts hinRX6 hown hK hP 0 rfl rfl 0 (by decide) q1 (fun _ h9 => h9) rfl dX6_change_5 ?_
  obtain ⟨hs1, ho2, hc3, g4, h⟩ := fB3 h
  refine cV_v (As := [.ref (o 1)]) (rest := []) (ws1 := (XW o y pl te be cn ch le rE rL rP rF rS rD hs1 ho2 hc3 sl fi)) ⟨hx, hb, hml, hown, hts⟩ (c_X4_record l D o y _ pl hs ho hc hs1 ho2 hc3 g4) (cwV 1 hts gX6_change_X4_record rfl rfl rfl hd_X4_record ⟨Nat.le_of_ble_eq_true rfl, Nat.le_of_ble_eq_true rfl⟩) hK hP hD hS hA [8, 9, 1] [0, 2, 3, 4, 5, 6, 7, 10, 11] [0, 11, 1, 2, 3, 4, 5, 6, 9, 10, 7, 8] rfl rfl rfl (by decide) rfl rfl rfl 0 (ci := 3) rfl rfl rfl hl.1 rfl (Nat.le_of_ble_eq_true rfl) dX6_change_8 ⟨Nat.le_of_ble_eq_true rfl, Nat.le_of_ble_eq_true rfl⟩ (fun H locs hP hD hS => ?_)
  refine lv_aload_n hx hb dX6_change_11 rfl (lv_at hl 0 rfl) ?_
  refine va_get (D := D) (ci := 4) (C := RX6) (T := TX6) (N := 7) hx hb hts hinRX6 hown hK hP 0 rfl rfl 0 (by decide) q1 (fun _ h9 => h9) rfl dX6_change_12 ?_
  refine lv_iload_n hx hb dX6_change_15 rfl (lv_at hl 1 rfl) ?_
  refine lv_lload_n hx hb dX6_change_16 rfl (lv_at hl 2 rfl) ?_
  obtain ⟨g5, h⟩ := fG h
  refine va_last hx hb hK hP hD hS 1 1 rfl rfl g5 dX6_change_17 (fun H locs hP hD hS => ?_)
  have hP : va_P D vwCl (XW o y (vp_updL pl a1.toNatClampNeg a2) te be cn ch le rE rL rP rF rS rD hs1 ho2 hc3 sl fi) H := hP
  have hD : va_D A (XW o y (vp_updL pl a1.toNatClampNeg a2) te be cn ch le rE rL rP rF rS rD hs1 ho2 hc3 sl fi) := hD
  refine lv_lload_n hx hb dX6_change_18 rfl (lv_at hl 2 rfl) ?_
  refine cT_l (As := [.long a2]) (rest := []) ⟨hx, hb, hml, hown, hts⟩ (c_X3_denominator l D y _ a2) (va_cwS 1 hts gX6_change_X3_denominator rfl rfl rfl hd_X3_denominator ⟨Nat.le_of_ble_eq_true rfl, Nat.le_of_ble_eq_true rfl⟩) hK hP hD hS hA rfl hl.1 rfl (Nat.le_of_ble_eq_true rfl) dX6_change_19 ⟨Nat.le_of_ble_eq_true rfl, Nat.le_of_ble_eq_true rfl⟩ (fun H locs hP hD hS => ?_)
  refine lv_l2i (v := (F_X3_denominator a2).toInt32) hx hb dX6_change_22 rfl ?_
  cases h
  exact hE _ _ _ _ dX6_change_23 hP hD hS
abbrev rm_X6_set : Room := { frames := 3, cells := 0, slots := 0, locals := 74 }
theorem hd_X6_set : yX6_set.cls = RX6 ∧ yX6_set.cls ≠ "java/lang/invoke/MethodHandle" ∧ yX6_set.cls ≠ "java/lang/invoke/VarHandle" ∧ (parseMethodDescriptor yX6_set.desc).map (fun d => d.parameters.length) = some 3 := by decide +kernel
set_option maxHeartbeats 0 in
set_option maxRecDepth 100000 in
theorem c_X6_set (l : Launch) (D : va_G) (o : Nat → Nat) (y : Nat → ClassId) (sz : Nat) (pl : Nat → Int64) (te : Nat → Int32) (be : Nat → Int64) (cn : Int32) (ch : Nat → Int32) (le : Int32) (rE : Int32) (rL : Int32) (rP : Int32) (rF : Int32) (rS : Int32) (rD : Int32) (hs : Nat → Int64) (ho : Int32) (hc : Int32) (sl : Nat → Int64) (fi : Nat → Int32) (a1 : Int32) (a2 : Int32) (a3 : Int32) (r : Int32) (pl' : Nat → Int64) (hs' : Nat → Int64) (ho' : Int32) (hc' : Int32) (h : F_X6_set pl hs ho hc a1 a2 a3 = some (0, r, pl', hs', ho', hc')) : Met l yX6_set wsX6_set rm_X6_set (va_Pc [.ref (o 0), .int a1, .int a2, .int a3] (px D y sz (XW o y pl te be cn ch le rE rL rP rF rS rD hs ho hc sl fi))) (Qri D y sz (XW o y pl te be cn ch le rE rL rP rF rS rD hs ho hc sl fi) (XW o y pl' te be cn ch le rE rL rP rF rS rD hs' ho' hc' sl fi) r) 0 0 (va_A (XW o y pl te be cn ch le rE rL rP rF rS rD hs ho hc sl fi) sz) := by
  refine hd_i (cc := cX6_set) (maxL := 4) rfl rfl (Nat.le_of_ble_eq_true rfl) ?_
  intro p e s m args below meth c A Q H locs ls hx hb hml hts hown _ hA hP hD hK hS hl hE
  have hl : lv_has ls 4 [(0, .ref (o 0)), (1, .int a1), (2, .int a2), (3, .int a3)] := hl
  have q0 := hts (.constant RX6 54 (1000000)) (by decide +kernel)
  unfold F_X6_set at h
  refine lv_iload_n hx hb dX6_set_0 rfl (lv_at hl 1 rfl) ?_
  obtain ⟨k1, g2, h⟩ := fB1 h
  by_cases e3 : ¬ k1 = 0
  · replace h := fF e3 h
    exact fX e3 h
  replace e3 := Classical.not_not.mp e3
  subst e3
  replace h := fT rfl h
  refine cT_v (As := [.int a1]) (rest := []) ⟨hx, hb, hml, hown, hts⟩ (c_X6_requirePlate l D y _ a1 g2) (va_cwS 1 hts gX6_set_X6_requirePlate rfl rfl rfl hd_X6_requirePlate ⟨Nat.le_of_ble_eq_true rfl, Nat.le_of_ble_eq_true rfl⟩) hK hP hD hS hA rfl hl.1 rfl (Nat.le_of_ble_eq_true rfl) dX6_set_1 ⟨Nat.le_of_ble_eq_true rfl, Nat.le_of_ble_eq_true rfl⟩ (fun H locs hP hD hS => ?_)
  refine lv_iload_n hx hb dX6_set_4 rfl (lv_at hl 2 rfl) ?_
  refine lv_if_lt (tgt := 14) hx hb dX6_set_5 (by decide) (fun c4 => ?_) (fun c4 => ?_)
  · replace h := fT c4 h
    exact fX (show ¬ (2 : Nat) = 0 by decide) h
  · replace h := fF c4 h
    refine lv_iload_n hx hb dX6_set_8 rfl (lv_at hl 2 rfl) ?_
    refine lv_ldc (v := (1000000 : Int32)) hx hb hown q0 dX6_set_9 ?_
    refine lv_icmp_le (tgt := 24) hx hb dX6_set_11 (by decide) (fun c5 => ?_) (fun c5 => ?_)
    · replace h := fT c5 h
      refine lv_iload_n hx hb dX6_set_24 rfl (lv_at hl 3 rfl) ?_
      refine lv_iconst (v := (1 : Int32)) hx hb dX6_set_25 (by decide) ?_
      refine lv_icmp_lt (tgt := 35) hx hb dX6_set_26 (by decide) (fun c6 => ?_) (fun c6 => ?_)
      · replace h := fT c6 h
        exact fX (show ¬ (2 : Nat) = 0 by decide) h
      · replace h := fF c6 h
        refine lv_iload_n hx hb dX6_set_29 rfl (lv_at hl 3 rfl) ?_
        refine lv_ldc (v := (1000000 : Int32)) hx hb hown q0 dX6_set_30 ?_
        refine lv_icmp_le (tgt := 45) hx hb dX6_set_32 (by decide) (fun c7 => ?_) (fun c7 => ?_)
        · replace h := fT c7 h
          refine lv_aload_n hx hb dX6_set_45 rfl (lv_at hl 0 rfl) ?_
          refine lv_iload_n hx hb dX6_set_46 rfl (lv_at hl 1 rfl) ?_
          refine lv_iload_n hx hb dX6_set_47 rfl (lv_at hl 2 rfl) ?_
          refine lv_i2l (v := a2.toInt64) hx hb dX6_set_48 rfl ?_
          refine lv_iload_n hx hb dX6_set_49 rfl (lv_at hl 3 rfl) ?_
          refine lv_i2l (v := a3.toInt64) hx hb dX6_set_50 rfl ?_
          obtain ⟨r8, g9, h⟩ := fB1 h
          refine cT_l (As := [.long a2.toInt64, .long a3.toInt64]) (rest := [.int a1, .ref (o 0)]) ⟨hx, hb, hml, hown, hts⟩ (c_X3_inLowestTerms l D y _ a2.toInt64 a3.toInt64 r8 g9) (va_cwS 2 hts gX6_set_X3_inLowestTerms rfl rfl rfl hd_X3_inLowestTerms ⟨Nat.le_of_ble_eq_true rfl, Nat.le_of_ble_eq_true rfl⟩) hK hP hD hS hA rfl hl.1 rfl (Nat.le_of_ble_eq_true rfl) dX6_set_51 ⟨Nat.le_of_ble_eq_true rfl, Nat.le_of_ble_eq_true rfl⟩ (fun H locs hP hD hS => ?_)
          obtain ⟨r10, pl11, hs12, ho13, hc14, g15, h⟩ := fB5 h
          refine cV_i (As := [.int a1, .long r8]) (rest := []) (ws1 := (XW o y pl11 te be cn ch le rE rL rP rF rS rD hs12 ho13 hc14 sl fi)) ⟨hx, hb, hml, hown, hts⟩ (c_X6_change l D o y _ pl te be cn ch le rE rL rP rF rS rD hs ho hc sl fi a1 r8 r10 pl11 hs12 ho13 hc14 g15) (cwV 2 hts gX6_set_X6_change rfl rfl rfl hd_X6_change ⟨Nat.le_of_ble_eq_true rfl, Nat.le_of_ble_eq_true rfl⟩) hK hP hD hS hA [0, 1, 2, 3, 4, 5, 6, 7, 8, 9, 10, 11] [] [0, 1, 2, 3, 4, 5, 6, 7, 8, 9, 10, 11] rfl rfl rfl (by decide) rfl rfl rfl 0 (ci := 4) rfl rfl rfl hl.1 rfl (Nat.le_of_ble_eq_true rfl) dX6_set_54 ⟨Nat.le_of_ble_eq_true rfl, Nat.le_of_ble_eq_true rfl⟩ (fun H locs hP hD hS => ?_)
          cases h
          exact hE _ _ _ _ dX6_set_57 hP hD hS
        · replace h := fF c7 h
          exact fX (show ¬ (2 : Nat) = 0 by decide) h
    · replace h := fF c5 h
      exact fX (show ¬ (2 : Nat) = 0 by decide) h
abbrev rm_X6_changeIfPossible : Room := { frames := 3, cells := 0, slots := 0, locals := 65 }
theorem hd_X6_changeIfPossible : yX6_changeIfPossible.cls = RX6 ∧ yX6_changeIfPossible.cls ≠ "java/lang/invoke/MethodHandle" ∧ yX6_changeIfPossible.cls ≠ "java/lang/invoke/VarHandle" ∧ (parseMethodDescriptor yX6_changeIfPossible.desc).map (fun d => d.parameters.length) = some 2 := by decide +kernel
set_option maxHeartbeats 0 in
set_option maxRecDepth 100000 in
theorem c_X6_changeIfPossible (l : Launch) (D : va_G) (o : Nat → Nat) (y : Nat → ClassId) (sz : Nat) (pl : Nat → Int64) (te : Nat → Int32) (be : Nat → Int64) (cn : Int32) (ch : Nat → Int32) (le : Int32) (rE : Int32) (rL : Int32) (rP : Int32) (rF : Int32) (rS : Int32) (rD : Int32) (hs : Nat → Int64) (ho : Int32) (hc : Int32) (sl : Nat → Int64) (fi : Nat → Int32) (a1 : Int32) (a2 : Int64) (r : Int32) (pl' : Nat → Int64) (hs' : Nat → Int64) (ho' : Int32) (hc' : Int32) (h : F_X6_changeIfPossible pl hs ho hc a1 a2 = some (0, r, pl', hs', ho', hc')) : Met l yX6_changeIfPossible wsX6_changeIfPossible rm_X6_changeIfPossible (va_Pc [.ref (o 0), .int a1, .long a2] (px D y sz (XW o y pl te be cn ch le rE rL rP rF rS rD hs ho hc sl fi))) (Qri D y sz (XW o y pl te be cn ch le rE rL rP rF rS rD hs ho hc sl fi) (XW o y pl' te be cn ch le rE rL rP rF rS rD hs' ho' hc' sl fi) r) 0 0 (va_A (XW o y pl te be cn ch le rE rL rP rF rS rD hs ho hc sl fi) sz) := by
  refine hd_i (cc := cX6_changeIfPossible) (maxL := 4) rfl rfl (Nat.le_of_ble_eq_true rfl) ?_
  intro p e s m args below meth c A Q H locs ls hx hb hml hts hown _ hA hP hD hK hS hl hE
  have hl : lv_has ls 4 [(0, .ref (o 0)), (1, .int a1), (2, .long a2)] := hl
  have q0 := hts (.constantLong RX6 118 (-1)) (by decide +kernel)
  unfold F_X6_changeIfPossible at h
  refine lv_lload_n hx hb dX6_changeIfPossible_0 rfl (lv_at hl 2 rfl) ?_
  refine lv_ldc2 (v := (-1 : Int64)) hx hb hown q0 dX6_changeIfPossible_1 ?_
  refine lx_ne (tgt := 18) hx hb dX6_changeIfPossible_4 dX6_changeIfPossible_5 (by decide) (fun c1 => ?_) (fun c1 => ?_)
  · replace h := fF c1 h
    refine lv_aload_n hx hb dX6_changeIfPossible_18 rfl (lv_at hl 0 rfl) ?_
    refine lv_iload_n hx hb dX6_changeIfPossible_19 rfl (lv_at hl 1 rfl) ?_
    refine lv_lload_n hx hb dX6_changeIfPossible_20 rfl (lv_at hl 2 rfl) ?_
    obtain ⟨r2, pl3, hs4, ho5, hc6, g7, h⟩ := fB5 h
    refine cV_i (As := [.int a1, .long a2]) (rest := []) (ws1 := (XW o y pl3 te be cn ch le rE rL rP rF rS rD hs4 ho5 hc6 sl fi)) ⟨hx, hb, hml, hown, hts⟩ (c_X6_change l D o y _ pl te be cn ch le rE rL rP rF rS rD hs ho hc sl fi a1 a2 r2 pl3 hs4 ho5 hc6 g7) (cwV 2 hts gX6_changeIfPossible_X6_change rfl rfl rfl hd_X6_change ⟨Nat.le_of_ble_eq_true rfl, Nat.le_of_ble_eq_true rfl⟩) hK hP hD hS hA [0, 1, 2, 3, 4, 5, 6, 7, 8, 9, 10, 11] [] [0, 1, 2, 3, 4, 5, 6, 7, 8, 9, 10, 11] rfl rfl rfl (by decide) rfl rfl rfl 0 (ci := 4) rfl rfl rfl hl.1 rfl (Nat.le_of_ble_eq_true rfl) dX6_changeIfPossible_21 ⟨Nat.le_of_ble_eq_true rfl, Nat.le_of_ble_eq_true rfl⟩ (fun H locs hP hD hS => ?_)
    cases h
    exact hE _ _ _ _ dX6_changeIfPossible_24 hP hD hS
  · replace h := fT c1 h
    exact fX (show ¬ (3 : Nat) = 0 by decide) h
abbrev rm_X6_add : Room := { frames := 4, cells := 0, slots := 0, locals := 97 }
theorem hd_X6_add : yX6_add.cls = RX6 ∧ yX6_add.cls ≠ "java/lang/invoke/MethodHandle" ∧ yX6_add.cls ≠ "java/lang/invoke/VarHandle" ∧ (parseMethodDescriptor yX6_add.desc).map (fun d => d.parameters.length) = some 2 := by decide +kernel
set_option maxHeartbeats 0 in
set_option maxRecDepth 100000 in
theorem c_X6_add (l : Launch) (D : va_G) (o : Nat → Nat) (y : Nat → ClassId) (sz : Nat) (pl : Nat → Int64) (te : Nat → Int32) (be : Nat → Int64) (cn : Int32) (ch : Nat → Int32) (le : Int32) (rE : Int32) (rL : Int32) (rP : Int32) (rF : Int32) (rS : Int32) (rD : Int32) (hs : Nat → Int64) (ho : Int32) (hc : Int32) (sl : Nat → Int64) (fi : Nat → Int32) (a1 : Int32) (a2 : Int32) (r : Int32) (pl' : Nat → Int64) (hs' : Nat → Int64) (ho' : Int32) (hc' : Int32) (h : F_X6_add pl hs ho hc a1 a2 = some (0, r, pl', hs', ho', hc')) : Met l yX6_add wsX6_add rm_X6_add (va_Pc [.ref (o 0), .int a1, .int a2] (px D y sz (XW o y pl te be cn ch le rE rL rP rF rS rD hs ho hc sl fi))) (Qri D y sz (XW o y pl te be cn ch le rE rL rP rF rS rD hs ho hc sl fi) (XW o y pl' te be cn ch le rE rL rP rF rS rD hs' ho' hc' sl fi) r) 0 0 (va_A (XW o y pl te be cn ch le rE rL rP rF rS rD hs ho hc sl fi) sz) := by
  refine hd_i (cc := cX6_add) (maxL := 3) rfl rfl (Nat.le_of_ble_eq_true rfl) ?_
  intro p e s m args below meth c A Q H locs ls hx hb hml hts hown _ hA hP hD hK hS hl hE
  have hl : lv_has ls 3 [(0, .ref (o 0)), (1, .int a1), (2, .int a2)] := hl
  have q0 := hts (.fieldLink RX6 9 "SliceShares" "plates" "[J") (by decide +kernel)
  have hinRX6 : ∀ w ∈ wsX60, w ∈ wsX6_add := by decide +kernel
  unfold F_X6_add at h
  refine lv_iload_n hx hb dX6_add_0 rfl (lv_at hl 1 rfl) ?_
  obtain ⟨k1, g2, h⟩ := fB1 h
  by_cases e3 : ¬ k1 = 0
  · replace h := fF e3 h
    exact fX e3 h
  replace e3 := Classical.not_not.mp e3
  subst e3
  replace h := fT rfl h
  refine cT_v (As := [.int a1]) (rest := []) ⟨hx, hb, hml, hown, hts⟩ (c_X6_requirePlate l D y _ a1 g2) (va_cwS 1 hts gX6_add_X6_requirePlate rfl rfl rfl hd_X6_requirePlate ⟨Nat.le_of_ble_eq_true rfl, Nat.le_of_ble_eq_true rfl⟩) hK hP hD hS hA rfl hl.1 rfl (Nat.le_of_ble_eq_true rfl) dX6_add_1 ⟨Nat.le_of_ble_eq_true rfl, Nat.le_of_ble_eq_true rfl⟩ (fun H locs hP hD hS => ?_)
  refine lv_iload_n hx hb dX6_add_4 rfl (lv_at hl 2 rfl) ?_
  obtain ⟨k4, g5, h⟩ := fB1 h
  by_cases e6 : ¬ k4 = 0
  · replace h := fF e6 h
    exact fX e6 h
  replace e6 := Classical.not_not.mp e6
  subst e6
  replace h := fT rfl h
  refine cT_v (As := [.int a2]) (rest := []) ⟨hx, hb, hml, hown, hts⟩ (c_X6_requirePlate l D y _ a2 g5) (va_cwS 1 hts gX6_add_X6_requirePlate rfl rfl rfl hd_X6_requirePlate ⟨Nat.le_of_ble_eq_true rfl, Nat.le_of_ble_eq_true rfl⟩) hK hP hD hS hA rfl hl.1 rfl (Nat.le_of_ble_eq_true rfl) dX6_add_5 ⟨Nat.le_of_ble_eq_true rfl, Nat.le_of_ble_eq_true rfl⟩ (fun H locs hP hD hS => ?_)
  refine lv_aload_n hx hb dX6_add_8 rfl (lv_at hl 0 rfl) ?_
  refine lv_iload_n hx hb dX6_add_9 rfl (lv_at hl 1 rfl) ?_
  refine lv_aload_n hx hb dX6_add_10 rfl (lv_at hl 0 rfl) ?_
  refine va_get (D := D) (ci := 4) (C := RX6) (T := TX6) (N := 7) hx hb hts hinRX6 hown hK hP 0 rfl rfl 0 (by decide) q0 (fun _ h9 => h9) rfl dX6_add_11 ?_
  refine lv_iload_n hx hb dX6_add_14 rfl (lv_at hl 1 rfl) ?_
  obtain ⟨g7, h⟩ := fG h
  refine va_lald hx hb hK hP 1 1 rfl rfl g7 dX6_add_15 ?_
  refine lv_aload_n hx hb dX6_add_16 rfl (lv_at hl 0 rfl) ?_
  refine va_get (D := D) (ci := 4) (C := RX6) (T := TX6) (N := 7) hx hb hts hinRX6 hown hK hP 0 rfl rfl 0 (by decide) q0 (fun _ h9 => h9) rfl dX6_add_17 ?_
  refine lv_iload_n hx hb dX6_add_20 rfl (lv_at hl 2 rfl) ?_
  obtain ⟨g8, h⟩ := fG h
  refine va_lald hx hb hK hP 1 1 rfl rfl g8 dX6_add_21 ?_
  obtain ⟨r9, g10, h⟩ := fB1 h
  refine cT_l (As := [.long (pl a1.toNatClampNeg), .long (pl a2.toNatClampNeg)]) (rest := [.int a1, .ref (o 0)]) ⟨hx, hb, hml, hown, hts⟩ (c_X3_sum l D y _ (pl a1.toNatClampNeg) (pl a2.toNatClampNeg) r9 g10) (va_cwS 2 hts gX6_add_X3_sum rfl rfl rfl hd_X3_sum ⟨Nat.le_of_ble_eq_true rfl, Nat.le_of_ble_eq_true rfl⟩) hK hP hD hS hA rfl hl.1 rfl (Nat.le_of_ble_eq_true rfl) dX6_add_22 ⟨Nat.le_of_ble_eq_true rfl, Nat.le_of_ble_eq_true rfl⟩ (fun H locs hP hD hS => ?_)
  obtain ⟨k11, r12, pl13, hs14, ho15, hc16, g17, h⟩ := fB6 h
  by_cases e18 : ¬ k11 = 0
  · replace h := fF e18 h
    exact fX e18 h
  replace e18 := Classical.not_not.mp e18
  subst e18
  replace h := fT rfl h
  refine cV_i (As := [.int a1, .long r9]) (rest := []) (ws1 := (XW o y pl13 te be cn ch le rE rL rP rF rS rD hs14 ho15 hc16 sl fi)) ⟨hx, hb, hml, hown, hts⟩ (c_X6_changeIfPossible l D o y _ pl te be cn ch le rE rL rP rF rS rD hs ho hc sl fi a1 r9 r12 pl13 hs14 ho15 hc16 g17) (cwV 2 hts gX6_add_X6_changeIfPossible rfl rfl rfl hd_X6_changeIfPossible ⟨Nat.le_of_ble_eq_true rfl, Nat.le_of_ble_eq_true rfl⟩) hK hP hD hS hA [0, 1, 2, 3, 4, 5, 6, 7, 8, 9, 10, 11] [] [0, 1, 2, 3, 4, 5, 6, 7, 8, 9, 10, 11] rfl rfl rfl (by decide) rfl rfl rfl 0 (ci := 4) rfl rfl rfl hl.1 rfl (Nat.le_of_ble_eq_true rfl) dX6_add_25 ⟨Nat.le_of_ble_eq_true rfl, Nat.le_of_ble_eq_true rfl⟩ (fun H locs hP hD hS => ?_)
  cases h
  exact hE _ _ _ _ dX6_add_28 hP hD hS
abbrev rm_X6_takeAway : Room := { frames := 4, cells := 0, slots := 0, locals := 97 }
theorem hd_X6_takeAway : yX6_takeAway.cls = RX6 ∧ yX6_takeAway.cls ≠ "java/lang/invoke/MethodHandle" ∧ yX6_takeAway.cls ≠ "java/lang/invoke/VarHandle" ∧ (parseMethodDescriptor yX6_takeAway.desc).map (fun d => d.parameters.length) = some 2 := by decide +kernel
set_option maxHeartbeats 0 in
set_option maxRecDepth 100000 in
theorem c_X6_takeAway (l : Launch) (D : va_G) (o : Nat → Nat) (y : Nat → ClassId) (sz : Nat) (pl : Nat → Int64) (te : Nat → Int32) (be : Nat → Int64) (cn : Int32) (ch : Nat → Int32) (le : Int32) (rE : Int32) (rL : Int32) (rP : Int32) (rF : Int32) (rS : Int32) (rD : Int32) (hs : Nat → Int64) (ho : Int32) (hc : Int32) (sl : Nat → Int64) (fi : Nat → Int32) (a1 : Int32) (a2 : Int32) (r : Int32) (pl' : Nat → Int64) (hs' : Nat → Int64) (ho' : Int32) (hc' : Int32) (h : F_X6_takeAway pl hs ho hc a1 a2 = some (0, r, pl', hs', ho', hc')) : Met l yX6_takeAway wsX6_takeAway rm_X6_takeAway (va_Pc [.ref (o 0), .int a1, .int a2] (px D y sz (XW o y pl te be cn ch le rE rL rP rF rS rD hs ho hc sl fi))) (Qri D y sz (XW o y pl te be cn ch le rE rL rP rF rS rD hs ho hc sl fi) (XW o y pl' te be cn ch le rE rL rP rF rS rD hs' ho' hc' sl fi) r) 0 0 (va_A (XW o y pl te be cn ch le rE rL rP rF rS rD hs ho hc sl fi) sz) := by
  refine hd_i (cc := cX6_takeAway) (maxL := 3) rfl rfl (Nat.le_of_ble_eq_true rfl) ?_
  intro p e s m args below meth c A Q H locs ls hx hb hml hts hown _ hA hP hD hK hS hl hE
  have hl : lv_has ls 3 [(0, .ref (o 0)), (1, .int a1), (2, .int a2)] := hl
  have q0 := hts (.fieldLink RX6 9 "SliceShares" "plates" "[J") (by decide +kernel)
  have hinRX6 : ∀ w ∈ wsX60, w ∈ wsX6_takeAway := by decide +kernel
  unfold F_X6_takeAway at h
  refine lv_iload_n hx hb dX6_takeAway_0 rfl (lv_at hl 1 rfl) ?_
  obtain ⟨k1, g2, h⟩ := fB1 h
  by_cases e3 : ¬ k1 = 0
  · replace h := fF e3 h
    exact fX e3 h
  replace e3 := Classical.not_not.mp e3
  subst e3
  replace h := fT rfl h
  refine cT_v (As := [.int a1]) (rest := []) ⟨hx, hb, hml, hown, hts⟩ (c_X6_requirePlate l D y _ a1 g2) (va_cwS 1 hts gX6_takeAway_X6_requirePlate rfl rfl rfl hd_X6_requirePlate ⟨Nat.le_of_ble_eq_true rfl, Nat.le_of_ble_eq_true rfl⟩) hK hP hD hS hA rfl hl.1 rfl (Nat.le_of_ble_eq_true rfl) dX6_takeAway_1 ⟨Nat.le_of_ble_eq_true rfl, Nat.le_of_ble_eq_true rfl⟩ (fun H locs hP hD hS => ?_)
  refine lv_iload_n hx hb dX6_takeAway_4 rfl (lv_at hl 2 rfl) ?_
  obtain ⟨k4, g5, h⟩ := fB1 h
  by_cases e6 : ¬ k4 = 0
  · replace h := fF e6 h
    exact fX e6 h
  replace e6 := Classical.not_not.mp e6
  subst e6
  replace h := fT rfl h
  refine cT_v (As := [.int a2]) (rest := []) ⟨hx, hb, hml, hown, hts⟩ (c_X6_requirePlate l D y _ a2 g5) (va_cwS 1 hts gX6_takeAway_X6_requirePlate rfl rfl rfl hd_X6_requirePlate ⟨Nat.le_of_ble_eq_true rfl, Nat.le_of_ble_eq_true rfl⟩) hK hP hD hS hA rfl hl.1 rfl (Nat.le_of_ble_eq_true rfl) dX6_takeAway_5 ⟨Nat.le_of_ble_eq_true rfl, Nat.le_of_ble_eq_true rfl⟩ (fun H locs hP hD hS => ?_)
  refine lv_aload_n hx hb dX6_takeAway_8 rfl (lv_at hl 0 rfl) ?_
  refine lv_iload_n hx hb dX6_takeAway_9 rfl (lv_at hl 1 rfl) ?_
  refine lv_aload_n hx hb dX6_takeAway_10 rfl (lv_at hl 0 rfl) ?_
  refine va_get (D := D) (ci := 4) (C := RX6) (T := TX6) (N := 7) hx hb hts hinRX6 hown hK hP 0 rfl rfl 0 (by decide) q0 (fun _ h9 => h9) rfl dX6_takeAway_11 ?_
  refine lv_iload_n hx hb dX6_takeAway_14 rfl (lv_at hl 1 rfl) ?_
  obtain ⟨g7, h⟩ := fG h
  refine va_lald hx hb hK hP 1 1 rfl rfl g7 dX6_takeAway_15 ?_
  refine lv_aload_n hx hb dX6_takeAway_16 rfl (lv_at hl 0 rfl) ?_
  refine va_get (D := D) (ci := 4) (C := RX6) (T := TX6) (N := 7) hx hb hts hinRX6 hown hK hP 0 rfl rfl 0 (by decide) q0 (fun _ h9 => h9) rfl dX6_takeAway_17 ?_
  refine lv_iload_n hx hb dX6_takeAway_20 rfl (lv_at hl 2 rfl) ?_
  obtain ⟨g8, h⟩ := fG h
  refine va_lald hx hb hK hP 1 1 rfl rfl g8 dX6_takeAway_21 ?_
  obtain ⟨r9, g10, h⟩ := fB1 h
  refine cT_l (As := [.long (pl a1.toNatClampNeg), .long (pl a2.toNatClampNeg)]) (rest := [.int a1, .ref (o 0)]) ⟨hx, hb, hml, hown, hts⟩ (c_X3_difference l D y _ (pl a1.toNatClampNeg) (pl a2.toNatClampNeg) r9 g10) (va_cwS 2 hts gX6_takeAway_X3_difference rfl rfl rfl hd_X3_difference ⟨Nat.le_of_ble_eq_true rfl, Nat.le_of_ble_eq_true rfl⟩) hK hP hD hS hA rfl hl.1 rfl (Nat.le_of_ble_eq_true rfl) dX6_takeAway_22 ⟨Nat.le_of_ble_eq_true rfl, Nat.le_of_ble_eq_true rfl⟩ (fun H locs hP hD hS => ?_)
  obtain ⟨k11, r12, pl13, hs14, ho15, hc16, g17, h⟩ := fB6 h
  by_cases e18 : ¬ k11 = 0
  · replace h := fF e18 h
    exact fX e18 h
  replace e18 := Classical.not_not.mp e18
  subst e18
  replace h := fT rfl h
  refine cV_i (As := [.int a1, .long r9]) (rest := []) (ws1 := (XW o y pl13 te be cn ch le rE rL rP rF rS rD hs14 ho15 hc16 sl fi)) ⟨hx, hb, hml, hown, hts⟩ (c_X6_changeIfPossible l D o y _ pl te be cn ch le rE rL rP rF rS rD hs ho hc sl fi a1 r9 r12 pl13 hs14 ho15 hc16 g17) (cwV 2 hts gX6_takeAway_X6_changeIfPossible rfl rfl rfl hd_X6_changeIfPossible ⟨Nat.le_of_ble_eq_true rfl, Nat.le_of_ble_eq_true rfl⟩) hK hP hD hS hA [0, 1, 2, 3, 4, 5, 6, 7, 8, 9, 10, 11] [] [0, 1, 2, 3, 4, 5, 6, 7, 8, 9, 10, 11] rfl rfl rfl (by decide) rfl rfl rfl 0 (ci := 4) rfl rfl rfl hl.1 rfl (Nat.le_of_ble_eq_true rfl) dX6_takeAway_25 ⟨Nat.le_of_ble_eq_true rfl, Nat.le_of_ble_eq_true rfl⟩ (fun H locs hP hD hS => ?_)
  cases h
  exact hE _ _ _ _ dX6_takeAway_28 hP hD hS
abbrev rm_X6_multiply : Room := { frames := 4, cells := 0, slots := 0, locals := 97 }
theorem hd_X6_multiply : yX6_multiply.cls = RX6 ∧ yX6_multiply.cls ≠ "java/lang/invoke/MethodHandle" ∧ yX6_multiply.cls ≠ "java/lang/invoke/VarHandle" ∧ (parseMethodDescriptor yX6_multiply.desc).map (fun d => d.parameters.length) = some 2 := by decide +kernel
set_option maxHeartbeats 0 in
set_option maxRecDepth 100000 in
theorem c_X6_multiply (l : Launch) (D : va_G) (o : Nat → Nat) (y : Nat → ClassId) (sz : Nat) (pl : Nat → Int64) (te : Nat → Int32) (be : Nat → Int64) (cn : Int32) (ch : Nat → Int32) (le : Int32) (rE : Int32) (rL : Int32) (rP : Int32) (rF : Int32) (rS : Int32) (rD : Int32) (hs : Nat → Int64) (ho : Int32) (hc : Int32) (sl : Nat → Int64) (fi : Nat → Int32) (a1 : Int32) (a2 : Int32) (r : Int32) (pl' : Nat → Int64) (hs' : Nat → Int64) (ho' : Int32) (hc' : Int32) (h : F_X6_multiply pl hs ho hc a1 a2 = some (0, r, pl', hs', ho', hc')) : Met l yX6_multiply wsX6_multiply rm_X6_multiply (va_Pc [.ref (o 0), .int a1, .int a2] (px D y sz (XW o y pl te be cn ch le rE rL rP rF rS rD hs ho hc sl fi))) (Qri D y sz (XW o y pl te be cn ch le rE rL rP rF rS rD hs ho hc sl fi) (XW o y pl' te be cn ch le rE rL rP rF rS rD hs' ho' hc' sl fi) r) 0 0 (va_A (XW o y pl te be cn ch le rE rL rP rF rS rD hs ho hc sl fi) sz) := by
  refine hd_i (cc := cX6_multiply) (maxL := 3) rfl rfl (Nat.le_of_ble_eq_true rfl) ?_
  intro p e s m args below meth c A Q H locs ls hx hb hml hts hown _ hA hP hD hK hS hl hE
  have hl : lv_has ls 3 [(0, .ref (o 0)), (1, .int a1), (2, .int a2)] := hl
  have q0 := hts (.fieldLink RX6 9 "SliceShares" "plates" "[J") (by decide +kernel)
  have hinRX6 : ∀ w ∈ wsX60, w ∈ wsX6_multiply := by decide +kernel
  unfold F_X6_multiply at h
  refine lv_iload_n hx hb dX6_multiply_0 rfl (lv_at hl 1 rfl) ?_
  obtain ⟨k1, g2, h⟩ := fB1 h
  by_cases e3 : ¬ k1 = 0
  · replace h := fF e3 h
    exact fX e3 h
  replace e3 := Classical.not_not.mp e3
  subst e3
  replace h := fT rfl h
  refine cT_v (As := [.int a1]) (rest := []) ⟨hx, hb, hml, hown, hts⟩ (c_X6_requirePlate l D y _ a1 g2) (va_cwS 1 hts gX6_multiply_X6_requirePlate rfl rfl rfl hd_X6_requirePlate ⟨Nat.le_of_ble_eq_true rfl, Nat.le_of_ble_eq_true rfl⟩) hK hP hD hS hA rfl hl.1 rfl (Nat.le_of_ble_eq_true rfl) dX6_multiply_1 ⟨Nat.le_of_ble_eq_true rfl, Nat.le_of_ble_eq_true rfl⟩ (fun H locs hP hD hS => ?_)
  refine lv_iload_n hx hb dX6_multiply_4 rfl (lv_at hl 2 rfl) ?_
  obtain ⟨k4, g5, h⟩ := fB1 h
  by_cases e6 : ¬ k4 = 0
  · replace h := fF e6 h
    exact fX e6 h
  replace e6 := Classical.not_not.mp e6
  subst e6
  replace h := fT rfl h
  refine cT_v (As := [.int a2]) (rest := []) ⟨hx, hb, hml, hown, hts⟩ (c_X6_requirePlate l D y _ a2 g5) (va_cwS 1 hts gX6_multiply_X6_requirePlate rfl rfl rfl hd_X6_requirePlate ⟨Nat.le_of_ble_eq_true rfl, Nat.le_of_ble_eq_true rfl⟩) hK hP hD hS hA rfl hl.1 rfl (Nat.le_of_ble_eq_true rfl) dX6_multiply_5 ⟨Nat.le_of_ble_eq_true rfl, Nat.le_of_ble_eq_true rfl⟩ (fun H locs hP hD hS => ?_)
  refine lv_aload_n hx hb dX6_multiply_8 rfl (lv_at hl 0 rfl) ?_
  refine lv_iload_n hx hb dX6_multiply_9 rfl (lv_at hl 1 rfl) ?_
  refine lv_aload_n hx hb dX6_multiply_10 rfl (lv_at hl 0 rfl) ?_
  refine va_get (D := D) (ci := 4) (C := RX6) (T := TX6) (N := 7) hx hb hts hinRX6 hown hK hP 0 rfl rfl 0 (by decide) q0 (fun _ h9 => h9) rfl dX6_multiply_11 ?_
  refine lv_iload_n hx hb dX6_multiply_14 rfl (lv_at hl 1 rfl) ?_
  obtain ⟨g7, h⟩ := fG h
  refine va_lald hx hb hK hP 1 1 rfl rfl g7 dX6_multiply_15 ?_
  refine lv_aload_n hx hb dX6_multiply_16 rfl (lv_at hl 0 rfl) ?_
  refine va_get (D := D) (ci := 4) (C := RX6) (T := TX6) (N := 7) hx hb hts hinRX6 hown hK hP 0 rfl rfl 0 (by decide) q0 (fun _ h9 => h9) rfl dX6_multiply_17 ?_
  refine lv_iload_n hx hb dX6_multiply_20 rfl (lv_at hl 2 rfl) ?_
  obtain ⟨g8, h⟩ := fG h
  refine va_lald hx hb hK hP 1 1 rfl rfl g8 dX6_multiply_21 ?_
  obtain ⟨r9, g10, h⟩ := fB1 h
  refine cT_l (As := [.long (pl a1.toNatClampNeg), .long (pl a2.toNatClampNeg)]) (rest := [.int a1, .ref (o 0)]) ⟨hx, hb, hml, hown, hts⟩ (c_X3_product l D y _ (pl a1.toNatClampNeg) (pl a2.toNatClampNeg) r9 g10) (va_cwS 2 hts gX6_multiply_X3_product rfl rfl rfl hd_X3_product ⟨Nat.le_of_ble_eq_true rfl, Nat.le_of_ble_eq_true rfl⟩) hK hP hD hS hA rfl hl.1 rfl (Nat.le_of_ble_eq_true rfl) dX6_multiply_22 ⟨Nat.le_of_ble_eq_true rfl, Nat.le_of_ble_eq_true rfl⟩ (fun H locs hP hD hS => ?_)
  obtain ⟨k11, r12, pl13, hs14, ho15, hc16, g17, h⟩ := fB6 h
  by_cases e18 : ¬ k11 = 0
  · replace h := fF e18 h
    exact fX e18 h
  replace e18 := Classical.not_not.mp e18
  subst e18
  replace h := fT rfl h
  refine cV_i (As := [.int a1, .long r9]) (rest := []) (ws1 := (XW o y pl13 te be cn ch le rE rL rP rF rS rD hs14 ho15 hc16 sl fi)) ⟨hx, hb, hml, hown, hts⟩ (c_X6_changeIfPossible l D o y _ pl te be cn ch le rE rL rP rF rS rD hs ho hc sl fi a1 r9 r12 pl13 hs14 ho15 hc16 g17) (cwV 2 hts gX6_multiply_X6_changeIfPossible rfl rfl rfl hd_X6_changeIfPossible ⟨Nat.le_of_ble_eq_true rfl, Nat.le_of_ble_eq_true rfl⟩) hK hP hD hS hA [0, 1, 2, 3, 4, 5, 6, 7, 8, 9, 10, 11] [] [0, 1, 2, 3, 4, 5, 6, 7, 8, 9, 10, 11] rfl rfl rfl (by decide) rfl rfl rfl 0 (ci := 4) rfl rfl rfl hl.1 rfl (Nat.le_of_ble_eq_true rfl) dX6_multiply_25 ⟨Nat.le_of_ble_eq_true rfl, Nat.le_of_ble_eq_true rfl⟩ (fun H locs hP hD hS => ?_)
  cases h
  exact hE _ _ _ _ dX6_multiply_28 hP hD hS
abbrev rm_X6_copyTo : Room := { frames := 3, cells := 0, slots := 0, locals := 65 }
theorem hd_X6_copyTo : yX6_copyTo.cls = RX6 ∧ yX6_copyTo.cls ≠ "java/lang/invoke/MethodHandle" ∧ yX6_copyTo.cls ≠ "java/lang/invoke/VarHandle" ∧ (parseMethodDescriptor yX6_copyTo.desc).map (fun d => d.parameters.length) = some 2 := by decide +kernel
set_option maxHeartbeats 0 in
set_option maxRecDepth 100000 in
theorem c_X6_copyTo (l : Launch) (D : va_G) (o : Nat → Nat) (y : Nat → ClassId) (sz : Nat) (pl : Nat → Int64) (te : Nat → Int32) (be : Nat → Int64) (cn : Int32) (ch : Nat → Int32) (le : Int32) (rE : Int32) (rL : Int32) (rP : Int32) (rF : Int32) (rS : Int32) (rD : Int32) (hs : Nat → Int64) (ho : Int32) (hc : Int32) (sl : Nat → Int64) (fi : Nat → Int32) (a1 : Int32) (a2 : Int32) (r : Int32) (pl' : Nat → Int64) (hs' : Nat → Int64) (ho' : Int32) (hc' : Int32) (h : F_X6_copyTo pl hs ho hc a1 a2 = some (0, r, pl', hs', ho', hc')) : Met l yX6_copyTo wsX6_copyTo rm_X6_copyTo (va_Pc [.ref (o 0), .int a1, .int a2] (px D y sz (XW o y pl te be cn ch le rE rL rP rF rS rD hs ho hc sl fi))) (Qri D y sz (XW o y pl te be cn ch le rE rL rP rF rS rD hs ho hc sl fi) (XW o y pl' te be cn ch le rE rL rP rF rS rD hs' ho' hc' sl fi) r) 0 0 (va_A (XW o y pl te be cn ch le rE rL rP rF rS rD hs ho hc sl fi) sz) := by
  refine hd_z (cc := cX6_copyTo) (maxL := 4) (rt := .boolean) rfl rfl (Nat.le_of_ble_eq_true rfl) ?_
  intro p e s m args below meth c A Q H locs ls hx hb hml hts hown _ hA hP hD hK hS hl hE
  have hl : lv_has ls 4 [(0, .ref (o 0)), (1, .int a1), (2, .int a2)] := hl
  have q0 := hts (.fieldLink RX6 9 "SliceShares" "plates" "[J") (by decide +kernel)
  have hinRX6 : ∀ w ∈ wsX60, w ∈ wsX6_copyTo := by decide +kernel
  unfold F_X6_copyTo at h
  refine lv_iload_n hx hb dX6_copyTo_0 rfl (lv_at hl 1 rfl) ?_
  obtain ⟨k1, g2, h⟩ := fB1 h
  by_cases e3 : ¬ k1 = 0
  · replace h := fF e3 h
    exact fX e3 h
  replace e3 := Classical.not_not.mp e3
  subst e3
  replace h := fT rfl h
  refine cT_v (As := [.int a1]) (rest := []) ⟨hx, hb, hml, hown, hts⟩ (c_X6_requirePlate l D y _ a1 g2) (va_cwS 1 hts gX6_copyTo_X6_requirePlate rfl rfl rfl hd_X6_requirePlate ⟨Nat.le_of_ble_eq_true rfl, Nat.le_of_ble_eq_true rfl⟩) hK hP hD hS hA rfl hl.1 rfl (Nat.le_of_ble_eq_true rfl) dX6_copyTo_1 ⟨Nat.le_of_ble_eq_true rfl, Nat.le_of_ble_eq_true rfl⟩ (fun H locs hP hD hS => ?_)
  refine lv_iload_n hx hb dX6_copyTo_4 rfl (lv_at hl 2 rfl) ?_
  obtain ⟨k4, g5, h⟩ := fB1 h
  by_cases e6 : ¬ k4 = 0
  · replace h := fF e6 h
    exact fX e6 h
  replace e6 := Classical.not_not.mp e6
  subst e6
  replace h := fT rfl h
  refine cT_v (As := [.int a2]) (rest := []) ⟨hx, hb, hml, hown, hts⟩ (c_X6_requirePlate l D y _ a2 g5) (va_cwS 1 hts gX6_copyTo_X6_requirePlate rfl rfl rfl hd_X6_requirePlate ⟨Nat.le_of_ble_eq_true rfl, Nat.le_of_ble_eq_true rfl⟩) hK hP hD hS hA rfl hl.1 rfl (Nat.le_of_ble_eq_true rfl) dX6_copyTo_5 ⟨Nat.le_of_ble_eq_true rfl, Nat.le_of_ble_eq_true rfl⟩ (fun H locs hP hD hS => ?_)
  refine lv_aload_n hx hb dX6_copyTo_8 rfl (lv_at hl 0 rfl) ?_
  refine va_get (D := D) (ci := 4) (C := RX6) (T := TX6) (N := 7) hx hb hts hinRX6 hown hK hP 0 rfl rfl 0 (by decide) q0 (fun _ h9 => h9) rfl dX6_copyTo_9 ?_
  refine lv_iload_n hx hb dX6_copyTo_12 rfl (lv_at hl 2 rfl) ?_
  obtain ⟨g7, h⟩ := fG h
  refine va_lald hx hb hK hP 1 1 rfl rfl g7 dX6_copyTo_13 ?_
  refine lv_aload_n hx hb dX6_copyTo_14 rfl (lv_at hl 0 rfl) ?_
  refine va_get (D := D) (ci := 4) (C := RX6) (T := TX6) (N := 7) hx hb hts hinRX6 hown hK hP 0 rfl rfl 0 (by decide) q0 (fun _ h9 => h9) rfl dX6_copyTo_15 ?_
  refine lv_iload_n hx hb dX6_copyTo_18 rfl (lv_at hl 1 rfl) ?_
  obtain ⟨g8, h⟩ := fG h
  refine va_lald hx hb hK hP 1 1 rfl rfl g8 dX6_copyTo_19 ?_
  have J9 : ∀ (v10 : Int32) (ls : Array Slot), v10 = (if (pl a2.toNatClampNeg) = (pl a1.toNatClampNeg) then (1 : Int32) else (0 : Int32)) → lv_has ls 4 [(0, .ref (o 0)), (1, .int a1), (2, .int a2)] → W p l e rm_X6_copyTo s m args below meth c H locs 0 0 Q (F0 m 29 ls [.int v10]) := by
    intro v10 ls ev10 hl
    subst ev10
    refine lv_istore_n (lv' := [(3, .int (if (pl a2.toNatClampNeg) = (pl a1.toNatClampNeg) then (1 : Int32) else (0 : Int32))), (0, .ref (o 0)), (1, .int a1), (2, .int a2)]) hx hb dX6_copyTo_29 rfl hl (by decide) rfl (fun ls hl => ?_)
    refine lv_aload_n hx hb dX6_copyTo_30 rfl (lv_at hl 1 rfl) ?_
    refine lv_iload_n hx hb dX6_copyTo_31 rfl (lv_at hl 3 rfl) ?_
    refine lv_aload_n hx hb dX6_copyTo_32 rfl (lv_at hl 1 rfl) ?_
    refine va_get (D := D) (ci := 4) (C := RX6) (T := TX6) (N := 7) hx hb hts hinRX6 hown hK hP 0 rfl rfl 0 (by decide) q0 (fun _ h9 => h9) rfl dX6_copyTo_33 ?_
    refine lv_iload_n hx hb dX6_copyTo_36 rfl (lv_at hl 2 rfl) ?_
    refine va_lald hx hb hK hP 1 1 rfl rfl g8 dX6_copyTo_37 ?_
    obtain ⟨r11, pl12, hs13, ho14, hc15, g16, h⟩ := fB5 h
    refine cV_i (As := [.int a2, .long (pl a1.toNatClampNeg)]) (rest := []) (ws1 := (XW o y pl12 te be cn ch le rE rL rP rF rS rD hs13 ho14 hc15 sl fi)) ⟨hx, hb, hml, hown, hts⟩ (c_X6_change l D o y _ pl te be cn ch le rE rL rP rF rS rD hs ho hc sl fi a2 (pl a1.toNatClampNeg) r11 pl12 hs13 ho14 hc15 g16) (cwV 2 hts gX6_copyTo_X6_change rfl rfl rfl hd_X6_change ⟨Nat.le_of_ble_eq_true rfl, Nat.le_of_ble_eq_true rfl⟩) hK hP hD hS hA [0, 1, 2, 3, 4, 5, 6, 7, 8, 9, 10, 11] [] [0, 1, 2, 3, 4, 5, 6, 7, 8, 9, 10, 11] rfl rfl rfl (by decide) rfl rfl rfl 0 (ci := 4) rfl rfl rfl hl.1 rfl (Nat.le_of_ble_eq_true rfl) dX6_copyTo_38 ⟨Nat.le_of_ble_eq_true rfl, Nat.le_of_ble_eq_true rfl⟩ (fun H locs hP hD hS => ?_)
    refine lv_pop hx hb dX6_copyTo_41 rfl ?_
    refine lv_iload_n hx hb dX6_copyTo_42 rfl (lv_at hl 0 rfl) ?_
    cases h
    exact hE _ _ _ _ dX6_copyTo_43 hP hD hS (nz01 (z01 (Or.inr rfl) (Or.inl rfl)))
  refine lx_ne (tgt := 28) hx hb dX6_copyTo_20 dX6_copyTo_21 (by decide) (fun c17 => ?_) (fun c17 => ?_)
  · refine lv_iconst (v := (0 : Int32)) hx hb dX6_copyTo_28 (by decide) ?_
    exact J9 _ _ (by rw [if_neg c17]) (lv_sub hl [0, 1, 2] rfl)
  · refine lv_iconst (v := (1 : Int32)) hx hb dX6_copyTo_24 (by decide) ?_
    refine lv_goto (tgt := 29) hx hb dX6_copyTo_25 (by decide) ?_
    exact J9 _ _ (by rw [if_pos c17]) (lv_sub hl [0, 1, 2] rfl)
abbrev rm_X6_requireNotZero : Room := { frames := 2, cells := 0, slots := 0, locals := 40 }
theorem hd_X6_requireNotZero : yX6_requireNotZero.cls = RX6 ∧ yX6_requireNotZero.cls ≠ "java/lang/invoke/MethodHandle" ∧ yX6_requireNotZero.cls ≠ "java/lang/invoke/VarHandle" ∧ (parseMethodDescriptor yX6_requireNotZero.desc).map (fun d => d.parameters.length) = some 1 := by decide +kernel
set_option maxHeartbeats 0 in
set_option maxRecDepth 100000 in
theorem c_X6_requireNotZero (l : Launch) (D : va_G) (o : Nat → Nat) (y : Nat → ClassId) (sz : Nat) (pl : Nat → Int64) (te : Nat → Int32) (be : Nat → Int64) (cn : Int32) (ch : Nat → Int32) (le : Int32) (rE : Int32) (rL : Int32) (rP : Int32) (rF : Int32) (rS : Int32) (rD : Int32) (hs : Nat → Int64) (ho : Int32) (hc : Int32) (sl : Nat → Int64) (fi : Nat → Int32) (a1 : Int32) (h : F_X6_requireNotZero pl a1 = some 0) : Met l yX6_requireNotZero wsX6_requireNotZero rm_X6_requireNotZero (va_Pc [.ref (o 0), .int a1] (px D y sz (XW o y pl te be cn ch le rE rL rP rF rS rD hs ho hc sl fi))) (Qrv D y sz (XW o y pl te be cn ch le rE rL rP rF rS rD hs ho hc sl fi) (XW o y pl te be cn ch le rE rL rP rF rS rD hs ho hc sl fi)) 0 0 (va_A (XW o y pl te be cn ch le rE rL rP rF rS rD hs ho hc sl fi) sz) := by
  refine hd_v (cc := cX6_requireNotZero) (maxL := 2) rfl rfl (Nat.le_of_ble_eq_true rfl) ?_
  intro p e s m args below meth c A Q H locs ls hx hb hml hts hown _ hA hP hD hK hS hl hE
  have hl : lv_has ls 2 [(0, .ref (o 0)), (1, .int a1)] := hl
  have q0 := hts (.fieldLink RX6 9 "SliceShares" "plates" "[J") (by decide +kernel)
  have hinRX6 : ∀ w ∈ wsX60, w ∈ wsX6_requireNotZero := by decide +kernel
  unfold F_X6_requireNotZero at h
  refine lv_iload_n hx hb dX6_requireNotZero_0 rfl (lv_at hl 1 rfl) ?_
  obtain ⟨k1, g2, h⟩ := fB1 h
  by_cases e3 : ¬ k1 = 0
  · replace h := fF e3 h
    exact fX1 e3 h
  replace e3 := Classical.not_not.mp e3
  subst e3
  replace h := fT rfl h
  refine cT_v (As := [.int a1]) (rest := []) ⟨hx, hb, hml, hown, hts⟩ (c_X6_requirePlate l D y _ a1 g2) (va_cwS 1 hts gX6_requireNotZero_X6_requirePlate rfl rfl rfl hd_X6_requirePlate ⟨Nat.le_of_ble_eq_true rfl, Nat.le_of_ble_eq_true rfl⟩) hK hP hD hS hA rfl hl.1 rfl (Nat.le_of_ble_eq_true rfl) dX6_requireNotZero_1 ⟨Nat.le_of_ble_eq_true rfl, Nat.le_of_ble_eq_true rfl⟩ (fun H locs hP hD hS => ?_)
  refine lv_aload_n hx hb dX6_requireNotZero_4 rfl (lv_at hl 0 rfl) ?_
  refine va_get (D := D) (ci := 4) (C := RX6) (T := TX6) (N := 7) hx hb hts hinRX6 hown hK hP 0 rfl rfl 0 (by decide) q0 (fun _ h9 => h9) rfl dX6_requireNotZero_5 ?_
  refine lv_iload_n hx hb dX6_requireNotZero_8 rfl (lv_at hl 1 rfl) ?_
  obtain ⟨g4, h⟩ := fG h
  refine va_lald hx hb hK hP 1 1 rfl rfl g4 dX6_requireNotZero_9 ?_
  refine lv_lconst (v := (1 : Int64)) hx hb dX6_requireNotZero_10 rfl ?_
  refine lx_ne (tgt := 25) hx hb dX6_requireNotZero_11 dX6_requireNotZero_12 (by decide) (fun c5 => ?_) (fun c5 => ?_)
  · replace h := fF c5 h
    cases h
    exact hE _ _ _ _ dX6_requireNotZero_25 hP hD hS
  · replace h := fT c5 h
    exact fX1 (show ¬ (3 : Nat) = 0 by decide) h
abbrev rm_X6_invert : Room := { frames := 3, cells := 0, slots := 0, locals := 74 }
theorem hd_X6_invert : yX6_invert.cls = RX6 ∧ yX6_invert.cls ≠ "java/lang/invoke/MethodHandle" ∧ yX6_invert.cls ≠ "java/lang/invoke/VarHandle" ∧ (parseMethodDescriptor yX6_invert.desc).map (fun d => d.parameters.length) = some 1 := by decide +kernel
set_option maxHeartbeats 0 in
set_option maxRecDepth 100000 in
theorem c_X6_invert (l : Launch) (D : va_G) (o : Nat → Nat) (y : Nat → ClassId) (sz : Nat) (pl : Nat → Int64) (te : Nat → Int32) (be : Nat → Int64) (cn : Int32) (ch : Nat → Int32) (le : Int32) (rE : Int32) (rL : Int32) (rP : Int32) (rF : Int32) (rS : Int32) (rD : Int32) (hs : Nat → Int64) (ho : Int32) (hc : Int32) (sl : Nat → Int64) (fi : Nat → Int32) (a1 : Int32) (r : Int32) (pl' : Nat → Int64) (hs' : Nat → Int64) (ho' : Int32) (hc' : Int32) (h : F_X6_invert pl hs ho hc a1 = some (0, r, pl', hs', ho', hc')) : Met l yX6_invert wsX6_invert rm_X6_invert (va_Pc [.ref (o 0), .int a1] (px D y sz (XW o y pl te be cn ch le rE rL rP rF rS rD hs ho hc sl fi))) (Qri D y sz (XW o y pl te be cn ch le rE rL rP rF rS rD hs ho hc sl fi) (XW o y pl' te be cn ch le rE rL rP rF rS rD hs' ho' hc' sl fi) r) 0 0 (va_A (XW o y pl te be cn ch le rE rL rP rF rS rD hs ho hc sl fi) sz) := by
  refine hd_i (cc := cX6_invert) (maxL := 4) rfl rfl (Nat.le_of_ble_eq_true rfl) ?_
  intro p e s m args below meth c A Q H locs ls hx hb hml hts hown _ hA hP hD hK hS hl hE
  have hl : lv_has ls 4 [(0, .ref (o 0)), (1, .int a1)] := hl
  have q0 := hts (.fieldLink RX6 9 "SliceShares" "plates" "[J") (by decide +kernel)
  have hinRX6 : ∀ w ∈ wsX60, w ∈ wsX6_invert := by decide +kernel
  unfold F_X6_invert at h
  refine lv_aload_n hx hb dX6_invert_0 rfl (lv_at hl 0 rfl) ?_
  refine lv_iload_n hx hb dX6_invert_1 rfl (lv_at hl 1 rfl) ?_
  obtain ⟨k1, g2, h⟩ := fB1 h
  by_cases e3 : ¬ k1 = 0
  · replace h := fF e3 h
    exact fX e3 h
  replace e3 := Classical.not_not.mp e3
  subst e3
  replace h := fT rfl h
  refine cV_v (As := [.int a1]) (rest := []) (ws1 := (XW o y pl te be cn ch le rE rL rP rF rS rD hs ho hc sl fi)) ⟨hx, hb, hml, hown, hts⟩ (c_X6_requireNotZero l D o y _ pl te be cn ch le rE rL rP rF rS rD hs ho hc sl fi a1 g2) (cwV 1 hts gX6_invert_X6_requireNotZero rfl rfl rfl hd_X6_requireNotZero ⟨Nat.le_of_ble_eq_true rfl, Nat.le_of_ble_eq_true rfl⟩) hK hP hD hS hA [0, 1, 2, 3, 4, 5, 6, 7, 8, 9, 10, 11] [] [0, 1, 2, 3, 4, 5, 6, 7, 8, 9, 10, 11] rfl rfl rfl (by decide) rfl rfl rfl 0 (ci := 4) rfl rfl rfl hl.1 rfl (Nat.le_of_ble_eq_true rfl) dX6_invert_2 ⟨Nat.le_of_ble_eq_true rfl, Nat.le_of_ble_eq_true rfl⟩ (fun H locs hP hD hS => ?_)
  refine lv_aload_n hx hb dX6_invert_5 rfl (lv_at hl 0 rfl) ?_
  refine va_get (D := D) (ci := 4) (C := RX6) (T := TX6) (N := 7) hx hb hts hinRX6 hown hK hP 0 rfl rfl 0 (by decide) q0 (fun _ h9 => h9) rfl dX6_invert_6 ?_
  refine lv_iload_n hx hb dX6_invert_9 rfl (lv_at hl 1 rfl) ?_
  obtain ⟨g4, h⟩ := fG h
  refine va_lald hx hb hK hP 1 1 rfl rfl g4 dX6_invert_10 ?_
  refine lv_lstore_n (lv' := [(2, .long (pl a1.toNatClampNeg)), (0, .ref (o 0)), (1, .int a1)]) hx hb dX6_invert_11 rfl hl (by decide) rfl (fun ls hl => ?_)
  refine lv_aload_n hx hb dX6_invert_12 rfl (lv_at hl 1 rfl) ?_
  refine lv_iload_n hx hb dX6_invert_13 rfl (lv_at hl 2 rfl) ?_
  refine lv_lload_n hx hb dX6_invert_14 rfl (lv_at hl 0 rfl) ?_
  refine cT_l (As := [.long (pl a1.toNatClampNeg)]) (rest := [.int a1, .ref (o 0)]) ⟨hx, hb, hml, hown, hts⟩ (c_X3_denominator l D y _ (pl a1.toNatClampNeg)) (va_cwS 1 hts gX6_invert_X3_denominator rfl rfl rfl hd_X3_denominator ⟨Nat.le_of_ble_eq_true rfl, Nat.le_of_ble_eq_true rfl⟩) hK hP hD hS hA rfl hl.1 rfl (Nat.le_of_ble_eq_true rfl) dX6_invert_15 ⟨Nat.le_of_ble_eq_true rfl, Nat.le_of_ble_eq_true rfl⟩ (fun H locs hP hD hS => ?_)
  refine lv_lload_n hx hb dX6_invert_18 rfl (lv_at hl 0 rfl) ?_
  refine cT_l (As := [.long (pl a1.toNatClampNeg)]) (rest := [.long (F_X3_denominator (pl a1.toNatClampNeg)), .int a1, .ref (o 0)]) ⟨hx, hb, hml, hown, hts⟩ (c_X3_numerator l D y _ (pl a1.toNatClampNeg)) (va_cwS 1 hts gX6_invert_X3_numerator rfl rfl rfl hd_X3_numerator ⟨Nat.le_of_ble_eq_true rfl, Nat.le_of_ble_eq_true rfl⟩) hK hP hD hS hA rfl hl.1 rfl (Nat.le_of_ble_eq_true rfl) dX6_invert_19 ⟨Nat.le_of_ble_eq_true rfl, Nat.le_of_ble_eq_true rfl⟩ (fun H locs hP hD hS => ?_)
  obtain ⟨r5, g6, h⟩ := fB1 h
  refine cT_l (As := [.long (F_X3_denominator (pl a1.toNatClampNeg)), .long (F_X3_numerator (pl a1.toNatClampNeg))]) (rest := [.int a1, .ref (o 0)]) ⟨hx, hb, hml, hown, hts⟩ (c_X3_inLowestTerms l D y _ (F_X3_denominator (pl a1.toNatClampNeg)) (F_X3_numerator (pl a1.toNatClampNeg)) r5 g6) (va_cwS 2 hts gX6_invert_X3_inLowestTerms rfl rfl rfl hd_X3_inLowestTerms ⟨Nat.le_of_ble_eq_true rfl, Nat.le_of_ble_eq_true rfl⟩) hK hP hD hS hA rfl hl.1 rfl (Nat.le_of_ble_eq_true rfl) dX6_invert_22 ⟨Nat.le_of_ble_eq_true rfl, Nat.le_of_ble_eq_true rfl⟩ (fun H locs hP hD hS => ?_)
  obtain ⟨r7, pl8, hs9, ho10, hc11, g12, h⟩ := fB5 h
  refine cV_i (As := [.int a1, .long r5]) (rest := []) (ws1 := (XW o y pl8 te be cn ch le rE rL rP rF rS rD hs9 ho10 hc11 sl fi)) ⟨hx, hb, hml, hown, hts⟩ (c_X6_change l D o y _ pl te be cn ch le rE rL rP rF rS rD hs ho hc sl fi a1 r5 r7 pl8 hs9 ho10 hc11 g12) (cwV 2 hts gX6_invert_X6_change rfl rfl rfl hd_X6_change ⟨Nat.le_of_ble_eq_true rfl, Nat.le_of_ble_eq_true rfl⟩) hK hP hD hS hA [0, 1, 2, 3, 4, 5, 6, 7, 8, 9, 10, 11] [] [0, 1, 2, 3, 4, 5, 6, 7, 8, 9, 10, 11] rfl rfl rfl (by decide) rfl rfl rfl 0 (ci := 4) rfl rfl rfl hl.1 rfl (Nat.le_of_ble_eq_true rfl) dX6_invert_25 ⟨Nat.le_of_ble_eq_true rfl, Nat.le_of_ble_eq_true rfl⟩ (fun H locs hP hD hS => ?_)
  cases h
  exact hE _ _ _ _ dX6_invert_28 hP hD hS
abbrev rm_X6_share : Room := { frames := 4, cells := 0, slots := 0, locals := 88 }
theorem hd_X6_share : yX6_share.cls = RX6 ∧ yX6_share.cls ≠ "java/lang/invoke/MethodHandle" ∧ yX6_share.cls ≠ "java/lang/invoke/VarHandle" ∧ (parseMethodDescriptor yX6_share.desc).map (fun d => d.parameters.length) = some 2 := by decide +kernel
set_option maxHeartbeats 0 in
set_option maxRecDepth 100000 in
theorem c_X6_share (l : Launch) (D : va_G) (o : Nat → Nat) (y : Nat → ClassId) (sz : Nat) (pl : Nat → Int64) (te : Nat → Int32) (be : Nat → Int64) (cn : Int32) (ch : Nat → Int32) (le : Int32) (rE : Int32) (rL : Int32) (rP : Int32) (rF : Int32) (rS : Int32) (rD : Int32) (hs : Nat → Int64) (ho : Int32) (hc : Int32) (sl : Nat → Int64) (fi : Nat → Int32) (a1 : Int32) (a2 : Int32) (r : Int32) (pl' : Nat → Int64) (hs' : Nat → Int64) (ho' : Int32) (hc' : Int32) (h : F_X6_share pl hs ho hc a1 a2 = some (0, r, pl', hs', ho', hc')) : Met l yX6_share wsX6_share rm_X6_share (va_Pc [.ref (o 0), .int a1, .int a2] (px D y sz (XW o y pl te be cn ch le rE rL rP rF rS rD hs ho hc sl fi))) (Qri D y sz (XW o y pl te be cn ch le rE rL rP rF rS rD hs ho hc sl fi) (XW o y pl' te be cn ch le rE rL rP rF rS rD hs' ho' hc' sl fi) r) 0 0 (va_A (XW o y pl te be cn ch le rE rL rP rF rS rD hs ho hc sl fi) sz) := by
  refine hd_i (cc := cX6_share) (maxL := 5) rfl rfl (Nat.le_of_ble_eq_true rfl) ?_
  intro p e s m args below meth c A Q H locs ls hx hb hml hts hown _ hA hP hD hK hS hl hE
  have hl : lv_has ls 5 [(0, .ref (o 0)), (1, .int a1), (2, .int a2)] := hl
  have q0 := hts (.fieldLink RX6 9 "SliceShares" "plates" "[J") (by decide +kernel)
  have hinRX6 : ∀ w ∈ wsX60, w ∈ wsX6_share := by decide +kernel
  unfold F_X6_share at h
  refine lv_iload_n hx hb dX6_share_0 rfl (lv_at hl 1 rfl) ?_
  obtain ⟨k1, g2, h⟩ := fB1 h
  by_cases e3 : ¬ k1 = 0
  · replace h := fF e3 h
    exact fX e3 h
  replace e3 := Classical.not_not.mp e3
  subst e3
  replace h := fT rfl h
  refine cT_v (As := [.int a1]) (rest := []) ⟨hx, hb, hml, hown, hts⟩ (c_X6_requirePlate l D y _ a1 g2) (va_cwS 1 hts gX6_share_X6_requirePlate rfl rfl rfl hd_X6_requirePlate ⟨Nat.le_of_ble_eq_true rfl, Nat.le_of_ble_eq_true rfl⟩) hK hP hD hS hA rfl hl.1 rfl (Nat.le_of_ble_eq_true rfl) dX6_share_1 ⟨Nat.le_of_ble_eq_true rfl, Nat.le_of_ble_eq_true rfl⟩ (fun H locs hP hD hS => ?_)
  refine lv_iload_n hx hb dX6_share_4 rfl (lv_at hl 2 rfl) ?_
  refine lv_iconst (v := (1 : Int32)) hx hb dX6_share_5 (by decide) ?_
  refine lv_icmp_lt (tgt := 15) hx hb dX6_share_6 (by decide) (fun c4 => ?_) (fun c4 => ?_)
  · replace h := fT c4 h
    exact fX (show ¬ (2 : Nat) = 0 by decide) h
  · replace h := fF c4 h
    refine lv_iload_n hx hb dX6_share_9 rfl (lv_at hl 2 rfl) ?_
    refine lv_bipush (v := (100 : Int32)) hx hb dX6_share_10 (by decide) ?_
    refine lv_icmp_le (tgt := 25) hx hb dX6_share_12 (by decide) (fun c5 => ?_) (fun c5 => ?_)
    · replace h := fT c5 h
      refine lv_aload_n hx hb dX6_share_25 rfl (lv_at hl 0 rfl) ?_
      refine va_get (D := D) (ci := 4) (C := RX6) (T := TX6) (N := 7) hx hb hts hinRX6 hown hK hP 0 rfl rfl 0 (by decide) q0 (fun _ h9 => h9) rfl dX6_share_26 ?_
      refine lv_iload_n hx hb dX6_share_29 rfl (lv_at hl 1 rfl) ?_
      obtain ⟨g6, h⟩ := fG h
      refine va_lald hx hb hK hP 1 1 rfl rfl g6 dX6_share_30 ?_
      refine lv_lstore_n (lv' := [(3, .long (pl a1.toNatClampNeg)), (0, .ref (o 0)), (1, .int a1), (2, .int a2)]) hx hb dX6_share_31 rfl hl (by decide) rfl (fun ls hl => ?_)
      refine lv_aload_n hx hb dX6_share_32 rfl (lv_at hl 1 rfl) ?_
      refine lv_iload_n hx hb dX6_share_33 rfl (lv_at hl 2 rfl) ?_
      refine lv_lload_n hx hb dX6_share_34 rfl (lv_at hl 0 rfl) ?_
      refine cT_l (As := [.long (pl a1.toNatClampNeg)]) (rest := [.int a1, .ref (o 0)]) ⟨hx, hb, hml, hown, hts⟩ (c_X3_numerator l D y _ (pl a1.toNatClampNeg)) (va_cwS 1 hts gX6_share_X3_numerator rfl rfl rfl hd_X3_numerator ⟨Nat.le_of_ble_eq_true rfl, Nat.le_of_ble_eq_true rfl⟩) hK hP hD hS hA rfl hl.1 rfl (Nat.le_of_ble_eq_true rfl) dX6_share_35 ⟨Nat.le_of_ble_eq_true rfl, Nat.le_of_ble_eq_true rfl⟩ (fun H locs hP hD hS => ?_)
      refine lv_lload_n hx hb dX6_share_38 rfl (lv_at hl 0 rfl) ?_
      refine cT_l (As := [.long (pl a1.toNatClampNeg)]) (rest := [.long (F_X3_numerator (pl a1.toNatClampNeg)), .int a1, .ref (o 0)]) ⟨hx, hb, hml, hown, hts⟩ (c_X3_denominator l D y _ (pl a1.toNatClampNeg)) (va_cwS 1 hts gX6_share_X3_denominator rfl rfl rfl hd_X3_denominator ⟨Nat.le_of_ble_eq_true rfl, Nat.le_of_ble_eq_true rfl⟩) hK hP hD hS hA rfl hl.1 rfl (Nat.le_of_ble_eq_true rfl) dX6_share_39 ⟨Nat.le_of_ble_eq_true rfl, Nat.le_of_ble_eq_true rfl⟩ (fun H locs hP hD hS => ?_)
      refine lv_iload_n hx hb dX6_share_42 rfl (lv_at hl 3 rfl) ?_
      refine lv_i2l (v := a2.toInt64) hx hb dX6_share_43 rfl ?_
      refine lv_lmul hx hb dX6_share_44 ?_
      obtain ⟨r7, g8, h⟩ := fB1 h
      refine cT_l (As := [.long (F_X3_numerator (pl a1.toNatClampNeg)), .long ((F_X3_denominator (pl a1.toNatClampNeg)) * a2.toInt64)]) (rest := [.int a1, .ref (o 0)]) ⟨hx, hb, hml, hown, hts⟩ (c_X3_inLowestTerms l D y _ (F_X3_numerator (pl a1.toNatClampNeg)) ((F_X3_denominator (pl a1.toNatClampNeg)) * a2.toInt64) r7 g8) (va_cwS 2 hts gX6_share_X3_inLowestTerms rfl rfl rfl hd_X3_inLowestTerms ⟨Nat.le_of_ble_eq_true rfl, Nat.le_of_ble_eq_true rfl⟩) hK hP hD hS hA rfl hl.1 rfl (Nat.le_of_ble_eq_true rfl) dX6_share_45 ⟨Nat.le_of_ble_eq_true rfl, Nat.le_of_ble_eq_true rfl⟩ (fun H locs hP hD hS => ?_)
      obtain ⟨k9, r10, pl11, hs12, ho13, hc14, g15, h⟩ := fB6 h
      by_cases e16 : ¬ k9 = 0
      · replace h := fF e16 h
        exact fX e16 h
      replace e16 := Classical.not_not.mp e16
      subst e16
      replace h := fT rfl h
      refine cV_i (As := [.int a1, .long r7]) (rest := []) (ws1 := (XW o y pl11 te be cn ch le rE rL rP rF rS rD hs12 ho13 hc14 sl fi)) ⟨hx, hb, hml, hown, hts⟩ (c_X6_changeIfPossible l D o y _ pl te be cn ch le rE rL rP rF rS rD hs ho hc sl fi a1 r7 r10 pl11 hs12 ho13 hc14 g15) (cwV 2 hts gX6_share_X6_changeIfPossible rfl rfl rfl hd_X6_changeIfPossible ⟨Nat.le_of_ble_eq_true rfl, Nat.le_of_ble_eq_true rfl⟩) hK hP hD hS hA [0, 1, 2, 3, 4, 5, 6, 7, 8, 9, 10, 11] [] [0, 1, 2, 3, 4, 5, 6, 7, 8, 9, 10, 11] rfl rfl rfl (by decide) rfl rfl rfl 0 (ci := 4) rfl rfl rfl hl.1 rfl (Nat.le_of_ble_eq_true rfl) dX6_share_48 ⟨Nat.le_of_ble_eq_true rfl, Nat.le_of_ble_eq_true rfl⟩ (fun H locs hP hD hS => ?_)
      cases h
      exact hE _ _ _ _ dX6_share_51 hP hD hS
    · replace h := fF c5 h
      exact fX (show ¬ (2 : Nat) = 0 by decide) h
abbrev rm_X6_requireLimit : Room := { frames := 0, cells := 0, slots := 0, locals := 0 }
theorem hd_X6_requireLimit : yX6_requireLimit.cls ≠ "java/lang/invoke/MethodHandle" ∧ yX6_requireLimit.cls ≠ "java/lang/invoke/VarHandle" ∧ (parseMethodDescriptor yX6_requireLimit.desc).map (fun d => d.parameters.length) = some 1 := by decide +kernel
set_option maxHeartbeats 0 in
set_option maxRecDepth 100000 in
theorem c_X6_requireLimit (l : Launch) (D : va_G) (y : Nat → ClassId) (sz : Nat) (a1 : Int32) (h : F_X6_requireLimit a1 = some 0) : Met l yX6_requireLimit wsX6_requireLimit rm_X6_requireLimit (va_Pc [.int a1] (px D y sz [])) (Qrv D y sz [] []) 0 0 (va_A [] sz) := by
  refine hd_v (cc := cX6_requireLimit) (maxL := 1) rfl rfl (Nat.le_of_ble_eq_true rfl) ?_
  intro p e s m args below meth c A Q H locs ls hx hb hml hts hown _ hA hP hD hK hS hl hE
  have hl : lv_has ls 1 [(0, .int a1)] := hl
  unfold F_X6_requireLimit at h
  refine lv_iload_n hx hb dX6_requireLimit_0 rfl (lv_at hl 0 rfl) ?_
  refine lv_iconst (v := (1 : Int32)) hx hb dX6_requireLimit_1 (by decide) ?_
  refine lv_icmp_lt (tgt := 12) hx hb dX6_requireLimit_2 (by decide) (fun c1 => ?_) (fun c1 => ?_)
  · replace h := fT c1 h
    exact fX1 (show ¬ (2 : Nat) = 0 by decide) h
  · replace h := fF c1 h
    refine lv_iload_n hx hb dX6_requireLimit_5 rfl (lv_at hl 0 rfl) ?_
    refine lv_sipush (v := (1000 : Int32)) hx hb dX6_requireLimit_6 (by decide) ?_
    refine lv_icmp_le (tgt := 22) hx hb dX6_requireLimit_9 (by decide) (fun c2 => ?_) (fun c2 => ?_)
    · replace h := fT c2 h
      cases h
      exact hE _ _ _ _ dX6_requireLimit_22 hP hD hS
    · replace h := fF c2 h
      exact fX1 (show ¬ (2 : Nat) = 0 by decide) h
abbrev rm_X6_nearest : Room := { frames := 5, cells := 0, slots := 0, locals := 116 }
theorem hd_X6_nearest : yX6_nearest.cls = RX6 ∧ yX6_nearest.cls ≠ "java/lang/invoke/MethodHandle" ∧ yX6_nearest.cls ≠ "java/lang/invoke/VarHandle" ∧ (parseMethodDescriptor yX6_nearest.desc).map (fun d => d.parameters.length) = some 2 := by decide +kernel
set_option maxHeartbeats 0 in
set_option maxRecDepth 100000 in
theorem c_X6_nearest (l : Launch) (D : va_G) (o : Nat → Nat) (y : Nat → ClassId) (sz : Nat) (pl : Nat → Int64) (te : Nat → Int32) (be : Nat → Int64) (cn : Int32) (ch : Nat → Int32) (le : Int32) (rE : Int32) (rL : Int32) (rP : Int32) (rF : Int32) (rS : Int32) (rD : Int32) (hs : Nat → Int64) (ho : Int32) (hc : Int32) (sl : Nat → Int64) (fi : Nat → Int32) (a1 : Int32) (a2 : Int32) (r : Int64) (te' : Nat → Int32) (be' : Nat → Int64) (cn' : Int32) (h : F_X6_nearest pl te be cn a1 a2 = some (0, r, te', be', cn')) : Met l yX6_nearest wsX6_nearest rm_X6_nearest (va_Pc [.ref (o 0), .int a1, .int a2] (px D y sz (XW o y pl te be cn ch le rE rL rP rF rS rD hs ho hc sl fi))) (Qrl D y sz (XW o y pl te be cn ch le rE rL rP rF rS rD hs ho hc sl fi) (XW o y pl te' be' cn' ch le rE rL rP rF rS rD hs ho hc sl fi) r) 0 0 (va_A (XW o y pl te be cn ch le rE rL rP rF rS rD hs ho hc sl fi) sz) := by
  refine hd_l (cc := cX6_nearest) (maxL := 3) rfl rfl (Nat.le_of_ble_eq_true rfl) ?_
  intro p e s m args below meth c A Q H locs ls hx hb hml hts hown _ hA hP hD hK hS hl hE
  have hl : lv_has ls 3 [(0, .ref (o 0)), (1, .int a1), (2, .int a2)] := hl
  have q0 := hts (.fieldLink RX6 18 "SliceShares" "continued" "LSliceShares$ContinuedFraction;") (by decide +kernel)
  have q1 := hts (.fieldLink RX6 9 "SliceShares" "plates" "[J") (by decide +kernel)
  have hinRX6 : ∀ w ∈ wsX60, w ∈ wsX6_nearest := by decide +kernel
  unfold F_X6_nearest at h
  refine lv_iload_n hx hb dX6_nearest_0 rfl (lv_at hl 1 rfl) ?_
  obtain ⟨k1, g2, h⟩ := fB1 h
  by_cases e3 : ¬ k1 = 0
  · replace h := fF e3 h
    exact fX e3 h
  replace e3 := Classical.not_not.mp e3
  subst e3
  replace h := fT rfl h
  refine cT_v (As := [.int a1]) (rest := []) ⟨hx, hb, hml, hown, hts⟩ (c_X6_requirePlate l D y _ a1 g2) (va_cwS 1 hts gX6_nearest_X6_requirePlate rfl rfl rfl hd_X6_requirePlate ⟨Nat.le_of_ble_eq_true rfl, Nat.le_of_ble_eq_true rfl⟩) hK hP hD hS hA rfl hl.1 rfl (Nat.le_of_ble_eq_true rfl) dX6_nearest_1 ⟨Nat.le_of_ble_eq_true rfl, Nat.le_of_ble_eq_true rfl⟩ (fun H locs hP hD hS => ?_)
  refine lv_iload_n hx hb dX6_nearest_4 rfl (lv_at hl 2 rfl) ?_
  obtain ⟨k4, g5, h⟩ := fB1 h
  by_cases e6 : ¬ k4 = 0
  · replace h := fF e6 h
    exact fX e6 h
  replace e6 := Classical.not_not.mp e6
  subst e6
  replace h := fT rfl h
  refine cT_v (As := [.int a2]) (rest := []) ⟨hx, hb, hml, hown, hts⟩ (c_X6_requireLimit l D y _ a2 g5) (va_cwS 1 hts gX6_nearest_X6_requireLimit rfl rfl rfl hd_X6_requireLimit ⟨Nat.le_of_ble_eq_true rfl, Nat.le_of_ble_eq_true rfl⟩) hK hP hD hS hA rfl hl.1 rfl (Nat.le_of_ble_eq_true rfl) dX6_nearest_5 ⟨Nat.le_of_ble_eq_true rfl, Nat.le_of_ble_eq_true rfl⟩ (fun H locs hP hD hS => ?_)
  refine lv_aload_n hx hb dX6_nearest_8 rfl (lv_at hl 0 rfl) ?_
  refine va_get (D := D) (ci := 4) (C := RX6) (T := TX6) (N := 7) hx hb hts hinRX6 hown hK hP 0 rfl rfl 1 (by decide) q0 (fun _ h9 => h9) rfl dX6_nearest_9 ?_
  refine lv_aload_n hx hb dX6_nearest_12 rfl (lv_at hl 0 rfl) ?_
  refine va_get (D := D) (ci := 4) (C := RX6) (T := TX6) (N := 7) hx hb hts hinRX6 hown hK hP 0 rfl rfl 0 (by decide) q1 (fun _ h9 => h9) rfl dX6_nearest_13 ?_
  refine lv_iload_n hx hb dX6_nearest_16 rfl (lv_at hl 1 rfl) ?_
  obtain ⟨g7, h⟩ := fG h
  refine va_lald hx hb hK hP 1 1 rfl rfl g7 dX6_nearest_17 ?_
  obtain ⟨te8, be9, cn10, g11, h⟩ := fB3 h
  refine cV_v (As := [.long (pl a1.toNatClampNeg)]) (rest := []) (ws1 := (XW o y pl te8 be9 cn10 ch le rE rL rP rF rS rD hs ho hc sl fi)) ⟨hx, hb, hml, hown, hts⟩ (c_X2_expand l D o y _ te be cn (pl a1.toNatClampNeg) te8 be9 cn10 g11) (cwV 1 hts gX6_nearest_X2_expand rfl rfl rfl hd_X2_expand ⟨Nat.le_of_ble_eq_true rfl, Nat.le_of_ble_eq_true rfl⟩) hK hP hD hS hA [2, 3, 4] [0, 1, 5, 6, 7, 8, 9, 10, 11] [0, 1, 9, 10, 11, 2, 3, 4, 5, 6, 7, 8] rfl rfl rfl (by decide) rfl rfl rfl 0 (ci := 2) rfl rfl rfl hl.1 rfl (Nat.le_of_ble_eq_true rfl) dX6_nearest_18 ⟨Nat.le_of_ble_eq_true rfl, Nat.le_of_ble_eq_true rfl⟩ (fun H locs hP hD hS => ?_)
  refine lv_aload_n hx hb dX6_nearest_21 rfl (lv_at hl 0 rfl) ?_
  refine va_get (D := D) (ci := 4) (C := RX6) (T := TX6) (N := 7) hx hb hts hinRX6 hown hK hP 0 rfl rfl 1 (by decide) q0 (fun _ h9 => h9) rfl dX6_nearest_22 ?_
  refine lv_iload_n hx hb dX6_nearest_25 rfl (lv_at hl 2 rfl) ?_
  obtain ⟨r12, g13, h⟩ := fB1 h
  refine cV_l (As := [.int a2]) (rest := []) (ws1 := (XW o y pl te8 be9 cn10 ch le rE rL rP rF rS rD hs ho hc sl fi)) ⟨hx, hb, hml, hown, hts⟩ (c_X2_nearest l D o y _ te8 be9 cn10 a2 r12 g13) (cwV 1 hts gX6_nearest_X2_nearest rfl rfl rfl hd_X2_nearest ⟨Nat.le_of_ble_eq_true rfl, Nat.le_of_ble_eq_true rfl⟩) hK hP hD hS hA [2, 3, 4] [0, 1, 5, 6, 7, 8, 9, 10, 11] [0, 1, 9, 10, 11, 2, 3, 4, 5, 6, 7, 8] rfl rfl rfl (by decide) rfl rfl rfl 0 (ci := 2) rfl rfl rfl hl.1 rfl (Nat.le_of_ble_eq_true rfl) dX6_nearest_26 ⟨Nat.le_of_ble_eq_true rfl, Nat.le_of_ble_eq_true rfl⟩ (fun H locs hP hD hS => ?_)
  cases h
  exact hE _ _ _ _ dX6_nearest_29 hP hD hS
abbrev rm_X6_roundTo : Room := { frames := 6, cells := 0, slots := 0, locals := 138 }
theorem hd_X6_roundTo : yX6_roundTo.cls = RX6 ∧ yX6_roundTo.cls ≠ "java/lang/invoke/MethodHandle" ∧ yX6_roundTo.cls ≠ "java/lang/invoke/VarHandle" ∧ (parseMethodDescriptor yX6_roundTo.desc).map (fun d => d.parameters.length) = some 2 := by decide +kernel
set_option maxHeartbeats 0 in
set_option maxRecDepth 100000 in
theorem c_X6_roundTo (l : Launch) (D : va_G) (o : Nat → Nat) (y : Nat → ClassId) (sz : Nat) (pl : Nat → Int64) (te : Nat → Int32) (be : Nat → Int64) (cn : Int32) (ch : Nat → Int32) (le : Int32) (rE : Int32) (rL : Int32) (rP : Int32) (rF : Int32) (rS : Int32) (rD : Int32) (hs : Nat → Int64) (ho : Int32) (hc : Int32) (sl : Nat → Int64) (fi : Nat → Int32) (a1 : Int32) (a2 : Int32) (r : Int32) (pl' : Nat → Int64) (te' : Nat → Int32) (be' : Nat → Int64) (cn' : Int32) (hs' : Nat → Int64) (ho' : Int32) (hc' : Int32) (h : F_X6_roundTo pl te be cn hs ho hc a1 a2 = some (0, r, pl', te', be', cn', hs', ho', hc')) : Met l yX6_roundTo wsX6_roundTo rm_X6_roundTo (va_Pc [.ref (o 0), .int a1, .int a2] (px D y sz (XW o y pl te be cn ch le rE rL rP rF rS rD hs ho hc sl fi))) (Qri D y sz (XW o y pl te be cn ch le rE rL rP rF rS rD hs ho hc sl fi) (XW o y pl' te' be' cn' ch le rE rL rP rF rS rD hs' ho' hc' sl fi) r) 0 0 (va_A (XW o y pl te be cn ch le rE rL rP rF rS rD hs ho hc sl fi) sz) := by
  refine hd_i (cc := cX6_roundTo) (maxL := 3) rfl rfl (Nat.le_of_ble_eq_true rfl) ?_
  intro p e s m args below meth c A Q H locs ls hx hb hml hts hown _ hA hP hD hK hS hl hE
  have hl : lv_has ls 3 [(0, .ref (o 0)), (1, .int a1), (2, .int a2)] := hl
  unfold F_X6_roundTo at h
  refine lv_aload_n hx hb dX6_roundTo_0 rfl (lv_at hl 0 rfl) ?_
  refine lv_iload_n hx hb dX6_roundTo_1 rfl (lv_at hl 1 rfl) ?_
  refine lv_aload_n hx hb dX6_roundTo_2 rfl (lv_at hl 0 rfl) ?_
  refine lv_iload_n hx hb dX6_roundTo_3 rfl (lv_at hl 1 rfl) ?_
  refine lv_iload_n hx hb dX6_roundTo_4 rfl (lv_at hl 2 rfl) ?_
  obtain ⟨k1, r2, te3, be4, cn5, g6, h⟩ := fB5 h
  by_cases e7 : ¬ k1 = 0
  · replace h := fF e7 h
    exact fX e7 h
  replace e7 := Classical.not_not.mp e7
  subst e7
  replace h := fT rfl h
  refine cV_l (As := [.int a1, .int a2]) (rest := [.int a1, .ref (o 0)]) (ws1 := (XW o y pl te3 be4 cn5 ch le rE rL rP rF rS rD hs ho hc sl fi)) ⟨hx, hb, hml, hown, hts⟩ (c_X6_nearest l D o y _ pl te be cn ch le rE rL rP rF rS rD hs ho hc sl fi a1 a2 r2 te3 be4 cn5 g6) (cwV 2 hts gX6_roundTo_X6_nearest rfl rfl rfl hd_X6_nearest ⟨Nat.le_of_ble_eq_true rfl, Nat.le_of_ble_eq_true rfl⟩) hK hP hD hS hA [0, 1, 2, 3, 4, 5, 6, 7, 8, 9, 10, 11] [] [0, 1, 2, 3, 4, 5, 6, 7, 8, 9, 10, 11] rfl rfl rfl (by decide) rfl rfl rfl 0 (ci := 4) rfl rfl rfl hl.1 rfl (Nat.le_of_ble_eq_true rfl) dX6_roundTo_5 ⟨Nat.le_of_ble_eq_true rfl, Nat.le_of_ble_eq_true rfl⟩ (fun H locs hP hD hS => ?_)
  obtain ⟨r8, pl9, hs10, ho11, hc12, g13, h⟩ := fB5 h
  refine cV_i (As := [.int a1, .long r2]) (rest := []) (ws1 := (XW o y pl9 te3 be4 cn5 ch le rE rL rP rF rS rD hs10 ho11 hc12 sl fi)) ⟨hx, hb, hml, hown, hts⟩ (c_X6_change l D o y _ pl te3 be4 cn5 ch le rE rL rP rF rS rD hs ho hc sl fi a1 r2 r8 pl9 hs10 ho11 hc12 g13) (cwV 2 hts gX6_roundTo_X6_change rfl rfl rfl hd_X6_change ⟨Nat.le_of_ble_eq_true rfl, Nat.le_of_ble_eq_true rfl⟩) hK hP hD hS hA [0, 1, 2, 3, 4, 5, 6, 7, 8, 9, 10, 11] [] [0, 1, 2, 3, 4, 5, 6, 7, 8, 9, 10, 11] rfl rfl rfl (by decide) rfl rfl rfl 0 (ci := 4) rfl rfl rfl hl.1 rfl (Nat.le_of_ble_eq_true rfl) dX6_roundTo_8 ⟨Nat.le_of_ble_eq_true rfl, Nat.le_of_ble_eq_true rfl⟩ (fun H locs hP hD hS => ?_)
  cases h
  exact hE _ _ _ _ dX6_roundTo_11 hP hD hS
abbrev rm_X6_numeratorOf : Room := { frames := 2, cells := 0, slots := 0, locals := 40 }
theorem hd_X6_numeratorOf : yX6_numeratorOf.cls = RX6 ∧ yX6_numeratorOf.cls ≠ "java/lang/invoke/MethodHandle" ∧ yX6_numeratorOf.cls ≠ "java/lang/invoke/VarHandle" ∧ (parseMethodDescriptor yX6_numeratorOf.desc).map (fun d => d.parameters.length) = some 1 := by decide +kernel
set_option maxHeartbeats 0 in
set_option maxRecDepth 100000 in
theorem c_X6_numeratorOf (l : Launch) (D : va_G) (o : Nat → Nat) (y : Nat → ClassId) (sz : Nat) (pl : Nat → Int64) (te : Nat → Int32) (be : Nat → Int64) (cn : Int32) (ch : Nat → Int32) (le : Int32) (rE : Int32) (rL : Int32) (rP : Int32) (rF : Int32) (rS : Int32) (rD : Int32) (hs : Nat → Int64) (ho : Int32) (hc : Int32) (sl : Nat → Int64) (fi : Nat → Int32) (a1 : Int32) (r : Int32) (h : F_X6_numeratorOf pl a1 = some (0, r)) : Met l yX6_numeratorOf wsX6_numeratorOf rm_X6_numeratorOf (va_Pc [.ref (o 0), .int a1] (px D y sz (XW o y pl te be cn ch le rE rL rP rF rS rD hs ho hc sl fi))) (Qri D y sz (XW o y pl te be cn ch le rE rL rP rF rS rD hs ho hc sl fi) (XW o y pl te be cn ch le rE rL rP rF rS rD hs ho hc sl fi) r) 0 0 (va_A (XW o y pl te be cn ch le rE rL rP rF rS rD hs ho hc sl fi) sz) := by
  refine hd_i (cc := cX6_numeratorOf) (maxL := 2) rfl rfl (Nat.le_of_ble_eq_true rfl) ?_
  intro p e s m args below meth c A Q H locs ls hx hb hml hts hown _ hA hP hD hK hS hl hE
  have hl : lv_has ls 2 [(0, .ref (o 0)), (1, .int a1)] := hl
  have q0 := hts (.fieldLink RX6 9 "SliceShares" "plates" "[J") (by decide +kernel)
  have hinRX6 : ∀ w ∈ wsX60, w ∈ wsX6_numeratorOf := by decide +kernel
  unfold F_X6_numeratorOf at h
  refine lv_iload_n hx hb dX6_numeratorOf_0 rfl (lv_at hl 1 rfl) ?_
  obtain ⟨k1, g2, h⟩ := fB1 h
  by_cases e3 : ¬ k1 = 0
  · replace h := fF e3 h
    exact fX e3 h
  replace e3 := Classical.not_not.mp e3
  subst e3
  replace h := fT rfl h
  refine cT_v (As := [.int a1]) (rest := []) ⟨hx, hb, hml, hown, hts⟩ (c_X6_requirePlate l D y _ a1 g2) (va_cwS 1 hts gX6_numeratorOf_X6_requirePlate rfl rfl rfl hd_X6_requirePlate ⟨Nat.le_of_ble_eq_true rfl, Nat.le_of_ble_eq_true rfl⟩) hK hP hD hS hA rfl hl.1 rfl (Nat.le_of_ble_eq_true rfl) dX6_numeratorOf_1 ⟨Nat.le_of_ble_eq_true rfl, Nat.le_of_ble_eq_true rfl⟩ (fun H locs hP hD hS => ?_)
  refine lv_aload_n hx hb dX6_numeratorOf_4 rfl (lv_at hl 0 rfl) ?_
  refine va_get (D := D) (ci := 4) (C := RX6) (T := TX6) (N := 7) hx hb hts hinRX6 hown hK hP 0 rfl rfl 0 (by decide) q0 (fun _ h9 => h9) rfl dX6_numeratorOf_5 ?_
  refine lv_iload_n hx hb dX6_numeratorOf_8 rfl (lv_at hl 1 rfl) ?_
  obtain ⟨g4, h⟩ := fG h
  refine va_lald hx hb hK hP 1 1 rfl rfl g4 dX6_numeratorOf_9 ?_
  refine cT_l (As := [.long (pl a1.toNatClampNeg)]) (rest := []) ⟨hx, hb, hml, hown, hts⟩ (c_X3_numerator l D y _ (pl a1.toNatClampNeg)) (va_cwS 1 hts gX6_numeratorOf_X3_numerator rfl rfl rfl hd_X3_numerator ⟨Nat.le_of_ble_eq_true rfl, Nat.le_of_ble_eq_true rfl⟩) hK hP hD hS hA rfl hl.1 rfl (Nat.le_of_ble_eq_true rfl) dX6_numeratorOf_10 ⟨Nat.le_of_ble_eq_true rfl, Nat.le_of_ble_eq_true rfl⟩ (fun H locs hP hD hS => ?_)
  refine lv_l2i (v := (F_X3_numerator (pl a1.toNatClampNeg)).toInt32) hx hb dX6_numeratorOf_13 rfl ?_
  cases h
  exact hE _ _ _ _ dX6_numeratorOf_14 hP hD hS
abbrev rm_X6_denominatorOf : Room := { frames := 2, cells := 0, slots := 0, locals := 40 }
theorem hd_X6_denominatorOf : yX6_denominatorOf.cls = RX6 ∧ yX6_denominatorOf.cls ≠ "java/lang/invoke/MethodHandle" ∧ yX6_denominatorOf.cls ≠ "java/lang/invoke/VarHandle" ∧ (parseMethodDescriptor yX6_denominatorOf.desc).map (fun d => d.parameters.length) = some 1 := by decide +kernel
set_option maxHeartbeats 0 in
set_option maxRecDepth 100000 in
theorem c_X6_denominatorOf (l : Launch) (D : va_G) (o : Nat → Nat) (y : Nat → ClassId) (sz : Nat) (pl : Nat → Int64) (te : Nat → Int32) (be : Nat → Int64) (cn : Int32) (ch : Nat → Int32) (le : Int32) (rE : Int32) (rL : Int32) (rP : Int32) (rF : Int32) (rS : Int32) (rD : Int32) (hs : Nat → Int64) (ho : Int32) (hc : Int32) (sl : Nat → Int64) (fi : Nat → Int32) (a1 : Int32) (r : Int32) (h : F_X6_denominatorOf pl a1 = some (0, r)) : Met l yX6_denominatorOf wsX6_denominatorOf rm_X6_denominatorOf (va_Pc [.ref (o 0), .int a1] (px D y sz (XW o y pl te be cn ch le rE rL rP rF rS rD hs ho hc sl fi))) (Qri D y sz (XW o y pl te be cn ch le rE rL rP rF rS rD hs ho hc sl fi) (XW o y pl te be cn ch le rE rL rP rF rS rD hs ho hc sl fi) r) 0 0 (va_A (XW o y pl te be cn ch le rE rL rP rF rS rD hs ho hc sl fi) sz) := by
  refine hd_i (cc := cX6_denominatorOf) (maxL := 2) rfl rfl (Nat.le_of_ble_eq_true rfl) ?_
  intro p e s m args below meth c A Q H locs ls hx hb hml hts hown _ hA hP hD hK hS hl hE
  have hl : lv_has ls 2 [(0, .ref (o 0)), (1, .int a1)] := hl
  have q0 := hts (.fieldLink RX6 9 "SliceShares" "plates" "[J") (by decide +kernel)
  have hinRX6 : ∀ w ∈ wsX60, w ∈ wsX6_denominatorOf := by decide +kernel
  unfold F_X6_denominatorOf at h
  refine lv_iload_n hx hb dX6_denominatorOf_0 rfl (lv_at hl 1 rfl) ?_
  obtain ⟨k1, g2, h⟩ := fB1 h
  by_cases e3 : ¬ k1 = 0
  · replace h := fF e3 h
    exact fX e3 h
  replace e3 := Classical.not_not.mp e3
  subst e3
  replace h := fT rfl h
  refine cT_v (As := [.int a1]) (rest := []) ⟨hx, hb, hml, hown, hts⟩ (c_X6_requirePlate l D y _ a1 g2) (va_cwS 1 hts gX6_denominatorOf_X6_requirePlate rfl rfl rfl hd_X6_requirePlate ⟨Nat.le_of_ble_eq_true rfl, Nat.le_of_ble_eq_true rfl⟩) hK hP hD hS hA rfl hl.1 rfl (Nat.le_of_ble_eq_true rfl) dX6_denominatorOf_1 ⟨Nat.le_of_ble_eq_true rfl, Nat.le_of_ble_eq_true rfl⟩ (fun H locs hP hD hS => ?_)
  refine lv_aload_n hx hb dX6_denominatorOf_4 rfl (lv_at hl 0 rfl) ?_
  refine va_get (D := D) (ci := 4) (C := RX6) (T := TX6) (N := 7) hx hb hts hinRX6 hown hK hP 0 rfl rfl 0 (by decide) q0 (fun _ h9 => h9) rfl dX6_denominatorOf_5 ?_
  refine lv_iload_n hx hb dX6_denominatorOf_8 rfl (lv_at hl 1 rfl) ?_
  obtain ⟨g4, h⟩ := fG h
  refine va_lald hx hb hK hP 1 1 rfl rfl g4 dX6_denominatorOf_9 ?_
  refine cT_l (As := [.long (pl a1.toNatClampNeg)]) (rest := []) ⟨hx, hb, hml, hown, hts⟩ (c_X3_denominator l D y _ (pl a1.toNatClampNeg)) (va_cwS 1 hts gX6_denominatorOf_X3_denominator rfl rfl rfl hd_X3_denominator ⟨Nat.le_of_ble_eq_true rfl, Nat.le_of_ble_eq_true rfl⟩) hK hP hD hS hA rfl hl.1 rfl (Nat.le_of_ble_eq_true rfl) dX6_denominatorOf_10 ⟨Nat.le_of_ble_eq_true rfl, Nat.le_of_ble_eq_true rfl⟩ (fun H locs hP hD hS => ?_)
  refine lv_l2i (v := (F_X3_denominator (pl a1.toNatClampNeg)).toInt32) hx hb dX6_denominatorOf_13 rfl ?_
  cases h
  exact hE _ _ _ _ dX6_denominatorOf_14 hP hD hS
abbrev rm_X6_compare : Room := { frames := 3, cells := 0, slots := 0, locals := 63 }
theorem hd_X6_compare : yX6_compare.cls = RX6 ∧ yX6_compare.cls ≠ "java/lang/invoke/MethodHandle" ∧ yX6_compare.cls ≠ "java/lang/invoke/VarHandle" ∧ (parseMethodDescriptor yX6_compare.desc).map (fun d => d.parameters.length) = some 2 := by decide +kernel
set_option maxHeartbeats 0 in
set_option maxRecDepth 100000 in
theorem c_X6_compare (l : Launch) (D : va_G) (o : Nat → Nat) (y : Nat → ClassId) (sz : Nat) (pl : Nat → Int64) (te : Nat → Int32) (be : Nat → Int64) (cn : Int32) (ch : Nat → Int32) (le : Int32) (rE : Int32) (rL : Int32) (rP : Int32) (rF : Int32) (rS : Int32) (rD : Int32) (hs : Nat → Int64) (ho : Int32) (hc : Int32) (sl : Nat → Int64) (fi : Nat → Int32) (a1 : Int32) (a2 : Int32) (r : Int32) (h : F_X6_compare pl a1 a2 = some (0, r)) : Met l yX6_compare wsX6_compare rm_X6_compare (va_Pc [.ref (o 0), .int a1, .int a2] (px D y sz (XW o y pl te be cn ch le rE rL rP rF rS rD hs ho hc sl fi))) (Qri D y sz (XW o y pl te be cn ch le rE rL rP rF rS rD hs ho hc sl fi) (XW o y pl te be cn ch le rE rL rP rF rS rD hs ho hc sl fi) r) 0 0 (va_A (XW o y pl te be cn ch le rE rL rP rF rS rD hs ho hc sl fi) sz) := by
  refine hd_i (cc := cX6_compare) (maxL := 3) rfl rfl (Nat.le_of_ble_eq_true rfl) ?_
  intro p e s m args below meth c A Q H locs ls hx hb hml hts hown _ hA hP hD hK hS hl hE
  have hl : lv_has ls 3 [(0, .ref (o 0)), (1, .int a1), (2, .int a2)] := hl
  have q0 := hts (.fieldLink RX6 9 "SliceShares" "plates" "[J") (by decide +kernel)
  have hinRX6 : ∀ w ∈ wsX60, w ∈ wsX6_compare := by decide +kernel
  unfold F_X6_compare at h
  refine lv_iload_n hx hb dX6_compare_0 rfl (lv_at hl 1 rfl) ?_
  obtain ⟨k1, g2, h⟩ := fB1 h
  by_cases e3 : ¬ k1 = 0
  · replace h := fF e3 h
    exact fX e3 h
  replace e3 := Classical.not_not.mp e3
  subst e3
  replace h := fT rfl h
  refine cT_v (As := [.int a1]) (rest := []) ⟨hx, hb, hml, hown, hts⟩ (c_X6_requirePlate l D y _ a1 g2) (va_cwS 1 hts gX6_compare_X6_requirePlate rfl rfl rfl hd_X6_requirePlate ⟨Nat.le_of_ble_eq_true rfl, Nat.le_of_ble_eq_true rfl⟩) hK hP hD hS hA rfl hl.1 rfl (Nat.le_of_ble_eq_true rfl) dX6_compare_1 ⟨Nat.le_of_ble_eq_true rfl, Nat.le_of_ble_eq_true rfl⟩ (fun H locs hP hD hS => ?_)
  refine lv_iload_n hx hb dX6_compare_4 rfl (lv_at hl 2 rfl) ?_
  obtain ⟨k4, g5, h⟩ := fB1 h
  by_cases e6 : ¬ k4 = 0
  · replace h := fF e6 h
    exact fX e6 h
  replace e6 := Classical.not_not.mp e6
  subst e6
  replace h := fT rfl h
  refine cT_v (As := [.int a2]) (rest := []) ⟨hx, hb, hml, hown, hts⟩ (c_X6_requirePlate l D y _ a2 g5) (va_cwS 1 hts gX6_compare_X6_requirePlate rfl rfl rfl hd_X6_requirePlate ⟨Nat.le_of_ble_eq_true rfl, Nat.le_of_ble_eq_true rfl⟩) hK hP hD hS hA rfl hl.1 rfl (Nat.le_of_ble_eq_true rfl) dX6_compare_5 ⟨Nat.le_of_ble_eq_true rfl, Nat.le_of_ble_eq_true rfl⟩ (fun H locs hP hD hS => ?_)
  refine lv_aload_n hx hb dX6_compare_8 rfl (lv_at hl 0 rfl) ?_
  refine va_get (D := D) (ci := 4) (C := RX6) (T := TX6) (N := 7) hx hb hts hinRX6 hown hK hP 0 rfl rfl 0 (by decide) q0 (fun _ h9 => h9) rfl dX6_compare_9 ?_
  refine lv_iload_n hx hb dX6_compare_12 rfl (lv_at hl 1 rfl) ?_
  obtain ⟨g7, h⟩ := fG h
  refine va_lald hx hb hK hP 1 1 rfl rfl g7 dX6_compare_13 ?_
  refine lv_aload_n hx hb dX6_compare_14 rfl (lv_at hl 0 rfl) ?_
  refine va_get (D := D) (ci := 4) (C := RX6) (T := TX6) (N := 7) hx hb hts hinRX6 hown hK hP 0 rfl rfl 0 (by decide) q0 (fun _ h9 => h9) rfl dX6_compare_15 ?_
  refine lv_iload_n hx hb dX6_compare_18 rfl (lv_at hl 2 rfl) ?_
  obtain ⟨g8, h⟩ := fG h
  refine va_lald hx hb hK hP 1 1 rfl rfl g8 dX6_compare_19 ?_
  refine cT_i (As := [.long (pl a1.toNatClampNeg), .long (pl a2.toNatClampNeg)]) (rest := []) ⟨hx, hb, hml, hown, hts⟩ (c_X3_order l D y _ (pl a1.toNatClampNeg) (pl a2.toNatClampNeg)) (va_cwS 2 hts gX6_compare_X3_order rfl rfl rfl hd_X3_order ⟨Nat.le_of_ble_eq_true rfl, Nat.le_of_ble_eq_true rfl⟩) hK hP hD hS hA rfl hl.1 rfl (Nat.le_of_ble_eq_true rfl) dX6_compare_20 ⟨Nat.le_of_ble_eq_true rfl, Nat.le_of_ble_eq_true rfl⟩ (fun H locs hP hD hS => ?_)
  cases h
  exact hE _ _ _ _ dX6_compare_23 hP hD hS
