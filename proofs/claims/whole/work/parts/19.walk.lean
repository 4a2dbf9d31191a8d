abbrev rm_X7_can : Room := { frames := 3, cells := 0, slots := 0, locals := 78 }
theorem hd_X7_can : yX7_can.cls = RX7 ∧ yX7_can.cls ≠ "java/lang/invoke/MethodHandle" ∧ yX7_can.cls ≠ "java/lang/invoke/VarHandle" ∧ (parseMethodDescriptor yX7_can.desc).map (fun d => d.parameters.length) = some 1 := by decide +kernel
set_option maxHeartbeats 0 in
set_option maxRecDepth 100000 in
theorem c_X7_can (l : Launch) (D : va_G) (w : Nat → Nat) (y : Nat → ClassId) (sz : Nat) (th : Int32) (ms : Nat → Int32) (mst : Nat → Int32) (smn : Int32) (msl : Nat → Int32) (mhs : Nat → Int32) (mtx : Nat → Int32) (mle : Int32) (mat : Int32) (mwl : Int32) (mrd : Nat → Int32) (mrm : Int32) (mtp : Int64) (mbt : Int64) (mtm : Nat → Int32) (mtn : Int32) (mnt : Int32) (mnb : Int32) (mun : Nat → Int32) (mum : Int32) (mau : Int32) (a1 : Int32) (r : Int32) (mtp' : Int64) (mbt' : Int64) (h : F_X7_can ms mrd mtp mbt a1 = some (r, mtp', mbt')) : Met l yX7_can wsX7_can rm_X7_can (va_Pc [.ref (w 0), .int a1] (px D y sz (MW w y th ms mst smn msl mhs mtx mle mat mwl mrd mrm mtp mbt mtm mtn mnt mnb mun mum mau))) (Qri D y sz (MW w y th ms mst smn msl mhs mtx mle mat mwl mrd mrm mtp mbt mtm mtn mnt mnb mun mum mau) (MW w y th ms mst smn msl mhs mtx mle mat mwl mrd mrm mtp' mbt' mtm mtn mnt mnb mun mum mau) r) 0 0 (va_A (MW w y th ms mst smn msl mhs mtx mle mat mwl mrd mrm mtp mbt mtm mtn mnt mnb mun mum mau) sz) := by
  refine hd_z (cc := cX7_can) (maxL := 4) (rt := .boolean) rfl rfl (Nat.le_of_ble_eq_true rfl) ?_
  intro p e s m args below meth c A Q H locs ls hx hb hml hts hown _ hA hP hD hK hS hl hE
  have hl : lv_has ls 4 [(0, .ref (w 0)), (1, .int a1)] := hl
  have q0 := hts (.fieldLink RX7 26 "SliceSharesModel" "read" "[I") (by decide +kernel)
  have hinRX7 : ∀ w ∈ wsX70, w ∈ wsX7_can := by decide +kernel
  unfold F_X7_can at h
  refine lv_aload_n hx hb dX7_can_0 rfl (lv_at hl 0 rfl) ?_
  refine va_get (D := D) (ci := 5) (C := RX7) (T := TX7) (N := 21) hx hb hts hinRX7 hown hK hP 0 rfl rfl 10 (by decide) q0 (fun _ h9 => h9) rfl dX7_can_1 ?_
  refine lv_iload_n hx hb dX7_can_4 rfl (lv_at hl 1 rfl) ?_
  refine lv_iconst (v := (1 : Int32)) hx hb dX7_can_5 (by decide) ?_
  refine lv_iadd hx hb dX7_can_6 ?_
  obtain ⟨g1, h⟩ := fG h
  refine va_iald hx hb hK hP 6 0 rfl rfl g1 dX7_can_7 ?_
  refine lv_istore_n (lv' := [(2, .int (mrd (a1 + (1 : Int32)).toNatClampNeg)), (0, .ref (w 0)), (1, .int a1)]) hx hb dX7_can_8 rfl hl (by decide) rfl (fun ls hl => ?_)
  refine lv_aload_n hx hb dX7_can_9 rfl (lv_at hl 1 rfl) ?_
  refine va_get (D := D) (ci := 5) (C := RX7) (T := TX7) (N := 21) hx hb hts hinRX7 hown hK hP 0 rfl rfl 10 (by decide) q0 (fun _ h9 => h9) rfl dX7_can_10 ?_
  refine lv_iload_n hx hb dX7_can_13 rfl (lv_at hl 2 rfl) ?_
  refine lv_iconst (v := (2 : Int32)) hx hb dX7_can_14 (by decide) ?_
  refine lv_iadd hx hb dX7_can_15 ?_
  obtain ⟨g2, h⟩ := fG h
  refine va_iald hx hb hK hP 6 0 rfl rfl g2 dX7_can_16 ?_
  refine lv_istore_n (lv' := [(3, .int (mrd (a1 + (2 : Int32)).toNatClampNeg)), (2, .int (mrd (a1 + (1 : Int32)).toNatClampNeg)), (0, .ref (w 0)), (1, .int a1)]) hx hb dX7_can_17 rfl hl (by decide) rfl (fun ls hl => ?_)
  refine lv_aload_n hx hb dX7_can_18 rfl (lv_at hl 2 rfl) ?_
  refine va_get (D := D) (ci := 5) (C := RX7) (T := TX7) (N := 21) hx hb hts hinRX7 hown hK hP 0 rfl rfl 10 (by decide) q0 (fun _ h9 => h9) rfl dX7_can_19 ?_
  refine lv_iload_n hx hb dX7_can_22 rfl (lv_at hl 3 rfl) ?_
  obtain ⟨g3, h⟩ := fG h
  refine va_iald hx hb hK hP 6 0 rfl rfl g3 dX7_can_23 ?_
  by_cases c4 : (mrd a1.toNatClampNeg) = (42 : Int32)
  · replace h := fT c4 h
    refine lv_lookup (off := 146) (tgt := 170) hx hb dX7_can_24 (by decide) (by rw [c4]; decide) (by decide) ?_
    refine lv_iload_n hx hb dX7_can_170 rfl (lv_at hl 1 rfl) ?_
    refine lv_iload_n hx hb dX7_can_171 rfl (lv_at hl 0 rfl) ?_
    refine cT_i (As := [.int (mrd (a1 + (1 : Int32)).toNatClampNeg), .int (mrd (a1 + (2 : Int32)).toNatClampNeg)]) (rest := []) ⟨hx, hb, hml, hown, hts⟩ (c_X7_arePlates l D y _ (mrd (a1 + (1 : Int32)).toNatClampNeg) (mrd (a1 + (2 : Int32)).toNatClampNeg)) (va_cwS 2 hts gX7_can_X7_arePlates rfl rfl rfl hd_X7_arePlates ⟨Nat.le_of_ble_eq_true rfl, Nat.le_of_ble_eq_true rfl⟩) hK hP hD hS hA rfl hl.1 rfl (Nat.le_of_ble_eq_true rfl) dX7_can_172 ⟨Nat.le_of_ble_eq_true rfl, Nat.le_of_ble_eq_true rfl⟩ (fun H locs hP hD hS => ?_)
    refine lv_if_eq (tgt := 191) hx hb dX7_can_175 (by decide) (fun c5 => ?_) (fun c5 => ?_)
    · replace h := fT c5 h
      refine lv_iconst (v := (0 : Int32)) hx hb dX7_can_191 (by decide) ?_
      cases h
      exact hE _ _ _ _ dX7_can_192 hP hD hS (nz01 (Or.inl rfl))
    · replace h := fF c5 h
      refine lv_aload_n hx hb dX7_can_178 rfl (lv_at hl 2 rfl) ?_
      refine lv_iload_n hx hb dX7_can_179 rfl (lv_at hl 1 rfl) ?_
      refine lv_iload_n hx hb dX7_can_180 rfl (lv_at hl 0 rfl) ?_
      obtain ⟨r6, mtp7, mbt8, g9, h⟩ := fB3 h
      refine cV_i (As := [.int (mrd (a1 + (1 : Int32)).toNatClampNeg), .int (mrd (a1 + (2 : Int32)).toNatClampNeg)]) (rest := []) (ws1 := (MW w y th ms mst smn msl mhs mtx mle mat mwl mrd mrm mtp7 mbt8 mtm mtn mnt mnb mun mum mau)) ⟨hx, hb, hml, hown, hts⟩ (c_X7_makesProduct l D w y _ th ms mst smn msl mhs mtx mle mat mwl mrd mrm mtp mbt mtm mtn mnt mnb mun mum mau (mrd (a1 + (1 : Int32)).toNatClampNeg) (mrd (a1 + (2 : Int32)).toNatClampNeg) r6 mtp7 mbt8 g9) (cwV 2 hts gX7_can_X7_makesProduct rfl rfl rfl hd_X7_makesProduct ⟨Nat.le_of_ble_eq_true rfl, Nat.le_of_ble_eq_true rfl⟩) hK hP hD hS hA [0, 1, 2, 3, 4, 5, 6, 7, 8] [] [0, 1, 2, 3, 4, 5, 6, 7, 8] rfl rfl rfl (by decide) rfl rfl rfl 0 (ci := 5) rfl rfl rfl hl.1 rfl (Nat.le_of_ble_eq_true rfl) dX7_can_181 ⟨Nat.le_of_ble_eq_true rfl, Nat.le_of_ble_eq_true rfl⟩ (fun H locs hP hD hS => ?_)
      have J10 : ∀ (v11 : Int32) (ls : Array Slot), v11 = (if r6 = (0 : Int32) then (0 : Int32) else (1 : Int32)) → lv_has ls 4 [(0, .ref (w 0)), (1, .int a1), (2, .int (mrd (a1 + (1 : Int32)).toNatClampNeg)), (3, .int (mrd (a1 + (2 : Int32)).toNatClampNeg))] → W p l e rm_X7_can s m args below meth c H locs 0 0 Q (F0 m 192 ls [.int v11]) := by
        intro v11 ls ev11 hl
        subst ev11
        cases h
        exact hE _ _ _ _ dX7_can_192 hP hD hS (nz01 (z01 (Or.inl rfl) (Or.inr rfl)))
      refine lv_if_eq (tgt := 191) hx hb dX7_can_184 (by decide) (fun c12 => ?_) (fun c12 => ?_)
      · refine lv_iconst (v := (0 : Int32)) hx hb dX7_can_191 (by decide) ?_
        exact J10 _ _ (by rw [if_pos c12]) (lv_sub hl [2, 3, 1, 0] rfl)
      · refine lv_iconst (v := (1 : Int32)) hx hb dX7_can_187 (by decide) ?_
        refine lv_goto (tgt := 192) hx hb dX7_can_188 (by decide) ?_
        exact J10 _ _ (by rw [if_neg c12]) (lv_sub hl [2, 3, 1, 0] rfl)
  replace h := fF c4 h
  by_cases c13 : (mrd a1.toNatClampNeg) = (43 : Int32)
  · replace h := fT c13 h
    refine lv_lookup (off := 89) (tgt := 113) hx hb dX7_can_24 (by decide) (by rw [c13]; decide) (by decide) ?_
    refine lv_iload_n hx hb dX7_can_113 rfl (lv_at hl 1 rfl) ?_
    refine lv_iload_n hx hb dX7_can_114 rfl (lv_at hl 0 rfl) ?_
    refine cT_i (As := [.int (mrd (a1 + (1 : Int32)).toNatClampNeg), .int (mrd (a1 + (2 : Int32)).toNatClampNeg)]) (rest := []) ⟨hx, hb, hml, hown, hts⟩ (c_X7_arePlates l D y _ (mrd (a1 + (1 : Int32)).toNatClampNeg) (mrd (a1 + (2 : Int32)).toNatClampNeg)) (va_cwS 2 hts gX7_can_X7_arePlates rfl rfl rfl hd_X7_arePlates ⟨Nat.le_of_ble_eq_true rfl, Nat.le_of_ble_eq_true rfl⟩) hK hP hD hS hA rfl hl.1 rfl (Nat.le_of_ble_eq_true rfl) dX7_can_115 ⟨Nat.le_of_ble_eq_true rfl, Nat.le_of_ble_eq_true rfl⟩ (fun H locs hP hD hS => ?_)
    refine lv_if_eq (tgt := 135) hx hb dX7_can_118 (by decide) (fun c14 => ?_) (fun c14 => ?_)
    · replace h := fT c14 h
      refine lv_iconst (v := (0 : Int32)) hx hb dX7_can_135 (by decide) ?_
      cases h
      exact hE _ _ _ _ dX7_can_136 hP hD hS (nz01 (Or.inl rfl))
    · replace h := fF c14 h
      refine lv_aload_n hx hb dX7_can_121 rfl (lv_at hl 2 rfl) ?_
      refine lv_iload_n hx hb dX7_can_122 rfl (lv_at hl 1 rfl) ?_
      refine lv_iload_n hx hb dX7_can_123 rfl (lv_at hl 0 rfl) ?_
      refine lv_iconst (v := (1 : Int32)) hx hb dX7_can_124 (by decide) ?_
      obtain ⟨r15, mtp16, mbt17, g18, h⟩ := fB3 h
      refine cV_i (As := [.int (mrd (a1 + (1 : Int32)).toNatClampNeg), .int (mrd (a1 + (2 : Int32)).toNatClampNeg), .int (1 : Int32)]) (rest := []) (ws1 := (MW w y th ms mst smn msl mhs mtx mle mat mwl mrd mrm mtp16 mbt17 mtm mtn mnt mnb mun mum mau)) ⟨hx, hb, hml, hown, hts⟩ (c_X7_makesSum l D w y _ th ms mst smn msl mhs mtx mle mat mwl mrd mrm mtp mbt mtm mtn mnt mnb mun mum mau (mrd (a1 + (1 : Int32)).toNatClampNeg) (mrd (a1 + (2 : Int32)).toNatClampNeg) (1 : Int32) r15 mtp16 mbt17 g18) (cwV 3 hts gX7_can_X7_makesSum rfl rfl rfl hd_X7_makesSum ⟨Nat.le_of_ble_eq_true rfl, Nat.le_of_ble_eq_true rfl⟩) hK hP hD hS hA [0, 1, 2, 3, 4, 5, 6, 7, 8] [] [0, 1, 2, 3, 4, 5, 6, 7, 8] rfl rfl rfl (by decide) rfl rfl rfl 0 (ci := 5) rfl rfl rfl hl.1 rfl (Nat.le_of_ble_eq_true rfl) dX7_can_125 ⟨Nat.le_of_ble_eq_true rfl, Nat.le_of_ble_eq_true rfl⟩ (fun H locs hP hD hS => ?_)
      have J19 : ∀ (v20 : Int32) (ls : Array Slot), v20 = (if r15 = (0 : Int32) then (0 : Int32) else (1 : Int32)) → lv_has ls 4 [(0, .ref (w 0)), (1, .int a1), (2, .int (mrd (a1 + (1 : Int32)).toNatClampNeg)), (3, .int (mrd (a1 + (2 : Int32)).toNatClampNeg))] → W p l e rm_X7_can s m args below meth c H locs 0 0 Q (F0 m 136 ls [.int v20]) := by
        intro v20 ls ev20 hl
        subst ev20
        cases h
        exact hE _ _ _ _ dX7_can_136 hP hD hS (nz01 (z01 (Or.inl rfl) (Or.inr rfl)))
      refine lv_if_eq (tgt := 135) hx hb dX7_can_128 (by decide) (fun c21 => ?_) (fun c21 => ?_)
      · refine lv_iconst (v := (0 : Int32)) hx hb dX7_can_135 (by decide) ?_
        exact J19 _ _ (by rw [if_pos c21]) (lv_sub hl [2, 3, 1, 0] rfl)
      · refine lv_iconst (v := (1 : Int32)) hx hb dX7_can_131 (by decide) ?_
        refine lv_goto (tgt := 136) hx hb dX7_can_132 (by decide) ?_
        exact J19 _ _ (by rw [if_neg c21]) (lv_sub hl [2, 3, 1, 0] rfl)
  replace h := fF c13 h
  by_cases c22 : (mrd a1.toNatClampNeg) = (45 : Int32)
  · replace h := fT c22 h
    refine lv_lookup (off := 113) (tgt := 137) hx hb dX7_can_24 (by decide) (by rw [c22]; decide) (by decide) ?_
    refine lv_iload_n hx hb dX7_can_137 rfl (lv_at hl 1 rfl) ?_
    refine lv_iload_n hx hb dX7_can_138 rfl (lv_at hl 0 rfl) ?_
    refine cT_i (As := [.int (mrd (a1 + (1 : Int32)).toNatClampNeg), .int (mrd (a1 + (2 : Int32)).toNatClampNeg)]) (rest := []) ⟨hx, hb, hml, hown, hts⟩ (c_X7_arePlates l D y _ (mrd (a1 + (1 : Int32)).toNatClampNeg) (mrd (a1 + (2 : Int32)).toNatClampNeg)) (va_cwS 2 hts gX7_can_X7_arePlates rfl rfl rfl hd_X7_arePlates ⟨Nat.le_of_ble_eq_true rfl, Nat.le_of_ble_eq_true rfl⟩) hK hP hD hS hA rfl hl.1 rfl (Nat.le_of_ble_eq_true rfl) dX7_can_139 ⟨Nat.le_of_ble_eq_true rfl, Nat.le_of_ble_eq_true rfl⟩ (fun H locs hP hD hS => ?_)
    refine lv_if_eq (tgt := 168) hx hb dX7_can_142 (by decide) (fun c23 => ?_) (fun c23 => ?_)
    · replace h := fT c23 h
      refine lv_iconst (v := (0 : Int32)) hx hb dX7_can_168 (by decide) ?_
      cases h
      exact hE _ _ _ _ dX7_can_169 hP hD hS (nz01 (Or.inl rfl))
    · replace h := fF c23 h
      refine lv_aload_n hx hb dX7_can_145 rfl (lv_at hl 2 rfl) ?_
      refine lv_iload_n hx hb dX7_can_146 rfl (lv_at hl 1 rfl) ?_
      refine lv_iload_n hx hb dX7_can_147 rfl (lv_at hl 0 rfl) ?_
      obtain ⟨r24, g25, h⟩ := fB1 h
      refine cV_i (As := [.int (mrd (a1 + (1 : Int32)).toNatClampNeg), .int (mrd (a1 + (2 : Int32)).toNatClampNeg)]) (rest := []) (ws1 := (MW w y th ms mst smn msl mhs mtx mle mat mwl mrd mrm mtp mbt mtm mtn mnt mnb mun mum mau)) ⟨hx, hb, hml, hown, hts⟩ (c_X7_holds l D w y _ th ms mst smn msl mhs mtx mle mat mwl mrd mrm mtp mbt mtm mtn mnt mnb mun mum mau (mrd (a1 + (1 : Int32)).toNatClampNeg) (mrd (a1 + (2 : Int32)).toNatClampNeg) r24 g25) (cwV 2 hts gX7_can_X7_holds rfl rfl rfl hd_X7_holds ⟨Nat.le_of_ble_eq_true rfl, Nat.le_of_ble_eq_true rfl⟩) hK hP hD hS hA [0, 1, 2, 3, 4, 5, 6, 7, 8] [] [0, 1, 2, 3, 4, 5, 6, 7, 8] rfl rfl rfl (by decide) rfl rfl rfl 0 (ci := 5) rfl rfl rfl hl.1 rfl (Nat.le_of_ble_eq_true rfl) dX7_can_148 ⟨Nat.le_of_ble_eq_true rfl, Nat.le_of_ble_eq_true rfl⟩ (fun H locs hP hD hS => ?_)
      refine lv_if_lt (tgt := 168) hx hb dX7_can_151 (by decide) (fun c26 => ?_) (fun c26 => ?_)
      · replace h := fT c26 h
        refine lv_iconst (v := (0 : Int32)) hx hb dX7_can_168 (by decide) ?_
        cases h
        exact hE _ _ _ _ dX7_can_169 hP hD hS (nz01 (Or.inl rfl))
      · replace h := fF c26 h
        refine lv_aload_n hx hb dX7_can_154 rfl (lv_at hl 2 rfl) ?_
        refine lv_iload_n hx hb dX7_can_155 rfl (lv_at hl 1 rfl) ?_
        refine lv_iload_n hx hb dX7_can_156 rfl (lv_at hl 0 rfl) ?_
        refine lv_iconst (v := (-1 : Int32)) hx hb dX7_can_157 (by decide) ?_
        obtain ⟨r27, mtp28, mbt29, g30, h⟩ := fB3 h
        refine cV_i (As := [.int (mrd (a1 + (1 : Int32)).toNatClampNeg), .int (mrd (a1 + (2 : Int32)).toNatClampNeg), .int (-1 : Int32)]) (rest := []) (ws1 := (MW w y th ms mst smn msl mhs mtx mle mat mwl mrd mrm mtp28 mbt29 mtm mtn mnt mnb mun mum mau)) ⟨hx, hb, hml, hown, hts⟩ (c_X7_makesSum l D w y _ th ms mst smn msl mhs mtx mle mat mwl mrd mrm mtp mbt mtm mtn mnt mnb mun mum mau (mrd (a1 + (1 : Int32)).toNatClampNeg) (mrd (a1 + (2 : Int32)).toNatClampNeg) (-1 : Int32) r27 mtp28 mbt29 g30) (cwV 3 hts gX7_can_X7_makesSum rfl rfl rfl hd_X7_makesSum ⟨Nat.le_of_ble_eq_true rfl, Nat.le_of_ble_eq_true rfl⟩) hK hP hD hS hA [0, 1, 2, 3, 4, 5, 6, 7, 8] [] [0, 1, 2, 3, 4, 5, 6, 7, 8] rfl rfl rfl (by decide) rfl rfl rfl 0 (ci := 5) rfl rfl rfl hl.1 rfl (Nat.le_of_ble_eq_true rfl) dX7_can_158 ⟨Nat.le_of_ble_eq_true rfl, Nat.le_of_ble_eq_true rfl⟩ (fun H locs hP hD hS => ?_)
        have J31 : ∀ (v32 : Int32) (ls : Array Slot), v32 = (if r27 = (0 : Int32) then (0 : Int32) else (1 : Int32)) → lv_has ls 4 [(0, .ref (w 0)), (1, .int a1), (2, .int (mrd (a1 + (1 : Int32)).toNatClampNeg)), (3, .int (mrd (a1 + (2 : Int32)).toNatClampNeg))] → W p l e rm_X7_can s m args below meth c H locs 0 0 Q (F0 m 169 ls [.int v32]) := by
          intro v32 ls ev32 hl
          subst ev32
          cases h
          exact hE _ _ _ _ dX7_can_169 hP hD hS (nz01 (z01 (Or.inl rfl) (Or.inr rfl)))
        refine lv_if_eq (tgt := 168) hx hb dX7_can_161 (by decide) (fun c33 => ?_) (fun c33 => ?_)
        · refine lv_iconst (v := (0 : Int32)) hx hb dX7_can_168 (by decide) ?_
          exact J31 _ _ (by rw [if_pos c33]) (lv_sub hl [2, 3, 1, 0] rfl)
        · refine lv_iconst (v := (1 : Int32)) hx hb dX7_can_164 (by decide) ?_
          refine lv_goto (tgt := 169) hx hb dX7_can_165 (by decide) ?_
          exact J31 _ _ (by rw [if_neg c33]) (lv_sub hl [2, 3, 1, 0] rfl)
  replace h := fF c22 h
  by_cases c34 : (mrd a1.toNatClampNeg) = (115 : Int32)
  · replace h := fT c34 h
    refine lv_lookup (off := 44) (tgt := 68) hx hb dX7_can_24 (by decide) (by rw [c34]; decide) (by decide) ?_
    refine lv_iload_n hx hb dX7_can_68 rfl (lv_at hl 1 rfl) ?_
    refine cT_i (As := [.int (mrd (a1 + (1 : Int32)).toNatClampNeg)]) (rest := []) ⟨hx, hb, hml, hown, hts⟩ (c_X7_isPlate l D y _ (mrd (a1 + (1 : Int32)).toNatClampNeg)) (va_cwS 1 hts gX7_can_X7_isPlate rfl rfl rfl hd_X7_isPlate ⟨Nat.le_of_ble_eq_true rfl, Nat.le_of_ble_eq_true rfl⟩) hK hP hD hS hA rfl hl.1 rfl (Nat.le_of_ble_eq_true rfl) dX7_can_69 ⟨Nat.le_of_ble_eq_true rfl, Nat.le_of_ble_eq_true rfl⟩ (fun H locs hP hD hS => ?_)
    refine lv_if_eq (tgt := 111) hx hb dX7_can_72 (by decide) (fun c35 => ?_) (fun c35 => ?_)
    · replace h := fT c35 h
      refine lv_iconst (v := (0 : Int32)) hx hb dX7_can_111 (by decide) ?_
      cases h
      exact hE _ _ _ _ dX7_can_112 hP hD hS (nz01 (Or.inl rfl))
    · replace h := fF c35 h
      refine lv_aload_n hx hb dX7_can_75 rfl (lv_at hl 2 rfl) ?_
      refine va_get (D := D) (ci := 5) (C := RX7) (T := TX7) (N := 21) hx hb hts hinRX7 hown hK hP 0 rfl rfl 10 (by decide) q0 (fun _ h9 => h9) rfl dX7_can_76 ?_
      refine lv_iload_n hx hb dX7_can_79 rfl (lv_at hl 3 rfl) ?_
      refine lv_iconst (v := (3 : Int32)) hx hb dX7_can_80 (by decide) ?_
      refine lv_iadd hx hb dX7_can_81 ?_
      obtain ⟨g36, h⟩ := fG h
      refine va_iald hx hb hK hP 6 0 rfl rfl g36 dX7_can_82 ?_
      refine cT_i (As := [.int (mrd (a1 + (3 : Int32)).toNatClampNeg)]) (rest := []) ⟨hx, hb, hml, hown, hts⟩ (c_X7_isBottom l D y _ (mrd (a1 + (3 : Int32)).toNatClampNeg)) (va_cwS 1 hts gX7_can_X7_isBottom rfl rfl rfl hd_X7_isBottom ⟨Nat.le_of_ble_eq_true rfl, Nat.le_of_ble_eq_true rfl⟩) hK hP hD hS hA rfl hl.1 rfl (Nat.le_of_ble_eq_true rfl) dX7_can_83 ⟨Nat.le_of_ble_eq_true rfl, Nat.le_of_ble_eq_true rfl⟩ (fun H locs hP hD hS => ?_)
      refine lv_if_eq (tgt := 111) hx hb dX7_can_86 (by decide) (fun c37 => ?_) (fun c37 => ?_)
      · replace h := fT c37 h
        refine lv_iconst (v := (0 : Int32)) hx hb dX7_can_111 (by decide) ?_
        cases h
        exact hE _ _ _ _ dX7_can_112 hP hD hS (nz01 (Or.inl rfl))
      · replace h := fF c37 h
        refine lv_aload_n hx hb dX7_can_89 rfl (lv_at hl 2 rfl) ?_
        refine lv_iload_n hx hb dX7_can_90 rfl (lv_at hl 0 rfl) ?_
        refine lv_i2l (v := (mrd (a1 + (2 : Int32)).toNatClampNeg).toInt64) hx hb dX7_can_91 rfl ?_
        refine lv_aload_n hx hb dX7_can_92 rfl (lv_at hl 2 rfl) ?_
        refine va_get (D := D) (ci := 5) (C := RX7) (T := TX7) (N := 21) hx hb hts hinRX7 hown hK hP 0 rfl rfl 10 (by decide) q0 (fun _ h9 => h9) rfl dX7_can_93 ?_
        refine lv_iload_n hx hb dX7_can_96 rfl (lv_at hl 3 rfl) ?_
        refine lv_iconst (v := (3 : Int32)) hx hb dX7_can_97 (by decide) ?_
        refine lv_iadd hx hb dX7_can_98 ?_
        refine va_iald hx hb hK hP 6 0 rfl rfl g36 dX7_can_99 ?_
        refine lv_i2l (v := (mrd (a1 + (3 : Int32)).toNatClampNeg).toInt64) hx hb dX7_can_100 rfl ?_
        obtain ⟨r38, mtp39, mbt40, g41, h⟩ := fB3 h
        refine cV_i (As := [.long ((mrd (a1 + (2 : Int32)).toNatClampNeg).toInt64), .long ((mrd (a1 + (3 : Int32)).toNatClampNeg).toInt64)]) (rest := []) (ws1 := (MW w y th ms mst smn msl mhs mtx mle mat mwl mrd mrm mtp39 mbt40 mtm mtn mnt mnb mun mum mau)) ⟨hx, hb, hml, hown, hts⟩ (c_X7_makes l D w y _ th ms mst smn msl mhs mtx mle mat mwl mrd mrm mtp mbt mtm mtn mnt mnb mun mum mau ((mrd (a1 + (2 : Int32)).toNatClampNeg).toInt64) ((mrd (a1 + (3 : Int32)).toNatClampNeg).toInt64) r38 mtp39 mbt40 g41) (cwV 2 hts gX7_can_X7_makes rfl rfl rfl hd_X7_makes ⟨Nat.le_of_ble_eq_true rfl, Nat.le_of_ble_eq_true rfl⟩) hK hP hD hS hA [0, 1, 2, 3, 4, 5, 6, 7, 8] [] [0, 1, 2, 3, 4, 5, 6, 7, 8] rfl rfl rfl (by decide) rfl rfl rfl 0 (ci := 5) rfl rfl rfl hl.1 rfl (Nat.le_of_ble_eq_true rfl) dX7_can_101 ⟨Nat.le_of_ble_eq_true rfl, Nat.le_of_ble_eq_true rfl⟩ (fun H locs hP hD hS => ?_)
        have J42 : ∀ (v43 : Int32) (ls : Array Slot), v43 = (if r38 = (0 : Int32) then (0 : Int32) else (1 : Int32)) → lv_has ls 4 [(0, .ref (w 0)), (1, .int a1), (2, .int (mrd (a1 + (1 : Int32)).toNatClampNeg)), (3, .int (mrd (a1 + (2 : Int32)).toNatClampNeg))] → W p l e rm_X7_can s m args below meth c H locs 0 0 Q (F0 m 112 ls [.int v43]) := by
          intro v43 ls ev43 hl
          subst ev43
          cases h
          exact hE _ _ _ _ dX7_can_112 hP hD hS (nz01 (z01 (Or.inl rfl) (Or.inr rfl)))
        refine lv_if_eq (tgt := 111) hx hb dX7_can_104 (by decide) (fun c44 => ?_) (fun c44 => ?_)
        · refine lv_iconst (v := (0 : Int32)) hx hb dX7_can_111 (by decide) ?_
          exact J42 _ _ (by rw [if_pos c44]) (lv_sub hl [2, 3, 1, 0] rfl)
        · refine lv_iconst (v := (1 : Int32)) hx hb dX7_can_107 (by decide) ?_
          refine lv_goto (tgt := 112) hx hb dX7_can_108 (by decide) ?_
          exact J42 _ _ (by rw [if_neg c44]) (lv_sub hl [2, 3, 1, 0] rfl)
  replace h := fF c34 h
  refine lv_lookup (off := 169) (tgt := 193) hx hb dX7_can_24 (by decide) ((lv_osw c4 (by decide)).trans ((lv_osw c13 (by decide)).trans ((lv_osw c22 (by decide)).trans ((lv_osw c34 (by decide)).trans rfl)))) (by decide) ?_
  refine lv_iload_n hx hb dX7_can_193 rfl (lv_at hl 1 rfl) ?_
  refine lv_iload_n hx hb dX7_can_194 rfl (lv_at hl 0 rfl) ?_
  refine cT_i (As := [.int (mrd (a1 + (1 : Int32)).toNatClampNeg), .int (mrd (a1 + (2 : Int32)).toNatClampNeg)]) (rest := []) ⟨hx, hb, hml, hown, hts⟩ (c_X7_arePlates l D y _ (mrd (a1 + (1 : Int32)).toNatClampNeg) (mrd (a1 + (2 : Int32)).toNatClampNeg)) (va_cwS 2 hts gX7_can_X7_arePlates rfl rfl rfl hd_X7_arePlates ⟨Nat.le_of_ble_eq_true rfl, Nat.le_of_ble_eq_true rfl⟩) hK hP hD hS hA rfl hl.1 rfl (Nat.le_of_ble_eq_true rfl) dX7_can_195 ⟨Nat.le_of_ble_eq_true rfl, Nat.le_of_ble_eq_true rfl⟩ (fun H locs hP hD hS => ?_)
  cases h
  exact hE _ _ _ _ dX7_can_198 hP hD hS (nz01 (z_X7_arePlates _ _))
abbrev rm_X7_runText : Room := { frames := 5, cells := 0, slots := 0, locals := 108 }
theorem hd_X7_runText : yX7_runText.cls = RX7 ∧ yX7_runText.cls ≠ "java/lang/invoke/MethodHandle" ∧ yX7_runText.cls ≠ "java/lang/invoke/VarHandle" ∧ (parseMethodDescriptor yX7_runText.desc).map (fun d => d.parameters.length) = some 0 := by decide +kernel
set_option maxHeartbeats 0 in
set_option maxRecDepth 100000 in
theorem c_X7_runText (l : Launch) (D : va_G) (w : Nat → Nat) (y : Nat → ClassId) (sz : Nat) (th : Int32) (ms : Nat → Int32) (mst : Nat → Int32) (smn : Int32) (msl : Nat → Int32) (mhs : Nat → Int32) (mtx : Nat → Int32) (mle : Int32) (mat : Int32) (mwl : Int32) (mrd : Nat → Int32) (mrm : Int32) (mtp : Int64) (mbt : Int64) (mtm : Nat → Int32) (mtn : Int32) (mnt : Int32) (mnb : Int32) (mun : Nat → Int32) (mum : Int32) (mau : Int32) (r : Int32) (th' : Int32) (ms' : Nat → Int32) (mst' : Nat → Int32) (smn' : Int32) (mle' : Int32) (mat' : Int32) (mwl' : Int32) (mrd' : Nat → Int32) (mrm' : Int32) (mtp' : Int64) (mbt' : Int64) (h : F_X7_runText th ms mst smn mtx mle mat mwl mrd mrm mtp mbt = some (r, th', ms', mst', smn', mle', mat', mwl', mrd', mrm', mtp', mbt')) : Met l yX7_runText wsX7_runText rm_X7_runText (va_Pc [.ref (w 0)] (px D y sz (MW w y th ms mst smn msl mhs mtx mle mat mwl mrd mrm mtp mbt mtm mtn mnt mnb mun mum mau))) (Qri D y sz (MW w y th ms mst smn msl mhs mtx mle mat mwl mrd mrm mtp mbt mtm mtn mnt mnb mun mum mau) (MW w y th' ms' mst' smn' msl mhs mtx mle' mat' mwl' mrd' mrm' mtp' mbt' mtm mtn mnt mnb mun mum mau) r) 0 0 (va_A (MW w y th ms mst smn msl mhs mtx mle mat mwl mrd mrm mtp mbt mtm mtn mnt mnb mun mum mau) sz) := by
  refine hd_i (cc := cX7_runText) (maxL := 2) rfl rfl (Nat.le_of_ble_eq_true rfl) ?_
  intro p e s m args below meth c A Q H locs ls hx hb hml hts hown _ hA hP hD hK hS hl hE
  have hl : lv_has ls 2 [(0, .ref (w 0))] := hl
  have q0 := hts (.fieldLink RX7 35 "SliceSharesModel" "thrown" "I") (by decide +kernel)
  have q1 := hts (.fieldLink RX7 173 "SliceSharesModel" "length" "I") (by decide +kernel)
  have q2 := hts (.fieldLink RX7 189 "SliceSharesModel" "readMany" "I") (by decide +kernel)
  have q3 := hts (.fieldLink RX7 26 "SliceSharesModel" "read" "[I") (by decide +kernel)
  have hinRX7 : ∀ w ∈ wsX70, w ∈ wsX7_runText := by decide +kernel
  unfold F_X7_runText at h
  refine lv_aload_n hx hb dX7_runText_0 rfl (lv_at hl 0 rfl) ?_
  refine lv_iconst (v := (0 : Int32)) hx hb dX7_runText_1 (by decide) ?_
  refine va_put (D := D) (ci := 5) (v := .int (0 : Int32)) (ty := .int) (C := RX7) (T := TX7) (N := 21) hx hb hts hinRX7 tyX7 tyX7_ok nmX7 hown hK hP hD hS 0 rfl rfl 0 (by decide) q0 (fun _ h9 => h9) rfl (by decide +kernel) rfl rfl (Nat.le_of_ble_eq_true rfl) dX7_runText_2 (fun H locs hP hD hS => ?_)
  have hP : va_P D vwCl (MW w y (0 : Int32) ms mst smn msl mhs mtx mle mat mwl mrd mrm mtp mbt mtm mtn mnt mnb mun mum mau) H := hP
  have hD : va_D A (MW w y (0 : Int32) ms mst smn msl mhs mtx mle mat mwl mrd mrm mtp mbt mtm mtn mnt mnb mun mum mau) := hD
  refine lv_aload_n hx hb dX7_runText_5 rfl (lv_at hl 0 rfl) ?_
  obtain ⟨r1, mat2, mwl3, mrd4, mrm5, g6, h⟩ := fB5 h
  refine cV_i (As := []) (rest := []) (ws1 := (MW w y (0 : Int32) ms mst smn msl mhs mtx mle mat2 mwl3 mrd4 mrm5 mtp mbt mtm mtn mnt mnb mun mum mau)) ⟨hx, hb, hml, hown, hts⟩ (c_X7_readsText l D w y _ (0 : Int32) ms mst smn msl mhs mtx mle mat mwl mrd mrm mtp mbt mtm mtn mnt mnb mun mum mau r1 mat2 mwl3 mrd4 mrm5 g6) (cwV 0 hts gX7_runText_X7_readsText rfl rfl rfl hd_X7_readsText ⟨Nat.le_of_ble_eq_true rfl, Nat.le_of_ble_eq_true rfl⟩) hK hP hD hS hA [0, 1, 2, 3, 4, 5, 6, 7, 8] [] [0, 1, 2, 3, 4, 5, 6, 7, 8] rfl rfl rfl (by decide) rfl rfl rfl 0 (ci := 5) rfl rfl rfl hl.1 rfl (Nat.le_of_ble_eq_true rfl) dX7_runText_6 ⟨Nat.le_of_ble_eq_true rfl, Nat.le_of_ble_eq_true rfl⟩ (fun H locs hP hD hS => ?_)
  refine lv_if_ne (tgt := 18) hx hb dX7_runText_9 (by decide) (fun c7 => ?_) (fun c7 => ?_)
  · replace h := fF c7 h
    refine lv_aload_n hx hb dX7_runText_18 rfl (lv_at hl 0 rfl) ?_
    obtain ⟨mst8, smn9, g10, h⟩ := fB2 h
    refine cV_v (As := []) (rest := []) (ws1 := (MW w y (0 : Int32) ms mst8 smn9 msl mhs mtx mle mat2 mwl3 mrd4 mrm5 mtp mbt mtm mtn mnt mnb mun mum mau)) ⟨hx, hb, hml, hown, hts⟩ (c_X7_records l D w y _ (0 : Int32) ms mst smn msl mhs mtx mle mat2 mwl3 mrd4 mrm5 mtp mbt mtm mtn mnt mnb mun mum mau mst8 smn9 g10) (cwV 0 hts gX7_runText_X7_records rfl rfl rfl hd_X7_records ⟨Nat.le_of_ble_eq_true rfl, Nat.le_of_ble_eq_true rfl⟩) hK hP hD hS hA [0, 1, 2, 3, 4, 5, 6, 7, 8] [] [0, 1, 2, 3, 4, 5, 6, 7, 8] rfl rfl rfl (by decide) rfl rfl rfl 0 (ci := 5) rfl rfl rfl hl.1 rfl (Nat.le_of_ble_eq_true rfl) dX7_runText_19 ⟨Nat.le_of_ble_eq_true rfl, Nat.le_of_ble_eq_true rfl⟩ (fun H locs hP hD hS => ?_)
    refine lv_aload_n hx hb dX7_runText_22 rfl (lv_at hl 0 rfl) ?_
    refine lv_iconst (v := (0 : Int32)) hx hb dX7_runText_23 (by decide) ?_
    refine va_put (D := D) (ci := 5) (v := .int (0 : Int32)) (ty := .int) (C := RX7) (T := TX7) (N := 21) hx hb hts hinRX7 tyX7 tyX7_ok nmX7 hown hK hP hD hS 0 rfl rfl 7 (by decide) q1 (fun _ h9 => h9) rfl (by decide +kernel) rfl rfl (Nat.le_of_ble_eq_true rfl) dX7_runText_24 (fun H locs hP hD hS => ?_)
    have hP : va_P D vwCl (MW w y (0 : Int32) ms mst8 smn9 msl mhs mtx (0 : Int32) mat2 mwl3 mrd4 mrm5 mtp mbt mtm mtn mnt mnb mun mum mau) H := hP
    have hD : va_D A (MW w y (0 : Int32) ms mst8 smn9 msl mhs mtx (0 : Int32) mat2 mwl3 mrd4 mrm5 mtp mbt mtm mtn mnt mnb mun mum mau) := hD
    refine lv_iconst (v := (0 : Int32)) hx hb dX7_runText_27 (by decide) ?_
    refine lv_istore_n (lv' := [(1, .int (0 : Int32)), (0, .ref (w 0))]) hx hb dX7_runText_28 rfl hl (by decide) rfl (fun ls hl => ?_)
    obtain ⟨v15, ms16, mtp17, mbt18, g19, h⟩ := fB4 h
    have J20 : ∀ (H : Heap) (locs : List Loc) (ls : Array Slot), va_P D vwCl (MW w y (0 : Int32) ms16 mst8 smn9 msl mhs mtx (0 : Int32) mat2 mwl3 mrd4 mrm5 mtp17 mbt18 mtm mtn mnt mnb mun mum mau) H → va_D A (MW w y (0 : Int32) ms16 mst8 smn9 msl mhs mtx (0 : Int32) mat2 mwl3 mrd4 mrm5 mtp17 mbt18 mtm mtn mnt mnb mun mum mau) → va_S A s.heap H locs → lv_has ls 2 [(1, .int v15)] → W p l e rm_X7_runText s m args below meth c H locs 0 0 Q (F0 m 109 ls []) := by
      intro H locs ls hP hD hS hl
      refine lv_iload_n hx hb dX7_runText_109 rfl (lv_at hl 0 rfl) ?_
      cases h
      exact hE _ _ _ _ dX7_runText_110 hP hD hS
    have LP21 : ∀ (n : Nat) (x11 : Int32) (ms12 : Nat → Int32) (mtp13 : Int64) (mbt14 : Int64) (H : Heap) (locs : List Loc) (ls : Array Slot), L_X7_runText_29 n x11 ms12 mrd4 mrm5 mtp13 mbt14 = some (v15, ms16, mtp17, mbt18) → va_P D vwCl (MW w y (0 : Int32) ms12 mst8 smn9 msl mhs mtx (0 : Int32) mat2 mwl3 mrd4 mrm5 mtp13 mbt14 mtm mtn mnt mnb mun mum mau) H → va_D A (MW w y (0 : Int32) ms12 mst8 smn9 msl mhs mtx (0 : Int32) mat2 mwl3 mrd4 mrm5 mtp13 mbt14 mtm mtn mnt mnb mun mum mau) → va_S A s.heap H locs → lv_has ls 2 [(0, .ref (w 0)), (1, .int x11)] → W p l e rm_X7_runText s m args below meth c H locs 0 0 Q (F0 m 29 ls []) := by
      intro n
      induction n with
      | zero => intro x11 ms12 mtp13 mbt14 H locs ls h hP hD hS hl; exact fN h
      | succ n ih =>
        intro x11 ms12 mtp13 mbt14 H locs ls h hP hD hS hl
        replace h := (L_X7_runText_29_s n x11 ms12 mrd4 mrm5 mtp13 mbt14).symm.trans h
        refine lv_iload_n hx hb dX7_runText_29 rfl (lv_at hl 1 rfl) ?_
        refine lv_aload_n hx hb dX7_runText_30 rfl (lv_at hl 0 rfl) ?_
        refine va_get (D := D) (ci := 5) (C := RX7) (T := TX7) (N := 21) hx hb hts hinRX7 hown hK hP 0 rfl rfl 11 (by decide) q2 (fun _ h9 => h9) rfl dX7_runText_31 ?_
        refine lv_icmp_ge (tgt := 109) hx hb dX7_runText_34 (by decide) (fun c22 => ?_) (fun c22 => ?_)
        · replace h := fT c22 h
          cases h
          exact J20 _ _ _ hP hD hS (lv_sub hl [1] rfl)
        · replace h := fF c22 h
          refine lv_aload_n hx hb dX7_runText_37 rfl (lv_at hl 0 rfl) ?_
          refine lv_iconst (v := (4 : Int32)) hx hb dX7_runText_38 (by decide) ?_
          refine lv_iload_n hx hb dX7_runText_39 rfl (lv_at hl 1 rfl) ?_
          refine lv_imul hx hb dX7_runText_40 ?_
          obtain ⟨r23, mtp24, mbt25, g26, h⟩ := fB3 h
          refine cV_i (As := [.int ((4 : Int32) * x11)]) (rest := []) (ws1 := (MW w y (0 : Int32) ms12 mst8 smn9 msl mhs mtx (0 : Int32) mat2 mwl3 mrd4 mrm5 mtp24 mbt25 mtm mtn mnt mnb mun mum mau)) ⟨hx, hb, hml, hown, hts⟩ (c_X7_can l D w y _ (0 : Int32) ms12 mst8 smn9 msl mhs mtx (0 : Int32) mat2 mwl3 mrd4 mrm5 mtp13 mbt14 mtm mtn mnt mnb mun mum mau ((4 : Int32) * x11) r23 mtp24 mbt25 g26) (cwV 1 hts gX7_runText_X7_can rfl rfl rfl hd_X7_can ⟨Nat.le_of_ble_eq_true rfl, Nat.le_of_ble_eq_true rfl⟩) hK hP hD hS hA [0, 1, 2, 3, 4, 5, 6, 7, 8] [] [0, 1, 2, 3, 4, 5, 6, 7, 8] rfl rfl rfl (by decide) rfl rfl rfl 0 (ci := 5) rfl rfl rfl hl.1 rfl (Nat.le_of_ble_eq_true rfl) dX7_runText_41 ⟨Nat.le_of_ble_eq_true rfl, Nat.le_of_ble_eq_true rfl⟩ (fun H locs hP hD hS => ?_)
          refine lv_if_eq (tgt := 109) hx hb dX7_runText_44 (by decide) (fun c27 => ?_) (fun c27 => ?_)
          · replace h := fT c27 h
            cases h
            exact J20 _ _ _ hP hD hS (lv_sub hl [1] rfl)
          · replace h := fF c27 h
            refine lv_aload_n hx hb dX7_runText_47 rfl (lv_at hl 0 rfl) ?_
            refine va_get (D := D) (ci := 5) (C := RX7) (T := TX7) (N := 21) hx hb hts hinRX7 hown hK hP 0 rfl rfl 10 (by decide) q3 (fun _ h9 => h9) rfl dX7_runText_48 ?_
            refine lv_iconst (v := (4 : Int32)) hx hb dX7_runText_51 (by decide) ?_
            refine lv_iload_n hx hb dX7_runText_52 rfl (lv_at hl 1 rfl) ?_
            refine lv_imul hx hb dX7_runText_53 ?_
            obtain ⟨g28, h⟩ := fG h
            refine va_iald hx hb hK hP 6 0 rfl rfl g28 dX7_runText_54 ?_
            refine lv_bipush (v := (99 : Int32)) hx hb dX7_runText_55 (by decide) ?_
            obtain ⟨ms29, g30, h⟩ := fB1 h
            have J31 : ∀ (H : Heap) (locs : List Loc) (ls : Array Slot), va_P D vwCl (MW w y (0 : Int32) ms29 mst8 smn9 msl mhs mtx (0 : Int32) mat2 mwl3 mrd4 mrm5 mtp24 mbt25 mtm mtn mnt mnb mun mum mau) H → va_D A (MW w y (0 : Int32) ms29 mst8 smn9 msl mhs mtx (0 : Int32) mat2 mwl3 mrd4 mrm5 mtp24 mbt25 mtm mtn mnt mnb mun mum mau) → va_S A s.heap H locs → lv_has ls 2 [(0, .ref (w 0)), (1, .int x11)] → W p l e rm_X7_runText s m args below meth c H locs 0 0 Q (F0 m 103 ls []) := by
              intro H locs ls hP hD hS hl
              refine lv_iinc (v := x11 + (1 : Int32)) (lv' := [(1, .int (x11 + (1 : Int32))), (0, .ref (w 0))]) hx hb dX7_runText_103 hl (k := 1) rfl rfl (by decide) rfl (fun ls hl => ?_)
              refine lv_goto (tgt := 29) hx hb dX7_runText_106 (by decide) ?_
              exact ih (x11 + (1 : Int32)) ms29 mtp24 mbt25 _ _ _ h hP hD hS (lv_sub hl [1, 0] rfl)
            refine lv_icmp_ne (tgt := 88) hx hb dX7_runText_57 (by decide) (fun c32 => ?_) (fun c32 => ?_)
            · replace g30 := fF c32 g30
              refine lv_aload_n hx hb dX7_runText_88 rfl (lv_at hl 0 rfl) ?_
              refine lv_aload_n hx hb dX7_runText_89 rfl (lv_at hl 0 rfl) ?_
              refine va_get (D := D) (ci := 5) (C := RX7) (T := TX7) (N := 21) hx hb hts hinRX7 hown hK hP 0 rfl rfl 10 (by decide) q3 (fun _ h9 => h9) rfl dX7_runText_90 ?_
              refine lv_iconst (v := (4 : Int32)) hx hb dX7_runText_93 (by decide) ?_
              refine lv_iload_n hx hb dX7_runText_94 rfl (lv_at hl 1 rfl) ?_
              refine lv_imul hx hb dX7_runText_95 ?_
              refine lv_iconst (v := (1 : Int32)) hx hb dX7_runText_96 (by decide) ?_
              refine lv_iadd hx hb dX7_runText_97 ?_
              obtain ⟨g33, g30⟩ := fG g30
              refine va_iald hx hb hK hP 6 0 rfl rfl g33 dX7_runText_98 ?_
              obtain ⟨r34, ms35, g36, g30⟩ := fB2 g30
              refine cV_i (As := [.int (mrd4 (((4 : Int32) * x11) + (1 : Int32)).toNatClampNeg)]) (rest := []) (ws1 := (MW w y (0 : Int32) ms35 mst8 smn9 msl mhs mtx (0 : Int32) mat2 mwl3 mrd4 mrm5 mtp24 mbt25 mtm mtn mnt mnb mun mum mau)) ⟨hx, hb, hml, hown, hts⟩ (c_X7_puts l D w y _ (0 : Int32) ms12 mst8 smn9 msl mhs mtx (0 : Int32) mat2 mwl3 mrd4 mrm5 mtp24 mbt25 mtm mtn mnt mnb mun mum mau (mrd4 (((4 : Int32) * x11) + (1 : Int32)).toNatClampNeg) r34 ms35 g36) (cwV 1 hts gX7_runText_X7_puts rfl rfl rfl hd_X7_puts ⟨Nat.le_of_ble_eq_true rfl, Nat.le_of_ble_eq_true rfl⟩) hK hP hD hS hA [0, 1, 2, 3, 4, 5, 6, 7, 8] [] [0, 1, 2, 3, 4, 5, 6, 7, 8] rfl rfl rfl (by decide) rfl rfl rfl 0 (ci := 5) rfl rfl rfl hl.1 rfl (Nat.le_of_ble_eq_true rfl) dX7_runText_99 ⟨Nat.le_of_ble_eq_true rfl, Nat.le_of_ble_eq_true rfl⟩ (fun H locs hP hD hS => ?_)
              refine lv_pop hx hb dX7_runText_102 rfl ?_
              cases g30
              exact J31 _ _ _ hP hD hS (lv_sub hl [0, 1] rfl)
            · replace g30 := fT c32 g30
              refine lv_aload_n hx hb dX7_runText_60 rfl (lv_at hl 0 rfl) ?_
              refine lv_aload_n hx hb dX7_runText_61 rfl (lv_at hl 0 rfl) ?_
              refine va_get (D := D) (ci := 5) (C := RX7) (T := TX7) (N := 21) hx hb hts hinRX7 hown hK hP 0 rfl rfl 10 (by decide) q3 (fun _ h9 => h9) rfl dX7_runText_62 ?_
              refine lv_iconst (v := (4 : Int32)) hx hb dX7_runText_65 (by decide) ?_
              refine lv_iload_n hx hb dX7_runText_66 rfl (lv_at hl 1 rfl) ?_
              refine lv_imul hx hb dX7_runText_67 ?_
              refine lv_iconst (v := (1 : Int32)) hx hb dX7_runText_68 (by decide) ?_
              refine lv_iadd hx hb dX7_runText_69 ?_
              obtain ⟨g37, g30⟩ := fG g30
              refine va_iald hx hb hK hP 6 0 rfl rfl g37 dX7_runText_70 ?_
              refine lv_aload_n hx hb dX7_runText_71 rfl (lv_at hl 0 rfl) ?_
              refine va_get (D := D) (ci := 5) (C := RX7) (T := TX7) (N := 21) hx hb hts hinRX7 hown hK hP 0 rfl rfl 10 (by decide) q3 (fun _ h9 => h9) rfl dX7_runText_72 ?_
              refine lv_iconst (v := (4 : Int32)) hx hb dX7_runText_75 (by decide) ?_
              refine lv_iload_n hx hb dX7_runText_76 rfl (lv_at hl 1 rfl) ?_
              refine lv_imul hx hb dX7_runText_77 ?_
              refine lv_iconst (v := (2 : Int32)) hx hb dX7_runText_78 (by decide) ?_
              refine lv_iadd hx hb dX7_runText_79 ?_
              obtain ⟨g38, g30⟩ := fG g30
              refine va_iald hx hb hK hP 6 0 rfl rfl g38 dX7_runText_80 ?_
              obtain ⟨r39, ms40, g41, g30⟩ := fB2 g30
              refine cV_i (As := [.int (mrd4 (((4 : Int32) * x11) + (1 : Int32)).toNatClampNeg), .int (mrd4 (((4 : Int32) * x11) + (2 : Int32)).toNatClampNeg)]) (rest := []) (ws1 := (MW w y (0 : Int32) ms40 mst8 smn9 msl mhs mtx (0 : Int32) mat2 mwl3 mrd4 mrm5 mtp24 mbt25 mtm mtn mnt mnb mun mum mau)) ⟨hx, hb, hml, hown, hts⟩ (c_X7_copies l D w y _ (0 : Int32) ms12 mst8 smn9 msl mhs mtx (0 : Int32) mat2 mwl3 mrd4 mrm5 mtp24 mbt25 mtm mtn mnt mnb mun mum mau (mrd4 (((4 : Int32) * x11) + (1 : Int32)).toNatClampNeg) (mrd4 (((4 : Int32) * x11) + (2 : Int32)).toNatClampNeg) r39 ms40 g41) (cwV 2 hts gX7_runText_X7_copies rfl rfl rfl hd_X7_copies ⟨Nat.le_of_ble_eq_true rfl, Nat.le_of_ble_eq_true rfl⟩) hK hP hD hS hA [0, 1, 2, 3, 4, 5, 6, 7, 8] [] [0, 1, 2, 3, 4, 5, 6, 7, 8] rfl rfl rfl (by decide) rfl rfl rfl 0 (ci := 5) rfl rfl rfl hl.1 rfl (Nat.le_of_ble_eq_true rfl) dX7_runText_81 ⟨Nat.le_of_ble_eq_true rfl, Nat.le_of_ble_eq_true rfl⟩ (fun H locs hP hD hS => ?_)
              refine lv_pop hx hb dX7_runText_84 rfl ?_
              refine lv_goto (tgt := 103) hx hb dX7_runText_85 (by decide) ?_
              cases g30
              exact J31 _ _ _ hP hD hS (lv_sub hl [0, 1] rfl)
    exact LP21 FU (0 : Int32) ms mtp mbt _ _ _ g19 hP hD hS (lv_sub hl [1, 0] rfl)
  · replace h := fT c7 h
    refine lv_aload_n hx hb dX7_runText_12 rfl (lv_at hl 0 rfl) ?_
    refine lv_iconst (v := (1 : Int32)) hx hb dX7_runText_13 (by decide) ?_
    obtain ⟨r42, th43, g44, h⟩ := fB2 h
    refine cV_i (As := [.int (1 : Int32)]) (rest := []) (ws1 := (MW w y th43 ms mst smn msl mhs mtx mle mat2 mwl3 mrd4 mrm5 mtp mbt mtm mtn mnt mnb mun mum mau)) ⟨hx, hb, hml, hown, hts⟩ (c_X7_fails l D w y _ (0 : Int32) ms mst smn msl mhs mtx mle mat2 mwl3 mrd4 mrm5 mtp mbt mtm mtn mnt mnb mun mum mau (1 : Int32) r42 th43 g44) (cwV 1 hts gX7_runText_X7_fails rfl rfl rfl hd_X7_fails ⟨Nat.le_of_ble_eq_true rfl, Nat.le_of_ble_eq_true rfl⟩) hK hP hD hS hA [0, 1, 2, 3, 4, 5, 6, 7, 8] [] [0, 1, 2, 3, 4, 5, 6, 7, 8] rfl rfl rfl (by decide) rfl rfl rfl 0 (ci := 5) rfl rfl rfl hl.1 rfl (Nat.le_of_ble_eq_true rfl) dX7_runText_14 ⟨Nat.le_of_ble_eq_true rfl, Nat.le_of_ble_eq_true rfl⟩ (fun H locs hP hD hS => ?_)
    cases h
    exact hE _ _ _ _ dX7_runText_17 hP hD hS
abbrev rm_X7_undo : Room := { frames := 1, cells := 0, slots := 0, locals := 21 }
theorem hd_X7_undo : yX7_undo.cls = RX7 ∧ yX7_undo.cls ≠ "java/lang/invoke/MethodHandle" ∧ yX7_undo.cls ≠ "java/lang/invoke/VarHandle" ∧ (parseMethodDescriptor yX7_undo.desc).map (fun d => d.parameters.length) = some 0 := by decide +kernel
set_option maxHeartbeats 0 in
set_option maxRecDepth 100000 in
theorem c_X7_undo (l : Launch) (D : va_G) (w : Nat → Nat) (y : Nat → ClassId) (sz : Nat) (th : Int32) (ms : Nat → Int32) (mst : Nat → Int32) (smn : Int32) (msl : Nat → Int32) (mhs : Nat → Int32) (mtx : Nat → Int32) (mle : Int32) (mat : Int32) (mwl : Int32) (mrd : Nat → Int32) (mrm : Int32) (mtp : Int64) (mbt : Int64) (mtm : Nat → Int32) (mtn : Int32) (mnt : Int32) (mnb : Int32) (mun : Nat → Int32) (mum : Int32) (mau : Int32) (r : Int32) (th' : Int32) (ms' : Nat → Int32) (smn' : Int32) (h : F_X7_undo th ms mst smn = some (r, th', ms', smn')) : Met l yX7_undo wsX7_undo rm_X7_undo (va_Pc [.ref (w 0)] (px D y sz (MW w y th ms mst smn msl mhs mtx mle mat mwl mrd mrm mtp mbt mtm mtn mnt mnb mun mum mau))) (Qri D y sz (MW w y th ms mst smn msl mhs mtx mle mat mwl mrd mrm mtp mbt mtm mtn mnt mnb mun mum mau) (MW w y th' ms' mst smn' msl mhs mtx mle mat mwl mrd mrm mtp mbt mtm mtn mnt mnb mun mum mau) r) 0 0 (va_A (MW w y th ms mst smn msl mhs mtx mle mat mwl mrd mrm mtp mbt mtm mtn mnt mnb mun mum mau) sz) := by
  refine hd_i (cc := cX7_undo) (maxL := 2) rfl rfl (Nat.le_of_ble_eq_true rfl) ?_
  intro p e s m args below meth c A Q H locs ls hx hb hml hts hown _ hA hP hD hK hS hl hE
  have hl : lv_has ls 2 [(0, .ref (w 0))] := hl
  have q0 := hts (.fieldLink RX7 35 "SliceSharesModel" "thrown" "I") (by decide +kernel)
  have q1 := hts (.fieldLink RX7 47 "SliceSharesModel" "stateMany" "I") (by decide +kernel)
  have q2 := hts (.fieldLink RX7 7 "SliceSharesModel" "s" "[I") (by decide +kernel)
  have q3 := hts (.fieldLink RX7 13 "SliceSharesModel" "states" "[I") (by decide +kernel)
  have hinRX7 : ∀ w ∈ wsX70, w ∈ wsX7_undo := by decide +kernel
  unfold F_X7_undo at h
  refine lv_aload_n hx hb dX7_undo_0 rfl (lv_at hl 0 rfl) ?_
  refine lv_iconst (v := (0 : Int32)) hx hb dX7_undo_1 (by decide) ?_
  refine va_put (D := D) (ci := 5) (v := .int (0 : Int32)) (ty := .int) (C := RX7) (T := TX7) (N := 21) hx hb hts hinRX7 tyX7 tyX7_ok nmX7 hown hK hP hD hS 0 rfl rfl 0 (by decide) q0 (fun _ h9 => h9) rfl (by decide +kernel) rfl rfl (Nat.le_of_ble_eq_true rfl) dX7_undo_2 (fun H locs hP hD hS => ?_)
  have hP : va_P D vwCl (MW w y (0 : Int32) ms mst smn msl mhs mtx mle mat mwl mrd mrm mtp mbt mtm mtn mnt mnb mun mum mau) H := hP
  have hD : va_D A (MW w y (0 : Int32) ms mst smn msl mhs mtx mle mat mwl mrd mrm mtp mbt mtm mtn mnt mnb mun mum mau) := hD
  refine lv_aload_n hx hb dX7_undo_5 rfl (lv_at hl 0 rfl) ?_
  refine va_get (D := D) (ci := 5) (C := RX7) (T := TX7) (N := 21) hx hb hts hinRX7 hown hK hP 0 rfl rfl 3 (by decide) q1 (fun _ h9 => h9) rfl dX7_undo_6 ?_
  refine lv_if_ne (tgt := 18) hx hb dX7_undo_9 (by decide) (fun c1 => ?_) (fun c1 => ?_)
  · replace h := fF c1 h
    refine lv_aload_n hx hb dX7_undo_18 rfl (lv_at hl 0 rfl) ?_
    refine lv_dup hx hb dX7_undo_19 rfl ?_
    refine va_get (D := D) (ci := 5) (C := RX7) (T := TX7) (N := 21) hx hb hts hinRX7 hown hK hP 0 rfl rfl 3 (by decide) q1 (fun _ h9 => h9) rfl dX7_undo_20 ?_
    refine lv_iconst (v := (1 : Int32)) hx hb dX7_undo_23 (by decide) ?_
    refine lv_isub hx hb dX7_undo_24 ?_
    refine va_put (D := D) (ci := 5) (v := .int (smn - (1 : Int32))) (ty := .int) (C := RX7) (T := TX7) (N := 21) hx hb hts hinRX7 tyX7 tyX7_ok nmX7 hown hK hP hD hS 0 rfl rfl 3 (by decide) q1 (fun _ h9 => h9) rfl (by decide +kernel) rfl rfl (Nat.le_of_ble_eq_true rfl) dX7_undo_25 (fun H locs hP hD hS => ?_)
    have hP : va_P D vwCl (MW w y (0 : Int32) ms mst (smn - (1 : Int32)) msl mhs mtx mle mat mwl mrd mrm mtp mbt mtm mtn mnt mnb mun mum mau) H := hP
    have hD : va_D A (MW w y (0 : Int32) ms mst (smn - (1 : Int32)) msl mhs mtx mle mat mwl mrd mrm mtp mbt mtm mtn mnt mnb mun mum mau) := hD
    refine lv_iconst (v := (0 : Int32)) hx hb dX7_undo_28 (by decide) ?_
    refine lv_istore_n (lv' := [(1, .int (0 : Int32)), (0, .ref (w 0))]) hx hb dX7_undo_29 rfl hl (by decide) rfl (fun ls hl => ?_)
    obtain ⟨ms5, smn6, g7, h⟩ := fB2 h
    have J8 : ∀ (H : Heap) (locs : List Loc) (ls : Array Slot), va_P D vwCl (MW w y (0 : Int32) ms5 mst smn6 msl mhs mtx mle mat mwl mrd mrm mtp mbt mtm mtn mnt mnb mun mum mau) H → va_D A (MW w y (0 : Int32) ms5 mst smn6 msl mhs mtx mle mat mwl mrd mrm mtp mbt mtm mtn mnt mnb mun mum mau) → va_S A s.heap H locs → lv_has ls 2 [(0, .ref (w 0))] → W p l e rm_X7_undo s m args below meth c H locs 0 0 Q (F0 m 62 ls []) := by
      intro H locs ls hP hD hS hl
      refine lv_aload_n hx hb dX7_undo_62 rfl (lv_at hl 0 rfl) ?_
      refine va_get (D := D) (ci := 5) (C := RX7) (T := TX7) (N := 21) hx hb hts hinRX7 hown hK hP 0 rfl rfl 3 (by decide) q1 (fun _ h9 => h9) rfl dX7_undo_63 ?_
      cases h
      exact hE _ _ _ _ dX7_undo_66 hP hD hS
    have LP9 : ∀ (n : Nat) (x2 : Int32) (ms3 : Nat → Int32) (smn4 : Int32) (H : Heap) (locs : List Loc) (ls : Array Slot), L_X7_undo_30 n x2 ms3 mst smn4 = some (ms5, smn6) → va_P D vwCl (MW w y (0 : Int32) ms3 mst smn4 msl mhs mtx mle mat mwl mrd mrm mtp mbt mtm mtn mnt mnb mun mum mau) H → va_D A (MW w y (0 : Int32) ms3 mst smn4 msl mhs mtx mle mat mwl mrd mrm mtp mbt mtm mtn mnt mnb mun mum mau) → va_S A s.heap H locs → lv_has ls 2 [(0, .ref (w 0)), (1, .int x2)] → W p l e rm_X7_undo s m args below meth c H locs 0 0 Q (F0 m 30 ls []) := by
      intro n
      induction n with
      | zero => intro x2 ms3 smn4 H locs ls h hP hD hS hl; exact fN h
      | succ n ih =>
        intro x2 ms3 smn4 H locs ls h hP hD hS hl
        replace h := (L_X7_undo_30_s n x2 ms3 mst smn4).symm.trans h
        refine lv_iload_n hx hb dX7_undo_30 rfl (lv_at hl 1 rfl) ?_
        refine lv_bipush (v := (12 : Int32)) hx hb dX7_undo_31 (by decide) ?_
        refine lv_icmp_ge (tgt := 62) hx hb dX7_undo_33 (by decide) (fun c10 => ?_) (fun c10 => ?_)
        · replace h := fT c10 h
          cases h
          exact J8 _ _ _ hP hD hS (lv_sub hl [0] rfl)
        · replace h := fF c10 h
          refine lv_aload_n hx hb dX7_undo_36 rfl (lv_at hl 0 rfl) ?_
          refine va_get (D := D) (ci := 5) (C := RX7) (T := TX7) (N := 21) hx hb hts hinRX7 hown hK hP 0 rfl rfl 1 (by decide) q2 (fun _ h9 => h9) rfl dX7_undo_37 ?_
          refine lv_iload_n hx hb dX7_undo_40 rfl (lv_at hl 1 rfl) ?_
          refine lv_aload_n hx hb dX7_undo_41 rfl (lv_at hl 0 rfl) ?_
          refine va_get (D := D) (ci := 5) (C := RX7) (T := TX7) (N := 21) hx hb hts hinRX7 hown hK hP 0 rfl rfl 2 (by decide) q3 (fun _ h9 => h9) rfl dX7_undo_42 ?_
          refine lv_bipush (v := (12 : Int32)) hx hb dX7_undo_45 (by decide) ?_
          refine lv_aload_n hx hb dX7_undo_47 rfl (lv_at hl 0 rfl) ?_
          refine va_get (D := D) (ci := 5) (C := RX7) (T := TX7) (N := 21) hx hb hts hinRX7 hown hK hP 0 rfl rfl 3 (by decide) q1 (fun _ h9 => h9) rfl dX7_undo_48 ?_
          refine lv_imul hx hb dX7_undo_51 ?_
          refine lv_iload_n hx hb dX7_undo_52 rfl (lv_at hl 1 rfl) ?_
          refine lv_iadd hx hb dX7_undo_53 ?_
          obtain ⟨g11, h⟩ := fG h
          refine va_iald hx hb hK hP 2 0 rfl rfl g11 dX7_undo_54 ?_
          obtain ⟨g12, h⟩ := fG h
          refine va_iast hx hb hK hP hD hS 1 0 rfl rfl g12 dX7_undo_55 (fun H locs hP hD hS => ?_)
          have hP : va_P D vwCl (MW w y (0 : Int32) (upd ms3 x2.toNatClampNeg (mst (((12 : Int32) * smn4) + x2).toNatClampNeg)) mst smn4 msl mhs mtx mle mat mwl mrd mrm mtp mbt mtm mtn mnt mnb mun mum mau) H := hP
          have hD : va_D A (MW w y (0 : Int32) (upd ms3 x2.toNatClampNeg (mst (((12 : Int32) * smn4) + x2).toNatClampNeg)) mst smn4 msl mhs mtx mle mat mwl mrd mrm mtp mbt mtm mtn mnt mnb mun mum mau) := hD
          refine lv_iinc (v := x2 + (1 : Int32)) (lv' := [(1, .int (x2 + (1 : Int32))), (0, .ref (w 0))]) hx hb dX7_undo_56 hl (k := 1) rfl rfl (by decide) rfl (fun ls hl => ?_)
          refine lv_goto (tgt := 30) hx hb dX7_undo_59 (by decide) ?_
          exact ih (x2 + (1 : Int32)) (upd ms3 x2.toNatClampNeg (mst (((12 : Int32) * smn4) + x2).toNatClampNeg)) smn4 _ _ _ h hP hD hS (lv_sub hl [1, 0] rfl)
    exact LP9 FU (0 : Int32) ms (smn - (1 : Int32)) _ _ _ g7 hP hD hS (lv_sub hl [1, 0] rfl)
  · replace h := fT c1 h
    refine lv_aload_n hx hb dX7_undo_12 rfl (lv_at hl 0 rfl) ?_
    refine lv_iconst (v := (1 : Int32)) hx hb dX7_undo_13 (by decide) ?_
    obtain ⟨r13, th14, g15, h⟩ := fB2 h
    refine cV_i (As := [.int (1 : Int32)]) (rest := []) (ws1 := (MW w y th14 ms mst smn msl mhs mtx mle mat mwl mrd mrm mtp mbt mtm mtn mnt mnb mun mum mau)) ⟨hx, hb, hml, hown, hts⟩ (c_X7_fails l D w y _ (0 : Int32) ms mst smn msl mhs mtx mle mat mwl mrd mrm mtp mbt mtm mtn mnt mnb mun mum mau (1 : Int32) r13 th14 g15) (cwV 1 hts gX7_undo_X7_fails rfl rfl rfl hd_X7_fails ⟨Nat.le_of_ble_eq_true rfl, Nat.le_of_ble_eq_true rfl⟩) hK hP hD hS hA [0, 1, 2, 3, 4, 5, 6, 7, 8] [] [0, 1, 2, 3, 4, 5, 6, 7, 8] rfl rfl rfl (by decide) rfl rfl rfl 0 (ci := 5) rfl rfl rfl hl.1 rfl (Nat.le_of_ble_eq_true rfl) dX7_undo_14 ⟨Nat.le_of_ble_eq_true rfl, Nat.le_of_ble_eq_true rfl⟩ (fun H locs hP hD hS => ?_)
    cases h
    exact hE _ _ _ _ dX7_undo_17 hP hD hS
abbrev rm_X7_undoCount : Room := { frames := 0, cells := 0, slots := 0, locals := 0 }
theorem hd_X7_undoCount : yX7_undoCount.cls = RX7 ∧ yX7_undoCount.cls ≠ "java/lang/invoke/MethodHandle" ∧ yX7_undoCount.cls ≠ "java/lang/invoke/VarHandle" ∧ (parseMethodDescriptor yX7_undoCount.desc).map (fun d => d.parameters.length) = some 0 := by decide +kernel
set_option maxHeartbeats 0 in
set_option maxRecDepth 100000 in
theorem c_X7_undoCount (l : Launch) (D : va_G) (w : Nat → Nat) (y : Nat → ClassId) (sz : Nat) (th : Int32) (ms : Nat → Int32) (mst : Nat → Int32) (smn : Int32) (msl : Nat → Int32) (mhs : Nat → Int32) (mtx : Nat → Int32) (mle : Int32) (mat : Int32) (mwl : Int32) (mrd : Nat → Int32) (mrm : Int32) (mtp : Int64) (mbt : Int64) (mtm : Nat → Int32) (mtn : Int32) (mnt : Int32) (mnb : Int32) (mun : Nat → Int32) (mum : Int32) (mau : Int32) (r : Int32) (th' : Int32) (h : F_X7_undoCount th smn = some (r, th')) : Met l yX7_undoCount wsX7_undoCount rm_X7_undoCount (va_Pc [.ref (w 0)] (px D y sz (MW w y th ms mst smn msl mhs mtx mle mat mwl mrd mrm mtp mbt mtm mtn mnt mnb mun mum mau))) (Qri D y sz (MW w y th ms mst smn msl mhs mtx mle mat mwl mrd mrm mtp mbt mtm mtn mnt mnb mun mum mau) (MW w y th' ms mst smn msl mhs mtx mle mat mwl mrd mrm mtp mbt mtm mtn mnt mnb mun mum mau) r) 0 0 (va_A (MW w y th ms mst smn msl mhs mtx mle mat mwl mrd mrm mtp mbt mtm mtn mnt mnb mun mum mau) sz) := by
  refine hd_i (cc := cX7_undoCount) (maxL := 1) rfl rfl (Nat.le_of_ble_eq_true rfl) ?_
  intro p e s m args below meth c A Q H locs ls hx hb hml hts hown _ hA hP hD hK hS hl hE
  have hl : lv_has ls 1 [(0, .ref (w 0))] := hl
  have q0 := hts (.fieldLink RX7 35 "SliceSharesModel" "thrown" "I") (by decide +kernel)
  have q1 := hts (.fieldLink RX7 47 "SliceSharesModel" "stateMany" "I") (by decide +kernel)
  have hinRX7 : ∀ w ∈ wsX70, w ∈ wsX7_undoCount := by decide +kernel
  unfold F_X7_undoCount at h
  refine lv_aload_n hx hb dX7_undoCount_0 rfl (lv_at hl 0 rfl) ?_
  refine lv_iconst (v := (0 : Int32)) hx hb dX7_undoCount_1 (by decide) ?_
  refine va_put (D := D) (ci := 5) (v := .int (0 : Int32)) (ty := .int) (C := RX7) (T := TX7) (N := 21) hx hb hts hinRX7 tyX7 tyX7_ok nmX7 hown hK hP hD hS 0 rfl rfl 0 (by decide) q0 (fun _ h9 => h9) rfl (by decide +kernel) rfl rfl (Nat.le_of_ble_eq_true rfl) dX7_undoCount_2 (fun H locs hP hD hS => ?_)
  have hP : va_P D vwCl (MW w y (0 : Int32) ms mst smn msl mhs mtx mle mat mwl mrd mrm mtp mbt mtm mtn mnt mnb mun mum mau) H := hP
  have hD : va_D A (MW w y (0 : Int32) ms mst smn msl mhs mtx mle mat mwl mrd mrm mtp mbt mtm mtn mnt mnb mun mum mau) := hD
  refine lv_aload_n hx hb dX7_undoCount_5 rfl (lv_at hl 0 rfl) ?_
  refine va_get (D := D) (ci := 5) (C := RX7) (T := TX7) (N := 21) hx hb hts hinRX7 hown hK hP 0 rfl rfl 3 (by decide) q1 (fun _ h9 => h9) rfl dX7_undoCount_6 ?_
  cases h
  exact hE _ _ _ _ dX7_undoCount_9 hP hD hS
abbrev rm_X7_saveState : Room := { frames := 2, cells := 0, slots := 0, locals := 43 }
theorem hd_X7_saveState : yX7_saveState.cls = RX7 ∧ yX7_saveState.cls ≠ "java/lang/invoke/MethodHandle" ∧ yX7_saveState.cls ≠ "java/lang/invoke/VarHandle" ∧ (parseMethodDescriptor yX7_saveState.desc).map (fun d => d.parameters.length) = some 1 := by decide +kernel
set_option maxHeartbeats 0 in
set_option maxRecDepth 100000 in
theorem c_X7_saveState (l : Launch) (D : va_G) (w : Nat → Nat) (y : Nat → ClassId) (sz : Nat) (th : Int32) (ms : Nat → Int32) (mst : Nat → Int32) (smn : Int32) (msl : Nat → Int32) (mhs : Nat → Int32) (mtx : Nat → Int32) (mle : Int32) (mat : Int32) (mwl : Int32) (mrd : Nat → Int32) (mrm : Int32) (mtp : Int64) (mbt : Int64) (mtm : Nat → Int32) (mtn : Int32) (mnt : Int32) (mnb : Int32) (mun : Nat → Int32) (mum : Int32) (mau : Int32) (a1 : Int32) (r : Int32) (th' : Int32) (msl' : Nat → Int32) (mhs' : Nat → Int32) (h : F_X7_saveState th ms msl mhs a1 = some (r, th', msl', mhs')) : Met l yX7_saveState wsX7_saveState rm_X7_saveState (va_Pc [.ref (w 0), .int a1] (px D y sz (MW w y th ms mst smn msl mhs mtx mle mat mwl mrd mrm mtp mbt mtm mtn mnt mnb mun mum mau))) (Qri D y sz (MW w y th ms mst smn msl mhs mtx mle mat mwl mrd mrm mtp mbt mtm mtn mnt mnb mun mum mau) (MW w y th' ms mst smn msl' mhs' mtx mle mat mwl mrd mrm mtp mbt mtm mtn mnt mnb mun mum mau) r) 0 0 (va_A (MW w y th ms mst smn msl mhs mtx mle mat mwl mrd mrm mtp mbt mtm mtn mnt mnb mun mum mau) sz) := by
  refine hd_i (cc := cX7_saveState) (maxL := 3) rfl rfl (Nat.le_of_ble_eq_true rfl) ?_
  intro p e s m args below meth c A Q H locs ls hx hb hml hts hown _ hA hP hD hK hS hl hE
  have hl : lv_has ls 3 [(0, .ref (w 0)), (1, .int a1)] := hl
  have q0 := hts (.fieldLink RX7 35 "SliceSharesModel" "thrown" "I") (by decide +kernel)
  have q1 := hts (.fieldLink RX7 19 "SliceSharesModel" "hasSlot" "[Z") (by decide +kernel)
  have q2 := hts (.fieldLink RX7 16 "SliceSharesModel" "slots" "[I") (by decide +kernel)
  have q3 := hts (.fieldLink RX7 7 "SliceSharesModel" "s" "[I") (by decide +kernel)
  have hinRX7 : ∀ w ∈ wsX70, w ∈ wsX7_saveState := by decide +kernel
  unfold F_X7_saveState at h
  refine lv_aload_n hx hb dX7_saveState_0 rfl (lv_at hl 0 rfl) ?_
  refine lv_iconst (v := (0 : Int32)) hx hb dX7_saveState_1 (by decide) ?_
  refine va_put (D := D) (ci := 5) (v := .int (0 : Int32)) (ty := .int) (C := RX7) (T := TX7) (N := 21) hx hb hts hinRX7 tyX7 tyX7_ok nmX7 hown hK hP hD hS 0 rfl rfl 0 (by decide) q0 (fun _ h9 => h9) rfl (by decide +kernel) rfl rfl (Nat.le_of_ble_eq_true rfl) dX7_saveState_2 (fun H locs hP hD hS => ?_)
  have hP : va_P D vwCl (MW w y (0 : Int32) ms mst smn msl mhs mtx mle mat mwl mrd mrm mtp mbt mtm mtn mnt mnb mun mum mau) H := hP
  have hD : va_D A (MW w y (0 : Int32) ms mst smn msl mhs mtx mle mat mwl mrd mrm mtp mbt mtm mtn mnt mnb mun mum mau) := hD
  refine lv_iload_n hx hb dX7_saveState_5 rfl (lv_at hl 1 rfl) ?_
  refine lv_iconst (v := (0 : Int32)) hx hb dX7_saveState_6 (by decide) ?_
  refine lv_iconst (v := (1 : Int32)) hx hb dX7_saveState_7 (by decide) ?_
  refine cT_i (As := [.int a1, .int (0 : Int32), .int (1 : Int32)]) (rest := []) ⟨hx, hb, hml, hown, hts⟩ (c_X7_in l D y _ a1 (0 : Int32) (1 : Int32)) (va_cwS 3 hts gX7_saveState_X7_in rfl rfl rfl hd_X7_in ⟨Nat.le_of_ble_eq_true rfl, Nat.le_of_ble_eq_true rfl⟩) hK hP hD hS hA rfl hl.1 rfl (Nat.le_of_ble_eq_true rfl) dX7_saveState_8 ⟨Nat.le_of_ble_eq_true rfl, Nat.le_of_ble_eq_true rfl⟩ (fun H locs hP hD hS => ?_)
  refine lv_if_ne (tgt := 20) hx hb dX7_saveState_11 (by decide) (fun c1 => ?_) (fun c1 => ?_)
  · replace h := fF c1 h
    refine lv_iconst (v := (0 : Int32)) hx hb dX7_saveState_20 (by decide) ?_
    refine lv_istore_n (lv' := [(2, .int (0 : Int32)), (0, .ref (w 0)), (1, .int a1)]) hx hb dX7_saveState_21 rfl hl (by decide) rfl (fun ls hl => ?_)
    obtain ⟨msl4, g5, h⟩ := fB1 h
    have J6 : ∀ (H : Heap) (locs : List Loc) (ls : Array Slot), va_P D vwCl (MW w y (0 : Int32) ms mst smn msl4 mhs mtx mle mat mwl mrd mrm mtp mbt mtm mtn mnt mnb mun mum mau) H → va_D A (MW w y (0 : Int32) ms mst smn msl4 mhs mtx mle mat mwl mrd mrm mtp mbt mtm mtn mnt mnb mun mum mau) → va_S A s.heap H locs → lv_has ls 3 [(0, .ref (w 0)), (1, .int a1)] → W p l e rm_X7_saveState s m args below meth c H locs 0 0 Q (F0 m 51 ls []) := by
      intro H locs ls hP hD hS hl
      refine lv_aload_n hx hb dX7_saveState_51 rfl (lv_at hl 0 rfl) ?_
      refine va_get (D := D) (ci := 5) (C := RX7) (T := TX7) (N := 21) hx hb hts hinRX7 hown hK hP 0 rfl rfl 5 (by decide) q1 (fun _ h9 => h9) rfl dX7_saveState_52 ?_
      refine lv_iload_n hx hb dX7_saveState_55 rfl (lv_at hl 1 rfl) ?_
      refine lv_iconst (v := (1 : Int32)) hx hb dX7_saveState_56 (by decide) ?_
      obtain ⟨g7, h⟩ := fG h
      refine va_zast hx hb hK hP hD hS 4 3 rfl rfl g7 dX7_saveState_57 (fun H locs hP hD hS => ?_)
      have hP : va_P D vwCl (MW w y (0 : Int32) ms mst smn msl4 (upd mhs a1.toNatClampNeg (vp_nar .boolean (1 : Int32))) mtx mle mat mwl mrd mrm mtp mbt mtm mtn mnt mnb mun mum mau) H := hP
      have hD : va_D A (MW w y (0 : Int32) ms mst smn msl4 (upd mhs a1.toNatClampNeg (vp_nar .boolean (1 : Int32))) mtx mle mat mwl mrd mrm mtp mbt mtm mtn mnt mnb mun mum mau) := hD
      refine lv_aload_n hx hb dX7_saveState_58 rfl (lv_at hl 0 rfl) ?_
      obtain ⟨r8, g9, h⟩ := fB1 h
      refine cV_i (As := []) (rest := []) (ws1 := (MW w y (0 : Int32) ms mst smn msl4 (upd mhs a1.toNatClampNeg (vp_nar .boolean (1 : Int32))) mtx mle mat mwl mrd mrm mtp mbt mtm mtn mnt mnb mun mum mau)) ⟨hx, hb, hml, hown, hts⟩ (c_X7_wholeMany l D w y _ (0 : Int32) ms mst smn msl4 (upd mhs a1.toNatClampNeg (vp_nar .boolean (1 : Int32))) mtx mle mat mwl mrd mrm mtp mbt mtm mtn mnt mnb mun mum mau r8 g9) (cwV 0 hts gX7_saveState_X7_wholeMany rfl rfl rfl hd_X7_wholeMany ⟨Nat.le_of_ble_eq_true rfl, Nat.le_of_ble_eq_true rfl⟩) hK hP hD hS hA [0, 1, 2, 3, 4, 5, 6, 7, 8] [] [0, 1, 2, 3, 4, 5, 6, 7, 8] rfl rfl rfl (by decide) rfl rfl rfl 0 (ci := 5) rfl rfl rfl hl.1 rfl (Nat.le_of_ble_eq_true rfl) dX7_saveState_59 ⟨Nat.le_of_ble_eq_true rfl, Nat.le_of_ble_eq_true rfl⟩ (fun H locs hP hD hS => ?_)
      cases h
      exact hE _ _ _ _ dX7_saveState_62 hP hD hS
    have LP10 : ∀ (n : Nat) (x2 : Int32) (msl3 : Nat → Int32) (H : Heap) (locs : List Loc) (ls : Array Slot), L_X7_saveState_22 n a1 x2 ms msl3 = some msl4 → va_P D vwCl (MW w y (0 : Int32) ms mst smn msl3 mhs mtx mle mat mwl mrd mrm mtp mbt mtm mtn mnt mnb mun mum mau) H → va_D A (MW w y (0 : Int32) ms mst smn msl3 mhs mtx mle mat mwl mrd mrm mtp mbt mtm mtn mnt mnb mun mum mau) → va_S A s.heap H locs → lv_has ls 3 [(0, .ref (w 0)), (1, .int a1), (2, .int x2)] → W p l e rm_X7_saveState s m args below meth c H locs 0 0 Q (F0 m 22 ls []) := by
      intro n
      induction n with
      | zero => intro x2 msl3 H locs ls h hP hD hS hl; exact fN h
      | succ n ih =>
        intro x2 msl3 H locs ls h hP hD hS hl
        replace h := (L_X7_saveState_22_s n a1 x2 ms msl3).symm.trans h
        refine lv_iload_n hx hb dX7_saveState_22 rfl (lv_at hl 2 rfl) ?_
        refine lv_bipush (v := (12 : Int32)) hx hb dX7_saveState_23 (by decide) ?_
        refine lv_icmp_ge (tgt := 51) hx hb dX7_saveState_25 (by decide) (fun c11 => ?_) (fun c11 => ?_)
        · replace h := fT c11 h
          cases h
          exact J6 _ _ _ hP hD hS (lv_sub hl [0, 1] rfl)
        · replace h := fF c11 h
          refine lv_aload_n hx hb dX7_saveState_28 rfl (lv_at hl 0 rfl) ?_
          refine va_get (D := D) (ci := 5) (C := RX7) (T := TX7) (N := 21) hx hb hts hinRX7 hown hK hP 0 rfl rfl 4 (by decide) q2 (fun _ h9 => h9) rfl dX7_saveState_29 ?_
          refine lv_bipush (v := (12 : Int32)) hx hb dX7_saveState_32 (by decide) ?_
          refine lv_iload_n hx hb dX7_saveState_34 rfl (lv_at hl 1 rfl) ?_
          refine lv_imul hx hb dX7_saveState_35 ?_
          refine lv_iload_n hx hb dX7_saveState_36 rfl (lv_at hl 2 rfl) ?_
          refine lv_iadd hx hb dX7_saveState_37 ?_
          refine lv_aload_n hx hb dX7_saveState_38 rfl (lv_at hl 0 rfl) ?_
          refine va_get (D := D) (ci := 5) (C := RX7) (T := TX7) (N := 21) hx hb hts hinRX7 hown hK hP 0 rfl rfl 1 (by decide) q3 (fun _ h9 => h9) rfl dX7_saveState_39 ?_
          refine lv_iload_n hx hb dX7_saveState_42 rfl (lv_at hl 2 rfl) ?_
          obtain ⟨g12, h⟩ := fG h
          refine va_iald hx hb hK hP 1 0 rfl rfl g12 dX7_saveState_43 ?_
          obtain ⟨g13, h⟩ := fG h
          refine va_iast hx hb hK hP hD hS 3 0 rfl rfl g13 dX7_saveState_44 (fun H locs hP hD hS => ?_)
          have hP : va_P D vwCl (MW w y (0 : Int32) ms mst smn (upd msl3 (((12 : Int32) * a1) + x2).toNatClampNeg (ms x2.toNatClampNeg)) mhs mtx mle mat mwl mrd mrm mtp mbt mtm mtn mnt mnb mun mum mau) H := hP
          have hD : va_D A (MW w y (0 : Int32) ms mst smn (upd msl3 (((12 : Int32) * a1) + x2).toNatClampNeg (ms x2.toNatClampNeg)) mhs mtx mle mat mwl mrd mrm mtp mbt mtm mtn mnt mnb mun mum mau) := hD
          refine lv_iinc (v := x2 + (1 : Int32)) (lv' := [(2, .int (x2 + (1 : Int32))), (0, .ref (w 0)), (1, .int a1)]) hx hb dX7_saveState_45 hl (k := 2) rfl rfl (by decide) rfl (fun ls hl => ?_)
          refine lv_goto (tgt := 22) hx hb dX7_saveState_48 (by decide) ?_
          exact ih (x2 + (1 : Int32)) (upd msl3 (((12 : Int32) * a1) + x2).toNatClampNeg (ms x2.toNatClampNeg)) _ _ _ h hP hD hS (lv_sub hl [1, 2, 0] rfl)
    exact LP10 FU (0 : Int32) msl _ _ _ g5 hP hD hS (lv_sub hl [1, 2, 0] rfl)
  · replace h := fT c1 h
    refine lv_aload_n hx hb dX7_saveState_14 rfl (lv_at hl 0 rfl) ?_
    refine lv_iconst (v := (1 : Int32)) hx hb dX7_saveState_15 (by decide) ?_
    obtain ⟨r14, th15, g16, h⟩ := fB2 h
    refine cV_i (As := [.int (1 : Int32)]) (rest := []) (ws1 := (MW w y th15 ms mst smn msl mhs mtx mle mat mwl mrd mrm mtp mbt mtm mtn mnt mnb mun mum mau)) ⟨hx, hb, hml, hown, hts⟩ (c_X7_fails l D w y _ (0 : Int32) ms mst smn msl mhs mtx mle mat mwl mrd mrm mtp mbt mtm mtn mnt mnb mun mum mau (1 : Int32) r14 th15 g16) (cwV 1 hts gX7_saveState_X7_fails rfl rfl rfl hd_X7_fails ⟨Nat.le_of_ble_eq_true rfl, Nat.le_of_ble_eq_true rfl⟩) hK hP hD hS hA [0, 1, 2, 3, 4, 5, 6, 7, 8] [] [0, 1, 2, 3, 4, 5, 6, 7, 8] rfl rfl rfl (by decide) rfl rfl rfl 0 (ci := 5) rfl rfl rfl hl.1 rfl (Nat.le_of_ble_eq_true rfl) dX7_saveState_16 ⟨Nat.le_of_ble_eq_true rfl, Nat.le_of_ble_eq_true rfl⟩ (fun H locs hP hD hS => ?_)
    cases h
    exact hE _ _ _ _ dX7_saveState_19 hP hD hS
abbrev rm_X7_loadState : Room := { frames := 2, cells := 0, slots := 0, locals := 43 }
theorem hd_X7_loadState : yX7_loadState.cls = RX7 ∧ yX7_loadState.cls ≠ "java/lang/invoke/MethodHandle" ∧ yX7_loadState.cls ≠ "java/lang/invoke/VarHandle" ∧ (parseMethodDescriptor yX7_loadState.desc).map (fun d => d.parameters.length) = some 1 := by decide +kernel
set_option maxHeartbeats 0 in
set_option maxRecDepth 100000 in
theorem c_X7_loadState (l : Launch) (D : va_G) (w : Nat → Nat) (y : Nat → ClassId) (sz : Nat) (th : Int32) (ms : Nat → Int32) (mst : Nat → Int32) (smn : Int32) (msl : Nat → Int32) (mhs : Nat → Int32) (mtx : Nat → Int32) (mle : Int32) (mat : Int32) (mwl : Int32) (mrd : Nat → Int32) (mrm : Int32) (mtp : Int64) (mbt : Int64) (mtm : Nat → Int32) (mtn : Int32) (mnt : Int32) (mnb : Int32) (mun : Nat → Int32) (mum : Int32) (mau : Int32) (a1 : Int32) (r : Int32) (th' : Int32) (ms' : Nat → Int32) (mst' : Nat → Int32) (smn' : Int32) (h : F_X7_loadState th ms mst smn msl mhs a1 = some (r, th', ms', mst', smn')) : Met l yX7_loadState wsX7_loadState rm_X7_loadState (va_Pc [.ref (w 0), .int a1] (px D y sz (MW w y th ms mst smn msl mhs mtx mle mat mwl mrd mrm mtp mbt mtm mtn mnt mnb mun mum mau))) (Qri D y sz (MW w y th ms mst smn msl mhs mtx mle mat mwl mrd mrm mtp mbt mtm mtn mnt mnb mun mum mau) (MW w y th' ms' mst' smn' msl mhs mtx mle mat mwl mrd mrm mtp mbt mtm mtn mnt mnb mun mum mau) r) 0 0 (va_A (MW w y th ms mst smn msl mhs mtx mle mat mwl mrd mrm mtp mbt mtm mtn mnt mnb mun mum mau) sz) := by
  refine hd_i (cc := cX7_loadState) (maxL := 3) rfl rfl (Nat.le_of_ble_eq_true rfl) ?_
  intro p e s m args below meth c A Q H locs ls hx hb hml hts hown _ hA hP hD hK hS hl hE
  have hl : lv_has ls 3 [(0, .ref (w 0)), (1, .int a1)] := hl
  have q0 := hts (.fieldLink RX7 35 "SliceSharesModel" "thrown" "I") (by decide +kernel)
  have q1 := hts (.fieldLink RX7 19 "SliceSharesModel" "hasSlot" "[Z") (by decide +kernel)
  have q2 := hts (.fieldLink RX7 7 "SliceSharesModel" "s" "[I") (by decide +kernel)
  have q3 := hts (.fieldLink RX7 16 "SliceSharesModel" "slots" "[I") (by decide +kernel)
  have hinRX7 : ∀ w ∈ wsX70, w ∈ wsX7_loadState := by decide +kernel
  unfold F_X7_loadState at h
  refine lv_aload_n hx hb dX7_loadState_0 rfl (lv_at hl 0 rfl) ?_
  refine lv_iconst (v := (0 : Int32)) hx hb dX7_loadState_1 (by decide) ?_
  refine va_put (D := D) (ci := 5) (v := .int (0 : Int32)) (ty := .int) (C := RX7) (T := TX7) (N := 21) hx hb hts hinRX7 tyX7 tyX7_ok nmX7 hown hK hP hD hS 0 rfl rfl 0 (by decide) q0 (fun _ h9 => h9) rfl (by decide +kernel) rfl rfl (Nat.le_of_ble_eq_true rfl) dX7_loadState_2 (fun H locs hP hD hS => ?_)
  have hP : va_P D vwCl (MW w y (0 : Int32) ms mst smn msl mhs mtx mle mat mwl mrd mrm mtp mbt mtm mtn mnt mnb mun mum mau) H := hP
  have hD : va_D A (MW w y (0 : Int32) ms mst smn msl mhs mtx mle mat mwl mrd mrm mtp mbt mtm mtn mnt mnb mun mum mau) := hD
  refine lv_iload_n hx hb dX7_loadState_5 rfl (lv_at hl 1 rfl) ?_
  refine lv_iconst (v := (0 : Int32)) hx hb dX7_loadState_6 (by decide) ?_
  refine lv_iconst (v := (1 : Int32)) hx hb dX7_loadState_7 (by decide) ?_
  refine cT_i (As := [.int a1, .int (0 : Int32), .int (1 : Int32)]) (rest := []) ⟨hx, hb, hml, hown, hts⟩ (c_X7_in l D y _ a1 (0 : Int32) (1 : Int32)) (va_cwS 3 hts gX7_loadState_X7_in rfl rfl rfl hd_X7_in ⟨Nat.le_of_ble_eq_true rfl, Nat.le_of_ble_eq_true rfl⟩) hK hP hD hS hA rfl hl.1 rfl (Nat.le_of_ble_eq_true rfl) dX7_loadState_8 ⟨Nat.le_of_ble_eq_true rfl, Nat.le_of_ble_eq_true rfl⟩ (fun H locs hP hD hS => ?_)
  refine lv_if_ne (tgt := 20) hx hb dX7_loadState_11 (by decide) (fun c1 => ?_) (fun c1 => ?_)
  · replace h := fF c1 h
    refine lv_aload_n hx hb dX7_loadState_20 rfl (lv_at hl 0 rfl) ?_
    refine va_get (D := D) (ci := 5) (C := RX7) (T := TX7) (N := 21) hx hb hts hinRX7 hown hK hP 0 rfl rfl 5 (by decide) q1 (fun _ h9 => h9) rfl dX7_loadState_21 ?_
    refine lv_iload_n hx hb dX7_loadState_24 rfl (lv_at hl 1 rfl) ?_
    obtain ⟨g2, h⟩ := fG h
    refine va_zald hx hb hK hP 4 3 rfl rfl g2 dX7_loadState_25 ?_
    refine lv_if_ne (tgt := 35) hx hb dX7_loadState_26 (by decide) (fun c3 => ?_) (fun c3 => ?_)
    · replace h := fF c3 h
      refine lv_aload_n hx hb dX7_loadState_35 rfl (lv_at hl 0 rfl) ?_
      obtain ⟨mst4, smn5, g6, h⟩ := fB2 h
      refine cV_v (As := []) (rest := []) (ws1 := (MW w y (0 : Int32) ms mst4 smn5 msl mhs mtx mle mat mwl mrd mrm mtp mbt mtm mtn mnt mnb mun mum mau)) ⟨hx, hb, hml, hown, hts⟩ (c_X7_records l D w y _ (0 : Int32) ms mst smn msl mhs mtx mle mat mwl mrd mrm mtp mbt mtm mtn mnt mnb mun mum mau mst4 smn5 g6) (cwV 0 hts gX7_loadState_X7_records rfl rfl rfl hd_X7_records ⟨Nat.le_of_ble_eq_true rfl, Nat.le_of_ble_eq_true rfl⟩) hK hP hD hS hA [0, 1, 2, 3, 4, 5, 6, 7, 8] [] [0, 1, 2, 3, 4, 5, 6, 7, 8] rfl rfl rfl (by decide) rfl rfl rfl 0 (ci := 5) rfl rfl rfl hl.1 rfl (Nat.le_of_ble_eq_true rfl) dX7_loadState_36 ⟨Nat.le_of_ble_eq_true rfl, Nat.le_of_ble_eq_true rfl⟩ (fun H locs hP hD hS => ?_)
      refine lv_iconst (v := (0 : Int32)) hx hb dX7_loadState_39 (by decide) ?_
      refine lv_istore_n (lv' := [(2, .int (0 : Int32)), (0, .ref (w 0)), (1, .int a1)]) hx hb dX7_loadState_40 rfl hl (by decide) rfl (fun ls hl => ?_)
      obtain ⟨ms9, g10, h⟩ := fB1 h
      have J11 : ∀ (H : Heap) (locs : List Loc) (ls : Array Slot), va_P D vwCl (MW w y (0 : Int32) ms9 mst4 smn5 msl mhs mtx mle mat mwl mrd mrm mtp mbt mtm mtn mnt mnb mun mum mau) H → va_D A (MW w y (0 : Int32) ms9 mst4 smn5 msl mhs mtx mle mat mwl mrd mrm mtp mbt mtm mtn mnt mnb mun mum mau) → va_S A s.heap H locs → lv_has ls 3 [(0, .ref (w 0))] → W p l e rm_X7_loadState s m args below meth c H locs 0 0 Q (F0 m 70 ls []) := by
        intro H locs ls hP hD hS hl
        refine lv_aload_n hx hb dX7_loadState_70 rfl (lv_at hl 0 rfl) ?_
        obtain ⟨r12, g13, h⟩ := fB1 h
        refine cV_i (As := []) (rest := []) (ws1 := (MW w y (0 : Int32) ms9 mst4 smn5 msl mhs mtx mle mat mwl mrd mrm mtp mbt mtm mtn mnt mnb mun mum mau)) ⟨hx, hb, hml, hown, hts⟩ (c_X7_wholeMany l D w y _ (0 : Int32) ms9 mst4 smn5 msl mhs mtx mle mat mwl mrd mrm mtp mbt mtm mtn mnt mnb mun mum mau r12 g13) (cwV 0 hts gX7_loadState_X7_wholeMany rfl rfl rfl hd_X7_wholeMany ⟨Nat.le_of_ble_eq_true rfl, Nat.le_of_ble_eq_true rfl⟩) hK hP hD hS hA [0, 1, 2, 3, 4, 5, 6, 7, 8] [] [0, 1, 2, 3, 4, 5, 6, 7, 8] rfl rfl rfl (by decide) rfl rfl rfl 0 (ci := 5) rfl rfl rfl hl.1 rfl (Nat.le_of_ble_eq_true rfl) dX7_loadState_71 ⟨Nat.le_of_ble_eq_true rfl, Nat.le_of_ble_eq_true rfl⟩ (fun H locs hP hD hS => ?_)
        cases h
        exact hE _ _ _ _ dX7_loadState_74 hP hD hS
      have LP14 : ∀ (n : Nat) (x7 : Int32) (ms8 : Nat → Int32) (H : Heap) (locs : List Loc) (ls : Array Slot), L_X7_loadState_41 n a1 x7 ms8 msl = some ms9 → va_P D vwCl (MW w y (0 : Int32) ms8 mst4 smn5 msl mhs mtx mle mat mwl mrd mrm mtp mbt mtm mtn mnt mnb mun mum mau) H → va_D A (MW w y (0 : Int32) ms8 mst4 smn5 msl mhs mtx mle mat mwl mrd mrm mtp mbt mtm mtn mnt mnb mun mum mau) → va_S A s.heap H locs → lv_has ls 3 [(0, .ref (w 0)), (1, .int a1), (2, .int x7)] → W p l e rm_X7_loadState s m args below meth c H locs 0 0 Q (F0 m 41 ls []) := by
        intro n
        induction n with
        | zero => intro x7 ms8 H locs ls h hP hD hS hl; exact fN h
        | succ n ih =>
          intro x7 ms8 H locs ls h hP hD hS hl
          replace h := (L_X7_loadState_41_s n a1 x7 ms8 msl).symm.trans h
          refine lv_iload_n hx hb dX7_loadState_41 rfl (lv_at hl 2 rfl) ?_
          refine lv_bipush (v := (12 : Int32)) hx hb dX7_loadState_42 (by decide) ?_
          refine lv_icmp_ge (tgt := 70) hx hb dX7_loadState_44 (by decide) (fun c15 => ?_) (fun c15 => ?_)
          · replace h := fT c15 h
            cases h
            exact J11 _ _ _ hP hD hS (lv_sub hl [0] rfl)
          · replace h := fF c15 h
            refine lv_aload_n hx hb dX7_loadState_47 rfl (lv_at hl 0 rfl) ?_
            refine va_get (D := D) (ci := 5) (C := RX7) (T := TX7) (N := 21) hx hb hts hinRX7 hown hK hP 0 rfl rfl 1 (by decide) q2 (fun _ h9 => h9) rfl dX7_loadState_48 ?_
            refine lv_iload_n hx hb dX7_loadState_51 rfl (lv_at hl 2 rfl) ?_
            refine lv_aload_n hx hb dX7_loadState_52 rfl (lv_at hl 0 rfl) ?_
            refine va_get (D := D) (ci := 5) (C := RX7) (T := TX7) (N := 21) hx hb hts hinRX7 hown hK hP 0 rfl rfl 4 (by decide) q3 (fun _ h9 => h9) rfl dX7_loadState_53 ?_
            refine lv_bipush (v := (12 : Int32)) hx hb dX7_loadState_56 (by decide) ?_
            refine lv_iload_n hx hb dX7_loadState_58 rfl (lv_at hl 1 rfl) ?_
            refine lv_imul hx hb dX7_loadState_59 ?_
            refine lv_iload_n hx hb dX7_loadState_60 rfl (lv_at hl 2 rfl) ?_
            refine lv_iadd hx hb dX7_loadState_61 ?_
            obtain ⟨g16, h⟩ := fG h
            refine va_iald hx hb hK hP 3 0 rfl rfl g16 dX7_loadState_62 ?_
            obtain ⟨g17, h⟩ := fG h
            refine va_iast hx hb hK hP hD hS 1 0 rfl rfl g17 dX7_loadState_63 (fun H locs hP hD hS => ?_)
            have hP : va_P D vwCl (MW w y (0 : Int32) (upd ms8 x7.toNatClampNeg (msl (((12 : Int32) * a1) + x7).toNatClampNeg)) mst4 smn5 msl mhs mtx mle mat mwl mrd mrm mtp mbt mtm mtn mnt mnb mun mum mau) H := hP
            have hD : va_D A (MW w y (0 : Int32) (upd ms8 x7.toNatClampNeg (msl (((12 : Int32) * a1) + x7).toNatClampNeg)) mst4 smn5 msl mhs mtx mle mat mwl mrd mrm mtp mbt mtm mtn mnt mnb mun mum mau) := hD
            refine lv_iinc (v := x7 + (1 : Int32)) (lv' := [(2, .int (x7 + (1 : Int32))), (0, .ref (w 0)), (1, .int a1)]) hx hb dX7_loadState_64 hl (k := 2) rfl rfl (by decide) rfl (fun ls hl => ?_)
            refine lv_goto (tgt := 41) hx hb dX7_loadState_67 (by decide) ?_
            exact ih (x7 + (1 : Int32)) (upd ms8 x7.toNatClampNeg (msl (((12 : Int32) * a1) + x7).toNatClampNeg)) _ _ _ h hP hD hS (lv_sub hl [1, 2, 0] rfl)
      exact LP14 FU (0 : Int32) ms _ _ _ g10 hP hD hS (lv_sub hl [1, 2, 0] rfl)
    · replace h := fT c3 h
      refine lv_aload_n hx hb dX7_loadState_29 rfl (lv_at hl 0 rfl) ?_
      refine lv_iconst (v := (2 : Int32)) hx hb dX7_loadState_30 (by decide) ?_
      obtain ⟨r18, th19, g20, h⟩ := fB2 h
      refine cV_i (As := [.int (2 : Int32)]) (rest := []) (ws1 := (MW w y th19 ms mst smn msl mhs mtx mle mat mwl mrd mrm mtp mbt mtm mtn mnt mnb mun mum mau)) ⟨hx, hb, hml, hown, hts⟩ (c_X7_fails l D w y _ (0 : Int32) ms mst smn msl mhs mtx mle mat mwl mrd mrm mtp mbt mtm mtn mnt mnb mun mum mau (2 : Int32) r18 th19 g20) (cwV 1 hts gX7_loadState_X7_fails rfl rfl rfl hd_X7_fails ⟨Nat.le_of_ble_eq_true rfl, Nat.le_of_ble_eq_true rfl⟩) hK hP hD hS hA [0, 1, 2, 3, 4, 5, 6, 7, 8] [] [0, 1, 2, 3, 4, 5, 6, 7, 8] rfl rfl rfl (by decide) rfl rfl rfl 0 (ci := 5) rfl rfl rfl hl.1 rfl (Nat.le_of_ble_eq_true rfl) dX7_loadState_31 ⟨Nat.le_of_ble_eq_true rfl, Nat.le_of_ble_eq_true rfl⟩ (fun H locs hP hD hS => ?_)
      cases h
      exact hE _ _ _ _ dX7_loadState_34 hP hD hS
  · replace h := fT c1 h
    refine lv_aload_n hx hb dX7_loadState_14 rfl (lv_at hl 0 rfl) ?_
    refine lv_iconst (v := (1 : Int32)) hx hb dX7_loadState_15 (by decide) ?_
    obtain ⟨r21, th22, g23, h⟩ := fB2 h
    refine cV_i (As := [.int (1 : Int32)]) (rest := []) (ws1 := (MW w y th22 ms mst smn msl mhs mtx mle mat mwl mrd mrm mtp mbt mtm mtn mnt mnb mun mum mau)) ⟨hx, hb, hml, hown, hts⟩ (c_X7_fails l D w y _ (0 : Int32) ms mst smn msl mhs mtx mle mat mwl mrd mrm mtp mbt mtm mtn mnt mnb mun mum mau (1 : Int32) r21 th22 g23) (cwV 1 hts gX7_loadState_X7_fails rfl rfl rfl hd_X7_fails ⟨Nat.le_of_ble_eq_true rfl, Nat.le_of_ble_eq_true rfl⟩) hK hP hD hS hA [0, 1, 2, 3, 4, 5, 6, 7, 8] [] [0, 1, 2, 3, 4, 5, 6, 7, 8] rfl rfl rfl (by decide) rfl rfl rfl 0 (ci := 5) rfl rfl rfl hl.1 rfl (Nat.le_of_ble_eq_true rfl) dX7_loadState_16 ⟨Nat.le_of_ble_eq_true rfl, Nat.le_of_ble_eq_true rfl⟩ (fun H locs hP hD hS => ?_)
    cases h
    exact hE _ _ _ _ dX7_loadState_19 hP hD hS
abbrev rm_L_set : Room := { frames := 8, cells := 1, slots := 6, locals := 125 }
theorem hd_L_set : yL_set.cls ≠ "java/lang/invoke/MethodHandle" ∧ yL_set.cls ≠ "java/lang/invoke/VarHandle" ∧ (parseMethodDescriptor yL_set.desc).map (fun d => d.parameters.length) = some 5 := by decide +kernel
set_option maxHeartbeats 0 in
set_option maxRecDepth 100000 in
theorem c_L_set (l : Launch) (hfl : l.stackTraces = false) (D : va_G) (o : Nat → Nat) (v : Nat) (y : Nat → ClassId) (sz : Nat) (pl : Nat → Int64) (te : Nat → Int32) (be : Nat → Int64) (cn : Int32) (ch : Nat → Int32) (le : Int32) (rE : Int32) (rL : Int32) (rP : Int32) (rF : Int32) (rS : Int32) (rD : Int32) (hs : Nat → Int64) (ho : Int32) (hc : Int32) (sl : Nat → Int64) (fi : Nat → Int32) (ou : Nat → Int64) (a1 : Int32) (a2 : Int32) (a3 : Int32) (r : Int32) (pl' : Nat → Int64) (hs' : Nat → Int64) (ho' : Int32) (hc' : Int32) (ou' : Nat → Int64) (h : F_L_set pl hs ho hc ou a1 a2 a3 = some (r, pl', hs', ho', hc', ou')) : Met l yL_set wsL_set rm_L_set (va_Pc [.ref (o 0), .int a1, .int a2, .int a3, .ref v] (pxe D y sz (XO o v y pl te be cn ch le rE rL rP rF rS rD hs ho hc sl fi ou))) (Qri D y sz (XO o v y pl te be cn ch le rE rL rP rF rS rD hs ho hc sl fi ou) (XO o v y pl' te be cn ch le rE rL rP rF rS rD hs' ho' hc' sl fi ou') r) 1 6 (va_A (XO o v y pl te be cn ch le rE rL rP rF rS rD hs ho hc sl fi ou) sz) := by
  refine hd_w (cc := cL_set) (maxL := 6) rfl rfl (Nat.le_of_ble_eq_true rfl) ?_
  intro p e s m args below meth c A Q H locs ls hx hb hml hts hown hA hP hD hK hS hl hEX htab hE
  have hl : lv_has ls 6 [(0, .ref (o 0)), (1, .int a1), (2, .int a2), (3, .int a3), (4, .ref v)] := hl
  have q0 := hts (.classLink RL 13 "java/lang/IndexOutOfBoundsException") (by decide +kernel)
  have q1 := hts (.classLink RL 15 "java/lang/IllegalArgumentException") (by decide +kernel)
  unfold F_L_set at h
  refine lv_aload hx hb dL_set_0 (lv_at hl 4 rfl) ?_
  refine lv_iconst (v := (0 : Int32)) hx hb dL_set_2 (by decide) ?_
  refine lv_aload_n hx hb dL_set_3 rfl (lv_at hl 0 rfl) ?_
  refine lv_iload_n hx hb dL_set_4 rfl (lv_at hl 1 rfl) ?_
  refine lv_iload_n hx hb dL_set_5 rfl (lv_at hl 2 rfl) ?_
  refine lv_iload_n hx hb dL_set_6 rfl (lv_at hl 3 rfl) ?_
  obtain ⟨k1, r2, pl3, hs4, ho5, hc6, g7, h⟩ := fB6 h
  by_cases e8 : ¬ k1 = 0
  · replace h := fF e8 h
    refine xc_V (As := [.int a1, .int a2, .int a3]) (rest := [.int (0 : Int32), .ref v]) (ws1 := (XO o v y pl3 te be cn ch le rE rL rP rF rS rD hs4 ho5 hc6 sl fi ou)) ⟨hx, hb, hml, hown, hts⟩ (x_X6_set l hfl D o y _ pl te be cn ch le rE rL rP rF rS rD hs ho hc sl fi a1 a2 a3 k1 r2 pl3 hs4 ho5 hc6 e8 g7) (cwV 3 hts gL_set_X6_set rfl rfl rfl hd_X6_set ⟨Nat.le_of_ble_eq_true rfl, Nat.le_of_ble_eq_true rfl⟩) hK hP hD hS hA hEX [0, 1, 2, 3, 4, 5, 6, 7, 8, 9, 10, 11] [12] [1, 2, 3, 4, 5, 6, 7, 8, 9, 10, 11, 12, 0] rfl rfl rfl (by decide) rfl rfl rfl 0 (ci := 4) rfl rfl rfl hl.1 rfl (Nat.le_of_ble_eq_true rfl) dL_set_7 ⟨Nat.le_of_ble_eq_true rfl, Nat.le_of_ble_eq_true rfl⟩ (fun H locs ce q hP hD hS hce hv hcl => ?_)
    by_cases c9 : k1 = 1
    · subst c9
      replace h := fT rfl h
      refine catX (E := "java/lang/IndexOutOfBoundsException") hown htab [] { startPc := 0, endPc := 12, handlerPc := 15, catchType := 13 } [{ startPc := 0, endPc := 12, handlerPc := 19, catchType := 15 }] rfl (fun z hz => absurd hz List.not_mem_nil) (by decide) (by decide) q0 (hEX.2.2.2.1 1) hce hv hcl ?_
      refine lv_astore (lv' := [(5, .ref q), (0, .ref (o 0)), (1, .int a1), (2, .int a2), (3, .int a3), (4, .ref v)]) hx hb dL_set_15 hl (by decide) rfl (fun ls hl => ?_)
      refine lv_iconst (v := (1 : Int32)) hx hb dL_set_17 (by decide) ?_
      cases h
      exact hE _ _ _ _ _ _ (by decide) (by decide) dL_set_18 hP hD hS
    replace h := fF c9 h
    by_cases c10 : k1 = 2
    · subst c10
      replace h := fT rfl h
      refine catX (E := "java/lang/IllegalArgumentException") hown htab [{ startPc := 0, endPc := 12, handlerPc := 15, catchType := 13 }] { startPc := 0, endPc := 12, handlerPc := 19, catchType := 15 } [] rfl (fun z hz => by simp only [List.mem_cons, List.not_mem_nil, or_false] at hz; subst hz; exact ⟨by decide, _, q0, hEX.2.2.2.2.2.1⟩) (by decide) (by decide) q1 (hEX.2.2.2.1 2) hce hv hcl ?_
      refine lv_astore (lv' := [(5, .ref q), (0, .ref (o 0)), (1, .int a1), (2, .int a2), (3, .int a3), (4, .ref v)]) hx hb dL_set_19 hl (by decide) rfl (fun ls hl => ?_)
      refine lv_iconst (v := (2 : Int32)) hx hb dL_set_21 (by decide) ?_
      cases h
      exact hE _ _ _ _ _ _ (by decide) (by decide) dL_set_22 hP hD hS
    replace h := fF c10 h
    exact fN h
  replace e8 := Classical.not_not.mp e8
  subst e8
  replace h := fT rfl h
  refine cV_i (As := [.int a1, .int a2, .int a3]) (rest := [.int (0 : Int32), .ref v]) (ws1 := (XO o v y pl3 te be cn ch le rE rL rP rF rS rD hs4 ho5 hc6 sl fi ou)) ⟨hx, hb, hml, hown, hts⟩ (c_X6_set l D o y _ pl te be cn ch le rE rL rP rF rS rD hs ho hc sl fi a1 a2 a3 r2 pl3 hs4 ho5 hc6 g7) (cwV 3 hts gL_set_X6_set rfl rfl rfl hd_X6_set ⟨Nat.le_of_ble_eq_true rfl, Nat.le_of_ble_eq_true rfl⟩) hK hP hD hS hA [0, 1, 2, 3, 4, 5, 6, 7, 8, 9, 10, 11] [12] [1, 2, 3, 4, 5, 6, 7, 8, 9, 10, 11, 12, 0] rfl rfl rfl (by decide) rfl rfl rfl 0 (ci := 4) rfl rfl rfl hl.1 rfl (Nat.le_of_ble_eq_true rfl) dL_set_7 ⟨Nat.le_of_ble_eq_true rfl, Nat.le_of_ble_eq_true rfl⟩ (fun H locs hP hD hS => ?_)
  refine lv_i2l (v := r2.toInt64) hx hb dL_set_10 rfl ?_
  refine va_last hx hb hK hP hD hS 12 1 rfl rfl (show ¬ ((0 : Int32) < 0 ∨ 1 ≤ (0 : Int32).toNatClampNeg) from by decide) dL_set_11 (fun H locs hP hD hS => ?_)
  have hP : va_P D vwCl (XO o v y pl3 te be cn ch le rE rL rP rF rS rD hs4 ho5 hc6 sl fi (vp_updL ou (0 : Int32).toNatClampNeg r2.toInt64)) H := hP
  have hD : va_D A (XO o v y pl3 te be cn ch le rE rL rP rF rS rD hs4 ho5 hc6 sl fi (vp_updL ou (0 : Int32).toNatClampNeg r2.toInt64)) := hD
  refine lv_goto (tgt := 23) hx hb dL_set_12 (by decide) ?_
  refine lv_iconst (v := (0 : Int32)) hx hb dL_set_23 (by decide) ?_
  cases h
  exact hE _ _ _ _ _ _ (by decide) (by decide) dL_set_24 hP hD hS
abbrev rm_L_add : Room := { frames := 8, cells := 1, slots := 6, locals := 127 }
theorem hd_L_add : yL_add.cls ≠ "java/lang/invoke/MethodHandle" ∧ yL_add.cls ≠ "java/lang/invoke/VarHandle" ∧ (parseMethodDescriptor yL_add.desc).map (fun d => d.parameters.length) = some 4 := by decide +kernel
set_option maxHeartbeats 0 in
set_option maxRecDepth 100000 in
theorem c_L_add (l : Launch) (hfl : l.stackTraces = false) (D : va_G) (o : Nat → Nat) (v : Nat) (y : Nat → ClassId) (sz : Nat) (pl : Nat → Int64) (te : Nat → Int32) (be : Nat → Int64) (cn : Int32) (ch : Nat → Int32) (le : Int32) (rE : Int32) (rL : Int32) (rP : Int32) (rF : Int32) (rS : Int32) (rD : Int32) (hs : Nat → Int64) (ho : Int32) (hc : Int32) (sl : Nat → Int64) (fi : Nat → Int32) (ou : Nat → Int64) (a1 : Int32) (a2 : Int32) (r : Int32) (pl' : Nat → Int64) (hs' : Nat → Int64) (ho' : Int32) (hc' : Int32) (ou' : Nat → Int64) (h : F_L_add pl hs ho hc ou a1 a2 = some (r, pl', hs', ho', hc', ou')) : Met l yL_add wsL_add rm_L_add (va_Pc [.ref (o 0), .int a1, .int a2, .ref v] (pxe D y sz (XO o v y pl te be cn ch le rE rL rP rF rS rD hs ho hc sl fi ou))) (Qri D y sz (XO o v y pl te be cn ch le rE rL rP rF rS rD hs ho hc sl fi ou) (XO o v y pl' te be cn ch le rE rL rP rF rS rD hs' ho' hc' sl fi ou') r) 1 6 (va_A (XO o v y pl te be cn ch le rE rL rP rF rS rD hs ho hc sl fi ou) sz) := by
  refine hd_w (cc := cL_add) (maxL := 5) rfl rfl (Nat.le_of_ble_eq_true rfl) ?_
  intro p e s m args below meth c A Q H locs ls hx hb hml hts hown hA hP hD hK hS hl hEX htab hE
  have hl : lv_has ls 5 [(0, .ref (o 0)), (1, .int a1), (2, .int a2), (3, .ref v)] := hl
  have q0 := hts (.classLink RL 13 "java/lang/IndexOutOfBoundsException") (by decide +kernel)
  have q1 := hts (.classLink RL 21 "java/lang/IllegalStateException") (by decide +kernel)
  unfold F_L_add at h
  refine lv_aload_n hx hb dL_add_0 rfl (lv_at hl 3 rfl) ?_
  refine lv_iconst (v := (0 : Int32)) hx hb dL_add_1 (by decide) ?_
  refine lv_aload_n hx hb dL_add_2 rfl (lv_at hl 0 rfl) ?_
  refine lv_iload_n hx hb dL_add_3 rfl (lv_at hl 1 rfl) ?_
  refine lv_iload_n hx hb dL_add_4 rfl (lv_at hl 2 rfl) ?_
  obtain ⟨k1, r2, pl3, hs4, ho5, hc6, g7, h⟩ := fB6 h
  by_cases e8 : ¬ k1 = 0
  · replace h := fF e8 h
    refine xc_V (As := [.int a1, .int a2]) (rest := [.int (0 : Int32), .ref v]) (ws1 := (XO o v y pl3 te be cn ch le rE rL rP rF rS rD hs4 ho5 hc6 sl fi ou)) ⟨hx, hb, hml, hown, hts⟩ (x_X6_add l hfl D o y _ pl te be cn ch le rE rL rP rF rS rD hs ho hc sl fi a1 a2 k1 r2 pl3 hs4 ho5 hc6 e8 g7) (cwV 2 hts gL_add_X6_add rfl rfl rfl hd_X6_add ⟨Nat.le_of_ble_eq_true rfl, Nat.le_of_ble_eq_true rfl⟩) hK hP hD hS hA hEX [0, 1, 2, 3, 4, 5, 6, 7, 8, 9, 10, 11] [12] [1, 2, 3, 4, 5, 6, 7, 8, 9, 10, 11, 12, 0] rfl rfl rfl (by decide) rfl rfl rfl 0 (ci := 4) rfl rfl rfl hl.1 rfl (Nat.le_of_ble_eq_true rfl) dL_add_5 ⟨Nat.le_of_ble_eq_true rfl, Nat.le_of_ble_eq_true rfl⟩ (fun H locs ce q hP hD hS hce hv hcl => ?_)
    by_cases c9 : k1 = 1
    · subst c9
      replace h := fT rfl h
      refine catX (E := "java/lang/IndexOutOfBoundsException") hown htab [] { startPc := 0, endPc := 10, handlerPc := 13, catchType := 13 } [{ startPc := 0, endPc := 10, handlerPc := 17, catchType := 21 }] rfl (fun z hz => absurd hz List.not_mem_nil) (by decide) (by decide) q0 (hEX.2.2.2.1 1) hce hv hcl ?_
      refine lv_astore (lv' := [(4, .ref q), (0, .ref (o 0)), (1, .int a1), (2, .int a2), (3, .ref v)]) hx hb dL_add_13 hl (by decide) rfl (fun ls hl => ?_)
      refine lv_iconst (v := (1 : Int32)) hx hb dL_add_15 (by decide) ?_
      cases h
      exact hE _ _ _ _ _ _ (by decide) (by decide) dL_add_16 hP hD hS
    replace h := fF c9 h
    by_cases c10 : k1 = 3
    · subst c10
      replace h := fT rfl h
      refine catX (E := "java/lang/IllegalStateException") hown htab [{ startPc := 0, endPc := 10, handlerPc := 13, catchType := 13 }] { startPc := 0, endPc := 10, handlerPc := 17, catchType := 21 } [] rfl (fun z hz => by simp only [List.mem_cons, List.not_mem_nil, or_false] at hz; subst hz; exact ⟨by decide, _, q0, hEX.2.2.2.2.2.2.1⟩) (by decide) (by decide) q1 (hEX.2.2.2.1 3) hce hv hcl ?_
      refine lv_astore (lv' := [(4, .ref q), (0, .ref (o 0)), (1, .int a1), (2, .int a2), (3, .ref v)]) hx hb dL_add_17 hl (by decide) rfl (fun ls hl => ?_)
      refine lv_iconst (v := (2 : Int32)) hx hb dL_add_19 (by decide) ?_
      cases h
      exact hE _ _ _ _ _ _ (by decide) (by decide) dL_add_20 hP hD hS
    replace h := fF c10 h
    exact fN h
  replace e8 := Classical.not_not.mp e8
  subst e8
  replace h := fT rfl h
  refine cV_i (As := [.int a1, .int a2]) (rest := [.int (0 : Int32), .ref v]) (ws1 := (XO o v y pl3 te be cn ch le rE rL rP rF rS rD hs4 ho5 hc6 sl fi ou)) ⟨hx, hb, hml, hown, hts⟩ (c_X6_add l D o y _ pl te be cn ch le rE rL rP rF rS rD hs ho hc sl fi a1 a2 r2 pl3 hs4 ho5 hc6 g7) (cwV 2 hts gL_add_X6_add rfl rfl rfl hd_X6_add ⟨Nat.le_of_ble_eq_true rfl, Nat.le_of_ble_eq_true rfl⟩) hK hP hD hS hA [0, 1, 2, 3, 4, 5, 6, 7, 8, 9, 10, 11] [12] [1, 2, 3, 4, 5, 6, 7, 8, 9, 10, 11, 12, 0] rfl rfl rfl (by decide) rfl rfl rfl 0 (ci := 4) rfl rfl rfl hl.1 rfl (Nat.le_of_ble_eq_true rfl) dL_add_5 ⟨Nat.le_of_ble_eq_true rfl, Nat.le_of_ble_eq_true rfl⟩ (fun H locs hP hD hS => ?_)
  refine lv_i2l (v := r2.toInt64) hx hb dL_add_8 rfl ?_
  refine va_last hx hb hK hP hD hS 12 1 rfl rfl (show ¬ ((0 : Int32) < 0 ∨ 1 ≤ (0 : Int32).toNatClampNeg) from by decide) dL_add_9 (fun H locs hP hD hS => ?_)
  have hP : va_P D vwCl (XO o v y pl3 te be cn ch le rE rL rP rF rS rD hs4 ho5 hc6 sl fi (vp_updL ou (0 : Int32).toNatClampNeg r2.toInt64)) H := hP
  have hD : va_D A (XO o v y pl3 te be cn ch le rE rL rP rF rS rD hs4 ho5 hc6 sl fi (vp_updL ou (0 : Int32).toNatClampNeg r2.toInt64)) := hD
  refine lv_goto (tgt := 21) hx hb dL_add_10 (by decide) ?_
  refine lv_iconst (v := (0 : Int32)) hx hb dL_add_21 (by decide) ?_
  cases h
  exact hE _ _ _ _ _ _ (by decide) (by decide) dL_add_22 hP hD hS
abbrev rm_L_takeAway : Room := { frames := 8, cells := 1, slots := 6, locals := 127 }
theorem hd_L_takeAway : yL_takeAway.cls ≠ "java/lang/invoke/MethodHandle" ∧ yL_takeAway.cls ≠ "java/lang/invoke/VarHandle" ∧ (parseMethodDescriptor yL_takeAway.desc).map (fun d => d.parameters.length) = some 4 := by decide +kernel
set_option maxHeartbeats 0 in
set_option maxRecDepth 100000 in
theorem c_L_takeAway (l : Launch) (hfl : l.stackTraces = false) (D : va_G) (o : Nat → Nat) (v : Nat) (y : Nat → ClassId) (sz : Nat) (pl : Nat → Int64) (te : Nat → Int32) (be : Nat → Int64) (cn : Int32) (ch : Nat → Int32) (le : Int32) (rE : Int32) (rL : Int32) (rP : Int32) (rF : Int32) (rS : Int32) (rD : Int32) (hs : Nat → Int64) (ho : Int32) (hc : Int32) (sl : Nat → Int64) (fi : Nat → Int32) (ou : Nat → Int64) (a1 : Int32) (a2 : Int32) (r : Int32) (pl' : Nat → Int64) (hs' : Nat → Int64) (ho' : Int32) (hc' : Int32) (ou' : Nat → Int64) (h : F_L_takeAway pl hs ho hc ou a1 a2 = some (r, pl', hs', ho', hc', ou')) : Met l yL_takeAway wsL_takeAway rm_L_takeAway (va_Pc [.ref (o 0), .int a1, .int a2, .ref v] (pxe D y sz (XO o v y pl te be cn ch le rE rL rP rF rS rD hs ho hc sl fi ou))) (Qri D y sz (XO o v y pl te be cn ch le rE rL rP rF rS rD hs ho hc sl fi ou) (XO o v y pl' te be cn ch le rE rL rP rF rS rD hs' ho' hc' sl fi ou') r) 1 6 (va_A (XO o v y pl te be cn ch le rE rL rP rF rS rD hs ho hc sl fi ou) sz) := by
  refine hd_w (cc := cL_takeAway) (maxL := 5) rfl rfl (Nat.le_of_ble_eq_true rfl) ?_
  intro p e s m args below meth c A Q H locs ls hx hb hml hts hown hA hP hD hK hS hl hEX htab hE
  have hl : lv_has ls 5 [(0, .ref (o 0)), (1, .int a1), (2, .int a2), (3, .ref v)] := hl
  have q0 := hts (.classLink RL 13 "java/lang/IndexOutOfBoundsException") (by decide +kernel)
  have q1 := hts (.classLink RL 21 "java/lang/IllegalStateException") (by decide +kernel)
  unfold F_L_takeAway at h
  refine lv_aload_n hx hb dL_takeAway_0 rfl (lv_at hl 3 rfl) ?_
  refine lv_iconst (v := (0 : Int32)) hx hb dL_takeAway_1 (by decide) ?_
  refine lv_aload_n hx hb dL_takeAway_2 rfl (lv_at hl 0 rfl) ?_
  refine lv_iload_n hx hb dL_takeAway_3 rfl (lv_at hl 1 rfl) ?_
  refine lv_iload_n hx hb dL_takeAway_4 rfl (lv_at hl 2 rfl) ?_
  obtain ⟨k1, r2, pl3, hs4, ho5, hc6, g7, h⟩ := fB6 h
  by_cases e8 : ¬ k1 = 0
  · replace h := fF e8 h
    refine xc_V (As := [.int a1, .int a2]) (rest := [.int (0 : Int32), .ref v]) (ws1 := (XO o v y pl3 te be cn ch le rE rL rP rF rS rD hs4 ho5 hc6 sl fi ou)) ⟨hx, hb, hml, hown, hts⟩ (x_X6_takeAway l hfl D o y _ pl te be cn ch le rE rL rP rF rS rD hs ho hc sl fi a1 a2 k1 r2 pl3 hs4 ho5 hc6 e8 g7) (cwV 2 hts gL_takeAway_X6_takeAway rfl rfl rfl hd_X6_takeAway ⟨Nat.le_of_ble_eq_true rfl, Nat.le_of_ble_eq_true rfl⟩) hK hP hD hS hA hEX [0, 1, 2, 3, 4, 5, 6, 7, 8, 9, 10, 11] [12] [1, 2, 3, 4, 5, 6, 7, 8, 9, 10, 11, 12, 0] rfl rfl rfl (by decide) rfl rfl rfl 0 (ci := 4) rfl rfl rfl hl.1 rfl (Nat.le_of_ble_eq_true rfl) dL_takeAway_5 ⟨Nat.le_of_ble_eq_true rfl, Nat.le_of_ble_eq_true rfl⟩ (fun H locs ce q hP hD hS hce hv hcl => ?_)
    by_cases c9 : k1 = 1
    · subst c9
      replace h := fT rfl h
      refine catX (E := "java/lang/IndexOutOfBoundsException") hown htab [] { startPc := 0, endPc := 10, handlerPc := 13, catchType := 13 } [{ startPc := 0, endPc := 10, handlerPc := 17, catchType := 21 }] rfl (fun z hz => absurd hz List.not_mem_nil) (by decide) (by decide) q0 (hEX.2.2.2.1 1) hce hv hcl ?_
      refine lv_astore (lv' := [(4, .ref q), (0, .ref (o 0)), (1, .int a1), (2, .int a2), (3, .ref v)]) hx hb dL_takeAway_13 hl (by decide) rfl (fun ls hl => ?_)
      refine lv_iconst (v := (1 : Int32)) hx hb dL_takeAway_15 (by decide) ?_
      cases h
      exact hE _ _ _ _ _ _ (by decide) (by decide) dL_takeAway_16 hP hD hS
    replace h := fF c9 h
    by_cases c10 : k1 = 3
    · subst c10
      replace h := fT rfl h
      refine catX (E := "java/lang/IllegalStateException") hown htab [{ startPc := 0, endPc := 10, handlerPc := 13, catchType := 13 }] { startPc := 0, endPc := 10, handlerPc := 17, catchType := 21 } [] rfl (fun z hz => by simp only [List.mem_cons, List.not_mem_nil, or_false] at hz; subst hz; exact ⟨by decide, _, q0, hEX.2.2.2.2.2.2.1⟩) (by decide) (by decide) q1 (hEX.2.2.2.1 3) hce hv hcl ?_
      refine lv_astore (lv' := [(4, .ref q), (0, .ref (o 0)), (1, .int a1), (2, .int a2), (3, .ref v)]) hx hb dL_takeAway_17 hl (by decide) rfl (fun ls hl => ?_)
      refine lv_iconst (v := (2 : Int32)) hx hb dL_takeAway_19 (by decide) ?_
      cases h
      exact hE _ _ _ _ _ _ (by decide) (by decide) dL_takeAway_20 hP hD hS
    replace h := fF c10 h
    exact fN h
  replace e8 := Classical.not_not.mp e8
  subst e8
  replace h := fT rfl h
  refine cV_i (As := [.int a1, .int a2]) (rest := [.int (0 : Int32), .ref v]) (ws1 := (XO o v y pl3 te be cn ch le rE rL rP rF rS rD hs4 ho5 hc6 sl fi ou)) ⟨hx, hb, hml, hown, hts⟩ (c_X6_takeAway l D o y _ pl te be cn ch le rE rL rP rF rS rD hs ho hc sl fi a1 a2 r2 pl3 hs4 ho5 hc6 g7) (cwV 2 hts gL_takeAway_X6_takeAway rfl rfl rfl hd_X6_takeAway ⟨Nat.le_of_ble_eq_true rfl, Nat.le_of_ble_eq_true rfl⟩) hK hP hD hS hA [0, 1, 2, 3, 4, 5, 6, 7, 8, 9, 10, 11] [12] [1, 2, 3, 4, 5, 6, 7, 8, 9, 10, 11, 12, 0] rfl rfl rfl (by decide) rfl rfl rfl 0 (ci := 4) rfl rfl rfl hl.1 rfl (Nat.le_of_ble_eq_true rfl) dL_takeAway_5 ⟨Nat.le_of_ble_eq_true rfl, Nat.le_of_ble_eq_true rfl⟩ (fun H locs hP hD hS => ?_)
  refine lv_i2l (v := r2.toInt64) hx hb dL_takeAway_8 rfl ?_
  refine va_last hx hb hK hP hD hS 12 1 rfl rfl (show ¬ ((0 : Int32) < 0 ∨ 1 ≤ (0 : Int32).toNatClampNeg) from by decide) dL_takeAway_9 (fun H locs hP hD hS => ?_)
  have hP : va_P D vwCl (XO o v y pl3 te be cn ch le rE rL rP rF rS rD hs4 ho5 hc6 sl fi (vp_updL ou (0 : Int32).toNatClampNeg r2.toInt64)) H := hP
  have hD : va_D A (XO o v y pl3 te be cn ch le rE rL rP rF rS rD hs4 ho5 hc6 sl fi (vp_updL ou (0 : Int32).toNatClampNeg r2.toInt64)) := hD
  refine lv_goto (tgt := 21) hx hb dL_takeAway_10 (by decide) ?_
  refine lv_iconst (v := (0 : Int32)) hx hb dL_takeAway_21 (by decide) ?_
  cases h
  exact hE _ _ _ _ _ _ (by decide) (by decide) dL_takeAway_22 hP hD hS
abbrev rm_L_multiply : Room := { frames := 8, cells := 1, slots := 6, locals := 127 }
theorem hd_L_multiply : yL_multiply.cls ≠ "java/lang/invoke/MethodHandle" ∧ yL_multiply.cls ≠ "java/lang/invoke/VarHandle" ∧ (parseMethodDescriptor yL_multiply.desc).map (fun d => d.parameters.length) = some 4 := by decide +kernel
set_option maxHeartbeats 0 in
set_option maxRecDepth 100000 in
theorem c_L_multiply (l : Launch) (hfl : l.stackTraces = false) (D : va_G) (o : Nat → Nat) (v : Nat) (y : Nat → ClassId) (sz : Nat) (pl : Nat → Int64) (te : Nat → Int32) (be : Nat → Int64) (cn : Int32) (ch : Nat → Int32) (le : Int32) (rE : Int32) (rL : Int32) (rP : Int32) (rF : Int32) (rS : Int32) (rD : Int32) (hs : Nat → Int64) (ho : Int32) (hc : Int32) (sl : Nat → Int64) (fi : Nat → Int32) (ou : Nat → Int64) (a1 : Int32) (a2 : Int32) (r : Int32) (pl' : Nat → Int64) (hs' : Nat → Int64) (ho' : Int32) (hc' : Int32) (ou' : Nat → Int64) (h : F_L_multiply pl hs ho hc ou a1 a2 = some (r, pl', hs', ho', hc', ou')) : Met l yL_multiply wsL_multiply rm_L_multiply (va_Pc [.ref (o 0), .int a1, .int a2, .ref v] (pxe D y sz (XO o v y pl te be cn ch le rE rL rP rF rS rD hs ho hc sl fi ou))) (Qri D y sz (XO o v y pl te be cn ch le rE rL rP rF rS rD hs ho hc sl fi ou) (XO o v y pl' te be cn ch le rE rL rP rF rS rD hs' ho' hc' sl fi ou') r) 1 6 (va_A (XO o v y pl te be cn ch le rE rL rP rF rS rD hs ho hc sl fi ou) sz) := by
  refine hd_w (cc := cL_multiply) (maxL := 5) rfl rfl (Nat.le_of_ble_eq_true rfl) ?_
  intro p e s m args below meth c A Q H locs ls hx hb hml hts hown hA hP hD hK hS hl hEX htab hE
  have hl : lv_has ls 5 [(0, .ref (o 0)), (1, .int a1), (2, .int a2), (3, .ref v)] := hl
  have q0 := hts (.classLink RL 13 "java/lang/IndexOutOfBoundsException") (by decide +kernel)
  have q1 := hts (.classLink RL 21 "java/lang/IllegalStateException") (by decide +kernel)
  unfold F_L_multiply at h
  refine lv_aload_n hx hb dL_multiply_0 rfl (lv_at hl 3 rfl) ?_
  refine lv_iconst (v := (0 : Int32)) hx hb dL_multiply_1 (by decide) ?_
  refine lv_aload_n hx hb dL_multiply_2 rfl (lv_at hl 0 rfl) ?_
  refine lv_iload_n hx hb dL_multiply_3 rfl (lv_at hl 1 rfl) ?_
  refine lv_iload_n hx hb dL_multiply_4 rfl (lv_at hl 2 rfl) ?_
  obtain ⟨k1, r2, pl3, hs4, ho5, hc6, g7, h⟩ := fB6 h
  by_cases e8 : ¬ k1 = 0
  · replace h := fF e8 h
    refine xc_V (As := [.int a1, .int a2]) (rest := [.int (0 : Int32), .ref v]) (ws1 := (XO o v y pl3 te be cn ch le rE rL rP rF rS rD hs4 ho5 hc6 sl fi ou)) ⟨hx, hb, hml, hown, hts⟩ (x_X6_multiply l hfl D o y _ pl te be cn ch le rE rL rP rF rS rD hs ho hc sl fi a1 a2 k1 r2 pl3 hs4 ho5 hc6 e8 g7) (cwV 2 hts gL_multiply_X6_multiply rfl rfl rfl hd_X6_multiply ⟨Nat.le_of_ble_eq_true rfl, Nat.le_of_ble_eq_true rfl⟩) hK hP hD hS hA hEX [0, 1, 2, 3, 4, 5, 6, 7, 8, 9, 10, 11] [12] [1, 2, 3, 4, 5, 6, 7, 8, 9, 10, 11, 12, 0] rfl rfl rfl (by decide) rfl rfl rfl 0 (ci := 4) rfl rfl rfl hl.1 rfl (Nat.le_of_ble_eq_true rfl) dL_multiply_5 ⟨Nat.le_of_ble_eq_true rfl, Nat.le_of_ble_eq_true rfl⟩ (fun H locs ce q hP hD hS hce hv hcl => ?_)
    by_cases c9 : k1 = 1
    · subst c9
      replace h := fT rfl h
      refine catX (E := "java/lang/IndexOutOfBoundsException") hown htab [] { startPc := 0, endPc := 10, handlerPc := 13, catchType := 13 } [{ startPc := 0, endPc := 10, handlerPc := 17, catchType := 21 }] rfl (fun z hz => absurd hz List.not_mem_nil) (by decide) (by decide) q0 (hEX.2.2.2.1 1) hce hv hcl ?_
      refine lv_astore (lv' := [(4, .ref q), (0, .ref (o 0)), (1, .int a1), (2, .int a2), (3, .ref v)]) hx hb dL_multiply_13 hl (by decide) rfl (fun ls hl => ?_)
      refine lv_iconst (v := (1 : Int32)) hx hb dL_multiply_15 (by decide) ?_
      cases h
      exact hE _ _ _ _ _ _ (by decide) (by decide) dL_multiply_16 hP hD hS
    replace h := fF c9 h
    by_cases c10 : k1 = 3
    · subst c10
      replace h := fT rfl h
      refine catX (E := "java/lang/IllegalStateException") hown htab [{ startPc := 0, endPc := 10, handlerPc := 13, catchType := 13 }] { startPc := 0, endPc := 10, handlerPc := 17, catchType := 21 } [] rfl (fun z hz => by simp only [List.mem_cons, List.not_mem_nil, or_false] at hz; subst hz; exact ⟨by decide, _, q0, hEX.2.2.2.2.2.2.1⟩) (by decide) (by decide) q1 (hEX.2.2.2.1 3) hce hv hcl ?_
      refine lv_astore (lv' := [(4, .ref q), (0, .ref (o 0)), (1, .int a1), (2, .int a2), (3, .ref v)]) hx hb dL_multiply_17 hl (by decide) rfl (fun ls hl => ?_)
      refine lv_iconst (v := (2 : Int32)) hx hb dL_multiply_19 (by decide) ?_
      cases h
      exact hE _ _ _ _ _ _ (by decide) (by decide) dL_multiply_20 hP hD hS
    replace h := fF c10 h
    exact fN h
  replace e8 := Classical.not_not.mp e8
  subst e8
  replace h := fT rfl h
  refine cV_i (As := [.int a1, .int a2]) (rest := [.int (0 : Int32), .ref v]) (ws1 := (XO o v y pl3 te be cn ch le rE rL rP rF rS rD hs4 ho5 hc6 sl fi ou)) ⟨hx, hb, hml, hown, hts⟩ (c_X6_multiply l D o y _ pl te be cn ch le rE rL rP rF rS rD hs ho hc sl fi a1 a2 r2 pl3 hs4 ho5 hc6 g7) (cwV 2 hts gL_multiply_X6_multiply rfl rfl rfl hd_X6_multiply ⟨Nat.le_of_ble_eq_true rfl, Nat.le_of_ble_eq_true rfl⟩) hK hP hD hS hA [0, 1, 2, 3, 4, 5, 6, 7, 8, 9, 10, 11] [12] [1, 2, 3, 4, 5, 6, 7, 8, 9, 10, 11, 12, 0] rfl rfl rfl (by decide) rfl rfl rfl 0 (ci := 4) rfl rfl rfl hl.1 rfl (Nat.le_of_ble_eq_true rfl) dL_multiply_5 ⟨Nat.le_of_ble_eq_true rfl, Nat.le_of_ble_eq_true rfl⟩ (fun H locs hP hD hS => ?_)
  refine lv_i2l (v := r2.toInt64) hx hb dL_multiply_8 rfl ?_
  refine va_last hx hb hK hP hD hS 12 1 rfl rfl (show ¬ ((0 : Int32) < 0 ∨ 1 ≤ (0 : Int32).toNatClampNeg) from by decide) dL_multiply_9 (fun H locs hP hD hS => ?_)
  have hP : va_P D vwCl (XO o v y pl3 te be cn ch le rE rL rP rF rS rD hs4 ho5 hc6 sl fi (vp_updL ou (0 : Int32).toNatClampNeg r2.toInt64)) H := hP
  have hD : va_D A (XO o v y pl3 te be cn ch le rE rL rP rF rS rD hs4 ho5 hc6 sl fi (vp_updL ou (0 : Int32).toNatClampNeg r2.toInt64)) := hD
  refine lv_goto (tgt := 21) hx hb dL_multiply_10 (by decide) ?_
  refine lv_iconst (v := (0 : Int32)) hx hb dL_multiply_21 (by decide) ?_
  cases h
  exact hE _ _ _ _ _ _ (by decide) (by decide) dL_multiply_22 hP hD hS
abbrev rm_L_copyTo : Room := { frames := 8, cells := 1, slots := 6, locals := 125 }
theorem hd_L_copyTo : yL_copyTo.cls ≠ "java/lang/invoke/MethodHandle" ∧ yL_copyTo.cls ≠ "java/lang/invoke/VarHandle" ∧ (parseMethodDescriptor yL_copyTo.desc).map (fun d => d.parameters.length) = some 4 := by decide +kernel
set_option maxHeartbeats 0 in
set_option maxRecDepth 100000 in
theorem c_L_copyTo (l : Launch) (hfl : l.stackTraces = false) (D : va_G) (o : Nat → Nat) (v : Nat) (y : Nat → ClassId) (sz : Nat) (pl : Nat → Int64) (te : Nat → Int32) (be : Nat → Int64) (cn : Int32) (ch : Nat → Int32) (le : Int32) (rE : Int32) (rL : Int32) (rP : Int32) (rF : Int32) (rS : Int32) (rD : Int32) (hs : Nat → Int64) (ho : Int32) (hc : Int32) (sl : Nat → Int64) (fi : Nat → Int32) (ou : Nat → Int64) (a1 : Int32) (a2 : Int32) (r : Int32) (pl' : Nat → Int64) (hs' : Nat → Int64) (ho' : Int32) (hc' : Int32) (ou' : Nat → Int64) (h : F_L_copyTo pl hs ho hc ou a1 a2 = some (r, pl', hs', ho', hc', ou')) : Met l yL_copyTo wsL_copyTo rm_L_copyTo (va_Pc [.ref (o 0), .int a1, .int a2, .ref v] (pxe D y sz (XO o v y pl te be cn ch le rE rL rP rF rS rD hs ho hc sl fi ou))) (Qri D y sz (XO o v y pl te be cn ch le rE rL rP rF rS rD hs ho hc sl fi ou) (XO o v y pl' te be cn ch le rE rL rP rF rS rD hs' ho' hc' sl fi ou') r) 1 6 (va_A (XO o v y pl te be cn ch le rE rL rP rF rS rD hs ho hc sl fi ou) sz) := by
  refine hd_w (cc := cL_copyTo) (maxL := 5) rfl rfl (Nat.le_of_ble_eq_true rfl) ?_
  intro p e s m args below meth c A Q H locs ls hx hb hml hts hown hA hP hD hK hS hl hEX htab hE
  have hl : lv_has ls 5 [(0, .ref (o 0)), (1, .int a1), (2, .int a2), (3, .ref v)] := hl
  have q0 := hts (.classLink RL 13 "java/lang/IndexOutOfBoundsException") (by decide +kernel)
  unfold F_L_copyTo at h
  refine lv_aload_n hx hb dL_copyTo_0 rfl (lv_at hl 3 rfl) ?_
  refine lv_iconst (v := (0 : Int32)) hx hb dL_copyTo_1 (by decide) ?_
  refine lv_aload_n hx hb dL_copyTo_2 rfl (lv_at hl 0 rfl) ?_
  refine lv_iload_n hx hb dL_copyTo_3 rfl (lv_at hl 1 rfl) ?_
  refine lv_iload_n hx hb dL_copyTo_4 rfl (lv_at hl 2 rfl) ?_
  obtain ⟨k1, r2, pl3, hs4, ho5, hc6, g7, h⟩ := fB6 h
  by_cases e8 : ¬ k1 = 0
  · replace h := fF e8 h
    refine xc_V (As := [.int a1, .int a2]) (rest := [.int (0 : Int32), .ref v]) (ws1 := (XO o v y pl3 te be cn ch le rE rL rP rF rS rD hs4 ho5 hc6 sl fi ou)) ⟨hx, hb, hml, hown, hts⟩ (x_X6_copyTo l hfl D o y _ pl te be cn ch le rE rL rP rF rS rD hs ho hc sl fi a1 a2 k1 r2 pl3 hs4 ho5 hc6 e8 g7) (cwV 2 hts gL_copyTo_X6_copyTo rfl rfl rfl hd_X6_copyTo ⟨Nat.le_of_ble_eq_true rfl, Nat.le_of_ble_eq_true rfl⟩) hK hP hD hS hA hEX [0, 1, 2, 3, 4, 5, 6, 7, 8, 9, 10, 11] [12] [1, 2, 3, 4, 5, 6, 7, 8, 9, 10, 11, 12, 0] rfl rfl rfl (by decide) rfl rfl rfl 0 (ci := 4) rfl rfl rfl hl.1 rfl (Nat.le_of_ble_eq_true rfl) dL_copyTo_5 ⟨Nat.le_of_ble_eq_true rfl, Nat.le_of_ble_eq_true rfl⟩ (fun H locs ce q hP hD hS hce hv hcl => ?_)
    by_cases c9 : k1 = 1
    · subst c9
      replace h := fT rfl h
      refine catX (E := "java/lang/IndexOutOfBoundsException") hown htab [] { startPc := 0, endPc := 17, handlerPc := 20, catchType := 13 } [] rfl (fun z hz => absurd hz List.not_mem_nil) (by decide) (by decide) q0 (hEX.2.2.2.1 1) hce hv hcl ?_
      refine lv_astore (lv' := [(4, .ref q), (0, .ref (o 0)), (1, .int a1), (2, .int a2), (3, .ref v)]) hx hb dL_copyTo_20 hl (by decide) rfl (fun ls hl => ?_)
      refine lv_iconst (v := (1 : Int32)) hx hb dL_copyTo_22 (by decide) ?_
      cases h
      exact hE _ _ _ _ _ _ (by decide) (by decide) dL_copyTo_23 hP hD hS
    replace h := fF c9 h
    exact fN h
  replace e8 := Classical.not_not.mp e8
  subst e8
  replace h := fT rfl h
  refine cV_i (As := [.int a1, .int a2]) (rest := [.int (0 : Int32), .ref v]) (ws1 := (XO o v y pl3 te be cn ch le rE rL rP rF rS rD hs4 ho5 hc6 sl fi ou)) ⟨hx, hb, hml, hown, hts⟩ (c_X6_copyTo l D o y _ pl te be cn ch le rE rL rP rF rS rD hs ho hc sl fi a1 a2 r2 pl3 hs4 ho5 hc6 g7) (cwV 2 hts gL_copyTo_X6_copyTo rfl rfl rfl hd_X6_copyTo ⟨Nat.le_of_ble_eq_true rfl, Nat.le_of_ble_eq_true rfl⟩) hK hP hD hS hA [0, 1, 2, 3, 4, 5, 6, 7, 8, 9, 10, 11] [12] [1, 2, 3, 4, 5, 6, 7, 8, 9, 10, 11, 12, 0] rfl rfl rfl (by decide) rfl rfl rfl 0 (ci := 4) rfl rfl rfl hl.1 rfl (Nat.le_of_ble_eq_true rfl) dL_copyTo_5 ⟨Nat.le_of_ble_eq_true rfl, Nat.le_of_ble_eq_true rfl⟩ (fun H locs hP hD hS => ?_)
  have J10 : ∀ (v11 : Int64) (ls : Array Slot), v11 = (if r2 = (0 : Int32) then (0 : Int64) else (1 : Int64)) → lv_has ls 5 [(0, .ref (o 0)), (1, .int a1), (2, .int a2), (3, .ref v)] → W p l e rm_L_copyTo s m args below meth c H locs 0 0 Q (F0 m 16 ls [.long v11, .int (0 : Int32), .ref v]) := by
    intro v11 ls ev11 hl
    subst ev11
    refine va_last hx hb hK hP hD hS 12 1 rfl rfl (show ¬ ((0 : Int32) < 0 ∨ 1 ≤ (0 : Int32).toNatClampNeg) from by decide) dL_copyTo_16 (fun H locs hP hD hS => ?_)
    have hP : va_P D vwCl (XO o v y pl3 te be cn ch le rE rL rP rF rS rD hs4 ho5 hc6 sl fi (vp_updL ou (0 : Int32).toNatClampNeg (if r2 = (0 : Int32) then (0 : Int64) else (1 : Int64)))) H := hP
    have hD : va_D A (XO o v y pl3 te be cn ch le rE rL rP rF rS rD hs4 ho5 hc6 sl fi (vp_updL ou (0 : Int32).toNatClampNeg (if r2 = (0 : Int32) then (0 : Int64) else (1 : Int64)))) := hD
    refine lv_goto (tgt := 24) hx hb dL_copyTo_17 (by decide) ?_
    refine lv_iconst (v := (0 : Int32)) hx hb dL_copyTo_24 (by decide) ?_
    cases h
    exact hE _ _ _ _ _ _ (by decide) (by decide) dL_copyTo_25 hP hD hS
  refine lv_if_eq (tgt := 15) hx hb dL_copyTo_8 (by decide) (fun c12 => ?_) (fun c12 => ?_)
  · refine lv_lconst (v := (0 : Int64)) hx hb dL_copyTo_15 rfl ?_
    exact J10 _ _ (by rw [if_pos c12]) (lv_sub hl [0, 1, 2, 3] rfl)
  · refine lv_lconst (v := (1 : Int64)) hx hb dL_copyTo_11 rfl ?_
    refine lv_goto (tgt := 16) hx hb dL_copyTo_12 (by decide) ?_
    exact J10 _ _ (by rw [if_neg c12]) (lv_sub hl [0, 1, 2, 3] rfl)
abbrev rm_L_invert : Room := { frames := 9, cells := 1, slots := 6, locals := 146 }
theorem hd_L_invert : yL_invert.cls ≠ "java/lang/invoke/MethodHandle" ∧ yL_invert.cls ≠ "java/lang/invoke/VarHandle" ∧ (parseMethodDescriptor yL_invert.desc).map (fun d => d.parameters.length) = some 3 := by decide +kernel
set_option maxHeartbeats 0 in
set_option maxRecDepth 100000 in
theorem c_L_invert (l : Launch) (hfl : l.stackTraces = false) (D : va_G) (o : Nat → Nat) (v : Nat) (y : Nat → ClassId) (sz : Nat) (pl : Nat → Int64) (te : Nat → Int32) (be : Nat → Int64) (cn : Int32) (ch : Nat → Int32) (le : Int32) (rE : Int32) (rL : Int32) (rP : Int32) (rF : Int32) (rS : Int32) (rD : Int32) (hs : Nat → Int64) (ho : Int32) (hc : Int32) (sl : Nat → Int64) (fi : Nat → Int32) (ou : Nat → Int64) (a1 : Int32) (r : Int32) (pl' : Nat → Int64) (hs' : Nat → Int64) (ho' : Int32) (hc' : Int32) (ou' : Nat → Int64) (h : F_L_invert pl hs ho hc ou a1 = some (r, pl', hs', ho', hc', ou')) : Met l yL_invert wsL_invert rm_L_invert (va_Pc [.ref (o 0), .int a1, .ref v] (pxe D y sz (XO o v y pl te be cn ch le rE rL rP rF rS rD hs ho hc sl fi ou))) (Qri D y sz (XO o v y pl te be cn ch le rE rL rP rF rS rD hs ho hc sl fi ou) (XO o v y pl' te be cn ch le rE rL rP rF rS rD hs' ho' hc' sl fi ou') r) 1 6 (va_A (XO o v y pl te be cn ch le rE rL rP rF rS rD hs ho hc sl fi ou) sz) := by
  refine hd_w (cc := cL_invert) (maxL := 4) rfl rfl (Nat.le_of_ble_eq_true rfl) ?_
  intro p e s m args below meth c A Q H locs ls hx hb hml hts hown hA hP hD hK hS hl hEX htab hE
  have hl : lv_has ls 4 [(0, .ref (o 0)), (1, .int a1), (2, .ref v)] := hl
  have q0 := hts (.classLink RL 13 "java/lang/IndexOutOfBoundsException") (by decide +kernel)
  have q1 := hts (.classLink RL 21 "java/lang/IllegalStateException") (by decide +kernel)
  unfold F_L_invert at h
  refine lv_aload_n hx hb dL_invert_0 rfl (lv_at hl 2 rfl) ?_
  refine lv_iconst (v := (0 : Int32)) hx hb dL_invert_1 (by decide) ?_
  refine lv_aload_n hx hb dL_invert_2 rfl (lv_at hl 0 rfl) ?_
  refine lv_iload_n hx hb dL_invert_3 rfl (lv_at hl 1 rfl) ?_
  obtain ⟨k1, r2, pl3, hs4, ho5, hc6, g7, h⟩ := fB6 h
  by_cases e8 : ¬ k1 = 0
  · replace h := fF e8 h
    refine xc_V (As := [.int a1]) (rest := [.int (0 : Int32), .ref v]) (ws1 := (XO o v y pl3 te be cn ch le rE rL rP rF rS rD hs4 ho5 hc6 sl fi ou)) ⟨hx, hb, hml, hown, hts⟩ (x_X6_invert l hfl D o y _ pl te be cn ch le rE rL rP rF rS rD hs ho hc sl fi a1 k1 r2 pl3 hs4 ho5 hc6 e8 g7) (cwV 1 hts gL_invert_X6_invert rfl rfl rfl hd_X6_invert ⟨Nat.le_of_ble_eq_true rfl, Nat.le_of_ble_eq_true rfl⟩) hK hP hD hS hA hEX [0, 1, 2, 3, 4, 5, 6, 7, 8, 9, 10, 11] [12] [1, 2, 3, 4, 5, 6, 7, 8, 9, 10, 11, 12, 0] rfl rfl rfl (by decide) rfl rfl rfl 0 (ci := 4) rfl rfl rfl hl.1 rfl (Nat.le_of_ble_eq_true rfl) dL_invert_4 ⟨Nat.le_of_ble_eq_true rfl, Nat.le_of_ble_eq_true rfl⟩ (fun H locs ce q hP hD hS hce hv hcl => ?_)
    by_cases c9 : k1 = 1
    · subst c9
      replace h := fT rfl h
      refine catX (E := "java/lang/IndexOutOfBoundsException") hown htab [] { startPc := 0, endPc := 9, handlerPc := 12, catchType := 13 } [{ startPc := 0, endPc := 9, handlerPc := 15, catchType := 21 }] rfl (fun z hz => absurd hz List.not_mem_nil) (by decide) (by decide) q0 (hEX.2.2.2.1 1) hce hv hcl ?_
      refine lv_astore_n (lv' := [(3, .ref q), (0, .ref (o 0)), (1, .int a1), (2, .ref v)]) hx hb dL_invert_12 rfl hl (by decide) rfl (fun ls hl => ?_)
      refine lv_iconst (v := (1 : Int32)) hx hb dL_invert_13 (by decide) ?_
      cases h
      exact hE _ _ _ _ _ _ (by decide) (by decide) dL_invert_14 hP hD hS
    replace h := fF c9 h
    by_cases c10 : k1 = 3
    · subst c10
      replace h := fT rfl h
      refine catX (E := "java/lang/IllegalStateException") hown htab [{ startPc := 0, endPc := 9, handlerPc := 12, catchType := 13 }] { startPc := 0, endPc := 9, handlerPc := 15, catchType := 21 } [] rfl (fun z hz => by simp only [List.mem_cons, List.not_mem_nil, or_false] at hz; subst hz; exact ⟨by decide, _, q0, hEX.2.2.2.2.2.2.1⟩) (by decide) (by decide) q1 (hEX.2.2.2.1 3) hce hv hcl ?_
      refine lv_astore_n (lv' := [(3, .ref q), (0, .ref (o 0)), (1, .int a1), (2, .ref v)]) hx hb dL_invert_15 rfl hl (by decide) rfl (fun ls hl => ?_)
      refine lv_iconst (v := (2 : Int32)) hx hb dL_invert_16 (by decide) ?_
      cases h
      exact hE _ _ _ _ _ _ (by decide) (by decide) dL_invert_17 hP hD hS
    replace h := fF c10 h
    exact fN h
  replace e8 := Classical.not_not.mp e8
  subst e8
  replace h := fT rfl h
  refine cV_i (As := [.int a1]) (rest := [.int (0 : Int32), .ref v]) (ws1 := (XO o v y pl3 te be cn ch le rE rL rP rF rS rD hs4 ho5 hc6 sl fi ou)) ⟨hx, hb, hml, hown, hts⟩ (c_X6_invert l D o y _ pl te be cn ch le rE rL rP rF rS rD hs ho hc sl fi a1 r2 pl3 hs4 ho5 hc6 g7) (cwV 1 hts gL_invert_X6_invert rfl rfl rfl hd_X6_invert ⟨Nat.le_of_ble_eq_true rfl, Nat.le_of_ble_eq_true rfl⟩) hK hP hD hS hA [0, 1, 2, 3, 4, 5, 6, 7, 8, 9, 10, 11] [12] [1, 2, 3, 4, 5, 6, 7, 8, 9, 10, 11, 12, 0] rfl rfl rfl (by decide) rfl rfl rfl 0 (ci := 4) rfl rfl rfl hl.1 rfl (Nat.le_of_ble_eq_true rfl) dL_invert_4 ⟨Nat.le_of_ble_eq_true rfl, Nat.le_of_ble_eq_true rfl⟩ (fun H locs hP hD hS => ?_)
  refine lv_i2l (v := r2.toInt64) hx hb dL_invert_7 rfl ?_
  refine va_last hx hb hK hP hD hS 12 1 rfl rfl (show ¬ ((0 : Int32) < 0 ∨ 1 ≤ (0 : Int32).toNatClampNeg) from by decide) dL_invert_8 (fun H locs hP hD hS => ?_)
  have hP : va_P D vwCl (XO o v y pl3 te be cn ch le rE rL rP rF rS rD hs4 ho5 hc6 sl fi (vp_updL ou (0 : Int32).toNatClampNeg r2.toInt64)) H := hP
  have hD : va_D A (XO o v y pl3 te be cn ch le rE rL rP rF rS rD hs4 ho5 hc6 sl fi (vp_updL ou (0 : Int32).toNatClampNeg r2.toInt64)) := hD
  refine lv_goto (tgt := 18) hx hb dL_invert_9 (by decide) ?_
  refine lv_iconst (v := (0 : Int32)) hx hb dL_invert_18 (by decide) ?_
  cases h
  exact hE _ _ _ _ _ _ (by decide) (by decide) dL_invert_19 hP hD hS
abbrev rm_L_share : Room := { frames := 8, cells := 1, slots := 6, locals := 129 }
theorem hd_L_share : yL_share.cls ≠ "java/lang/invoke/MethodHandle" ∧ yL_share.cls ≠ "java/lang/invoke/VarHandle" ∧ (parseMethodDescriptor yL_share.desc).map (fun d => d.parameters.length) = some 4 := by decide +kernel
set_option maxHeartbeats 0 in
set_option maxRecDepth 100000 in
theorem c_L_share (l : Launch) (hfl : l.stackTraces = false) (D : va_G) (o : Nat → Nat) (v : Nat) (y : Nat → ClassId) (sz : Nat) (pl : Nat → Int64) (te : Nat → Int32) (be : Nat → Int64) (cn : Int32) (ch : Nat → Int32) (le : Int32) (rE : Int32) (rL : Int32) (rP : Int32) (rF : Int32) (rS : Int32) (rD : Int32) (hs : Nat → Int64) (ho : Int32) (hc : Int32) (sl : Nat → Int64) (fi : Nat → Int32) (ou : Nat → Int64) (a1 : Int32) (a2 : Int32) (r : Int32) (pl' : Nat → Int64) (hs' : Nat → Int64) (ho' : Int32) (hc' : Int32) (ou' : Nat → Int64) (h : F_L_share pl hs ho hc ou a1 a2 = some (r, pl', hs', ho', hc', ou')) : Met l yL_share wsL_share rm_L_share (va_Pc [.ref (o 0), .int a1, .int a2, .ref v] (pxe D y sz (XO o v y pl te be cn ch le rE rL rP rF rS rD hs ho hc sl fi ou))) (Qri D y sz (XO o v y pl te be cn ch le rE rL rP rF rS rD hs ho hc sl fi ou) (XO o v y pl' te be cn ch le rE rL rP rF rS rD hs' ho' hc' sl fi ou') r) 1 6 (va_A (XO o v y pl te be cn ch le rE rL rP rF rS rD hs ho hc sl fi ou) sz) := by
  refine hd_w (cc := cL_share) (maxL := 5) rfl rfl (Nat.le_of_ble_eq_true rfl) ?_
  intro p e s m args below meth c A Q H locs ls hx hb hml hts hown hA hP hD hK hS hl hEX htab hE
  have hl : lv_has ls 5 [(0, .ref (o 0)), (1, .int a1), (2, .int a2), (3, .ref v)] := hl
  have q0 := hts (.classLink RL 13 "java/lang/IndexOutOfBoundsException") (by decide +kernel)
  have q1 := hts (.classLink RL 15 "java/lang/IllegalArgumentException") (by decide +kernel)
  have q2 := hts (.classLink RL 21 "java/lang/IllegalStateException") (by decide +kernel)
  unfold F_L_share at h
  refine lv_aload_n hx hb dL_share_0 rfl (lv_at hl 3 rfl) ?_
  refine lv_iconst (v := (0 : Int32)) hx hb dL_share_1 (by decide) ?_
  refine lv_aload_n hx hb dL_share_2 rfl (lv_at hl 0 rfl) ?_
  refine lv_iload_n hx hb dL_share_3 rfl (lv_at hl 1 rfl) ?_
  refine lv_iload_n hx hb dL_share_4 rfl (lv_at hl 2 rfl) ?_
  obtain ⟨k1, r2, pl3, hs4, ho5, hc6, g7, h⟩ := fB6 h
  by_cases e8 : ¬ k1 = 0
  · replace h := fF e8 h
    refine xc_V (As := [.int a1, .int a2]) (rest := [.int (0 : Int32), .ref v]) (ws1 := (XO o v y pl3 te be cn ch le rE rL rP rF rS rD hs4 ho5 hc6 sl fi ou)) ⟨hx, hb, hml, hown, hts⟩ (x_X6_share l hfl D o y _ pl te be cn ch le rE rL rP rF rS rD hs ho hc sl fi a1 a2 k1 r2 pl3 hs4 ho5 hc6 e8 g7) (cwV 2 hts gL_share_X6_share rfl rfl rfl hd_X6_share ⟨Nat.le_of_ble_eq_true rfl, Nat.le_of_ble_eq_true rfl⟩) hK hP hD hS hA hEX [0, 1, 2, 3, 4, 5, 6, 7, 8, 9, 10, 11] [12] [1, 2, 3, 4, 5, 6, 7, 8, 9, 10, 11, 12, 0] rfl rfl rfl (by decide) rfl rfl rfl 0 (ci := 4) rfl rfl rfl hl.1 rfl (Nat.le_of_ble_eq_true rfl) dL_share_5 ⟨Nat.le_of_ble_eq_true rfl, Nat.le_of_ble_eq_true rfl⟩ (fun H locs ce q hP hD hS hce hv hcl => ?_)
    by_cases c9 : k1 = 1
    · subst c9
      replace h := fT rfl h
      refine catX (E := "java/lang/IndexOutOfBoundsException") hown htab [] { startPc := 0, endPc := 10, handlerPc := 13, catchType := 13 } [{ startPc := 0, endPc := 10, handlerPc := 17, catchType := 15 }, { startPc := 0, endPc := 10, handlerPc := 21, catchType := 21 }] rfl (fun z hz => absurd hz List.not_mem_nil) (by decide) (by decide) q0 (hEX.2.2.2.1 1) hce hv hcl ?_
      refine lv_astore (lv' := [(4, .ref q), (0, .ref (o 0)), (1, .int a1), (2, .int a2), (3, .ref v)]) hx hb dL_share_13 hl (by decide) rfl (fun ls hl => ?_)
      refine lv_iconst (v := (1 : Int32)) hx hb dL_share_15 (by decide) ?_
      cases h
      exact hE _ _ _ _ _ _ (by decide) (by decide) dL_share_16 hP hD hS
    replace h := fF c9 h
    by_cases c10 : k1 = 2
    · subst c10
      replace h := fT rfl h
      refine catX (E := "java/lang/IllegalArgumentException") hown htab [{ startPc := 0, endPc := 10, handlerPc := 13, catchType := 13 }] { startPc := 0, endPc := 10, handlerPc := 17, catchType := 15 } [{ startPc := 0, endPc := 10, handlerPc := 21, catchType := 21 }] rfl (fun z hz => by simp only [List.mem_cons, List.not_mem_nil, or_false] at hz; subst hz; exact ⟨by decide, _, q0, hEX.2.2.2.2.2.1⟩) (by decide) (by decide) q1 (hEX.2.2.2.1 2) hce hv hcl ?_
      refine lv_astore (lv' := [(4, .ref q), (0, .ref (o 0)), (1, .int a1), (2, .int a2), (3, .ref v)]) hx hb dL_share_17 hl (by decide) rfl (fun ls hl => ?_)
      refine lv_iconst (v := (2 : Int32)) hx hb dL_share_19 (by decide) ?_
      cases h
      exact hE _ _ _ _ _ _ (by decide) (by decide) dL_share_20 hP hD hS
    replace h := fF c10 h
    by_cases c11 : k1 = 3
    · subst c11
      replace h := fT rfl h
      refine catX (E := "java/lang/IllegalStateException") hown htab [{ startPc := 0, endPc := 10, handlerPc := 13, catchType := 13 }, { startPc := 0, endPc := 10, handlerPc := 17, catchType := 15 }] { startPc := 0, endPc := 10, handlerPc := 21, catchType := 21 } [] rfl (fun z hz => by simp only [List.mem_cons, List.not_mem_nil, or_false] at hz; exact hz.elim (fun hz => by subst hz; exact ⟨by decide, _, q0, hEX.2.2.2.2.2.2.1⟩) (fun hz => by subst hz; exact ⟨by decide, _, q1, hEX.2.2.2.2.2.2.2⟩)) (by decide) (by decide) q2 (hEX.2.2.2.1 3) hce hv hcl ?_
      refine lv_astore (lv' := [(4, .ref q), (0, .ref (o 0)), (1, .int a1), (2, .int a2), (3, .ref v)]) hx hb dL_share_21 hl (by decide) rfl (fun ls hl => ?_)
      refine lv_iconst (v := (3 : Int32)) hx hb dL_share_23 (by decide) ?_
      cases h
      exact hE _ _ _ _ _ _ (by decide) (by decide) dL_share_24 hP hD hS
    replace h := fF c11 h
    exact fN h
  replace e8 := Classical.not_not.mp e8
  subst e8
  replace h := fT rfl h
  refine cV_i (As := [.int a1, .int a2]) (rest := [.int (0 : Int32), .ref v]) (ws1 := (XO o v y pl3 te be cn ch le rE rL rP rF rS rD hs4 ho5 hc6 sl fi ou)) ⟨hx, hb, hml, hown, hts⟩ (c_X6_share l D o y _ pl te be cn ch le rE rL rP rF rS rD hs ho hc sl fi a1 a2 r2 pl3 hs4 ho5 hc6 g7) (cwV 2 hts gL_share_X6_share rfl rfl rfl hd_X6_share ⟨Nat.le_of_ble_eq_true rfl, Nat.le_of_ble_eq_true rfl⟩) hK hP hD hS hA [0, 1, 2, 3, 4, 5, 6, 7, 8, 9, 10, 11] [12] [1, 2, 3, 4, 5, 6, 7, 8, 9, 10, 11, 12, 0] rfl rfl rfl (by decide) rfl rfl rfl 0 (ci := 4) rfl rfl rfl hl.1 rfl (Nat.le_of_ble_eq_true rfl) dL_share_5 ⟨Nat.le_of_ble_eq_true rfl, Nat.le_of_ble_eq_true rfl⟩ (fun H locs hP hD hS => ?_)
  refine lv_i2l (v := r2.toInt64) hx hb dL_share_8 rfl ?_
  refine va_last hx hb hK hP hD hS 12 1 rfl rfl (show ¬ ((0 : Int32) < 0 ∨ 1 ≤ (0 : Int32).toNatClampNeg) from by decide) dL_share_9 (fun H locs hP hD hS => ?_)
  have hP : va_P D vwCl (XO o v y pl3 te be cn ch le rE rL rP rF rS rD hs4 ho5 hc6 sl fi (vp_updL ou (0 : Int32).toNatClampNeg r2.toInt64)) H := hP
  have hD : va_D A (XO o v y pl3 te be cn ch le rE rL rP rF rS rD hs4 ho5 hc6 sl fi (vp_updL ou (0 : Int32).toNatClampNeg r2.toInt64)) := hD
  refine lv_goto (tgt := 25) hx hb dL_share_10 (by decide) ?_
  refine lv_iconst (v := (0 : Int32)) hx hb dL_share_25 (by decide) ?_
  cases h
  exact hE _ _ _ _ _ _ (by decide) (by decide) dL_share_26 hP hD hS
abbrev rm_L_roundTo : Room := { frames := 9, cells := 1, slots := 6, locals := 160 }
theorem hd_L_roundTo : yL_roundTo.cls ≠ "java/lang/invoke/MethodHandle" ∧ yL_roundTo.cls ≠ "java/lang/invoke/VarHandle" ∧ (parseMethodDescriptor yL_roundTo.desc).map (fun d => d.parameters.length) = some 4 := by decide +kernel
set_option maxHeartbeats 0 in
set_option maxRecDepth 100000 in
theorem c_L_roundTo (l : Launch) (hfl : l.stackTraces = false) (D : va_G) (o : Nat → Nat) (v : Nat) (y : Nat → ClassId) (sz : Nat) (pl : Nat → Int64) (te : Nat → Int32) (be : Nat → Int64) (cn : Int32) (ch : Nat → Int32) (le : Int32) (rE : Int32) (rL : Int32) (rP : Int32) (rF : Int32) (rS : Int32) (rD : Int32) (hs : Nat → Int64) (ho : Int32) (hc : Int32) (sl : Nat → Int64) (fi : Nat → Int32) (ou : Nat → Int64) (a1 : Int32) (a2 : Int32) (r : Int32) (pl' : Nat → Int64) (te' : Nat → Int32) (be' : Nat → Int64) (cn' : Int32) (hs' : Nat → Int64) (ho' : Int32) (hc' : Int32) (ou' : Nat → Int64) (h : F_L_roundTo pl te be cn hs ho hc ou a1 a2 = some (r, pl', te', be', cn', hs', ho', hc', ou')) : Met l yL_roundTo wsL_roundTo rm_L_roundTo (va_Pc [.ref (o 0), .int a1, .int a2, .ref v] (pxe D y sz (XO o v y pl te be cn ch le rE rL rP rF rS rD hs ho hc sl fi ou))) (Qri D y sz (XO o v y pl te be cn ch le rE rL rP rF rS rD hs ho hc sl fi ou) (XO o v y pl' te' be' cn' ch le rE rL rP rF rS rD hs' ho' hc' sl fi ou') r) 1 6 (va_A (XO o v y pl te be cn ch le rE rL rP rF rS rD hs ho hc sl fi ou) sz) := by
  refine hd_w (cc := cL_roundTo) (maxL := 5) rfl rfl (Nat.le_of_ble_eq_true rfl) ?_
  intro p e s m args below meth c A Q H locs ls hx hb hml hts hown hA hP hD hK hS hl hEX htab hE
  have hl : lv_has ls 5 [(0, .ref (o 0)), (1, .int a1), (2, .int a2), (3, .ref v)] := hl
  have q0 := hts (.classLink RL 13 "java/lang/IndexOutOfBoundsException") (by decide +kernel)
  have q1 := hts (.classLink RL 15 "java/lang/IllegalArgumentException") (by decide +kernel)
  unfold F_L_roundTo at h
  refine lv_aload_n hx hb dL_roundTo_0 rfl (lv_at hl 3 rfl) ?_
  refine lv_iconst (v := (0 : Int32)) hx hb dL_roundTo_1 (by decide) ?_
  refine lv_aload_n hx hb dL_roundTo_2 rfl (lv_at hl 0 rfl) ?_
  refine lv_iload_n hx hb dL_roundTo_3 rfl (lv_at hl 1 rfl) ?_
  refine lv_iload_n hx hb dL_roundTo_4 rfl (lv_at hl 2 rfl) ?_
  obtain ⟨k1, r2, pl3, te4, be5, cn6, hs7, ho8, hc9, g10, h⟩ := fB9 h
  by_cases e11 : ¬ k1 = 0
  · replace h := fF e11 h
    refine xc_V (As := [.int a1, .int a2]) (rest := [.int (0 : Int32), .ref v]) (ws1 := (XO o v y pl3 te4 be5 cn6 ch le rE rL rP rF rS rD hs7 ho8 hc9 sl fi ou)) ⟨hx, hb, hml, hown, hts⟩ (x_X6_roundTo l hfl D o y _ pl te be cn ch le rE rL rP rF rS rD hs ho hc sl fi a1 a2 k1 r2 pl3 te4 be5 cn6 hs7 ho8 hc9 e11 g10) (cwV 2 hts gL_roundTo_X6_roundTo rfl rfl rfl hd_X6_roundTo ⟨Nat.le_of_ble_eq_true rfl, Nat.le_of_ble_eq_true rfl⟩) hK hP hD hS hA hEX [0, 1, 2, 3, 4, 5, 6, 7, 8, 9, 10, 11] [12] [1, 2, 3, 4, 5, 6, 7, 8, 9, 10, 11, 12, 0] rfl rfl rfl (by decide) rfl rfl rfl 0 (ci := 4) rfl rfl rfl hl.1 rfl (Nat.le_of_ble_eq_true rfl) dL_roundTo_5 ⟨Nat.le_of_ble_eq_true rfl, Nat.le_of_ble_eq_true rfl⟩ (fun H locs ce q hP hD hS hce hv hcl => ?_)
    by_cases c12 : k1 = 1
    · subst c12
      replace h := fT rfl h
      refine catX (E := "java/lang/IndexOutOfBoundsException") hown htab [] { startPc := 0, endPc := 10, handlerPc := 13, catchType := 13 } [{ startPc := 0, endPc := 10, handlerPc := 17, catchType := 15 }] rfl (fun z hz => absurd hz List.not_mem_nil) (by decide) (by decide) q0 (hEX.2.2.2.1 1) hce hv hcl ?_
      refine lv_astore (lv' := [(4, .ref q), (0, .ref (o 0)), (1, .int a1), (2, .int a2), (3, .ref v)]) hx hb dL_roundTo_13 hl (by decide) rfl (fun ls hl => ?_)
      refine lv_iconst (v := (1 : Int32)) hx hb dL_roundTo_15 (by decide) ?_
      cases h
      exact hE _ _ _ _ _ _ (by decide) (by decide) dL_roundTo_16 hP hD hS
    replace h := fF c12 h
    by_cases c13 : k1 = 2
    · subst c13
      replace h := fT rfl h
      refine catX (E := "java/lang/IllegalArgumentException") hown htab [{ startPc := 0, endPc := 10, handlerPc := 13, catchType := 13 }] { startPc := 0, endPc := 10, handlerPc := 17, catchType := 15 } [] rfl (fun z hz => by simp only [List.mem_cons, List.not_mem_nil, or_false] at hz; subst hz; exact ⟨by decide, _, q0, hEX.2.2.2.2.2.1⟩) (by decide) (by decide) q1 (hEX.2.2.2.1 2) hce hv hcl ?_
      refine lv_astore (lv' := [(4, .ref q), (0, .ref (o 0)), (1, .int a1), (2, .int a2), (3, .ref v)]) hx hb dL_roundTo_17 hl (by decide) rfl (fun ls hl => ?_)
      refine lv_iconst (v := (2 : Int32)) hx hb dL_roundTo_19 (by decide) ?_
      cases h
      exact hE _ _ _ _ _ _ (by decide) (by decide) dL_roundTo_20 hP hD hS
    replace h := fF c13 h
    exact fN h
  replace e11 := Classical.not_not.mp e11
  subst e11
  replace h := fT rfl h
  refine cV_i (As := [.int a1, .int a2]) (rest := [.int (0 : Int32), .ref v]) (ws1 := (XO o v y pl3 te4 be5 cn6 ch le rE rL rP rF rS rD hs7 ho8 hc9 sl fi ou)) ⟨hx, hb, hml, hown, hts⟩ (c_X6_roundTo l D o y _ pl te be cn ch le rE rL rP rF rS rD hs ho hc sl fi a1 a2 r2 pl3 te4 be5 cn6 hs7 ho8 hc9 g10) (cwV 2 hts gL_roundTo_X6_roundTo rfl rfl rfl hd_X6_roundTo ⟨Nat.le_of_ble_eq_true rfl, Nat.le_of_ble_eq_true rfl⟩) hK hP hD hS hA [0, 1, 2, 3, 4, 5, 6, 7, 8, 9, 10, 11] [12] [1, 2, 3, 4, 5, 6, 7, 8, 9, 10, 11, 12, 0] rfl rfl rfl (by decide) rfl rfl rfl 0 (ci := 4) rfl rfl rfl hl.1 rfl (Nat.le_of_ble_eq_true rfl) dL_roundTo_5 ⟨Nat.le_of_ble_eq_true rfl, Nat.le_of_ble_eq_true rfl⟩ (fun H locs hP hD hS => ?_)
  refine lv_i2l (v := r2.toInt64) hx hb dL_roundTo_8 rfl ?_
  refine va_last hx hb hK hP hD hS 12 1 rfl rfl (show ¬ ((0 : Int32) < 0 ∨ 1 ≤ (0 : Int32).toNatClampNeg) from by decide) dL_roundTo_9 (fun H locs hP hD hS => ?_)
  have hP : va_P D vwCl (XO o v y pl3 te4 be5 cn6 ch le rE rL rP rF rS rD hs7 ho8 hc9 sl fi (vp_updL ou (0 : Int32).toNatClampNeg r2.toInt64)) H := hP
  have hD : va_D A (XO o v y pl3 te4 be5 cn6 ch le rE rL rP rF rS rD hs7 ho8 hc9 sl fi (vp_updL ou (0 : Int32).toNatClampNeg r2.toInt64)) := hD
  refine lv_goto (tgt := 21) hx hb dL_roundTo_10 (by decide) ?_
  refine lv_iconst (v := (0 : Int32)) hx hb dL_roundTo_21 (by decide) ?_
  cases h
  exact hE _ _ _ _ _ _ (by decide) (by decide) dL_roundTo_22 hP hD hS
abbrev rm_L_numeratorOf : Room := { frames := 8, cells := 1, slots := 6, locals := 123 }
theorem hd_L_numeratorOf : yL_numeratorOf.cls ≠ "java/lang/invoke/MethodHandle" ∧ yL_numeratorOf.cls ≠ "java/lang/invoke/VarHandle" ∧ (parseMethodDescriptor yL_numeratorOf.desc).map (fun d => d.parameters.length) = some 3 := by decide +kernel
set_option maxHeartbeats 0 in
set_option maxRecDepth 100000 in
theorem c_L_numeratorOf (l : Launch) (hfl : l.stackTraces = false) (D : va_G) (o : Nat → Nat) (v : Nat) (y : Nat → ClassId) (sz : Nat) (pl : Nat → Int64) (te : Nat → Int32) (be : Nat → Int64) (cn : Int32) (ch : Nat → Int32) (le : Int32) (rE : Int32) (rL : Int32) (rP : Int32) (rF : Int32) (rS : Int32) (rD : Int32) (hs : Nat → Int64) (ho : Int32) (hc : Int32) (sl : Nat → Int64) (fi : Nat → Int32) (ou : Nat → Int64) (a1 : Int32) (r : Int32) (ou' : Nat → Int64) (h : F_L_numeratorOf pl ou a1 = some (r, ou')) : Met l yL_numeratorOf wsL_numeratorOf rm_L_numeratorOf (va_Pc [.ref (o 0), .int a1, .ref v] (pxe D y sz (XO o v y pl te be cn ch le rE rL rP rF rS rD hs ho hc sl fi ou))) (Qri D y sz (XO o v y pl te be cn ch le rE rL rP rF rS rD hs ho hc sl fi ou) (XO o v y pl te be cn ch le rE rL rP rF rS rD hs ho hc sl fi ou') r) 1 6 (va_A (XO o v y pl te be cn ch le rE rL rP rF rS rD hs ho hc sl fi ou) sz) := by
  refine hd_w (cc := cL_numeratorOf) (maxL := 4) rfl rfl (Nat.le_of_ble_eq_true rfl) ?_
  intro p e s m args below meth c A Q H locs ls hx hb hml hts hown hA hP hD hK hS hl hEX htab hE
  have hl : lv_has ls 4 [(0, .ref (o 0)), (1, .int a1), (2, .ref v)] := hl
  have q0 := hts (.classLink RL 13 "java/lang/IndexOutOfBoundsException") (by decide +kernel)
  unfold F_L_numeratorOf at h
  refine lv_aload_n hx hb dL_numeratorOf_0 rfl (lv_at hl 2 rfl) ?_
  refine lv_iconst (v := (0 : Int32)) hx hb dL_numeratorOf_1 (by decide) ?_
  refine lv_aload_n hx hb dL_numeratorOf_2 rfl (lv_at hl 0 rfl) ?_
  refine lv_iload_n hx hb dL_numeratorOf_3 rfl (lv_at hl 1 rfl) ?_
  obtain ⟨k1, r2, g3, h⟩ := fB2 h
  by_cases e4 : ¬ k1 = 0
  · replace h := fF e4 h
    refine xc_V (As := [.int a1]) (rest := [.int (0 : Int32), .ref v]) (ws1 := (XO o v y pl te be cn ch le rE rL rP rF rS rD hs ho hc sl fi ou)) ⟨hx, hb, hml, hown, hts⟩ (x_X6_numeratorOf l hfl D o y _ pl te be cn ch le rE rL rP rF rS rD hs ho hc sl fi a1 k1 r2 e4 g3) (cwV 1 hts gL_numeratorOf_X6_numeratorOf rfl rfl rfl hd_X6_numeratorOf ⟨Nat.le_of_ble_eq_true rfl, Nat.le_of_ble_eq_true rfl⟩) hK hP hD hS hA hEX [0, 1, 2, 3, 4, 5, 6, 7, 8, 9, 10, 11] [12] [1, 2, 3, 4, 5, 6, 7, 8, 9, 10, 11, 12, 0] rfl rfl rfl (by decide) rfl rfl rfl 0 (ci := 4) rfl rfl rfl hl.1 rfl (Nat.le_of_ble_eq_true rfl) dL_numeratorOf_4 ⟨Nat.le_of_ble_eq_true rfl, Nat.le_of_ble_eq_true rfl⟩ (fun H locs ce q hP hD hS hce hv hcl => ?_)
    by_cases c5 : k1 = 1
    · subst c5
      replace h := fT rfl h
      refine catX (E := "java/lang/IndexOutOfBoundsException") hown htab [] { startPc := 0, endPc := 9, handlerPc := 12, catchType := 13 } [] rfl (fun z hz => absurd hz List.not_mem_nil) (by decide) (by decide) q0 (hEX.2.2.2.1 1) hce hv hcl ?_
      refine lv_astore_n (lv' := [(3, .ref q), (0, .ref (o 0)), (1, .int a1), (2, .ref v)]) hx hb dL_numeratorOf_12 rfl hl (by decide) rfl (fun ls hl => ?_)
      refine lv_iconst (v := (1 : Int32)) hx hb dL_numeratorOf_13 (by decide) ?_
      cases h
      exact hE _ _ _ _ _ _ (by decide) (by decide) dL_numeratorOf_14 hP hD hS
    replace h := fF c5 h
    exact fN h
  replace e4 := Classical.not_not.mp e4
  subst e4
  replace h := fT rfl h
  refine cV_i (As := [.int a1]) (rest := [.int (0 : Int32), .ref v]) (ws1 := (XO o v y pl te be cn ch le rE rL rP rF rS rD hs ho hc sl fi ou)) ⟨hx, hb, hml, hown, hts⟩ (c_X6_numeratorOf l D o y _ pl te be cn ch le rE rL rP rF rS rD hs ho hc sl fi a1 r2 g3) (cwV 1 hts gL_numeratorOf_X6_numeratorOf rfl rfl rfl hd_X6_numeratorOf ⟨Nat.le_of_ble_eq_true rfl, Nat.le_of_ble_eq_true rfl⟩) hK hP hD hS hA [0, 1, 2, 3, 4, 5, 6, 7, 8, 9, 10, 11] [12] [1, 2, 3, 4, 5, 6, 7, 8, 9, 10, 11, 12, 0] rfl rfl rfl (by decide) rfl rfl rfl 0 (ci := 4) rfl rfl rfl hl.1 rfl (Nat.le_of_ble_eq_true rfl) dL_numeratorOf_4 ⟨Nat.le_of_ble_eq_true rfl, Nat.le_of_ble_eq_true rfl⟩ (fun H locs hP hD hS => ?_)
  refine lv_i2l (v := r2.toInt64) hx hb dL_numeratorOf_7 rfl ?_
  refine va_last hx hb hK hP hD hS 12 1 rfl rfl (show ¬ ((0 : Int32) < 0 ∨ 1 ≤ (0 : Int32).toNatClampNeg) from by decide) dL_numeratorOf_8 (fun H locs hP hD hS => ?_)
  have hP : va_P D vwCl (XO o v y pl te be cn ch le rE rL rP rF rS rD hs ho hc sl fi (vp_updL ou (0 : Int32).toNatClampNeg r2.toInt64)) H := hP
  have hD : va_D A (XO o v y pl te be cn ch le rE rL rP rF rS rD hs ho hc sl fi (vp_updL ou (0 : Int32).toNatClampNeg r2.toInt64)) := hD
  refine lv_goto (tgt := 15) hx hb dL_numeratorOf_9 (by decide) ?_
  refine lv_iconst (v := (0 : Int32)) hx hb dL_numeratorOf_15 (by decide) ?_
  cases h
  exact hE _ _ _ _ _ _ (by decide) (by decide) dL_numeratorOf_16 hP hD hS
abbrev rm_L_denominatorOf : Room := { frames := 8, cells := 1, slots := 6, locals := 123 }
theorem hd_L_denominatorOf : yL_denominatorOf.cls ≠ "java/lang/invoke/MethodHandle" ∧ yL_denominatorOf.cls ≠ "java/lang/invoke/VarHandle" ∧ (parseMethodDescriptor yL_denominatorOf.desc).map (fun d => d.parameters.length) = some 3 := by decide +kernel
set_option maxHeartbeats 0 in
set_option maxRecDepth 100000 in
theorem c_L_denominatorOf (l : Launch) (hfl : l.stackTraces = false) (D : va_G) (o : Nat → Nat) (v : Nat) (y : Nat → ClassId) (sz : Nat) (pl : Nat → Int64) (te : Nat → Int32) (be : Nat → Int64) (cn : Int32) (ch : Nat → Int32) (le : Int32) (rE : Int32) (rL : Int32) (rP : Int32) (rF : Int32) (rS : Int32) (rD : Int32) (hs : Nat → Int64) (ho : Int32) (hc : Int32) (sl : Nat → Int64) (fi : Nat → Int32) (ou : Nat → Int64) (a1 : Int32) (r : Int32) (ou' : Nat → Int64) (h : F_L_denominatorOf pl ou a1 = some (r, ou')) : Met l yL_denominatorOf wsL_denominatorOf rm_L_denominatorOf (va_Pc [.ref (o 0), .int a1, .ref v] (pxe D y sz (XO o v y pl te be cn ch le rE rL rP rF rS rD hs ho hc sl fi ou))) (Qri D y sz (XO o v y pl te be cn ch le rE rL rP rF rS rD hs ho hc sl fi ou) (XO o v y pl te be cn ch le rE rL rP rF rS rD hs ho hc sl fi ou') r) 1 6 (va_A (XO o v y pl te be cn ch le rE rL rP rF rS rD hs ho hc sl fi ou) sz) := by
  refine hd_w (cc := cL_denominatorOf) (maxL := 4) rfl rfl (Nat.le_of_ble_eq_true rfl) ?_
  intro p e s m args below meth c A Q H locs ls hx hb hml hts hown hA hP hD hK hS hl hEX htab hE
  have hl : lv_has ls 4 [(0, .ref (o 0)), (1, .int a1), (2, .ref v)] := hl
  have q0 := hts (.classLink RL 13 "java/lang/IndexOutOfBoundsException") (by decide +kernel)
  unfold F_L_denominatorOf at h
  refine lv_aload_n hx hb dL_denominatorOf_0 rfl (lv_at hl 2 rfl) ?_
  refine lv_iconst (v := (0 : Int32)) hx hb dL_denominatorOf_1 (by decide) ?_
  refine lv_aload_n hx hb dL_denominatorOf_2 rfl (lv_at hl 0 rfl) ?_
  refine lv_iload_n hx hb dL_denominatorOf_3 rfl (lv_at hl 1 rfl) ?_
  obtain ⟨k1, r2, g3, h⟩ := fB2 h
  by_cases e4 : ¬ k1 = 0
  · replace h := fF e4 h
    refine xc_V (As := [.int a1]) (rest := [.int (0 : Int32), .ref v]) (ws1 := (XO o v y pl te be cn ch le rE rL rP rF rS rD hs ho hc sl fi ou)) ⟨hx, hb, hml, hown, hts⟩ (x_X6_denominatorOf l hfl D o y _ pl te be cn ch le rE rL rP rF rS rD hs ho hc sl fi a1 k1 r2 e4 g3) (cwV 1 hts gL_denominatorOf_X6_denominatorOf rfl rfl rfl hd_X6_denominatorOf ⟨Nat.le_of_ble_eq_true rfl, Nat.le_of_ble_eq_true rfl⟩) hK hP hD hS hA hEX [0, 1, 2, 3, 4, 5, 6, 7, 8, 9, 10, 11] [12] [1, 2, 3, 4, 5, 6, 7, 8, 9, 10, 11, 12, 0] rfl rfl rfl (by decide) rfl rfl rfl 0 (ci := 4) rfl rfl rfl hl.1 rfl (Nat.le_of_ble_eq_true rfl) dL_denominatorOf_4 ⟨Nat.le_of_ble_eq_true rfl, Nat.le_of_ble_eq_true rfl⟩ (fun H locs ce q hP hD hS hce hv hcl => ?_)
    by_cases c5 : k1 = 1
    · subst c5
      replace h := fT rfl h
      refine catX (E := "java/lang/IndexOutOfBoundsException") hown htab [] { startPc := 0, endPc := 9, handlerPc := 12, catchType := 13 } [] rfl (fun z hz => absurd hz List.not_mem_nil) (by decide) (by decide) q0 (hEX.2.2.2.1 1) hce hv hcl ?_
      refine lv_astore_n (lv' := [(3, .ref q), (0, .ref (o 0)), (1, .int a1), (2, .ref v)]) hx hb dL_denominatorOf_12 rfl hl (by decide) rfl (fun ls hl => ?_)
      refine lv_iconst (v := (1 : Int32)) hx hb dL_denominatorOf_13 (by decide) ?_
      cases h
      exact hE _ _ _ _ _ _ (by decide) (by decide) dL_denominatorOf_14 hP hD hS
    replace h := fF c5 h
    exact fN h
  replace e4 := Classical.not_not.mp e4
  subst e4
  replace h := fT rfl h
  refine cV_i (As := [.int a1]) (rest := [.int (0 : Int32), .ref v]) (ws1 := (XO o v y pl te be cn ch le rE rL rP rF rS rD hs ho hc sl fi ou)) ⟨hx, hb, hml, hown, hts⟩ (c_X6_denominatorOf l D o y _ pl te be cn ch le rE rL rP rF rS rD hs ho hc sl fi a1 r2 g3) (cwV 1 hts gL_denominatorOf_X6_denominatorOf rfl rfl rfl hd_X6_denominatorOf ⟨Nat.le_of_ble_eq_true rfl, Nat.le_of_ble_eq_true rfl⟩) hK hP hD hS hA [0, 1, 2, 3, 4, 5, 6, 7, 8, 9, 10, 11] [12] [1, 2, 3, 4, 5, 6, 7, 8, 9, 10, 11, 12, 0] rfl rfl rfl (by decide) rfl rfl rfl 0 (ci := 4) rfl rfl rfl hl.1 rfl (Nat.le_of_ble_eq_true rfl) dL_denominatorOf_4 ⟨Nat.le_of_ble_eq_true rfl, Nat.le_of_ble_eq_true rfl⟩ (fun H locs hP hD hS => ?_)
  refine lv_i2l (v := r2.toInt64) hx hb dL_denominatorOf_7 rfl ?_
  refine va_last hx hb hK hP hD hS 12 1 rfl rfl (show ¬ ((0 : Int32) < 0 ∨ 1 ≤ (0 : Int32).toNatClampNeg) from by decide) dL_denominatorOf_8 (fun H locs hP hD hS => ?_)
  have hP : va_P D vwCl (XO o v y pl te be cn ch le rE rL rP rF rS rD hs ho hc sl fi (vp_updL ou (0 : Int32).toNatClampNeg r2.toInt64)) H := hP
  have hD : va_D A (XO o v y pl te be cn ch le rE rL rP rF rS rD hs ho hc sl fi (vp_updL ou (0 : Int32).toNatClampNeg r2.toInt64)) := hD
  refine lv_goto (tgt := 15) hx hb dL_denominatorOf_9 (by decide) ?_
  refine lv_iconst (v := (0 : Int32)) hx hb dL_denominatorOf_15 (by decide) ?_
  cases h
  exact hE _ _ _ _ _ _ (by decide) (by decide) dL_denominatorOf_16 hP hD hS
