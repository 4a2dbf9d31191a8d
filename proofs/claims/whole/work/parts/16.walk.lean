abbrev rm_X7_tellsUnits : Room := { frames := 1, cells := 0, slots := 0, locals := 29 }
theorem hd_X7_tellsUnits : yX7_tellsUnits.cls = RX7 ∧ yX7_tellsUnits.cls ≠ "java/lang/invoke/MethodHandle" ∧ yX7_tellsUnits.cls ≠ "java/lang/invoke/VarHandle" ∧ (parseMethodDescriptor yX7_tellsUnits.desc).map (fun d => d.parameters.length) = some 1 := by decide +kernel
set_option maxHeartbeats 0 in
set_option maxRecDepth 100000 in
theorem c_X7_tellsUnits (l : Launch) (D : va_G) (w : Nat → Nat) (y : Nat → ClassId) (sz : Nat) (th : Int32) (ms : Nat → Int32) (mst : Nat → Int32) (smn : Int32) (msl : Nat → Int32) (mhs : Nat → Int32) (mtx : Nat → Int32) (mle : Int32) (mat : Int32) (mwl : Int32) (mrd : Nat → Int32) (mrm : Int32) (mtp : Int64) (mbt : Int64) (mtm : Nat → Int32) (mtn : Int32) (mnt : Int32) (mnb : Int32) (mun : Nat → Int32) (mum : Int32) (mau : Int32) (a1 : Int32) (mun' : Nat → Int32) (mum' : Int32) (mau' : Int32) (h : F_X7_tellsUnits ms mun mum mau a1 = some (mun', mum', mau')) : Met l yX7_tellsUnits wsX7_tellsUnits rm_X7_tellsUnits (va_Pc [.ref (w 0), .int a1] (px D y sz (MW w y th ms mst smn msl mhs mtx mle mat mwl mrd mrm mtp mbt mtm mtn mnt mnb mun mum mau))) (Qrv D y sz (MW w y th ms mst smn msl mhs mtx mle mat mwl mrd mrm mtp mbt mtm mtn mnt mnb mun mum mau) (MW w y th ms mst smn msl mhs mtx mle mat mwl mrd mrm mtp mbt mtm mtn mnt mnb mun' mum' mau')) 0 0 (va_A (MW w y th ms mst smn msl mhs mtx mle mat mwl mrd mrm mtp mbt mtm mtn mnt mnb mun mum mau) sz) := by
  refine hd_v (cc := cX7_tellsUnits) (maxL := 10) rfl rfl (Nat.le_of_ble_eq_true rfl) ?_
  intro p e s m args below meth c A Q H locs ls hx hb hml hts hown _ hA hP hD hK hS hl hE
  have hl : lv_has ls 10 [(0, .ref (w 0)), (1, .int a1)] := hl
  have q0 := hts (.fieldLink RX7 89 "SliceSharesModel" "unitMany" "I") (by decide +kernel)
  have q1 := hts (.fieldLink RX7 92 "SliceSharesModel" "areUnits" "Z") (by decide +kernel)
  have q2 := hts (.constantLong RX7 96 (1000000000)) (by decide +kernel)
  have q3 := hts (.fieldLink RX7 32 "SliceSharesModel" "unit" "[I") (by decide +kernel)
  have q4 := hts (.constantLong RX7 98 (4000000000000000000)) (by decide +kernel)
  have hinRX7 : ∀ w ∈ wsX70, w ∈ wsX7_tellsUnits := by decide +kernel
  unfold F_X7_tellsUnits at h
  refine lv_aload_n hx hb dX7_tellsUnits_0 rfl (lv_at hl 0 rfl) ?_
  refine lv_iload_n hx hb dX7_tellsUnits_1 rfl (lv_at hl 1 rfl) ?_
  obtain ⟨r1, g2, h⟩ := fB1 h
  refine cV_i (As := [.int a1]) (rest := []) (ws1 := (MW w y th ms mst smn msl mhs mtx mle mat mwl mrd mrm mtp mbt mtm mtn mnt mnb mun mum mau)) ⟨hx, hb, hml, hown, hts⟩ (c_X7_above l D w y _ th ms mst smn msl mhs mtx mle mat mwl mrd mrm mtp mbt mtm mtn mnt mnb mun mum mau a1 r1 g2) (cwV 1 hts gX7_tellsUnits_X7_above rfl rfl rfl hd_X7_above ⟨Nat.le_of_ble_eq_true rfl, Nat.le_of_ble_eq_true rfl⟩) hK hP hD hS hA [0, 1, 2, 3, 4, 5, 6, 7, 8] [] [0, 1, 2, 3, 4, 5, 6, 7, 8] rfl rfl rfl (by decide) rfl rfl rfl 0 (ci := 5) rfl rfl rfl hl.1 rfl (Nat.le_of_ble_eq_true rfl) dX7_tellsUnits_2 ⟨Nat.le_of_ble_eq_true rfl, Nat.le_of_ble_eq_true rfl⟩ (fun H locs hP hD hS => ?_)
  refine lv_i2l (v := r1.toInt64) hx hb dX7_tellsUnits_5 rfl ?_
  refine lv_lstore_n (lv' := [(2, .long r1.toInt64), (0, .ref (w 0)), (1, .int a1)]) hx hb dX7_tellsUnits_6 rfl hl (by decide) rfl (fun ls hl => ?_)
  refine lv_aload_n hx hb dX7_tellsUnits_7 rfl (lv_at hl 1 rfl) ?_
  refine lv_iload_n hx hb dX7_tellsUnits_8 rfl (lv_at hl 2 rfl) ?_
  obtain ⟨r3, g4, h⟩ := fB1 h
  refine cV_i (As := [.int a1]) (rest := []) (ws1 := (MW w y th ms mst smn msl mhs mtx mle mat mwl mrd mrm mtp mbt mtm mtn mnt mnb mun mum mau)) ⟨hx, hb, hml, hown, hts⟩ (c_X7_below l D w y _ th ms mst smn msl mhs mtx mle mat mwl mrd mrm mtp mbt mtm mtn mnt mnb mun mum mau a1 r3 g4) (cwV 1 hts gX7_tellsUnits_X7_below rfl rfl rfl hd_X7_below ⟨Nat.le_of_ble_eq_true rfl, Nat.le_of_ble_eq_true rfl⟩) hK hP hD hS hA [0, 1, 2, 3, 4, 5, 6, 7, 8] [] [0, 1, 2, 3, 4, 5, 6, 7, 8] rfl rfl rfl (by decide) rfl rfl rfl 0 (ci := 5) rfl rfl rfl hl.1 rfl (Nat.le_of_ble_eq_true rfl) dX7_tellsUnits_9 ⟨Nat.le_of_ble_eq_true rfl, Nat.le_of_ble_eq_true rfl⟩ (fun H locs hP hD hS => ?_)
  refine lv_i2l (v := r3.toInt64) hx hb dX7_tellsUnits_12 rfl ?_
  refine lv_lstore (lv' := [(4, .long r3.toInt64), (2, .long r1.toInt64), (0, .ref (w 0)), (1, .int a1)]) hx hb dX7_tellsUnits_13 hl (by decide) rfl (fun ls hl => ?_)
  refine lv_aload_n hx hb dX7_tellsUnits_15 rfl (lv_at hl 2 rfl) ?_
  refine lv_iconst (v := (0 : Int32)) hx hb dX7_tellsUnits_16 (by decide) ?_
  refine va_put (D := D) (ci := 5) (v := .int (0 : Int32)) (ty := .int) (C := RX7) (T := TX7) (N := 21) hx hb hts hinRX7 tyX7 tyX7_ok nmX7 hown hK hP hD hS 0 rfl rfl 19 (by decide) q0 (fun _ h9 => h9) rfl (by decide +kernel) rfl rfl (Nat.le_of_ble_eq_true rfl) dX7_tellsUnits_17 (fun H locs hP hD hS => ?_)
  have hP : va_P D vwCl (MW w y th ms mst smn msl mhs mtx mle mat mwl mrd mrm mtp mbt mtm mtn mnt mnb mun (0 : Int32) mau) H := hP
  have hD : va_D A (MW w y th ms mst smn msl mhs mtx mle mat mwl mrd mrm mtp mbt mtm mtn mnt mnb mun (0 : Int32) mau) := hD
  refine lv_aload_n hx hb dX7_tellsUnits_20 rfl (lv_at hl 2 rfl) ?_
  refine lv_iconst (v := (1 : Int32)) hx hb dX7_tellsUnits_21 (by decide) ?_
  refine va_put (D := D) (ci := 5) (v := .int (1 : Int32)) (ty := .boolean) (C := RX7) (T := TX7) (N := 21) hx hb hts hinRX7 tyX7 tyX7_ok nmX7 hown hK hP hD hS 0 rfl rfl 20 (by decide) q1 (fun _ h9 => h9) rfl (by decide +kernel) (nz01 (Or.inr rfl)) (fz01 (Or.inr rfl)) (Nat.le_of_ble_eq_true rfl) dX7_tellsUnits_22 (fun H locs hP hD hS => ?_)
  have hP : va_P D vwCl (MW w y th ms mst smn msl mhs mtx mle mat mwl mrd mrm mtp mbt mtm mtn mnt mnb mun (0 : Int32) (1 : Int32)) H := hP
  have hD : va_D A (MW w y th ms mst smn msl mhs mtx mle mat mwl mrd mrm mtp mbt mtm mtn mnt mnb mun (0 : Int32) (1 : Int32)) := hD
  obtain ⟨mun10, mum11, mau12, g13, h⟩ := fB3 h
  have J14 : ∀ (H : Heap) (locs : List Loc) (ls : Array Slot), va_P D vwCl (MW w y th ms mst smn msl mhs mtx mle mat mwl mrd mrm mtp mbt mtm mtn mnt mnb mun10 mum11 mau12) H → va_D A (MW w y th ms mst smn msl mhs mtx mle mat mwl mrd mrm mtp mbt mtm mtn mnt mnb mun10 mum11 mau12) → va_S A s.heap H locs → lv_has ls 10 [] → W p l e rm_X7_tellsUnits s m args below meth c H locs 0 0 Q (F0 m 246 ls []) := by
    intro H locs ls hP hD hS hl
    cases h
    exact hE _ _ _ _ dX7_tellsUnits_246 hP hD hS
  have LP15 : ∀ (n : Nat) (x5 : Int64) (x6 : Int64) (mun7 : Nat → Int32) (mum8 : Int32) (mau9 : Int32) (H : Heap) (locs : List Loc) (ls : Array Slot), L_X7_tellsUnits_25 n x5 x6 mun7 mum8 mau9 = some (mun10, mum11, mau12) → va_P D vwCl (MW w y th ms mst smn msl mhs mtx mle mat mwl mrd mrm mtp mbt mtm mtn mnt mnb mun7 mum8 mau9) H → va_D A (MW w y th ms mst smn msl mhs mtx mle mat mwl mrd mrm mtp mbt mtm mtn mnt mnb mun7 mum8 mau9) → va_S A s.heap H locs → lv_has ls 10 [(0, .ref (w 0)), (2, .long x5), (4, .long x6)] → W p l e rm_X7_tellsUnits s m args below meth c H locs 0 0 Q (F0 m 25 ls []) := by
    intro n
    induction n with
    | zero => intro x5 x6 mun7 mum8 mau9 H locs ls h hP hD hS hl; exact fN h
    | succ n ih =>
      intro x5 x6 mun7 mum8 mau9 H locs ls h hP hD hS hl
      replace h := (L_X7_tellsUnits_25_s n x5 x6 mun7 mum8 mau9).symm.trans h
      refine lv_lload_n hx hb dX7_tellsUnits_25 rfl (lv_at hl 1 rfl) ?_
      refine lv_lconst (v := (0 : Int64)) hx hb dX7_tellsUnits_26 rfl ?_
      refine lx_le (tgt := 246) hx hb dX7_tellsUnits_27 dX7_tellsUnits_28 (by decide) (fun c16 => ?_) (fun c16 => ?_)
      · replace h := fT c16 h
        cases h
        exact J14 _ _ _ hP hD hS (lv_sub hl [] rfl)
      · replace h := fF c16 h
        refine lv_aload_n hx hb dX7_tellsUnits_31 rfl (lv_at hl 0 rfl) ?_
        refine va_get (D := D) (ci := 5) (C := RX7) (T := TX7) (N := 21) hx hb hts hinRX7 hown hK hP 0 rfl rfl 20 (by decide) q1 (fun _ h9 => h9) rfl dX7_tellsUnits_32 ?_
        refine lv_if_eq (tgt := 246) hx hb dX7_tellsUnits_35 (by decide) (fun c17 => ?_) (fun c17 => ?_)
        · replace h := fT c17 h
          cases h
          exact J14 _ _ _ hP hD hS (lv_sub hl [] rfl)
        · replace h := fF c17 h
          refine lv_lload hx hb dX7_tellsUnits_38 (lv_at hl 2 rfl) ?_
          refine lv_lload_n hx hb dX7_tellsUnits_40 rfl (lv_at hl 1 rfl) ?_
          refine lv_ladd hx hb dX7_tellsUnits_41 ?_
          refine lv_lconst (v := (1 : Int64)) hx hb dX7_tellsUnits_42 rfl ?_
          refine lv_lsub hx hb dX7_tellsUnits_43 ?_
          refine lv_lload_n hx hb dX7_tellsUnits_44 rfl (lv_at hl 1 rfl) ?_
          obtain ⟨g18, h⟩ := fG h
          refine lv_ldiv hx hb dX7_tellsUnits_45 g18 ?_
          refine lv_lstore (lv' := [(6, .long (((x6 + x5) - (1 : Int64)) / x5)), (0, .ref (w 0)), (2, .long x5), (4, .long x6)]) hx hb dX7_tellsUnits_46 hl (by decide) rfl (fun ls hl => ?_)
          refine lv_aload_n hx hb dX7_tellsUnits_48 rfl (lv_at hl 1 rfl) ?_
          refine lv_lload hx hb dX7_tellsUnits_49 (lv_at hl 0 rfl) ?_
          refine lv_ldc2 (v := (1000000000 : Int64)) hx hb hown q2 dX7_tellsUnits_51 ?_
          have J19 : ∀ (v20 : Int32) (ls : Array Slot), v20 = (if (1000000000 : Int64) < (((x6 + x5) - (1 : Int64)) / x5) then (0 : Int32) else (1 : Int32)) → lv_has ls 10 [(0, .ref (w 0)), (2, .long x5), (4, .long x6), (6, .long (((x6 + x5) - (1 : Int64)) / x5))] → W p l e rm_X7_tellsUnits s m args below meth c H locs 0 0 Q (F0 m 63 ls [.int v20, .ref (w 0)]) := by
            intro v20 ls ev20 hl
            subst ev20
            refine va_put (D := D) (ci := 5) (v := .int (if (1000000000 : Int64) < (((x6 + x5) - (1 : Int64)) / x5) then (0 : Int32) else (1 : Int32))) (ty := .boolean) (C := RX7) (T := TX7) (N := 21) hx hb hts hinRX7 tyX7 tyX7_ok nmX7 hown hK hP hD hS 0 rfl rfl 20 (by decide) q1 (fun _ h9 => h9) rfl (by decide +kernel) (nz01 (z01 (Or.inl rfl) (Or.inr rfl))) (fz01 (z01 (Or.inl rfl) (Or.inr rfl))) (Nat.le_of_ble_eq_true rfl) dX7_tellsUnits_63 (fun H locs hP hD hS => ?_)
            have hP : va_P D vwCl (MW w y th ms mst smn msl mhs mtx mle mat mwl mrd mrm mtp mbt mtm mtn mnt mnb mun7 mum8 (if (1000000000 : Int64) < (((x6 + x5) - (1 : Int64)) / x5) then (0 : Int32) else (1 : Int32))) H := hP
            have hD : va_D A (MW w y th ms mst smn msl mhs mtx mle mat mwl mrd mrm mtp mbt mtm mtn mnt mnb mun7 mum8 (if (1000000000 : Int64) < (((x6 + x5) - (1 : Int64)) / x5) then (0 : Int32) else (1 : Int32))) := hD
            refine lv_aload_n hx hb dX7_tellsUnits_66 rfl (lv_at hl 0 rfl) ?_
            refine va_get (D := D) (ci := 5) (C := RX7) (T := TX7) (N := 21) hx hb hts hinRX7 hown hK hP 0 rfl rfl 20 (by decide) q1 (fun _ h9 => h9) rfl dX7_tellsUnits_67 ?_
            obtain ⟨v21, v22, mun23, mum24, mau25, g26, h⟩ := fB5 h
            have J27 : ∀ (H : Heap) (locs : List Loc) (ls : Array Slot), va_P D vwCl (MW w y th ms mst smn msl mhs mtx mle mat mwl mrd mrm mtp mbt mtm mtn mnt mnb mun23 mum24 mau25) H → va_D A (MW w y th ms mst smn msl mhs mtx mle mat mwl mrd mrm mtp mbt mtm mtn mnt mnb mun23 mum24 mau25) → va_S A s.heap H locs → lv_has ls 10 [(0, .ref (w 0)), (2, .long v21), (4, .long v22)] → W p l e rm_X7_tellsUnits s m args below meth c H locs 0 0 Q (F0 m 243 ls []) := by
              intro H locs ls hP hD hS hl
              refine lv_goto (tgt := 25) hx hb dX7_tellsUnits_243 (by decide) ?_
              exact ih v21 v22 mun23 mum24 mau25 _ _ _ h hP hD hS (lv_sub hl [0, 1, 2] rfl)
            refine lv_if_eq (tgt := 243) hx hb dX7_tellsUnits_70 (by decide) (fun c28 => ?_) (fun c28 => ?_)
            · replace g26 := fT c28 g26
              cases g26
              exact J27 _ _ _ hP hD hS (lv_sub hl [0, 1, 2] rfl)
            · replace g26 := fF c28 g26
              refine lv_aload_n hx hb dX7_tellsUnits_73 rfl (lv_at hl 0 rfl) ?_
              refine va_get (D := D) (ci := 5) (C := RX7) (T := TX7) (N := 21) hx hb hts hinRX7 hown hK hP 0 rfl rfl 18 (by decide) q3 (fun _ h9 => h9) rfl dX7_tellsUnits_74 ?_
              refine lv_aload_n hx hb dX7_tellsUnits_77 rfl (lv_at hl 0 rfl) ?_
              refine va_get (D := D) (ci := 5) (C := RX7) (T := TX7) (N := 21) hx hb hts hinRX7 hown hK hP 0 rfl rfl 19 (by decide) q0 (fun _ h9 => h9) rfl dX7_tellsUnits_78 ?_
              refine lv_lload hx hb dX7_tellsUnits_81 (lv_at hl 3 rfl) ?_
              refine lv_l2i (v := (((x6 + x5) - (1 : Int64)) / x5).toInt32) hx hb dX7_tellsUnits_83 rfl ?_
              obtain ⟨g29, g26⟩ := fG g26
              refine va_iast hx hb hK hP hD hS 8 0 rfl rfl g29 dX7_tellsUnits_84 (fun H locs hP hD hS => ?_)
              have hP : va_P D vwCl (MW w y th ms mst smn msl mhs mtx mle mat mwl mrd mrm mtp mbt mtm mtn mnt mnb (upd mun7 mum8.toNatClampNeg ((((x6 + x5) - (1 : Int64)) / x5).toInt32)) mum8 (if (1000000000 : Int64) < (((x6 + x5) - (1 : Int64)) / x5) then (0 : Int32) else (1 : Int32))) H := hP
              have hD : va_D A (MW w y th ms mst smn msl mhs mtx mle mat mwl mrd mrm mtp mbt mtm mtn mnt mnb (upd mun7 mum8.toNatClampNeg ((((x6 + x5) - (1 : Int64)) / x5).toInt32)) mum8 (if (1000000000 : Int64) < (((x6 + x5) - (1 : Int64)) / x5) then (0 : Int32) else (1 : Int32))) := hD
              refine lv_aload_n hx hb dX7_tellsUnits_85 rfl (lv_at hl 0 rfl) ?_
              refine lv_dup hx hb dX7_tellsUnits_86 rfl ?_
              refine va_get (D := D) (ci := 5) (C := RX7) (T := TX7) (N := 21) hx hb hts hinRX7 hown hK hP 0 rfl rfl 19 (by decide) q0 (fun _ h9 => h9) rfl dX7_tellsUnits_87 ?_
              refine lv_iconst (v := (1 : Int32)) hx hb dX7_tellsUnits_90 (by decide) ?_
              refine lv_iadd hx hb dX7_tellsUnits_91 ?_
              refine va_put (D := D) (ci := 5) (v := .int (mum8 + (1 : Int32))) (ty := .int) (C := RX7) (T := TX7) (N := 21) hx hb hts hinRX7 tyX7 tyX7_ok nmX7 hown hK hP hD hS 0 rfl rfl 19 (by decide) q0 (fun _ h9 => h9) rfl (by decide +kernel) rfl rfl (Nat.le_of_ble_eq_true rfl) dX7_tellsUnits_92 (fun H locs hP hD hS => ?_)
              have hP : va_P D vwCl (MW w y th ms mst smn msl mhs mtx mle mat mwl mrd mrm mtp mbt mtm mtn mnt mnb (upd mun7 mum8.toNatClampNeg ((((x6 + x5) - (1 : Int64)) / x5).toInt32)) (mum8 + (1 : Int32)) (if (1000000000 : Int64) < (((x6 + x5) - (1 : Int64)) / x5) then (0 : Int32) else (1 : Int32))) H := hP
              have hD : va_D A (MW w y th ms mst smn msl mhs mtx mle mat mwl mrd mrm mtp mbt mtm mtn mnt mnb (upd mun7 mum8.toNatClampNeg ((((x6 + x5) - (1 : Int64)) / x5).toInt32)) (mum8 + (1 : Int32)) (if (1000000000 : Int64) < (((x6 + x5) - (1 : Int64)) / x5) then (0 : Int32) else (1 : Int32))) := hD
              refine lv_lload_n hx hb dX7_tellsUnits_95 rfl (lv_at hl 1 rfl) ?_
              refine lv_lload hx hb dX7_tellsUnits_96 (lv_at hl 3 rfl) ?_
              refine lv_lmul hx hb dX7_tellsUnits_98 ?_
              refine lv_lload hx hb dX7_tellsUnits_99 (lv_at hl 2 rfl) ?_
              refine lv_lsub hx hb dX7_tellsUnits_101 ?_
              refine lv_lstore_n (lv' := [(2, .long ((x5 * (((x6 + x5) - (1 : Int64)) / x5)) - x6)), (0, .ref (w 0)), (4, .long x6), (6, .long (((x6 + x5) - (1 : Int64)) / x5))]) hx hb dX7_tellsUnits_102 rfl hl (by decide) rfl (fun ls hl => ?_)
              refine lv_lload hx hb dX7_tellsUnits_103 (lv_at hl 2 rfl) ?_
              refine lv_lload_n hx hb dX7_tellsUnits_105 rfl (lv_at hl 0 rfl) ?_
              obtain ⟨r30, g31, g26⟩ := fB1 g26
              refine cT_l (As := [.long x6, .long ((x5 * (((x6 + x5) - (1 : Int64)) / x5)) - x6)]) (rest := []) ⟨hx, hb, hml, hown, hts⟩ (c_X7_divisor l D y _ x6 ((x5 * (((x6 + x5) - (1 : Int64)) / x5)) - x6) r30 g31) (va_cwS 2 hts gX7_tellsUnits_X7_divisor rfl rfl rfl hd_X7_divisor ⟨Nat.le_of_ble_eq_true rfl, Nat.le_of_ble_eq_true rfl⟩) hK hP hD hS hA rfl hl.1 rfl (Nat.le_of_ble_eq_true rfl) dX7_tellsUnits_106 ⟨Nat.le_of_ble_eq_true rfl, Nat.le_of_ble_eq_true rfl⟩ (fun H locs hP hD hS => ?_)
              refine lv_lstore (lv' := [(8, .long r30), (2, .long ((x5 * (((x6 + x5) - (1 : Int64)) / x5)) - x6)), (0, .ref (w 0)), (4, .long x6), (6, .long (((x6 + x5) - (1 : Int64)) / x5))]) hx hb dX7_tellsUnits_109 hl (by decide) rfl (fun ls hl => ?_)
              obtain ⟨v36, v37, v38, g39, g26⟩ := fB3 g26
              have J40 : ∀ (H : Heap) (locs : List Loc) (ls : Array Slot), va_P D vwCl (MW w y th ms mst smn msl mhs mtx mle mat mwl mrd mrm mtp mbt mtm mtn mnt mnb (upd mun7 mum8.toNatClampNeg ((((x6 + x5) - (1 : Int64)) / x5).toInt32)) (mum8 + (1 : Int32)) (if (1000000000 : Int64) < (((x6 + x5) - (1 : Int64)) / x5) then (0 : Int32) else (1 : Int32))) H → va_D A (MW w y th ms mst smn msl mhs mtx mle mat mwl mrd mrm mtp mbt mtm mtn mnt mnb (upd mun7 mum8.toNatClampNeg ((((x6 + x5) - (1 : Int64)) / x5).toInt32)) (mum8 + (1 : Int32)) (if (1000000000 : Int64) < (((x6 + x5) - (1 : Int64)) / x5) then (0 : Int32) else (1 : Int32))) → va_S A s.heap H locs → lv_has ls 10 [(0, .ref (w 0)), (2, .long v36), (4, .long v37), (6, .long v38)] → W p l e rm_X7_tellsUnits s m args below meth c H locs 0 0 Q (F0 m 147 ls []) := by
                intro H locs ls hP hD hS hl
                refine lv_lload hx hb dX7_tellsUnits_147 (lv_at hl 3 rfl) ?_
                refine lv_lload_n hx hb dX7_tellsUnits_149 rfl (lv_at hl 1 rfl) ?_
                obtain ⟨r41, g42, g26⟩ := fB1 g26
                refine cT_l (As := [.long v38, .long v36]) (rest := []) ⟨hx, hb, hml, hown, hts⟩ (c_X7_divisor l D y _ v38 v36 r41 g42) (va_cwS 2 hts gX7_tellsUnits_X7_divisor rfl rfl rfl hd_X7_divisor ⟨Nat.le_of_ble_eq_true rfl, Nat.le_of_ble_eq_true rfl⟩) hK hP hD hS hA rfl hl.1 rfl (Nat.le_of_ble_eq_true rfl) dX7_tellsUnits_150 ⟨Nat.le_of_ble_eq_true rfl, Nat.le_of_ble_eq_true rfl⟩ (fun H locs hP hD hS => ?_)
                refine lv_lstore (lv' := [(8, .long r41), (0, .ref (w 0)), (2, .long v36), (4, .long v37), (6, .long v38)]) hx hb dX7_tellsUnits_153 hl (by decide) rfl (fun ls hl => ?_)
                obtain ⟨v46, v47, g48, g26⟩ := fB2 g26
                have J49 : ∀ (H : Heap) (locs : List Loc) (ls : Array Slot), va_P D vwCl (MW w y th ms mst smn msl mhs mtx mle mat mwl mrd mrm mtp mbt mtm mtn mnt mnb (upd mun7 mum8.toNatClampNeg ((((x6 + x5) - (1 : Int64)) / x5).toInt32)) (mum8 + (1 : Int32)) (if (1000000000 : Int64) < (((x6 + x5) - (1 : Int64)) / x5) then (0 : Int32) else (1 : Int32))) H → va_D A (MW w y th ms mst smn msl mhs mtx mle mat mwl mrd mrm mtp mbt mtm mtn mnt mnb (upd mun7 mum8.toNatClampNeg ((((x6 + x5) - (1 : Int64)) / x5).toInt32)) (mum8 + (1 : Int32)) (if (1000000000 : Int64) < (((x6 + x5) - (1 : Int64)) / x5) then (0 : Int32) else (1 : Int32))) → va_S A s.heap H locs → lv_has ls 10 [(0, .ref (w 0)), (2, .long v46), (4, .long v37), (6, .long v47)] → W p l e rm_X7_tellsUnits s m args below meth c H locs 0 0 Q (F0 m 191 ls []) := by
                  intro H locs ls hP hD hS hl
                  refine lv_aload_n hx hb dX7_tellsUnits_191 rfl (lv_at hl 0 rfl) ?_
                  refine lv_lload_n hx hb dX7_tellsUnits_192 rfl (lv_at hl 1 rfl) ?_
                  refine lv_lconst (v := (0 : Int64)) hx hb dX7_tellsUnits_193 rfl ?_
                  obtain ⟨v50, g51, g26⟩ := fB1 g26
                  have J52 : ∀ (H : Heap) (locs : List Loc) (ls : Array Slot), va_P D vwCl (MW w y th ms mst smn msl mhs mtx mle mat mwl mrd mrm mtp mbt mtm mtn mnt mnb (upd mun7 mum8.toNatClampNeg ((((x6 + x5) - (1 : Int64)) / x5).toInt32)) (mum8 + (1 : Int32)) (if (1000000000 : Int64) < (((x6 + x5) - (1 : Int64)) / x5) then (0 : Int32) else (1 : Int32))) H → va_D A (MW w y th ms mst smn msl mhs mtx mle mat mwl mrd mrm mtp mbt mtm mtn mnt mnb (upd mun7 mum8.toNatClampNeg ((((x6 + x5) - (1 : Int64)) / x5).toInt32)) (mum8 + (1 : Int32)) (if (1000000000 : Int64) < (((x6 + x5) - (1 : Int64)) / x5) then (0 : Int32) else (1 : Int32))) → va_S A s.heap H locs → lv_has ls 10 [(0, .ref (w 0)), (2, .long v46), (4, .long v37), (6, .long v47)] → W p l e rm_X7_tellsUnits s m args below meth c H locs 0 0 Q (F0 m 215 ls [.int v50, .ref (w 0)]) := by
                    intro H locs ls hP hD hS hl
                    obtain ⟨g53, g26⟩ := fG g26
                    refine va_put (D := D) (ci := 5) (v := .int v50) (ty := .boolean) (C := RX7) (T := TX7) (N := 21) hx hb hts hinRX7 tyX7 tyX7_ok nmX7 hown hK hP hD hS 0 rfl rfl 20 (by decide) q1 (fun _ h9 => h9) rfl (by decide +kernel) (nz01 (Classical.not_not.mp g53)) (fz01 (Classical.not_not.mp g53)) (Nat.le_of_ble_eq_true rfl) dX7_tellsUnits_215 (fun H locs hP hD hS => ?_)
                    have hP : va_P D vwCl (MW w y th ms mst smn msl mhs mtx mle mat mwl mrd mrm mtp mbt mtm mtn mnt mnb (upd mun7 mum8.toNatClampNeg ((((x6 + x5) - (1 : Int64)) / x5).toInt32)) (mum8 + (1 : Int32)) v50) H := hP
                    have hD : va_D A (MW w y th ms mst smn msl mhs mtx mle mat mwl mrd mrm mtp mbt mtm mtn mnt mnb (upd mun7 mum8.toNatClampNeg ((((x6 + x5) - (1 : Int64)) / x5).toInt32)) (mum8 + (1 : Int32)) v50) := hD
                    refine lv_aload_n hx hb dX7_tellsUnits_218 rfl (lv_at hl 0 rfl) ?_
                    refine va_get (D := D) (ci := 5) (C := RX7) (T := TX7) (N := 21) hx hb hts hinRX7 hown hK hP 0 rfl rfl 20 (by decide) q1 (fun _ h9 => h9) rfl dX7_tellsUnits_219 ?_
                    have J54 : ∀ (v55 : Int64) (ls : Array Slot), v55 = (if v50 = (0 : Int32) then v37 else (if v46 ≤ (0 : Int64) then v37 else (v37 * v47))) → lv_has ls 10 [(0, .ref (w 0)), (2, .long v46), (4, .long v37), (6, .long v47)] → W p l e rm_X7_tellsUnits s m args below meth c H locs 0 0 Q (F0 m 241 ls [.long v55]) := by
                      intro v55 ls ev55 hl
                      subst ev55
                      refine lv_lstore (lv' := [(4, .long (if v50 = (0 : Int32) then v37 else (if v46 ≤ (0 : Int64) then v37 else (v37 * v47)))), (0, .ref (w 0)), (2, .long v46), (6, .long v47)]) hx hb dX7_tellsUnits_241 hl (by decide) rfl (fun ls hl => ?_)
                      cases g26
                      exact J27 _ _ _ hP hD hS (lv_sub hl [1, 2, 0] rfl)
                    refine lv_if_eq (tgt := 239) hx hb dX7_tellsUnits_222 (by decide) (fun c56 => ?_) (fun c56 => ?_)
                    · refine lv_lload hx hb dX7_tellsUnits_239 (lv_at hl 2 rfl) ?_
                      exact J54 _ _ (by rw [if_pos c56]) (lv_sub hl [0, 1, 2, 3] rfl)
                    · refine lv_lload_n hx hb dX7_tellsUnits_225 rfl (lv_at hl 1 rfl) ?_
                      refine lv_lconst (v := (0 : Int64)) hx hb dX7_tellsUnits_226 rfl ?_
                      refine lx_le (tgt := 239) hx hb dX7_tellsUnits_227 dX7_tellsUnits_228 (by decide) (fun c57 => ?_) (fun c57 => ?_)
                      · refine lv_lload hx hb dX7_tellsUnits_239 (lv_at hl 2 rfl) ?_
                        exact J54 _ _ (by rw [if_neg c56, if_pos c57]) (lv_sub hl [0, 1, 2, 3] rfl)
                      · refine lv_lload hx hb dX7_tellsUnits_231 (lv_at hl 2 rfl) ?_
                        refine lv_lload hx hb dX7_tellsUnits_233 (lv_at hl 3 rfl) ?_
                        refine lv_lmul hx hb dX7_tellsUnits_235 ?_
                        refine lv_goto (tgt := 241) hx hb dX7_tellsUnits_236 (by decide) ?_
                        exact J54 _ _ (by rw [if_neg c56, if_neg c57]) (lv_sub hl [0, 1, 2, 3] rfl)
                  refine lx_eq (tgt := 210) hx hb dX7_tellsUnits_194 dX7_tellsUnits_195 (by decide) (fun c58 => ?_) (fun c58 => ?_)
                  · replace g51 := fT c58 g51
                    refine lv_iconst (v := (1 : Int32)) hx hb dX7_tellsUnits_210 (by decide) ?_
                    refine lv_goto (tgt := 215) hx hb dX7_tellsUnits_211 (by decide) ?_
                    cases g51
                    exact J52 _ _ _ hP hD hS (lv_sub hl [0, 1, 2, 3] rfl)
                  · replace g51 := fF c58 g51
                    refine lv_lload hx hb dX7_tellsUnits_198 (lv_at hl 2 rfl) ?_
                    refine lv_ldc2 (v := (4000000000000000000 : Int64)) hx hb hown q4 dX7_tellsUnits_200 ?_
                    refine lv_lload hx hb dX7_tellsUnits_203 (lv_at hl 3 rfl) ?_
                    obtain ⟨g59, g51⟩ := fG g51
                    refine lv_ldiv hx hb dX7_tellsUnits_205 g59 ?_
                    refine lx_gt (tgt := 214) hx hb dX7_tellsUnits_206 dX7_tellsUnits_207 (by decide) (fun c60 => ?_) (fun c60 => ?_)
                    · replace g51 := fT c60 g51
                      refine lv_iconst (v := (0 : Int32)) hx hb dX7_tellsUnits_214 (by decide) ?_
                      cases g51
                      exact J52 _ _ _ hP hD hS (lv_sub hl [0, 1, 2, 3] rfl)
                    · replace g51 := fF c60 g51
                      refine lv_iconst (v := (1 : Int32)) hx hb dX7_tellsUnits_210 (by decide) ?_
                      refine lv_goto (tgt := 215) hx hb dX7_tellsUnits_211 (by decide) ?_
                      cases g51
                      exact J52 _ _ _ hP hD hS (lv_sub hl [0, 1, 2, 3] rfl)
                have LP61 : ∀ (n : Nat) (x43 : Int64) (x44 : Int64) (x45 : Int64) (H : Heap) (locs : List Loc) (ls : Array Slot), L_X7_tellsUnits_155 n x43 v37 x44 x45 = some (v46, v47) → va_P D vwCl (MW w y th ms mst smn msl mhs mtx mle mat mwl mrd mrm mtp mbt mtm mtn mnt mnb (upd mun7 mum8.toNatClampNeg ((((x6 + x5) - (1 : Int64)) / x5).toInt32)) (mum8 + (1 : Int32)) (if (1000000000 : Int64) < (((x6 + x5) - (1 : Int64)) / x5) then (0 : Int32) else (1 : Int32))) H → va_D A (MW w y th ms mst smn msl mhs mtx mle mat mwl mrd mrm mtp mbt mtm mtn mnt mnb (upd mun7 mum8.toNatClampNeg ((((x6 + x5) - (1 : Int64)) / x5).toInt32)) (mum8 + (1 : Int32)) (if (1000000000 : Int64) < (((x6 + x5) - (1 : Int64)) / x5) then (0 : Int32) else (1 : Int32))) → va_S A s.heap H locs → lv_has ls 10 [(0, .ref (w 0)), (2, .long x43), (4, .long v37), (6, .long x44), (8, .long x45)] → W p l e rm_X7_tellsUnits s m args below meth c H locs 0 0 Q (F0 m 155 ls []) := by
                  intro n
                  induction n with
                  | zero => intro x43 x44 x45 H locs ls h hP hD hS hl; exact fN h
                  | succ n ih =>
                    intro x43 x44 x45 H locs ls h hP hD hS hl
                    replace h := (L_X7_tellsUnits_155_s n x43 v37 x44 x45).symm.trans h
                    refine lv_lload_n hx hb dX7_tellsUnits_155 rfl (lv_at hl 1 rfl) ?_
                    refine lv_lconst (v := (0 : Int64)) hx hb dX7_tellsUnits_156 rfl ?_
                    refine lx_le (tgt := 191) hx hb dX7_tellsUnits_157 dX7_tellsUnits_158 (by decide) (fun c62 => ?_) (fun c62 => ?_)
                    · replace h := fT c62 h
                      cases h
                      exact J49 _ _ _ hP hD hS (lv_sub hl [0, 1, 2, 3] rfl)
                    · replace h := fF c62 h
                      refine lv_lload hx hb dX7_tellsUnits_161 (lv_at hl 4 rfl) ?_
                      refine lv_lconst (v := (1 : Int64)) hx hb dX7_tellsUnits_163 rfl ?_
                      refine lx_le (tgt := 191) hx hb dX7_tellsUnits_164 dX7_tellsUnits_165 (by decide) (fun c63 => ?_) (fun c63 => ?_)
                      · replace h := fT c63 h
                        cases h
                        exact J49 _ _ _ hP hD hS (lv_sub hl [0, 1, 2, 3] rfl)
                      · replace h := fF c63 h
                        refine lv_lload_n hx hb dX7_tellsUnits_168 rfl (lv_at hl 1 rfl) ?_
                        refine lv_lload hx hb dX7_tellsUnits_169 (lv_at hl 4 rfl) ?_
                        obtain ⟨g64, h⟩ := fG h
                        refine lv_ldiv hx hb dX7_tellsUnits_171 g64 ?_
                        refine lv_lstore_n (lv' := [(2, .long (x43 / x45)), (0, .ref (w 0)), (4, .long v37), (6, .long x44), (8, .long x45)]) hx hb dX7_tellsUnits_172 rfl hl (by decide) rfl (fun ls hl => ?_)
                        refine lv_lload hx hb dX7_tellsUnits_173 (lv_at hl 3 rfl) ?_
                        refine lv_lload hx hb dX7_tellsUnits_175 (lv_at hl 4 rfl) ?_
                        refine lv_ldiv hx hb dX7_tellsUnits_177 g64 ?_
                        refine lv_lstore (lv' := [(6, .long (x44 / x45)), (2, .long (x43 / x45)), (0, .ref (w 0)), (4, .long v37), (8, .long x45)]) hx hb dX7_tellsUnits_178 hl (by decide) rfl (fun ls hl => ?_)
                        refine lv_lload hx hb dX7_tellsUnits_180 (lv_at hl 0 rfl) ?_
                        refine lv_lload_n hx hb dX7_tellsUnits_182 rfl (lv_at hl 1 rfl) ?_
                        obtain ⟨r65, g66, h⟩ := fB1 h
                        refine cT_l (As := [.long (x44 / x45), .long (x43 / x45)]) (rest := []) ⟨hx, hb, hml, hown, hts⟩ (c_X7_divisor l D y _ (x44 / x45) (x43 / x45) r65 g66) (va_cwS 2 hts gX7_tellsUnits_X7_divisor rfl rfl rfl hd_X7_divisor ⟨Nat.le_of_ble_eq_true rfl, Nat.le_of_ble_eq_true rfl⟩) hK hP hD hS hA rfl hl.1 rfl (Nat.le_of_ble_eq_true rfl) dX7_tellsUnits_183 ⟨Nat.le_of_ble_eq_true rfl, Nat.le_of_ble_eq_true rfl⟩ (fun H locs hP hD hS => ?_)
                        refine lv_lstore (lv' := [(8, .long r65), (6, .long (x44 / x45)), (2, .long (x43 / x45)), (0, .ref (w 0)), (4, .long v37)]) hx hb dX7_tellsUnits_186 hl (by decide) rfl (fun ls hl => ?_)
                        refine lv_goto (tgt := 155) hx hb dX7_tellsUnits_188 (by decide) ?_
                        exact ih (x43 / x45) (x44 / x45) r65 _ _ _ h hP hD hS (lv_sub hl [3, 2, 4, 1, 0] rfl)
                exact LP61 FU v36 v38 r41 _ _ _ g48 hP hD hS (lv_sub hl [1, 2, 3, 4, 0] rfl)
              have LP67 : ∀ (n : Nat) (x32 : Int64) (x33 : Int64) (x34 : Int64) (x35 : Int64) (H : Heap) (locs : List Loc) (ls : Array Slot), L_X7_tellsUnits_111 n x32 x33 x34 x35 = some (v36, v37, v38) → va_P D vwCl (MW w y th ms mst smn msl mhs mtx mle mat mwl mrd mrm mtp mbt mtm mtn mnt mnb (upd mun7 mum8.toNatClampNeg ((((x6 + x5) - (1 : Int64)) / x5).toInt32)) (mum8 + (1 : Int32)) (if (1000000000 : Int64) < (((x6 + x5) - (1 : Int64)) / x5) then (0 : Int32) else (1 : Int32))) H → va_D A (MW w y th ms mst smn msl mhs mtx mle mat mwl mrd mrm mtp mbt mtm mtn mnt mnb (upd mun7 mum8.toNatClampNeg ((((x6 + x5) - (1 : Int64)) / x5).toInt32)) (mum8 + (1 : Int32)) (if (1000000000 : Int64) < (((x6 + x5) - (1 : Int64)) / x5) then (0 : Int32) else (1 : Int32))) → va_S A s.heap H locs → lv_has ls 10 [(0, .ref (w 0)), (2, .long x32), (4, .long x33), (6, .long x34), (8, .long x35)] → W p l e rm_X7_tellsUnits s m args below meth c H locs 0 0 Q (F0 m 111 ls []) := by
                intro n
                induction n with
                | zero => intro x32 x33 x34 x35 H locs ls h hP hD hS hl; exact fN h
                | succ n ih =>
                  intro x32 x33 x34 x35 H locs ls h hP hD hS hl
                  replace h := (L_X7_tellsUnits_111_s n x32 x33 x34 x35).symm.trans h
                  refine lv_lload_n hx hb dX7_tellsUnits_111 rfl (lv_at hl 1 rfl) ?_
                  refine lv_lconst (v := (0 : Int64)) hx hb dX7_tellsUnits_112 rfl ?_
                  refine lx_le (tgt := 147) hx hb dX7_tellsUnits_113 dX7_tellsUnits_114 (by decide) (fun c68 => ?_) (fun c68 => ?_)
                  · replace h := fT c68 h
                    cases h
                    exact J40 _ _ _ hP hD hS (lv_sub hl [0, 1, 2, 3] rfl)
                  · replace h := fF c68 h
                    refine lv_lload hx hb dX7_tellsUnits_117 (lv_at hl 4 rfl) ?_
                    refine lv_lconst (v := (1 : Int64)) hx hb dX7_tellsUnits_119 rfl ?_
                    refine lx_le (tgt := 147) hx hb dX7_tellsUnits_120 dX7_tellsUnits_121 (by decide) (fun c69 => ?_) (fun c69 => ?_)
                    · replace h := fT c69 h
                      cases h
                      exact J40 _ _ _ hP hD hS (lv_sub hl [0, 1, 2, 3] rfl)
                    · replace h := fF c69 h
                      refine lv_lload_n hx hb dX7_tellsUnits_124 rfl (lv_at hl 1 rfl) ?_
                      refine lv_lload hx hb dX7_tellsUnits_125 (lv_at hl 4 rfl) ?_
                      obtain ⟨g70, h⟩ := fG h
                      refine lv_ldiv hx hb dX7_tellsUnits_127 g70 ?_
                      refine lv_lstore_n (lv' := [(2, .long (x32 / x35)), (0, .ref (w 0)), (4, .long x33), (6, .long x34), (8, .long x35)]) hx hb dX7_tellsUnits_128 rfl hl (by decide) rfl (fun ls hl => ?_)
                      refine lv_lload hx hb dX7_tellsUnits_129 (lv_at hl 2 rfl) ?_
                      refine lv_lload hx hb dX7_tellsUnits_131 (lv_at hl 4 rfl) ?_
                      refine lv_ldiv hx hb dX7_tellsUnits_133 g70 ?_
                      refine lv_lstore (lv' := [(4, .long (x33 / x35)), (2, .long (x32 / x35)), (0, .ref (w 0)), (6, .long x34), (8, .long x35)]) hx hb dX7_tellsUnits_134 hl (by decide) rfl (fun ls hl => ?_)
                      refine lv_lload hx hb dX7_tellsUnits_136 (lv_at hl 0 rfl) ?_
                      refine lv_lload_n hx hb dX7_tellsUnits_138 rfl (lv_at hl 1 rfl) ?_
                      obtain ⟨r71, g72, h⟩ := fB1 h
                      refine cT_l (As := [.long (x33 / x35), .long (x32 / x35)]) (rest := []) ⟨hx, hb, hml, hown, hts⟩ (c_X7_divisor l D y _ (x33 / x35) (x32 / x35) r71 g72) (va_cwS 2 hts gX7_tellsUnits_X7_divisor rfl rfl rfl hd_X7_divisor ⟨Nat.le_of_ble_eq_true rfl, Nat.le_of_ble_eq_true rfl⟩) hK hP hD hS hA rfl hl.1 rfl (Nat.le_of_ble_eq_true rfl) dX7_tellsUnits_139 ⟨Nat.le_of_ble_eq_true rfl, Nat.le_of_ble_eq_true rfl⟩ (fun H locs hP hD hS => ?_)
                      refine lv_lstore (lv' := [(8, .long r71), (4, .long (x33 / x35)), (2, .long (x32 / x35)), (0, .ref (w 0)), (6, .long x34)]) hx hb dX7_tellsUnits_142 hl (by decide) rfl (fun ls hl => ?_)
                      refine lv_goto (tgt := 111) hx hb dX7_tellsUnits_144 (by decide) ?_
                      exact ih (x32 / x35) (x33 / x35) x34 r71 _ _ _ h hP hD hS (lv_sub hl [3, 2, 1, 4, 0] rfl)
              exact LP67 FU ((x5 * (((x6 + x5) - (1 : Int64)) / x5)) - x6) x6 (((x6 + x5) - (1 : Int64)) / x5) r30 _ _ _ g39 hP hD hS (lv_sub hl [2, 1, 3, 4, 0] rfl)
          refine lx_gt (tgt := 62) hx hb dX7_tellsUnits_54 dX7_tellsUnits_55 (by decide) (fun c73 => ?_) (fun c73 => ?_)
          · refine lv_iconst (v := (0 : Int32)) hx hb dX7_tellsUnits_62 (by decide) ?_
            exact J19 _ _ (by rw [if_pos c73]) (lv_sub hl [1, 2, 3, 0] rfl)
          · refine lv_iconst (v := (1 : Int32)) hx hb dX7_tellsUnits_58 (by decide) ?_
            refine lv_goto (tgt := 63) hx hb dX7_tellsUnits_59 (by decide) ?_
            exact J19 _ _ (by rw [if_neg c73]) (lv_sub hl [1, 2, 3, 0] rfl)
  exact LP15 FU r1.toInt64 r3.toInt64 mun (0 : Int32) (1 : Int32) _ _ _ g13 hP hD hS (lv_sub hl [2, 1, 0] rfl)
abbrev rm_X7_isTop : Room := { frames := 1, cells := 0, slots := 0, locals := 22 }
theorem hd_X7_isTop : yX7_isTop.cls ≠ "java/lang/invoke/MethodHandle" ∧ yX7_isTop.cls ≠ "java/lang/invoke/VarHandle" ∧ (parseMethodDescriptor yX7_isTop.desc).map (fun d => d.parameters.length) = some 1 := by decide +kernel
set_option maxHeartbeats 0 in
set_option maxRecDepth 100000 in
theorem c_X7_isTop (l : Launch) (D : va_G) (y : Nat → ClassId) (sz : Nat) (a1 : Int32) : Met l yX7_isTop wsX7_isTop rm_X7_isTop (va_Pc [.int a1] (px D y sz [])) (Qri D y sz [] [] (F_X7_isTop a1)) 0 0 (va_A [] sz) := by
  refine hd_z (cc := cX7_isTop) (maxL := 1) (rt := .boolean) rfl rfl (Nat.le_of_ble_eq_true rfl) ?_
  intro p e s m args below meth c A Q H locs ls hx hb hml hts hown _ hA hP hD hK hS hl hE
  have hl : lv_has ls 1 [(0, .int a1)] := hl
  have q0 := hts (.constant RX7 100 (1000000)) (by decide +kernel)
  refine lv_iload_n hx hb dX7_isTop_0 rfl (lv_at hl 0 rfl) ?_
  refine lv_iconst (v := (0 : Int32)) hx hb dX7_isTop_1 (by decide) ?_
  refine lv_ldc (v := (1000000 : Int32)) hx hb hown q0 dX7_isTop_2 ?_
  refine cT_i (As := [.int a1, .int (0 : Int32), .int (1000000 : Int32)]) (rest := []) ⟨hx, hb, hml, hown, hts⟩ (c_X7_in l D y _ a1 (0 : Int32) (1000000 : Int32)) (va_cwS 3 hts gX7_isTop_X7_in rfl rfl rfl hd_X7_in ⟨Nat.le_of_ble_eq_true rfl, Nat.le_of_ble_eq_true rfl⟩) hK hP hD hS hA rfl hl.1 rfl (Nat.le_of_ble_eq_true rfl) dX7_isTop_4 ⟨Nat.le_of_ble_eq_true rfl, Nat.le_of_ble_eq_true rfl⟩ (fun H locs hP hD hS => ?_)
  exact hE _ _ _ _ dX7_isTop_7 hP hD hS (nz01 (z_X7_in _ _ _))
abbrev rm_X7_isBottom : Room := { frames := 1, cells := 0, slots := 0, locals := 22 }
theorem hd_X7_isBottom : yX7_isBottom.cls ≠ "java/lang/invoke/MethodHandle" ∧ yX7_isBottom.cls ≠ "java/lang/invoke/VarHandle" ∧ (parseMethodDescriptor yX7_isBottom.desc).map (fun d => d.parameters.length) = some 1 := by decide +kernel
set_option maxHeartbeats 0 in
set_option maxRecDepth 100000 in
theorem c_X7_isBottom (l : Launch) (D : va_G) (y : Nat → ClassId) (sz : Nat) (a1 : Int32) : Met l yX7_isBottom wsX7_isBottom rm_X7_isBottom (va_Pc [.int a1] (px D y sz [])) (Qri D y sz [] [] (F_X7_isBottom a1)) 0 0 (va_A [] sz) := by
  refine hd_z (cc := cX7_isBottom) (maxL := 1) (rt := .boolean) rfl rfl (Nat.le_of_ble_eq_true rfl) ?_
  intro p e s m args below meth c A Q H locs ls hx hb hml hts hown _ hA hP hD hK hS hl hE
  have hl : lv_has ls 1 [(0, .int a1)] := hl
  have q0 := hts (.constant RX7 100 (1000000)) (by decide +kernel)
  refine lv_iload_n hx hb dX7_isBottom_0 rfl (lv_at hl 0 rfl) ?_
  refine lv_iconst (v := (1 : Int32)) hx hb dX7_isBottom_1 (by decide) ?_
  refine lv_ldc (v := (1000000 : Int32)) hx hb hown q0 dX7_isBottom_2 ?_
  refine cT_i (As := [.int a1, .int (1 : Int32), .int (1000000 : Int32)]) (rest := []) ⟨hx, hb, hml, hown, hts⟩ (c_X7_in l D y _ a1 (1 : Int32) (1000000 : Int32)) (va_cwS 3 hts gX7_isBottom_X7_in rfl rfl rfl hd_X7_in ⟨Nat.le_of_ble_eq_true rfl, Nat.le_of_ble_eq_true rfl⟩) hK hP hD hS hA rfl hl.1 rfl (Nat.le_of_ble_eq_true rfl) dX7_isBottom_4 ⟨Nat.le_of_ble_eq_true rfl, Nat.le_of_ble_eq_true rfl⟩ (fun H locs hP hD hS => ?_)
  exact hE _ _ _ _ dX7_isBottom_7 hP hD hS (nz01 (z_X7_in _ _ _))
abbrev rm_X7_set : Room := { frames := 2, cells := 0, slots := 0, locals := 55 }
theorem hd_X7_set : yX7_set.cls = RX7 ∧ yX7_set.cls ≠ "java/lang/invoke/MethodHandle" ∧ yX7_set.cls ≠ "java/lang/invoke/VarHandle" ∧ (parseMethodDescriptor yX7_set.desc).map (fun d => d.parameters.length) = some 3 := by decide +kernel
set_option maxHeartbeats 0 in
set_option maxRecDepth 100000 in
theorem c_X7_set (l : Launch) (D : va_G) (w : Nat → Nat) (y : Nat → ClassId) (sz : Nat) (th : Int32) (ms : Nat → Int32) (mst : Nat → Int32) (smn : Int32) (msl : Nat → Int32) (mhs : Nat → Int32) (mtx : Nat → Int32) (mle : Int32) (mat : Int32) (mwl : Int32) (mrd : Nat → Int32) (mrm : Int32) (mtp : Int64) (mbt : Int64) (mtm : Nat → Int32) (mtn : Int32) (mnt : Int32) (mnb : Int32) (mun : Nat → Int32) (mum : Int32) (mau : Int32) (a1 : Int32) (a2 : Int32) (a3 : Int32) (r : Int32) (th' : Int32) (ms' : Nat → Int32) (mst' : Nat → Int32) (smn' : Int32) (mtp' : Int64) (mbt' : Int64) (h : F_X7_set th ms mst smn mtp mbt a1 a2 a3 = some (r, th', ms', mst', smn', mtp', mbt')) : Met l yX7_set wsX7_set rm_X7_set (va_Pc [.ref (w 0), .int a1, .int a2, .int a3] (px D y sz (MW w y th ms mst smn msl mhs mtx mle mat mwl mrd mrm mtp mbt mtm mtn mnt mnb mun mum mau))) (Qri D y sz (MW w y th ms mst smn msl mhs mtx mle mat mwl mrd mrm mtp mbt mtm mtn mnt mnb mun mum mau) (MW w y th' ms' mst' smn' msl mhs mtx mle mat mwl mrd mrm mtp' mbt' mtm mtn mnt mnb mun mum mau) r) 0 0 (va_A (MW w y th ms mst smn msl mhs mtx mle mat mwl mrd mrm mtp mbt mtm mtn mnt mnb mun mum mau) sz) := by
  refine hd_i (cc := cX7_set) (maxL := 4) rfl rfl (Nat.le_of_ble_eq_true rfl) ?_
  intro p e s m args below meth c A Q H locs ls hx hb hml hts hown _ hA hP hD hK hS hl hE
  have hl : lv_has ls 4 [(0, .ref (w 0)), (1, .int a1), (2, .int a2), (3, .int a3)] := hl
  have q0 := hts (.fieldLink RX7 35 "SliceSharesModel" "thrown" "I") (by decide +kernel)
  have hinRX7 : ∀ w ∈ wsX70, w ∈ wsX7_set := by decide +kernel
  unfold F_X7_set at h
  refine lv_aload_n hx hb dX7_set_0 rfl (lv_at hl 0 rfl) ?_
  refine lv_iconst (v := (0 : Int32)) hx hb dX7_set_1 (by decide) ?_
  refine va_put (D := D) (ci := 5) (v := .int (0 : Int32)) (ty := .int) (C := RX7) (T := TX7) (N := 21) hx hb hts hinRX7 tyX7 tyX7_ok nmX7 hown hK hP hD hS 0 rfl rfl 0 (by decide) q0 (fun _ h9 => h9) rfl (by decide +kernel) rfl rfl (Nat.le_of_ble_eq_true rfl) dX7_set_2 (fun H locs hP hD hS => ?_)
  have hP : va_P D vwCl (MW w y (0 : Int32) ms mst smn msl mhs mtx mle mat mwl mrd mrm mtp mbt mtm mtn mnt mnb mun mum mau) H := hP
  have hD : va_D A (MW w y (0 : Int32) ms mst smn msl mhs mtx mle mat mwl mrd mrm mtp mbt mtm mtn mnt mnb mun mum mau) := hD
  refine lv_iload_n hx hb dX7_set_5 rfl (lv_at hl 1 rfl) ?_
  refine cT_i (As := [.int a1]) (rest := []) ⟨hx, hb, hml, hown, hts⟩ (c_X7_isPlate l D y _ a1) (va_cwS 1 hts gX7_set_X7_isPlate rfl rfl rfl hd_X7_isPlate ⟨Nat.le_of_ble_eq_true rfl, Nat.le_of_ble_eq_true rfl⟩) hK hP hD hS hA rfl hl.1 rfl (Nat.le_of_ble_eq_true rfl) dX7_set_6 ⟨Nat.le_of_ble_eq_true rfl, Nat.le_of_ble_eq_true rfl⟩ (fun H locs hP hD hS => ?_)
  refine lv_if_ne (tgt := 18) hx hb dX7_set_9 (by decide) (fun c1 => ?_) (fun c1 => ?_)
  · replace h := fF c1 h
    refine lv_iload_n hx hb dX7_set_18 rfl (lv_at hl 2 rfl) ?_
    refine cT_i (As := [.int a2]) (rest := []) ⟨hx, hb, hml, hown, hts⟩ (c_X7_isTop l D y _ a2) (va_cwS 1 hts gX7_set_X7_isTop rfl rfl rfl hd_X7_isTop ⟨Nat.le_of_ble_eq_true rfl, Nat.le_of_ble_eq_true rfl⟩) hK hP hD hS hA rfl hl.1 rfl (Nat.le_of_ble_eq_true rfl) dX7_set_19 ⟨Nat.le_of_ble_eq_true rfl, Nat.le_of_ble_eq_true rfl⟩ (fun H locs hP hD hS => ?_)
    refine lv_if_eq (tgt := 32) hx hb dX7_set_22 (by decide) (fun c2 => ?_) (fun c2 => ?_)
    · replace h := fT c2 h
      refine lv_aload_n hx hb dX7_set_32 rfl (lv_at hl 0 rfl) ?_
      refine lv_iconst (v := (2 : Int32)) hx hb dX7_set_33 (by decide) ?_
      obtain ⟨r3, th4, g5, h⟩ := fB2 h
      refine cV_i (As := [.int (2 : Int32)]) (rest := []) (ws1 := (MW w y th4 ms mst smn msl mhs mtx mle mat mwl mrd mrm mtp mbt mtm mtn mnt mnb mun mum mau)) ⟨hx, hb, hml, hown, hts⟩ (c_X7_fails l D w y _ (0 : Int32) ms mst smn msl mhs mtx mle mat mwl mrd mrm mtp mbt mtm mtn mnt mnb mun mum mau (2 : Int32) r3 th4 g5) (cwV 1 hts gX7_set_X7_fails rfl rfl rfl hd_X7_fails ⟨Nat.le_of_ble_eq_true rfl, Nat.le_of_ble_eq_true rfl⟩) hK hP hD hS hA [0, 1, 2, 3, 4, 5, 6, 7, 8] [] [0, 1, 2, 3, 4, 5, 6, 7, 8] rfl rfl rfl (by decide) rfl rfl rfl 0 (ci := 5) rfl rfl rfl hl.1 rfl (Nat.le_of_ble_eq_true rfl) dX7_set_34 ⟨Nat.le_of_ble_eq_true rfl, Nat.le_of_ble_eq_true rfl⟩ (fun H locs hP hD hS => ?_)
      cases h
      exact hE _ _ _ _ dX7_set_37 hP hD hS
    · replace h := fF c2 h
      refine lv_iload_n hx hb dX7_set_25 rfl (lv_at hl 3 rfl) ?_
      refine cT_i (As := [.int a3]) (rest := []) ⟨hx, hb, hml, hown, hts⟩ (c_X7_isBottom l D y _ a3) (va_cwS 1 hts gX7_set_X7_isBottom rfl rfl rfl hd_X7_isBottom ⟨Nat.le_of_ble_eq_true rfl, Nat.le_of_ble_eq_true rfl⟩) hK hP hD hS hA rfl hl.1 rfl (Nat.le_of_ble_eq_true rfl) dX7_set_26 ⟨Nat.le_of_ble_eq_true rfl, Nat.le_of_ble_eq_true rfl⟩ (fun H locs hP hD hS => ?_)
      refine lv_if_ne (tgt := 38) hx hb dX7_set_29 (by decide) (fun c6 => ?_) (fun c6 => ?_)
      · replace h := fF c6 h
        refine lv_aload_n hx hb dX7_set_38 rfl (lv_at hl 0 rfl) ?_
        obtain ⟨mst7, smn8, g9, h⟩ := fB2 h
        refine cV_v (As := []) (rest := []) (ws1 := (MW w y (0 : Int32) ms mst7 smn8 msl mhs mtx mle mat mwl mrd mrm mtp mbt mtm mtn mnt mnb mun mum mau)) ⟨hx, hb, hml, hown, hts⟩ (c_X7_records l D w y _ (0 : Int32) ms mst smn msl mhs mtx mle mat mwl mrd mrm mtp mbt mtm mtn mnt mnb mun mum mau mst7 smn8 g9) (cwV 0 hts gX7_set_X7_records rfl rfl rfl hd_X7_records ⟨Nat.le_of_ble_eq_true rfl, Nat.le_of_ble_eq_true rfl⟩) hK hP hD hS hA [0, 1, 2, 3, 4, 5, 6, 7, 8] [] [0, 1, 2, 3, 4, 5, 6, 7, 8] rfl rfl rfl (by decide) rfl rfl rfl 0 (ci := 5) rfl rfl rfl hl.1 rfl (Nat.le_of_ble_eq_true rfl) dX7_set_39 ⟨Nat.le_of_ble_eq_true rfl, Nat.le_of_ble_eq_true rfl⟩ (fun H locs hP hD hS => ?_)
        refine lv_aload_n hx hb dX7_set_42 rfl (lv_at hl 0 rfl) ?_
        refine lv_iload_n hx hb dX7_set_43 rfl (lv_at hl 2 rfl) ?_
        refine lv_i2l (v := a2.toInt64) hx hb dX7_set_44 rfl ?_
        refine lv_iload_n hx hb dX7_set_45 rfl (lv_at hl 3 rfl) ?_
        refine lv_i2l (v := a3.toInt64) hx hb dX7_set_46 rfl ?_
        obtain ⟨r10, mtp11, mbt12, g13, h⟩ := fB3 h
        refine cV_i (As := [.long a2.toInt64, .long a3.toInt64]) (rest := []) (ws1 := (MW w y (0 : Int32) ms mst7 smn8 msl mhs mtx mle mat mwl mrd mrm mtp11 mbt12 mtm mtn mnt mnb mun mum mau)) ⟨hx, hb, hml, hown, hts⟩ (c_X7_makes l D w y _ (0 : Int32) ms mst7 smn8 msl mhs mtx mle mat mwl mrd mrm mtp mbt mtm mtn mnt mnb mun mum mau a2.toInt64 a3.toInt64 r10 mtp11 mbt12 g13) (cwV 2 hts gX7_set_X7_makes rfl rfl rfl hd_X7_makes ⟨Nat.le_of_ble_eq_true rfl, Nat.le_of_ble_eq_true rfl⟩) hK hP hD hS hA [0, 1, 2, 3, 4, 5, 6, 7, 8] [] [0, 1, 2, 3, 4, 5, 6, 7, 8] rfl rfl rfl (by decide) rfl rfl rfl 0 (ci := 5) rfl rfl rfl hl.1 rfl (Nat.le_of_ble_eq_true rfl) dX7_set_47 ⟨Nat.le_of_ble_eq_true rfl, Nat.le_of_ble_eq_true rfl⟩ (fun H locs hP hD hS => ?_)
        refine lv_pop hx hb dX7_set_50 rfl ?_
        refine lv_aload_n hx hb dX7_set_51 rfl (lv_at hl 0 rfl) ?_
        refine lv_iload_n hx hb dX7_set_52 rfl (lv_at hl 1 rfl) ?_
        obtain ⟨r14, ms15, g16, h⟩ := fB2 h
        refine cV_i (As := [.int a1]) (rest := []) (ws1 := (MW w y (0 : Int32) ms15 mst7 smn8 msl mhs mtx mle mat mwl mrd mrm mtp11 mbt12 mtm mtn mnt mnb mun mum mau)) ⟨hx, hb, hml, hown, hts⟩ (c_X7_puts l D w y _ (0 : Int32) ms mst7 smn8 msl mhs mtx mle mat mwl mrd mrm mtp11 mbt12 mtm mtn mnt mnb mun mum mau a1 r14 ms15 g16) (cwV 1 hts gX7_set_X7_puts rfl rfl rfl hd_X7_puts ⟨Nat.le_of_ble_eq_true rfl, Nat.le_of_ble_eq_true rfl⟩) hK hP hD hS hA [0, 1, 2, 3, 4, 5, 6, 7, 8] [] [0, 1, 2, 3, 4, 5, 6, 7, 8] rfl rfl rfl (by decide) rfl rfl rfl 0 (ci := 5) rfl rfl rfl hl.1 rfl (Nat.le_of_ble_eq_true rfl) dX7_set_53 ⟨Nat.le_of_ble_eq_true rfl, Nat.le_of_ble_eq_true rfl⟩ (fun H locs hP hD hS => ?_)
        cases h
        exact hE _ _ _ _ dX7_set_56 hP hD hS
      · replace h := fT c6 h
        refine lv_aload_n hx hb dX7_set_32 rfl (lv_at hl 0 rfl) ?_
        refine lv_iconst (v := (2 : Int32)) hx hb dX7_set_33 (by decide) ?_
        obtain ⟨r17, th18, g19, h⟩ := fB2 h
        refine cV_i (As := [.int (2 : Int32)]) (rest := []) (ws1 := (MW w y th18 ms mst smn msl mhs mtx mle mat mwl mrd mrm mtp mbt mtm mtn mnt mnb mun mum mau)) ⟨hx, hb, hml, hown, hts⟩ (c_X7_fails l D w y _ (0 : Int32) ms mst smn msl mhs mtx mle mat mwl mrd mrm mtp mbt mtm mtn mnt mnb mun mum mau (2 : Int32) r17 th18 g19) (cwV 1 hts gX7_set_X7_fails rfl rfl rfl hd_X7_fails ⟨Nat.le_of_ble_eq_true rfl, Nat.le_of_ble_eq_true rfl⟩) hK hP hD hS hA [0, 1, 2, 3, 4, 5, 6, 7, 8] [] [0, 1, 2, 3, 4, 5, 6, 7, 8] rfl rfl rfl (by decide) rfl rfl rfl 0 (ci := 5) rfl rfl rfl hl.1 rfl (Nat.le_of_ble_eq_true rfl) dX7_set_34 ⟨Nat.le_of_ble_eq_true rfl, Nat.le_of_ble_eq_true rfl⟩ (fun H locs hP hD hS => ?_)
        cases h
        exact hE _ _ _ _ dX7_set_37 hP hD hS
  · replace h := fT c1 h
    refine lv_aload_n hx hb dX7_set_12 rfl (lv_at hl 0 rfl) ?_
    refine lv_iconst (v := (1 : Int32)) hx hb dX7_set_13 (by decide) ?_
    obtain ⟨r20, th21, g22, h⟩ := fB2 h
    refine cV_i (As := [.int (1 : Int32)]) (rest := []) (ws1 := (MW w y th21 ms mst smn msl mhs mtx mle mat mwl mrd mrm mtp mbt mtm mtn mnt mnb mun mum mau)) ⟨hx, hb, hml, hown, hts⟩ (c_X7_fails l D w y _ (0 : Int32) ms mst smn msl mhs mtx mle mat mwl mrd mrm mtp mbt mtm mtn mnt mnb mun mum mau (1 : Int32) r20 th21 g22) (cwV 1 hts gX7_set_X7_fails rfl rfl rfl hd_X7_fails ⟨Nat.le_of_ble_eq_true rfl, Nat.le_of_ble_eq_true rfl⟩) hK hP hD hS hA [0, 1, 2, 3, 4, 5, 6, 7, 8] [] [0, 1, 2, 3, 4, 5, 6, 7, 8] rfl rfl rfl (by decide) rfl rfl rfl 0 (ci := 5) rfl rfl rfl hl.1 rfl (Nat.le_of_ble_eq_true rfl) dX7_set_14 ⟨Nat.le_of_ble_eq_true rfl, Nat.le_of_ble_eq_true rfl⟩ (fun H locs hP hD hS => ?_)
    cases h
    exact hE _ _ _ _ dX7_set_17 hP hD hS
abbrev rm_X7_add : Room := { frames := 3, cells := 0, slots := 0, locals := 78 }
theorem hd_X7_add : yX7_add.cls = RX7 ∧ yX7_add.cls ≠ "java/lang/invoke/MethodHandle" ∧ yX7_add.cls ≠ "java/lang/invoke/VarHandle" ∧ (parseMethodDescriptor yX7_add.desc).map (fun d => d.parameters.length) = some 2 := by decide +kernel
set_option maxHeartbeats 0 in
set_option maxRecDepth 100000 in
theorem c_X7_add (l : Launch) (D : va_G) (w : Nat → Nat) (y : Nat → ClassId) (sz : Nat) (th : Int32) (ms : Nat → Int32) (mst : Nat → Int32) (smn : Int32) (msl : Nat → Int32) (mhs : Nat → Int32) (mtx : Nat → Int32) (mle : Int32) (mat : Int32) (mwl : Int32) (mrd : Nat → Int32) (mrm : Int32) (mtp : Int64) (mbt : Int64) (mtm : Nat → Int32) (mtn : Int32) (mnt : Int32) (mnb : Int32) (mun : Nat → Int32) (mum : Int32) (mau : Int32) (a1 : Int32) (a2 : Int32) (r : Int32) (th' : Int32) (ms' : Nat → Int32) (mst' : Nat → Int32) (smn' : Int32) (mtp' : Int64) (mbt' : Int64) (h : F_X7_add th ms mst smn mtp mbt a1 a2 = some (r, th', ms', mst', smn', mtp', mbt')) : Met l yX7_add wsX7_add rm_X7_add (va_Pc [.ref (w 0), .int a1, .int a2] (px D y sz (MW w y th ms mst smn msl mhs mtx mle mat mwl mrd mrm mtp mbt mtm mtn mnt mnb mun mum mau))) (Qri D y sz (MW w y th ms mst smn msl mhs mtx mle mat mwl mrd mrm mtp mbt mtm mtn mnt mnb mun mum mau) (MW w y th' ms' mst' smn' msl mhs mtx mle mat mwl mrd mrm mtp' mbt' mtm mtn mnt mnb mun mum mau) r) 0 0 (va_A (MW w y th ms mst smn msl mhs mtx mle mat mwl mrd mrm mtp mbt mtm mtn mnt mnb mun mum mau) sz) := by
  refine hd_i (cc := cX7_add) (maxL := 3) rfl rfl (Nat.le_of_ble_eq_true rfl) ?_
  intro p e s m args below meth c A Q H locs ls hx hb hml hts hown _ hA hP hD hK hS hl hE
  have hl : lv_has ls 3 [(0, .ref (w 0)), (1, .int a1), (2, .int a2)] := hl
  have q0 := hts (.fieldLink RX7 35 "SliceSharesModel" "thrown" "I") (by decide +kernel)
  have hinRX7 : ∀ w ∈ wsX70, w ∈ wsX7_add := by decide +kernel
  unfold F_X7_add at h
  refine lv_aload_n hx hb dX7_add_0 rfl (lv_at hl 0 rfl) ?_
  refine lv_iconst (v := (0 : Int32)) hx hb dX7_add_1 (by decide) ?_
  refine va_put (D := D) (ci := 5) (v := .int (0 : Int32)) (ty := .int) (C := RX7) (T := TX7) (N := 21) hx hb hts hinRX7 tyX7 tyX7_ok nmX7 hown hK hP hD hS 0 rfl rfl 0 (by decide) q0 (fun _ h9 => h9) rfl (by decide +kernel) rfl rfl (Nat.le_of_ble_eq_true rfl) dX7_add_2 (fun H locs hP hD hS => ?_)
  have hP : va_P D vwCl (MW w y (0 : Int32) ms mst smn msl mhs mtx mle mat mwl mrd mrm mtp mbt mtm mtn mnt mnb mun mum mau) H := hP
  have hD : va_D A (MW w y (0 : Int32) ms mst smn msl mhs mtx mle mat mwl mrd mrm mtp mbt mtm mtn mnt mnb mun mum mau) := hD
  refine lv_iload_n hx hb dX7_add_5 rfl (lv_at hl 1 rfl) ?_
  refine lv_iload_n hx hb dX7_add_6 rfl (lv_at hl 2 rfl) ?_
  refine cT_i (As := [.int a1, .int a2]) (rest := []) ⟨hx, hb, hml, hown, hts⟩ (c_X7_arePlates l D y _ a1 a2) (va_cwS 2 hts gX7_add_X7_arePlates rfl rfl rfl hd_X7_arePlates ⟨Nat.le_of_ble_eq_true rfl, Nat.le_of_ble_eq_true rfl⟩) hK hP hD hS hA rfl hl.1 rfl (Nat.le_of_ble_eq_true rfl) dX7_add_7 ⟨Nat.le_of_ble_eq_true rfl, Nat.le_of_ble_eq_true rfl⟩ (fun H locs hP hD hS => ?_)
  refine lv_if_ne (tgt := 19) hx hb dX7_add_10 (by decide) (fun c1 => ?_) (fun c1 => ?_)
  · replace h := fF c1 h
    refine lv_aload_n hx hb dX7_add_19 rfl (lv_at hl 0 rfl) ?_
    refine lv_iload_n hx hb dX7_add_20 rfl (lv_at hl 1 rfl) ?_
    refine lv_iload_n hx hb dX7_add_21 rfl (lv_at hl 2 rfl) ?_
    refine lv_iconst (v := (1 : Int32)) hx hb dX7_add_22 (by decide) ?_
    obtain ⟨r2, mtp3, mbt4, g5, h⟩ := fB3 h
    refine cV_i (As := [.int a1, .int a2, .int (1 : Int32)]) (rest := []) (ws1 := (MW w y (0 : Int32) ms mst smn msl mhs mtx mle mat mwl mrd mrm mtp3 mbt4 mtm mtn mnt mnb mun mum mau)) ⟨hx, hb, hml, hown, hts⟩ (c_X7_makesSum l D w y _ (0 : Int32) ms mst smn msl mhs mtx mle mat mwl mrd mrm mtp mbt mtm mtn mnt mnb mun mum mau a1 a2 (1 : Int32) r2 mtp3 mbt4 g5) (cwV 3 hts gX7_add_X7_makesSum rfl rfl rfl hd_X7_makesSum ⟨Nat.le_of_ble_eq_true rfl, Nat.le_of_ble_eq_true rfl⟩) hK hP hD hS hA [0, 1, 2, 3, 4, 5, 6, 7, 8] [] [0, 1, 2, 3, 4, 5, 6, 7, 8] rfl rfl rfl (by decide) rfl rfl rfl 0 (ci := 5) rfl rfl rfl hl.1 rfl (Nat.le_of_ble_eq_true rfl) dX7_add_23 ⟨Nat.le_of_ble_eq_true rfl, Nat.le_of_ble_eq_true rfl⟩ (fun H locs hP hD hS => ?_)
    refine lv_if_ne (tgt := 35) hx hb dX7_add_26 (by decide) (fun c6 => ?_) (fun c6 => ?_)
    · replace h := fF c6 h
      refine lv_aload_n hx hb dX7_add_35 rfl (lv_at hl 0 rfl) ?_
      obtain ⟨mst7, smn8, g9, h⟩ := fB2 h
      refine cV_v (As := []) (rest := []) (ws1 := (MW w y (0 : Int32) ms mst7 smn8 msl mhs mtx mle mat mwl mrd mrm mtp3 mbt4 mtm mtn mnt mnb mun mum mau)) ⟨hx, hb, hml, hown, hts⟩ (c_X7_records l D w y _ (0 : Int32) ms mst smn msl mhs mtx mle mat mwl mrd mrm mtp3 mbt4 mtm mtn mnt mnb mun mum mau mst7 smn8 g9) (cwV 0 hts gX7_add_X7_records rfl rfl rfl hd_X7_records ⟨Nat.le_of_ble_eq_true rfl, Nat.le_of_ble_eq_true rfl⟩) hK hP hD hS hA [0, 1, 2, 3, 4, 5, 6, 7, 8] [] [0, 1, 2, 3, 4, 5, 6, 7, 8] rfl rfl rfl (by decide) rfl rfl rfl 0 (ci := 5) rfl rfl rfl hl.1 rfl (Nat.le_of_ble_eq_true rfl) dX7_add_36 ⟨Nat.le_of_ble_eq_true rfl, Nat.le_of_ble_eq_true rfl⟩ (fun H locs hP hD hS => ?_)
      refine lv_aload_n hx hb dX7_add_39 rfl (lv_at hl 0 rfl) ?_
      refine lv_iload_n hx hb dX7_add_40 rfl (lv_at hl 1 rfl) ?_
      obtain ⟨r10, ms11, g12, h⟩ := fB2 h
      refine cV_i (As := [.int a1]) (rest := []) (ws1 := (MW w y (0 : Int32) ms11 mst7 smn8 msl mhs mtx mle mat mwl mrd mrm mtp3 mbt4 mtm mtn mnt mnb mun mum mau)) ⟨hx, hb, hml, hown, hts⟩ (c_X7_puts l D w y _ (0 : Int32) ms mst7 smn8 msl mhs mtx mle mat mwl mrd mrm mtp3 mbt4 mtm mtn mnt mnb mun mum mau a1 r10 ms11 g12) (cwV 1 hts gX7_add_X7_puts rfl rfl rfl hd_X7_puts ⟨Nat.le_of_ble_eq_true rfl, Nat.le_of_ble_eq_true rfl⟩) hK hP hD hS hA [0, 1, 2, 3, 4, 5, 6, 7, 8] [] [0, 1, 2, 3, 4, 5, 6, 7, 8] rfl rfl rfl (by decide) rfl rfl rfl 0 (ci := 5) rfl rfl rfl hl.1 rfl (Nat.le_of_ble_eq_true rfl) dX7_add_41 ⟨Nat.le_of_ble_eq_true rfl, Nat.le_of_ble_eq_true rfl⟩ (fun H locs hP hD hS => ?_)
      cases h
      exact hE _ _ _ _ dX7_add_44 hP hD hS
    · replace h := fT c6 h
      refine lv_aload_n hx hb dX7_add_29 rfl (lv_at hl 0 rfl) ?_
      refine lv_iconst (v := (2 : Int32)) hx hb dX7_add_30 (by decide) ?_
      obtain ⟨r13, th14, g15, h⟩ := fB2 h
      refine cV_i (As := [.int (2 : Int32)]) (rest := []) (ws1 := (MW w y th14 ms mst smn msl mhs mtx mle mat mwl mrd mrm mtp3 mbt4 mtm mtn mnt mnb mun mum mau)) ⟨hx, hb, hml, hown, hts⟩ (c_X7_fails l D w y _ (0 : Int32) ms mst smn msl mhs mtx mle mat mwl mrd mrm mtp3 mbt4 mtm mtn mnt mnb mun mum mau (2 : Int32) r13 th14 g15) (cwV 1 hts gX7_add_X7_fails rfl rfl rfl hd_X7_fails ⟨Nat.le_of_ble_eq_true rfl, Nat.le_of_ble_eq_true rfl⟩) hK hP hD hS hA [0, 1, 2, 3, 4, 5, 6, 7, 8] [] [0, 1, 2, 3, 4, 5, 6, 7, 8] rfl rfl rfl (by decide) rfl rfl rfl 0 (ci := 5) rfl rfl rfl hl.1 rfl (Nat.le_of_ble_eq_true rfl) dX7_add_31 ⟨Nat.le_of_ble_eq_true rfl, Nat.le_of_ble_eq_true rfl⟩ (fun H locs hP hD hS => ?_)
      cases h
      exact hE _ _ _ _ dX7_add_34 hP hD hS
  · replace h := fT c1 h
    refine lv_aload_n hx hb dX7_add_13 rfl (lv_at hl 0 rfl) ?_
    refine lv_iconst (v := (1 : Int32)) hx hb dX7_add_14 (by decide) ?_
    obtain ⟨r16, th17, g18, h⟩ := fB2 h
    refine cV_i (As := [.int (1 : Int32)]) (rest := []) (ws1 := (MW w y th17 ms mst smn msl mhs mtx mle mat mwl mrd mrm mtp mbt mtm mtn mnt mnb mun mum mau)) ⟨hx, hb, hml, hown, hts⟩ (c_X7_fails l D w y _ (0 : Int32) ms mst smn msl mhs mtx mle mat mwl mrd mrm mtp mbt mtm mtn mnt mnb mun mum mau (1 : Int32) r16 th17 g18) (cwV 1 hts gX7_add_X7_fails rfl rfl rfl hd_X7_fails ⟨Nat.le_of_ble_eq_true rfl, Nat.le_of_ble_eq_true rfl⟩) hK hP hD hS hA [0, 1, 2, 3, 4, 5, 6, 7, 8] [] [0, 1, 2, 3, 4, 5, 6, 7, 8] rfl rfl rfl (by decide) rfl rfl rfl 0 (ci := 5) rfl rfl rfl hl.1 rfl (Nat.le_of_ble_eq_true rfl) dX7_add_15 ⟨Nat.le_of_ble_eq_true rfl, Nat.le_of_ble_eq_true rfl⟩ (fun H locs hP hD hS => ?_)
    cases h
    exact hE _ _ _ _ dX7_add_18 hP hD hS
abbrev rm_X7_takeAway : Room := { frames := 3, cells := 0, slots := 0, locals := 78 }
theorem hd_X7_takeAway : yX7_takeAway.cls = RX7 ∧ yX7_takeAway.cls ≠ "java/lang/invoke/MethodHandle" ∧ yX7_takeAway.cls ≠ "java/lang/invoke/VarHandle" ∧ (parseMethodDescriptor yX7_takeAway.desc).map (fun d => d.parameters.length) = some 2 := by decide +kernel
set_option maxHeartbeats 0 in
set_option maxRecDepth 100000 in
theorem c_X7_takeAway (l : Launch) (D : va_G) (w : Nat → Nat) (y : Nat → ClassId) (sz : Nat) (th : Int32) (ms : Nat → Int32) (mst : Nat → Int32) (smn : Int32) (msl : Nat → Int32) (mhs : Nat → Int32) (mtx : Nat → Int32) (mle : Int32) (mat : Int32) (mwl : Int32) (mrd : Nat → Int32) (mrm : Int32) (mtp : Int64) (mbt : Int64) (mtm : Nat → Int32) (mtn : Int32) (mnt : Int32) (mnb : Int32) (mun : Nat → Int32) (mum : Int32) (mau : Int32) (a1 : Int32) (a2 : Int32) (r : Int32) (th' : Int32) (ms' : Nat → Int32) (mst' : Nat → Int32) (smn' : Int32) (mtp' : Int64) (mbt' : Int64) (h : F_X7_takeAway th ms mst smn mtp mbt a1 a2 = some (r, th', ms', mst', smn', mtp', mbt')) : Met l yX7_takeAway wsX7_takeAway rm_X7_takeAway (va_Pc [.ref (w 0), .int a1, .int a2] (px D y sz (MW w y th ms mst smn msl mhs mtx mle mat mwl mrd mrm mtp mbt mtm mtn mnt mnb mun mum mau))) (Qri D y sz (MW w y th ms mst smn msl mhs mtx mle mat mwl mrd mrm mtp mbt mtm mtn mnt mnb mun mum mau) (MW w y th' ms' mst' smn' msl mhs mtx mle mat mwl mrd mrm mtp' mbt' mtm mtn mnt mnb mun mum mau) r) 0 0 (va_A (MW w y th ms mst smn msl mhs mtx mle mat mwl mrd mrm mtp mbt mtm mtn mnt mnb mun mum mau) sz) := by
  refine hd_i (cc := cX7_takeAway) (maxL := 3) rfl rfl (Nat.le_of_ble_eq_true rfl) ?_
  intro p e s m args below meth c A Q H locs ls hx hb hml hts hown _ hA hP hD hK hS hl hE
  have hl : lv_has ls 3 [(0, .ref (w 0)), (1, .int a1), (2, .int a2)] := hl
  have q0 := hts (.fieldLink RX7 35 "SliceSharesModel" "thrown" "I") (by decide +kernel)
  have hinRX7 : ∀ w ∈ wsX70, w ∈ wsX7_takeAway := by decide +kernel
  unfold F_X7_takeAway at h
  refine lv_aload_n hx hb dX7_takeAway_0 rfl (lv_at hl 0 rfl) ?_
  refine lv_iconst (v := (0 : Int32)) hx hb dX7_takeAway_1 (by decide) ?_
  refine va_put (D := D) (ci := 5) (v := .int (0 : Int32)) (ty := .int) (C := RX7) (T := TX7) (N := 21) hx hb hts hinRX7 tyX7 tyX7_ok nmX7 hown hK hP hD hS 0 rfl rfl 0 (by decide) q0 (fun _ h9 => h9) rfl (by decide +kernel) rfl rfl (Nat.le_of_ble_eq_true rfl) dX7_takeAway_2 (fun H locs hP hD hS => ?_)
  have hP : va_P D vwCl (MW w y (0 : Int32) ms mst smn msl mhs mtx mle mat mwl mrd mrm mtp mbt mtm mtn mnt mnb mun mum mau) H := hP
  have hD : va_D A (MW w y (0 : Int32) ms mst smn msl mhs mtx mle mat mwl mrd mrm mtp mbt mtm mtn mnt mnb mun mum mau) := hD
  refine lv_iload_n hx hb dX7_takeAway_5 rfl (lv_at hl 1 rfl) ?_
  refine lv_iload_n hx hb dX7_takeAway_6 rfl (lv_at hl 2 rfl) ?_
  refine cT_i (As := [.int a1, .int a2]) (rest := []) ⟨hx, hb, hml, hown, hts⟩ (c_X7_arePlates l D y _ a1 a2) (va_cwS 2 hts gX7_takeAway_X7_arePlates rfl rfl rfl hd_X7_arePlates ⟨Nat.le_of_ble_eq_true rfl, Nat.le_of_ble_eq_true rfl⟩) hK hP hD hS hA rfl hl.1 rfl (Nat.le_of_ble_eq_true rfl) dX7_takeAway_7 ⟨Nat.le_of_ble_eq_true rfl, Nat.le_of_ble_eq_true rfl⟩ (fun H locs hP hD hS => ?_)
  refine lv_if_ne (tgt := 19) hx hb dX7_takeAway_10 (by decide) (fun c1 => ?_) (fun c1 => ?_)
  · replace h := fF c1 h
    refine lv_aload_n hx hb dX7_takeAway_19 rfl (lv_at hl 0 rfl) ?_
    refine lv_iload_n hx hb dX7_takeAway_20 rfl (lv_at hl 1 rfl) ?_
    refine lv_iload_n hx hb dX7_takeAway_21 rfl (lv_at hl 2 rfl) ?_
    obtain ⟨r2, g3, h⟩ := fB1 h
    refine cV_i (As := [.int a1, .int a2]) (rest := []) (ws1 := (MW w y (0 : Int32) ms mst smn msl mhs mtx mle mat mwl mrd mrm mtp mbt mtm mtn mnt mnb mun mum mau)) ⟨hx, hb, hml, hown, hts⟩ (c_X7_holds l D w y _ (0 : Int32) ms mst smn msl mhs mtx mle mat mwl mrd mrm mtp mbt mtm mtn mnt mnb mun mum mau a1 a2 r2 g3) (cwV 2 hts gX7_takeAway_X7_holds rfl rfl rfl hd_X7_holds ⟨Nat.le_of_ble_eq_true rfl, Nat.le_of_ble_eq_true rfl⟩) hK hP hD hS hA [0, 1, 2, 3, 4, 5, 6, 7, 8] [] [0, 1, 2, 3, 4, 5, 6, 7, 8] rfl rfl rfl (by decide) rfl rfl rfl 0 (ci := 5) rfl rfl rfl hl.1 rfl (Nat.le_of_ble_eq_true rfl) dX7_takeAway_22 ⟨Nat.le_of_ble_eq_true rfl, Nat.le_of_ble_eq_true rfl⟩ (fun H locs hP hD hS => ?_)
    refine lv_if_lt (tgt := 38) hx hb dX7_takeAway_25 (by decide) (fun c4 => ?_) (fun c4 => ?_)
    · replace h := fT c4 h
      refine lv_aload_n hx hb dX7_takeAway_38 rfl (lv_at hl 0 rfl) ?_
      refine lv_iconst (v := (2 : Int32)) hx hb dX7_takeAway_39 (by decide) ?_
      obtain ⟨r5, th6, g7, h⟩ := fB2 h
      refine cV_i (As := [.int (2 : Int32)]) (rest := []) (ws1 := (MW w y th6 ms mst smn msl mhs mtx mle mat mwl mrd mrm mtp mbt mtm mtn mnt mnb mun mum mau)) ⟨hx, hb, hml, hown, hts⟩ (c_X7_fails l D w y _ (0 : Int32) ms mst smn msl mhs mtx mle mat mwl mrd mrm mtp mbt mtm mtn mnt mnb mun mum mau (2 : Int32) r5 th6 g7) (cwV 1 hts gX7_takeAway_X7_fails rfl rfl rfl hd_X7_fails ⟨Nat.le_of_ble_eq_true rfl, Nat.le_of_ble_eq_true rfl⟩) hK hP hD hS hA [0, 1, 2, 3, 4, 5, 6, 7, 8] [] [0, 1, 2, 3, 4, 5, 6, 7, 8] rfl rfl rfl (by decide) rfl rfl rfl 0 (ci := 5) rfl rfl rfl hl.1 rfl (Nat.le_of_ble_eq_true rfl) dX7_takeAway_40 ⟨Nat.le_of_ble_eq_true rfl, Nat.le_of_ble_eq_true rfl⟩ (fun H locs hP hD hS => ?_)
      cases h
      exact hE _ _ _ _ dX7_takeAway_43 hP hD hS
    · replace h := fF c4 h
      refine lv_aload_n hx hb dX7_takeAway_28 rfl (lv_at hl 0 rfl) ?_
      refine lv_iload_n hx hb dX7_takeAway_29 rfl (lv_at hl 1 rfl) ?_
      refine lv_iload_n hx hb dX7_takeAway_30 rfl (lv_at hl 2 rfl) ?_
      refine lv_iconst (v := (-1 : Int32)) hx hb dX7_takeAway_31 (by decide) ?_
      obtain ⟨r8, mtp9, mbt10, g11, h⟩ := fB3 h
      refine cV_i (As := [.int a1, .int a2, .int (-1 : Int32)]) (rest := []) (ws1 := (MW w y (0 : Int32) ms mst smn msl mhs mtx mle mat mwl mrd mrm mtp9 mbt10 mtm mtn mnt mnb mun mum mau)) ⟨hx, hb, hml, hown, hts⟩ (c_X7_makesSum l D w y _ (0 : Int32) ms mst smn msl mhs mtx mle mat mwl mrd mrm mtp mbt mtm mtn mnt mnb mun mum mau a1 a2 (-1 : Int32) r8 mtp9 mbt10 g11) (cwV 3 hts gX7_takeAway_X7_makesSum rfl rfl rfl hd_X7_makesSum ⟨Nat.le_of_ble_eq_true rfl, Nat.le_of_ble_eq_true rfl⟩) hK hP hD hS hA [0, 1, 2, 3, 4, 5, 6, 7, 8] [] [0, 1, 2, 3, 4, 5, 6, 7, 8] rfl rfl rfl (by decide) rfl rfl rfl 0 (ci := 5) rfl rfl rfl hl.1 rfl (Nat.le_of_ble_eq_true rfl) dX7_takeAway_32 ⟨Nat.le_of_ble_eq_true rfl, Nat.le_of_ble_eq_true rfl⟩ (fun H locs hP hD hS => ?_)
      refine lv_if_ne (tgt := 44) hx hb dX7_takeAway_35 (by decide) (fun c12 => ?_) (fun c12 => ?_)
      · replace h := fF c12 h
        refine lv_aload_n hx hb dX7_takeAway_44 rfl (lv_at hl 0 rfl) ?_
        obtain ⟨mst13, smn14, g15, h⟩ := fB2 h
        refine cV_v (As := []) (rest := []) (ws1 := (MW w y (0 : Int32) ms mst13 smn14 msl mhs mtx mle mat mwl mrd mrm mtp9 mbt10 mtm mtn mnt mnb mun mum mau)) ⟨hx, hb, hml, hown, hts⟩ (c_X7_records l D w y _ (0 : Int32) ms mst smn msl mhs mtx mle mat mwl mrd mrm mtp9 mbt10 mtm mtn mnt mnb mun mum mau mst13 smn14 g15) (cwV 0 hts gX7_takeAway_X7_records rfl rfl rfl hd_X7_records ⟨Nat.le_of_ble_eq_true rfl, Nat.le_of_ble_eq_true rfl⟩) hK hP hD hS hA [0, 1, 2, 3, 4, 5, 6, 7, 8] [] [0, 1, 2, 3, 4, 5, 6, 7, 8] rfl rfl rfl (by decide) rfl rfl rfl 0 (ci := 5) rfl rfl rfl hl.1 rfl (Nat.le_of_ble_eq_true rfl) dX7_takeAway_45 ⟨Nat.le_of_ble_eq_true rfl, Nat.le_of_ble_eq_true rfl⟩ (fun H locs hP hD hS => ?_)
        refine lv_aload_n hx hb dX7_takeAway_48 rfl (lv_at hl 0 rfl) ?_
        refine lv_iload_n hx hb dX7_takeAway_49 rfl (lv_at hl 1 rfl) ?_
        obtain ⟨r16, ms17, g18, h⟩ := fB2 h
        refine cV_i (As := [.int a1]) (rest := []) (ws1 := (MW w y (0 : Int32) ms17 mst13 smn14 msl mhs mtx mle mat mwl mrd mrm mtp9 mbt10 mtm mtn mnt mnb mun mum mau)) ⟨hx, hb, hml, hown, hts⟩ (c_X7_puts l D w y _ (0 : Int32) ms mst13 smn14 msl mhs mtx mle mat mwl mrd mrm mtp9 mbt10 mtm mtn mnt mnb mun mum mau a1 r16 ms17 g18) (cwV 1 hts gX7_takeAway_X7_puts rfl rfl rfl hd_X7_puts ⟨Nat.le_of_ble_eq_true rfl, Nat.le_of_ble_eq_true rfl⟩) hK hP hD hS hA [0, 1, 2, 3, 4, 5, 6, 7, 8] [] [0, 1, 2, 3, 4, 5, 6, 7, 8] rfl rfl rfl (by decide) rfl rfl rfl 0 (ci := 5) rfl rfl rfl hl.1 rfl (Nat.le_of_ble_eq_true rfl) dX7_takeAway_50 ⟨Nat.le_of_ble_eq_true rfl, Nat.le_of_ble_eq_true rfl⟩ (fun H locs hP hD hS => ?_)
        cases h
        exact hE _ _ _ _ dX7_takeAway_53 hP hD hS
      · replace h := fT c12 h
        refine lv_aload_n hx hb dX7_takeAway_38 rfl (lv_at hl 0 rfl) ?_
        refine lv_iconst (v := (2 : Int32)) hx hb dX7_takeAway_39 (by decide) ?_
        obtain ⟨r19, th20, g21, h⟩ := fB2 h
        refine cV_i (As := [.int (2 : Int32)]) (rest := []) (ws1 := (MW w y th20 ms mst smn msl mhs mtx mle mat mwl mrd mrm mtp9 mbt10 mtm mtn mnt mnb mun mum mau)) ⟨hx, hb, hml, hown, hts⟩ (c_X7_fails l D w y _ (0 : Int32) ms mst smn msl mhs mtx mle mat mwl mrd mrm mtp9 mbt10 mtm mtn mnt mnb mun mum mau (2 : Int32) r19 th20 g21) (cwV 1 hts gX7_takeAway_X7_fails rfl rfl rfl hd_X7_fails ⟨Nat.le_of_ble_eq_true rfl, Nat.le_of_ble_eq_true rfl⟩) hK hP hD hS hA [0, 1, 2, 3, 4, 5, 6, 7, 8] [] [0, 1, 2, 3, 4, 5, 6, 7, 8] rfl rfl rfl (by decide) rfl rfl rfl 0 (ci := 5) rfl rfl rfl hl.1 rfl (Nat.le_of_ble_eq_true rfl) dX7_takeAway_40 ⟨Nat.le_of_ble_eq_true rfl, Nat.le_of_ble_eq_true rfl⟩ (fun H locs hP hD hS => ?_)
        cases h
        exact hE _ _ _ _ dX7_takeAway_43 hP hD hS
  · replace h := fT c1 h
    refine lv_aload_n hx hb dX7_takeAway_13 rfl (lv_at hl 0 rfl) ?_
    refine lv_iconst (v := (1 : Int32)) hx hb dX7_takeAway_14 (by decide) ?_
    obtain ⟨r22, th23, g24, h⟩ := fB2 h
    refine cV_i (As := [.int (1 : Int32)]) (rest := []) (ws1 := (MW w y th23 ms mst smn msl mhs mtx mle mat mwl mrd mrm mtp mbt mtm mtn mnt mnb mun mum mau)) ⟨hx, hb, hml, hown, hts⟩ (c_X7_fails l D w y _ (0 : Int32) ms mst smn msl mhs mtx mle mat mwl mrd mrm mtp mbt mtm mtn mnt mnb mun mum mau (1 : Int32) r22 th23 g24) (cwV 1 hts gX7_takeAway_X7_fails rfl rfl rfl hd_X7_fails ⟨Nat.le_of_ble_eq_true rfl, Nat.le_of_ble_eq_true rfl⟩) hK hP hD hS hA [0, 1, 2, 3, 4, 5, 6, 7, 8] [] [0, 1, 2, 3, 4, 5, 6, 7, 8] rfl rfl rfl (by decide) rfl rfl rfl 0 (ci := 5) rfl rfl rfl hl.1 rfl (Nat.le_of_ble_eq_true rfl) dX7_takeAway_15 ⟨Nat.le_of_ble_eq_true rfl, Nat.le_of_ble_eq_true rfl⟩ (fun H locs hP hD hS => ?_)
    cases h
    exact hE _ _ _ _ dX7_takeAway_18 hP hD hS
abbrev rm_X7_multiply : Room := { frames := 3, cells := 0, slots := 0, locals := 77 }
theorem hd_X7_multiply : yX7_multiply.cls = RX7 ∧ yX7_multiply.cls ≠ "java/lang/invoke/MethodHandle" ∧ yX7_multiply.cls ≠ "java/lang/invoke/VarHandle" ∧ (parseMethodDescriptor yX7_multiply.desc).map (fun d => d.parameters.length) = some 2 := by decide +kernel
set_option maxHeartbeats 0 in
set_option maxRecDepth 100000 in
theorem c_X7_multiply (l : Launch) (D : va_G) (w : Nat → Nat) (y : Nat → ClassId) (sz : Nat) (th : Int32) (ms : Nat → Int32) (mst : Nat → Int32) (smn : Int32) (msl : Nat → Int32) (mhs : Nat → Int32) (mtx : Nat → Int32) (mle : Int32) (mat : Int32) (mwl : Int32) (mrd : Nat → Int32) (mrm : Int32) (mtp : Int64) (mbt : Int64) (mtm : Nat → Int32) (mtn : Int32) (mnt : Int32) (mnb : Int32) (mun : Nat → Int32) (mum : Int32) (mau : Int32) (a1 : Int32) (a2 : Int32) (r : Int32) (th' : Int32) (ms' : Nat → Int32) (mst' : Nat → Int32) (smn' : Int32) (mtp' : Int64) (mbt' : Int64) (h : F_X7_multiply th ms mst smn mtp mbt a1 a2 = some (r, th', ms', mst', smn', mtp', mbt')) : Met l yX7_multiply wsX7_multiply rm_X7_multiply (va_Pc [.ref (w 0), .int a1, .int a2] (px D y sz (MW w y th ms mst smn msl mhs mtx mle mat mwl mrd mrm mtp mbt mtm mtn mnt mnb mun mum mau))) (Qri D y sz (MW w y th ms mst smn msl mhs mtx mle mat mwl mrd mrm mtp mbt mtm mtn mnt mnb mun mum mau) (MW w y th' ms' mst' smn' msl mhs mtx mle mat mwl mrd mrm mtp' mbt' mtm mtn mnt mnb mun mum mau) r) 0 0 (va_A (MW w y th ms mst smn msl mhs mtx mle mat mwl mrd mrm mtp mbt mtm mtn mnt mnb mun mum mau) sz) := by
  refine hd_i (cc := cX7_multiply) (maxL := 3) rfl rfl (Nat.le_of_ble_eq_true rfl) ?_
  intro p e s m args below meth c A Q H locs ls hx hb hml hts hown _ hA hP hD hK hS hl hE
  have hl : lv_has ls 3 [(0, .ref (w 0)), (1, .int a1), (2, .int a2)] := hl
  have q0 := hts (.fieldLink RX7 35 "SliceSharesModel" "thrown" "I") (by decide +kernel)
  have hinRX7 : ∀ w ∈ wsX70, w ∈ wsX7_multiply := by decide +kernel
  unfold F_X7_multiply at h
  refine lv_aload_n hx hb dX7_multiply_0 rfl (lv_at hl 0 rfl) ?_
  refine lv_iconst (v := (0 : Int32)) hx hb dX7_multiply_1 (by decide) ?_
  refine va_put (D := D) (ci := 5) (v := .int (0 : Int32)) (ty := .int) (C := RX7) (T := TX7) (N := 21) hx hb hts hinRX7 tyX7 tyX7_ok nmX7 hown hK hP hD hS 0 rfl rfl 0 (by decide) q0 (fun _ h9 => h9) rfl (by decide +kernel) rfl rfl (Nat.le_of_ble_eq_true rfl) dX7_multiply_2 (fun H locs hP hD hS => ?_)
  have hP : va_P D vwCl (MW w y (0 : Int32) ms mst smn msl mhs mtx mle mat mwl mrd mrm mtp mbt mtm mtn mnt mnb mun mum mau) H := hP
  have hD : va_D A (MW w y (0 : Int32) ms mst smn msl mhs mtx mle mat mwl mrd mrm mtp mbt mtm mtn mnt mnb mun mum mau) := hD
  refine lv_iload_n hx hb dX7_multiply_5 rfl (lv_at hl 1 rfl) ?_
  refine lv_iload_n hx hb dX7_multiply_6 rfl (lv_at hl 2 rfl) ?_
  refine cT_i (As := [.int a1, .int a2]) (rest := []) ⟨hx, hb, hml, hown, hts⟩ (c_X7_arePlates l D y _ a1 a2) (va_cwS 2 hts gX7_multiply_X7_arePlates rfl rfl rfl hd_X7_arePlates ⟨Nat.le_of_ble_eq_true rfl, Nat.le_of_ble_eq_true rfl⟩) hK hP hD hS hA rfl hl.1 rfl (Nat.le_of_ble_eq_true rfl) dX7_multiply_7 ⟨Nat.le_of_ble_eq_true rfl, Nat.le_of_ble_eq_true rfl⟩ (fun H locs hP hD hS => ?_)
  refine lv_if_ne (tgt := 19) hx hb dX7_multiply_10 (by decide) (fun c1 => ?_) (fun c1 => ?_)
  · replace h := fF c1 h
    refine lv_aload_n hx hb dX7_multiply_19 rfl (lv_at hl 0 rfl) ?_
    refine lv_iload_n hx hb dX7_multiply_20 rfl (lv_at hl 1 rfl) ?_
    refine lv_iload_n hx hb dX7_multiply_21 rfl (lv_at hl 2 rfl) ?_
    obtain ⟨r2, mtp3, mbt4, g5, h⟩ := fB3 h
    refine cV_i (As := [.int a1, .int a2]) (rest := []) (ws1 := (MW w y (0 : Int32) ms mst smn msl mhs mtx mle mat mwl mrd mrm mtp3 mbt4 mtm mtn mnt mnb mun mum mau)) ⟨hx, hb, hml, hown, hts⟩ (c_X7_makesProduct l D w y _ (0 : Int32) ms mst smn msl mhs mtx mle mat mwl mrd mrm mtp mbt mtm mtn mnt mnb mun mum mau a1 a2 r2 mtp3 mbt4 g5) (cwV 2 hts gX7_multiply_X7_makesProduct rfl rfl rfl hd_X7_makesProduct ⟨Nat.le_of_ble_eq_true rfl, Nat.le_of_ble_eq_true rfl⟩) hK hP hD hS hA [0, 1, 2, 3, 4, 5, 6, 7, 8] [] [0, 1, 2, 3, 4, 5, 6, 7, 8] rfl rfl rfl (by decide) rfl rfl rfl 0 (ci := 5) rfl rfl rfl hl.1 rfl (Nat.le_of_ble_eq_true rfl) dX7_multiply_22 ⟨Nat.le_of_ble_eq_true rfl, Nat.le_of_ble_eq_true rfl⟩ (fun H locs hP hD hS => ?_)
    refine lv_if_ne (tgt := 34) hx hb dX7_multiply_25 (by decide) (fun c6 => ?_) (fun c6 => ?_)
    · replace h := fF c6 h
      refine lv_aload_n hx hb dX7_multiply_34 rfl (lv_at hl 0 rfl) ?_
      obtain ⟨mst7, smn8, g9, h⟩ := fB2 h
      refine cV_v (As := []) (rest := []) (ws1 := (MW w y (0 : Int32) ms mst7 smn8 msl mhs mtx mle mat mwl mrd mrm mtp3 mbt4 mtm mtn mnt mnb mun mum mau)) ⟨hx, hb, hml, hown, hts⟩ (c_X7_records l D w y _ (0 : Int32) ms mst smn msl mhs mtx mle mat mwl mrd mrm mtp3 mbt4 mtm mtn mnt mnb mun mum mau mst7 smn8 g9) (cwV 0 hts gX7_multiply_X7_records rfl rfl rfl hd_X7_records ⟨Nat.le_of_ble_eq_true rfl, Nat.le_of_ble_eq_true rfl⟩) hK hP hD hS hA [0, 1, 2, 3, 4, 5, 6, 7, 8] [] [0, 1, 2, 3, 4, 5, 6, 7, 8] rfl rfl rfl (by decide) rfl rfl rfl 0 (ci := 5) rfl rfl rfl hl.1 rfl (Nat.le_of_ble_eq_true rfl) dX7_multiply_35 ⟨Nat.le_of_ble_eq_true rfl, Nat.le_of_ble_eq_true rfl⟩ (fun H locs hP hD hS => ?_)
      refine lv_aload_n hx hb dX7_multiply_38 rfl (lv_at hl 0 rfl) ?_
      refine lv_iload_n hx hb dX7_multiply_39 rfl (lv_at hl 1 rfl) ?_
      obtain ⟨r10, ms11, g12, h⟩ := fB2 h
      refine cV_i (As := [.int a1]) (rest := []) (ws1 := (MW w y (0 : Int32) ms11 mst7 smn8 msl mhs mtx mle mat mwl mrd mrm mtp3 mbt4 mtm mtn mnt mnb mun mum mau)) ⟨hx, hb, hml, hown, hts⟩ (c_X7_puts l D w y _ (0 : Int32) ms mst7 smn8 msl mhs mtx mle mat mwl mrd mrm mtp3 mbt4 mtm mtn mnt mnb mun mum mau a1 r10 ms11 g12) (cwV 1 hts gX7_multiply_X7_puts rfl rfl rfl hd_X7_puts ⟨Nat.le_of_ble_eq_true rfl, Nat.le_of_ble_eq_true rfl⟩) hK hP hD hS hA [0, 1, 2, 3, 4, 5, 6, 7, 8] [] [0, 1, 2, 3, 4, 5, 6, 7, 8] rfl rfl rfl (by decide) rfl rfl rfl 0 (ci := 5) rfl rfl rfl hl.1 rfl (Nat.le_of_ble_eq_true rfl) dX7_multiply_40 ⟨Nat.le_of_ble_eq_true rfl, Nat.le_of_ble_eq_true rfl⟩ (fun H locs hP hD hS => ?_)
      cases h
      exact hE _ _ _ _ dX7_multiply_43 hP hD hS
    · replace h := fT c6 h
      refine lv_aload_n hx hb dX7_multiply_28 rfl (lv_at hl 0 rfl) ?_
      refine lv_iconst (v := (2 : Int32)) hx hb dX7_multiply_29 (by decide) ?_
      obtain ⟨r13, th14, g15, h⟩ := fB2 h
      refine cV_i (As := [.int (2 : Int32)]) (rest := []) (ws1 := (MW w y th14 ms mst smn msl mhs mtx mle mat mwl mrd mrm mtp3 mbt4 mtm mtn mnt mnb mun mum mau)) ⟨hx, hb, hml, hown, hts⟩ (c_X7_fails l D w y _ (0 : Int32) ms mst smn msl mhs mtx mle mat mwl mrd mrm mtp3 mbt4 mtm mtn mnt mnb mun mum mau (2 : Int32) r13 th14 g15) (cwV 1 hts gX7_multiply_X7_fails rfl rfl rfl hd_X7_fails ⟨Nat.le_of_ble_eq_true rfl, Nat.le_of_ble_eq_true rfl⟩) hK hP hD hS hA [0, 1, 2, 3, 4, 5, 6, 7, 8] [] [0, 1, 2, 3, 4, 5, 6, 7, 8] rfl rfl rfl (by decide) rfl rfl rfl 0 (ci := 5) rfl rfl rfl hl.1 rfl (Nat.le_of_ble_eq_true rfl) dX7_multiply_30 ⟨Nat.le_of_ble_eq_true rfl, Nat.le_of_ble_eq_true rfl⟩ (fun H locs hP hD hS => ?_)
      cases h
      exact hE _ _ _ _ dX7_multiply_33 hP hD hS
  · replace h := fT c1 h
    refine lv_aload_n hx hb dX7_multiply_13 rfl (lv_at hl 0 rfl) ?_
    refine lv_iconst (v := (1 : Int32)) hx hb dX7_multiply_14 (by decide) ?_
    obtain ⟨r16, th17, g18, h⟩ := fB2 h
    refine cV_i (As := [.int (1 : Int32)]) (rest := []) (ws1 := (MW w y th17 ms mst smn msl mhs mtx mle mat mwl mrd mrm mtp mbt mtm mtn mnt mnb mun mum mau)) ⟨hx, hb, hml, hown, hts⟩ (c_X7_fails l D w y _ (0 : Int32) ms mst smn msl mhs mtx mle mat mwl mrd mrm mtp mbt mtm mtn mnt mnb mun mum mau (1 : Int32) r16 th17 g18) (cwV 1 hts gX7_multiply_X7_fails rfl rfl rfl hd_X7_fails ⟨Nat.le_of_ble_eq_true rfl, Nat.le_of_ble_eq_true rfl⟩) hK hP hD hS hA [0, 1, 2, 3, 4, 5, 6, 7, 8] [] [0, 1, 2, 3, 4, 5, 6, 7, 8] rfl rfl rfl (by decide) rfl rfl rfl 0 (ci := 5) rfl rfl rfl hl.1 rfl (Nat.le_of_ble_eq_true rfl) dX7_multiply_15 ⟨Nat.le_of_ble_eq_true rfl, Nat.le_of_ble_eq_true rfl⟩ (fun H locs hP hD hS => ?_)
    cases h
    exact hE _ _ _ _ dX7_multiply_18 hP hD hS
abbrev rm_X7_copies : Room := { frames := 2, cells := 0, slots := 0, locals := 45 }
theorem hd_X7_copies : yX7_copies.cls = RX7 ∧ yX7_copies.cls ≠ "java/lang/invoke/MethodHandle" ∧ yX7_copies.cls ≠ "java/lang/invoke/VarHandle" ∧ (parseMethodDescriptor yX7_copies.desc).map (fun d => d.parameters.length) = some 2 := by decide +kernel
set_option maxHeartbeats 0 in
set_option maxRecDepth 100000 in
theorem c_X7_copies (l : Launch) (D : va_G) (w : Nat → Nat) (y : Nat → ClassId) (sz : Nat) (th : Int32) (ms : Nat → Int32) (mst : Nat → Int32) (smn : Int32) (msl : Nat → Int32) (mhs : Nat → Int32) (mtx : Nat → Int32) (mle : Int32) (mat : Int32) (mwl : Int32) (mrd : Nat → Int32) (mrm : Int32) (mtp : Int64) (mbt : Int64) (mtm : Nat → Int32) (mtn : Int32) (mnt : Int32) (mnb : Int32) (mun : Nat → Int32) (mum : Int32) (mau : Int32) (a1 : Int32) (a2 : Int32) (r : Int32) (ms' : Nat → Int32) (h : F_X7_copies ms a1 a2 = some (r, ms')) : Met l yX7_copies wsX7_copies rm_X7_copies (va_Pc [.ref (w 0), .int a1, .int a2] (px D y sz (MW w y th ms mst smn msl mhs mtx mle mat mwl mrd mrm mtp mbt mtm mtn mnt mnb mun mum mau))) (Qri D y sz (MW w y th ms mst smn msl mhs mtx mle mat mwl mrd mrm mtp mbt mtm mtn mnt mnb mun mum mau) (MW w y th ms' mst smn msl mhs mtx mle mat mwl mrd mrm mtp mbt mtm mtn mnt mnb mun mum mau) r) 0 0 (va_A (MW w y th ms mst smn msl mhs mtx mle mat mwl mrd mrm mtp mbt mtm mtn mnt mnb mun mum mau) sz) := by
  refine hd_z (cc := cX7_copies) (maxL := 4) (rt := .boolean) rfl rfl (Nat.le_of_ble_eq_true rfl) ?_
  intro p e s m args below meth c A Q H locs ls hx hb hml hts hown _ hA hP hD hK hS hl hE
  have hl : lv_has ls 4 [(0, .ref (w 0)), (1, .int a1), (2, .int a2)] := hl
  have q0 := hts (.fieldLink RX7 7 "SliceSharesModel" "s" "[I") (by decide +kernel)
  have hinRX7 : ∀ w ∈ wsX70, w ∈ wsX7_copies := by decide +kernel
  unfold F_X7_copies at h
  refine lv_aload_n hx hb dX7_copies_0 rfl (lv_at hl 0 rfl) ?_
  refine lv_iload_n hx hb dX7_copies_1 rfl (lv_at hl 1 rfl) ?_
  refine lv_iload_n hx hb dX7_copies_2 rfl (lv_at hl 2 rfl) ?_
  obtain ⟨r1, g2, h⟩ := fB1 h
  refine cV_i (As := [.int a1, .int a2]) (rest := []) (ws1 := (MW w y th ms mst smn msl mhs mtx mle mat mwl mrd mrm mtp mbt mtm mtn mnt mnb mun mum mau)) ⟨hx, hb, hml, hown, hts⟩ (c_X7_holds l D w y _ th ms mst smn msl mhs mtx mle mat mwl mrd mrm mtp mbt mtm mtn mnt mnb mun mum mau a1 a2 r1 g2) (cwV 2 hts gX7_copies_X7_holds rfl rfl rfl hd_X7_holds ⟨Nat.le_of_ble_eq_true rfl, Nat.le_of_ble_eq_true rfl⟩) hK hP hD hS hA [0, 1, 2, 3, 4, 5, 6, 7, 8] [] [0, 1, 2, 3, 4, 5, 6, 7, 8] rfl rfl rfl (by decide) rfl rfl rfl 0 (ci := 5) rfl rfl rfl hl.1 rfl (Nat.le_of_ble_eq_true rfl) dX7_copies_3 ⟨Nat.le_of_ble_eq_true rfl, Nat.le_of_ble_eq_true rfl⟩ (fun H locs hP hD hS => ?_)
  have J3 : ∀ (v4 : Int32) (ls : Array Slot), v4 = (if r1 = (0 : Int32) then (1 : Int32) else (0 : Int32)) → lv_has ls 4 [(0, .ref (w 0)), (1, .int a1), (2, .int a2)] → W p l e rm_X7_copies s m args below meth c H locs 0 0 Q (F0 m 14 ls [.int v4]) := by
    intro v4 ls ev4 hl
    subst ev4
    refine lv_istore_n (lv' := [(3, .int (if r1 = (0 : Int32) then (1 : Int32) else (0 : Int32))), (0, .ref (w 0)), (1, .int a1), (2, .int a2)]) hx hb dX7_copies_14 rfl hl (by decide) rfl (fun ls hl => ?_)
    refine lv_aload_n hx hb dX7_copies_15 rfl (lv_at hl 1 rfl) ?_
    refine va_get (D := D) (ci := 5) (C := RX7) (T := TX7) (N := 21) hx hb hts hinRX7 hown hK hP 0 rfl rfl 1 (by decide) q0 (fun _ h9 => h9) rfl dX7_copies_16 ?_
    refine lv_iconst (v := (2 : Int32)) hx hb dX7_copies_19 (by decide) ?_
    refine lv_iload_n hx hb dX7_copies_20 rfl (lv_at hl 3 rfl) ?_
    refine lv_imul hx hb dX7_copies_21 ?_
    refine lv_aload_n hx hb dX7_copies_22 rfl (lv_at hl 1 rfl) ?_
    refine lv_iload_n hx hb dX7_copies_23 rfl (lv_at hl 2 rfl) ?_
    obtain ⟨r5, g6, h⟩ := fB1 h
    refine cV_i (As := [.int a1]) (rest := [.int ((2 : Int32) * a2), .ref (w 1)]) (ws1 := (MW w y th ms mst smn msl mhs mtx mle mat mwl mrd mrm mtp mbt mtm mtn mnt mnb mun mum mau)) ⟨hx, hb, hml, hown, hts⟩ (c_X7_above l D w y _ th ms mst smn msl mhs mtx mle mat mwl mrd mrm mtp mbt mtm mtn mnt mnb mun mum mau a1 r5 g6) (cwV 1 hts gX7_copies_X7_above rfl rfl rfl hd_X7_above ⟨Nat.le_of_ble_eq_true rfl, Nat.le_of_ble_eq_true rfl⟩) hK hP hD hS hA [0, 1, 2, 3, 4, 5, 6, 7, 8] [] [0, 1, 2, 3, 4, 5, 6, 7, 8] rfl rfl rfl (by decide) rfl rfl rfl 0 (ci := 5) rfl rfl rfl hl.1 rfl (Nat.le_of_ble_eq_true rfl) dX7_copies_24 ⟨Nat.le_of_ble_eq_true rfl, Nat.le_of_ble_eq_true rfl⟩ (fun H locs hP hD hS => ?_)
    obtain ⟨g7, h⟩ := fG h
    refine va_iast hx hb hK hP hD hS 1 0 rfl rfl g7 dX7_copies_27 (fun H locs hP hD hS => ?_)
    have hP : va_P D vwCl (MW w y th (upd ms ((2 : Int32) * a2).toNatClampNeg r5) mst smn msl mhs mtx mle mat mwl mrd mrm mtp mbt mtm mtn mnt mnb mun mum mau) H := hP
    have hD : va_D A (MW w y th (upd ms ((2 : Int32) * a2).toNatClampNeg r5) mst smn msl mhs mtx mle mat mwl mrd mrm mtp mbt mtm mtn mnt mnb mun mum mau) := hD
    refine lv_aload_n hx hb dX7_copies_28 rfl (lv_at hl 1 rfl) ?_
    refine va_get (D := D) (ci := 5) (C := RX7) (T := TX7) (N := 21) hx hb hts hinRX7 hown hK hP 0 rfl rfl 1 (by decide) q0 (fun _ h9 => h9) rfl dX7_copies_29 ?_
    refine lv_iconst (v := (2 : Int32)) hx hb dX7_copies_32 (by decide) ?_
    refine lv_iload_n hx hb dX7_copies_33 rfl (lv_at hl 3 rfl) ?_
    refine lv_imul hx hb dX7_copies_34 ?_
    refine lv_iconst (v := (1 : Int32)) hx hb dX7_copies_35 (by decide) ?_
    refine lv_iadd hx hb dX7_copies_36 ?_
    refine lv_aload_n hx hb dX7_copies_37 rfl (lv_at hl 1 rfl) ?_
    refine lv_iload_n hx hb dX7_copies_38 rfl (lv_at hl 2 rfl) ?_
    obtain ⟨r8, g9, h⟩ := fB1 h
    refine cV_i (As := [.int a1]) (rest := [.int (((2 : Int32) * a2) + (1 : Int32)), .ref (w 1)]) (ws1 := (MW w y th (upd ms ((2 : Int32) * a2).toNatClampNeg r5) mst smn msl mhs mtx mle mat mwl mrd mrm mtp mbt mtm mtn mnt mnb mun mum mau)) ⟨hx, hb, hml, hown, hts⟩ (c_X7_below l D w y _ th (upd ms ((2 : Int32) * a2).toNatClampNeg r5) mst smn msl mhs mtx mle mat mwl mrd mrm mtp mbt mtm mtn mnt mnb mun mum mau a1 r8 g9) (cwV 1 hts gX7_copies_X7_below rfl rfl rfl hd_X7_below ⟨Nat.le_of_ble_eq_true rfl, Nat.le_of_ble_eq_true rfl⟩) hK hP hD hS hA [0, 1, 2, 3, 4, 5, 6, 7, 8] [] [0, 1, 2, 3, 4, 5, 6, 7, 8] rfl rfl rfl (by decide) rfl rfl rfl 0 (ci := 5) rfl rfl rfl hl.1 rfl (Nat.le_of_ble_eq_true rfl) dX7_copies_39 ⟨Nat.le_of_ble_eq_true rfl, Nat.le_of_ble_eq_true rfl⟩ (fun H locs hP hD hS => ?_)
    obtain ⟨g10, h⟩ := fG h
    refine va_iast hx hb hK hP hD hS 1 0 rfl rfl g10 dX7_copies_42 (fun H locs hP hD hS => ?_)
    have hP : va_P D vwCl (MW w y th (upd (upd ms ((2 : Int32) * a2).toNatClampNeg r5) (((2 : Int32) * a2) + (1 : Int32)).toNatClampNeg r8) mst smn msl mhs mtx mle mat mwl mrd mrm mtp mbt mtm mtn mnt mnb mun mum mau) H := hP
    have hD : va_D A (MW w y th (upd (upd ms ((2 : Int32) * a2).toNatClampNeg r5) (((2 : Int32) * a2) + (1 : Int32)).toNatClampNeg r8) mst smn msl mhs mtx mle mat mwl mrd mrm mtp mbt mtm mtn mnt mnb mun mum mau) := hD
    refine lv_iload_n hx hb dX7_copies_43 rfl (lv_at hl 0 rfl) ?_
    cases h
    exact hE _ _ _ _ dX7_copies_44 hP hD hS (nz01 (z01 (Or.inr rfl) (Or.inl rfl)))
  refine lv_if_ne (tgt := 13) hx hb dX7_copies_6 (by decide) (fun c11 => ?_) (fun c11 => ?_)
  · refine lv_iconst (v := (0 : Int32)) hx hb dX7_copies_13 (by decide) ?_
    exact J3 _ _ (by rw [if_neg c11]) (lv_sub hl [0, 1, 2] rfl)
  · refine lv_iconst (v := (1 : Int32)) hx hb dX7_copies_9 (by decide) ?_
    refine lv_goto (tgt := 14) hx hb dX7_copies_10 (by decide) ?_
    exact J3 _ _ (by rw [if_pos c11]) (lv_sub hl [0, 1, 2] rfl)
abbrev rm_X7_copyTo : Room := { frames := 3, cells := 0, slots := 0, locals := 68 }
theorem hd_X7_copyTo : yX7_copyTo.cls = RX7 ∧ yX7_copyTo.cls ≠ "java/lang/invoke/MethodHandle" ∧ yX7_copyTo.cls ≠ "java/lang/invoke/VarHandle" ∧ (parseMethodDescriptor yX7_copyTo.desc).map (fun d => d.parameters.length) = some 2 := by decide +kernel
set_option maxHeartbeats 0 in
set_option maxRecDepth 100000 in
theorem c_X7_copyTo (l : Launch) (D : va_G) (w : Nat → Nat) (y : Nat → ClassId) (sz : Nat) (th : Int32) (ms : Nat → Int32) (mst : Nat → Int32) (smn : Int32) (msl : Nat → Int32) (mhs : Nat → Int32) (mtx : Nat → Int32) (mle : Int32) (mat : Int32) (mwl : Int32) (mrd : Nat → Int32) (mrm : Int32) (mtp : Int64) (mbt : Int64) (mtm : Nat → Int32) (mtn : Int32) (mnt : Int32) (mnb : Int32) (mun : Nat → Int32) (mum : Int32) (mau : Int32) (a1 : Int32) (a2 : Int32) (r : Int32) (th' : Int32) (ms' : Nat → Int32) (mst' : Nat → Int32) (smn' : Int32) (h : F_X7_copyTo th ms mst smn a1 a2 = some (r, th', ms', mst', smn')) : Met l yX7_copyTo wsX7_copyTo rm_X7_copyTo (va_Pc [.ref (w 0), .int a1, .int a2] (px D y sz (MW w y th ms mst smn msl mhs mtx mle mat mwl mrd mrm mtp mbt mtm mtn mnt mnb mun mum mau))) (Qri D y sz (MW w y th ms mst smn msl mhs mtx mle mat mwl mrd mrm mtp mbt mtm mtn mnt mnb mun mum mau) (MW w y th' ms' mst' smn' msl mhs mtx mle mat mwl mrd mrm mtp mbt mtm mtn mnt mnb mun mum mau) r) 0 0 (va_A (MW w y th ms mst smn msl mhs mtx mle mat mwl mrd mrm mtp mbt mtm mtn mnt mnb mun mum mau) sz) := by
  refine hd_z (cc := cX7_copyTo) (maxL := 3) (rt := .boolean) rfl rfl (Nat.le_of_ble_eq_true rfl) ?_
  intro p e s m args below meth c A Q H locs ls hx hb hml hts hown _ hA hP hD hK hS hl hE
  have hl : lv_has ls 3 [(0, .ref (w 0)), (1, .int a1), (2, .int a2)] := hl
  have q0 := hts (.fieldLink RX7 35 "SliceSharesModel" "thrown" "I") (by decide +kernel)
  have hinRX7 : ∀ w ∈ wsX70, w ∈ wsX7_copyTo := by decide +kernel
  unfold F_X7_copyTo at h
  refine lv_aload_n hx hb dX7_copyTo_0 rfl (lv_at hl 0 rfl) ?_
  refine lv_iconst (v := (0 : Int32)) hx hb dX7_copyTo_1 (by decide) ?_
  refine va_put (D := D) (ci := 5) (v := .int (0 : Int32)) (ty := .int) (C := RX7) (T := TX7) (N := 21) hx hb hts hinRX7 tyX7 tyX7_ok nmX7 hown hK hP hD hS 0 rfl rfl 0 (by decide) q0 (fun _ h9 => h9) rfl (by decide +kernel) rfl rfl (Nat.le_of_ble_eq_true rfl) dX7_copyTo_2 (fun H locs hP hD hS => ?_)
  have hP : va_P D vwCl (MW w y (0 : Int32) ms mst smn msl mhs mtx mle mat mwl mrd mrm mtp mbt mtm mtn mnt mnb mun mum mau) H := hP
  have hD : va_D A (MW w y (0 : Int32) ms mst smn msl mhs mtx mle mat mwl mrd mrm mtp mbt mtm mtn mnt mnb mun mum mau) := hD
  refine lv_iload_n hx hb dX7_copyTo_5 rfl (lv_at hl 1 rfl) ?_
  refine lv_iload_n hx hb dX7_copyTo_6 rfl (lv_at hl 2 rfl) ?_
  refine cT_i (As := [.int a1, .int a2]) (rest := []) ⟨hx, hb, hml, hown, hts⟩ (c_X7_arePlates l D y _ a1 a2) (va_cwS 2 hts gX7_copyTo_X7_arePlates rfl rfl rfl hd_X7_arePlates ⟨Nat.le_of_ble_eq_true rfl, Nat.le_of_ble_eq_true rfl⟩) hK hP hD hS hA rfl hl.1 rfl (Nat.le_of_ble_eq_true rfl) dX7_copyTo_7 ⟨Nat.le_of_ble_eq_true rfl, Nat.le_of_ble_eq_true rfl⟩ (fun H locs hP hD hS => ?_)
  refine lv_if_ne (tgt := 27) hx hb dX7_copyTo_10 (by decide) (fun c1 => ?_) (fun c1 => ?_)
  · replace h := fF c1 h
    refine lv_aload_n hx hb dX7_copyTo_27 rfl (lv_at hl 0 rfl) ?_
    obtain ⟨mst2, smn3, g4, h⟩ := fB2 h
    refine cV_v (As := []) (rest := []) (ws1 := (MW w y (0 : Int32) ms mst2 smn3 msl mhs mtx mle mat mwl mrd mrm mtp mbt mtm mtn mnt mnb mun mum mau)) ⟨hx, hb, hml, hown, hts⟩ (c_X7_records l D w y _ (0 : Int32) ms mst smn msl mhs mtx mle mat mwl mrd mrm mtp mbt mtm mtn mnt mnb mun mum mau mst2 smn3 g4) (cwV 0 hts gX7_copyTo_X7_records rfl rfl rfl hd_X7_records ⟨Nat.le_of_ble_eq_true rfl, Nat.le_of_ble_eq_true rfl⟩) hK hP hD hS hA [0, 1, 2, 3, 4, 5, 6, 7, 8] [] [0, 1, 2, 3, 4, 5, 6, 7, 8] rfl rfl rfl (by decide) rfl rfl rfl 0 (ci := 5) rfl rfl rfl hl.1 rfl (Nat.le_of_ble_eq_true rfl) dX7_copyTo_28 ⟨Nat.le_of_ble_eq_true rfl, Nat.le_of_ble_eq_true rfl⟩ (fun H locs hP hD hS => ?_)
    refine lv_aload_n hx hb dX7_copyTo_31 rfl (lv_at hl 0 rfl) ?_
    refine lv_iload_n hx hb dX7_copyTo_32 rfl (lv_at hl 1 rfl) ?_
    refine lv_iload_n hx hb dX7_copyTo_33 rfl (lv_at hl 2 rfl) ?_
    obtain ⟨r5, ms6, g7, h⟩ := fB2 h
    refine cV_i (As := [.int a1, .int a2]) (rest := []) (ws1 := (MW w y (0 : Int32) ms6 mst2 smn3 msl mhs mtx mle mat mwl mrd mrm mtp mbt mtm mtn mnt mnb mun mum mau)) ⟨hx, hb, hml, hown, hts⟩ (c_X7_copies l D w y _ (0 : Int32) ms mst2 smn3 msl mhs mtx mle mat mwl mrd mrm mtp mbt mtm mtn mnt mnb mun mum mau a1 a2 r5 ms6 g7) (cwV 2 hts gX7_copyTo_X7_copies rfl rfl rfl hd_X7_copies ⟨Nat.le_of_ble_eq_true rfl, Nat.le_of_ble_eq_true rfl⟩) hK hP hD hS hA [0, 1, 2, 3, 4, 5, 6, 7, 8] [] [0, 1, 2, 3, 4, 5, 6, 7, 8] rfl rfl rfl (by decide) rfl rfl rfl 0 (ci := 5) rfl rfl rfl hl.1 rfl (Nat.le_of_ble_eq_true rfl) dX7_copyTo_34 ⟨Nat.le_of_ble_eq_true rfl, Nat.le_of_ble_eq_true rfl⟩ (fun H locs hP hD hS => ?_)
    obtain ⟨g8, h⟩ := fG h
    cases h
    exact hE _ _ _ _ dX7_copyTo_37 hP hD hS (nz01 (Classical.not_not.mp g8))
  · replace h := fT c1 h
    refine lv_aload_n hx hb dX7_copyTo_13 rfl (lv_at hl 0 rfl) ?_
    refine lv_iconst (v := (1 : Int32)) hx hb dX7_copyTo_14 (by decide) ?_
    obtain ⟨r9, th10, g11, h⟩ := fB2 h
    refine cV_i (As := [.int (1 : Int32)]) (rest := []) (ws1 := (MW w y th10 ms mst smn msl mhs mtx mle mat mwl mrd mrm mtp mbt mtm mtn mnt mnb mun mum mau)) ⟨hx, hb, hml, hown, hts⟩ (c_X7_fails l D w y _ (0 : Int32) ms mst smn msl mhs mtx mle mat mwl mrd mrm mtp mbt mtm mtn mnt mnb mun mum mau (1 : Int32) r9 th10 g11) (cwV 1 hts gX7_copyTo_X7_fails rfl rfl rfl hd_X7_fails ⟨Nat.le_of_ble_eq_true rfl, Nat.le_of_ble_eq_true rfl⟩) hK hP hD hS hA [0, 1, 2, 3, 4, 5, 6, 7, 8] [] [0, 1, 2, 3, 4, 5, 6, 7, 8] rfl rfl rfl (by decide) rfl rfl rfl 0 (ci := 5) rfl rfl rfl hl.1 rfl (Nat.le_of_ble_eq_true rfl) dX7_copyTo_15 ⟨Nat.le_of_ble_eq_true rfl, Nat.le_of_ble_eq_true rfl⟩ (fun H locs hP hD hS => ?_)
    have J12 : ∀ (v13 : Int32) (ls : Array Slot), v13 = (if r9 ≤ (0 : Int32) then (0 : Int32) else (1 : Int32)) → lv_has ls 3 [(0, .ref (w 0)), (1, .int a1), (2, .int a2)] → W p l e rm_X7_copyTo s m args below meth c H locs 0 0 Q (F0 m 26 ls [.int v13]) := by
      intro v13 ls ev13 hl
      subst ev13
      cases h
      exact hE _ _ _ _ dX7_copyTo_26 hP hD hS (nz01 (z01 (Or.inl rfl) (Or.inr rfl)))
    refine lv_if_le (tgt := 25) hx hb dX7_copyTo_18 (by decide) (fun c14 => ?_) (fun c14 => ?_)
    · refine lv_iconst (v := (0 : Int32)) hx hb dX7_copyTo_25 (by decide) ?_
      exact J12 _ _ (by rw [if_pos c14]) (lv_sub hl [0, 1, 2] rfl)
    · refine lv_iconst (v := (1 : Int32)) hx hb dX7_copyTo_21 (by decide) ?_
      refine lv_goto (tgt := 26) hx hb dX7_copyTo_22 (by decide) ?_
      exact J12 _ _ (by rw [if_neg c14]) (lv_sub hl [0, 1, 2] rfl)
abbrev rm_X7_invert : Room := { frames := 2, cells := 0, slots := 0, locals := 55 }
theorem hd_X7_invert : yX7_invert.cls = RX7 ∧ yX7_invert.cls ≠ "java/lang/invoke/MethodHandle" ∧ yX7_invert.cls ≠ "java/lang/invoke/VarHandle" ∧ (parseMethodDescriptor yX7_invert.desc).map (fun d => d.parameters.length) = some 1 := by decide +kernel
set_option maxHeartbeats 0 in
set_option maxRecDepth 100000 in
theorem c_X7_invert (l : Launch) (D : va_G) (w : Nat → Nat) (y : Nat → ClassId) (sz : Nat) (th : Int32) (ms : Nat → Int32) (mst : Nat → Int32) (smn : Int32) (msl : Nat → Int32) (mhs : Nat → Int32) (mtx : Nat → Int32) (mle : Int32) (mat : Int32) (mwl : Int32) (mrd : Nat → Int32) (mrm : Int32) (mtp : Int64) (mbt : Int64) (mtm : Nat → Int32) (mtn : Int32) (mnt : Int32) (mnb : Int32) (mun : Nat → Int32) (mum : Int32) (mau : Int32) (a1 : Int32) (r : Int32) (th' : Int32) (ms' : Nat → Int32) (mst' : Nat → Int32) (smn' : Int32) (mtp' : Int64) (mbt' : Int64) (h : F_X7_invert th ms mst smn mtp mbt a1 = some (r, th', ms', mst', smn', mtp', mbt')) : Met l yX7_invert wsX7_invert rm_X7_invert (va_Pc [.ref (w 0), .int a1] (px D y sz (MW w y th ms mst smn msl mhs mtx mle mat mwl mrd mrm mtp mbt mtm mtn mnt mnb mun mum mau))) (Qri D y sz (MW w y th ms mst smn msl mhs mtx mle mat mwl mrd mrm mtp mbt mtm mtn mnt mnb mun mum mau) (MW w y th' ms' mst' smn' msl mhs mtx mle mat mwl mrd mrm mtp' mbt' mtm mtn mnt mnb mun mum mau) r) 0 0 (va_A (MW w y th ms mst smn msl mhs mtx mle mat mwl mrd mrm mtp mbt mtm mtn mnt mnb mun mum mau) sz) := by
  refine hd_i (cc := cX7_invert) (maxL := 2) rfl rfl (Nat.le_of_ble_eq_true rfl) ?_
  intro p e s m args below meth c A Q H locs ls hx hb hml hts hown _ hA hP hD hK hS hl hE
  have hl : lv_has ls 2 [(0, .ref (w 0)), (1, .int a1)] := hl
  have q0 := hts (.fieldLink RX7 35 "SliceSharesModel" "thrown" "I") (by decide +kernel)
  have hinRX7 : ∀ w ∈ wsX70, w ∈ wsX7_invert := by decide +kernel
  unfold F_X7_invert at h
  refine lv_aload_n hx hb dX7_invert_0 rfl (lv_at hl 0 rfl) ?_
  refine lv_iconst (v := (0 : Int32)) hx hb dX7_invert_1 (by decide) ?_
  refine va_put (D := D) (ci := 5) (v := .int (0 : Int32)) (ty := .int) (C := RX7) (T := TX7) (N := 21) hx hb hts hinRX7 tyX7 tyX7_ok nmX7 hown hK hP hD hS 0 rfl rfl 0 (by decide) q0 (fun _ h9 => h9) rfl (by decide +kernel) rfl rfl (Nat.le_of_ble_eq_true rfl) dX7_invert_2 (fun H locs hP hD hS => ?_)
  have hP : va_P D vwCl (MW w y (0 : Int32) ms mst smn msl mhs mtx mle mat mwl mrd mrm mtp mbt mtm mtn mnt mnb mun mum mau) H := hP
  have hD : va_D A (MW w y (0 : Int32) ms mst smn msl mhs mtx mle mat mwl mrd mrm mtp mbt mtm mtn mnt mnb mun mum mau) := hD
  refine lv_iload_n hx hb dX7_invert_5 rfl (lv_at hl 1 rfl) ?_
  refine cT_i (As := [.int a1]) (rest := []) ⟨hx, hb, hml, hown, hts⟩ (c_X7_isPlate l D y _ a1) (va_cwS 1 hts gX7_invert_X7_isPlate rfl rfl rfl hd_X7_isPlate ⟨Nat.le_of_ble_eq_true rfl, Nat.le_of_ble_eq_true rfl⟩) hK hP hD hS hA rfl hl.1 rfl (Nat.le_of_ble_eq_true rfl) dX7_invert_6 ⟨Nat.le_of_ble_eq_true rfl, Nat.le_of_ble_eq_true rfl⟩ (fun H locs hP hD hS => ?_)
  refine lv_if_ne (tgt := 18) hx hb dX7_invert_9 (by decide) (fun c1 => ?_) (fun c1 => ?_)
  · replace h := fF c1 h
    refine lv_aload_n hx hb dX7_invert_18 rfl (lv_at hl 0 rfl) ?_
    refine lv_iload_n hx hb dX7_invert_19 rfl (lv_at hl 1 rfl) ?_
    obtain ⟨r2, g3, h⟩ := fB1 h
    refine cV_i (As := [.int a1]) (rest := []) (ws1 := (MW w y (0 : Int32) ms mst smn msl mhs mtx mle mat mwl mrd mrm mtp mbt mtm mtn mnt mnb mun mum mau)) ⟨hx, hb, hml, hown, hts⟩ (c_X7_above l D w y _ (0 : Int32) ms mst smn msl mhs mtx mle mat mwl mrd mrm mtp mbt mtm mtn mnt mnb mun mum mau a1 r2 g3) (cwV 1 hts gX7_invert_X7_above rfl rfl rfl hd_X7_above ⟨Nat.le_of_ble_eq_true rfl, Nat.le_of_ble_eq_true rfl⟩) hK hP hD hS hA [0, 1, 2, 3, 4, 5, 6, 7, 8] [] [0, 1, 2, 3, 4, 5, 6, 7, 8] rfl rfl rfl (by decide) rfl rfl rfl 0 (ci := 5) rfl rfl rfl hl.1 rfl (Nat.le_of_ble_eq_true rfl) dX7_invert_20 ⟨Nat.le_of_ble_eq_true rfl, Nat.le_of_ble_eq_true rfl⟩ (fun H locs hP hD hS => ?_)
    refine lv_if_ne (tgt := 32) hx hb dX7_invert_23 (by decide) (fun c4 => ?_) (fun c4 => ?_)
    · replace h := fF c4 h
      refine lv_aload_n hx hb dX7_invert_32 rfl (lv_at hl 0 rfl) ?_
      obtain ⟨mst5, smn6, g7, h⟩ := fB2 h
      refine cV_v (As := []) (rest := []) (ws1 := (MW w y (0 : Int32) ms mst5 smn6 msl mhs mtx mle mat mwl mrd mrm mtp mbt mtm mtn mnt mnb mun mum mau)) ⟨hx, hb, hml, hown, hts⟩ (c_X7_records l D w y _ (0 : Int32) ms mst smn msl mhs mtx mle mat mwl mrd mrm mtp mbt mtm mtn mnt mnb mun mum mau mst5 smn6 g7) (cwV 0 hts gX7_invert_X7_records rfl rfl rfl hd_X7_records ⟨Nat.le_of_ble_eq_true rfl, Nat.le_of_ble_eq_true rfl⟩) hK hP hD hS hA [0, 1, 2, 3, 4, 5, 6, 7, 8] [] [0, 1, 2, 3, 4, 5, 6, 7, 8] rfl rfl rfl (by decide) rfl rfl rfl 0 (ci := 5) rfl rfl rfl hl.1 rfl (Nat.le_of_ble_eq_true rfl) dX7_invert_33 ⟨Nat.le_of_ble_eq_true rfl, Nat.le_of_ble_eq_true rfl⟩ (fun H locs hP hD hS => ?_)
      refine lv_aload_n hx hb dX7_invert_36 rfl (lv_at hl 0 rfl) ?_
      refine lv_aload_n hx hb dX7_invert_37 rfl (lv_at hl 0 rfl) ?_
      refine lv_iload_n hx hb dX7_invert_38 rfl (lv_at hl 1 rfl) ?_
      obtain ⟨r8, g9, h⟩ := fB1 h
      refine cV_i (As := [.int a1]) (rest := [.ref (w 0)]) (ws1 := (MW w y (0 : Int32) ms mst5 smn6 msl mhs mtx mle mat mwl mrd mrm mtp mbt mtm mtn mnt mnb mun mum mau)) ⟨hx, hb, hml, hown, hts⟩ (c_X7_below l D w y _ (0 : Int32) ms mst5 smn6 msl mhs mtx mle mat mwl mrd mrm mtp mbt mtm mtn mnt mnb mun mum mau a1 r8 g9) (cwV 1 hts gX7_invert_X7_below rfl rfl rfl hd_X7_below ⟨Nat.le_of_ble_eq_true rfl, Nat.le_of_ble_eq_true rfl⟩) hK hP hD hS hA [0, 1, 2, 3, 4, 5, 6, 7, 8] [] [0, 1, 2, 3, 4, 5, 6, 7, 8] rfl rfl rfl (by decide) rfl rfl rfl 0 (ci := 5) rfl rfl rfl hl.1 rfl (Nat.le_of_ble_eq_true rfl) dX7_invert_39 ⟨Nat.le_of_ble_eq_true rfl, Nat.le_of_ble_eq_true rfl⟩ (fun H locs hP hD hS => ?_)
      refine lv_i2l (v := r8.toInt64) hx hb dX7_invert_42 rfl ?_
      refine lv_aload_n hx hb dX7_invert_43 rfl (lv_at hl 0 rfl) ?_
      refine lv_iload_n hx hb dX7_invert_44 rfl (lv_at hl 1 rfl) ?_
      obtain ⟨r10, g11, h⟩ := fB1 h
      refine cV_i (As := [.int a1]) (rest := [.long r8.toInt64, .ref (w 0)]) (ws1 := (MW w y (0 : Int32) ms mst5 smn6 msl mhs mtx mle mat mwl mrd mrm mtp mbt mtm mtn mnt mnb mun mum mau)) ⟨hx, hb, hml, hown, hts⟩ (c_X7_above l D w y _ (0 : Int32) ms mst5 smn6 msl mhs mtx mle mat mwl mrd mrm mtp mbt mtm mtn mnt mnb mun mum mau a1 r10 g11) (cwV 1 hts gX7_invert_X7_above rfl rfl rfl hd_X7_above ⟨Nat.le_of_ble_eq_true rfl, Nat.le_of_ble_eq_true rfl⟩) hK hP hD hS hA [0, 1, 2, 3, 4, 5, 6, 7, 8] [] [0, 1, 2, 3, 4, 5, 6, 7, 8] rfl rfl rfl (by decide) rfl rfl rfl 0 (ci := 5) rfl rfl rfl hl.1 rfl (Nat.le_of_ble_eq_true rfl) dX7_invert_45 ⟨Nat.le_of_ble_eq_true rfl, Nat.le_of_ble_eq_true rfl⟩ (fun H locs hP hD hS => ?_)
      refine lv_i2l (v := r10.toInt64) hx hb dX7_invert_48 rfl ?_
      obtain ⟨r12, mtp13, mbt14, g15, h⟩ := fB3 h
      refine cV_i (As := [.long r8.toInt64, .long r10.toInt64]) (rest := []) (ws1 := (MW w y (0 : Int32) ms mst5 smn6 msl mhs mtx mle mat mwl mrd mrm mtp13 mbt14 mtm mtn mnt mnb mun mum mau)) ⟨hx, hb, hml, hown, hts⟩ (c_X7_makes l D w y _ (0 : Int32) ms mst5 smn6 msl mhs mtx mle mat mwl mrd mrm mtp mbt mtm mtn mnt mnb mun mum mau r8.toInt64 r10.toInt64 r12 mtp13 mbt14 g15) (cwV 2 hts gX7_invert_X7_makes rfl rfl rfl hd_X7_makes ⟨Nat.le_of_ble_eq_true rfl, Nat.le_of_ble_eq_true rfl⟩) hK hP hD hS hA [0, 1, 2, 3, 4, 5, 6, 7, 8] [] [0, 1, 2, 3, 4, 5, 6, 7, 8] rfl rfl rfl (by decide) rfl rfl rfl 0 (ci := 5) rfl rfl rfl hl.1 rfl (Nat.le_of_ble_eq_true rfl) dX7_invert_49 ⟨Nat.le_of_ble_eq_true rfl, Nat.le_of_ble_eq_true rfl⟩ (fun H locs hP hD hS => ?_)
      refine lv_pop hx hb dX7_invert_52 rfl ?_
      refine lv_aload_n hx hb dX7_invert_53 rfl (lv_at hl 0 rfl) ?_
      refine lv_iload_n hx hb dX7_invert_54 rfl (lv_at hl 1 rfl) ?_
      obtain ⟨r16, ms17, g18, h⟩ := fB2 h
      refine cV_i (As := [.int a1]) (rest := []) (ws1 := (MW w y (0 : Int32) ms17 mst5 smn6 msl mhs mtx mle mat mwl mrd mrm mtp13 mbt14 mtm mtn mnt mnb mun mum mau)) ⟨hx, hb, hml, hown, hts⟩ (c_X7_puts l D w y _ (0 : Int32) ms mst5 smn6 msl mhs mtx mle mat mwl mrd mrm mtp13 mbt14 mtm mtn mnt mnb mun mum mau a1 r16 ms17 g18) (cwV 1 hts gX7_invert_X7_puts rfl rfl rfl hd_X7_puts ⟨Nat.le_of_ble_eq_true rfl, Nat.le_of_ble_eq_true rfl⟩) hK hP hD hS hA [0, 1, 2, 3, 4, 5, 6, 7, 8] [] [0, 1, 2, 3, 4, 5, 6, 7, 8] rfl rfl rfl (by decide) rfl rfl rfl 0 (ci := 5) rfl rfl rfl hl.1 rfl (Nat.le_of_ble_eq_true rfl) dX7_invert_55 ⟨Nat.le_of_ble_eq_true rfl, Nat.le_of_ble_eq_true rfl⟩ (fun H locs hP hD hS => ?_)
      cases h
      exact hE _ _ _ _ dX7_invert_58 hP hD hS
    · replace h := fT c4 h
      refine lv_aload_n hx hb dX7_invert_26 rfl (lv_at hl 0 rfl) ?_
      refine lv_iconst (v := (2 : Int32)) hx hb dX7_invert_27 (by decide) ?_
      obtain ⟨r19, th20, g21, h⟩ := fB2 h
      refine cV_i (As := [.int (2 : Int32)]) (rest := []) (ws1 := (MW w y th20 ms mst smn msl mhs mtx mle mat mwl mrd mrm mtp mbt mtm mtn mnt mnb mun mum mau)) ⟨hx, hb, hml, hown, hts⟩ (c_X7_fails l D w y _ (0 : Int32) ms mst smn msl mhs mtx mle mat mwl mrd mrm mtp mbt mtm mtn mnt mnb mun mum mau (2 : Int32) r19 th20 g21) (cwV 1 hts gX7_invert_X7_fails rfl rfl rfl hd_X7_fails ⟨Nat.le_of_ble_eq_true rfl, Nat.le_of_ble_eq_true rfl⟩) hK hP hD hS hA [0, 1, 2, 3, 4, 5, 6, 7, 8] [] [0, 1, 2, 3, 4, 5, 6, 7, 8] rfl rfl rfl (by decide) rfl rfl rfl 0 (ci := 5) rfl rfl rfl hl.1 rfl (Nat.le_of_ble_eq_true rfl) dX7_invert_28 ⟨Nat.le_of_ble_eq_true rfl, Nat.le_of_ble_eq_true rfl⟩ (fun H locs hP hD hS => ?_)
      cases h
      exact hE _ _ _ _ dX7_invert_31 hP hD hS
  · replace h := fT c1 h
    refine lv_aload_n hx hb dX7_invert_12 rfl (lv_at hl 0 rfl) ?_
    refine lv_iconst (v := (1 : Int32)) hx hb dX7_invert_13 (by decide) ?_
    obtain ⟨r22, th23, g24, h⟩ := fB2 h
    refine cV_i (As := [.int (1 : Int32)]) (rest := []) (ws1 := (MW w y th23 ms mst smn msl mhs mtx mle mat mwl mrd mrm mtp mbt mtm mtn mnt mnb mun mum mau)) ⟨hx, hb, hml, hown, hts⟩ (c_X7_fails l D w y _ (0 : Int32) ms mst smn msl mhs mtx mle mat mwl mrd mrm mtp mbt mtm mtn mnt mnb mun mum mau (1 : Int32) r22 th23 g24) (cwV 1 hts gX7_invert_X7_fails rfl rfl rfl hd_X7_fails ⟨Nat.le_of_ble_eq_true rfl, Nat.le_of_ble_eq_true rfl⟩) hK hP hD hS hA [0, 1, 2, 3, 4, 5, 6, 7, 8] [] [0, 1, 2, 3, 4, 5, 6, 7, 8] rfl rfl rfl (by decide) rfl rfl rfl 0 (ci := 5) rfl rfl rfl hl.1 rfl (Nat.le_of_ble_eq_true rfl) dX7_invert_14 ⟨Nat.le_of_ble_eq_true rfl, Nat.le_of_ble_eq_true rfl⟩ (fun H locs hP hD hS => ?_)
    cases h
    exact hE _ _ _ _ dX7_invert_17 hP hD hS
abbrev rm_X7_share : Room := { frames := 2, cells := 0, slots := 0, locals := 55 }
theorem hd_X7_share : yX7_share.cls = RX7 ∧ yX7_share.cls ≠ "java/lang/invoke/MethodHandle" ∧ yX7_share.cls ≠ "java/lang/invoke/VarHandle" ∧ (parseMethodDescriptor yX7_share.desc).map (fun d => d.parameters.length) = some 2 := by decide +kernel
set_option maxHeartbeats 0 in
set_option maxRecDepth 100000 in
theorem c_X7_share (l : Launch) (D : va_G) (w : Nat → Nat) (y : Nat → ClassId) (sz : Nat) (th : Int32) (ms : Nat → Int32) (mst : Nat → Int32) (smn : Int32) (msl : Nat → Int32) (mhs : Nat → Int32) (mtx : Nat → Int32) (mle : Int32) (mat : Int32) (mwl : Int32) (mrd : Nat → Int32) (mrm : Int32) (mtp : Int64) (mbt : Int64) (mtm : Nat → Int32) (mtn : Int32) (mnt : Int32) (mnb : Int32) (mun : Nat → Int32) (mum : Int32) (mau : Int32) (a1 : Int32) (a2 : Int32) (r : Int32) (th' : Int32) (ms' : Nat → Int32) (mst' : Nat → Int32) (smn' : Int32) (mtp' : Int64) (mbt' : Int64) (h : F_X7_share th ms mst smn mtp mbt a1 a2 = some (r, th', ms', mst', smn', mtp', mbt')) : Met l yX7_share wsX7_share rm_X7_share (va_Pc [.ref (w 0), .int a1, .int a2] (px D y sz (MW w y th ms mst smn msl mhs mtx mle mat mwl mrd mrm mtp mbt mtm mtn mnt mnb mun mum mau))) (Qri D y sz (MW w y th ms mst smn msl mhs mtx mle mat mwl mrd mrm mtp mbt mtm mtn mnt mnb mun mum mau) (MW w y th' ms' mst' smn' msl mhs mtx mle mat mwl mrd mrm mtp' mbt' mtm mtn mnt mnb mun mum mau) r) 0 0 (va_A (MW w y th ms mst smn msl mhs mtx mle mat mwl mrd mrm mtp mbt mtm mtn mnt mnb mun mum mau) sz) := by
  refine hd_i (cc := cX7_share) (maxL := 3) rfl rfl (Nat.le_of_ble_eq_true rfl) ?_
  intro p e s m args below meth c A Q H locs ls hx hb hml hts hown _ hA hP hD hK hS hl hE
  have hl : lv_has ls 3 [(0, .ref (w 0)), (1, .int a1), (2, .int a2)] := hl
  have q0 := hts (.fieldLink RX7 35 "SliceSharesModel" "thrown" "I") (by decide +kernel)
  have hinRX7 : ∀ w ∈ wsX70, w ∈ wsX7_share := by decide +kernel
  unfold F_X7_share at h
  refine lv_aload_n hx hb dX7_share_0 rfl (lv_at hl 0 rfl) ?_
  refine lv_iconst (v := (0 : Int32)) hx hb dX7_share_1 (by decide) ?_
  refine va_put (D := D) (ci := 5) (v := .int (0 : Int32)) (ty := .int) (C := RX7) (T := TX7) (N := 21) hx hb hts hinRX7 tyX7 tyX7_ok nmX7 hown hK hP hD hS 0 rfl rfl 0 (by decide) q0 (fun _ h9 => h9) rfl (by decide +kernel) rfl rfl (Nat.le_of_ble_eq_true rfl) dX7_share_2 (fun H locs hP hD hS => ?_)
  have hP : va_P D vwCl (MW w y (0 : Int32) ms mst smn msl mhs mtx mle mat mwl mrd mrm mtp mbt mtm mtn mnt mnb mun mum mau) H := hP
  have hD : va_D A (MW w y (0 : Int32) ms mst smn msl mhs mtx mle mat mwl mrd mrm mtp mbt mtm mtn mnt mnb mun mum mau) := hD
  refine lv_iload_n hx hb dX7_share_5 rfl (lv_at hl 1 rfl) ?_
  refine cT_i (As := [.int a1]) (rest := []) ⟨hx, hb, hml, hown, hts⟩ (c_X7_isPlate l D y _ a1) (va_cwS 1 hts gX7_share_X7_isPlate rfl rfl rfl hd_X7_isPlate ⟨Nat.le_of_ble_eq_true rfl, Nat.le_of_ble_eq_true rfl⟩) hK hP hD hS hA rfl hl.1 rfl (Nat.le_of_ble_eq_true rfl) dX7_share_6 ⟨Nat.le_of_ble_eq_true rfl, Nat.le_of_ble_eq_true rfl⟩ (fun H locs hP hD hS => ?_)
  refine lv_if_ne (tgt := 18) hx hb dX7_share_9 (by decide) (fun c1 => ?_) (fun c1 => ?_)
  · replace h := fF c1 h
    refine lv_iload_n hx hb dX7_share_18 rfl (lv_at hl 2 rfl) ?_
    refine lv_iconst (v := (1 : Int32)) hx hb dX7_share_19 (by decide) ?_
    refine lv_bipush (v := (100 : Int32)) hx hb dX7_share_20 (by decide) ?_
    refine cT_i (As := [.int a2, .int (1 : Int32), .int (100 : Int32)]) (rest := []) ⟨hx, hb, hml, hown, hts⟩ (c_X7_in l D y _ a2 (1 : Int32) (100 : Int32)) (va_cwS 3 hts gX7_share_X7_in rfl rfl rfl hd_X7_in ⟨Nat.le_of_ble_eq_true rfl, Nat.le_of_ble_eq_true rfl⟩) hK hP hD hS hA rfl hl.1 rfl (Nat.le_of_ble_eq_true rfl) dX7_share_22 ⟨Nat.le_of_ble_eq_true rfl, Nat.le_of_ble_eq_true rfl⟩ (fun H locs hP hD hS => ?_)
    refine lv_if_ne (tgt := 34) hx hb dX7_share_25 (by decide) (fun c2 => ?_) (fun c2 => ?_)
    · replace h := fF c2 h
      refine lv_aload_n hx hb dX7_share_34 rfl (lv_at hl 0 rfl) ?_
      refine lv_aload_n hx hb dX7_share_35 rfl (lv_at hl 0 rfl) ?_
      refine lv_iload_n hx hb dX7_share_36 rfl (lv_at hl 1 rfl) ?_
      obtain ⟨r3, g4, h⟩ := fB1 h
      refine cV_i (As := [.int a1]) (rest := [.ref (w 0)]) (ws1 := (MW w y (0 : Int32) ms mst smn msl mhs mtx mle mat mwl mrd mrm mtp mbt mtm mtn mnt mnb mun mum mau)) ⟨hx, hb, hml, hown, hts⟩ (c_X7_above l D w y _ (0 : Int32) ms mst smn msl mhs mtx mle mat mwl mrd mrm mtp mbt mtm mtn mnt mnb mun mum mau a1 r3 g4) (cwV 1 hts gX7_share_X7_above rfl rfl rfl hd_X7_above ⟨Nat.le_of_ble_eq_true rfl, Nat.le_of_ble_eq_true rfl⟩) hK hP hD hS hA [0, 1, 2, 3, 4, 5, 6, 7, 8] [] [0, 1, 2, 3, 4, 5, 6, 7, 8] rfl rfl rfl (by decide) rfl rfl rfl 0 (ci := 5) rfl rfl rfl hl.1 rfl (Nat.le_of_ble_eq_true rfl) dX7_share_37 ⟨Nat.le_of_ble_eq_true rfl, Nat.le_of_ble_eq_true rfl⟩ (fun H locs hP hD hS => ?_)
      refine lv_i2l (v := r3.toInt64) hx hb dX7_share_40 rfl ?_
      refine lv_aload_n hx hb dX7_share_41 rfl (lv_at hl 0 rfl) ?_
      refine lv_iload_n hx hb dX7_share_42 rfl (lv_at hl 1 rfl) ?_
      obtain ⟨r5, g6, h⟩ := fB1 h
      refine cV_i (As := [.int a1]) (rest := [.long r3.toInt64, .ref (w 0)]) (ws1 := (MW w y (0 : Int32) ms mst smn msl mhs mtx mle mat mwl mrd mrm mtp mbt mtm mtn mnt mnb mun mum mau)) ⟨hx, hb, hml, hown, hts⟩ (c_X7_below l D w y _ (0 : Int32) ms mst smn msl mhs mtx mle mat mwl mrd mrm mtp mbt mtm mtn mnt mnb mun mum mau a1 r5 g6) (cwV 1 hts gX7_share_X7_below rfl rfl rfl hd_X7_below ⟨Nat.le_of_ble_eq_true rfl, Nat.le_of_ble_eq_true rfl⟩) hK hP hD hS hA [0, 1, 2, 3, 4, 5, 6, 7, 8] [] [0, 1, 2, 3, 4, 5, 6, 7, 8] rfl rfl rfl (by decide) rfl rfl rfl 0 (ci := 5) rfl rfl rfl hl.1 rfl (Nat.le_of_ble_eq_true rfl) dX7_share_43 ⟨Nat.le_of_ble_eq_true rfl, Nat.le_of_ble_eq_true rfl⟩ (fun H locs hP hD hS => ?_)
      refine lv_i2l (v := r5.toInt64) hx hb dX7_share_46 rfl ?_
      refine lv_iload_n hx hb dX7_share_47 rfl (lv_at hl 2 rfl) ?_
      refine lv_i2l (v := a2.toInt64) hx hb dX7_share_48 rfl ?_
      refine lv_lmul hx hb dX7_share_49 ?_
      obtain ⟨r7, mtp8, mbt9, g10, h⟩ := fB3 h
      refine cV_i (As := [.long r3.toInt64, .long (r5.toInt64 * a2.toInt64)]) (rest := []) (ws1 := (MW w y (0 : Int32) ms mst smn msl mhs mtx mle mat mwl mrd mrm mtp8 mbt9 mtm mtn mnt mnb mun mum mau)) ⟨hx, hb, hml, hown, hts⟩ (c_X7_makes l D w y _ (0 : Int32) ms mst smn msl mhs mtx mle mat mwl mrd mrm mtp mbt mtm mtn mnt mnb mun mum mau r3.toInt64 (r5.toInt64 * a2.toInt64) r7 mtp8 mbt9 g10) (cwV 2 hts gX7_share_X7_makes rfl rfl rfl hd_X7_makes ⟨Nat.le_of_ble_eq_true rfl, Nat.le_of_ble_eq_true rfl⟩) hK hP hD hS hA [0, 1, 2, 3, 4, 5, 6, 7, 8] [] [0, 1, 2, 3, 4, 5, 6, 7, 8] rfl rfl rfl (by decide) rfl rfl rfl 0 (ci := 5) rfl rfl rfl hl.1 rfl (Nat.le_of_ble_eq_true rfl) dX7_share_50 ⟨Nat.le_of_ble_eq_true rfl, Nat.le_of_ble_eq_true rfl⟩ (fun H locs hP hD hS => ?_)
      refine lv_if_ne (tgt := 62) hx hb dX7_share_53 (by decide) (fun c11 => ?_) (fun c11 => ?_)
      · replace h := fF c11 h
        refine lv_aload_n hx hb dX7_share_62 rfl (lv_at hl 0 rfl) ?_
        obtain ⟨mst12, smn13, g14, h⟩ := fB2 h
        refine cV_v (As := []) (rest := []) (ws1 := (MW w y (0 : Int32) ms mst12 smn13 msl mhs mtx mle mat mwl mrd mrm mtp8 mbt9 mtm mtn mnt mnb mun mum mau)) ⟨hx, hb, hml, hown, hts⟩ (c_X7_records l D w y _ (0 : Int32) ms mst smn msl mhs mtx mle mat mwl mrd mrm mtp8 mbt9 mtm mtn mnt mnb mun mum mau mst12 smn13 g14) (cwV 0 hts gX7_share_X7_records rfl rfl rfl hd_X7_records ⟨Nat.le_of_ble_eq_true rfl, Nat.le_of_ble_eq_true rfl⟩) hK hP hD hS hA [0, 1, 2, 3, 4, 5, 6, 7, 8] [] [0, 1, 2, 3, 4, 5, 6, 7, 8] rfl rfl rfl (by decide) rfl rfl rfl 0 (ci := 5) rfl rfl rfl hl.1 rfl (Nat.le_of_ble_eq_true rfl) dX7_share_63 ⟨Nat.le_of_ble_eq_true rfl, Nat.le_of_ble_eq_true rfl⟩ (fun H locs hP hD hS => ?_)
        refine lv_aload_n hx hb dX7_share_66 rfl (lv_at hl 0 rfl) ?_
        refine lv_iload_n hx hb dX7_share_67 rfl (lv_at hl 1 rfl) ?_
        obtain ⟨r15, ms16, g17, h⟩ := fB2 h
        refine cV_i (As := [.int a1]) (rest := []) (ws1 := (MW w y (0 : Int32) ms16 mst12 smn13 msl mhs mtx mle mat mwl mrd mrm mtp8 mbt9 mtm mtn mnt mnb mun mum mau)) ⟨hx, hb, hml, hown, hts⟩ (c_X7_puts l D w y _ (0 : Int32) ms mst12 smn13 msl mhs mtx mle mat mwl mrd mrm mtp8 mbt9 mtm mtn mnt mnb mun mum mau a1 r15 ms16 g17) (cwV 1 hts gX7_share_X7_puts rfl rfl rfl hd_X7_puts ⟨Nat.le_of_ble_eq_true rfl, Nat.le_of_ble_eq_true rfl⟩) hK hP hD hS hA [0, 1, 2, 3, 4, 5, 6, 7, 8] [] [0, 1, 2, 3, 4, 5, 6, 7, 8] rfl rfl rfl (by decide) rfl rfl rfl 0 (ci := 5) rfl rfl rfl hl.1 rfl (Nat.le_of_ble_eq_true rfl) dX7_share_68 ⟨Nat.le_of_ble_eq_true rfl, Nat.le_of_ble_eq_true rfl⟩ (fun H locs hP hD hS => ?_)
        cases h
        exact hE _ _ _ _ dX7_share_71 hP hD hS
      · replace h := fT c11 h
        refine lv_aload_n hx hb dX7_share_56 rfl (lv_at hl 0 rfl) ?_
        refine lv_iconst (v := (3 : Int32)) hx hb dX7_share_57 (by decide) ?_
        obtain ⟨r18, th19, g20, h⟩ := fB2 h
        refine cV_i (As := [.int (3 : Int32)]) (rest := []) (ws1 := (MW w y th19 ms mst smn msl mhs mtx mle mat mwl mrd mrm mtp8 mbt9 mtm mtn mnt mnb mun mum mau)) ⟨hx, hb, hml, hown, hts⟩ (c_X7_fails l D w y _ (0 : Int32) ms mst smn msl mhs mtx mle mat mwl mrd mrm mtp8 mbt9 mtm mtn mnt mnb mun mum mau (3 : Int32) r18 th19 g20) (cwV 1 hts gX7_share_X7_fails rfl rfl rfl hd_X7_fails ⟨Nat.le_of_ble_eq_true rfl, Nat.le_of_ble_eq_true rfl⟩) hK hP hD hS hA [0, 1, 2, 3, 4, 5, 6, 7, 8] [] [0, 1, 2, 3, 4, 5, 6, 7, 8] rfl rfl rfl (by decide) rfl rfl rfl 0 (ci := 5) rfl rfl rfl hl.1 rfl (Nat.le_of_ble_eq_true rfl) dX7_share_58 ⟨Nat.le_of_ble_eq_true rfl, Nat.le_of_ble_eq_true rfl⟩ (fun H locs hP hD hS => ?_)
        cases h
        exact hE _ _ _ _ dX7_share_61 hP hD hS
    · replace h := fT c2 h
      refine lv_aload_n hx hb dX7_share_28 rfl (lv_at hl 0 rfl) ?_
      refine lv_iconst (v := (2 : Int32)) hx hb dX7_share_29 (by decide) ?_
      obtain ⟨r21, th22, g23, h⟩ := fB2 h
      refine cV_i (As := [.int (2 : Int32)]) (rest := []) (ws1 := (MW w y th22 ms mst smn msl mhs mtx mle mat mwl mrd mrm mtp mbt mtm mtn mnt mnb mun mum mau)) ⟨hx, hb, hml, hown, hts⟩ (c_X7_fails l D w y _ (0 : Int32) ms mst smn msl mhs mtx mle mat mwl mrd mrm mtp mbt mtm mtn mnt mnb mun mum mau (2 : Int32) r21 th22 g23) (cwV 1 hts gX7_share_X7_fails rfl rfl rfl hd_X7_fails ⟨Nat.le_of_ble_eq_true rfl, Nat.le_of_ble_eq_true rfl⟩) hK hP hD hS hA [0, 1, 2, 3, 4, 5, 6, 7, 8] [] [0, 1, 2, 3, 4, 5, 6, 7, 8] rfl rfl rfl (by decide) rfl rfl rfl 0 (ci := 5) rfl rfl rfl hl.1 rfl (Nat.le_of_ble_eq_true rfl) dX7_share_30 ⟨Nat.le_of_ble_eq_true rfl, Nat.le_of_ble_eq_true rfl⟩ (fun H locs hP hD hS => ?_)
      cases h
      exact hE _ _ _ _ dX7_share_33 hP hD hS
  · replace h := fT c1 h
    refine lv_aload_n hx hb dX7_share_12 rfl (lv_at hl 0 rfl) ?_
    refine lv_iconst (v := (1 : Int32)) hx hb dX7_share_13 (by decide) ?_
    obtain ⟨r24, th25, g26, h⟩ := fB2 h
    refine cV_i (As := [.int (1 : Int32)]) (rest := []) (ws1 := (MW w y th25 ms mst smn msl mhs mtx mle mat mwl mrd mrm mtp mbt mtm mtn mnt mnb mun mum mau)) ⟨hx, hb, hml, hown, hts⟩ (c_X7_fails l D w y _ (0 : Int32) ms mst smn msl mhs mtx mle mat mwl mrd mrm mtp mbt mtm mtn mnt mnb mun mum mau (1 : Int32) r24 th25 g26) (cwV 1 hts gX7_share_X7_fails rfl rfl rfl hd_X7_fails ⟨Nat.le_of_ble_eq_true rfl, Nat.le_of_ble_eq_true rfl⟩) hK hP hD hS hA [0, 1, 2, 3, 4, 5, 6, 7, 8] [] [0, 1, 2, 3, 4, 5, 6, 7, 8] rfl rfl rfl (by decide) rfl rfl rfl 0 (ci := 5) rfl rfl rfl hl.1 rfl (Nat.le_of_ble_eq_true rfl) dX7_share_14 ⟨Nat.le_of_ble_eq_true rfl, Nat.le_of_ble_eq_true rfl⟩ (fun H locs hP hD hS => ?_)
    cases h
    exact hE _ _ _ _ dX7_share_17 hP hD hS
abbrev rm_X7_isGreatest : Room := { frames := 1, cells := 0, slots := 0, locals := 22 }
theorem hd_X7_isGreatest : yX7_isGreatest.cls ≠ "java/lang/invoke/MethodHandle" ∧ yX7_isGreatest.cls ≠ "java/lang/invoke/VarHandle" ∧ (parseMethodDescriptor yX7_isGreatest.desc).map (fun d => d.parameters.length) = some 1 := by decide +kernel
set_option maxHeartbeats 0 in
set_option maxRecDepth 100000 in
theorem c_X7_isGreatest (l : Launch) (D : va_G) (y : Nat → ClassId) (sz : Nat) (a1 : Int32) : Met l yX7_isGreatest wsX7_isGreatest rm_X7_isGreatest (va_Pc [.int a1] (px D y sz [])) (Qri D y sz [] [] (F_X7_isGreatest a1)) 0 0 (va_A [] sz) := by
  refine hd_z (cc := cX7_isGreatest) (maxL := 1) (rt := .boolean) rfl rfl (Nat.le_of_ble_eq_true rfl) ?_
  intro p e s m args below meth c A Q H locs ls hx hb hml hts hown _ hA hP hD hK hS hl hE
  have hl : lv_has ls 1 [(0, .int a1)] := hl
  refine lv_iload_n hx hb dX7_isGreatest_0 rfl (lv_at hl 0 rfl) ?_
  refine lv_iconst (v := (1 : Int32)) hx hb dX7_isGreatest_1 (by decide) ?_
  refine lv_sipush (v := (1000 : Int32)) hx hb dX7_isGreatest_2 (by decide) ?_
  refine cT_i (As := [.int a1, .int (1 : Int32), .int (1000 : Int32)]) (rest := []) ⟨hx, hb, hml, hown, hts⟩ (c_X7_in l D y _ a1 (1 : Int32) (1000 : Int32)) (va_cwS 3 hts gX7_isGreatest_X7_in rfl rfl rfl hd_X7_in ⟨Nat.le_of_ble_eq_true rfl, Nat.le_of_ble_eq_true rfl⟩) hK hP hD hS hA rfl hl.1 rfl (Nat.le_of_ble_eq_true rfl) dX7_isGreatest_5 ⟨Nat.le_of_ble_eq_true rfl, Nat.le_of_ble_eq_true rfl⟩ (fun H locs hP hD hS => ?_)
  exact hE _ _ _ _ dX7_isGreatest_8 hP hD hS (nz01 (z_X7_in _ _ _))
abbrev rm_X7_roundTo : Room := { frames := 2, cells := 0, slots := 0, locals := 55 }
theorem hd_X7_roundTo : yX7_roundTo.cls = RX7 ∧ yX7_roundTo.cls ≠ "java/lang/invoke/MethodHandle" ∧ yX7_roundTo.cls ≠ "java/lang/invoke/VarHandle" ∧ (parseMethodDescriptor yX7_roundTo.desc).map (fun d => d.parameters.length) = some 2 := by decide +kernel
set_option maxHeartbeats 0 in
set_option maxRecDepth 100000 in
theorem c_X7_roundTo (l : Launch) (D : va_G) (w : Nat → Nat) (y : Nat → ClassId) (sz : Nat) (th : Int32) (ms : Nat → Int32) (mst : Nat → Int32) (smn : Int32) (msl : Nat → Int32) (mhs : Nat → Int32) (mtx : Nat → Int32) (mle : Int32) (mat : Int32) (mwl : Int32) (mrd : Nat → Int32) (mrm : Int32) (mtp : Int64) (mbt : Int64) (mtm : Nat → Int32) (mtn : Int32) (mnt : Int32) (mnb : Int32) (mun : Nat → Int32) (mum : Int32) (mau : Int32) (a1 : Int32) (a2 : Int32) (r : Int32) (th' : Int32) (ms' : Nat → Int32) (mst' : Nat → Int32) (smn' : Int32) (mtp' : Int64) (mbt' : Int64) (mnt' : Int32) (mnb' : Int32) (h : F_X7_roundTo th ms mst smn mtp mbt mnt mnb a1 a2 = some (r, th', ms', mst', smn', mtp', mbt', mnt', mnb')) : Met l yX7_roundTo wsX7_roundTo rm_X7_roundTo (va_Pc [.ref (w 0), .int a1, .int a2] (px D y sz (MW w y th ms mst smn msl mhs mtx mle mat mwl mrd mrm mtp mbt mtm mtn mnt mnb mun mum mau))) (Qri D y sz (MW w y th ms mst smn msl mhs mtx mle mat mwl mrd mrm mtp mbt mtm mtn mnt mnb mun mum mau) (MW w y th' ms' mst' smn' msl mhs mtx mle mat mwl mrd mrm mtp' mbt' mtm mtn mnt' mnb' mun mum mau) r) 0 0 (va_A (MW w y th ms mst smn msl mhs mtx mle mat mwl mrd mrm mtp mbt mtm mtn mnt mnb mun mum mau) sz) := by
  refine hd_i (cc := cX7_roundTo) (maxL := 3) rfl rfl (Nat.le_of_ble_eq_true rfl) ?_
  intro p e s m args below meth c A Q H locs ls hx hb hml hts hown _ hA hP hD hK hS hl hE
  have hl : lv_has ls 3 [(0, .ref (w 0)), (1, .int a1), (2, .int a2)] := hl
  have q0 := hts (.fieldLink RX7 35 "SliceSharesModel" "thrown" "I") (by decide +kernel)
  have q1 := hts (.fieldLink RX7 86 "SliceSharesModel" "nearTop" "I") (by decide +kernel)
  have q2 := hts (.fieldLink RX7 83 "SliceSharesModel" "nearBottom" "I") (by decide +kernel)
  have hinRX7 : ∀ w ∈ wsX70, w ∈ wsX7_roundTo := by decide +kernel
  unfold F_X7_roundTo at h
  refine lv_aload_n hx hb dX7_roundTo_0 rfl (lv_at hl 0 rfl) ?_
  refine lv_iconst (v := (0 : Int32)) hx hb dX7_roundTo_1 (by decide) ?_
  refine va_put (D := D) (ci := 5) (v := .int (0 : Int32)) (ty := .int) (C := RX7) (T := TX7) (N := 21) hx hb hts hinRX7 tyX7 tyX7_ok nmX7 hown hK hP hD hS 0 rfl rfl 0 (by decide) q0 (fun _ h9 => h9) rfl (by decide +kernel) rfl rfl (Nat.le_of_ble_eq_true rfl) dX7_roundTo_2 (fun H locs hP hD hS => ?_)
  have hP : va_P D vwCl (MW w y (0 : Int32) ms mst smn msl mhs mtx mle mat mwl mrd mrm mtp mbt mtm mtn mnt mnb mun mum mau) H := hP
  have hD : va_D A (MW w y (0 : Int32) ms mst smn msl mhs mtx mle mat mwl mrd mrm mtp mbt mtm mtn mnt mnb mun mum mau) := hD
  refine lv_iload_n hx hb dX7_roundTo_5 rfl (lv_at hl 1 rfl) ?_
  refine cT_i (As := [.int a1]) (rest := []) ⟨hx, hb, hml, hown, hts⟩ (c_X7_isPlate l D y _ a1) (va_cwS 1 hts gX7_roundTo_X7_isPlate rfl rfl rfl hd_X7_isPlate ⟨Nat.le_of_ble_eq_true rfl, Nat.le_of_ble_eq_true rfl⟩) hK hP hD hS hA rfl hl.1 rfl (Nat.le_of_ble_eq_true rfl) dX7_roundTo_6 ⟨Nat.le_of_ble_eq_true rfl, Nat.le_of_ble_eq_true rfl⟩ (fun H locs hP hD hS => ?_)
  refine lv_if_ne (tgt := 18) hx hb dX7_roundTo_9 (by decide) (fun c1 => ?_) (fun c1 => ?_)
  · replace h := fF c1 h
    refine lv_iload_n hx hb dX7_roundTo_18 rfl (lv_at hl 2 rfl) ?_
    refine cT_i (As := [.int a2]) (rest := []) ⟨hx, hb, hml, hown, hts⟩ (c_X7_isGreatest l D y _ a2) (va_cwS 1 hts gX7_roundTo_X7_isGreatest rfl rfl rfl hd_X7_isGreatest ⟨Nat.le_of_ble_eq_true rfl, Nat.le_of_ble_eq_true rfl⟩) hK hP hD hS hA rfl hl.1 rfl (Nat.le_of_ble_eq_true rfl) dX7_roundTo_19 ⟨Nat.le_of_ble_eq_true rfl, Nat.le_of_ble_eq_true rfl⟩ (fun H locs hP hD hS => ?_)
    refine lv_if_ne (tgt := 31) hx hb dX7_roundTo_22 (by decide) (fun c2 => ?_) (fun c2 => ?_)
    · replace h := fF c2 h
      refine lv_aload_n hx hb dX7_roundTo_31 rfl (lv_at hl 0 rfl) ?_
      obtain ⟨mst3, smn4, g5, h⟩ := fB2 h
      refine cV_v (As := []) (rest := []) (ws1 := (MW w y (0 : Int32) ms mst3 smn4 msl mhs mtx mle mat mwl mrd mrm mtp mbt mtm mtn mnt mnb mun mum mau)) ⟨hx, hb, hml, hown, hts⟩ (c_X7_records l D w y _ (0 : Int32) ms mst smn msl mhs mtx mle mat mwl mrd mrm mtp mbt mtm mtn mnt mnb mun mum mau mst3 smn4 g5) (cwV 0 hts gX7_roundTo_X7_records rfl rfl rfl hd_X7_records ⟨Nat.le_of_ble_eq_true rfl, Nat.le_of_ble_eq_true rfl⟩) hK hP hD hS hA [0, 1, 2, 3, 4, 5, 6, 7, 8] [] [0, 1, 2, 3, 4, 5, 6, 7, 8] rfl rfl rfl (by decide) rfl rfl rfl 0 (ci := 5) rfl rfl rfl hl.1 rfl (Nat.le_of_ble_eq_true rfl) dX7_roundTo_32 ⟨Nat.le_of_ble_eq_true rfl, Nat.le_of_ble_eq_true rfl⟩ (fun H locs hP hD hS => ?_)
      refine lv_aload_n hx hb dX7_roundTo_35 rfl (lv_at hl 0 rfl) ?_
      refine lv_iload_n hx hb dX7_roundTo_36 rfl (lv_at hl 1 rfl) ?_
      refine lv_iload_n hx hb dX7_roundTo_37 rfl (lv_at hl 2 rfl) ?_
      obtain ⟨mnt6, mnb7, g8, h⟩ := fB2 h
      refine cV_v (As := [.int a1, .int a2]) (rest := []) (ws1 := (MW w y (0 : Int32) ms mst3 smn4 msl mhs mtx mle mat mwl mrd mrm mtp mbt mtm mtn mnt6 mnb7 mun mum mau)) ⟨hx, hb, hml, hown, hts⟩ (c_X7_tellsNearest l D w y _ (0 : Int32) ms mst3 smn4 msl mhs mtx mle mat mwl mrd mrm mtp mbt mtm mtn mnt mnb mun mum mau a1 a2 mnt6 mnb7 g8) (cwV 2 hts gX7_roundTo_X7_tellsNearest rfl rfl rfl hd_X7_tellsNearest ⟨Nat.le_of_ble_eq_true rfl, Nat.le_of_ble_eq_true rfl⟩) hK hP hD hS hA [0, 1, 2, 3, 4, 5, 6, 7, 8] [] [0, 1, 2, 3, 4, 5, 6, 7, 8] rfl rfl rfl (by decide) rfl rfl rfl 0 (ci := 5) rfl rfl rfl hl.1 rfl (Nat.le_of_ble_eq_true rfl) dX7_roundTo_38 ⟨Nat.le_of_ble_eq_true rfl, Nat.le_of_ble_eq_true rfl⟩ (fun H locs hP hD hS => ?_)
      refine lv_aload_n hx hb dX7_roundTo_41 rfl (lv_at hl 0 rfl) ?_
      refine lv_aload_n hx hb dX7_roundTo_42 rfl (lv_at hl 0 rfl) ?_
      refine va_get (D := D) (ci := 5) (C := RX7) (T := TX7) (N := 21) hx hb hts hinRX7 hown hK hP 0 rfl rfl 16 (by decide) q1 (fun _ h9 => h9) rfl dX7_roundTo_43 ?_
      refine lv_i2l (v := mnt6.toInt64) hx hb dX7_roundTo_46 rfl ?_
      refine lv_aload_n hx hb dX7_roundTo_47 rfl (lv_at hl 0 rfl) ?_
      refine va_get (D := D) (ci := 5) (C := RX7) (T := TX7) (N := 21) hx hb hts hinRX7 hown hK hP 0 rfl rfl 17 (by decide) q2 (fun _ h9 => h9) rfl dX7_roundTo_48 ?_
      refine lv_i2l (v := mnb7.toInt64) hx hb dX7_roundTo_51 rfl ?_
      obtain ⟨r9, mtp10, mbt11, g12, h⟩ := fB3 h
      refine cV_i (As := [.long mnt6.toInt64, .long mnb7.toInt64]) (rest := []) (ws1 := (MW w y (0 : Int32) ms mst3 smn4 msl mhs mtx mle mat mwl mrd mrm mtp10 mbt11 mtm mtn mnt6 mnb7 mun mum mau)) ⟨hx, hb, hml, hown, hts⟩ (c_X7_makes l D w y _ (0 : Int32) ms mst3 smn4 msl mhs mtx mle mat mwl mrd mrm mtp mbt mtm mtn mnt6 mnb7 mun mum mau mnt6.toInt64 mnb7.toInt64 r9 mtp10 mbt11 g12) (cwV 2 hts gX7_roundTo_X7_makes rfl rfl rfl hd_X7_makes ⟨Nat.le_of_ble_eq_true rfl, Nat.le_of_ble_eq_true rfl⟩) hK hP hD hS hA [0, 1, 2, 3, 4, 5, 6, 7, 8] [] [0, 1, 2, 3, 4, 5, 6, 7, 8] rfl rfl rfl (by decide) rfl rfl rfl 0 (ci := 5) rfl rfl rfl hl.1 rfl (Nat.le_of_ble_eq_true rfl) dX7_roundTo_52 ⟨Nat.le_of_ble_eq_true rfl, Nat.le_of_ble_eq_true rfl⟩ (fun H locs hP hD hS => ?_)
      refine lv_pop hx hb dX7_roundTo_55 rfl ?_
      refine lv_aload_n hx hb dX7_roundTo_56 rfl (lv_at hl 0 rfl) ?_
      refine lv_iload_n hx hb dX7_roundTo_57 rfl (lv_at hl 1 rfl) ?_
      obtain ⟨r13, ms14, g15, h⟩ := fB2 h
      refine cV_i (As := [.int a1]) (rest := []) (ws1 := (MW w y (0 : Int32) ms14 mst3 smn4 msl mhs mtx mle mat mwl mrd mrm mtp10 mbt11 mtm mtn mnt6 mnb7 mun mum mau)) ⟨hx, hb, hml, hown, hts⟩ (c_X7_puts l D w y _ (0 : Int32) ms mst3 smn4 msl mhs mtx mle mat mwl mrd mrm mtp10 mbt11 mtm mtn mnt6 mnb7 mun mum mau a1 r13 ms14 g15) (cwV 1 hts gX7_roundTo_X7_puts rfl rfl rfl hd_X7_puts ⟨Nat.le_of_ble_eq_true rfl, Nat.le_of_ble_eq_true rfl⟩) hK hP hD hS hA [0, 1, 2, 3, 4, 5, 6, 7, 8] [] [0, 1, 2, 3, 4, 5, 6, 7, 8] rfl rfl rfl (by decide) rfl rfl rfl 0 (ci := 5) rfl rfl rfl hl.1 rfl (Nat.le_of_ble_eq_true rfl) dX7_roundTo_58 ⟨Nat.le_of_ble_eq_true rfl, Nat.le_of_ble_eq_true rfl⟩ (fun H locs hP hD hS => ?_)
      cases h
      exact hE _ _ _ _ dX7_roundTo_61 hP hD hS
    · replace h := fT c2 h
      refine lv_aload_n hx hb dX7_roundTo_25 rfl (lv_at hl 0 rfl) ?_
      refine lv_iconst (v := (2 : Int32)) hx hb dX7_roundTo_26 (by decide) ?_
      obtain ⟨r16, th17, g18, h⟩ := fB2 h
      refine cV_i (As := [.int (2 : Int32)]) (rest := []) (ws1 := (MW w y th17 ms mst smn msl mhs mtx mle mat mwl mrd mrm mtp mbt mtm mtn mnt mnb mun mum mau)) ⟨hx, hb, hml, hown, hts⟩ (c_X7_fails l D w y _ (0 : Int32) ms mst smn msl mhs mtx mle mat mwl mrd mrm mtp mbt mtm mtn mnt mnb mun mum mau (2 : Int32) r16 th17 g18) (cwV 1 hts gX7_roundTo_X7_fails rfl rfl rfl hd_X7_fails ⟨Nat.le_of_ble_eq_true rfl, Nat.le_of_ble_eq_true rfl⟩) hK hP hD hS hA [0, 1, 2, 3, 4, 5, 6, 7, 8] [] [0, 1, 2, 3, 4, 5, 6, 7, 8] rfl rfl rfl (by decide) rfl rfl rfl 0 (ci := 5) rfl rfl rfl hl.1 rfl (Nat.le_of_ble_eq_true rfl) dX7_roundTo_27 ⟨Nat.le_of_ble_eq_true rfl, Nat.le_of_ble_eq_true rfl⟩ (fun H locs hP hD hS => ?_)
      cases h
      exact hE _ _ _ _ dX7_roundTo_30 hP hD hS
  · replace h := fT c1 h
    refine lv_aload_n hx hb dX7_roundTo_12 rfl (lv_at hl 0 rfl) ?_
    refine lv_iconst (v := (1 : Int32)) hx hb dX7_roundTo_13 (by decide) ?_
    obtain ⟨r19, th20, g21, h⟩ := fB2 h
    refine cV_i (As := [.int (1 : Int32)]) (rest := []) (ws1 := (MW w y th20 ms mst smn msl mhs mtx mle mat mwl mrd mrm mtp mbt mtm mtn mnt mnb mun mum mau)) ⟨hx, hb, hml, hown, hts⟩ (c_X7_fails l D w y _ (0 : Int32) ms mst smn msl mhs mtx mle mat mwl mrd mrm mtp mbt mtm mtn mnt mnb mun mum mau (1 : Int32) r19 th20 g21) (cwV 1 hts gX7_roundTo_X7_fails rfl rfl rfl hd_X7_fails ⟨Nat.le_of_ble_eq_true rfl, Nat.le_of_ble_eq_true rfl⟩) hK hP hD hS hA [0, 1, 2, 3, 4, 5, 6, 7, 8] [] [0, 1, 2, 3, 4, 5, 6, 7, 8] rfl rfl rfl (by decide) rfl rfl rfl 0 (ci := 5) rfl rfl rfl hl.1 rfl (Nat.le_of_ble_eq_true rfl) dX7_roundTo_14 ⟨Nat.le_of_ble_eq_true rfl, Nat.le_of_ble_eq_true rfl⟩ (fun H locs hP hD hS => ?_)
    cases h
    exact hE _ _ _ _ dX7_roundTo_17 hP hD hS
abbrev rm_X7_numeratorOf : Room := { frames := 2, cells := 0, slots := 0, locals := 42 }
theorem hd_X7_numeratorOf : yX7_numeratorOf.cls = RX7 ∧ yX7_numeratorOf.cls ≠ "java/lang/invoke/MethodHandle" ∧ yX7_numeratorOf.cls ≠ "java/lang/invoke/VarHandle" ∧ (parseMethodDescriptor yX7_numeratorOf.desc).map (fun d => d.parameters.length) = some 1 := by decide +kernel
set_option maxHeartbeats 0 in
set_option maxRecDepth 100000 in
theorem c_X7_numeratorOf (l : Launch) (D : va_G) (w : Nat → Nat) (y : Nat → ClassId) (sz : Nat) (th : Int32) (ms : Nat → Int32) (mst : Nat → Int32) (smn : Int32) (msl : Nat → Int32) (mhs : Nat → Int32) (mtx : Nat → Int32) (mle : Int32) (mat : Int32) (mwl : Int32) (mrd : Nat → Int32) (mrm : Int32) (mtp : Int64) (mbt : Int64) (mtm : Nat → Int32) (mtn : Int32) (mnt : Int32) (mnb : Int32) (mun : Nat → Int32) (mum : Int32) (mau : Int32) (a1 : Int32) (r : Int32) (th' : Int32) (h : F_X7_numeratorOf th ms a1 = some (r, th')) : Met l yX7_numeratorOf wsX7_numeratorOf rm_X7_numeratorOf (va_Pc [.ref (w 0), .int a1] (px D y sz (MW w y th ms mst smn msl mhs mtx mle mat mwl mrd mrm mtp mbt mtm mtn mnt mnb mun mum mau))) (Qri D y sz (MW w y th ms mst smn msl mhs mtx mle mat mwl mrd mrm mtp mbt mtm mtn mnt mnb mun mum mau) (MW w y th' ms mst smn msl mhs mtx mle mat mwl mrd mrm mtp mbt mtm mtn mnt mnb mun mum mau) r) 0 0 (va_A (MW w y th ms mst smn msl mhs mtx mle mat mwl mrd mrm mtp mbt mtm mtn mnt mnb mun mum mau) sz) := by
  refine hd_i (cc := cX7_numeratorOf) (maxL := 2) rfl rfl (Nat.le_of_ble_eq_true rfl) ?_
  intro p e s m args below meth c A Q H locs ls hx hb hml hts hown _ hA hP hD hK hS hl hE
  have hl : lv_has ls 2 [(0, .ref (w 0)), (1, .int a1)] := hl
  have q0 := hts (.fieldLink RX7 35 "SliceSharesModel" "thrown" "I") (by decide +kernel)
  have hinRX7 : ∀ w ∈ wsX70, w ∈ wsX7_numeratorOf := by decide +kernel
  unfold F_X7_numeratorOf at h
  refine lv_aload_n hx hb dX7_numeratorOf_0 rfl (lv_at hl 0 rfl) ?_
  refine lv_iconst (v := (0 : Int32)) hx hb dX7_numeratorOf_1 (by decide) ?_
  refine va_put (D := D) (ci := 5) (v := .int (0 : Int32)) (ty := .int) (C := RX7) (T := TX7) (N := 21) hx hb hts hinRX7 tyX7 tyX7_ok nmX7 hown hK hP hD hS 0 rfl rfl 0 (by decide) q0 (fun _ h9 => h9) rfl (by decide +kernel) rfl rfl (Nat.le_of_ble_eq_true rfl) dX7_numeratorOf_2 (fun H locs hP hD hS => ?_)
  have hP : va_P D vwCl (MW w y (0 : Int32) ms mst smn msl mhs mtx mle mat mwl mrd mrm mtp mbt mtm mtn mnt mnb mun mum mau) H := hP
  have hD : va_D A (MW w y (0 : Int32) ms mst smn msl mhs mtx mle mat mwl mrd mrm mtp mbt mtm mtn mnt mnb mun mum mau) := hD
  refine lv_iload_n hx hb dX7_numeratorOf_5 rfl (lv_at hl 1 rfl) ?_
  refine cT_i (As := [.int a1]) (rest := []) ⟨hx, hb, hml, hown, hts⟩ (c_X7_isPlate l D y _ a1) (va_cwS 1 hts gX7_numeratorOf_X7_isPlate rfl rfl rfl hd_X7_isPlate ⟨Nat.le_of_ble_eq_true rfl, Nat.le_of_ble_eq_true rfl⟩) hK hP hD hS hA rfl hl.1 rfl (Nat.le_of_ble_eq_true rfl) dX7_numeratorOf_6 ⟨Nat.le_of_ble_eq_true rfl, Nat.le_of_ble_eq_true rfl⟩ (fun H locs hP hD hS => ?_)
  refine lv_if_eq (tgt := 20) hx hb dX7_numeratorOf_9 (by decide) (fun c1 => ?_) (fun c1 => ?_)
  · replace h := fT c1 h
    refine lv_aload_n hx hb dX7_numeratorOf_20 rfl (lv_at hl 0 rfl) ?_
    refine lv_iconst (v := (1 : Int32)) hx hb dX7_numeratorOf_21 (by decide) ?_
    obtain ⟨r2, th3, g4, h⟩ := fB2 h
    refine cV_i (As := [.int (1 : Int32)]) (rest := []) (ws1 := (MW w y th3 ms mst smn msl mhs mtx mle mat mwl mrd mrm mtp mbt mtm mtn mnt mnb mun mum mau)) ⟨hx, hb, hml, hown, hts⟩ (c_X7_fails l D w y _ (0 : Int32) ms mst smn msl mhs mtx mle mat mwl mrd mrm mtp mbt mtm mtn mnt mnb mun mum mau (1 : Int32) r2 th3 g4) (cwV 1 hts gX7_numeratorOf_X7_fails rfl rfl rfl hd_X7_fails ⟨Nat.le_of_ble_eq_true rfl, Nat.le_of_ble_eq_true rfl⟩) hK hP hD hS hA [0, 1, 2, 3, 4, 5, 6, 7, 8] [] [0, 1, 2, 3, 4, 5, 6, 7, 8] rfl rfl rfl (by decide) rfl rfl rfl 0 (ci := 5) rfl rfl rfl hl.1 rfl (Nat.le_of_ble_eq_true rfl) dX7_numeratorOf_22 ⟨Nat.le_of_ble_eq_true rfl, Nat.le_of_ble_eq_true rfl⟩ (fun H locs hP hD hS => ?_)
    cases h
    exact hE _ _ _ _ dX7_numeratorOf_25 hP hD hS
  · replace h := fF c1 h
    refine lv_aload_n hx hb dX7_numeratorOf_12 rfl (lv_at hl 0 rfl) ?_
    refine lv_iload_n hx hb dX7_numeratorOf_13 rfl (lv_at hl 1 rfl) ?_
    obtain ⟨r5, g6, h⟩ := fB1 h
    refine cV_i (As := [.int a1]) (rest := []) (ws1 := (MW w y (0 : Int32) ms mst smn msl mhs mtx mle mat mwl mrd mrm mtp mbt mtm mtn mnt mnb mun mum mau)) ⟨hx, hb, hml, hown, hts⟩ (c_X7_above l D w y _ (0 : Int32) ms mst smn msl mhs mtx mle mat mwl mrd mrm mtp mbt mtm mtn mnt mnb mun mum mau a1 r5 g6) (cwV 1 hts gX7_numeratorOf_X7_above rfl rfl rfl hd_X7_above ⟨Nat.le_of_ble_eq_true rfl, Nat.le_of_ble_eq_true rfl⟩) hK hP hD hS hA [0, 1, 2, 3, 4, 5, 6, 7, 8] [] [0, 1, 2, 3, 4, 5, 6, 7, 8] rfl rfl rfl (by decide) rfl rfl rfl 0 (ci := 5) rfl rfl rfl hl.1 rfl (Nat.le_of_ble_eq_true rfl) dX7_numeratorOf_14 ⟨Nat.le_of_ble_eq_true rfl, Nat.le_of_ble_eq_true rfl⟩ (fun H locs hP hD hS => ?_)
    refine lv_goto (tgt := 25) hx hb dX7_numeratorOf_17 (by decide) ?_
    cases h
    exact hE _ _ _ _ dX7_numeratorOf_25 hP hD hS
abbrev rm_X7_denominatorOf : Room := { frames := 2, cells := 0, slots := 0, locals := 42 }
theorem hd_X7_denominatorOf : yX7_denominatorOf.cls = RX7 ∧ yX7_denominatorOf.cls ≠ "java/lang/invoke/MethodHandle" ∧ yX7_denominatorOf.cls ≠ "java/lang/invoke/VarHandle" ∧ (parseMethodDescriptor yX7_denominatorOf.desc).map (fun d => d.parameters.length) = some 1 := by decide +kernel
set_option maxHeartbeats 0 in
set_option maxRecDepth 100000 in
theorem c_X7_denominatorOf (l : Launch) (D : va_G) (w : Nat → Nat) (y : Nat → ClassId) (sz : Nat) (th : Int32) (ms : Nat → Int32) (mst : Nat → Int32) (smn : Int32) (msl : Nat → Int32) (mhs : Nat → Int32) (mtx : Nat → Int32) (mle : Int32) (mat : Int32) (mwl : Int32) (mrd : Nat → Int32) (mrm : Int32) (mtp : Int64) (mbt : Int64) (mtm : Nat → Int32) (mtn : Int32) (mnt : Int32) (mnb : Int32) (mun : Nat → Int32) (mum : Int32) (mau : Int32) (a1 : Int32) (r : Int32) (th' : Int32) (h : F_X7_denominatorOf th ms a1 = some (r, th')) : Met l yX7_denominatorOf wsX7_denominatorOf rm_X7_denominatorOf (va_Pc [.ref (w 0), .int a1] (px D y sz (MW w y th ms mst smn msl mhs mtx mle mat mwl mrd mrm mtp mbt mtm mtn mnt mnb mun mum mau))) (Qri D y sz (MW w y th ms mst smn msl mhs mtx mle mat mwl mrd mrm mtp mbt mtm mtn mnt mnb mun mum mau) (MW w y th' ms mst smn msl mhs mtx mle mat mwl mrd mrm mtp mbt mtm mtn mnt mnb mun mum mau) r) 0 0 (va_A (MW w y th ms mst smn msl mhs mtx mle mat mwl mrd mrm mtp mbt mtm mtn mnt mnb mun mum mau) sz) := by
  refine hd_i (cc := cX7_denominatorOf) (maxL := 2) rfl rfl (Nat.le_of_ble_eq_true rfl) ?_
  intro p e s m args below meth c A Q H locs ls hx hb hml hts hown _ hA hP hD hK hS hl hE
  have hl : lv_has ls 2 [(0, .ref (w 0)), (1, .int a1)] := hl
  have q0 := hts (.fieldLink RX7 35 "SliceSharesModel" "thrown" "I") (by decide +kernel)
  have hinRX7 : ∀ w ∈ wsX70, w ∈ wsX7_denominatorOf := by decide +kernel
  unfold F_X7_denominatorOf at h
  refine lv_aload_n hx hb dX7_denominatorOf_0 rfl (lv_at hl 0 rfl) ?_
  refine lv_iconst (v := (0 : Int32)) hx hb dX7_denominatorOf_1 (by decide) ?_
  refine va_put (D := D) (ci := 5) (v := .int (0 : Int32)) (ty := .int) (C := RX7) (T := TX7) (N := 21) hx hb hts hinRX7 tyX7 tyX7_ok nmX7 hown hK hP hD hS 0 rfl rfl 0 (by decide) q0 (fun _ h9 => h9) rfl (by decide +kernel) rfl rfl (Nat.le_of_ble_eq_true rfl) dX7_denominatorOf_2 (fun H locs hP hD hS => ?_)
  have hP : va_P D vwCl (MW w y (0 : Int32) ms mst smn msl mhs mtx mle mat mwl mrd mrm mtp mbt mtm mtn mnt mnb mun mum mau) H := hP
  have hD : va_D A (MW w y (0 : Int32) ms mst smn msl mhs mtx mle mat mwl mrd mrm mtp mbt mtm mtn mnt mnb mun mum mau) := hD
  refine lv_iload_n hx hb dX7_denominatorOf_5 rfl (lv_at hl 1 rfl) ?_
  refine cT_i (As := [.int a1]) (rest := []) ⟨hx, hb, hml, hown, hts⟩ (c_X7_isPlate l D y _ a1) (va_cwS 1 hts gX7_denominatorOf_X7_isPlate rfl rfl rfl hd_X7_isPlate ⟨Nat.le_of_ble_eq_true rfl, Nat.le_of_ble_eq_true rfl⟩) hK hP hD hS hA rfl hl.1 rfl (Nat.le_of_ble_eq_true rfl) dX7_denominatorOf_6 ⟨Nat.le_of_ble_eq_true rfl, Nat.le_of_ble_eq_true rfl⟩ (fun H locs hP hD hS => ?_)
  refine lv_if_eq (tgt := 20) hx hb dX7_denominatorOf_9 (by decide) (fun c1 => ?_) (fun c1 => ?_)
  · replace h := fT c1 h
    refine lv_aload_n hx hb dX7_denominatorOf_20 rfl (lv_at hl 0 rfl) ?_
    refine lv_iconst (v := (1 : Int32)) hx hb dX7_denominatorOf_21 (by decide) ?_
    obtain ⟨r2, th3, g4, h⟩ := fB2 h
    refine cV_i (As := [.int (1 : Int32)]) (rest := []) (ws1 := (MW w y th3 ms mst smn msl mhs mtx mle mat mwl mrd mrm mtp mbt mtm mtn mnt mnb mun mum mau)) ⟨hx, hb, hml, hown, hts⟩ (c_X7_fails l D w y _ (0 : Int32) ms mst smn msl mhs mtx mle mat mwl mrd mrm mtp mbt mtm mtn mnt mnb mun mum mau (1 : Int32) r2 th3 g4) (cwV 1 hts gX7_denominatorOf_X7_fails rfl rfl rfl hd_X7_fails ⟨Nat.le_of_ble_eq_true rfl, Nat.le_of_ble_eq_true rfl⟩) hK hP hD hS hA [0, 1, 2, 3, 4, 5, 6, 7, 8] [] [0, 1, 2, 3, 4, 5, 6, 7, 8] rfl rfl rfl (by decide) rfl rfl rfl 0 (ci := 5) rfl rfl rfl hl.1 rfl (Nat.le_of_ble_eq_true rfl) dX7_denominatorOf_22 ⟨Nat.le_of_ble_eq_true rfl, Nat.le_of_ble_eq_true rfl⟩ (fun H locs hP hD hS => ?_)
    cases h
    exact hE _ _ _ _ dX7_denominatorOf_25 hP hD hS
  · replace h := fF c1 h
    refine lv_aload_n hx hb dX7_denominatorOf_12 rfl (lv_at hl 0 rfl) ?_
    refine lv_iload_n hx hb dX7_denominatorOf_13 rfl (lv_at hl 1 rfl) ?_
    obtain ⟨r5, g6, h⟩ := fB1 h
    refine cV_i (As := [.int a1]) (rest := []) (ws1 := (MW w y (0 : Int32) ms mst smn msl mhs mtx mle mat mwl mrd mrm mtp mbt mtm mtn mnt mnb mun mum mau)) ⟨hx, hb, hml, hown, hts⟩ (c_X7_below l D w y _ (0 : Int32) ms mst smn msl mhs mtx mle mat mwl mrd mrm mtp mbt mtm mtn mnt mnb mun mum mau a1 r5 g6) (cwV 1 hts gX7_denominatorOf_X7_below rfl rfl rfl hd_X7_below ⟨Nat.le_of_ble_eq_true rfl, Nat.le_of_ble_eq_true rfl⟩) hK hP hD hS hA [0, 1, 2, 3, 4, 5, 6, 7, 8] [] [0, 1, 2, 3, 4, 5, 6, 7, 8] rfl rfl rfl (by decide) rfl rfl rfl 0 (ci := 5) rfl rfl rfl hl.1 rfl (Nat.le_of_ble_eq_true rfl) dX7_denominatorOf_14 ⟨Nat.le_of_ble_eq_true rfl, Nat.le_of_ble_eq_true rfl⟩ (fun H locs hP hD hS => ?_)
    refine lv_goto (tgt := 25) hx hb dX7_denominatorOf_17 (by decide) ?_
    cases h
    exact hE _ _ _ _ dX7_denominatorOf_25 hP hD hS
