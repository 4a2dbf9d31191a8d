abbrev rm_X7_turns : Room := { frames := 2, cells := 0, slots := 0, locals := 45 }
theorem hd_X7_turns : yX7_turns.cls = RX7 ∧ yX7_turns.cls ≠ "java/lang/invoke/MethodHandle" ∧ yX7_turns.cls ≠ "java/lang/invoke/VarHandle" ∧ (parseMethodDescriptor yX7_turns.desc).map (fun d => d.parameters.length) = some 1 := by decide +kernel
set_option maxHeartbeats 0 in
set_option maxRecDepth 100000 in
theorem c_X7_turns (l : Launch) (D : va_G) (w : Nat → Nat) (y : Nat → ClassId) (sz : Nat) (th : Int32) (ms : Nat → Int32) (mst : Nat → Int32) (smn : Int32) (msl : Nat → Int32) (mhs : Nat → Int32) (mtx : Nat → Int32) (mle : Int32) (mat : Int32) (mwl : Int32) (mrd : Nat → Int32) (mrm : Int32) (mtp : Int64) (mbt : Int64) (mtm : Nat → Int32) (mtn : Int32) (mnt : Int32) (mnb : Int32) (mun : Nat → Int32) (mum : Int32) (mau : Int32) (a1 : Int32) (r : Int32) (mtm' : Nat → Int32) (mtn' : Int32) (h : F_X7_turns ms mtm mtn a1 = some (r, mtm', mtn')) : Met l yX7_turns wsX7_turns rm_X7_turns (va_Pc [.ref (w 0), .int a1] (px D y sz (MW w y th ms mst smn msl mhs mtx mle mat mwl mrd mrm mtp mbt mtm mtn mnt mnb mun mum mau))) (Qri D y sz (MW w y th ms mst smn msl mhs mtx mle mat mwl mrd mrm mtp mbt mtm mtn mnt mnb mun mum mau) (MW w y th ms mst smn msl mhs mtx mle mat mwl mrd mrm mtp mbt mtm' mtn' mnt mnb mun mum mau) r) 0 0 (va_A (MW w y th ms mst smn msl mhs mtx mle mat mwl mrd mrm mtp mbt mtm mtn mnt mnb mun mum mau) sz) := by
  refine hd_i (cc := cX7_turns) (maxL := 4) rfl rfl (Nat.le_of_ble_eq_true rfl) ?_
  intro p e s m args below meth c A Q H locs ls hx hb hml hts hown _ hA hP hD hK hS hl hE
  have hl : lv_has ls 4 [(0, .ref (w 0)), (1, .int a1)] := hl
  have q0 := hts (.fieldLink RX7 74 "SliceSharesModel" "termMany" "I") (by decide +kernel)
  have q1 := hts (.fieldLink RX7 29 "SliceSharesModel" "term" "[I") (by decide +kernel)
  have hinRX7 : ∀ w ∈ wsX70, w ∈ wsX7_turns := by decide +kernel
  unfold F_X7_turns at h
  refine lv_aload_n hx hb dX7_turns_0 rfl (lv_at hl 0 rfl) ?_
  refine lv_iload_n hx hb dX7_turns_1 rfl (lv_at hl 1 rfl) ?_
  obtain ⟨mtm1, mtn2, g3, h⟩ := fB2 h
  refine cV_v (As := [.int a1]) (rest := []) (ws1 := (MW w y th ms mst smn msl mhs mtx mle mat mwl mrd mrm mtp mbt mtm1 mtn2 mnt mnb mun mum mau)) ⟨hx, hb, hml, hown, hts⟩ (c_X7_tellsTerms l D w y _ th ms mst smn msl mhs mtx mle mat mwl mrd mrm mtp mbt mtm mtn mnt mnb mun mum mau a1 mtm1 mtn2 g3) (cwV 1 hts gX7_turns_X7_tellsTerms rfl rfl rfl hd_X7_tellsTerms ⟨Nat.le_of_ble_eq_true rfl, Nat.le_of_ble_eq_true rfl⟩) hK hP hD hS hA [0, 1, 2, 3, 4, 5, 6, 7, 8] [] [0, 1, 2, 3, 4, 5, 6, 7, 8] rfl rfl rfl (by decide) rfl rfl rfl 0 (ci := 5) rfl rfl rfl hl.1 rfl (Nat.le_of_ble_eq_true rfl) dX7_turns_2 ⟨Nat.le_of_ble_eq_true rfl, Nat.le_of_ble_eq_true rfl⟩ (fun H locs hP hD hS => ?_)
  refine lv_iconst (v := (0 : Int32)) hx hb dX7_turns_5 (by decide) ?_
  refine lv_istore_n (lv' := [(2, .int (0 : Int32)), (0, .ref (w 0)), (1, .int a1)]) hx hb dX7_turns_6 rfl hl (by decide) rfl (fun ls hl => ?_)
  refine lv_iconst (v := (0 : Int32)) hx hb dX7_turns_7 (by decide) ?_
  refine lv_istore_n (lv' := [(3, .int (0 : Int32)), (2, .int (0 : Int32)), (0, .ref (w 0)), (1, .int a1)]) hx hb dX7_turns_8 rfl hl (by decide) rfl (fun ls hl => ?_)
  obtain ⟨v6, g7, h⟩ := fB1 h
  have J8 : ∀ (H : Heap) (locs : List Loc) (ls : Array Slot), va_P D vwCl (MW w y th ms mst smn msl mhs mtx mle mat mwl mrd mrm mtp mbt mtm1 mtn2 mnt mnb mun mum mau) H → va_D A (MW w y th ms mst smn msl mhs mtx mle mat mwl mrd mrm mtp mbt mtm1 mtn2 mnt mnb mun mum mau) → va_S A s.heap H locs → lv_has ls 4 [(2, .int v6)] → W p l e rm_X7_turns s m args below meth c H locs 0 0 Q (F0 m 55 ls []) := by
    intro H locs ls hP hD hS hl
    refine lv_iload_n hx hb dX7_turns_55 rfl (lv_at hl 0 rfl) ?_
    have J9 : ∀ (v10 : Int32) (ls : Array Slot), v10 = (if v6 ≤ (0 : Int32) then (0 : Int32) else (v6 - (1 : Int32))) → lv_has ls 4 [(2, .int v6)] → W p l e rm_X7_turns s m args below meth c H locs 0 0 Q (F0 m 66 ls [.int v10]) := by
      intro v10 ls ev10 hl
      subst ev10
      cases h
      exact hE _ _ _ _ dX7_turns_66 hP hD hS
    refine lv_if_le (tgt := 65) hx hb dX7_turns_56 (by decide) (fun c11 => ?_) (fun c11 => ?_)
    · refine lv_iconst (v := (0 : Int32)) hx hb dX7_turns_65 (by decide) ?_
      exact J9 _ _ (by rw [if_pos c11]) (lv_sub hl [0] rfl)
    · refine lv_iload_n hx hb dX7_turns_59 rfl (lv_at hl 0 rfl) ?_
      refine lv_iconst (v := (1 : Int32)) hx hb dX7_turns_60 (by decide) ?_
      refine lv_isub hx hb dX7_turns_61 ?_
      refine lv_goto (tgt := 66) hx hb dX7_turns_62 (by decide) ?_
      exact J9 _ _ (by rw [if_neg c11]) (lv_sub hl [0] rfl)
  have LP12 : ∀ (n : Nat) (x4 : Int32) (x5 : Int32) (H : Heap) (locs : List Loc) (ls : Array Slot), L_X7_turns_9 n x4 x5 mtm1 mtn2 = some v6 → va_P D vwCl (MW w y th ms mst smn msl mhs mtx mle mat mwl mrd mrm mtp mbt mtm1 mtn2 mnt mnb mun mum mau) H → va_D A (MW w y th ms mst smn msl mhs mtx mle mat mwl mrd mrm mtp mbt mtm1 mtn2 mnt mnb mun mum mau) → va_S A s.heap H locs → lv_has ls 4 [(0, .ref (w 0)), (2, .int x4), (3, .int x5)] → W p l e rm_X7_turns s m args below meth c H locs 0 0 Q (F0 m 9 ls []) := by
    intro n
    induction n with
    | zero => intro x4 x5 H locs ls h hP hD hS hl; exact fN h
    | succ n ih =>
      intro x4 x5 H locs ls h hP hD hS hl
      replace h := (L_X7_turns_9_s n x4 x5 mtm1 mtn2).symm.trans h
      refine lv_iload_n hx hb dX7_turns_9 rfl (lv_at hl 2 rfl) ?_
      refine lv_aload_n hx hb dX7_turns_10 rfl (lv_at hl 0 rfl) ?_
      refine va_get (D := D) (ci := 5) (C := RX7) (T := TX7) (N := 21) hx hb hts hinRX7 hown hK hP 0 rfl rfl 15 (by decide) q0 (fun _ h9 => h9) rfl dX7_turns_11 ?_
      refine lv_icmp_ge (tgt := 55) hx hb dX7_turns_14 (by decide) (fun c13 => ?_) (fun c13 => ?_)
      · replace h := fT c13 h
        cases h
        exact J8 _ _ _ hP hD hS (lv_sub hl [1] rfl)
      · replace h := fF c13 h
        refine lv_iload_n hx hb dX7_turns_17 rfl (lv_at hl 1 rfl) ?_
        refine lv_aload_n hx hb dX7_turns_18 rfl (lv_at hl 0 rfl) ?_
        refine va_get (D := D) (ci := 5) (C := RX7) (T := TX7) (N := 21) hx hb hts hinRX7 hown hK hP 0 rfl rfl 14 (by decide) q1 (fun _ h9 => h9) rfl dX7_turns_19 ?_
        refine lv_iload_n hx hb dX7_turns_22 rfl (lv_at hl 2 rfl) ?_
        obtain ⟨g14, h⟩ := fG h
        refine va_iald hx hb hK hP 7 0 rfl rfl g14 dX7_turns_23 ?_
        refine lv_iload_n hx hb dX7_turns_24 rfl (lv_at hl 2 rfl) ?_
        refine lv_aload_n hx hb dX7_turns_25 rfl (lv_at hl 0 rfl) ?_
        refine va_get (D := D) (ci := 5) (C := RX7) (T := TX7) (N := 21) hx hb hts hinRX7 hown hK hP 0 rfl rfl 15 (by decide) q0 (fun _ h9 => h9) rfl dX7_turns_26 ?_
        refine lv_iconst (v := (1 : Int32)) hx hb dX7_turns_29 (by decide) ?_
        refine lv_isub hx hb dX7_turns_30 ?_
        have J15 : ∀ (v16 : Int32) (ls : Array Slot), v16 = (if x5 = (mtn2 - (1 : Int32)) then (1 : Int32) else (0 : Int32)) → lv_has ls 4 [(0, .ref (w 0)), (2, .int x4), (3, .int x5)] → W p l e rm_X7_turns s m args below meth c H locs 0 0 Q (F0 m 39 ls [.int v16, .int (mtm1 x5.toNatClampNeg), .int x4]) := by
          intro v16 ls ev16 hl
          subst ev16
          have J17 : ∀ (v18 : Int32) (ls : Array Slot), v18 = (if (mtm1 x5.toNatClampNeg) ≤ (if x5 = (mtn2 - (1 : Int32)) then (1 : Int32) else (0 : Int32)) then (0 : Int32) else (1 : Int32)) → lv_has ls 4 [(0, .ref (w 0)), (2, .int x4), (3, .int x5)] → W p l e rm_X7_turns s m args below meth c H locs 0 0 Q (F0 m 47 ls [.int v18, .int x4]) := by
            intro v18 ls ev18 hl
            subst ev18
            refine lv_iadd hx hb dX7_turns_47 ?_
            refine lv_istore_n (lv' := [(2, .int (x4 + (if (mtm1 x5.toNatClampNeg) ≤ (if x5 = (mtn2 - (1 : Int32)) then (1 : Int32) else (0 : Int32)) then (0 : Int32) else (1 : Int32)))), (0, .ref (w 0)), (3, .int x5)]) hx hb dX7_turns_48 rfl hl (by decide) rfl (fun ls hl => ?_)
            refine lv_iinc (v := x5 + (1 : Int32)) (lv' := [(3, .int (x5 + (1 : Int32))), (2, .int (x4 + (if (mtm1 x5.toNatClampNeg) ≤ (if x5 = (mtn2 - (1 : Int32)) then (1 : Int32) else (0 : Int32)) then (0 : Int32) else (1 : Int32)))), (0, .ref (w 0))]) hx hb dX7_turns_49 hl (k := 2) rfl rfl (by decide) rfl (fun ls hl => ?_)
            refine lv_goto (tgt := 9) hx hb dX7_turns_52 (by decide) ?_
            exact ih (x4 + (if (mtm1 x5.toNatClampNeg) ≤ (if x5 = (mtn2 - (1 : Int32)) then (1 : Int32) else (0 : Int32)) then (0 : Int32) else (1 : Int32))) (x5 + (1 : Int32)) _ _ _ h hP hD hS (lv_sub hl [2, 1, 0] rfl)
          refine lv_icmp_le (tgt := 46) hx hb dX7_turns_39 (by decide) (fun c19 => ?_) (fun c19 => ?_)
          · refine lv_iconst (v := (0 : Int32)) hx hb dX7_turns_46 (by decide) ?_
            exact J17 _ _ (by rw [if_pos c19]) (lv_sub hl [0, 1, 2] rfl)
          · refine lv_iconst (v := (1 : Int32)) hx hb dX7_turns_42 (by decide) ?_
            refine lv_goto (tgt := 47) hx hb dX7_turns_43 (by decide) ?_
            exact J17 _ _ (by rw [if_neg c19]) (lv_sub hl [0, 1, 2] rfl)
        refine lv_icmp_ne (tgt := 38) hx hb dX7_turns_31 (by decide) (fun c20 => ?_) (fun c20 => ?_)
        · refine lv_iconst (v := (0 : Int32)) hx hb dX7_turns_38 (by decide) ?_
          exact J15 _ _ (by rw [if_neg c20]) (lv_sub hl [0, 1, 2] rfl)
        · refine lv_iconst (v := (1 : Int32)) hx hb dX7_turns_34 (by decide) ?_
          refine lv_goto (tgt := 39) hx hb dX7_turns_35 (by decide) ?_
          exact J15 _ _ (by rw [if_pos c20]) (lv_sub hl [0, 1, 2] rfl)
  exact LP12 FU (0 : Int32) (0 : Int32) _ _ _ g7 hP hD hS (lv_sub hl [2, 1, 0] rfl)
abbrev rm_X7_wayTurns : Room := { frames := 3, cells := 0, slots := 0, locals := 68 }
theorem hd_X7_wayTurns : yX7_wayTurns.cls = RX7 ∧ yX7_wayTurns.cls ≠ "java/lang/invoke/MethodHandle" ∧ yX7_wayTurns.cls ≠ "java/lang/invoke/VarHandle" ∧ (parseMethodDescriptor yX7_wayTurns.desc).map (fun d => d.parameters.length) = some 1 := by decide +kernel
set_option maxHeartbeats 0 in
set_option maxRecDepth 100000 in
theorem c_X7_wayTurns (l : Launch) (D : va_G) (w : Nat → Nat) (y : Nat → ClassId) (sz : Nat) (th : Int32) (ms : Nat → Int32) (mst : Nat → Int32) (smn : Int32) (msl : Nat → Int32) (mhs : Nat → Int32) (mtx : Nat → Int32) (mle : Int32) (mat : Int32) (mwl : Int32) (mrd : Nat → Int32) (mrm : Int32) (mtp : Int64) (mbt : Int64) (mtm : Nat → Int32) (mtn : Int32) (mnt : Int32) (mnb : Int32) (mun : Nat → Int32) (mum : Int32) (mau : Int32) (a1 : Int32) (r : Int32) (th' : Int32) (mtm' : Nat → Int32) (mtn' : Int32) (h : F_X7_wayTurns th ms mtm mtn a1 = some (r, th', mtm', mtn')) : Met l yX7_wayTurns wsX7_wayTurns rm_X7_wayTurns (va_Pc [.ref (w 0), .int a1] (px D y sz (MW w y th ms mst smn msl mhs mtx mle mat mwl mrd mrm mtp mbt mtm mtn mnt mnb mun mum mau))) (Qri D y sz (MW w y th ms mst smn msl mhs mtx mle mat mwl mrd mrm mtp mbt mtm mtn mnt mnb mun mum mau) (MW w y th' ms mst smn msl mhs mtx mle mat mwl mrd mrm mtp mbt mtm' mtn' mnt mnb mun mum mau) r) 0 0 (va_A (MW w y th ms mst smn msl mhs mtx mle mat mwl mrd mrm mtp mbt mtm mtn mnt mnb mun mum mau) sz) := by
  refine hd_i (cc := cX7_wayTurns) (maxL := 2) rfl rfl (Nat.le_of_ble_eq_true rfl) ?_
  intro p e s m args below meth c A Q H locs ls hx hb hml hts hown _ hA hP hD hK hS hl hE
  have hl : lv_has ls 2 [(0, .ref (w 0)), (1, .int a1)] := hl
  have q0 := hts (.fieldLink RX7 35 "SliceSharesModel" "thrown" "I") (by decide +kernel)
  have hinRX7 : ∀ w ∈ wsX70, w ∈ wsX7_wayTurns := by decide +kernel
  unfold F_X7_wayTurns at h
  refine lv_aload_n hx hb dX7_wayTurns_0 rfl (lv_at hl 0 rfl) ?_
  refine lv_iconst (v := (0 : Int32)) hx hb dX7_wayTurns_1 (by decide) ?_
  refine va_put (D := D) (ci := 5) (v := .int (0 : Int32)) (ty := .int) (C := RX7) (T := TX7) (N := 21) hx hb hts hinRX7 tyX7 tyX7_ok nmX7 hown hK hP hD hS 0 rfl rfl 0 (by decide) q0 (fun _ h9 => h9) rfl (by decide +kernel) rfl rfl (Nat.le_of_ble_eq_true rfl) dX7_wayTurns_2 (fun H locs hP hD hS => ?_)
  have hP : va_P D vwCl (MW w y (0 : Int32) ms mst smn msl mhs mtx mle mat mwl mrd mrm mtp mbt mtm mtn mnt mnb mun mum mau) H := hP
  have hD : va_D A (MW w y (0 : Int32) ms mst smn msl mhs mtx mle mat mwl mrd mrm mtp mbt mtm mtn mnt mnb mun mum mau) := hD
  refine lv_iload_n hx hb dX7_wayTurns_5 rfl (lv_at hl 1 rfl) ?_
  refine cT_i (As := [.int a1]) (rest := []) ⟨hx, hb, hml, hown, hts⟩ (c_X7_isPlate l D y _ a1) (va_cwS 1 hts gX7_wayTurns_X7_isPlate rfl rfl rfl hd_X7_isPlate ⟨Nat.le_of_ble_eq_true rfl, Nat.le_of_ble_eq_true rfl⟩) hK hP hD hS hA rfl hl.1 rfl (Nat.le_of_ble_eq_true rfl) dX7_wayTurns_6 ⟨Nat.le_of_ble_eq_true rfl, Nat.le_of_ble_eq_true rfl⟩ (fun H locs hP hD hS => ?_)
  refine lv_if_ne (tgt := 18) hx hb dX7_wayTurns_9 (by decide) (fun c1 => ?_) (fun c1 => ?_)
  · replace h := fF c1 h
    refine lv_aload_n hx hb dX7_wayTurns_18 rfl (lv_at hl 0 rfl) ?_
    refine lv_iload_n hx hb dX7_wayTurns_19 rfl (lv_at hl 1 rfl) ?_
    obtain ⟨r2, g3, h⟩ := fB1 h
    refine cV_i (As := [.int a1]) (rest := []) (ws1 := (MW w y (0 : Int32) ms mst smn msl mhs mtx mle mat mwl mrd mrm mtp mbt mtm mtn mnt mnb mun mum mau)) ⟨hx, hb, hml, hown, hts⟩ (c_X7_above l D w y _ (0 : Int32) ms mst smn msl mhs mtx mle mat mwl mrd mrm mtp mbt mtm mtn mnt mnb mun mum mau a1 r2 g3) (cwV 1 hts gX7_wayTurns_X7_above rfl rfl rfl hd_X7_above ⟨Nat.le_of_ble_eq_true rfl, Nat.le_of_ble_eq_true rfl⟩) hK hP hD hS hA [0, 1, 2, 3, 4, 5, 6, 7, 8] [] [0, 1, 2, 3, 4, 5, 6, 7, 8] rfl rfl rfl (by decide) rfl rfl rfl 0 (ci := 5) rfl rfl rfl hl.1 rfl (Nat.le_of_ble_eq_true rfl) dX7_wayTurns_20 ⟨Nat.le_of_ble_eq_true rfl, Nat.le_of_ble_eq_true rfl⟩ (fun H locs hP hD hS => ?_)
    refine lv_if_ne (tgt := 34) hx hb dX7_wayTurns_23 (by decide) (fun c4 => ?_) (fun c4 => ?_)
    · replace h := fF c4 h
      refine lv_aload_n hx hb dX7_wayTurns_34 rfl (lv_at hl 0 rfl) ?_
      refine lv_iload_n hx hb dX7_wayTurns_35 rfl (lv_at hl 1 rfl) ?_
      obtain ⟨r5, mtm6, mtn7, g8, h⟩ := fB3 h
      refine cV_i (As := [.int a1]) (rest := []) (ws1 := (MW w y (0 : Int32) ms mst smn msl mhs mtx mle mat mwl mrd mrm mtp mbt mtm6 mtn7 mnt mnb mun mum mau)) ⟨hx, hb, hml, hown, hts⟩ (c_X7_turns l D w y _ (0 : Int32) ms mst smn msl mhs mtx mle mat mwl mrd mrm mtp mbt mtm mtn mnt mnb mun mum mau a1 r5 mtm6 mtn7 g8) (cwV 1 hts gX7_wayTurns_X7_turns rfl rfl rfl hd_X7_turns ⟨Nat.le_of_ble_eq_true rfl, Nat.le_of_ble_eq_true rfl⟩) hK hP hD hS hA [0, 1, 2, 3, 4, 5, 6, 7, 8] [] [0, 1, 2, 3, 4, 5, 6, 7, 8] rfl rfl rfl (by decide) rfl rfl rfl 0 (ci := 5) rfl rfl rfl hl.1 rfl (Nat.le_of_ble_eq_true rfl) dX7_wayTurns_36 ⟨Nat.le_of_ble_eq_true rfl, Nat.le_of_ble_eq_true rfl⟩ (fun H locs hP hD hS => ?_)
      cases h
      exact hE _ _ _ _ dX7_wayTurns_39 hP hD hS
    · replace h := fT c4 h
      refine lv_aload_n hx hb dX7_wayTurns_26 rfl (lv_at hl 0 rfl) ?_
      refine lv_iconst (v := (2 : Int32)) hx hb dX7_wayTurns_27 (by decide) ?_
      obtain ⟨r9, th10, g11, h⟩ := fB2 h
      refine cV_i (As := [.int (2 : Int32)]) (rest := []) (ws1 := (MW w y th10 ms mst smn msl mhs mtx mle mat mwl mrd mrm mtp mbt mtm mtn mnt mnb mun mum mau)) ⟨hx, hb, hml, hown, hts⟩ (c_X7_fails l D w y _ (0 : Int32) ms mst smn msl mhs mtx mle mat mwl mrd mrm mtp mbt mtm mtn mnt mnb mun mum mau (2 : Int32) r9 th10 g11) (cwV 1 hts gX7_wayTurns_X7_fails rfl rfl rfl hd_X7_fails ⟨Nat.le_of_ble_eq_true rfl, Nat.le_of_ble_eq_true rfl⟩) hK hP hD hS hA [0, 1, 2, 3, 4, 5, 6, 7, 8] [] [0, 1, 2, 3, 4, 5, 6, 7, 8] rfl rfl rfl (by decide) rfl rfl rfl 0 (ci := 5) rfl rfl rfl hl.1 rfl (Nat.le_of_ble_eq_true rfl) dX7_wayTurns_28 ⟨Nat.le_of_ble_eq_true rfl, Nat.le_of_ble_eq_true rfl⟩ (fun H locs hP hD hS => ?_)
      refine lv_goto (tgt := 39) hx hb dX7_wayTurns_31 (by decide) ?_
      cases h
      exact hE _ _ _ _ dX7_wayTurns_39 hP hD hS
  · replace h := fT c1 h
    refine lv_aload_n hx hb dX7_wayTurns_12 rfl (lv_at hl 0 rfl) ?_
    refine lv_iconst (v := (1 : Int32)) hx hb dX7_wayTurns_13 (by decide) ?_
    obtain ⟨r12, th13, g14, h⟩ := fB2 h
    refine cV_i (As := [.int (1 : Int32)]) (rest := []) (ws1 := (MW w y th13 ms mst smn msl mhs mtx mle mat mwl mrd mrm mtp mbt mtm mtn mnt mnb mun mum mau)) ⟨hx, hb, hml, hown, hts⟩ (c_X7_fails l D w y _ (0 : Int32) ms mst smn msl mhs mtx mle mat mwl mrd mrm mtp mbt mtm mtn mnt mnb mun mum mau (1 : Int32) r12 th13 g14) (cwV 1 hts gX7_wayTurns_X7_fails rfl rfl rfl hd_X7_fails ⟨Nat.le_of_ble_eq_true rfl, Nat.le_of_ble_eq_true rfl⟩) hK hP hD hS hA [0, 1, 2, 3, 4, 5, 6, 7, 8] [] [0, 1, 2, 3, 4, 5, 6, 7, 8] rfl rfl rfl (by decide) rfl rfl rfl 0 (ci := 5) rfl rfl rfl hl.1 rfl (Nat.le_of_ble_eq_true rfl) dX7_wayTurns_14 ⟨Nat.le_of_ble_eq_true rfl, Nat.le_of_ble_eq_true rfl⟩ (fun H locs hP hD hS => ?_)
    cases h
    exact hE _ _ _ _ dX7_wayTurns_17 hP hD hS
abbrev rm_X7_beginsRight : Room := { frames := 2, cells := 0, slots := 0, locals := 42 }
theorem hd_X7_beginsRight : yX7_beginsRight.cls = RX7 ∧ yX7_beginsRight.cls ≠ "java/lang/invoke/MethodHandle" ∧ yX7_beginsRight.cls ≠ "java/lang/invoke/VarHandle" ∧ (parseMethodDescriptor yX7_beginsRight.desc).map (fun d => d.parameters.length) = some 1 := by decide +kernel
set_option maxHeartbeats 0 in
set_option maxRecDepth 100000 in
theorem c_X7_beginsRight (l : Launch) (D : va_G) (w : Nat → Nat) (y : Nat → ClassId) (sz : Nat) (th : Int32) (ms : Nat → Int32) (mst : Nat → Int32) (smn : Int32) (msl : Nat → Int32) (mhs : Nat → Int32) (mtx : Nat → Int32) (mle : Int32) (mat : Int32) (mwl : Int32) (mrd : Nat → Int32) (mrm : Int32) (mtp : Int64) (mbt : Int64) (mtm : Nat → Int32) (mtn : Int32) (mnt : Int32) (mnb : Int32) (mun : Nat → Int32) (mum : Int32) (mau : Int32) (a1 : Int32) (r : Int32) (th' : Int32) (h : F_X7_beginsRight th ms a1 = some (r, th')) : Met l yX7_beginsRight wsX7_beginsRight rm_X7_beginsRight (va_Pc [.ref (w 0), .int a1] (px D y sz (MW w y th ms mst smn msl mhs mtx mle mat mwl mrd mrm mtp mbt mtm mtn mnt mnb mun mum mau))) (Qri D y sz (MW w y th ms mst smn msl mhs mtx mle mat mwl mrd mrm mtp mbt mtm mtn mnt mnb mun mum mau) (MW w y th' ms mst smn msl mhs mtx mle mat mwl mrd mrm mtp mbt mtm mtn mnt mnb mun mum mau) r) 0 0 (va_A (MW w y th ms mst smn msl mhs mtx mle mat mwl mrd mrm mtp mbt mtm mtn mnt mnb mun mum mau) sz) := by
  refine hd_z (cc := cX7_beginsRight) (maxL := 2) (rt := .boolean) rfl rfl (Nat.le_of_ble_eq_true rfl) ?_
  intro p e s m args below meth c A Q H locs ls hx hb hml hts hown _ hA hP hD hK hS hl hE
  have hl : lv_has ls 2 [(0, .ref (w 0)), (1, .int a1)] := hl
  have q0 := hts (.fieldLink RX7 35 "SliceSharesModel" "thrown" "I") (by decide +kernel)
  have hinRX7 : ∀ w ∈ wsX70, w ∈ wsX7_beginsRight := by decide +kernel
  unfold F_X7_beginsRight at h
  refine lv_aload_n hx hb dX7_beginsRight_0 rfl (lv_at hl 0 rfl) ?_
  refine lv_iconst (v := (0 : Int32)) hx hb dX7_beginsRight_1 (by decide) ?_
  refine va_put (D := D) (ci := 5) (v := .int (0 : Int32)) (ty := .int) (C := RX7) (T := TX7) (N := 21) hx hb hts hinRX7 tyX7 tyX7_ok nmX7 hown hK hP hD hS 0 rfl rfl 0 (by decide) q0 (fun _ h9 => h9) rfl (by decide +kernel) rfl rfl (Nat.le_of_ble_eq_true rfl) dX7_beginsRight_2 (fun H locs hP hD hS => ?_)
  have hP : va_P D vwCl (MW w y (0 : Int32) ms mst smn msl mhs mtx mle mat mwl mrd mrm mtp mbt mtm mtn mnt mnb mun mum mau) H := hP
  have hD : va_D A (MW w y (0 : Int32) ms mst smn msl mhs mtx mle mat mwl mrd mrm mtp mbt mtm mtn mnt mnb mun mum mau) := hD
  refine lv_iload_n hx hb dX7_beginsRight_5 rfl (lv_at hl 1 rfl) ?_
  refine cT_i (As := [.int a1]) (rest := []) ⟨hx, hb, hml, hown, hts⟩ (c_X7_isPlate l D y _ a1) (va_cwS 1 hts gX7_beginsRight_X7_isPlate rfl rfl rfl hd_X7_isPlate ⟨Nat.le_of_ble_eq_true rfl, Nat.le_of_ble_eq_true rfl⟩) hK hP hD hS hA rfl hl.1 rfl (Nat.le_of_ble_eq_true rfl) dX7_beginsRight_6 ⟨Nat.le_of_ble_eq_true rfl, Nat.le_of_ble_eq_true rfl⟩ (fun H locs hP hD hS => ?_)
  refine lv_if_ne (tgt := 26) hx hb dX7_beginsRight_9 (by decide) (fun c1 => ?_) (fun c1 => ?_)
  · replace h := fF c1 h
    refine lv_aload_n hx hb dX7_beginsRight_26 rfl (lv_at hl 0 rfl) ?_
    refine lv_iload_n hx hb dX7_beginsRight_27 rfl (lv_at hl 1 rfl) ?_
    obtain ⟨r2, g3, h⟩ := fB1 h
    refine cV_i (As := [.int a1]) (rest := []) (ws1 := (MW w y (0 : Int32) ms mst smn msl mhs mtx mle mat mwl mrd mrm mtp mbt mtm mtn mnt mnb mun mum mau)) ⟨hx, hb, hml, hown, hts⟩ (c_X7_above l D w y _ (0 : Int32) ms mst smn msl mhs mtx mle mat mwl mrd mrm mtp mbt mtm mtn mnt mnb mun mum mau a1 r2 g3) (cwV 1 hts gX7_beginsRight_X7_above rfl rfl rfl hd_X7_above ⟨Nat.le_of_ble_eq_true rfl, Nat.le_of_ble_eq_true rfl⟩) hK hP hD hS hA [0, 1, 2, 3, 4, 5, 6, 7, 8] [] [0, 1, 2, 3, 4, 5, 6, 7, 8] rfl rfl rfl (by decide) rfl rfl rfl 0 (ci := 5) rfl rfl rfl hl.1 rfl (Nat.le_of_ble_eq_true rfl) dX7_beginsRight_28 ⟨Nat.le_of_ble_eq_true rfl, Nat.le_of_ble_eq_true rfl⟩ (fun H locs hP hD hS => ?_)
    refine lv_if_ne (tgt := 50) hx hb dX7_beginsRight_31 (by decide) (fun c4 => ?_) (fun c4 => ?_)
    · replace h := fF c4 h
      refine lv_aload_n hx hb dX7_beginsRight_50 rfl (lv_at hl 0 rfl) ?_
      refine lv_iload_n hx hb dX7_beginsRight_51 rfl (lv_at hl 1 rfl) ?_
      obtain ⟨r5, g6, h⟩ := fB1 h
      refine cV_i (As := [.int a1]) (rest := []) (ws1 := (MW w y (0 : Int32) ms mst smn msl mhs mtx mle mat mwl mrd mrm mtp mbt mtm mtn mnt mnb mun mum mau)) ⟨hx, hb, hml, hown, hts⟩ (c_X7_above l D w y _ (0 : Int32) ms mst smn msl mhs mtx mle mat mwl mrd mrm mtp mbt mtm mtn mnt mnb mun mum mau a1 r5 g6) (cwV 1 hts gX7_beginsRight_X7_above rfl rfl rfl hd_X7_above ⟨Nat.le_of_ble_eq_true rfl, Nat.le_of_ble_eq_true rfl⟩) hK hP hD hS hA [0, 1, 2, 3, 4, 5, 6, 7, 8] [] [0, 1, 2, 3, 4, 5, 6, 7, 8] rfl rfl rfl (by decide) rfl rfl rfl 0 (ci := 5) rfl rfl rfl hl.1 rfl (Nat.le_of_ble_eq_true rfl) dX7_beginsRight_52 ⟨Nat.le_of_ble_eq_true rfl, Nat.le_of_ble_eq_true rfl⟩ (fun H locs hP hD hS => ?_)
      refine lv_aload_n hx hb dX7_beginsRight_55 rfl (lv_at hl 0 rfl) ?_
      refine lv_iload_n hx hb dX7_beginsRight_56 rfl (lv_at hl 1 rfl) ?_
      obtain ⟨r7, g8, h⟩ := fB1 h
      refine cV_i (As := [.int a1]) (rest := [.int r5]) (ws1 := (MW w y (0 : Int32) ms mst smn msl mhs mtx mle mat mwl mrd mrm mtp mbt mtm mtn mnt mnb mun mum mau)) ⟨hx, hb, hml, hown, hts⟩ (c_X7_below l D w y _ (0 : Int32) ms mst smn msl mhs mtx mle mat mwl mrd mrm mtp mbt mtm mtn mnt mnb mun mum mau a1 r7 g8) (cwV 1 hts gX7_beginsRight_X7_below rfl rfl rfl hd_X7_below ⟨Nat.le_of_ble_eq_true rfl, Nat.le_of_ble_eq_true rfl⟩) hK hP hD hS hA [0, 1, 2, 3, 4, 5, 6, 7, 8] [] [0, 1, 2, 3, 4, 5, 6, 7, 8] rfl rfl rfl (by decide) rfl rfl rfl 0 (ci := 5) rfl rfl rfl hl.1 rfl (Nat.le_of_ble_eq_true rfl) dX7_beginsRight_57 ⟨Nat.le_of_ble_eq_true rfl, Nat.le_of_ble_eq_true rfl⟩ (fun H locs hP hD hS => ?_)
      have J9 : ∀ (v10 : Int32) (ls : Array Slot), v10 = (if r5 ≤ r7 then (0 : Int32) else (1 : Int32)) → lv_has ls 2 [(0, .ref (w 0)), (1, .int a1)] → W p l e rm_X7_beginsRight s m args below meth c H locs 0 0 Q (F0 m 68 ls [.int v10]) := by
        intro v10 ls ev10 hl
        subst ev10
        cases h
        exact hE _ _ _ _ dX7_beginsRight_68 hP hD hS (nz01 (z01 (Or.inl rfl) (Or.inr rfl)))
      refine lv_icmp_le (tgt := 67) hx hb dX7_beginsRight_60 (by decide) (fun c11 => ?_) (fun c11 => ?_)
      · refine lv_iconst (v := (0 : Int32)) hx hb dX7_beginsRight_67 (by decide) ?_
        exact J9 _ _ (by rw [if_pos c11]) (lv_sub hl [0, 1] rfl)
      · refine lv_iconst (v := (1 : Int32)) hx hb dX7_beginsRight_63 (by decide) ?_
        refine lv_goto (tgt := 68) hx hb dX7_beginsRight_64 (by decide) ?_
        exact J9 _ _ (by rw [if_neg c11]) (lv_sub hl [0, 1] rfl)
    · replace h := fT c4 h
      refine lv_aload_n hx hb dX7_beginsRight_34 rfl (lv_at hl 0 rfl) ?_
      refine lv_iconst (v := (2 : Int32)) hx hb dX7_beginsRight_35 (by decide) ?_
      obtain ⟨r12, th13, g14, h⟩ := fB2 h
      refine cV_i (As := [.int (2 : Int32)]) (rest := []) (ws1 := (MW w y th13 ms mst smn msl mhs mtx mle mat mwl mrd mrm mtp mbt mtm mtn mnt mnb mun mum mau)) ⟨hx, hb, hml, hown, hts⟩ (c_X7_fails l D w y _ (0 : Int32) ms mst smn msl mhs mtx mle mat mwl mrd mrm mtp mbt mtm mtn mnt mnb mun mum mau (2 : Int32) r12 th13 g14) (cwV 1 hts gX7_beginsRight_X7_fails rfl rfl rfl hd_X7_fails ⟨Nat.le_of_ble_eq_true rfl, Nat.le_of_ble_eq_true rfl⟩) hK hP hD hS hA [0, 1, 2, 3, 4, 5, 6, 7, 8] [] [0, 1, 2, 3, 4, 5, 6, 7, 8] rfl rfl rfl (by decide) rfl rfl rfl 0 (ci := 5) rfl rfl rfl hl.1 rfl (Nat.le_of_ble_eq_true rfl) dX7_beginsRight_36 ⟨Nat.le_of_ble_eq_true rfl, Nat.le_of_ble_eq_true rfl⟩ (fun H locs hP hD hS => ?_)
      have J15 : ∀ (v16 : Int32) (ls : Array Slot), v16 = (if r12 ≤ (0 : Int32) then (0 : Int32) else (1 : Int32)) → lv_has ls 2 [(0, .ref (w 0)), (1, .int a1)] → W p l e rm_X7_beginsRight s m args below meth c H locs 0 0 Q (F0 m 68 ls [.int v16]) := by
        intro v16 ls ev16 hl
        subst ev16
        cases h
        exact hE _ _ _ _ dX7_beginsRight_68 hP hD hS (nz01 (z01 (Or.inl rfl) (Or.inr rfl)))
      refine lv_if_le (tgt := 46) hx hb dX7_beginsRight_39 (by decide) (fun c17 => ?_) (fun c17 => ?_)
      · refine lv_iconst (v := (0 : Int32)) hx hb dX7_beginsRight_46 (by decide) ?_
        refine lv_goto (tgt := 68) hx hb dX7_beginsRight_47 (by decide) ?_
        exact J15 _ _ (by rw [if_pos c17]) (lv_sub hl [0, 1] rfl)
      · refine lv_iconst (v := (1 : Int32)) hx hb dX7_beginsRight_42 (by decide) ?_
        refine lv_goto (tgt := 68) hx hb dX7_beginsRight_43 (by decide) ?_
        exact J15 _ _ (by rw [if_neg c17]) (lv_sub hl [0, 1] rfl)
  · replace h := fT c1 h
    refine lv_aload_n hx hb dX7_beginsRight_12 rfl (lv_at hl 0 rfl) ?_
    refine lv_iconst (v := (1 : Int32)) hx hb dX7_beginsRight_13 (by decide) ?_
    obtain ⟨r18, th19, g20, h⟩ := fB2 h
    refine cV_i (As := [.int (1 : Int32)]) (rest := []) (ws1 := (MW w y th19 ms mst smn msl mhs mtx mle mat mwl mrd mrm mtp mbt mtm mtn mnt mnb mun mum mau)) ⟨hx, hb, hml, hown, hts⟩ (c_X7_fails l D w y _ (0 : Int32) ms mst smn msl mhs mtx mle mat mwl mrd mrm mtp mbt mtm mtn mnt mnb mun mum mau (1 : Int32) r18 th19 g20) (cwV 1 hts gX7_beginsRight_X7_fails rfl rfl rfl hd_X7_fails ⟨Nat.le_of_ble_eq_true rfl, Nat.le_of_ble_eq_true rfl⟩) hK hP hD hS hA [0, 1, 2, 3, 4, 5, 6, 7, 8] [] [0, 1, 2, 3, 4, 5, 6, 7, 8] rfl rfl rfl (by decide) rfl rfl rfl 0 (ci := 5) rfl rfl rfl hl.1 rfl (Nat.le_of_ble_eq_true rfl) dX7_beginsRight_14 ⟨Nat.le_of_ble_eq_true rfl, Nat.le_of_ble_eq_true rfl⟩ (fun H locs hP hD hS => ?_)
    have J21 : ∀ (v22 : Int32) (ls : Array Slot), v22 = (if r18 ≤ (0 : Int32) then (0 : Int32) else (1 : Int32)) → lv_has ls 2 [(0, .ref (w 0)), (1, .int a1)] → W p l e rm_X7_beginsRight s m args below meth c H locs 0 0 Q (F0 m 25 ls [.int v22]) := by
      intro v22 ls ev22 hl
      subst ev22
      cases h
      exact hE _ _ _ _ dX7_beginsRight_25 hP hD hS (nz01 (z01 (Or.inl rfl) (Or.inr rfl)))
    refine lv_if_le (tgt := 24) hx hb dX7_beginsRight_17 (by decide) (fun c23 => ?_) (fun c23 => ?_)
    · refine lv_iconst (v := (0 : Int32)) hx hb dX7_beginsRight_24 (by decide) ?_
      exact J21 _ _ (by rw [if_pos c23]) (lv_sub hl [0, 1] rfl)
    · refine lv_iconst (v := (1 : Int32)) hx hb dX7_beginsRight_20 (by decide) ?_
      refine lv_goto (tgt := 25) hx hb dX7_beginsRight_21 (by decide) ?_
      exact J21 _ _ (by rw [if_neg c23]) (lv_sub hl [0, 1] rfl)
abbrev rm_X7_appendText : Room := { frames := 1, cells := 0, slots := 0, locals := 22 }
theorem hd_X7_appendText : yX7_appendText.cls = RX7 ∧ yX7_appendText.cls ≠ "java/lang/invoke/MethodHandle" ∧ yX7_appendText.cls ≠ "java/lang/invoke/VarHandle" ∧ (parseMethodDescriptor yX7_appendText.desc).map (fun d => d.parameters.length) = some 1 := by decide +kernel
set_option maxHeartbeats 0 in
set_option maxRecDepth 100000 in
theorem c_X7_appendText (l : Launch) (D : va_G) (w : Nat → Nat) (y : Nat → ClassId) (sz : Nat) (th : Int32) (ms : Nat → Int32) (mst : Nat → Int32) (smn : Int32) (msl : Nat → Int32) (mhs : Nat → Int32) (mtx : Nat → Int32) (mle : Int32) (mat : Int32) (mwl : Int32) (mrd : Nat → Int32) (mrm : Int32) (mtp : Int64) (mbt : Int64) (mtm : Nat → Int32) (mtn : Int32) (mnt : Int32) (mnb : Int32) (mun : Nat → Int32) (mum : Int32) (mau : Int32) (a1 : Int64) (r : Int32) (th' : Int32) (mtx' : Nat → Int32) (mle' : Int32) (h : F_X7_appendText th mtx mle a1 = some (r, th', mtx', mle')) : Met l yX7_appendText wsX7_appendText rm_X7_appendText (va_Pc [.ref (w 0), .long a1] (px D y sz (MW w y th ms mst smn msl mhs mtx mle mat mwl mrd mrm mtp mbt mtm mtn mnt mnb mun mum mau))) (Qri D y sz (MW w y th ms mst smn msl mhs mtx mle mat mwl mrd mrm mtp mbt mtm mtn mnt mnb mun mum mau) (MW w y th' ms mst smn msl mhs mtx' mle' mat mwl mrd mrm mtp mbt mtm mtn mnt mnb mun mum mau) r) 0 0 (va_A (MW w y th ms mst smn msl mhs mtx mle mat mwl mrd mrm mtp mbt mtm mtn mnt mnb mun mum mau) sz) := by
  refine hd_i (cc := cX7_appendText) (maxL := 8) rfl rfl (Nat.le_of_ble_eq_true rfl) ?_
  intro p e s m args below meth c A Q H locs ls hx hb hml hts hown _ hA hP hD hK hS hl hE
  have hl : lv_has ls 8 [(0, .ref (w 0)), (1, .long a1)] := hl
  have q0 := hts (.fieldLink RX7 35 "SliceSharesModel" "thrown" "I") (by decide +kernel)
  have q1 := hts (.fieldLink RX7 173 "SliceSharesModel" "length" "I") (by decide +kernel)
  have q2 := hts (.fieldLink RX7 23 "SliceSharesModel" "text" "[I") (by decide +kernel)
  have q3 := hts (.constantLong RX7 171 (255)) (by decide +kernel)
  have hinRX7 : ∀ w ∈ wsX70, w ∈ wsX7_appendText := by decide +kernel
  unfold F_X7_appendText at h
  refine lv_aload_n hx hb dX7_appendText_0 rfl (lv_at hl 0 rfl) ?_
  refine lv_iconst (v := (0 : Int32)) hx hb dX7_appendText_1 (by decide) ?_
  refine va_put (D := D) (ci := 5) (v := .int (0 : Int32)) (ty := .int) (C := RX7) (T := TX7) (N := 21) hx hb hts hinRX7 tyX7 tyX7_ok nmX7 hown hK hP hD hS 0 rfl rfl 0 (by decide) q0 (fun _ h9 => h9) rfl (by decide +kernel) rfl rfl (Nat.le_of_ble_eq_true rfl) dX7_appendText_2 (fun H locs hP hD hS => ?_)
  have hP : va_P D vwCl (MW w y (0 : Int32) ms mst smn msl mhs mtx mle mat mwl mrd mrm mtp mbt mtm mtn mnt mnb mun mum mau) H := hP
  have hD : va_D A (MW w y (0 : Int32) ms mst smn msl mhs mtx mle mat mwl mrd mrm mtp mbt mtm mtn mnt mnb mun mum mau) := hD
  refine lv_iconst (v := (0 : Int32)) hx hb dX7_appendText_5 (by decide) ?_
  refine lv_istore_n (lv' := [(3, .int (0 : Int32)), (0, .ref (w 0)), (1, .long a1)]) hx hb dX7_appendText_6 rfl hl (by decide) rfl (fun ls hl => ?_)
  refine lv_iconst (v := (0 : Int32)) hx hb dX7_appendText_7 (by decide) ?_
  refine lv_istore (lv' := [(4, .int (0 : Int32)), (3, .int (0 : Int32)), (0, .ref (w 0)), (1, .long a1)]) hx hb dX7_appendText_8 hl (by decide) rfl (fun ls hl => ?_)
  refine lv_iconst (v := (1 : Int32)) hx hb dX7_appendText_10 (by decide) ?_
  refine lv_istore (lv' := [(5, .int (1 : Int32)), (4, .int (0 : Int32)), (3, .int (0 : Int32)), (0, .ref (w 0)), (1, .long a1)]) hx hb dX7_appendText_11 hl (by decide) rfl (fun ls hl => ?_)
  refine lv_iconst (v := (0 : Int32)) hx hb dX7_appendText_13 (by decide) ?_
  refine lv_istore (lv' := [(6, .int (0 : Int32)), (5, .int (1 : Int32)), (4, .int (0 : Int32)), (3, .int (0 : Int32)), (0, .ref (w 0)), (1, .long a1)]) hx hb dX7_appendText_14 hl (by decide) rfl (fun ls hl => ?_)
  obtain ⟨v5, v6, g7, h⟩ := fB2 h
  have J8 : ∀ (H : Heap) (locs : List Loc) (ls : Array Slot), va_P D vwCl (MW w y (0 : Int32) ms mst smn msl mhs mtx mle mat mwl mrd mrm mtp mbt mtm mtn mnt mnb mun mum mau) H → va_D A (MW w y (0 : Int32) ms mst smn msl mhs mtx mle mat mwl mrd mrm mtp mbt mtm mtn mnt mnb mun mum mau) → va_S A s.heap H locs → lv_has ls 8 [(0, .ref (w 0)), (1, .long a1), (3, .int v5), (5, .int v6)] → W p l e rm_X7_appendText s m args below meth c H locs 0 0 Q (F0 m 110 ls []) := by
    intro H locs ls hP hD hS hl
    refine lv_iload hx hb dX7_appendText_110 (lv_at hl 3 rfl) ?_
    refine lv_if_eq (tgt := 119) hx hb dX7_appendText_112 (by decide) (fun c9 => ?_) (fun c9 => ?_)
    · replace h := fT c9 h
      refine lv_aload_n hx hb dX7_appendText_119 rfl (lv_at hl 0 rfl) ?_
      refine lv_iconst (v := (1 : Int32)) hx hb dX7_appendText_120 (by decide) ?_
      obtain ⟨r10, th11, g12, h⟩ := fB2 h
      refine cV_i (As := [.int (1 : Int32)]) (rest := []) (ws1 := (MW w y th11 ms mst smn msl mhs mtx mle mat mwl mrd mrm mtp mbt mtm mtn mnt mnb mun mum mau)) ⟨hx, hb, hml, hown, hts⟩ (c_X7_fails l D w y _ (0 : Int32) ms mst smn msl mhs mtx mle mat mwl mrd mrm mtp mbt mtm mtn mnt mnb mun mum mau (1 : Int32) r10 th11 g12) (cwV 1 hts gX7_appendText_X7_fails rfl rfl rfl hd_X7_fails ⟨Nat.le_of_ble_eq_true rfl, Nat.le_of_ble_eq_true rfl⟩) hK hP hD hS hA [0, 1, 2, 3, 4, 5, 6, 7, 8] [] [0, 1, 2, 3, 4, 5, 6, 7, 8] rfl rfl rfl (by decide) rfl rfl rfl 0 (ci := 5) rfl rfl rfl hl.1 rfl (Nat.le_of_ble_eq_true rfl) dX7_appendText_121 ⟨Nat.le_of_ble_eq_true rfl, Nat.le_of_ble_eq_true rfl⟩ (fun H locs hP hD hS => ?_)
      cases h
      exact hE _ _ _ _ dX7_appendText_124 hP hD hS
    · replace h := fF c9 h
      refine lv_iload_n hx hb dX7_appendText_115 rfl (lv_at hl 2 rfl) ?_
      refine lv_if_ne (tgt := 125) hx hb dX7_appendText_116 (by decide) (fun c13 => ?_) (fun c13 => ?_)
      · replace h := fF c13 h
        refine lv_aload_n hx hb dX7_appendText_125 rfl (lv_at hl 0 rfl) ?_
        refine va_get (D := D) (ci := 5) (C := RX7) (T := TX7) (N := 21) hx hb hts hinRX7 hown hK hP 0 rfl rfl 7 (by decide) q1 (fun _ h9 => h9) rfl dX7_appendText_126 ?_
        refine lv_iload_n hx hb dX7_appendText_129 rfl (lv_at hl 2 rfl) ?_
        refine lv_iadd hx hb dX7_appendText_130 ?_
        refine lv_bipush (v := (80 : Int32)) hx hb dX7_appendText_131 (by decide) ?_
        refine lv_icmp_le (tgt := 142) hx hb dX7_appendText_133 (by decide) (fun c14 => ?_) (fun c14 => ?_)
        · replace h := fT c14 h
          refine lv_iload_n hx hb dX7_appendText_142 rfl (lv_at hl 2 rfl) ?_
          refine lv_iconst (v := (1 : Int32)) hx hb dX7_appendText_143 (by decide) ?_
          refine lv_isub hx hb dX7_appendText_144 ?_
          refine lv_istore (lv' := [(6, .int (v5 - (1 : Int32))), (0, .ref (w 0)), (1, .long a1), (3, .int v5), (5, .int v6)]) hx hb dX7_appendText_145 hl (by decide) rfl (fun ls hl => ?_)
          obtain ⟨mtx18, mle19, g20, h⟩ := fB2 h
          have J21 : ∀ (H : Heap) (locs : List Loc) (ls : Array Slot), va_P D vwCl (MW w y (0 : Int32) ms mst smn msl mhs mtx18 mle19 mat mwl mrd mrm mtp mbt mtm mtn mnt mnb mun mum mau) H → va_D A (MW w y (0 : Int32) ms mst smn msl mhs mtx18 mle19 mat mwl mrd mrm mtp mbt mtm mtn mnt mnb mun mum mau) → va_S A s.heap H locs → lv_has ls 8 [(0, .ref (w 0))] → W p l e rm_X7_appendText s m args below meth c H locs 0 0 Q (F0 m 189 ls []) := by
            intro H locs ls hP hD hS hl
            refine lv_aload_n hx hb dX7_appendText_189 rfl (lv_at hl 0 rfl) ?_
            refine va_get (D := D) (ci := 5) (C := RX7) (T := TX7) (N := 21) hx hb hts hinRX7 hown hK hP 0 rfl rfl 7 (by decide) q1 (fun _ h9 => h9) rfl dX7_appendText_190 ?_
            cases h
            exact hE _ _ _ _ dX7_appendText_193 hP hD hS
          have LP22 : ∀ (n : Nat) (x15 : Int32) (mtx16 : Nat → Int32) (mle17 : Int32) (H : Heap) (locs : List Loc) (ls : Array Slot), L_X7_appendText_147 n a1 x15 mtx16 mle17 = some (mtx18, mle19) → va_P D vwCl (MW w y (0 : Int32) ms mst smn msl mhs mtx16 mle17 mat mwl mrd mrm mtp mbt mtm mtn mnt mnb mun mum mau) H → va_D A (MW w y (0 : Int32) ms mst smn msl mhs mtx16 mle17 mat mwl mrd mrm mtp mbt mtm mtn mnt mnb mun mum mau) → va_S A s.heap H locs → lv_has ls 8 [(0, .ref (w 0)), (1, .long a1), (6, .int x15)] → W p l e rm_X7_appendText s m args below meth c H locs 0 0 Q (F0 m 147 ls []) := by
            intro n
            induction n with
            | zero => intro x15 mtx16 mle17 H locs ls h hP hD hS hl; exact fN h
            | succ n ih =>
              intro x15 mtx16 mle17 H locs ls h hP hD hS hl
              replace h := (L_X7_appendText_147_s n a1 x15 mtx16 mle17).symm.trans h
              refine lv_iload hx hb dX7_appendText_147 (lv_at hl 2 rfl) ?_
              refine lv_if_lt (tgt := 189) hx hb dX7_appendText_149 (by decide) (fun c23 => ?_) (fun c23 => ?_)
              · replace h := fT c23 h
                cases h
                exact J21 _ _ _ hP hD hS (lv_sub hl [0] rfl)
              · replace h := fF c23 h
                refine lv_aload_n hx hb dX7_appendText_152 rfl (lv_at hl 0 rfl) ?_
                refine va_get (D := D) (ci := 5) (C := RX7) (T := TX7) (N := 21) hx hb hts hinRX7 hown hK hP 0 rfl rfl 6 (by decide) q2 (fun _ h9 => h9) rfl dX7_appendText_153 ?_
                refine lv_aload_n hx hb dX7_appendText_156 rfl (lv_at hl 0 rfl) ?_
                refine va_get (D := D) (ci := 5) (C := RX7) (T := TX7) (N := 21) hx hb hts hinRX7 hown hK hP 0 rfl rfl 7 (by decide) q1 (fun _ h9 => h9) rfl dX7_appendText_157 ?_
                refine lv_lload_n hx hb dX7_appendText_160 rfl (lv_at hl 1 rfl) ?_
                refine lv_bipush (v := (8 : Int32)) hx hb dX7_appendText_161 (by decide) ?_
                refine lv_iload hx hb dX7_appendText_163 (lv_at hl 2 rfl) ?_
                refine lv_imul hx hb dX7_appendText_165 ?_
                refine lv_lshr (v := a1 >>> (((8 : Int32) * x15).toInt64 &&& 63)) hx hb dX7_appendText_166 rfl ?_
                refine lv_ldc2 (v := (255 : Int64)) hx hb hown q3 dX7_appendText_167 ?_
                refine lv_land hx hb dX7_appendText_170 ?_
                refine lv_l2i (v := ((a1 >>> (((8 : Int32) * x15).toInt64 &&& 63)) &&& (255 : Int64)).toInt32) hx hb dX7_appendText_171 rfl ?_
                obtain ⟨g24, h⟩ := fG h
                refine va_iast hx hb hK hP hD hS 5 0 rfl rfl g24 dX7_appendText_172 (fun H locs hP hD hS => ?_)
                have hP : va_P D vwCl (MW w y (0 : Int32) ms mst smn msl mhs (upd mtx16 mle17.toNatClampNeg (((a1 >>> (((8 : Int32) * x15).toInt64 &&& 63)) &&& (255 : Int64)).toInt32)) mle17 mat mwl mrd mrm mtp mbt mtm mtn mnt mnb mun mum mau) H := hP
                have hD : va_D A (MW w y (0 : Int32) ms mst smn msl mhs (upd mtx16 mle17.toNatClampNeg (((a1 >>> (((8 : Int32) * x15).toInt64 &&& 63)) &&& (255 : Int64)).toInt32)) mle17 mat mwl mrd mrm mtp mbt mtm mtn mnt mnb mun mum mau) := hD
                refine lv_aload_n hx hb dX7_appendText_173 rfl (lv_at hl 0 rfl) ?_
                refine lv_dup hx hb dX7_appendText_174 rfl ?_
                refine va_get (D := D) (ci := 5) (C := RX7) (T := TX7) (N := 21) hx hb hts hinRX7 hown hK hP 0 rfl rfl 7 (by decide) q1 (fun _ h9 => h9) rfl dX7_appendText_175 ?_
                refine lv_iconst (v := (1 : Int32)) hx hb dX7_appendText_178 (by decide) ?_
                refine lv_iadd hx hb dX7_appendText_179 ?_
                refine va_put (D := D) (ci := 5) (v := .int (mle17 + (1 : Int32))) (ty := .int) (C := RX7) (T := TX7) (N := 21) hx hb hts hinRX7 tyX7 tyX7_ok nmX7 hown hK hP hD hS 0 rfl rfl 7 (by decide) q1 (fun _ h9 => h9) rfl (by decide +kernel) rfl rfl (Nat.le_of_ble_eq_true rfl) dX7_appendText_180 (fun H locs hP hD hS => ?_)
                have hP : va_P D vwCl (MW w y (0 : Int32) ms mst smn msl mhs (upd mtx16 mle17.toNatClampNeg (((a1 >>> (((8 : Int32) * x15).toInt64 &&& 63)) &&& (255 : Int64)).toInt32)) (mle17 + (1 : Int32)) mat mwl mrd mrm mtp mbt mtm mtn mnt mnb mun mum mau) H := hP
                have hD : va_D A (MW w y (0 : Int32) ms mst smn msl mhs (upd mtx16 mle17.toNatClampNeg (((a1 >>> (((8 : Int32) * x15).toInt64 &&& 63)) &&& (255 : Int64)).toInt32)) (mle17 + (1 : Int32)) mat mwl mrd mrm mtp mbt mtm mtn mnt mnb mun mum mau) := hD
                refine lv_iinc (v := x15 + (-1 : Int32)) (lv' := [(6, .int (x15 + (-1 : Int32))), (0, .ref (w 0)), (1, .long a1)]) hx hb dX7_appendText_183 hl (k := 2) rfl rfl (by decide) rfl (fun ls hl => ?_)
                refine lv_goto (tgt := 147) hx hb dX7_appendText_186 (by decide) ?_
                exact ih (x15 + (-1 : Int32)) (upd mtx16 mle17.toNatClampNeg (((a1 >>> (((8 : Int32) * x15).toInt64 &&& 63)) &&& (255 : Int64)).toInt32)) (mle17 + (1 : Int32)) _ _ _ h hP hD hS (lv_sub hl [1, 2, 0] rfl)
          exact LP22 FU (v5 - (1 : Int32)) mtx mle _ _ _ g20 hP hD hS (lv_sub hl [1, 2, 0] rfl)
        · replace h := fF c14 h
          refine lv_aload_n hx hb dX7_appendText_136 rfl (lv_at hl 0 rfl) ?_
          refine lv_iconst (v := (2 : Int32)) hx hb dX7_appendText_137 (by decide) ?_
          obtain ⟨r25, th26, g27, h⟩ := fB2 h
          refine cV_i (As := [.int (2 : Int32)]) (rest := []) (ws1 := (MW w y th26 ms mst smn msl mhs mtx mle mat mwl mrd mrm mtp mbt mtm mtn mnt mnb mun mum mau)) ⟨hx, hb, hml, hown, hts⟩ (c_X7_fails l D w y _ (0 : Int32) ms mst smn msl mhs mtx mle mat mwl mrd mrm mtp mbt mtm mtn mnt mnb mun mum mau (2 : Int32) r25 th26 g27) (cwV 1 hts gX7_appendText_X7_fails rfl rfl rfl hd_X7_fails ⟨Nat.le_of_ble_eq_true rfl, Nat.le_of_ble_eq_true rfl⟩) hK hP hD hS hA [0, 1, 2, 3, 4, 5, 6, 7, 8] [] [0, 1, 2, 3, 4, 5, 6, 7, 8] rfl rfl rfl (by decide) rfl rfl rfl 0 (ci := 5) rfl rfl rfl hl.1 rfl (Nat.le_of_ble_eq_true rfl) dX7_appendText_138 ⟨Nat.le_of_ble_eq_true rfl, Nat.le_of_ble_eq_true rfl⟩ (fun H locs hP hD hS => ?_)
          cases h
          exact hE _ _ _ _ dX7_appendText_141 hP hD hS
      · replace h := fT c13 h
        refine lv_aload_n hx hb dX7_appendText_119 rfl (lv_at hl 0 rfl) ?_
        refine lv_iconst (v := (1 : Int32)) hx hb dX7_appendText_120 (by decide) ?_
        obtain ⟨r28, th29, g30, h⟩ := fB2 h
        refine cV_i (As := [.int (1 : Int32)]) (rest := []) (ws1 := (MW w y th29 ms mst smn msl mhs mtx mle mat mwl mrd mrm mtp mbt mtm mtn mnt mnb mun mum mau)) ⟨hx, hb, hml, hown, hts⟩ (c_X7_fails l D w y _ (0 : Int32) ms mst smn msl mhs mtx mle mat mwl mrd mrm mtp mbt mtm mtn mnt mnb mun mum mau (1 : Int32) r28 th29 g30) (cwV 1 hts gX7_appendText_X7_fails rfl rfl rfl hd_X7_fails ⟨Nat.le_of_ble_eq_true rfl, Nat.le_of_ble_eq_true rfl⟩) hK hP hD hS hA [0, 1, 2, 3, 4, 5, 6, 7, 8] [] [0, 1, 2, 3, 4, 5, 6, 7, 8] rfl rfl rfl (by decide) rfl rfl rfl 0 (ci := 5) rfl rfl rfl hl.1 rfl (Nat.le_of_ble_eq_true rfl) dX7_appendText_121 ⟨Nat.le_of_ble_eq_true rfl, Nat.le_of_ble_eq_true rfl⟩ (fun H locs hP hD hS => ?_)
        cases h
        exact hE _ _ _ _ dX7_appendText_124 hP hD hS
  have LP31 : ∀ (n : Nat) (x1 : Int32) (x2 : Int32) (x3 : Int32) (x4 : Int32) (H : Heap) (locs : List Loc) (ls : Array Slot), L_X7_appendText_16 n a1 x1 x2 x3 x4 = some (v5, v6) → va_P D vwCl (MW w y (0 : Int32) ms mst smn msl mhs mtx mle mat mwl mrd mrm mtp mbt mtm mtn mnt mnb mun mum mau) H → va_D A (MW w y (0 : Int32) ms mst smn msl mhs mtx mle mat mwl mrd mrm mtp mbt mtm mtn mnt mnb mun mum mau) → va_S A s.heap H locs → lv_has ls 8 [(0, .ref (w 0)), (1, .long a1), (3, .int x1), (4, .int x2), (5, .int x3), (6, .int x4)] → W p l e rm_X7_appendText s m args below meth c H locs 0 0 Q (F0 m 16 ls []) := by
    intro n
    induction n with
    | zero => intro x1 x2 x3 x4 H locs ls h hP hD hS hl; exact fN h
    | succ n ih =>
      intro x1 x2 x3 x4 H locs ls h hP hD hS hl
      replace h := (L_X7_appendText_16_s n a1 x1 x2 x3 x4).symm.trans h
      refine lv_iload hx hb dX7_appendText_16 (lv_at hl 5 rfl) ?_
      refine lv_bipush (v := (8 : Int32)) hx hb dX7_appendText_18 (by decide) ?_
      refine lv_icmp_ge (tgt := 110) hx hb dX7_appendText_20 (by decide) (fun c32 => ?_) (fun c32 => ?_)
      · replace h := fT c32 h
        cases h
        exact J8 _ _ _ hP hD hS (lv_sub hl [0, 1, 2, 4] rfl)
      · replace h := fF c32 h
        refine lv_lload_n hx hb dX7_appendText_23 rfl (lv_at hl 1 rfl) ?_
        refine lv_bipush (v := (8 : Int32)) hx hb dX7_appendText_24 (by decide) ?_
        refine lv_iload hx hb dX7_appendText_26 (lv_at hl 5 rfl) ?_
        refine lv_imul hx hb dX7_appendText_28 ?_
        refine lv_lshr (v := a1 >>> (((8 : Int32) * x4).toInt64 &&& 63)) hx hb dX7_appendText_29 rfl ?_
        refine lv_ldc2 (v := (255 : Int64)) hx hb hown q3 dX7_appendText_30 ?_
        refine lv_land hx hb dX7_appendText_33 ?_
        refine lv_l2i (v := ((a1 >>> (((8 : Int32) * x4).toInt64 &&& 63)) &&& (255 : Int64)).toInt32) hx hb dX7_appendText_34 rfl ?_
        refine lv_istore (lv' := [(7, .int (((a1 >>> (((8 : Int32) * x4).toInt64 &&& 63)) &&& (255 : Int64)).toInt32)), (0, .ref (w 0)), (1, .long a1), (3, .int x1), (4, .int x2), (5, .int x3), (6, .int x4)]) hx hb dX7_appendText_35 hl (by decide) rfl (fun ls hl => ?_)
        refine lv_iload hx hb dX7_appendText_37 (lv_at hl 4 rfl) ?_
        have J33 : ∀ (v34 : Int32) (ls : Array Slot), v34 = (if x2 = (0 : Int32) then (if (((a1 >>> (((8 : Int32) * x4).toInt64 &&& 63)) &&& (255 : Int64)).toInt32) = (0 : Int32) then (1 : Int32) else (0 : Int32)) else (1 : Int32)) → lv_has ls 8 [(0, .ref (w 0)), (1, .long a1), (3, .int x1), (4, .int x2), (5, .int x3), (6, .int x4), (7, .int (((a1 >>> (((8 : Int32) * x4).toInt64 &&& 63)) &&& (255 : Int64)).toInt32))] → W p l e rm_X7_appendText s m args below meth c H locs 0 0 Q (F0 m 52 ls [.int v34]) := by
          intro v34 ls ev34 hl
          subst ev34
          refine lv_istore (lv' := [(4, .int (if x2 = (0 : Int32) then (if (((a1 >>> (((8 : Int32) * x4).toInt64 &&& 63)) &&& (255 : Int64)).toInt32) = (0 : Int32) then (1 : Int32) else (0 : Int32)) else (1 : Int32))), (0, .ref (w 0)), (1, .long a1), (3, .int x1), (5, .int x3), (6, .int x4), (7, .int (((a1 >>> (((8 : Int32) * x4).toInt64 &&& 63)) &&& (255 : Int64)).toInt32))]) hx hb dX7_appendText_52 hl (by decide) rfl (fun ls hl => ?_)
          refine lv_iload hx hb dX7_appendText_54 (lv_at hl 4 rfl) ?_
          have J35 : ∀ (v36 : Int32) (H : Heap) (locs : List Loc) (ls : Array Slot), v36 = (if x3 = (0 : Int32) then (0 : Int32) else (if (if x2 = (0 : Int32) then (if (((a1 >>> (((8 : Int32) * x4).toInt64 &&& 63)) &&& (255 : Int64)).toInt32) = (0 : Int32) then (1 : Int32) else (0 : Int32)) else (1 : Int32)) = (0 : Int32) then (if (F_X7_in (((a1 >>> (((8 : Int32) * x4).toInt64 &&& 63)) &&& (255 : Int64)).toInt32) (33 : Int32) (126 : Int32)) = (0 : Int32) then (0 : Int32) else (1 : Int32)) else (if (((a1 >>> (((8 : Int32) * x4).toInt64 &&& 63)) &&& (255 : Int64)).toInt32) = (0 : Int32) then (1 : Int32) else (0 : Int32)))) → va_P D vwCl (MW w y (0 : Int32) ms mst smn msl mhs mtx mle mat mwl mrd mrm mtp mbt mtm mtn mnt mnb mun mum mau) H → va_S A s.heap H locs → lv_has ls 8 [(0, .ref (w 0)), (1, .long a1), (3, .int x1), (4, .int (if x2 = (0 : Int32) then (if (((a1 >>> (((8 : Int32) * x4).toInt64 &&& 63)) &&& (255 : Int64)).toInt32) = (0 : Int32) then (1 : Int32) else (0 : Int32)) else (1 : Int32))), (5, .int x3), (6, .int x4), (7, .int (((a1 >>> (((8 : Int32) * x4).toInt64 &&& 63)) &&& (255 : Int64)).toInt32))] → W p l e rm_X7_appendText s m args below meth c H locs 0 0 Q (F0 m 89 ls [.int v36]) := by
            intro v36 H locs ls ev36 hP hS hl
            subst ev36
            refine lv_istore (lv' := [(5, .int (if x3 = (0 : Int32) then (0 : Int32) else (if (if x2 = (0 : Int32) then (if (((a1 >>> (((8 : Int32) * x4).toInt64 &&& 63)) &&& (255 : Int64)).toInt32) = (0 : Int32) then (1 : Int32) else (0 : Int32)) else (1 : Int32)) = (0 : Int32) then (if (F_X7_in (((a1 >>> (((8 : Int32) * x4).toInt64 &&& 63)) &&& (255 : Int64)).toInt32) (33 : Int32) (126 : Int32)) = (0 : Int32) then (0 : Int32) else (1 : Int32)) else (if (((a1 >>> (((8 : Int32) * x4).toInt64 &&& 63)) &&& (255 : Int64)).toInt32) = (0 : Int32) then (1 : Int32) else (0 : Int32))))), (0, .ref (w 0)), (1, .long a1), (3, .int x1), (4, .int (if x2 = (0 : Int32) then (if (((a1 >>> (((8 : Int32) * x4).toInt64 &&& 63)) &&& (255 : Int64)).toInt32) = (0 : Int32) then (1 : Int32) else (0 : Int32)) else (1 : Int32))), (6, .int x4), (7, .int (((a1 >>> (((8 : Int32) * x4).toInt64 &&& 63)) &&& (255 : Int64)).toInt32))]) hx hb dX7_appendText_89 hl (by decide) rfl (fun ls hl => ?_)
            refine lv_iload_n hx hb dX7_appendText_91 rfl (lv_at hl 3 rfl) ?_
            refine lv_iload hx hb dX7_appendText_92 (lv_at hl 4 rfl) ?_
            have J37 : ∀ (v38 : Int32) (ls : Array Slot), v38 = (if (if x2 = (0 : Int32) then (if (((a1 >>> (((8 : Int32) * x4).toInt64 &&& 63)) &&& (255 : Int64)).toInt32) = (0 : Int32) then (1 : Int32) else (0 : Int32)) else (1 : Int32)) = (0 : Int32) then (1 : Int32) else (0 : Int32)) → lv_has ls 8 [(0, .ref (w 0)), (1, .long a1), (3, .int x1), (4, .int (if x2 = (0 : Int32) then (if (((a1 >>> (((8 : Int32) * x4).toInt64 &&& 63)) &&& (255 : Int64)).toInt32) = (0 : Int32) then (1 : Int32) else (0 : Int32)) else (1 : Int32))), (5, .int (if x3 = (0 : Int32) then (0 : Int32) else (if (if x2 = (0 : Int32) then (if (((a1 >>> (((8 : Int32) * x4).toInt64 &&& 63)) &&& (255 : Int64)).toInt32) = (0 : Int32) then (1 : Int32) else (0 : Int32)) else (1 : Int32)) = (0 : Int32) then (if (F_X7_in (((a1 >>> (((8 : Int32) * x4).toInt64 &&& 63)) &&& (255 : Int64)).toInt32) (33 : Int32) (126 : Int32)) = (0 : Int32) then (0 : Int32) else (1 : Int32)) else (if (((a1 >>> (((8 : Int32) * x4).toInt64 &&& 63)) &&& (255 : Int64)).toInt32) = (0 : Int32) then (1 : Int32) else (0 : Int32))))), (6, .int x4), (7, .int (((a1 >>> (((8 : Int32) * x4).toInt64 &&& 63)) &&& (255 : Int64)).toInt32))] → W p l e rm_X7_appendText s m args below meth c H locs 0 0 Q (F0 m 102 ls [.int v38, .int x1]) := by
              intro v38 ls ev38 hl
              subst ev38
              refine lv_iadd hx hb dX7_appendText_102 ?_
              refine lv_istore_n (lv' := [(3, .int (x1 + (if (if x2 = (0 : Int32) then (if (((a1 >>> (((8 : Int32) * x4).toInt64 &&& 63)) &&& (255 : Int64)).toInt32) = (0 : Int32) then (1 : Int32) else (0 : Int32)) else (1 : Int32)) = (0 : Int32) then (1 : Int32) else (0 : Int32)))), (0, .ref (w 0)), (1, .long a1), (4, .int (if x2 = (0 : Int32) then (if (((a1 >>> (((8 : Int32) * x4).toInt64 &&& 63)) &&& (255 : Int64)).toInt32) = (0 : Int32) then (1 : Int32) else (0 : Int32)) else (1 : Int32))), (5, .int (if x3 = (0 : Int32) then (0 : Int32) else (if (if x2 = (0 : Int32) then (if (((a1 >>> (((8 : Int32) * x4).toInt64 &&& 63)) &&& (255 : Int64)).toInt32) = (0 : Int32) then (1 : Int32) else (0 : Int32)) else (1 : Int32)) = (0 : Int32) then (if (F_X7_in (((a1 >>> (((8 : Int32) * x4).toInt64 &&& 63)) &&& (255 : Int64)).toInt32) (33 : Int32) (126 : Int32)) = (0 : Int32) then (0 : Int32) else (1 : Int32)) else (if (((a1 >>> (((8 : Int32) * x4).toInt64 &&& 63)) &&& (255 : Int64)).toInt32) = (0 : Int32) then (1 : Int32) else (0 : Int32))))), (6, .int x4), (7, .int (((a1 >>> (((8 : Int32) * x4).toInt64 &&& 63)) &&& (255 : Int64)).toInt32))]) hx hb dX7_appendText_103 rfl hl (by decide) rfl (fun ls hl => ?_)
              refine lv_iinc (v := x4 + (1 : Int32)) (lv' := [(6, .int (x4 + (1 : Int32))), (3, .int (x1 + (if (if x2 = (0 : Int32) then (if (((a1 >>> (((8 : Int32) * x4).toInt64 &&& 63)) &&& (255 : Int64)).toInt32) = (0 : Int32) then (1 : Int32) else (0 : Int32)) else (1 : Int32)) = (0 : Int32) then (1 : Int32) else (0 : Int32)))), (0, .ref (w 0)), (1, .long a1), (4, .int (if x2 = (0 : Int32) then (if (((a1 >>> (((8 : Int32) * x4).toInt64 &&& 63)) &&& (255 : Int64)).toInt32) = (0 : Int32) then (1 : Int32) else (0 : Int32)) else (1 : Int32))), (5, .int (if x3 = (0 : Int32) then (0 : Int32) else (if (if x2 = (0 : Int32) then (if (((a1 >>> (((8 : Int32) * x4).toInt64 &&& 63)) &&& (255 : Int64)).toInt32) = (0 : Int32) then (1 : Int32) else (0 : Int32)) else (1 : Int32)) = (0 : Int32) then (if (F_X7_in (((a1 >>> (((8 : Int32) * x4).toInt64 &&& 63)) &&& (255 : Int64)).toInt32) (33 : Int32) (126 : Int32)) = (0 : Int32) then (0 : Int32) else (1 : Int32)) else (if (((a1 >>> (((8 : Int32) * x4).toInt64 &&& 63)) &&& (255 : Int64)).toInt32) = (0 : Int32) then (1 : Int32) else (0 : Int32))))), (7, .int (((a1 >>> (((8 : Int32) * x4).toInt64 &&& 63)) &&& (255 : Int64)).toInt32))]) hx hb dX7_appendText_104 hl (k := 5) rfl rfl (by decide) rfl (fun ls hl => ?_)
              refine lv_goto (tgt := 16) hx hb dX7_appendText_107 (by decide) ?_
              exact ih (x1 + (if (if x2 = (0 : Int32) then (if (((a1 >>> (((8 : Int32) * x4).toInt64 &&& 63)) &&& (255 : Int64)).toInt32) = (0 : Int32) then (1 : Int32) else (0 : Int32)) else (1 : Int32)) = (0 : Int32) then (1 : Int32) else (0 : Int32))) (if x2 = (0 : Int32) then (if (((a1 >>> (((8 : Int32) * x4).toInt64 &&& 63)) &&& (255 : Int64)).toInt32) = (0 : Int32) then (1 : Int32) else (0 : Int32)) else (1 : Int32)) (if x3 = (0 : Int32) then (0 : Int32) else (if (if x2 = (0 : Int32) then (if (((a1 >>> (((8 : Int32) * x4).toInt64 &&& 63)) &&& (255 : Int64)).toInt32) = (0 : Int32) then (1 : Int32) else (0 : Int32)) else (1 : Int32)) = (0 : Int32) then (if (F_X7_in (((a1 >>> (((8 : Int32) * x4).toInt64 &&& 63)) &&& (255 : Int64)).toInt32) (33 : Int32) (126 : Int32)) = (0 : Int32) then (0 : Int32) else (1 : Int32)) else (if (((a1 >>> (((8 : Int32) * x4).toInt64 &&& 63)) &&& (255 : Int64)).toInt32) = (0 : Int32) then (1 : Int32) else (0 : Int32)))) (x4 + (1 : Int32)) _ _ _ h hP hD hS (lv_sub hl [2, 3, 1, 4, 5, 0] rfl)
            refine lv_if_eq (tgt := 101) hx hb dX7_appendText_94 (by decide) (fun c39 => ?_) (fun c39 => ?_)
            · refine lv_iconst (v := (1 : Int32)) hx hb dX7_appendText_101 (by decide) ?_
              exact J37 _ _ (by rw [if_pos c39]) (lv_sub hl [1, 2, 3, 4, 0, 5, 6] rfl)
            · refine lv_iconst (v := (0 : Int32)) hx hb dX7_appendText_97 (by decide) ?_
              refine lv_goto (tgt := 102) hx hb dX7_appendText_98 (by decide) ?_
              exact J37 _ _ (by rw [if_neg c39]) (lv_sub hl [1, 2, 3, 4, 0, 5, 6] rfl)
          refine lv_if_eq (tgt := 88) hx hb dX7_appendText_56 (by decide) (fun c40 => ?_) (fun c40 => ?_)
          · refine lv_iconst (v := (0 : Int32)) hx hb dX7_appendText_88 (by decide) ?_
            exact J35 _ _ _ _ (by rw [if_pos c40]) hP hS (lv_sub hl [1, 2, 3, 0, 4, 5, 6] rfl)
          · refine lv_iload hx hb dX7_appendText_59 (lv_at hl 0 rfl) ?_
            refine lv_if_eq (tgt := 72) hx hb dX7_appendText_61 (by decide) (fun c41 => ?_) (fun c41 => ?_)
            · refine lv_iload hx hb dX7_appendText_72 (lv_at hl 6 rfl) ?_
              refine lv_bipush (v := (33 : Int32)) hx hb dX7_appendText_74 (by decide) ?_
              refine lv_bipush (v := (126 : Int32)) hx hb dX7_appendText_76 (by decide) ?_
              refine cT_i (As := [.int (((a1 >>> (((8 : Int32) * x4).toInt64 &&& 63)) &&& (255 : Int64)).toInt32), .int (33 : Int32), .int (126 : Int32)]) (rest := []) ⟨hx, hb, hml, hown, hts⟩ (c_X7_in l D y _ (((a1 >>> (((8 : Int32) * x4).toInt64 &&& 63)) &&& (255 : Int64)).toInt32) (33 : Int32) (126 : Int32)) (va_cwS 3 hts gX7_appendText_X7_in rfl rfl rfl hd_X7_in ⟨Nat.le_of_ble_eq_true rfl, Nat.le_of_ble_eq_true rfl⟩) hK hP hD hS hA rfl hl.1 rfl (Nat.le_of_ble_eq_true rfl) dX7_appendText_78 ⟨Nat.le_of_ble_eq_true rfl, Nat.le_of_ble_eq_true rfl⟩ (fun H locs hP hD hS => ?_)
              refine lv_if_eq (tgt := 88) hx hb dX7_appendText_81 (by decide) (fun c42 => ?_) (fun c42 => ?_)
              · refine lv_iconst (v := (0 : Int32)) hx hb dX7_appendText_88 (by decide) ?_
                exact J35 _ _ _ _ (by rw [if_neg c40, if_pos c41, if_pos c42]) hP hS (lv_sub hl [1, 2, 3, 0, 4, 5, 6] rfl)
              · refine lv_iconst (v := (1 : Int32)) hx hb dX7_appendText_84 (by decide) ?_
                refine lv_goto (tgt := 89) hx hb dX7_appendText_85 (by decide) ?_
                exact J35 _ _ _ _ (by rw [if_neg c40, if_pos c41, if_neg c42]) hP hS (lv_sub hl [1, 2, 3, 0, 4, 5, 6] rfl)
            · refine lv_iload hx hb dX7_appendText_64 (lv_at hl 6 rfl) ?_
              refine lv_if_ne (tgt := 88) hx hb dX7_appendText_66 (by decide) (fun c43 => ?_) (fun c43 => ?_)
              · refine lv_iconst (v := (0 : Int32)) hx hb dX7_appendText_88 (by decide) ?_
                exact J35 _ _ _ _ (by rw [if_neg c40, if_neg c41, if_neg c43]) hP hS (lv_sub hl [1, 2, 3, 0, 4, 5, 6] rfl)
              · refine lv_goto (tgt := 84) hx hb dX7_appendText_69 (by decide) ?_
                refine lv_iconst (v := (1 : Int32)) hx hb dX7_appendText_84 (by decide) ?_
                refine lv_goto (tgt := 89) hx hb dX7_appendText_85 (by decide) ?_
                exact J35 _ _ _ _ (by rw [if_neg c40, if_neg c41, if_pos c43]) hP hS (lv_sub hl [1, 2, 3, 0, 4, 5, 6] rfl)
        refine lv_if_ne (tgt := 47) hx hb dX7_appendText_39 (by decide) (fun c44 => ?_) (fun c44 => ?_)
        · refine lv_iconst (v := (1 : Int32)) hx hb dX7_appendText_47 (by decide) ?_
          refine lv_goto (tgt := 52) hx hb dX7_appendText_48 (by decide) ?_
          exact J33 _ _ (by rw [if_neg c44]) (lv_sub hl [1, 2, 3, 4, 5, 6, 0] rfl)
        · refine lv_iload hx hb dX7_appendText_42 (lv_at hl 0 rfl) ?_
          refine lv_if_ne (tgt := 51) hx hb dX7_appendText_44 (by decide) (fun c45 => ?_) (fun c45 => ?_)
          · refine lv_iconst (v := (0 : Int32)) hx hb dX7_appendText_51 (by decide) ?_
            exact J33 _ _ (by rw [if_pos c44, if_neg c45]) (lv_sub hl [1, 2, 3, 4, 5, 6, 0] rfl)
          · refine lv_iconst (v := (1 : Int32)) hx hb dX7_appendText_47 (by decide) ?_
            refine lv_goto (tgt := 52) hx hb dX7_appendText_48 (by decide) ?_
            exact J33 _ _ (by rw [if_pos c44, if_pos c45]) (lv_sub hl [1, 2, 3, 4, 5, 6, 0] rfl)
  exact LP31 FU (0 : Int32) (0 : Int32) (1 : Int32) (0 : Int32) _ _ _ g7 hP hD hS (lv_sub hl [4, 5, 3, 2, 1, 0] rfl)
abbrev rm_X7_clearText : Room := { frames := 0, cells := 0, slots := 0, locals := 0 }
theorem hd_X7_clearText : yX7_clearText.cls = RX7 ∧ yX7_clearText.cls ≠ "java/lang/invoke/MethodHandle" ∧ yX7_clearText.cls ≠ "java/lang/invoke/VarHandle" ∧ (parseMethodDescriptor yX7_clearText.desc).map (fun d => d.parameters.length) = some 0 := by decide +kernel
set_option maxHeartbeats 0 in
set_option maxRecDepth 100000 in
theorem c_X7_clearText (l : Launch) (D : va_G) (w : Nat → Nat) (y : Nat → ClassId) (sz : Nat) (th : Int32) (ms : Nat → Int32) (mst : Nat → Int32) (smn : Int32) (msl : Nat → Int32) (mhs : Nat → Int32) (mtx : Nat → Int32) (mle : Int32) (mat : Int32) (mwl : Int32) (mrd : Nat → Int32) (mrm : Int32) (mtp : Int64) (mbt : Int64) (mtm : Nat → Int32) (mtn : Int32) (mnt : Int32) (mnb : Int32) (mun : Nat → Int32) (mum : Int32) (mau : Int32) (r : Int32) (th' : Int32) (mle' : Int32) (h : F_X7_clearText th mle = some (r, th', mle')) : Met l yX7_clearText wsX7_clearText rm_X7_clearText (va_Pc [.ref (w 0)] (px D y sz (MW w y th ms mst smn msl mhs mtx mle mat mwl mrd mrm mtp mbt mtm mtn mnt mnb mun mum mau))) (Qri D y sz (MW w y th ms mst smn msl mhs mtx mle mat mwl mrd mrm mtp mbt mtm mtn mnt mnb mun mum mau) (MW w y th' ms mst smn msl mhs mtx mle' mat mwl mrd mrm mtp mbt mtm mtn mnt mnb mun mum mau) r) 0 0 (va_A (MW w y th ms mst smn msl mhs mtx mle mat mwl mrd mrm mtp mbt mtm mtn mnt mnb mun mum mau) sz) := by
  refine hd_i (cc := cX7_clearText) (maxL := 2) rfl rfl (Nat.le_of_ble_eq_true rfl) ?_
  intro p e s m args below meth c A Q H locs ls hx hb hml hts hown _ hA hP hD hK hS hl hE
  have hl : lv_has ls 2 [(0, .ref (w 0))] := hl
  have q0 := hts (.fieldLink RX7 35 "SliceSharesModel" "thrown" "I") (by decide +kernel)
  have q1 := hts (.fieldLink RX7 173 "SliceSharesModel" "length" "I") (by decide +kernel)
  have hinRX7 : ∀ w ∈ wsX70, w ∈ wsX7_clearText := by decide +kernel
  unfold F_X7_clearText at h
  refine lv_aload_n hx hb dX7_clearText_0 rfl (lv_at hl 0 rfl) ?_
  refine lv_iconst (v := (0 : Int32)) hx hb dX7_clearText_1 (by decide) ?_
  refine va_put (D := D) (ci := 5) (v := .int (0 : Int32)) (ty := .int) (C := RX7) (T := TX7) (N := 21) hx hb hts hinRX7 tyX7 tyX7_ok nmX7 hown hK hP hD hS 0 rfl rfl 0 (by decide) q0 (fun _ h9 => h9) rfl (by decide +kernel) rfl rfl (Nat.le_of_ble_eq_true rfl) dX7_clearText_2 (fun H locs hP hD hS => ?_)
  have hP : va_P D vwCl (MW w y (0 : Int32) ms mst smn msl mhs mtx mle mat mwl mrd mrm mtp mbt mtm mtn mnt mnb mun mum mau) H := hP
  have hD : va_D A (MW w y (0 : Int32) ms mst smn msl mhs mtx mle mat mwl mrd mrm mtp mbt mtm mtn mnt mnb mun mum mau) := hD
  refine lv_aload_n hx hb dX7_clearText_5 rfl (lv_at hl 0 rfl) ?_
  refine va_get (D := D) (ci := 5) (C := RX7) (T := TX7) (N := 21) hx hb hts hinRX7 hown hK hP 0 rfl rfl 7 (by decide) q1 (fun _ h9 => h9) rfl dX7_clearText_6 ?_
  refine lv_istore_n (lv' := [(1, .int mle), (0, .ref (w 0))]) hx hb dX7_clearText_9 rfl hl (by decide) rfl (fun ls hl => ?_)
  refine lv_aload_n hx hb dX7_clearText_10 rfl (lv_at hl 1 rfl) ?_
  refine lv_iconst (v := (0 : Int32)) hx hb dX7_clearText_11 (by decide) ?_
  refine va_put (D := D) (ci := 5) (v := .int (0 : Int32)) (ty := .int) (C := RX7) (T := TX7) (N := 21) hx hb hts hinRX7 tyX7 tyX7_ok nmX7 hown hK hP hD hS 0 rfl rfl 7 (by decide) q1 (fun _ h9 => h9) rfl (by decide +kernel) rfl rfl (Nat.le_of_ble_eq_true rfl) dX7_clearText_12 (fun H locs hP hD hS => ?_)
  have hP : va_P D vwCl (MW w y (0 : Int32) ms mst smn msl mhs mtx (0 : Int32) mat mwl mrd mrm mtp mbt mtm mtn mnt mnb mun mum mau) H := hP
  have hD : va_D A (MW w y (0 : Int32) ms mst smn msl mhs mtx (0 : Int32) mat mwl mrd mrm mtp mbt mtm mtn mnt mnb mun mum mau) := hD
  refine lv_iload_n hx hb dX7_clearText_15 rfl (lv_at hl 0 rfl) ?_
  cases h
  exact hE _ _ _ _ dX7_clearText_16 hP hD hS
abbrev rm_X7_textLength : Room := { frames := 0, cells := 0, slots := 0, locals := 0 }
theorem hd_X7_textLength : yX7_textLength.cls = RX7 ∧ yX7_textLength.cls ≠ "java/lang/invoke/MethodHandle" ∧ yX7_textLength.cls ≠ "java/lang/invoke/VarHandle" ∧ (parseMethodDescriptor yX7_textLength.desc).map (fun d => d.parameters.length) = some 0 := by decide +kernel
set_option maxHeartbeats 0 in
set_option maxRecDepth 100000 in
theorem c_X7_textLength (l : Launch) (D : va_G) (w : Nat → Nat) (y : Nat → ClassId) (sz : Nat) (th : Int32) (ms : Nat → Int32) (mst : Nat → Int32) (smn : Int32) (msl : Nat → Int32) (mhs : Nat → Int32) (mtx : Nat → Int32) (mle : Int32) (mat : Int32) (mwl : Int32) (mrd : Nat → Int32) (mrm : Int32) (mtp : Int64) (mbt : Int64) (mtm : Nat → Int32) (mtn : Int32) (mnt : Int32) (mnb : Int32) (mun : Nat → Int32) (mum : Int32) (mau : Int32) (r : Int32) (th' : Int32) (h : F_X7_textLength th mle = some (r, th')) : Met l yX7_textLength wsX7_textLength rm_X7_textLength (va_Pc [.ref (w 0)] (px D y sz (MW w y th ms mst smn msl mhs mtx mle mat mwl mrd mrm mtp mbt mtm mtn mnt mnb mun mum mau))) (Qri D y sz (MW w y th ms mst smn msl mhs mtx mle mat mwl mrd mrm mtp mbt mtm mtn mnt mnb mun mum mau) (MW w y th' ms mst smn msl mhs mtx mle mat mwl mrd mrm mtp mbt mtm mtn mnt mnb mun mum mau) r) 0 0 (va_A (MW w y th ms mst smn msl mhs mtx mle mat mwl mrd mrm mtp mbt mtm mtn mnt mnb mun mum mau) sz) := by
  refine hd_i (cc := cX7_textLength) (maxL := 1) rfl rfl (Nat.le_of_ble_eq_true rfl) ?_
  intro p e s m args below meth c A Q H locs ls hx hb hml hts hown _ hA hP hD hK hS hl hE
  have hl : lv_has ls 1 [(0, .ref (w 0))] := hl
  have q0 := hts (.fieldLink RX7 35 "SliceSharesModel" "thrown" "I") (by decide +kernel)
  have q1 := hts (.fieldLink RX7 173 "SliceSharesModel" "length" "I") (by decide +kernel)
  have hinRX7 : ∀ w ∈ wsX70, w ∈ wsX7_textLength := by decide +kernel
  unfold F_X7_textLength at h
  refine lv_aload_n hx hb dX7_textLength_0 rfl (lv_at hl 0 rfl) ?_
  refine lv_iconst (v := (0 : Int32)) hx hb dX7_textLength_1 (by decide) ?_
  refine va_put (D := D) (ci := 5) (v := .int (0 : Int32)) (ty := .int) (C := RX7) (T := TX7) (N := 21) hx hb hts hinRX7 tyX7 tyX7_ok nmX7 hown hK hP hD hS 0 rfl rfl 0 (by decide) q0 (fun _ h9 => h9) rfl (by decide +kernel) rfl rfl (Nat.le_of_ble_eq_true rfl) dX7_textLength_2 (fun H locs hP hD hS => ?_)
  have hP : va_P D vwCl (MW w y (0 : Int32) ms mst smn msl mhs mtx mle mat mwl mrd mrm mtp mbt mtm mtn mnt mnb mun mum mau) H := hP
  have hD : va_D A (MW w y (0 : Int32) ms mst smn msl mhs mtx mle mat mwl mrd mrm mtp mbt mtm mtn mnt mnb mun mum mau) := hD
  refine lv_aload_n hx hb dX7_textLength_5 rfl (lv_at hl 0 rfl) ?_
  refine va_get (D := D) (ci := 5) (C := RX7) (T := TX7) (N := 21) hx hb hts hinRX7 hown hK hP 0 rfl rfl 7 (by decide) q1 (fun _ h9 => h9) rfl dX7_textLength_6 ?_
  cases h
  exact hE _ _ _ _ dX7_textLength_9 hP hD hS
abbrev rm_X7_sign : Room := { frames := 0, cells := 0, slots := 0, locals := 0 }
theorem hd_X7_sign : yX7_sign.cls = RX7 ∧ yX7_sign.cls ≠ "java/lang/invoke/MethodHandle" ∧ yX7_sign.cls ≠ "java/lang/invoke/VarHandle" ∧ (parseMethodDescriptor yX7_sign.desc).map (fun d => d.parameters.length) = some 0 := by decide +kernel
set_option maxHeartbeats 0 in
set_option maxRecDepth 100000 in
theorem c_X7_sign (l : Launch) (D : va_G) (w : Nat → Nat) (y : Nat → ClassId) (sz : Nat) (th : Int32) (ms : Nat → Int32) (mst : Nat → Int32) (smn : Int32) (msl : Nat → Int32) (mhs : Nat → Int32) (mtx : Nat → Int32) (mle : Int32) (mat : Int32) (mwl : Int32) (mrd : Nat → Int32) (mrm : Int32) (mtp : Int64) (mbt : Int64) (mtm : Nat → Int32) (mtn : Int32) (mnt : Int32) (mnb : Int32) (mun : Nat → Int32) (mum : Int32) (mau : Int32) (r : Int32) (h : F_X7_sign mtx mle mat = some r) : Met l yX7_sign wsX7_sign rm_X7_sign (va_Pc [.ref (w 0)] (px D y sz (MW w y th ms mst smn msl mhs mtx mle mat mwl mrd mrm mtp mbt mtm mtn mnt mnb mun mum mau))) (Qri D y sz (MW w y th ms mst smn msl mhs mtx mle mat mwl mrd mrm mtp mbt mtm mtn mnt mnb mun mum mau) (MW w y th ms mst smn msl mhs mtx mle mat mwl mrd mrm mtp mbt mtm mtn mnt mnb mun mum mau) r) 0 0 (va_A (MW w y th ms mst smn msl mhs mtx mle mat mwl mrd mrm mtp mbt mtm mtn mnt mnb mun mum mau) sz) := by
  refine hd_i (cc := cX7_sign) (maxL := 1) rfl rfl (Nat.le_of_ble_eq_true rfl) ?_
  intro p e s m args below meth c A Q H locs ls hx hb hml hts hown _ hA hP hD hK hS hl hE
  have hl : lv_has ls 1 [(0, .ref (w 0))] := hl
  have q0 := hts (.fieldLink RX7 176 "SliceSharesModel" "at" "I") (by decide +kernel)
  have q1 := hts (.fieldLink RX7 173 "SliceSharesModel" "length" "I") (by decide +kernel)
  have q2 := hts (.fieldLink RX7 23 "SliceSharesModel" "text" "[I") (by decide +kernel)
  have hinRX7 : ∀ w ∈ wsX70, w ∈ wsX7_sign := by decide +kernel
  unfold F_X7_sign at h
  refine lv_aload_n hx hb dX7_sign_0 rfl (lv_at hl 0 rfl) ?_
  refine va_get (D := D) (ci := 5) (C := RX7) (T := TX7) (N := 21) hx hb hts hinRX7 hown hK hP 0 rfl rfl 8 (by decide) q0 (fun _ h9 => h9) rfl dX7_sign_1 ?_
  refine lv_aload_n hx hb dX7_sign_4 rfl (lv_at hl 0 rfl) ?_
  refine va_get (D := D) (ci := 5) (C := RX7) (T := TX7) (N := 21) hx hb hts hinRX7 hown hK hP 0 rfl rfl 7 (by decide) q1 (fun _ h9 => h9) rfl dX7_sign_5 ?_
  refine lv_icmp_ge (tgt := 23) hx hb dX7_sign_8 (by decide) (fun c1 => ?_) (fun c1 => ?_)
  · replace h := fT c1 h
    refine lv_iconst (v := (0 : Int32)) hx hb dX7_sign_23 (by decide) ?_
    cases h
    exact hE _ _ _ _ dX7_sign_24 hP hD hS
  · replace h := fF c1 h
    refine lv_aload_n hx hb dX7_sign_11 rfl (lv_at hl 0 rfl) ?_
    refine va_get (D := D) (ci := 5) (C := RX7) (T := TX7) (N := 21) hx hb hts hinRX7 hown hK hP 0 rfl rfl 6 (by decide) q2 (fun _ h9 => h9) rfl dX7_sign_12 ?_
    refine lv_aload_n hx hb dX7_sign_15 rfl (lv_at hl 0 rfl) ?_
    refine va_get (D := D) (ci := 5) (C := RX7) (T := TX7) (N := 21) hx hb hts hinRX7 hown hK hP 0 rfl rfl 8 (by decide) q0 (fun _ h9 => h9) rfl dX7_sign_16 ?_
    obtain ⟨g2, h⟩ := fG h
    refine va_iald hx hb hK hP 5 0 rfl rfl g2 dX7_sign_19 ?_
    refine lv_goto (tgt := 24) hx hb dX7_sign_20 (by decide) ?_
    cases h
    exact hE _ _ _ _ dX7_sign_24 hP hD hS
abbrev rm_X7_takes : Room := { frames := 1, cells := 0, slots := 0, locals := 22 }
theorem hd_X7_takes : yX7_takes.cls = RX7 ∧ yX7_takes.cls ≠ "java/lang/invoke/MethodHandle" ∧ yX7_takes.cls ≠ "java/lang/invoke/VarHandle" ∧ (parseMethodDescriptor yX7_takes.desc).map (fun d => d.parameters.length) = some 2 := by decide +kernel
set_option maxHeartbeats 0 in
set_option maxRecDepth 100000 in
theorem c_X7_takes (l : Launch) (D : va_G) (w : Nat → Nat) (y : Nat → ClassId) (sz : Nat) (th : Int32) (ms : Nat → Int32) (mst : Nat → Int32) (smn : Int32) (msl : Nat → Int32) (mhs : Nat → Int32) (mtx : Nat → Int32) (mle : Int32) (mat : Int32) (mwl : Int32) (mrd : Nat → Int32) (mrm : Int32) (mtp : Int64) (mbt : Int64) (mtm : Nat → Int32) (mtn : Int32) (mnt : Int32) (mnb : Int32) (mun : Nat → Int32) (mum : Int32) (mau : Int32) (a1 : Int32) (a2 : Int32) (r : Int32) (mat' : Int32) (mwl' : Int32) (h : F_X7_takes mtx mle mat mwl a1 a2 = some (r, mat', mwl')) : Met l yX7_takes wsX7_takes rm_X7_takes (va_Pc [.ref (w 0), .int a1, .int a2] (px D y sz (MW w y th ms mst smn msl mhs mtx mle mat mwl mrd mrm mtp mbt mtm mtn mnt mnb mun mum mau))) (Qri D y sz (MW w y th ms mst smn msl mhs mtx mle mat mwl mrd mrm mtp mbt mtm mtn mnt mnb mun mum mau) (MW w y th ms mst smn msl mhs mtx mle mat' mwl' mrd mrm mtp mbt mtm mtn mnt mnb mun mum mau) r) 0 0 (va_A (MW w y th ms mst smn msl mhs mtx mle mat mwl mrd mrm mtp mbt mtm mtn mnt mnb mun mum mau) sz) := by
  refine hd_i (cc := cX7_takes) (maxL := 4) rfl rfl (Nat.le_of_ble_eq_true rfl) ?_
  intro p e s m args below meth c A Q H locs ls hx hb hml hts hown _ hA hP hD hK hS hl hE
  have hl : lv_has ls 4 [(0, .ref (w 0)), (1, .int a1), (2, .int a2)] := hl
  have q0 := hts (.fieldLink RX7 179 "SliceSharesModel" "isWell" "Z") (by decide +kernel)
  have q1 := hts (.fieldLink RX7 176 "SliceSharesModel" "at" "I") (by decide +kernel)
  have hinRX7 : ∀ w ∈ wsX70, w ∈ wsX7_takes := by decide +kernel
  unfold F_X7_takes at h
  refine lv_aload_n hx hb dX7_takes_0 rfl (lv_at hl 0 rfl) ?_
  refine lv_aload_n hx hb dX7_takes_1 rfl (lv_at hl 0 rfl) ?_
  refine va_get (D := D) (ci := 5) (C := RX7) (T := TX7) (N := 21) hx hb hts hinRX7 hown hK hP 0 rfl rfl 9 (by decide) q0 (fun _ h9 => h9) rfl dX7_takes_2 ?_
  obtain ⟨v1, g2, h⟩ := fB1 h
  have J3 : ∀ (H : Heap) (locs : List Loc) (ls : Array Slot), va_P D vwCl (MW w y th ms mst smn msl mhs mtx mle mat mwl mrd mrm mtp mbt mtm mtn mnt mnb mun mum mau) H → va_D A (MW w y th ms mst smn msl mhs mtx mle mat mwl mrd mrm mtp mbt mtm mtn mnt mnb mun mum mau) → va_S A s.heap H locs → lv_has ls 4 [(0, .ref (w 0)), (1, .int a1), (2, .int a2)] → W p l e rm_X7_takes s m args below meth c H locs 0 0 Q (F0 m 25 ls [.int v1, .ref (w 0)]) := by
    intro H locs ls hP hD hS hl
    obtain ⟨g4, h⟩ := fG h
    refine va_put (D := D) (ci := 5) (v := .int v1) (ty := .boolean) (C := RX7) (T := TX7) (N := 21) hx hb hts hinRX7 tyX7 tyX7_ok nmX7 hown hK hP hD hS 0 rfl rfl 9 (by decide) q0 (fun _ h9 => h9) rfl (by decide +kernel) (nz01 (Classical.not_not.mp g4)) (fz01 (Classical.not_not.mp g4)) (Nat.le_of_ble_eq_true rfl) dX7_takes_25 (fun H locs hP hD hS => ?_)
    have hP : va_P D vwCl (MW w y th ms mst smn msl mhs mtx mle mat v1 mrd mrm mtp mbt mtm mtn mnt mnb mun mum mau) H := hP
    have hD : va_D A (MW w y th ms mst smn msl mhs mtx mle mat v1 mrd mrm mtp mbt mtm mtn mnt mnb mun mum mau) := hD
    refine lv_aload_n hx hb dX7_takes_28 rfl (lv_at hl 0 rfl) ?_
    obtain ⟨r5, g6, h⟩ := fB1 h
    refine cV_i (As := []) (rest := []) (ws1 := (MW w y th ms mst smn msl mhs mtx mle mat v1 mrd mrm mtp mbt mtm mtn mnt mnb mun mum mau)) ⟨hx, hb, hml, hown, hts⟩ (c_X7_sign l D w y _ th ms mst smn msl mhs mtx mle mat v1 mrd mrm mtp mbt mtm mtn mnt mnb mun mum mau r5 g6) (cwV 0 hts gX7_takes_X7_sign rfl rfl rfl hd_X7_sign ⟨Nat.le_of_ble_eq_true rfl, Nat.le_of_ble_eq_true rfl⟩) hK hP hD hS hA [0, 1, 2, 3, 4, 5, 6, 7, 8] [] [0, 1, 2, 3, 4, 5, 6, 7, 8] rfl rfl rfl (by decide) rfl rfl rfl 0 (ci := 5) rfl rfl rfl hl.1 rfl (Nat.le_of_ble_eq_true rfl) dX7_takes_29 ⟨Nat.le_of_ble_eq_true rfl, Nat.le_of_ble_eq_true rfl⟩ (fun H locs hP hD hS => ?_)
    refine lv_bipush (v := (48 : Int32)) hx hb dX7_takes_32 (by decide) ?_
    refine lv_isub hx hb dX7_takes_34 ?_
    refine lv_istore_n (lv' := [(3, .int (r5 - (48 : Int32))), (0, .ref (w 0)), (1, .int a1), (2, .int a2)]) hx hb dX7_takes_35 rfl hl (by decide) rfl (fun ls hl => ?_)
    refine lv_aload_n hx hb dX7_takes_36 rfl (lv_at hl 1 rfl) ?_
    refine lv_dup hx hb dX7_takes_37 rfl ?_
    refine va_get (D := D) (ci := 5) (C := RX7) (T := TX7) (N := 21) hx hb hts hinRX7 hown hK hP 0 rfl rfl 8 (by decide) q1 (fun _ h9 => h9) rfl dX7_takes_38 ?_
    refine lv_aload_n hx hb dX7_takes_41 rfl (lv_at hl 1 rfl) ?_
    refine va_get (D := D) (ci := 5) (C := RX7) (T := TX7) (N := 21) hx hb hts hinRX7 hown hK hP 0 rfl rfl 9 (by decide) q0 (fun _ h9 => h9) rfl dX7_takes_42 ?_
    have J7 : ∀ (v8 : Int32) (ls : Array Slot), v8 = (if v1 = (0 : Int32) then (0 : Int32) else (1 : Int32)) → lv_has ls 4 [(0, .ref (w 0)), (1, .int a1), (2, .int a2), (3, .int (r5 - (48 : Int32)))] → W p l e rm_X7_takes s m args below meth c H locs 0 0 Q (F0 m 53 ls [.int v8, .int mat, .ref (w 0)]) := by
      intro v8 ls ev8 hl
      subst ev8
      refine lv_iadd hx hb dX7_takes_53 ?_
      refine va_put (D := D) (ci := 5) (v := .int (mat + (if v1 = (0 : Int32) then (0 : Int32) else (1 : Int32)))) (ty := .int) (C := RX7) (T := TX7) (N := 21) hx hb hts hinRX7 tyX7 tyX7_ok nmX7 hown hK hP hD hS 0 rfl rfl 8 (by decide) q1 (fun _ h9 => h9) rfl (by decide +kernel) rfl rfl (Nat.le_of_ble_eq_true rfl) dX7_takes_54 (fun H locs hP hD hS => ?_)
      have hP : va_P D vwCl (MW w y th ms mst smn msl mhs mtx mle (mat + (if v1 = (0 : Int32) then (0 : Int32) else (1 : Int32))) v1 mrd mrm mtp mbt mtm mtn mnt mnb mun mum mau) H := hP
      have hD : va_D A (MW w y th ms mst smn msl mhs mtx mle (mat + (if v1 = (0 : Int32) then (0 : Int32) else (1 : Int32))) v1 mrd mrm mtp mbt mtm mtn mnt mnb mun mum mau) := hD
      refine lv_iload_n hx hb dX7_takes_57 rfl (lv_at hl 3 rfl) ?_
      cases h
      exact hE _ _ _ _ dX7_takes_58 hP hD hS
    refine lv_if_eq (tgt := 52) hx hb dX7_takes_45 (by decide) (fun c9 => ?_) (fun c9 => ?_)
    · refine lv_iconst (v := (0 : Int32)) hx hb dX7_takes_52 (by decide) ?_
      exact J7 _ _ (by rw [if_pos c9]) (lv_sub hl [1, 2, 3, 0] rfl)
    · refine lv_iconst (v := (1 : Int32)) hx hb dX7_takes_48 (by decide) ?_
      refine lv_goto (tgt := 53) hx hb dX7_takes_49 (by decide) ?_
      exact J7 _ _ (by rw [if_neg c9]) (lv_sub hl [1, 2, 3, 0] rfl)
  refine lv_if_eq (tgt := 24) hx hb dX7_takes_5 (by decide) (fun c10 => ?_) (fun c10 => ?_)
  · replace g2 := fT c10 g2
    refine lv_iconst (v := (0 : Int32)) hx hb dX7_takes_24 (by decide) ?_
    cases g2
    exact J3 _ _ _ hP hD hS (lv_sub hl [0, 1, 2] rfl)
  · replace g2 := fF c10 g2
    refine lv_aload_n hx hb dX7_takes_8 rfl (lv_at hl 0 rfl) ?_
    obtain ⟨r11, g12, g2⟩ := fB1 g2
    refine cV_i (As := []) (rest := [.ref (w 0)]) (ws1 := (MW w y th ms mst smn msl mhs mtx mle mat mwl mrd mrm mtp mbt mtm mtn mnt mnb mun mum mau)) ⟨hx, hb, hml, hown, hts⟩ (c_X7_sign l D w y _ th ms mst smn msl mhs mtx mle mat mwl mrd mrm mtp mbt mtm mtn mnt mnb mun mum mau r11 g12) (cwV 0 hts gX7_takes_X7_sign rfl rfl rfl hd_X7_sign ⟨Nat.le_of_ble_eq_true rfl, Nat.le_of_ble_eq_true rfl⟩) hK hP hD hS hA [0, 1, 2, 3, 4, 5, 6, 7, 8] [] [0, 1, 2, 3, 4, 5, 6, 7, 8] rfl rfl rfl (by decide) rfl rfl rfl 0 (ci := 5) rfl rfl rfl hl.1 rfl (Nat.le_of_ble_eq_true rfl) dX7_takes_9 ⟨Nat.le_of_ble_eq_true rfl, Nat.le_of_ble_eq_true rfl⟩ (fun H locs hP hD hS => ?_)
    refine lv_iload_n hx hb dX7_takes_12 rfl (lv_at hl 1 rfl) ?_
    refine lv_iload_n hx hb dX7_takes_13 rfl (lv_at hl 2 rfl) ?_
    refine cT_i (As := [.int r11, .int a1, .int a2]) (rest := [.ref (w 0)]) ⟨hx, hb, hml, hown, hts⟩ (c_X7_in l D y _ r11 a1 a2) (va_cwS 3 hts gX7_takes_X7_in rfl rfl rfl hd_X7_in ⟨Nat.le_of_ble_eq_true rfl, Nat.le_of_ble_eq_true rfl⟩) hK hP hD hS hA rfl hl.1 rfl (Nat.le_of_ble_eq_true rfl) dX7_takes_14 ⟨Nat.le_of_ble_eq_true rfl, Nat.le_of_ble_eq_true rfl⟩ (fun H locs hP hD hS => ?_)
    refine lv_if_eq (tgt := 24) hx hb dX7_takes_17 (by decide) (fun c13 => ?_) (fun c13 => ?_)
    · replace g2 := fT c13 g2
      refine lv_iconst (v := (0 : Int32)) hx hb dX7_takes_24 (by decide) ?_
      cases g2
      exact J3 _ _ _ hP hD hS (lv_sub hl [0, 1, 2] rfl)
    · replace g2 := fF c13 g2
      refine lv_iconst (v := (1 : Int32)) hx hb dX7_takes_20 (by decide) ?_
      refine lv_goto (tgt := 25) hx hb dX7_takes_21 (by decide) ?_
      cases g2
      exact J3 _ _ _ hP hD hS (lv_sub hl [0, 1, 2] rfl)
abbrev rm_X7_number : Room := { frames := 2, cells := 0, slots := 0, locals := 45 }
theorem hd_X7_number : yX7_number.cls = RX7 ∧ yX7_number.cls ≠ "java/lang/invoke/MethodHandle" ∧ yX7_number.cls ≠ "java/lang/invoke/VarHandle" ∧ (parseMethodDescriptor yX7_number.desc).map (fun d => d.parameters.length) = some 0 := by decide +kernel
set_option maxHeartbeats 0 in
set_option maxRecDepth 100000 in
theorem c_X7_number (l : Launch) (D : va_G) (w : Nat → Nat) (y : Nat → ClassId) (sz : Nat) (th : Int32) (ms : Nat → Int32) (mst : Nat → Int32) (smn : Int32) (msl : Nat → Int32) (mhs : Nat → Int32) (mtx : Nat → Int32) (mle : Int32) (mat : Int32) (mwl : Int32) (mrd : Nat → Int32) (mrm : Int32) (mtp : Int64) (mbt : Int64) (mtm : Nat → Int32) (mtn : Int32) (mnt : Int32) (mnb : Int32) (mun : Nat → Int32) (mum : Int32) (mau : Int32) (r : Int32) (mat' : Int32) (mwl' : Int32) (h : F_X7_number mtx mle mat mwl = some (r, mat', mwl')) : Met l yX7_number wsX7_number rm_X7_number (va_Pc [.ref (w 0)] (px D y sz (MW w y th ms mst smn msl mhs mtx mle mat mwl mrd mrm mtp mbt mtm mtn mnt mnb mun mum mau))) (Qri D y sz (MW w y th ms mst smn msl mhs mtx mle mat mwl mrd mrm mtp mbt mtm mtn mnt mnb mun mum mau) (MW w y th ms mst smn msl mhs mtx mle mat' mwl' mrd mrm mtp mbt mtm mtn mnt mnb mun mum mau) r) 0 0 (va_A (MW w y th ms mst smn msl mhs mtx mle mat mwl mrd mrm mtp mbt mtm mtn mnt mnb mun mum mau) sz) := by
  refine hd_i (cc := cX7_number) (maxL := 2) rfl rfl (Nat.le_of_ble_eq_true rfl) ?_
  intro p e s m args below meth c A Q H locs ls hx hb hml hts hown _ hA hP hD hK hS hl hE
  have hl : lv_has ls 2 [(0, .ref (w 0))] := hl
  have q0 := hts (.fieldLink RX7 179 "SliceSharesModel" "isWell" "Z") (by decide +kernel)
  have q1 := hts (.fieldLink RX7 176 "SliceSharesModel" "at" "I") (by decide +kernel)
  have hinRX7 : ∀ w ∈ wsX70, w ∈ wsX7_number := by decide +kernel
  unfold F_X7_number at h
  refine lv_aload_n hx hb dX7_number_0 rfl (lv_at hl 0 rfl) ?_
  refine lv_bipush (v := (48 : Int32)) hx hb dX7_number_1 (by decide) ?_
  refine lv_bipush (v := (57 : Int32)) hx hb dX7_number_3 (by decide) ?_
  obtain ⟨r1, mat2, mwl3, g4, h⟩ := fB3 h
  refine cV_i (As := [.int (48 : Int32), .int (57 : Int32)]) (rest := []) (ws1 := (MW w y th ms mst smn msl mhs mtx mle mat2 mwl3 mrd mrm mtp mbt mtm mtn mnt mnb mun mum mau)) ⟨hx, hb, hml, hown, hts⟩ (c_X7_takes l D w y _ th ms mst smn msl mhs mtx mle mat mwl mrd mrm mtp mbt mtm mtn mnt mnb mun mum mau (48 : Int32) (57 : Int32) r1 mat2 mwl3 g4) (cwV 2 hts gX7_number_X7_takes rfl rfl rfl hd_X7_takes ⟨Nat.le_of_ble_eq_true rfl, Nat.le_of_ble_eq_true rfl⟩) hK hP hD hS hA [0, 1, 2, 3, 4, 5, 6, 7, 8] [] [0, 1, 2, 3, 4, 5, 6, 7, 8] rfl rfl rfl (by decide) rfl rfl rfl 0 (ci := 5) rfl rfl rfl hl.1 rfl (Nat.le_of_ble_eq_true rfl) dX7_number_5 ⟨Nat.le_of_ble_eq_true rfl, Nat.le_of_ble_eq_true rfl⟩ (fun H locs hP hD hS => ?_)
  refine lv_istore_n (lv' := [(1, .int r1), (0, .ref (w 0))]) hx hb dX7_number_8 rfl hl (by decide) rfl (fun ls hl => ?_)
  obtain ⟨v7, mat8, g9, h⟩ := fB2 h
  have J10 : ∀ (H : Heap) (locs : List Loc) (ls : Array Slot), va_P D vwCl (MW w y th ms mst smn msl mhs mtx mle mat8 mwl3 mrd mrm mtp mbt mtm mtn mnt mnb mun mum mau) H → va_D A (MW w y th ms mst smn msl mhs mtx mle mat8 mwl3 mrd mrm mtp mbt mtm mtn mnt mnb mun mum mau) → va_S A s.heap H locs → lv_has ls 2 [(1, .int v7)] → W p l e rm_X7_number s m args below meth c H locs 0 0 Q (F0 m 67 ls []) := by
    intro H locs ls hP hD hS hl
    refine lv_iload_n hx hb dX7_number_67 rfl (lv_at hl 0 rfl) ?_
    cases h
    exact hE _ _ _ _ dX7_number_68 hP hD hS
  have LP11 : ∀ (n : Nat) (x5 : Int32) (mat6 : Int32) (H : Heap) (locs : List Loc) (ls : Array Slot), L_X7_number_9 n x5 mtx mle mat6 mwl3 = some (v7, mat8) → va_P D vwCl (MW w y th ms mst smn msl mhs mtx mle mat6 mwl3 mrd mrm mtp mbt mtm mtn mnt mnb mun mum mau) H → va_D A (MW w y th ms mst smn msl mhs mtx mle mat6 mwl3 mrd mrm mtp mbt mtm mtn mnt mnb mun mum mau) → va_S A s.heap H locs → lv_has ls 2 [(0, .ref (w 0)), (1, .int x5)] → W p l e rm_X7_number s m args below meth c H locs 0 0 Q (F0 m 9 ls []) := by
    intro n
    induction n with
    | zero => intro x5 mat6 H locs ls h hP hD hS hl; exact fN h
    | succ n ih =>
      intro x5 mat6 H locs ls h hP hD hS hl
      replace h := (L_X7_number_9_s n x5 mtx mle mat6 mwl3).symm.trans h
      refine lv_aload_n hx hb dX7_number_9 rfl (lv_at hl 0 rfl) ?_
      refine va_get (D := D) (ci := 5) (C := RX7) (T := TX7) (N := 21) hx hb hts hinRX7 hown hK hP 0 rfl rfl 9 (by decide) q0 (fun _ h9 => h9) rfl dX7_number_10 ?_
      refine lv_if_eq (tgt := 67) hx hb dX7_number_13 (by decide) (fun c12 => ?_) (fun c12 => ?_)
      · replace h := fT c12 h
        cases h
        exact J10 _ _ _ hP hD hS (lv_sub hl [1] rfl)
      · replace h := fF c12 h
        refine lv_iload_n hx hb dX7_number_16 rfl (lv_at hl 1 rfl) ?_
        refine lv_if_le (tgt := 67) hx hb dX7_number_17 (by decide) (fun c13 => ?_) (fun c13 => ?_)
        · replace h := fT c13 h
          cases h
          exact J10 _ _ _ hP hD hS (lv_sub hl [1] rfl)
        · replace h := fF c13 h
          refine lv_iload_n hx hb dX7_number_20 rfl (lv_at hl 1 rfl) ?_
          refine lv_sipush (v := (1000 : Int32)) hx hb dX7_number_21 (by decide) ?_
          refine lv_icmp_ge (tgt := 67) hx hb dX7_number_24 (by decide) (fun c14 => ?_) (fun c14 => ?_)
          · replace h := fT c14 h
            cases h
            exact J10 _ _ _ hP hD hS (lv_sub hl [1] rfl)
          · replace h := fF c14 h
            refine lv_aload_n hx hb dX7_number_27 rfl (lv_at hl 0 rfl) ?_
            obtain ⟨r15, g16, h⟩ := fB1 h
            refine cV_i (As := []) (rest := []) (ws1 := (MW w y th ms mst smn msl mhs mtx mle mat6 mwl3 mrd mrm mtp mbt mtm mtn mnt mnb mun mum mau)) ⟨hx, hb, hml, hown, hts⟩ (c_X7_sign l D w y _ th ms mst smn msl mhs mtx mle mat6 mwl3 mrd mrm mtp mbt mtm mtn mnt mnb mun mum mau r15 g16) (cwV 0 hts gX7_number_X7_sign rfl rfl rfl hd_X7_sign ⟨Nat.le_of_ble_eq_true rfl, Nat.le_of_ble_eq_true rfl⟩) hK hP hD hS hA [0, 1, 2, 3, 4, 5, 6, 7, 8] [] [0, 1, 2, 3, 4, 5, 6, 7, 8] rfl rfl rfl (by decide) rfl rfl rfl 0 (ci := 5) rfl rfl rfl hl.1 rfl (Nat.le_of_ble_eq_true rfl) dX7_number_28 ⟨Nat.le_of_ble_eq_true rfl, Nat.le_of_ble_eq_true rfl⟩ (fun H locs hP hD hS => ?_)
            refine lv_bipush (v := (48 : Int32)) hx hb dX7_number_31 (by decide) ?_
            refine lv_bipush (v := (57 : Int32)) hx hb dX7_number_33 (by decide) ?_
            refine cT_i (As := [.int r15, .int (48 : Int32), .int (57 : Int32)]) (rest := []) ⟨hx, hb, hml, hown, hts⟩ (c_X7_in l D y _ r15 (48 : Int32) (57 : Int32)) (va_cwS 3 hts gX7_number_X7_in rfl rfl rfl hd_X7_in ⟨Nat.le_of_ble_eq_true rfl, Nat.le_of_ble_eq_true rfl⟩) hK hP hD hS hA rfl hl.1 rfl (Nat.le_of_ble_eq_true rfl) dX7_number_35 ⟨Nat.le_of_ble_eq_true rfl, Nat.le_of_ble_eq_true rfl⟩ (fun H locs hP hD hS => ?_)
            refine lv_if_eq (tgt := 67) hx hb dX7_number_38 (by decide) (fun c17 => ?_) (fun c17 => ?_)
            · replace h := fT c17 h
              cases h
              exact J10 _ _ _ hP hD hS (lv_sub hl [1] rfl)
            · replace h := fF c17 h
              refine lv_bipush (v := (10 : Int32)) hx hb dX7_number_41 (by decide) ?_
              refine lv_iload_n hx hb dX7_number_43 rfl (lv_at hl 1 rfl) ?_
              refine lv_imul hx hb dX7_number_44 ?_
              refine lv_aload_n hx hb dX7_number_45 rfl (lv_at hl 0 rfl) ?_
              obtain ⟨r18, g19, h⟩ := fB1 h
              refine cV_i (As := []) (rest := [.int ((10 : Int32) * x5)]) (ws1 := (MW w y th ms mst smn msl mhs mtx mle mat6 mwl3 mrd mrm mtp mbt mtm mtn mnt mnb mun mum mau)) ⟨hx, hb, hml, hown, hts⟩ (c_X7_sign l D w y _ th ms mst smn msl mhs mtx mle mat6 mwl3 mrd mrm mtp mbt mtm mtn mnt mnb mun mum mau r18 g19) (cwV 0 hts gX7_number_X7_sign rfl rfl rfl hd_X7_sign ⟨Nat.le_of_ble_eq_true rfl, Nat.le_of_ble_eq_true rfl⟩) hK hP hD hS hA [0, 1, 2, 3, 4, 5, 6, 7, 8] [] [0, 1, 2, 3, 4, 5, 6, 7, 8] rfl rfl rfl (by decide) rfl rfl rfl 0 (ci := 5) rfl rfl rfl hl.1 rfl (Nat.le_of_ble_eq_true rfl) dX7_number_46 ⟨Nat.le_of_ble_eq_true rfl, Nat.le_of_ble_eq_true rfl⟩ (fun H locs hP hD hS => ?_)
              refine lv_iadd hx hb dX7_number_49 ?_
              refine lv_bipush (v := (48 : Int32)) hx hb dX7_number_50 (by decide) ?_
              refine lv_isub hx hb dX7_number_52 ?_
              refine lv_istore_n (lv' := [(1, .int ((((10 : Int32) * x5) + r18) - (48 : Int32))), (0, .ref (w 0))]) hx hb dX7_number_53 rfl hl (by decide) rfl (fun ls hl => ?_)
              refine lv_aload_n hx hb dX7_number_54 rfl (lv_at hl 1 rfl) ?_
              refine lv_dup hx hb dX7_number_55 rfl ?_
              refine va_get (D := D) (ci := 5) (C := RX7) (T := TX7) (N := 21) hx hb hts hinRX7 hown hK hP 0 rfl rfl 8 (by decide) q1 (fun _ h9 => h9) rfl dX7_number_56 ?_
              refine lv_iconst (v := (1 : Int32)) hx hb dX7_number_59 (by decide) ?_
              refine lv_iadd hx hb dX7_number_60 ?_
              refine va_put (D := D) (ci := 5) (v := .int (mat6 + (1 : Int32))) (ty := .int) (C := RX7) (T := TX7) (N := 21) hx hb hts hinRX7 tyX7 tyX7_ok nmX7 hown hK hP hD hS 0 rfl rfl 8 (by decide) q1 (fun _ h9 => h9) rfl (by decide +kernel) rfl rfl (Nat.le_of_ble_eq_true rfl) dX7_number_61 (fun H locs hP hD hS => ?_)
              have hP : va_P D vwCl (MW w y th ms mst smn msl mhs mtx mle (mat6 + (1 : Int32)) mwl3 mrd mrm mtp mbt mtm mtn mnt mnb mun mum mau) H := hP
              have hD : va_D A (MW w y th ms mst smn msl mhs mtx mle (mat6 + (1 : Int32)) mwl3 mrd mrm mtp mbt mtm mtn mnt mnb mun mum mau) := hD
              refine lv_goto (tgt := 9) hx hb dX7_number_64 (by decide) ?_
              exact ih ((((10 : Int32) * x5) + r18) - (48 : Int32)) (mat6 + (1 : Int32)) _ _ _ h hP hD hS (lv_sub hl [1, 0] rfl)
  exact LP11 FU r1 mat2 _ _ _ g9 hP hD hS (lv_sub hl [1, 0] rfl)
abbrev rm_X7_readsCommand : Room := { frames := 3, cells := 0, slots := 0, locals := 66 }
theorem hd_X7_readsCommand : yX7_readsCommand.cls = RX7 ∧ yX7_readsCommand.cls ≠ "java/lang/invoke/MethodHandle" ∧ yX7_readsCommand.cls ≠ "java/lang/invoke/VarHandle" ∧ (parseMethodDescriptor yX7_readsCommand.desc).map (fun d => d.parameters.length) = some 0 := by decide +kernel
set_option maxHeartbeats 0 in
set_option maxRecDepth 100000 in
theorem c_X7_readsCommand (l : Launch) (D : va_G) (w : Nat → Nat) (y : Nat → ClassId) (sz : Nat) (th : Int32) (ms : Nat → Int32) (mst : Nat → Int32) (smn : Int32) (msl : Nat → Int32) (mhs : Nat → Int32) (mtx : Nat → Int32) (mle : Int32) (mat : Int32) (mwl : Int32) (mrd : Nat → Int32) (mrm : Int32) (mtp : Int64) (mbt : Int64) (mtm : Nat → Int32) (mtn : Int32) (mnt : Int32) (mnb : Int32) (mun : Nat → Int32) (mum : Int32) (mau : Int32) (mat' : Int32) (mwl' : Int32) (mrd' : Nat → Int32) (mrm' : Int32) (h : F_X7_readsCommand mtx mle mat mwl mrd mrm = some (mat', mwl', mrd', mrm')) : Met l yX7_readsCommand wsX7_readsCommand rm_X7_readsCommand (va_Pc [.ref (w 0)] (px D y sz (MW w y th ms mst smn msl mhs mtx mle mat mwl mrd mrm mtp mbt mtm mtn mnt mnb mun mum mau))) (Qrv D y sz (MW w y th ms mst smn msl mhs mtx mle mat mwl mrd mrm mtp mbt mtm mtn mnt mnb mun mum mau) (MW w y th ms mst smn msl mhs mtx mle mat' mwl' mrd' mrm' mtp mbt mtm mtn mnt mnb mun mum mau)) 0 0 (va_A (MW w y th ms mst smn msl mhs mtx mle mat mwl mrd mrm mtp mbt mtm mtn mnt mnb mun mum mau) sz) := by
  refine hd_v (cc := cX7_readsCommand) (maxL := 3) rfl rfl (Nat.le_of_ble_eq_true rfl) ?_
  intro p e s m args below meth c A Q H locs ls hx hb hml hts hown _ hA hP hD hK hS hl hE
  have hl : lv_has ls 3 [(0, .ref (w 0))] := hl
  have q0 := hts (.fieldLink RX7 189 "SliceSharesModel" "readMany" "I") (by decide +kernel)
  have q1 := hts (.fieldLink RX7 179 "SliceSharesModel" "isWell" "Z") (by decide +kernel)
  have q2 := hts (.fieldLink RX7 176 "SliceSharesModel" "at" "I") (by decide +kernel)
  have q3 := hts (.fieldLink RX7 26 "SliceSharesModel" "read" "[I") (by decide +kernel)
  have hinRX7 : ∀ w ∈ wsX70, w ∈ wsX7_readsCommand := by decide +kernel
  unfold F_X7_readsCommand at h
  refine lv_iconst (v := (4 : Int32)) hx hb dX7_readsCommand_0 (by decide) ?_
  refine lv_aload_n hx hb dX7_readsCommand_1 rfl (lv_at hl 0 rfl) ?_
  refine va_get (D := D) (ci := 5) (C := RX7) (T := TX7) (N := 21) hx hb hts hinRX7 hown hK hP 0 rfl rfl 11 (by decide) q0 (fun _ h9 => h9) rfl dX7_readsCommand_2 ?_
  refine lv_imul hx hb dX7_readsCommand_5 ?_
  refine lv_istore_n (lv' := [(1, .int ((4 : Int32) * mrm)), (0, .ref (w 0))]) hx hb dX7_readsCommand_6 rfl hl (by decide) rfl (fun ls hl => ?_)
  refine lv_aload_n hx hb dX7_readsCommand_7 rfl (lv_at hl 1 rfl) ?_
  obtain ⟨r1, g2, h⟩ := fB1 h
  refine cV_i (As := []) (rest := []) (ws1 := (MW w y th ms mst smn msl mhs mtx mle mat mwl mrd mrm mtp mbt mtm mtn mnt mnb mun mum mau)) ⟨hx, hb, hml, hown, hts⟩ (c_X7_sign l D w y _ th ms mst smn msl mhs mtx mle mat mwl mrd mrm mtp mbt mtm mtn mnt mnb mun mum mau r1 g2) (cwV 0 hts gX7_readsCommand_X7_sign rfl rfl rfl hd_X7_sign ⟨Nat.le_of_ble_eq_true rfl, Nat.le_of_ble_eq_true rfl⟩) hK hP hD hS hA [0, 1, 2, 3, 4, 5, 6, 7, 8] [] [0, 1, 2, 3, 4, 5, 6, 7, 8] rfl rfl rfl (by decide) rfl rfl rfl 0 (ci := 5) rfl rfl rfl hl.1 rfl (Nat.le_of_ble_eq_true rfl) dX7_readsCommand_8 ⟨Nat.le_of_ble_eq_true rfl, Nat.le_of_ble_eq_true rfl⟩ (fun H locs hP hD hS => ?_)
  refine lv_istore_n (lv' := [(2, .int r1), (1, .int ((4 : Int32) * mrm)), (0, .ref (w 0))]) hx hb dX7_readsCommand_11 rfl hl (by decide) rfl (fun ls hl => ?_)
  refine lv_aload_n hx hb dX7_readsCommand_12 rfl (lv_at hl 2 rfl) ?_
  refine lv_iload_n hx hb dX7_readsCommand_13 rfl (lv_at hl 0 rfl) ?_
  refine lv_bipush (v := (115 : Int32)) hx hb dX7_readsCommand_14 (by decide) ?_
  have J3 : ∀ (v4 : Int32) (ls : Array Slot), v4 = (if r1 = (115 : Int32) then (1 : Int32) else (if r1 = (43 : Int32) then (1 : Int32) else (if r1 = (45 : Int32) then (1 : Int32) else (if r1 = (42 : Int32) then (1 : Int32) else (if r1 = (99 : Int32) then (1 : Int32) else (0 : Int32)))))) → lv_has ls 3 [(0, .ref (w 0)), (1, .int ((4 : Int32) * mrm)), (2, .int r1)] → W p l e rm_X7_readsCommand s m args below meth c H locs 0 0 Q (F0 m 48 ls [.int v4, .ref (w 0)]) := by
    intro v4 ls ev4 hl
    subst ev4
    refine va_put (D := D) (ci := 5) (v := .int (if r1 = (115 : Int32) then (1 : Int32) else (if r1 = (43 : Int32) then (1 : Int32) else (if r1 = (45 : Int32) then (1 : Int32) else (if r1 = (42 : Int32) then (1 : Int32) else (if r1 = (99 : Int32) then (1 : Int32) else (0 : Int32))))))) (ty := .boolean) (C := RX7) (T := TX7) (N := 21) hx hb hts hinRX7 tyX7 tyX7_ok nmX7 hown hK hP hD hS 0 rfl rfl 9 (by decide) q1 (fun _ h9 => h9) rfl (by decide +kernel) (nz01 (z01 (Or.inr rfl) (z01 (Or.inr rfl) (z01 (Or.inr rfl) (z01 (Or.inr rfl) (z01 (Or.inr rfl) (Or.inl rfl))))))) (fz01 (z01 (Or.inr rfl) (z01 (Or.inr rfl) (z01 (Or.inr rfl) (z01 (Or.inr rfl) (z01 (Or.inr rfl) (Or.inl rfl))))))) (Nat.le_of_ble_eq_true rfl) dX7_readsCommand_48 (fun H locs hP hD hS => ?_)
    have hP : va_P D vwCl (MW w y th ms mst smn msl mhs mtx mle mat (if r1 = (115 : Int32) then (1 : Int32) else (if r1 = (43 : Int32) then (1 : Int32) else (if r1 = (45 : Int32) then (1 : Int32) else (if r1 = (42 : Int32) then (1 : Int32) else (if r1 = (99 : Int32) then (1 : Int32) else (0 : Int32)))))) mrd mrm mtp mbt mtm mtn mnt mnb mun mum mau) H := hP
    have hD : va_D A (MW w y th ms mst smn msl mhs mtx mle mat (if r1 = (115 : Int32) then (1 : Int32) else (if r1 = (43 : Int32) then (1 : Int32) else (if r1 = (45 : Int32) then (1 : Int32) else (if r1 = (42 : Int32) then (1 : Int32) else (if r1 = (99 : Int32) then (1 : Int32) else (0 : Int32)))))) mrd mrm mtp mbt mtm mtn mnt mnb mun mum mau) := hD
    refine lv_aload_n hx hb dX7_readsCommand_51 rfl (lv_at hl 0 rfl) ?_
    refine lv_dup hx hb dX7_readsCommand_52 rfl ?_
    refine va_get (D := D) (ci := 5) (C := RX7) (T := TX7) (N := 21) hx hb hts hinRX7 hown hK hP 0 rfl rfl 8 (by decide) q2 (fun _ h9 => h9) rfl dX7_readsCommand_53 ?_
    refine lv_aload_n hx hb dX7_readsCommand_56 rfl (lv_at hl 0 rfl) ?_
    refine va_get (D := D) (ci := 5) (C := RX7) (T := TX7) (N := 21) hx hb hts hinRX7 hown hK hP 0 rfl rfl 9 (by decide) q1 (fun _ h9 => h9) rfl dX7_readsCommand_57 ?_
    have J5 : ∀ (v6 : Int32) (ls : Array Slot), v6 = (if (if r1 = (115 : Int32) then (1 : Int32) else (if r1 = (43 : Int32) then (1 : Int32) else (if r1 = (45 : Int32) then (1 : Int32) else (if r1 = (42 : Int32) then (1 : Int32) else (if r1 = (99 : Int32) then (1 : Int32) else (0 : Int32)))))) = (0 : Int32) then (0 : Int32) else (1 : Int32)) → lv_has ls 3 [(0, .ref (w 0)), (1, .int ((4 : Int32) * mrm)), (2, .int r1)] → W p l e rm_X7_readsCommand s m args below meth c H locs 0 0 Q (F0 m 68 ls [.int v6, .int mat, .ref (w 0)]) := by
      intro v6 ls ev6 hl
      subst ev6
      refine lv_iadd hx hb dX7_readsCommand_68 ?_
      refine va_put (D := D) (ci := 5) (v := .int (mat + (if (if r1 = (115 : Int32) then (1 : Int32) else (if r1 = (43 : Int32) then (1 : Int32) else (if r1 = (45 : Int32) then (1 : Int32) else (if r1 = (42 : Int32) then (1 : Int32) else (if r1 = (99 : Int32) then (1 : Int32) else (0 : Int32)))))) = (0 : Int32) then (0 : Int32) else (1 : Int32)))) (ty := .int) (C := RX7) (T := TX7) (N := 21) hx hb hts hinRX7 tyX7 tyX7_ok nmX7 hown hK hP hD hS 0 rfl rfl 8 (by decide) q2 (fun _ h9 => h9) rfl (by decide +kernel) rfl rfl (Nat.le_of_ble_eq_true rfl) dX7_readsCommand_69 (fun H locs hP hD hS => ?_)
      have hP : va_P D vwCl (MW w y th ms mst smn msl mhs mtx mle (mat + (if (if r1 = (115 : Int32) then (1 : Int32) else (if r1 = (43 : Int32) then (1 : Int32) else (if r1 = (45 : Int32) then (1 : Int32) else (if r1 = (42 : Int32) then (1 : Int32) else (if r1 = (99 : Int32) then (1 : Int32) else (0 : Int32)))))) = (0 : Int32) then (0 : Int32) else (1 : Int32))) (if r1 = (115 : Int32) then (1 : Int32) else (if r1 = (43 : Int32) then (1 : Int32) else (if r1 = (45 : Int32) then (1 : Int32) else (if r1 = (42 : Int32) then (1 : Int32) else (if r1 = (99 : Int32) then (1 : Int32) else (0 : Int32)))))) mrd mrm mtp mbt mtm mtn mnt mnb mun mum mau) H := hP
      have hD : va_D A (MW w y th ms mst smn msl mhs mtx mle (mat + (if (if r1 = (115 : Int32) then (1 : Int32) else (if r1 = (43 : Int32) then (1 : Int32) else (if r1 = (45 : Int32) then (1 : Int32) else (if r1 = (42 : Int32) then (1 : Int32) else (if r1 = (99 : Int32) then (1 : Int32) else (0 : Int32)))))) = (0 : Int32) then (0 : Int32) else (1 : Int32))) (if r1 = (115 : Int32) then (1 : Int32) else (if r1 = (43 : Int32) then (1 : Int32) else (if r1 = (45 : Int32) then (1 : Int32) else (if r1 = (42 : Int32) then (1 : Int32) else (if r1 = (99 : Int32) then (1 : Int32) else (0 : Int32)))))) mrd mrm mtp mbt mtm mtn mnt mnb mun mum mau) := hD
      refine lv_aload_n hx hb dX7_readsCommand_72 rfl (lv_at hl 0 rfl) ?_
      refine va_get (D := D) (ci := 5) (C := RX7) (T := TX7) (N := 21) hx hb hts hinRX7 hown hK hP 0 rfl rfl 10 (by decide) q3 (fun _ h9 => h9) rfl dX7_readsCommand_73 ?_
      refine lv_iload_n hx hb dX7_readsCommand_76 rfl (lv_at hl 1 rfl) ?_
      refine lv_iload_n hx hb dX7_readsCommand_77 rfl (lv_at hl 2 rfl) ?_
      obtain ⟨g7, h⟩ := fG h
      refine va_iast hx hb hK hP hD hS 6 0 rfl rfl g7 dX7_readsCommand_78 (fun H locs hP hD hS => ?_)
      have hP : va_P D vwCl (MW w y th ms mst smn msl mhs mtx mle (mat + (if (if r1 = (115 : Int32) then (1 : Int32) else (if r1 = (43 : Int32) then (1 : Int32) else (if r1 = (45 : Int32) then (1 : Int32) else (if r1 = (42 : Int32) then (1 : Int32) else (if r1 = (99 : Int32) then (1 : Int32) else (0 : Int32)))))) = (0 : Int32) then (0 : Int32) else (1 : Int32))) (if r1 = (115 : Int32) then (1 : Int32) else (if r1 = (43 : Int32) then (1 : Int32) else (if r1 = (45 : Int32) then (1 : Int32) else (if r1 = (42 : Int32) then (1 : Int32) else (if r1 = (99 : Int32) then (1 : Int32) else (0 : Int32)))))) (upd mrd ((4 : Int32) * mrm).toNatClampNeg r1) mrm mtp mbt mtm mtn mnt mnb mun mum mau) H := hP
      have hD : va_D A (MW w y th ms mst smn msl mhs mtx mle (mat + (if (if r1 = (115 : Int32) then (1 : Int32) else (if r1 = (43 : Int32) then (1 : Int32) else (if r1 = (45 : Int32) then (1 : Int32) else (if r1 = (42 : Int32) then (1 : Int32) else (if r1 = (99 : Int32) then (1 : Int32) else (0 : Int32)))))) = (0 : Int32) then (0 : Int32) else (1 : Int32))) (if r1 = (115 : Int32) then (1 : Int32) else (if r1 = (43 : Int32) then (1 : Int32) else (if r1 = (45 : Int32) then (1 : Int32) else (if r1 = (42 : Int32) then (1 : Int32) else (if r1 = (99 : Int32) then (1 : Int32) else (0 : Int32)))))) (upd mrd ((4 : Int32) * mrm).toNatClampNeg r1) mrm mtp mbt mtm mtn mnt mnb mun mum mau) := hD
      refine lv_aload_n hx hb dX7_readsCommand_79 rfl (lv_at hl 0 rfl) ?_
      refine va_get (D := D) (ci := 5) (C := RX7) (T := TX7) (N := 21) hx hb hts hinRX7 hown hK hP 0 rfl rfl 10 (by decide) q3 (fun _ h9 => h9) rfl dX7_readsCommand_80 ?_
      refine lv_iload_n hx hb dX7_readsCommand_83 rfl (lv_at hl 1 rfl) ?_
      refine lv_iconst (v := (1 : Int32)) hx hb dX7_readsCommand_84 (by decide) ?_
      refine lv_iadd hx hb dX7_readsCommand_85 ?_
      refine lv_aload_n hx hb dX7_readsCommand_86 rfl (lv_at hl 0 rfl) ?_
      refine lv_bipush (v := (48 : Int32)) hx hb dX7_readsCommand_87 (by decide) ?_
      refine lv_bipush (v := (57 : Int32)) hx hb dX7_readsCommand_89 (by decide) ?_
      obtain ⟨r8, mat9, mwl10, g11, h⟩ := fB3 h
      refine cV_i (As := [.int (48 : Int32), .int (57 : Int32)]) (rest := [.int (((4 : Int32) * mrm) + (1 : Int32)), .ref (w 6)]) (ws1 := (MW w y th ms mst smn msl mhs mtx mle mat9 mwl10 (upd mrd ((4 : Int32) * mrm).toNatClampNeg r1) mrm mtp mbt mtm mtn mnt mnb mun mum mau)) ⟨hx, hb, hml, hown, hts⟩ (c_X7_takes l D w y _ th ms mst smn msl mhs mtx mle (mat + (if (if r1 = (115 : Int32) then (1 : Int32) else (if r1 = (43 : Int32) then (1 : Int32) else (if r1 = (45 : Int32) then (1 : Int32) else (if r1 = (42 : Int32) then (1 : Int32) else (if r1 = (99 : Int32) then (1 : Int32) else (0 : Int32)))))) = (0 : Int32) then (0 : Int32) else (1 : Int32))) (if r1 = (115 : Int32) then (1 : Int32) else (if r1 = (43 : Int32) then (1 : Int32) else (if r1 = (45 : Int32) then (1 : Int32) else (if r1 = (42 : Int32) then (1 : Int32) else (if r1 = (99 : Int32) then (1 : Int32) else (0 : Int32)))))) (upd mrd ((4 : Int32) * mrm).toNatClampNeg r1) mrm mtp mbt mtm mtn mnt mnb mun mum mau (48 : Int32) (57 : Int32) r8 mat9 mwl10 g11) (cwV 2 hts gX7_readsCommand_X7_takes rfl rfl rfl hd_X7_takes ⟨Nat.le_of_ble_eq_true rfl, Nat.le_of_ble_eq_true rfl⟩) hK hP hD hS hA [0, 1, 2, 3, 4, 5, 6, 7, 8] [] [0, 1, 2, 3, 4, 5, 6, 7, 8] rfl rfl rfl (by decide) rfl rfl rfl 0 (ci := 5) rfl rfl rfl hl.1 rfl (Nat.le_of_ble_eq_true rfl) dX7_readsCommand_91 ⟨Nat.le_of_ble_eq_true rfl, Nat.le_of_ble_eq_true rfl⟩ (fun H locs hP hD hS => ?_)
      obtain ⟨g12, h⟩ := fG h
      refine va_iast hx hb hK hP hD hS 6 0 rfl rfl g12 dX7_readsCommand_94 (fun H locs hP hD hS => ?_)
      have hP : va_P D vwCl (MW w y th ms mst smn msl mhs mtx mle mat9 mwl10 (upd (upd mrd ((4 : Int32) * mrm).toNatClampNeg r1) (((4 : Int32) * mrm) + (1 : Int32)).toNatClampNeg r8) mrm mtp mbt mtm mtn mnt mnb mun mum mau) H := hP
      have hD : va_D A (MW w y th ms mst smn msl mhs mtx mle mat9 mwl10 (upd (upd mrd ((4 : Int32) * mrm).toNatClampNeg r1) (((4 : Int32) * mrm) + (1 : Int32)).toNatClampNeg r8) mrm mtp mbt mtm mtn mnt mnb mun mum mau) := hD
      refine lv_iload_n hx hb dX7_readsCommand_95 rfl (lv_at hl 2 rfl) ?_
      refine lv_bipush (v := (115 : Int32)) hx hb dX7_readsCommand_96 (by decide) ?_
      obtain ⟨mat13, mwl14, mrd15, g16, h⟩ := fB3 h
      have J17 : ∀ (H : Heap) (locs : List Loc) (ls : Array Slot), va_P D vwCl (MW w y th ms mst smn msl mhs mtx mle mat13 mwl14 mrd15 mrm mtp mbt mtm mtn mnt mnb mun mum mau) H → va_D A (MW w y th ms mst smn msl mhs mtx mle mat13 mwl14 mrd15 mrm mtp mbt mtm mtn mnt mnb mun mum mau) → va_S A s.heap H locs → lv_has ls 3 [(0, .ref (w 0)), (1, .int ((4 : Int32) * mrm)), (2, .int r1)] → W p l e rm_X7_readsCommand s m args below meth c H locs 0 0 Q (F0 m 171 ls []) := by
        intro H locs ls hP hD hS hl
        refine lv_aload_n hx hb dX7_readsCommand_171 rfl (lv_at hl 0 rfl) ?_
        refine lv_dup hx hb dX7_readsCommand_172 rfl ?_
        refine va_get (D := D) (ci := 5) (C := RX7) (T := TX7) (N := 21) hx hb hts hinRX7 hown hK hP 0 rfl rfl 11 (by decide) q0 (fun _ h9 => h9) rfl dX7_readsCommand_173 ?_
        refine lv_aload_n hx hb dX7_readsCommand_176 rfl (lv_at hl 0 rfl) ?_
        refine va_get (D := D) (ci := 5) (C := RX7) (T := TX7) (N := 21) hx hb hts hinRX7 hown hK hP 0 rfl rfl 9 (by decide) q1 (fun _ h9 => h9) rfl dX7_readsCommand_177 ?_
        have J18 : ∀ (v19 : Int32) (ls : Array Slot), v19 = (if mwl14 = (0 : Int32) then (0 : Int32) else (1 : Int32)) → lv_has ls 3 [(0, .ref (w 0)), (1, .int ((4 : Int32) * mrm)), (2, .int r1)] → W p l e rm_X7_readsCommand s m args below meth c H locs 0 0 Q (F0 m 188 ls [.int v19, .int mrm, .ref (w 0)]) := by
          intro v19 ls ev19 hl
          subst ev19
          refine lv_iadd hx hb dX7_readsCommand_188 ?_
          refine va_put (D := D) (ci := 5) (v := .int (mrm + (if mwl14 = (0 : Int32) then (0 : Int32) else (1 : Int32)))) (ty := .int) (C := RX7) (T := TX7) (N := 21) hx hb hts hinRX7 tyX7 tyX7_ok nmX7 hown hK hP hD hS 0 rfl rfl 11 (by decide) q0 (fun _ h9 => h9) rfl (by decide +kernel) rfl rfl (Nat.le_of_ble_eq_true rfl) dX7_readsCommand_189 (fun H locs hP hD hS => ?_)
          have hP : va_P D vwCl (MW w y th ms mst smn msl mhs mtx mle mat13 mwl14 mrd15 (mrm + (if mwl14 = (0 : Int32) then (0 : Int32) else (1 : Int32))) mtp mbt mtm mtn mnt mnb mun mum mau) H := hP
          have hD : va_D A (MW w y th ms mst smn msl mhs mtx mle mat13 mwl14 mrd15 (mrm + (if mwl14 = (0 : Int32) then (0 : Int32) else (1 : Int32))) mtp mbt mtm mtn mnt mnb mun mum mau) := hD
          cases h
          exact hE _ _ _ _ dX7_readsCommand_192 hP hD hS
        refine lv_if_eq (tgt := 187) hx hb dX7_readsCommand_180 (by decide) (fun c20 => ?_) (fun c20 => ?_)
        · refine lv_iconst (v := (0 : Int32)) hx hb dX7_readsCommand_187 (by decide) ?_
          exact J18 _ _ (by rw [if_pos c20]) (lv_sub hl [0, 1, 2] rfl)
        · refine lv_iconst (v := (1 : Int32)) hx hb dX7_readsCommand_183 (by decide) ?_
          refine lv_goto (tgt := 188) hx hb dX7_readsCommand_184 (by decide) ?_
          exact J18 _ _ (by rw [if_neg c20]) (lv_sub hl [0, 1, 2] rfl)
      refine lv_icmp_ne (tgt := 146) hx hb dX7_readsCommand_98 (by decide) (fun c21 => ?_) (fun c21 => ?_)
      · replace g16 := fF c21 g16
        refine lv_aload_n hx hb dX7_readsCommand_146 rfl (lv_at hl 0 rfl) ?_
        refine lv_bipush (v := (44 : Int32)) hx hb dX7_readsCommand_147 (by decide) ?_
        refine lv_bipush (v := (44 : Int32)) hx hb dX7_readsCommand_149 (by decide) ?_
        obtain ⟨r22, mat23, mwl24, g25, g16⟩ := fB3 g16
        refine cV_i (As := [.int (44 : Int32), .int (44 : Int32)]) (rest := []) (ws1 := (MW w y th ms mst smn msl mhs mtx mle mat23 mwl24 (upd (upd mrd ((4 : Int32) * mrm).toNatClampNeg r1) (((4 : Int32) * mrm) + (1 : Int32)).toNatClampNeg r8) mrm mtp mbt mtm mtn mnt mnb mun mum mau)) ⟨hx, hb, hml, hown, hts⟩ (c_X7_takes l D w y _ th ms mst smn msl mhs mtx mle mat9 mwl10 (upd (upd mrd ((4 : Int32) * mrm).toNatClampNeg r1) (((4 : Int32) * mrm) + (1 : Int32)).toNatClampNeg r8) mrm mtp mbt mtm mtn mnt mnb mun mum mau (44 : Int32) (44 : Int32) r22 mat23 mwl24 g25) (cwV 2 hts gX7_readsCommand_X7_takes rfl rfl rfl hd_X7_takes ⟨Nat.le_of_ble_eq_true rfl, Nat.le_of_ble_eq_true rfl⟩) hK hP hD hS hA [0, 1, 2, 3, 4, 5, 6, 7, 8] [] [0, 1, 2, 3, 4, 5, 6, 7, 8] rfl rfl rfl (by decide) rfl rfl rfl 0 (ci := 5) rfl rfl rfl hl.1 rfl (Nat.le_of_ble_eq_true rfl) dX7_readsCommand_151 ⟨Nat.le_of_ble_eq_true rfl, Nat.le_of_ble_eq_true rfl⟩ (fun H locs hP hD hS => ?_)
        refine lv_pop hx hb dX7_readsCommand_154 rfl ?_
        refine lv_aload_n hx hb dX7_readsCommand_155 rfl (lv_at hl 0 rfl) ?_
        refine va_get (D := D) (ci := 5) (C := RX7) (T := TX7) (N := 21) hx hb hts hinRX7 hown hK hP 0 rfl rfl 10 (by decide) q3 (fun _ h9 => h9) rfl dX7_readsCommand_156 ?_
        refine lv_iload_n hx hb dX7_readsCommand_159 rfl (lv_at hl 1 rfl) ?_
        refine lv_iconst (v := (2 : Int32)) hx hb dX7_readsCommand_160 (by decide) ?_
        refine lv_iadd hx hb dX7_readsCommand_161 ?_
        refine lv_aload_n hx hb dX7_readsCommand_162 rfl (lv_at hl 0 rfl) ?_
        refine lv_bipush (v := (48 : Int32)) hx hb dX7_readsCommand_163 (by decide) ?_
        refine lv_bipush (v := (57 : Int32)) hx hb dX7_readsCommand_165 (by decide) ?_
        obtain ⟨r26, mat27, mwl28, g29, g16⟩ := fB3 g16
        refine cV_i (As := [.int (48 : Int32), .int (57 : Int32)]) (rest := [.int (((4 : Int32) * mrm) + (2 : Int32)), .ref (w 6)]) (ws1 := (MW w y th ms mst smn msl mhs mtx mle mat27 mwl28 (upd (upd mrd ((4 : Int32) * mrm).toNatClampNeg r1) (((4 : Int32) * mrm) + (1 : Int32)).toNatClampNeg r8) mrm mtp mbt mtm mtn mnt mnb mun mum mau)) ⟨hx, hb, hml, hown, hts⟩ (c_X7_takes l D w y _ th ms mst smn msl mhs mtx mle mat23 mwl24 (upd (upd mrd ((4 : Int32) * mrm).toNatClampNeg r1) (((4 : Int32) * mrm) + (1 : Int32)).toNatClampNeg r8) mrm mtp mbt mtm mtn mnt mnb mun mum mau (48 : Int32) (57 : Int32) r26 mat27 mwl28 g29) (cwV 2 hts gX7_readsCommand_X7_takes rfl rfl rfl hd_X7_takes ⟨Nat.le_of_ble_eq_true rfl, Nat.le_of_ble_eq_true rfl⟩) hK hP hD hS hA [0, 1, 2, 3, 4, 5, 6, 7, 8] [] [0, 1, 2, 3, 4, 5, 6, 7, 8] rfl rfl rfl (by decide) rfl rfl rfl 0 (ci := 5) rfl rfl rfl hl.1 rfl (Nat.le_of_ble_eq_true rfl) dX7_readsCommand_167 ⟨Nat.le_of_ble_eq_true rfl, Nat.le_of_ble_eq_true rfl⟩ (fun H locs hP hD hS => ?_)
        obtain ⟨g30, g16⟩ := fG g16
        refine va_iast hx hb hK hP hD hS 6 0 rfl rfl g30 dX7_readsCommand_170 (fun H locs hP hD hS => ?_)
        have hP : va_P D vwCl (MW w y th ms mst smn msl mhs mtx mle mat27 mwl28 (upd (upd (upd mrd ((4 : Int32) * mrm).toNatClampNeg r1) (((4 : Int32) * mrm) + (1 : Int32)).toNatClampNeg r8) (((4 : Int32) * mrm) + (2 : Int32)).toNatClampNeg r26) mrm mtp mbt mtm mtn mnt mnb mun mum mau) H := hP
        have hD : va_D A (MW w y th ms mst smn msl mhs mtx mle mat27 mwl28 (upd (upd (upd mrd ((4 : Int32) * mrm).toNatClampNeg r1) (((4 : Int32) * mrm) + (1 : Int32)).toNatClampNeg r8) (((4 : Int32) * mrm) + (2 : Int32)).toNatClampNeg r26) mrm mtp mbt mtm mtn mnt mnb mun mum mau) := hD
        cases g16
        exact J17 _ _ _ hP hD hS (lv_sub hl [0, 1, 2] rfl)
      · replace g16 := fT c21 g16
        refine lv_aload_n hx hb dX7_readsCommand_101 rfl (lv_at hl 0 rfl) ?_
        refine lv_bipush (v := (61 : Int32)) hx hb dX7_readsCommand_102 (by decide) ?_
        refine lv_bipush (v := (61 : Int32)) hx hb dX7_readsCommand_104 (by decide) ?_
        obtain ⟨r31, mat32, mwl33, g34, g16⟩ := fB3 g16
        refine cV_i (As := [.int (61 : Int32), .int (61 : Int32)]) (rest := []) (ws1 := (MW w y th ms mst smn msl mhs mtx mle mat32 mwl33 (upd (upd mrd ((4 : Int32) * mrm).toNatClampNeg r1) (((4 : Int32) * mrm) + (1 : Int32)).toNatClampNeg r8) mrm mtp mbt mtm mtn mnt mnb mun mum mau)) ⟨hx, hb, hml, hown, hts⟩ (c_X7_takes l D w y _ th ms mst smn msl mhs mtx mle mat9 mwl10 (upd (upd mrd ((4 : Int32) * mrm).toNatClampNeg r1) (((4 : Int32) * mrm) + (1 : Int32)).toNatClampNeg r8) mrm mtp mbt mtm mtn mnt mnb mun mum mau (61 : Int32) (61 : Int32) r31 mat32 mwl33 g34) (cwV 2 hts gX7_readsCommand_X7_takes rfl rfl rfl hd_X7_takes ⟨Nat.le_of_ble_eq_true rfl, Nat.le_of_ble_eq_true rfl⟩) hK hP hD hS hA [0, 1, 2, 3, 4, 5, 6, 7, 8] [] [0, 1, 2, 3, 4, 5, 6, 7, 8] rfl rfl rfl (by decide) rfl rfl rfl 0 (ci := 5) rfl rfl rfl hl.1 rfl (Nat.le_of_ble_eq_true rfl) dX7_readsCommand_106 ⟨Nat.le_of_ble_eq_true rfl, Nat.le_of_ble_eq_true rfl⟩ (fun H locs hP hD hS => ?_)
        refine lv_pop hx hb dX7_readsCommand_109 rfl ?_
        refine lv_aload_n hx hb dX7_readsCommand_110 rfl (lv_at hl 0 rfl) ?_
        refine va_get (D := D) (ci := 5) (C := RX7) (T := TX7) (N := 21) hx hb hts hinRX7 hown hK hP 0 rfl rfl 10 (by decide) q3 (fun _ h9 => h9) rfl dX7_readsCommand_111 ?_
        refine lv_iload_n hx hb dX7_readsCommand_114 rfl (lv_at hl 1 rfl) ?_
        refine lv_iconst (v := (2 : Int32)) hx hb dX7_readsCommand_115 (by decide) ?_
        refine lv_iadd hx hb dX7_readsCommand_116 ?_
        refine lv_aload_n hx hb dX7_readsCommand_117 rfl (lv_at hl 0 rfl) ?_
        obtain ⟨r35, mat36, mwl37, g38, g16⟩ := fB3 g16
        refine cV_i (As := []) (rest := [.int (((4 : Int32) * mrm) + (2 : Int32)), .ref (w 6)]) (ws1 := (MW w y th ms mst smn msl mhs mtx mle mat36 mwl37 (upd (upd mrd ((4 : Int32) * mrm).toNatClampNeg r1) (((4 : Int32) * mrm) + (1 : Int32)).toNatClampNeg r8) mrm mtp mbt mtm mtn mnt mnb mun mum mau)) ⟨hx, hb, hml, hown, hts⟩ (c_X7_number l D w y _ th ms mst smn msl mhs mtx mle mat32 mwl33 (upd (upd mrd ((4 : Int32) * mrm).toNatClampNeg r1) (((4 : Int32) * mrm) + (1 : Int32)).toNatClampNeg r8) mrm mtp mbt mtm mtn mnt mnb mun mum mau r35 mat36 mwl37 g38) (cwV 0 hts gX7_readsCommand_X7_number rfl rfl rfl hd_X7_number ⟨Nat.le_of_ble_eq_true rfl, Nat.le_of_ble_eq_true rfl⟩) hK hP hD hS hA [0, 1, 2, 3, 4, 5, 6, 7, 8] [] [0, 1, 2, 3, 4, 5, 6, 7, 8] rfl rfl rfl (by decide) rfl rfl rfl 0 (ci := 5) rfl rfl rfl hl.1 rfl (Nat.le_of_ble_eq_true rfl) dX7_readsCommand_118 ⟨Nat.le_of_ble_eq_true rfl, Nat.le_of_ble_eq_true rfl⟩ (fun H locs hP hD hS => ?_)
        obtain ⟨g39, g16⟩ := fG g16
        refine va_iast hx hb hK hP hD hS 6 0 rfl rfl g39 dX7_readsCommand_121 (fun H locs hP hD hS => ?_)
        have hP : va_P D vwCl (MW w y th ms mst smn msl mhs mtx mle mat36 mwl37 (upd (upd (upd mrd ((4 : Int32) * mrm).toNatClampNeg r1) (((4 : Int32) * mrm) + (1 : Int32)).toNatClampNeg r8) (((4 : Int32) * mrm) + (2 : Int32)).toNatClampNeg r35) mrm mtp mbt mtm mtn mnt mnb mun mum mau) H := hP
        have hD : va_D A (MW w y th ms mst smn msl mhs mtx mle mat36 mwl37 (upd (upd (upd mrd ((4 : Int32) * mrm).toNatClampNeg r1) (((4 : Int32) * mrm) + (1 : Int32)).toNatClampNeg r8) (((4 : Int32) * mrm) + (2 : Int32)).toNatClampNeg r35) mrm mtp mbt mtm mtn mnt mnb mun mum mau) := hD
        refine lv_aload_n hx hb dX7_readsCommand_122 rfl (lv_at hl 0 rfl) ?_
        refine lv_bipush (v := (47 : Int32)) hx hb dX7_readsCommand_123 (by decide) ?_
        refine lv_bipush (v := (47 : Int32)) hx hb dX7_readsCommand_125 (by decide) ?_
        obtain ⟨r40, mat41, mwl42, g43, g16⟩ := fB3 g16
        refine cV_i (As := [.int (47 : Int32), .int (47 : Int32)]) (rest := []) (ws1 := (MW w y th ms mst smn msl mhs mtx mle mat41 mwl42 (upd (upd (upd mrd ((4 : Int32) * mrm).toNatClampNeg r1) (((4 : Int32) * mrm) + (1 : Int32)).toNatClampNeg r8) (((4 : Int32) * mrm) + (2 : Int32)).toNatClampNeg r35) mrm mtp mbt mtm mtn mnt mnb mun mum mau)) ⟨hx, hb, hml, hown, hts⟩ (c_X7_takes l D w y _ th ms mst smn msl mhs mtx mle mat36 mwl37 (upd (upd (upd mrd ((4 : Int32) * mrm).toNatClampNeg r1) (((4 : Int32) * mrm) + (1 : Int32)).toNatClampNeg r8) (((4 : Int32) * mrm) + (2 : Int32)).toNatClampNeg r35) mrm mtp mbt mtm mtn mnt mnb mun mum mau (47 : Int32) (47 : Int32) r40 mat41 mwl42 g43) (cwV 2 hts gX7_readsCommand_X7_takes rfl rfl rfl hd_X7_takes ⟨Nat.le_of_ble_eq_true rfl, Nat.le_of_ble_eq_true rfl⟩) hK hP hD hS hA [0, 1, 2, 3, 4, 5, 6, 7, 8] [] [0, 1, 2, 3, 4, 5, 6, 7, 8] rfl rfl rfl (by decide) rfl rfl rfl 0 (ci := 5) rfl rfl rfl hl.1 rfl (Nat.le_of_ble_eq_true rfl) dX7_readsCommand_127 ⟨Nat.le_of_ble_eq_true rfl, Nat.le_of_ble_eq_true rfl⟩ (fun H locs hP hD hS => ?_)
        refine lv_pop hx hb dX7_readsCommand_130 rfl ?_
        refine lv_aload_n hx hb dX7_readsCommand_131 rfl (lv_at hl 0 rfl) ?_
        refine va_get (D := D) (ci := 5) (C := RX7) (T := TX7) (N := 21) hx hb hts hinRX7 hown hK hP 0 rfl rfl 10 (by decide) q3 (fun _ h9 => h9) rfl dX7_readsCommand_132 ?_
        refine lv_iload_n hx hb dX7_readsCommand_135 rfl (lv_at hl 1 rfl) ?_
        refine lv_iconst (v := (3 : Int32)) hx hb dX7_readsCommand_136 (by decide) ?_
        refine lv_iadd hx hb dX7_readsCommand_137 ?_
        refine lv_aload_n hx hb dX7_readsCommand_138 rfl (lv_at hl 0 rfl) ?_
        obtain ⟨r44, mat45, mwl46, g47, g16⟩ := fB3 g16
        refine cV_i (As := []) (rest := [.int (((4 : Int32) * mrm) + (3 : Int32)), .ref (w 6)]) (ws1 := (MW w y th ms mst smn msl mhs mtx mle mat45 mwl46 (upd (upd (upd mrd ((4 : Int32) * mrm).toNatClampNeg r1) (((4 : Int32) * mrm) + (1 : Int32)).toNatClampNeg r8) (((4 : Int32) * mrm) + (2 : Int32)).toNatClampNeg r35) mrm mtp mbt mtm mtn mnt mnb mun mum mau)) ⟨hx, hb, hml, hown, hts⟩ (c_X7_number l D w y _ th ms mst smn msl mhs mtx mle mat41 mwl42 (upd (upd (upd mrd ((4 : Int32) * mrm).toNatClampNeg r1) (((4 : Int32) * mrm) + (1 : Int32)).toNatClampNeg r8) (((4 : Int32) * mrm) + (2 : Int32)).toNatClampNeg r35) mrm mtp mbt mtm mtn mnt mnb mun mum mau r44 mat45 mwl46 g47) (cwV 0 hts gX7_readsCommand_X7_number rfl rfl rfl hd_X7_number ⟨Nat.le_of_ble_eq_true rfl, Nat.le_of_ble_eq_true rfl⟩) hK hP hD hS hA [0, 1, 2, 3, 4, 5, 6, 7, 8] [] [0, 1, 2, 3, 4, 5, 6, 7, 8] rfl rfl rfl (by decide) rfl rfl rfl 0 (ci := 5) rfl rfl rfl hl.1 rfl (Nat.le_of_ble_eq_true rfl) dX7_readsCommand_139 ⟨Nat.le_of_ble_eq_true rfl, Nat.le_of_ble_eq_true rfl⟩ (fun H locs hP hD hS => ?_)
        obtain ⟨g48, g16⟩ := fG g16
        refine va_iast hx hb hK hP hD hS 6 0 rfl rfl g48 dX7_readsCommand_142 (fun H locs hP hD hS => ?_)
        have hP : va_P D vwCl (MW w y th ms mst smn msl mhs mtx mle mat45 mwl46 (upd (upd (upd (upd mrd ((4 : Int32) * mrm).toNatClampNeg r1) (((4 : Int32) * mrm) + (1 : Int32)).toNatClampNeg r8) (((4 : Int32) * mrm) + (2 : Int32)).toNatClampNeg r35) (((4 : Int32) * mrm) + (3 : Int32)).toNatClampNeg r44) mrm mtp mbt mtm mtn mnt mnb mun mum mau) H := hP
        have hD : va_D A (MW w y th ms mst smn msl mhs mtx mle mat45 mwl46 (upd (upd (upd (upd mrd ((4 : Int32) * mrm).toNatClampNeg r1) (((4 : Int32) * mrm) + (1 : Int32)).toNatClampNeg r8) (((4 : Int32) * mrm) + (2 : Int32)).toNatClampNeg r35) (((4 : Int32) * mrm) + (3 : Int32)).toNatClampNeg r44) mrm mtp mbt mtm mtn mnt mnb mun mum mau) := hD
        refine lv_goto (tgt := 171) hx hb dX7_readsCommand_143 (by decide) ?_
        cases g16
        exact J17 _ _ _ hP hD hS (lv_sub hl [0, 1, 2] rfl)
    refine lv_if_eq (tgt := 67) hx hb dX7_readsCommand_60 (by decide) (fun c49 => ?_) (fun c49 => ?_)
    · refine lv_iconst (v := (0 : Int32)) hx hb dX7_readsCommand_67 (by decide) ?_
      exact J5 _ _ (by rw [if_pos c49]) (lv_sub hl [0, 1, 2] rfl)
    · refine lv_iconst (v := (1 : Int32)) hx hb dX7_readsCommand_63 (by decide) ?_
      refine lv_goto (tgt := 68) hx hb dX7_readsCommand_64 (by decide) ?_
      exact J5 _ _ (by rw [if_neg c49]) (lv_sub hl [0, 1, 2] rfl)
  refine lv_icmp_eq (tgt := 43) hx hb dX7_readsCommand_16 (by decide) (fun c50 => ?_) (fun c50 => ?_)
  · refine lv_iconst (v := (1 : Int32)) hx hb dX7_readsCommand_43 (by decide) ?_
    refine lv_goto (tgt := 48) hx hb dX7_readsCommand_44 (by decide) ?_
    exact J3 _ _ (by rw [if_pos c50]) (lv_sub hl [2, 1, 0] rfl)
  · refine lv_iload_n hx hb dX7_readsCommand_19 rfl (lv_at hl 0 rfl) ?_
    refine lv_bipush (v := (43 : Int32)) hx hb dX7_readsCommand_20 (by decide) ?_
    refine lv_icmp_eq (tgt := 43) hx hb dX7_readsCommand_22 (by decide) (fun c51 => ?_) (fun c51 => ?_)
    · refine lv_iconst (v := (1 : Int32)) hx hb dX7_readsCommand_43 (by decide) ?_
      refine lv_goto (tgt := 48) hx hb dX7_readsCommand_44 (by decide) ?_
      exact J3 _ _ (by rw [if_neg c50, if_pos c51]) (lv_sub hl [2, 1, 0] rfl)
    · refine lv_iload_n hx hb dX7_readsCommand_25 rfl (lv_at hl 0 rfl) ?_
      refine lv_bipush (v := (45 : Int32)) hx hb dX7_readsCommand_26 (by decide) ?_
      refine lv_icmp_eq (tgt := 43) hx hb dX7_readsCommand_28 (by decide) (fun c52 => ?_) (fun c52 => ?_)
      · refine lv_iconst (v := (1 : Int32)) hx hb dX7_readsCommand_43 (by decide) ?_
        refine lv_goto (tgt := 48) hx hb dX7_readsCommand_44 (by decide) ?_
        exact J3 _ _ (by rw [if_neg c50, if_neg c51, if_pos c52]) (lv_sub hl [2, 1, 0] rfl)
      · refine lv_iload_n hx hb dX7_readsCommand_31 rfl (lv_at hl 0 rfl) ?_
        refine lv_bipush (v := (42 : Int32)) hx hb dX7_readsCommand_32 (by decide) ?_
        refine lv_icmp_eq (tgt := 43) hx hb dX7_readsCommand_34 (by decide) (fun c53 => ?_) (fun c53 => ?_)
        · refine lv_iconst (v := (1 : Int32)) hx hb dX7_readsCommand_43 (by decide) ?_
          refine lv_goto (tgt := 48) hx hb dX7_readsCommand_44 (by decide) ?_
          exact J3 _ _ (by rw [if_neg c50, if_neg c51, if_neg c52, if_pos c53]) (lv_sub hl [2, 1, 0] rfl)
        · refine lv_iload_n hx hb dX7_readsCommand_37 rfl (lv_at hl 0 rfl) ?_
          refine lv_bipush (v := (99 : Int32)) hx hb dX7_readsCommand_38 (by decide) ?_
          refine lv_icmp_ne (tgt := 47) hx hb dX7_readsCommand_40 (by decide) (fun c54 => ?_) (fun c54 => ?_)
          · refine lv_iconst (v := (0 : Int32)) hx hb dX7_readsCommand_47 (by decide) ?_
            exact J3 _ _ (by rw [if_neg c50, if_neg c51, if_neg c52, if_neg c53, if_neg c54]) (lv_sub hl [2, 1, 0] rfl)
          · refine lv_iconst (v := (1 : Int32)) hx hb dX7_readsCommand_43 (by decide) ?_
            refine lv_goto (tgt := 48) hx hb dX7_readsCommand_44 (by decide) ?_
            exact J3 _ _ (by rw [if_neg c50, if_neg c51, if_neg c52, if_neg c53, if_pos c54]) (lv_sub hl [2, 1, 0] rfl)
abbrev rm_X7_readsText : Room := { frames := 4, cells := 0, slots := 0, locals := 88 }
theorem hd_X7_readsText : yX7_readsText.cls = RX7 ∧ yX7_readsText.cls ≠ "java/lang/invoke/MethodHandle" ∧ yX7_readsText.cls ≠ "java/lang/invoke/VarHandle" ∧ (parseMethodDescriptor yX7_readsText.desc).map (fun d => d.parameters.length) = some 0 := by decide +kernel
set_option maxHeartbeats 0 in
set_option maxRecDepth 100000 in
theorem c_X7_readsText (l : Launch) (D : va_G) (w : Nat → Nat) (y : Nat → ClassId) (sz : Nat) (th : Int32) (ms : Nat → Int32) (mst : Nat → Int32) (smn : Int32) (msl : Nat → Int32) (mhs : Nat → Int32) (mtx : Nat → Int32) (mle : Int32) (mat : Int32) (mwl : Int32) (mrd : Nat → Int32) (mrm : Int32) (mtp : Int64) (mbt : Int64) (mtm : Nat → Int32) (mtn : Int32) (mnt : Int32) (mnb : Int32) (mun : Nat → Int32) (mum : Int32) (mau : Int32) (r : Int32) (mat' : Int32) (mwl' : Int32) (mrd' : Nat → Int32) (mrm' : Int32) (h : F_X7_readsText mtx mle mat mwl mrd mrm = some (r, mat', mwl', mrd', mrm')) : Met l yX7_readsText wsX7_readsText rm_X7_readsText (va_Pc [.ref (w 0)] (px D y sz (MW w y th ms mst smn msl mhs mtx mle mat mwl mrd mrm mtp mbt mtm mtn mnt mnb mun mum mau))) (Qri D y sz (MW w y th ms mst smn msl mhs mtx mle mat mwl mrd mrm mtp mbt mtm mtn mnt mnb mun mum mau) (MW w y th ms mst smn msl mhs mtx mle mat' mwl' mrd' mrm' mtp mbt mtm mtn mnt mnb mun mum mau) r) 0 0 (va_A (MW w y th ms mst smn msl mhs mtx mle mat mwl mrd mrm mtp mbt mtm mtn mnt mnb mun mum mau) sz) := by
  refine hd_z (cc := cX7_readsText) (maxL := 1) (rt := .boolean) rfl rfl (Nat.le_of_ble_eq_true rfl) ?_
  intro p e s m args below meth c A Q H locs ls hx hb hml hts hown _ hA hP hD hK hS hl hE
  have hl : lv_has ls 1 [(0, .ref (w 0))] := hl
  have q0 := hts (.fieldLink RX7 176 "SliceSharesModel" "at" "I") (by decide +kernel)
  have q1 := hts (.fieldLink RX7 189 "SliceSharesModel" "readMany" "I") (by decide +kernel)
  have q2 := hts (.fieldLink RX7 179 "SliceSharesModel" "isWell" "Z") (by decide +kernel)
  have q3 := hts (.fieldLink RX7 173 "SliceSharesModel" "length" "I") (by decide +kernel)
  have hinRX7 : ∀ w ∈ wsX70, w ∈ wsX7_readsText := by decide +kernel
  unfold F_X7_readsText at h
  refine lv_aload_n hx hb dX7_readsText_0 rfl (lv_at hl 0 rfl) ?_
  refine lv_iconst (v := (0 : Int32)) hx hb dX7_readsText_1 (by decide) ?_
  refine va_put (D := D) (ci := 5) (v := .int (0 : Int32)) (ty := .int) (C := RX7) (T := TX7) (N := 21) hx hb hts hinRX7 tyX7 tyX7_ok nmX7 hown hK hP hD hS 0 rfl rfl 8 (by decide) q0 (fun _ h9 => h9) rfl (by decide +kernel) rfl rfl (Nat.le_of_ble_eq_true rfl) dX7_readsText_2 (fun H locs hP hD hS => ?_)
  have hP : va_P D vwCl (MW w y th ms mst smn msl mhs mtx mle (0 : Int32) mwl mrd mrm mtp mbt mtm mtn mnt mnb mun mum mau) H := hP
  have hD : va_D A (MW w y th ms mst smn msl mhs mtx mle (0 : Int32) mwl mrd mrm mtp mbt mtm mtn mnt mnb mun mum mau) := hD
  refine lv_aload_n hx hb dX7_readsText_5 rfl (lv_at hl 0 rfl) ?_
  refine lv_iconst (v := (0 : Int32)) hx hb dX7_readsText_6 (by decide) ?_
  refine va_put (D := D) (ci := 5) (v := .int (0 : Int32)) (ty := .int) (C := RX7) (T := TX7) (N := 21) hx hb hts hinRX7 tyX7 tyX7_ok nmX7 hown hK hP hD hS 0 rfl rfl 11 (by decide) q1 (fun _ h9 => h9) rfl (by decide +kernel) rfl rfl (Nat.le_of_ble_eq_true rfl) dX7_readsText_7 (fun H locs hP hD hS => ?_)
  have hP : va_P D vwCl (MW w y th ms mst smn msl mhs mtx mle (0 : Int32) mwl mrd (0 : Int32) mtp mbt mtm mtn mnt mnb mun mum mau) H := hP
  have hD : va_D A (MW w y th ms mst smn msl mhs mtx mle (0 : Int32) mwl mrd (0 : Int32) mtp mbt mtm mtn mnt mnb mun mum mau) := hD
  refine lv_aload_n hx hb dX7_readsText_10 rfl (lv_at hl 0 rfl) ?_
  obtain ⟨mat1, mwl2, mrd3, mrm4, g5, h⟩ := fB4 h
  refine cV_v (As := []) (rest := []) (ws1 := (MW w y th ms mst smn msl mhs mtx mle mat1 mwl2 mrd3 mrm4 mtp mbt mtm mtn mnt mnb mun mum mau)) ⟨hx, hb, hml, hown, hts⟩ (c_X7_readsCommand l D w y _ th ms mst smn msl mhs mtx mle (0 : Int32) mwl mrd (0 : Int32) mtp mbt mtm mtn mnt mnb mun mum mau mat1 mwl2 mrd3 mrm4 g5) (cwV 0 hts gX7_readsText_X7_readsCommand rfl rfl rfl hd_X7_readsCommand ⟨Nat.le_of_ble_eq_true rfl, Nat.le_of_ble_eq_true rfl⟩) hK hP hD hS hA [0, 1, 2, 3, 4, 5, 6, 7, 8] [] [0, 1, 2, 3, 4, 5, 6, 7, 8] rfl rfl rfl (by decide) rfl rfl rfl 0 (ci := 5) rfl rfl rfl hl.1 rfl (Nat.le_of_ble_eq_true rfl) dX7_readsText_11 ⟨Nat.le_of_ble_eq_true rfl, Nat.le_of_ble_eq_true rfl⟩ (fun H locs hP hD hS => ?_)
  obtain ⟨mat10, mwl11, mrd12, mrm13, g14, h⟩ := fB4 h
  have J15 : ∀ (H : Heap) (locs : List Loc) (ls : Array Slot), va_P D vwCl (MW w y th ms mst smn msl mhs mtx mle mat10 mwl11 mrd12 mrm13 mtp mbt mtm mtn mnt mnb mun mum mau) H → va_D A (MW w y th ms mst smn msl mhs mtx mle mat10 mwl11 mrd12 mrm13 mtp mbt mtm mtn mnt mnb mun mum mau) → va_S A s.heap H locs → lv_has ls 1 [(0, .ref (w 0))] → W p l e rm_X7_readsText s m args below meth c H locs 0 0 Q (F0 m 55 ls []) := by
    intro H locs ls hP hD hS hl
    refine lv_aload_n hx hb dX7_readsText_55 rfl (lv_at hl 0 rfl) ?_
    refine va_get (D := D) (ci := 5) (C := RX7) (T := TX7) (N := 21) hx hb hts hinRX7 hown hK hP 0 rfl rfl 9 (by decide) q2 (fun _ h9 => h9) rfl dX7_readsText_56 ?_
    obtain ⟨g16, h⟩ := fG h
    cases h
    exact hE _ _ _ _ dX7_readsText_59 hP hD hS (nz01 (Classical.not_not.mp g16))
  have LP17 : ∀ (n : Nat) (mat6 : Int32) (mwl7 : Int32) (mrd8 : Nat → Int32) (mrm9 : Int32) (H : Heap) (locs : List Loc) (ls : Array Slot), L_X7_readsText_14 n mtx mle mat6 mwl7 mrd8 mrm9 = some (mat10, mwl11, mrd12, mrm13) → va_P D vwCl (MW w y th ms mst smn msl mhs mtx mle mat6 mwl7 mrd8 mrm9 mtp mbt mtm mtn mnt mnb mun mum mau) H → va_D A (MW w y th ms mst smn msl mhs mtx mle mat6 mwl7 mrd8 mrm9 mtp mbt mtm mtn mnt mnb mun mum mau) → va_S A s.heap H locs → lv_has ls 1 [(0, .ref (w 0))] → W p l e rm_X7_readsText s m args below meth c H locs 0 0 Q (F0 m 14 ls []) := by
    intro n
    induction n with
    | zero => intro mat6 mwl7 mrd8 mrm9 H locs ls h hP hD hS hl; exact fN h
    | succ n ih =>
      intro mat6 mwl7 mrd8 mrm9 H locs ls h hP hD hS hl
      replace h := (L_X7_readsText_14_s n mtx mle mat6 mwl7 mrd8 mrm9).symm.trans h
      refine lv_aload_n hx hb dX7_readsText_14 rfl (lv_at hl 0 rfl) ?_
      refine va_get (D := D) (ci := 5) (C := RX7) (T := TX7) (N := 21) hx hb hts hinRX7 hown hK hP 0 rfl rfl 9 (by decide) q2 (fun _ h9 => h9) rfl dX7_readsText_15 ?_
      refine lv_if_eq (tgt := 55) hx hb dX7_readsText_18 (by decide) (fun c18 => ?_) (fun c18 => ?_)
      · replace h := fT c18 h
        cases h
        exact J15 _ _ _ hP hD hS (lv_sub hl [0] rfl)
      · replace h := fF c18 h
        refine lv_aload_n hx hb dX7_readsText_21 rfl (lv_at hl 0 rfl) ?_
        refine va_get (D := D) (ci := 5) (C := RX7) (T := TX7) (N := 21) hx hb hts hinRX7 hown hK hP 0 rfl rfl 8 (by decide) q0 (fun _ h9 => h9) rfl dX7_readsText_22 ?_
        refine lv_aload_n hx hb dX7_readsText_25 rfl (lv_at hl 0 rfl) ?_
        refine va_get (D := D) (ci := 5) (C := RX7) (T := TX7) (N := 21) hx hb hts hinRX7 hown hK hP 0 rfl rfl 7 (by decide) q3 (fun _ h9 => h9) rfl dX7_readsText_26 ?_
        refine lv_icmp_ge (tgt := 55) hx hb dX7_readsText_29 (by decide) (fun c19 => ?_) (fun c19 => ?_)
        · replace h := fT c19 h
          cases h
          exact J15 _ _ _ hP hD hS (lv_sub hl [0] rfl)
        · replace h := fF c19 h
          refine lv_aload_n hx hb dX7_readsText_32 rfl (lv_at hl 0 rfl) ?_
          refine lv_bipush (v := (59 : Int32)) hx hb dX7_readsText_33 (by decide) ?_
          refine lv_bipush (v := (59 : Int32)) hx hb dX7_readsText_35 (by decide) ?_
          obtain ⟨r20, mat21, mwl22, g23, h⟩ := fB3 h
          refine cV_i (As := [.int (59 : Int32), .int (59 : Int32)]) (rest := []) (ws1 := (MW w y th ms mst smn msl mhs mtx mle mat21 mwl22 mrd8 mrm9 mtp mbt mtm mtn mnt mnb mun mum mau)) ⟨hx, hb, hml, hown, hts⟩ (c_X7_takes l D w y _ th ms mst smn msl mhs mtx mle mat6 mwl7 mrd8 mrm9 mtp mbt mtm mtn mnt mnb mun mum mau (59 : Int32) (59 : Int32) r20 mat21 mwl22 g23) (cwV 2 hts gX7_readsText_X7_takes rfl rfl rfl hd_X7_takes ⟨Nat.le_of_ble_eq_true rfl, Nat.le_of_ble_eq_true rfl⟩) hK hP hD hS hA [0, 1, 2, 3, 4, 5, 6, 7, 8] [] [0, 1, 2, 3, 4, 5, 6, 7, 8] rfl rfl rfl (by decide) rfl rfl rfl 0 (ci := 5) rfl rfl rfl hl.1 rfl (Nat.le_of_ble_eq_true rfl) dX7_readsText_37 ⟨Nat.le_of_ble_eq_true rfl, Nat.le_of_ble_eq_true rfl⟩ (fun H locs hP hD hS => ?_)
          refine lv_pop hx hb dX7_readsText_40 rfl ?_
          refine lv_aload_n hx hb dX7_readsText_41 rfl (lv_at hl 0 rfl) ?_
          refine va_get (D := D) (ci := 5) (C := RX7) (T := TX7) (N := 21) hx hb hts hinRX7 hown hK hP 0 rfl rfl 9 (by decide) q2 (fun _ h9 => h9) rfl dX7_readsText_42 ?_
          refine lv_if_eq (tgt := 14) hx hb dX7_readsText_45 (by decide) (fun c24 => ?_) (fun c24 => ?_)
          · replace h := fT c24 h
            exact ih mat21 mwl22 mrd8 mrm9 _ _ _ h hP hD hS (lv_sub hl [0] rfl)
          · replace h := fF c24 h
            refine lv_aload_n hx hb dX7_readsText_48 rfl (lv_at hl 0 rfl) ?_
            obtain ⟨mat25, mwl26, mrd27, mrm28, g29, h⟩ := fB4 h
            refine cV_v (As := []) (rest := []) (ws1 := (MW w y th ms mst smn msl mhs mtx mle mat25 mwl26 mrd27 mrm28 mtp mbt mtm mtn mnt mnb mun mum mau)) ⟨hx, hb, hml, hown, hts⟩ (c_X7_readsCommand l D w y _ th ms mst smn msl mhs mtx mle mat21 mwl22 mrd8 mrm9 mtp mbt mtm mtn mnt mnb mun mum mau mat25 mwl26 mrd27 mrm28 g29) (cwV 0 hts gX7_readsText_X7_readsCommand rfl rfl rfl hd_X7_readsCommand ⟨Nat.le_of_ble_eq_true rfl, Nat.le_of_ble_eq_true rfl⟩) hK hP hD hS hA [0, 1, 2, 3, 4, 5, 6, 7, 8] [] [0, 1, 2, 3, 4, 5, 6, 7, 8] rfl rfl rfl (by decide) rfl rfl rfl 0 (ci := 5) rfl rfl rfl hl.1 rfl (Nat.le_of_ble_eq_true rfl) dX7_readsText_49 ⟨Nat.le_of_ble_eq_true rfl, Nat.le_of_ble_eq_true rfl⟩ (fun H locs hP hD hS => ?_)
            refine lv_goto (tgt := 14) hx hb dX7_readsText_52 (by decide) ?_
            exact ih mat25 mwl26 mrd27 mrm28 _ _ _ h hP hD hS (lv_sub hl [0] rfl)
  exact LP17 FU mat1 mwl2 mrd3 mrm4 _ _ _ g14 hP hD hS (lv_sub hl [0] rfl)
abbrev rm_X7_textError : Room := { frames := 5, cells := 0, slots := 0, locals := 108 }
theorem hd_X7_textError : yX7_textError.cls = RX7 ∧ yX7_textError.cls ≠ "java/lang/invoke/MethodHandle" ∧ yX7_textError.cls ≠ "java/lang/invoke/VarHandle" ∧ (parseMethodDescriptor yX7_textError.desc).map (fun d => d.parameters.length) = some 0 := by decide +kernel
set_option maxHeartbeats 0 in
set_option maxRecDepth 100000 in
theorem c_X7_textError (l : Launch) (D : va_G) (w : Nat → Nat) (y : Nat → ClassId) (sz : Nat) (th : Int32) (ms : Nat → Int32) (mst : Nat → Int32) (smn : Int32) (msl : Nat → Int32) (mhs : Nat → Int32) (mtx : Nat → Int32) (mle : Int32) (mat : Int32) (mwl : Int32) (mrd : Nat → Int32) (mrm : Int32) (mtp : Int64) (mbt : Int64) (mtm : Nat → Int32) (mtn : Int32) (mnt : Int32) (mnb : Int32) (mun : Nat → Int32) (mum : Int32) (mau : Int32) (r : Int32) (th' : Int32) (mat' : Int32) (mwl' : Int32) (mrd' : Nat → Int32) (mrm' : Int32) (h : F_X7_textError th mtx mle mat mwl mrd mrm = some (r, th', mat', mwl', mrd', mrm')) : Met l yX7_textError wsX7_textError rm_X7_textError (va_Pc [.ref (w 0)] (px D y sz (MW w y th ms mst smn msl mhs mtx mle mat mwl mrd mrm mtp mbt mtm mtn mnt mnb mun mum mau))) (Qri D y sz (MW w y th ms mst smn msl mhs mtx mle mat mwl mrd mrm mtp mbt mtm mtn mnt mnb mun mum mau) (MW w y th' ms mst smn msl mhs mtx mle mat' mwl' mrd' mrm' mtp mbt mtm mtn mnt mnb mun mum mau) r) 0 0 (va_A (MW w y th ms mst smn msl mhs mtx mle mat mwl mrd mrm mtp mbt mtm mtn mnt mnb mun mum mau) sz) := by
  refine hd_i (cc := cX7_textError) (maxL := 1) rfl rfl (Nat.le_of_ble_eq_true rfl) ?_
  intro p e s m args below meth c A Q H locs ls hx hb hml hts hown _ hA hP hD hK hS hl hE
  have hl : lv_has ls 1 [(0, .ref (w 0))] := hl
  have q0 := hts (.fieldLink RX7 35 "SliceSharesModel" "thrown" "I") (by decide +kernel)
  have q1 := hts (.fieldLink RX7 176 "SliceSharesModel" "at" "I") (by decide +kernel)
  have hinRX7 : ∀ w ∈ wsX70, w ∈ wsX7_textError := by decide +kernel
  unfold F_X7_textError at h
  refine lv_aload_n hx hb dX7_textError_0 rfl (lv_at hl 0 rfl) ?_
  refine lv_iconst (v := (0 : Int32)) hx hb dX7_textError_1 (by decide) ?_
  refine va_put (D := D) (ci := 5) (v := .int (0 : Int32)) (ty := .int) (C := RX7) (T := TX7) (N := 21) hx hb hts hinRX7 tyX7 tyX7_ok nmX7 hown hK hP hD hS 0 rfl rfl 0 (by decide) q0 (fun _ h9 => h9) rfl (by decide +kernel) rfl rfl (Nat.le_of_ble_eq_true rfl) dX7_textError_2 (fun H locs hP hD hS => ?_)
  have hP : va_P D vwCl (MW w y (0 : Int32) ms mst smn msl mhs mtx mle mat mwl mrd mrm mtp mbt mtm mtn mnt mnb mun mum mau) H := hP
  have hD : va_D A (MW w y (0 : Int32) ms mst smn msl mhs mtx mle mat mwl mrd mrm mtp mbt mtm mtn mnt mnb mun mum mau) := hD
  refine lv_aload_n hx hb dX7_textError_5 rfl (lv_at hl 0 rfl) ?_
  obtain ⟨r1, mat2, mwl3, mrd4, mrm5, g6, h⟩ := fB5 h
  refine cV_i (As := []) (rest := []) (ws1 := (MW w y (0 : Int32) ms mst smn msl mhs mtx mle mat2 mwl3 mrd4 mrm5 mtp mbt mtm mtn mnt mnb mun mum mau)) ⟨hx, hb, hml, hown, hts⟩ (c_X7_readsText l D w y _ (0 : Int32) ms mst smn msl mhs mtx mle mat mwl mrd mrm mtp mbt mtm mtn mnt mnb mun mum mau r1 mat2 mwl3 mrd4 mrm5 g6) (cwV 0 hts gX7_textError_X7_readsText rfl rfl rfl hd_X7_readsText ⟨Nat.le_of_ble_eq_true rfl, Nat.le_of_ble_eq_true rfl⟩) hK hP hD hS hA [0, 1, 2, 3, 4, 5, 6, 7, 8] [] [0, 1, 2, 3, 4, 5, 6, 7, 8] rfl rfl rfl (by decide) rfl rfl rfl 0 (ci := 5) rfl rfl rfl hl.1 rfl (Nat.le_of_ble_eq_true rfl) dX7_textError_6 ⟨Nat.le_of_ble_eq_true rfl, Nat.le_of_ble_eq_true rfl⟩ (fun H locs hP hD hS => ?_)
  have J7 : ∀ (v8 : Int32) (ls : Array Slot), v8 = (if r1 = (0 : Int32) then mat2 else (-1 : Int32)) → lv_has ls 1 [(0, .ref (w 0))] → W p l e rm_X7_textError s m args below meth c H locs 0 0 Q (F0 m 20 ls [.int v8]) := by
    intro v8 ls ev8 hl
    subst ev8
    cases h
    exact hE _ _ _ _ dX7_textError_20 hP hD hS
  refine lv_if_eq (tgt := 16) hx hb dX7_textError_9 (by decide) (fun c9 => ?_) (fun c9 => ?_)
  · refine lv_aload_n hx hb dX7_textError_16 rfl (lv_at hl 0 rfl) ?_
    refine va_get (D := D) (ci := 5) (C := RX7) (T := TX7) (N := 21) hx hb hts hinRX7 hown hK hP 0 rfl rfl 8 (by decide) q1 (fun _ h9 => h9) rfl dX7_textError_17 ?_
    exact J7 _ _ (by rw [if_pos c9]) (lv_sub hl [0] rfl)
  · refine lv_iconst (v := (-1 : Int32)) hx hb dX7_textError_12 (by decide) ?_
    refine lv_goto (tgt := 20) hx hb dX7_textError_13 (by decide) ?_
    exact J7 _ _ (by rw [if_neg c9]) (lv_sub hl [0] rfl)
