abbrev rm_X0_begin : Room := { frames := 0, cells := 0, slots := 0, locals := 0 }
theorem hd_X0_begin : yX0_begin.cls = RX0 ∧ yX0_begin.cls ≠ "java/lang/invoke/MethodHandle" ∧ yX0_begin.cls ≠ "java/lang/invoke/VarHandle" ∧ (parseMethodDescriptor yX0_begin.desc).map (fun d => d.parameters.length) = some 0 := by decide +kernel
set_option maxHeartbeats 0 in
set_option maxRecDepth 100000 in
theorem c_X0_begin (l : Launch) (D : va_G) (o : Nat → Nat) (y : Nat → ClassId) (sz : Nat) (rE : Int32) (rL : Int32) (rP : Int32) (rF : Int32) (rS : Int32) (rD : Int32) (rE' : Int32) (h : F_X0_begin rE = some rE') : Met l yX0_begin wsX0_begin rm_X0_begin (va_Pc [.ref (o 7)] (px D y sz (RD o y rE rL rP rF rS rD))) (Qrv D y sz (RD o y rE rL rP rF rS rD) (RD o y rE' rL rP rF rS rD)) 0 0 (va_A (RD o y rE rL rP rF rS rD) sz) := by
  refine hd_v (cc := cX0_begin) (maxL := 1) rfl rfl (Nat.le_of_ble_eq_true rfl) ?_
  intro p e s m args below meth c A Q H locs ls hx hb hml hts hown _ hA hP hD hK hS hl hE
  have hl : lv_has ls 1 [(0, .ref (o 7))] := hl
  have q0 := hts (.fieldLink RX0 9 "SliceShares$CommandReader" "expected" "I") (by decide +kernel)
  have hinRX0 : ∀ w ∈ wsX00, w ∈ wsX0_begin := by decide +kernel
  unfold F_X0_begin at h
  refine lv_aload_n hx hb dX0_begin_0 rfl (lv_at hl 0 rfl) ?_
  refine lv_iconst (v := (0 : Int32)) hx hb dX0_begin_1 (by decide) ?_
  refine va_put (D := D) (ci := 0) (v := .int (0 : Int32)) (ty := .int) (C := RX0) (T := TX0) (N := 6) hx hb hts hinRX0 tyX0 tyX0_ok nmX0 hown hK hP hD hS 0 rfl rfl 0 (by decide) q0 (fun _ h9 => h9) rfl (by decide +kernel) rfl rfl (Nat.le_of_ble_eq_true rfl) dX0_begin_2 (fun H locs hP hD hS => ?_)
  have hP : va_P D vwCl (RD o y (0 : Int32) rL rP rF rS rD) H := hP
  have hD : va_D A (RD o y (0 : Int32) rL rP rF rS rD) := hD
  cases h
  exact hE _ _ _ _ dX0_begin_5 hP hD hS
abbrev rm_X0_isComplete : Room := { frames := 0, cells := 0, slots := 0, locals := 0 }
theorem hd_X0_isComplete : yX0_isComplete.cls = RX0 ∧ yX0_isComplete.cls ≠ "java/lang/invoke/MethodHandle" ∧ yX0_isComplete.cls ≠ "java/lang/invoke/VarHandle" ∧ (parseMethodDescriptor yX0_isComplete.desc).map (fun d => d.parameters.length) = some 0 := by decide +kernel
set_option maxHeartbeats 0 in
set_option maxRecDepth 100000 in
theorem c_X0_isComplete (l : Launch) (D : va_G) (o : Nat → Nat) (y : Nat → ClassId) (sz : Nat) (rE : Int32) (rL : Int32) (rP : Int32) (rF : Int32) (rS : Int32) (rD : Int32) : Met l yX0_isComplete wsX0_isComplete rm_X0_isComplete (va_Pc [.ref (o 7)] (px D y sz (RD o y rE rL rP rF rS rD))) (Qri D y sz (RD o y rE rL rP rF rS rD) (RD o y rE rL rP rF rS rD) (F_X0_isComplete rE rD)) 0 0 (va_A (RD o y rE rL rP rF rS rD) sz) := by
  refine hd_z (cc := cX0_isComplete) (maxL := 1) (rt := .boolean) rfl rfl (Nat.le_of_ble_eq_true rfl) ?_
  intro p e s m args below meth c A Q H locs ls hx hb hml hts hown _ hA hP hD hK hS hl hE
  have hl : lv_has ls 1 [(0, .ref (o 7))] := hl
  have q0 := hts (.fieldLink RX0 9 "SliceShares$CommandReader" "expected" "I") (by decide +kernel)
  have q1 := hts (.fieldLink RX0 25 "SliceShares$CommandReader" "digits" "I") (by decide +kernel)
  have hinRX0 : ∀ w ∈ wsX00, w ∈ wsX0_isComplete := by decide +kernel
  refine lv_aload_n hx hb dX0_isComplete_0 rfl (lv_at hl 0 rfl) ?_
  refine va_get (D := D) (ci := 0) (C := RX0) (T := TX0) (N := 6) hx hb hts hinRX0 hown hK hP 0 rfl rfl 0 (by decide) q0 (fun _ h9 => h9) rfl dX0_isComplete_1 ?_
  refine lv_bipush (v := (6 : Int32)) hx hb dX0_isComplete_4 (by decide) ?_
  have J1 : ∀ (v2 : Int32) (ls : Array Slot), v2 = (if rE = (6 : Int32) then (1 : Int32) else (if rE = (4 : Int32) then (if rD ≤ (0 : Int32) then (0 : Int32) else (1 : Int32)) else (0 : Int32))) → lv_has ls 1 [(0, .ref (o 7))] → W p l e rm_X0_isComplete s m args below meth c H locs 0 0 Q (F0 m 29 ls [.int v2]) := by
    intro v2 ls ev2 hl
    subst ev2
    exact hE _ _ _ _ dX0_isComplete_29 hP hD hS (nz01 (z01 (Or.inr rfl) (z01 (z01 (Or.inl rfl) (Or.inr rfl)) (Or.inl rfl))))
  refine lv_icmp_eq (tgt := 24) hx hb dX0_isComplete_6 (by decide) (fun c3 => ?_) (fun c3 => ?_)
  · refine lv_iconst (v := (1 : Int32)) hx hb dX0_isComplete_24 (by decide) ?_
    refine lv_goto (tgt := 29) hx hb dX0_isComplete_25 (by decide) ?_
    exact J1 _ _ (by rw [if_pos c3]) (lv_sub hl [0] rfl)
  · refine lv_aload_n hx hb dX0_isComplete_9 rfl (lv_at hl 0 rfl) ?_
    refine va_get (D := D) (ci := 0) (C := RX0) (T := TX0) (N := 6) hx hb hts hinRX0 hown hK hP 0 rfl rfl 0 (by decide) q0 (fun _ h9 => h9) rfl dX0_isComplete_10 ?_
    refine lv_iconst (v := (4 : Int32)) hx hb dX0_isComplete_13 (by decide) ?_
    refine lv_icmp_ne (tgt := 28) hx hb dX0_isComplete_14 (by decide) (fun c4 => ?_) (fun c4 => ?_)
    · refine lv_iconst (v := (0 : Int32)) hx hb dX0_isComplete_28 (by decide) ?_
      exact J1 _ _ (by rw [if_neg c3, if_neg c4]) (lv_sub hl [0] rfl)
    · refine lv_aload_n hx hb dX0_isComplete_17 rfl (lv_at hl 0 rfl) ?_
      refine va_get (D := D) (ci := 0) (C := RX0) (T := TX0) (N := 6) hx hb hts hinRX0 hown hK hP 0 rfl rfl 5 (by decide) q1 (fun _ h9 => h9) rfl dX0_isComplete_18 ?_
      refine lv_if_le (tgt := 28) hx hb dX0_isComplete_21 (by decide) (fun c5 => ?_) (fun c5 => ?_)
      · refine lv_iconst (v := (0 : Int32)) hx hb dX0_isComplete_28 (by decide) ?_
        exact J1 _ _ (by rw [if_neg c3, if_pos c4, if_pos c5]) (lv_sub hl [0] rfl)
      · refine lv_iconst (v := (1 : Int32)) hx hb dX0_isComplete_24 (by decide) ?_
        refine lv_goto (tgt := 29) hx hb dX0_isComplete_25 (by decide) ?_
        exact J1 _ _ (by rw [if_neg c3, if_pos c4, if_neg c5]) (lv_sub hl [0] rfl)
abbrev rm_X0_acceptLetter : Room := { frames := 0, cells := 0, slots := 0, locals := 0 }
theorem hd_X0_acceptLetter : yX0_acceptLetter.cls = RX0 ∧ yX0_acceptLetter.cls ≠ "java/lang/invoke/MethodHandle" ∧ yX0_acceptLetter.cls ≠ "java/lang/invoke/VarHandle" ∧ (parseMethodDescriptor yX0_acceptLetter.desc).map (fun d => d.parameters.length) = some 1 := by decide +kernel
set_option maxHeartbeats 0 in
set_option maxRecDepth 100000 in
theorem c_X0_acceptLetter (l : Launch) (D : va_G) (o : Nat → Nat) (y : Nat → ClassId) (sz : Nat) (rE : Int32) (rL : Int32) (rP : Int32) (rF : Int32) (rS : Int32) (rD : Int32) (a1 : Int32) (r : Int32) (rE' : Int32) (rL' : Int32) (rF' : Int32) (rS' : Int32) (rD' : Int32) (h : F_X0_acceptLetter rE rL rF rS rD a1 = some (r, rE', rL', rF', rS', rD')) : Met l yX0_acceptLetter wsX0_acceptLetter rm_X0_acceptLetter (va_Pc [.ref (o 7), .int a1] (px D y sz (RD o y rE rL rP rF rS rD))) (Qri D y sz (RD o y rE rL rP rF rS rD) (RD o y rE' rL' rP rF' rS' rD') r) 0 0 (va_A (RD o y rE rL rP rF rS rD) sz) := by
  refine hd_z (cc := cX0_acceptLetter) (maxL := 2) (rt := .boolean) rfl rfl (Nat.le_of_ble_eq_true rfl) ?_
  intro p e s m args below meth c A Q H locs ls hx hb hml hts hown _ hA hP hD hK hS hl hE
  have hl : lv_has ls 2 [(0, .ref (o 7)), (1, .int a1)] := hl
  have q0 := hts (.fieldLink RX0 13 "SliceShares$CommandReader" "letter" "I") (by decide +kernel)
  have q1 := hts (.fieldLink RX0 19 "SliceShares$CommandReader" "first" "I") (by decide +kernel)
  have q2 := hts (.fieldLink RX0 22 "SliceShares$CommandReader" "second" "I") (by decide +kernel)
  have q3 := hts (.fieldLink RX0 25 "SliceShares$CommandReader" "digits" "I") (by decide +kernel)
  have q4 := hts (.fieldLink RX0 9 "SliceShares$CommandReader" "expected" "I") (by decide +kernel)
  have hinRX0 : ∀ w ∈ wsX00, w ∈ wsX0_acceptLetter := by decide +kernel
  unfold F_X0_acceptLetter at h
  refine lv_iload_n hx hb dX0_acceptLetter_0 rfl (lv_at hl 1 rfl) ?_
  refine lv_bipush (v := (115 : Int32)) hx hb dX0_acceptLetter_1 (by decide) ?_
  refine lv_icmp_eq (tgt := 32) hx hb dX0_acceptLetter_3 (by decide) (fun c1 => ?_) (fun c1 => ?_)
  · replace h := fT c1 h
    refine lv_aload_n hx hb dX0_acceptLetter_32 rfl (lv_at hl 0 rfl) ?_
    refine lv_iload_n hx hb dX0_acceptLetter_33 rfl (lv_at hl 1 rfl) ?_
    refine va_put (D := D) (ci := 0) (v := .int a1) (ty := .int) (C := RX0) (T := TX0) (N := 6) hx hb hts hinRX0 tyX0 tyX0_ok nmX0 hown hK hP hD hS 0 rfl rfl 1 (by decide) q0 (fun _ h9 => h9) rfl (by decide +kernel) rfl rfl (Nat.le_of_ble_eq_true rfl) dX0_acceptLetter_34 (fun H locs hP hD hS => ?_)
    have hP : va_P D vwCl (RD o y rE a1 rP rF rS rD) H := hP
    have hD : va_D A (RD o y rE a1 rP rF rS rD) := hD
    refine lv_aload_n hx hb dX0_acceptLetter_37 rfl (lv_at hl 0 rfl) ?_
    refine lv_iconst (v := (0 : Int32)) hx hb dX0_acceptLetter_38 (by decide) ?_
    refine va_put (D := D) (ci := 0) (v := .int (0 : Int32)) (ty := .int) (C := RX0) (T := TX0) (N := 6) hx hb hts hinRX0 tyX0 tyX0_ok nmX0 hown hK hP hD hS 0 rfl rfl 3 (by decide) q1 (fun _ h9 => h9) rfl (by decide +kernel) rfl rfl (Nat.le_of_ble_eq_true rfl) dX0_acceptLetter_39 (fun H locs hP hD hS => ?_)
    have hP : va_P D vwCl (RD o y rE a1 rP (0 : Int32) rS rD) H := hP
    have hD : va_D A (RD o y rE a1 rP (0 : Int32) rS rD) := hD
    refine lv_aload_n hx hb dX0_acceptLetter_42 rfl (lv_at hl 0 rfl) ?_
    refine lv_iconst (v := (0 : Int32)) hx hb dX0_acceptLetter_43 (by decide) ?_
    refine va_put (D := D) (ci := 0) (v := .int (0 : Int32)) (ty := .int) (C := RX0) (T := TX0) (N := 6) hx hb hts hinRX0 tyX0 tyX0_ok nmX0 hown hK hP hD hS 0 rfl rfl 4 (by decide) q2 (fun _ h9 => h9) rfl (by decide +kernel) rfl rfl (Nat.le_of_ble_eq_true rfl) dX0_acceptLetter_44 (fun H locs hP hD hS => ?_)
    have hP : va_P D vwCl (RD o y rE a1 rP (0 : Int32) (0 : Int32) rD) H := hP
    have hD : va_D A (RD o y rE a1 rP (0 : Int32) (0 : Int32) rD) := hD
    refine lv_aload_n hx hb dX0_acceptLetter_47 rfl (lv_at hl 0 rfl) ?_
    refine lv_iconst (v := (0 : Int32)) hx hb dX0_acceptLetter_48 (by decide) ?_
    refine va_put (D := D) (ci := 0) (v := .int (0 : Int32)) (ty := .int) (C := RX0) (T := TX0) (N := 6) hx hb hts hinRX0 tyX0 tyX0_ok nmX0 hown hK hP hD hS 0 rfl rfl 5 (by decide) q3 (fun _ h9 => h9) rfl (by decide +kernel) rfl rfl (Nat.le_of_ble_eq_true rfl) dX0_acceptLetter_49 (fun H locs hP hD hS => ?_)
    have hP : va_P D vwCl (RD o y rE a1 rP (0 : Int32) (0 : Int32) (0 : Int32)) H := hP
    have hD : va_D A (RD o y rE a1 rP (0 : Int32) (0 : Int32) (0 : Int32)) := hD
    refine lv_aload_n hx hb dX0_acceptLetter_52 rfl (lv_at hl 0 rfl) ?_
    refine lv_iconst (v := (1 : Int32)) hx hb dX0_acceptLetter_53 (by decide) ?_
    refine va_put (D := D) (ci := 0) (v := .int (1 : Int32)) (ty := .int) (C := RX0) (T := TX0) (N := 6) hx hb hts hinRX0 tyX0 tyX0_ok nmX0 hown hK hP hD hS 0 rfl rfl 0 (by decide) q4 (fun _ h9 => h9) rfl (by decide +kernel) rfl rfl (Nat.le_of_ble_eq_true rfl) dX0_acceptLetter_54 (fun H locs hP hD hS => ?_)
    have hP : va_P D vwCl (RD o y (1 : Int32) a1 rP (0 : Int32) (0 : Int32) (0 : Int32)) H := hP
    have hD : va_D A (RD o y (1 : Int32) a1 rP (0 : Int32) (0 : Int32) (0 : Int32)) := hD
    refine lv_iconst (v := (1 : Int32)) hx hb dX0_acceptLetter_57 (by decide) ?_
    cases h
    exact hE _ _ _ _ dX0_acceptLetter_58 hP hD hS (nz01 (Or.inr rfl))
  · replace h := fF c1 h
    refine lv_iload_n hx hb dX0_acceptLetter_6 rfl (lv_at hl 1 rfl) ?_
    refine lv_bipush (v := (43 : Int32)) hx hb dX0_acceptLetter_7 (by decide) ?_
    refine lv_icmp_eq (tgt := 32) hx hb dX0_acceptLetter_9 (by decide) (fun c2 => ?_) (fun c2 => ?_)
    · replace h := fT c2 h
      refine lv_aload_n hx hb dX0_acceptLetter_32 rfl (lv_at hl 0 rfl) ?_
      refine lv_iload_n hx hb dX0_acceptLetter_33 rfl (lv_at hl 1 rfl) ?_
      refine va_put (D := D) (ci := 0) (v := .int a1) (ty := .int) (C := RX0) (T := TX0) (N := 6) hx hb hts hinRX0 tyX0 tyX0_ok nmX0 hown hK hP hD hS 0 rfl rfl 1 (by decide) q0 (fun _ h9 => h9) rfl (by decide +kernel) rfl rfl (Nat.le_of_ble_eq_true rfl) dX0_acceptLetter_34 (fun H locs hP hD hS => ?_)
      have hP : va_P D vwCl (RD o y rE a1 rP rF rS rD) H := hP
      have hD : va_D A (RD o y rE a1 rP rF rS rD) := hD
      refine lv_aload_n hx hb dX0_acceptLetter_37 rfl (lv_at hl 0 rfl) ?_
      refine lv_iconst (v := (0 : Int32)) hx hb dX0_acceptLetter_38 (by decide) ?_
      refine va_put (D := D) (ci := 0) (v := .int (0 : Int32)) (ty := .int) (C := RX0) (T := TX0) (N := 6) hx hb hts hinRX0 tyX0 tyX0_ok nmX0 hown hK hP hD hS 0 rfl rfl 3 (by decide) q1 (fun _ h9 => h9) rfl (by decide +kernel) rfl rfl (Nat.le_of_ble_eq_true rfl) dX0_acceptLetter_39 (fun H locs hP hD hS => ?_)
      have hP : va_P D vwCl (RD o y rE a1 rP (0 : Int32) rS rD) H := hP
      have hD : va_D A (RD o y rE a1 rP (0 : Int32) rS rD) := hD
      refine lv_aload_n hx hb dX0_acceptLetter_42 rfl (lv_at hl 0 rfl) ?_
      refine lv_iconst (v := (0 : Int32)) hx hb dX0_acceptLetter_43 (by decide) ?_
      refine va_put (D := D) (ci := 0) (v := .int (0 : Int32)) (ty := .int) (C := RX0) (T := TX0) (N := 6) hx hb hts hinRX0 tyX0 tyX0_ok nmX0 hown hK hP hD hS 0 rfl rfl 4 (by decide) q2 (fun _ h9 => h9) rfl (by decide +kernel) rfl rfl (Nat.le_of_ble_eq_true rfl) dX0_acceptLetter_44 (fun H locs hP hD hS => ?_)
      have hP : va_P D vwCl (RD o y rE a1 rP (0 : Int32) (0 : Int32) rD) H := hP
      have hD : va_D A (RD o y rE a1 rP (0 : Int32) (0 : Int32) rD) := hD
      refine lv_aload_n hx hb dX0_acceptLetter_47 rfl (lv_at hl 0 rfl) ?_
      refine lv_iconst (v := (0 : Int32)) hx hb dX0_acceptLetter_48 (by decide) ?_
      refine va_put (D := D) (ci := 0) (v := .int (0 : Int32)) (ty := .int) (C := RX0) (T := TX0) (N := 6) hx hb hts hinRX0 tyX0 tyX0_ok nmX0 hown hK hP hD hS 0 rfl rfl 5 (by decide) q3 (fun _ h9 => h9) rfl (by decide +kernel) rfl rfl (Nat.le_of_ble_eq_true rfl) dX0_acceptLetter_49 (fun H locs hP hD hS => ?_)
      have hP : va_P D vwCl (RD o y rE a1 rP (0 : Int32) (0 : Int32) (0 : Int32)) H := hP
      have hD : va_D A (RD o y rE a1 rP (0 : Int32) (0 : Int32) (0 : Int32)) := hD
      refine lv_aload_n hx hb dX0_acceptLetter_52 rfl (lv_at hl 0 rfl) ?_
      refine lv_iconst (v := (1 : Int32)) hx hb dX0_acceptLetter_53 (by decide) ?_
      refine va_put (D := D) (ci := 0) (v := .int (1 : Int32)) (ty := .int) (C := RX0) (T := TX0) (N := 6) hx hb hts hinRX0 tyX0 tyX0_ok nmX0 hown hK hP hD hS 0 rfl rfl 0 (by decide) q4 (fun _ h9 => h9) rfl (by decide +kernel) rfl rfl (Nat.le_of_ble_eq_true rfl) dX0_acceptLetter_54 (fun H locs hP hD hS => ?_)
      have hP : va_P D vwCl (RD o y (1 : Int32) a1 rP (0 : Int32) (0 : Int32) (0 : Int32)) H := hP
      have hD : va_D A (RD o y (1 : Int32) a1 rP (0 : Int32) (0 : Int32) (0 : Int32)) := hD
      refine lv_iconst (v := (1 : Int32)) hx hb dX0_acceptLetter_57 (by decide) ?_
      cases h
      exact hE _ _ _ _ dX0_acceptLetter_58 hP hD hS (nz01 (Or.inr rfl))
    · replace h := fF c2 h
      refine lv_iload_n hx hb dX0_acceptLetter_12 rfl (lv_at hl 1 rfl) ?_
      refine lv_bipush (v := (45 : Int32)) hx hb dX0_acceptLetter_13 (by decide) ?_
      refine lv_icmp_eq (tgt := 32) hx hb dX0_acceptLetter_15 (by decide) (fun c3 => ?_) (fun c3 => ?_)
      · replace h := fT c3 h
        refine lv_aload_n hx hb dX0_acceptLetter_32 rfl (lv_at hl 0 rfl) ?_
        refine lv_iload_n hx hb dX0_acceptLetter_33 rfl (lv_at hl 1 rfl) ?_
        refine va_put (D := D) (ci := 0) (v := .int a1) (ty := .int) (C := RX0) (T := TX0) (N := 6) hx hb hts hinRX0 tyX0 tyX0_ok nmX0 hown hK hP hD hS 0 rfl rfl 1 (by decide) q0 (fun _ h9 => h9) rfl (by decide +kernel) rfl rfl (Nat.le_of_ble_eq_true rfl) dX0_acceptLetter_34 (fun H locs hP hD hS => ?_)
        have hP : va_P D vwCl (RD o y rE a1 rP rF rS rD) H := hP
        have hD : va_D A (RD o y rE a1 rP rF rS rD) := hD
        refine lv_aload_n hx hb dX0_acceptLetter_37 rfl (lv_at hl 0 rfl) ?_
        refine lv_iconst (v := (0 : Int32)) hx hb dX0_acceptLetter_38 (by decide) ?_
        refine va_put (D := D) (ci := 0) (v := .int (0 : Int32)) (ty := .int) (C := RX0) (T := TX0) (N := 6) hx hb hts hinRX0 tyX0 tyX0_ok nmX0 hown hK hP hD hS 0 rfl rfl 3 (by decide) q1 (fun _ h9 => h9) rfl (by decide +kernel) rfl rfl (Nat.le_of_ble_eq_true rfl) dX0_acceptLetter_39 (fun H locs hP hD hS => ?_)
        have hP : va_P D vwCl (RD o y rE a1 rP (0 : Int32) rS rD) H := hP
        have hD : va_D A (RD o y rE a1 rP (0 : Int32) rS rD) := hD
        refine lv_aload_n hx hb dX0_acceptLetter_42 rfl (lv_at hl 0 rfl) ?_
        refine lv_iconst (v := (0 : Int32)) hx hb dX0_acceptLetter_43 (by decide) ?_
        refine va_put (D := D) (ci := 0) (v := .int (0 : Int32)) (ty := .int) (C := RX0) (T := TX0) (N := 6) hx hb hts hinRX0 tyX0 tyX0_ok nmX0 hown hK hP hD hS 0 rfl rfl 4 (by decide) q2 (fun _ h9 => h9) rfl (by decide +kernel) rfl rfl (Nat.le_of_ble_eq_true rfl) dX0_acceptLetter_44 (fun H locs hP hD hS => ?_)
        have hP : va_P D vwCl (RD o y rE a1 rP (0 : Int32) (0 : Int32) rD) H := hP
        have hD : va_D A (RD o y rE a1 rP (0 : Int32) (0 : Int32) rD) := hD
        refine lv_aload_n hx hb dX0_acceptLetter_47 rfl (lv_at hl 0 rfl) ?_
        refine lv_iconst (v := (0 : Int32)) hx hb dX0_acceptLetter_48 (by decide) ?_
        refine va_put (D := D) (ci := 0) (v := .int (0 : Int32)) (ty := .int) (C := RX0) (T := TX0) (N := 6) hx hb hts hinRX0 tyX0 tyX0_ok nmX0 hown hK hP hD hS 0 rfl rfl 5 (by decide) q3 (fun _ h9 => h9) rfl (by decide +kernel) rfl rfl (Nat.le_of_ble_eq_true rfl) dX0_acceptLetter_49 (fun H locs hP hD hS => ?_)
        have hP : va_P D vwCl (RD o y rE a1 rP (0 : Int32) (0 : Int32) (0 : Int32)) H := hP
        have hD : va_D A (RD o y rE a1 rP (0 : Int32) (0 : Int32) (0 : Int32)) := hD
        refine lv_aload_n hx hb dX0_acceptLetter_52 rfl (lv_at hl 0 rfl) ?_
        refine lv_iconst (v := (1 : Int32)) hx hb dX0_acceptLetter_53 (by decide) ?_
        refine va_put (D := D) (ci := 0) (v := .int (1 : Int32)) (ty := .int) (C := RX0) (T := TX0) (N := 6) hx hb hts hinRX0 tyX0 tyX0_ok nmX0 hown hK hP hD hS 0 rfl rfl 0 (by decide) q4 (fun _ h9 => h9) rfl (by decide +kernel) rfl rfl (Nat.le_of_ble_eq_true rfl) dX0_acceptLetter_54 (fun H locs hP hD hS => ?_)
        have hP : va_P D vwCl (RD o y (1 : Int32) a1 rP (0 : Int32) (0 : Int32) (0 : Int32)) H := hP
        have hD : va_D A (RD o y (1 : Int32) a1 rP (0 : Int32) (0 : Int32) (0 : Int32)) := hD
        refine lv_iconst (v := (1 : Int32)) hx hb dX0_acceptLetter_57 (by decide) ?_
        cases h
        exact hE _ _ _ _ dX0_acceptLetter_58 hP hD hS (nz01 (Or.inr rfl))
      · replace h := fF c3 h
        refine lv_iload_n hx hb dX0_acceptLetter_18 rfl (lv_at hl 1 rfl) ?_
        refine lv_bipush (v := (42 : Int32)) hx hb dX0_acceptLetter_19 (by decide) ?_
        refine lv_icmp_eq (tgt := 32) hx hb dX0_acceptLetter_21 (by decide) (fun c4 => ?_) (fun c4 => ?_)
        · replace h := fT c4 h
          refine lv_aload_n hx hb dX0_acceptLetter_32 rfl (lv_at hl 0 rfl) ?_
          refine lv_iload_n hx hb dX0_acceptLetter_33 rfl (lv_at hl 1 rfl) ?_
          refine va_put (D := D) (ci := 0) (v := .int a1) (ty := .int) (C := RX0) (T := TX0) (N := 6) hx hb hts hinRX0 tyX0 tyX0_ok nmX0 hown hK hP hD hS 0 rfl rfl 1 (by decide) q0 (fun _ h9 => h9) rfl (by decide +kernel) rfl rfl (Nat.le_of_ble_eq_true rfl) dX0_acceptLetter_34 (fun H locs hP hD hS => ?_)
          have hP : va_P D vwCl (RD o y rE a1 rP rF rS rD) H := hP
          have hD : va_D A (RD o y rE a1 rP rF rS rD) := hD
          refine lv_aload_n hx hb dX0_acceptLetter_37 rfl (lv_at hl 0 rfl) ?_
          refine lv_iconst (v := (0 : Int32)) hx hb dX0_acceptLetter_38 (by decide) ?_
          refine va_put (D := D) (ci := 0) (v := .int (0 : Int32)) (ty := .int) (C := RX0) (T := TX0) (N := 6) hx hb hts hinRX0 tyX0 tyX0_ok nmX0 hown hK hP hD hS 0 rfl rfl 3 (by decide) q1 (fun _ h9 => h9) rfl (by decide +kernel) rfl rfl (Nat.le_of_ble_eq_true rfl) dX0_acceptLetter_39 (fun H locs hP hD hS => ?_)
          have hP : va_P D vwCl (RD o y rE a1 rP (0 : Int32) rS rD) H := hP
          have hD : va_D A (RD o y rE a1 rP (0 : Int32) rS rD) := hD
          refine lv_aload_n hx hb dX0_acceptLetter_42 rfl (lv_at hl 0 rfl) ?_
          refine lv_iconst (v := (0 : Int32)) hx hb dX0_acceptLetter_43 (by decide) ?_
          refine va_put (D := D) (ci := 0) (v := .int (0 : Int32)) (ty := .int) (C := RX0) (T := TX0) (N := 6) hx hb hts hinRX0 tyX0 tyX0_ok nmX0 hown hK hP hD hS 0 rfl rfl 4 (by decide) q2 (fun _ h9 => h9) rfl (by decide +kernel) rfl rfl (Nat.le_of_ble_eq_true rfl) dX0_acceptLetter_44 (fun H locs hP hD hS => ?_)
          have hP : va_P D vwCl (RD o y rE a1 rP (0 : Int32) (0 : Int32) rD) H := hP
          have hD : va_D A (RD o y rE a1 rP (0 : Int32) (0 : Int32) rD) := hD
          refine lv_aload_n hx hb dX0_acceptLetter_47 rfl (lv_at hl 0 rfl) ?_
          refine lv_iconst (v := (0 : Int32)) hx hb dX0_acceptLetter_48 (by decide) ?_
          refine va_put (D := D) (ci := 0) (v := .int (0 : Int32)) (ty := .int) (C := RX0) (T := TX0) (N := 6) hx hb hts hinRX0 tyX0 tyX0_ok nmX0 hown hK hP hD hS 0 rfl rfl 5 (by decide) q3 (fun _ h9 => h9) rfl (by decide +kernel) rfl rfl (Nat.le_of_ble_eq_true rfl) dX0_acceptLetter_49 (fun H locs hP hD hS => ?_)
          have hP : va_P D vwCl (RD o y rE a1 rP (0 : Int32) (0 : Int32) (0 : Int32)) H := hP
          have hD : va_D A (RD o y rE a1 rP (0 : Int32) (0 : Int32) (0 : Int32)) := hD
          refine lv_aload_n hx hb dX0_acceptLetter_52 rfl (lv_at hl 0 rfl) ?_
          refine lv_iconst (v := (1 : Int32)) hx hb dX0_acceptLetter_53 (by decide) ?_
          refine va_put (D := D) (ci := 0) (v := .int (1 : Int32)) (ty := .int) (C := RX0) (T := TX0) (N := 6) hx hb hts hinRX0 tyX0 tyX0_ok nmX0 hown hK hP hD hS 0 rfl rfl 0 (by decide) q4 (fun _ h9 => h9) rfl (by decide +kernel) rfl rfl (Nat.le_of_ble_eq_true rfl) dX0_acceptLetter_54 (fun H locs hP hD hS => ?_)
          have hP : va_P D vwCl (RD o y (1 : Int32) a1 rP (0 : Int32) (0 : Int32) (0 : Int32)) H := hP
          have hD : va_D A (RD o y (1 : Int32) a1 rP (0 : Int32) (0 : Int32) (0 : Int32)) := hD
          refine lv_iconst (v := (1 : Int32)) hx hb dX0_acceptLetter_57 (by decide) ?_
          cases h
          exact hE _ _ _ _ dX0_acceptLetter_58 hP hD hS (nz01 (Or.inr rfl))
        · replace h := fF c4 h
          refine lv_iload_n hx hb dX0_acceptLetter_24 rfl (lv_at hl 1 rfl) ?_
          refine lv_bipush (v := (99 : Int32)) hx hb dX0_acceptLetter_25 (by decide) ?_
          refine lv_icmp_eq (tgt := 32) hx hb dX0_acceptLetter_27 (by decide) (fun c5 => ?_) (fun c5 => ?_)
          · replace h := fT c5 h
            refine lv_aload_n hx hb dX0_acceptLetter_32 rfl (lv_at hl 0 rfl) ?_
            refine lv_iload_n hx hb dX0_acceptLetter_33 rfl (lv_at hl 1 rfl) ?_
            refine va_put (D := D) (ci := 0) (v := .int a1) (ty := .int) (C := RX0) (T := TX0) (N := 6) hx hb hts hinRX0 tyX0 tyX0_ok nmX0 hown hK hP hD hS 0 rfl rfl 1 (by decide) q0 (fun _ h9 => h9) rfl (by decide +kernel) rfl rfl (Nat.le_of_ble_eq_true rfl) dX0_acceptLetter_34 (fun H locs hP hD hS => ?_)
            have hP : va_P D vwCl (RD o y rE a1 rP rF rS rD) H := hP
            have hD : va_D A (RD o y rE a1 rP rF rS rD) := hD
            refine lv_aload_n hx hb dX0_acceptLetter_37 rfl (lv_at hl 0 rfl) ?_
            refine lv_iconst (v := (0 : Int32)) hx hb dX0_acceptLetter_38 (by decide) ?_
            refine va_put (D := D) (ci := 0) (v := .int (0 : Int32)) (ty := .int) (C := RX0) (T := TX0) (N := 6) hx hb hts hinRX0 tyX0 tyX0_ok nmX0 hown hK hP hD hS 0 rfl rfl 3 (by decide) q1 (fun _ h9 => h9) rfl (by decide +kernel) rfl rfl (Nat.le_of_ble_eq_true rfl) dX0_acceptLetter_39 (fun H locs hP hD hS => ?_)
            have hP : va_P D vwCl (RD o y rE a1 rP (0 : Int32) rS rD) H := hP
            have hD : va_D A (RD o y rE a1 rP (0 : Int32) rS rD) := hD
            refine lv_aload_n hx hb dX0_acceptLetter_42 rfl (lv_at hl 0 rfl) ?_
            refine lv_iconst (v := (0 : Int32)) hx hb dX0_acceptLetter_43 (by decide) ?_
            refine va_put (D := D) (ci := 0) (v := .int (0 : Int32)) (ty := .int) (C := RX0) (T := TX0) (N := 6) hx hb hts hinRX0 tyX0 tyX0_ok nmX0 hown hK hP hD hS 0 rfl rfl 4 (by decide) q2 (fun _ h9 => h9) rfl (by decide +kernel) rfl rfl (Nat.le_of_ble_eq_true rfl) dX0_acceptLetter_44 (fun H locs hP hD hS => ?_)
            have hP : va_P D vwCl (RD o y rE a1 rP (0 : Int32) (0 : Int32) rD) H := hP
            have hD : va_D A (RD o y rE a1 rP (0 : Int32) (0 : Int32) rD) := hD
            refine lv_aload_n hx hb dX0_acceptLetter_47 rfl (lv_at hl 0 rfl) ?_
            refine lv_iconst (v := (0 : Int32)) hx hb dX0_acceptLetter_48 (by decide) ?_
            refine va_put (D := D) (ci := 0) (v := .int (0 : Int32)) (ty := .int) (C := RX0) (T := TX0) (N := 6) hx hb hts hinRX0 tyX0 tyX0_ok nmX0 hown hK hP hD hS 0 rfl rfl 5 (by decide) q3 (fun _ h9 => h9) rfl (by decide +kernel) rfl rfl (Nat.le_of_ble_eq_true rfl) dX0_acceptLetter_49 (fun H locs hP hD hS => ?_)
            have hP : va_P D vwCl (RD o y rE a1 rP (0 : Int32) (0 : Int32) (0 : Int32)) H := hP
            have hD : va_D A (RD o y rE a1 rP (0 : Int32) (0 : Int32) (0 : Int32)) := hD
            refine lv_aload_n hx hb dX0_acceptLetter_52 rfl (lv_at hl 0 rfl) ?_
            refine lv_iconst (v := (1 : Int32)) hx hb dX0_acceptLetter_53 (by decide) ?_
            refine va_put (D := D) (ci := 0) (v := .int (1 : Int32)) (ty := .int) (C := RX0) (T := TX0) (N := 6) hx hb hts hinRX0 tyX0 tyX0_ok nmX0 hown hK hP hD hS 0 rfl rfl 0 (by decide) q4 (fun _ h9 => h9) rfl (by decide +kernel) rfl rfl (Nat.le_of_ble_eq_true rfl) dX0_acceptLetter_54 (fun H locs hP hD hS => ?_)
            have hP : va_P D vwCl (RD o y (1 : Int32) a1 rP (0 : Int32) (0 : Int32) (0 : Int32)) H := hP
            have hD : va_D A (RD o y (1 : Int32) a1 rP (0 : Int32) (0 : Int32) (0 : Int32)) := hD
            refine lv_iconst (v := (1 : Int32)) hx hb dX0_acceptLetter_57 (by decide) ?_
            cases h
            exact hE _ _ _ _ dX0_acceptLetter_58 hP hD hS (nz01 (Or.inr rfl))
          · replace h := fF c5 h
            refine lv_iconst (v := (0 : Int32)) hx hb dX0_acceptLetter_30 (by decide) ?_
            cases h
            exact hE _ _ _ _ dX0_acceptLetter_31 hP hD hS (nz01 (Or.inl rfl))
abbrev rm_X0_isDigit : Room := { frames := 0, cells := 0, slots := 0, locals := 0 }
theorem hd_X0_isDigit : yX0_isDigit.cls ≠ "java/lang/invoke/MethodHandle" ∧ yX0_isDigit.cls ≠ "java/lang/invoke/VarHandle" ∧ (parseMethodDescriptor yX0_isDigit.desc).map (fun d => d.parameters.length) = some 1 := by decide +kernel
set_option maxHeartbeats 0 in
set_option maxRecDepth 100000 in
theorem c_X0_isDigit (l : Launch) (D : va_G) (y : Nat → ClassId) (sz : Nat) (a1 : Int32) : Met l yX0_isDigit wsX0_isDigit rm_X0_isDigit (va_Pc [.int a1] (px D y sz [])) (Qri D y sz [] [] (F_X0_isDigit a1)) 0 0 (va_A [] sz) := by
  refine hd_z (cc := cX0_isDigit) (maxL := 1) (rt := .boolean) rfl rfl (Nat.le_of_ble_eq_true rfl) ?_
  intro p e s m args below meth c A Q H locs ls hx hb hml hts hown _ hA hP hD hK hS hl hE
  have hl : lv_has ls 1 [(0, .int a1)] := hl
  refine lv_iload_n hx hb dX0_isDigit_0 rfl (lv_at hl 0 rfl) ?_
  refine lv_bipush (v := (48 : Int32)) hx hb dX0_isDigit_1 (by decide) ?_
  have J1 : ∀ (v2 : Int32) (ls : Array Slot), v2 = (if a1 < (48 : Int32) then (0 : Int32) else (if (57 : Int32) < a1 then (0 : Int32) else (1 : Int32))) → lv_has ls 1 [(0, .int a1)] → W p l e rm_X0_isDigit s m args below meth c H locs 0 0 Q (F0 m 17 ls [.int v2]) := by
    intro v2 ls ev2 hl
    subst ev2
    exact hE _ _ _ _ dX0_isDigit_17 hP hD hS (nz01 (z01 (Or.inl rfl) (z01 (Or.inl rfl) (Or.inr rfl))))
  refine lv_icmp_lt (tgt := 16) hx hb dX0_isDigit_3 (by decide) (fun c3 => ?_) (fun c3 => ?_)
  · refine lv_iconst (v := (0 : Int32)) hx hb dX0_isDigit_16 (by decide) ?_
    exact J1 _ _ (by rw [if_pos c3]) (lv_sub hl [0] rfl)
  · refine lv_iload_n hx hb dX0_isDigit_6 rfl (lv_at hl 0 rfl) ?_
    refine lv_bipush (v := (57 : Int32)) hx hb dX0_isDigit_7 (by decide) ?_
    refine lv_icmp_gt (tgt := 16) hx hb dX0_isDigit_9 (by decide) (fun c4 => ?_) (fun c4 => ?_)
    · refine lv_iconst (v := (0 : Int32)) hx hb dX0_isDigit_16 (by decide) ?_
      exact J1 _ _ (by rw [if_neg c3, if_pos c4]) (lv_sub hl [0] rfl)
    · refine lv_iconst (v := (1 : Int32)) hx hb dX0_isDigit_12 (by decide) ?_
      refine lv_goto (tgt := 17) hx hb dX0_isDigit_13 (by decide) ?_
      exact J1 _ _ (by rw [if_neg c3, if_neg c4]) (lv_sub hl [0] rfl)
abbrev rm_X0_acceptPlate : Room := { frames := 1, cells := 0, slots := 0, locals := 20 }
theorem hd_X0_acceptPlate : yX0_acceptPlate.cls = RX0 ∧ yX0_acceptPlate.cls ≠ "java/lang/invoke/MethodHandle" ∧ yX0_acceptPlate.cls ≠ "java/lang/invoke/VarHandle" ∧ (parseMethodDescriptor yX0_acceptPlate.desc).map (fun d => d.parameters.length) = some 1 := by decide +kernel
set_option maxHeartbeats 0 in
set_option maxRecDepth 100000 in
theorem c_X0_acceptPlate (l : Launch) (D : va_G) (o : Nat → Nat) (y : Nat → ClassId) (sz : Nat) (rE : Int32) (rL : Int32) (rP : Int32) (rF : Int32) (rS : Int32) (rD : Int32) (a1 : Int32) (r : Int32) (rE' : Int32) (rP' : Int32) (h : F_X0_acceptPlate rE rP a1 = some (r, rE', rP')) : Met l yX0_acceptPlate wsX0_acceptPlate rm_X0_acceptPlate (va_Pc [.ref (o 7), .int a1] (px D y sz (RD o y rE rL rP rF rS rD))) (Qri D y sz (RD o y rE rL rP rF rS rD) (RD o y rE' rL rP' rF rS rD) r) 0 0 (va_A (RD o y rE rL rP rF rS rD) sz) := by
  refine hd_z (cc := cX0_acceptPlate) (maxL := 2) (rt := .boolean) rfl rfl (Nat.le_of_ble_eq_true rfl) ?_
  intro p e s m args below meth c A Q H locs ls hx hb hml hts hown _ hA hP hD hK hS hl hE
  have hl : lv_has ls 2 [(0, .ref (o 7)), (1, .int a1)] := hl
  have q0 := hts (.fieldLink RX0 16 "SliceShares$CommandReader" "plate" "I") (by decide +kernel)
  have q1 := hts (.fieldLink RX0 9 "SliceShares$CommandReader" "expected" "I") (by decide +kernel)
  have hinRX0 : ∀ w ∈ wsX00, w ∈ wsX0_acceptPlate := by decide +kernel
  unfold F_X0_acceptPlate at h
  refine lv_iload_n hx hb dX0_acceptPlate_0 rfl (lv_at hl 1 rfl) ?_
  refine cT_i (As := [.int a1]) (rest := []) ⟨hx, hb, hml, hown, hts⟩ (c_X0_isDigit l D y _ a1) (va_cwS 1 hts gX0_acceptPlate_X0_isDigit rfl rfl rfl hd_X0_isDigit ⟨Nat.le_of_ble_eq_true rfl, Nat.le_of_ble_eq_true rfl⟩) hK hP hD hS hA rfl hl.1 rfl (Nat.le_of_ble_eq_true rfl) dX0_acceptPlate_1 ⟨Nat.le_of_ble_eq_true rfl, Nat.le_of_ble_eq_true rfl⟩ (fun H locs hP hD hS => ?_)
  refine lv_if_ne (tgt := 9) hx hb dX0_acceptPlate_4 (by decide) (fun c1 => ?_) (fun c1 => ?_)
  · replace h := fF c1 h
    refine lv_aload_n hx hb dX0_acceptPlate_9 rfl (lv_at hl 0 rfl) ?_
    refine lv_iload_n hx hb dX0_acceptPlate_10 rfl (lv_at hl 1 rfl) ?_
    refine lv_bipush (v := (48 : Int32)) hx hb dX0_acceptPlate_11 (by decide) ?_
    refine lv_isub hx hb dX0_acceptPlate_13 ?_
    refine va_put (D := D) (ci := 0) (v := .int (a1 - (48 : Int32))) (ty := .int) (C := RX0) (T := TX0) (N := 6) hx hb hts hinRX0 tyX0 tyX0_ok nmX0 hown hK hP hD hS 0 rfl rfl 2 (by decide) q0 (fun _ h9 => h9) rfl (by decide +kernel) rfl rfl (Nat.le_of_ble_eq_true rfl) dX0_acceptPlate_14 (fun H locs hP hD hS => ?_)
    have hP : va_P D vwCl (RD o y rE rL (a1 - (48 : Int32)) rF rS rD) H := hP
    have hD : va_D A (RD o y rE rL (a1 - (48 : Int32)) rF rS rD) := hD
    refine lv_aload_n hx hb dX0_acceptPlate_17 rfl (lv_at hl 0 rfl) ?_
    refine lv_iconst (v := (2 : Int32)) hx hb dX0_acceptPlate_18 (by decide) ?_
    refine va_put (D := D) (ci := 0) (v := .int (2 : Int32)) (ty := .int) (C := RX0) (T := TX0) (N := 6) hx hb hts hinRX0 tyX0 tyX0_ok nmX0 hown hK hP hD hS 0 rfl rfl 0 (by decide) q1 (fun _ h9 => h9) rfl (by decide +kernel) rfl rfl (Nat.le_of_ble_eq_true rfl) dX0_acceptPlate_19 (fun H locs hP hD hS => ?_)
    have hP : va_P D vwCl (RD o y (2 : Int32) rL (a1 - (48 : Int32)) rF rS rD) H := hP
    have hD : va_D A (RD o y (2 : Int32) rL (a1 - (48 : Int32)) rF rS rD) := hD
    refine lv_iconst (v := (1 : Int32)) hx hb dX0_acceptPlate_22 (by decide) ?_
    cases h
    exact hE _ _ _ _ dX0_acceptPlate_23 hP hD hS (nz01 (Or.inr rfl))
  · replace h := fT c1 h
    refine lv_iconst (v := (0 : Int32)) hx hb dX0_acceptPlate_7 (by decide) ?_
    cases h
    exact hE _ _ _ _ dX0_acceptPlate_8 hP hD hS (nz01 (Or.inl rfl))
abbrev rm_X0_acceptSignBehindPlate : Room := { frames := 0, cells := 0, slots := 0, locals := 0 }
theorem hd_X0_acceptSignBehindPlate : yX0_acceptSignBehindPlate.cls = RX0 ∧ yX0_acceptSignBehindPlate.cls ≠ "java/lang/invoke/MethodHandle" ∧ yX0_acceptSignBehindPlate.cls ≠ "java/lang/invoke/VarHandle" ∧ (parseMethodDescriptor yX0_acceptSignBehindPlate.desc).map (fun d => d.parameters.length) = some 1 := by decide +kernel
set_option maxHeartbeats 0 in
set_option maxRecDepth 100000 in
theorem c_X0_acceptSignBehindPlate (l : Launch) (D : va_G) (o : Nat → Nat) (y : Nat → ClassId) (sz : Nat) (rE : Int32) (rL : Int32) (rP : Int32) (rF : Int32) (rS : Int32) (rD : Int32) (a1 : Int32) (r : Int32) (rE' : Int32) (h : F_X0_acceptSignBehindPlate rE rL a1 = some (r, rE')) : Met l yX0_acceptSignBehindPlate wsX0_acceptSignBehindPlate rm_X0_acceptSignBehindPlate (va_Pc [.ref (o 7), .int a1] (px D y sz (RD o y rE rL rP rF rS rD))) (Qri D y sz (RD o y rE rL rP rF rS rD) (RD o y rE' rL rP rF rS rD) r) 0 0 (va_A (RD o y rE rL rP rF rS rD) sz) := by
  refine hd_z (cc := cX0_acceptSignBehindPlate) (maxL := 2) (rt := .boolean) rfl rfl (Nat.le_of_ble_eq_true rfl) ?_
  intro p e s m args below meth c A Q H locs ls hx hb hml hts hown _ hA hP hD hK hS hl hE
  have hl : lv_has ls 2 [(0, .ref (o 7)), (1, .int a1)] := hl
  have q0 := hts (.fieldLink RX0 13 "SliceShares$CommandReader" "letter" "I") (by decide +kernel)
  have q1 := hts (.fieldLink RX0 9 "SliceShares$CommandReader" "expected" "I") (by decide +kernel)
  have hinRX0 : ∀ w ∈ wsX00, w ∈ wsX0_acceptSignBehindPlate := by decide +kernel
  unfold F_X0_acceptSignBehindPlate at h
  refine lv_aload_n hx hb dX0_acceptSignBehindPlate_0 rfl (lv_at hl 0 rfl) ?_
  refine va_get (D := D) (ci := 0) (C := RX0) (T := TX0) (N := 6) hx hb hts hinRX0 hown hK hP 0 rfl rfl 1 (by decide) q0 (fun _ h9 => h9) rfl dX0_acceptSignBehindPlate_1 ?_
  refine lv_bipush (v := (115 : Int32)) hx hb dX0_acceptSignBehindPlate_4 (by decide) ?_
  refine lv_icmp_ne (tgt := 26) hx hb dX0_acceptSignBehindPlate_6 (by decide) (fun c1 => ?_) (fun c1 => ?_)
  · replace h := fF c1 h
    refine lv_aload_n hx hb dX0_acceptSignBehindPlate_26 rfl (lv_at hl 0 rfl) ?_
    refine lv_iconst (v := (5 : Int32)) hx hb dX0_acceptSignBehindPlate_27 (by decide) ?_
    refine va_put (D := D) (ci := 0) (v := .int (5 : Int32)) (ty := .int) (C := RX0) (T := TX0) (N := 6) hx hb hts hinRX0 tyX0 tyX0_ok nmX0 hown hK hP hD hS 0 rfl rfl 0 (by decide) q1 (fun _ h9 => h9) rfl (by decide +kernel) rfl rfl (Nat.le_of_ble_eq_true rfl) dX0_acceptSignBehindPlate_28 (fun H locs hP hD hS => ?_)
    have hP : va_P D vwCl (RD o y (5 : Int32) rL rP rF rS rD) H := hP
    have hD : va_D A (RD o y (5 : Int32) rL rP rF rS rD) := hD
    refine lv_iload_n hx hb dX0_acceptSignBehindPlate_31 rfl (lv_at hl 1 rfl) ?_
    refine lv_bipush (v := (44 : Int32)) hx hb dX0_acceptSignBehindPlate_32 (by decide) ?_
    have J2 : ∀ (v3 : Int32) (ls : Array Slot), v3 = (if a1 = (44 : Int32) then (1 : Int32) else (0 : Int32)) → lv_has ls 2 [(0, .ref (o 7)), (1, .int a1)] → W p l e rm_X0_acceptSignBehindPlate s m args below meth c H locs 0 0 Q (F0 m 42 ls [.int v3]) := by
      intro v3 ls ev3 hl
      subst ev3
      cases h
      exact hE _ _ _ _ dX0_acceptSignBehindPlate_42 hP hD hS (nz01 (z01 (Or.inr rfl) (Or.inl rfl)))
    refine lv_icmp_ne (tgt := 41) hx hb dX0_acceptSignBehindPlate_34 (by decide) (fun c4 => ?_) (fun c4 => ?_)
    · refine lv_iconst (v := (0 : Int32)) hx hb dX0_acceptSignBehindPlate_41 (by decide) ?_
      exact J2 _ _ (by rw [if_neg c4]) (lv_sub hl [0, 1] rfl)
    · refine lv_iconst (v := (1 : Int32)) hx hb dX0_acceptSignBehindPlate_37 (by decide) ?_
      refine lv_goto (tgt := 42) hx hb dX0_acceptSignBehindPlate_38 (by decide) ?_
      exact J2 _ _ (by rw [if_pos c4]) (lv_sub hl [0, 1] rfl)
  · replace h := fT c1 h
    refine lv_aload_n hx hb dX0_acceptSignBehindPlate_9 rfl (lv_at hl 0 rfl) ?_
    refine lv_iconst (v := (3 : Int32)) hx hb dX0_acceptSignBehindPlate_10 (by decide) ?_
    refine va_put (D := D) (ci := 0) (v := .int (3 : Int32)) (ty := .int) (C := RX0) (T := TX0) (N := 6) hx hb hts hinRX0 tyX0 tyX0_ok nmX0 hown hK hP hD hS 0 rfl rfl 0 (by decide) q1 (fun _ h9 => h9) rfl (by decide +kernel) rfl rfl (Nat.le_of_ble_eq_true rfl) dX0_acceptSignBehindPlate_11 (fun H locs hP hD hS => ?_)
    have hP : va_P D vwCl (RD o y (3 : Int32) rL rP rF rS rD) H := hP
    have hD : va_D A (RD o y (3 : Int32) rL rP rF rS rD) := hD
    refine lv_iload_n hx hb dX0_acceptSignBehindPlate_14 rfl (lv_at hl 1 rfl) ?_
    refine lv_bipush (v := (61 : Int32)) hx hb dX0_acceptSignBehindPlate_15 (by decide) ?_
    have J5 : ∀ (v6 : Int32) (ls : Array Slot), v6 = (if a1 = (61 : Int32) then (1 : Int32) else (0 : Int32)) → lv_has ls 2 [(0, .ref (o 7)), (1, .int a1)] → W p l e rm_X0_acceptSignBehindPlate s m args below meth c H locs 0 0 Q (F0 m 25 ls [.int v6]) := by
      intro v6 ls ev6 hl
      subst ev6
      cases h
      exact hE _ _ _ _ dX0_acceptSignBehindPlate_25 hP hD hS (nz01 (z01 (Or.inr rfl) (Or.inl rfl)))
    refine lv_icmp_ne (tgt := 24) hx hb dX0_acceptSignBehindPlate_17 (by decide) (fun c7 => ?_) (fun c7 => ?_)
    · refine lv_iconst (v := (0 : Int32)) hx hb dX0_acceptSignBehindPlate_24 (by decide) ?_
      exact J5 _ _ (by rw [if_neg c7]) (lv_sub hl [0, 1] rfl)
    · refine lv_iconst (v := (1 : Int32)) hx hb dX0_acceptSignBehindPlate_20 (by decide) ?_
      refine lv_goto (tgt := 25) hx hb dX0_acceptSignBehindPlate_21 (by decide) ?_
      exact J5 _ _ (by rw [if_pos c7]) (lv_sub hl [0, 1] rfl)
abbrev rm_X0_canFollow : Room := { frames := 1, cells := 0, slots := 0, locals := 20 }
theorem hd_X0_canFollow : yX0_canFollow.cls = RX0 ∧ yX0_canFollow.cls ≠ "java/lang/invoke/MethodHandle" ∧ yX0_canFollow.cls ≠ "java/lang/invoke/VarHandle" ∧ (parseMethodDescriptor yX0_canFollow.desc).map (fun d => d.parameters.length) = some 2 := by decide +kernel
set_option maxHeartbeats 0 in
set_option maxRecDepth 100000 in
theorem c_X0_canFollow (l : Launch) (D : va_G) (o : Nat → Nat) (y : Nat → ClassId) (sz : Nat) (rE : Int32) (rL : Int32) (rP : Int32) (rF : Int32) (rS : Int32) (rD : Int32) (a1 : Int32) (a2 : Int32) : Met l yX0_canFollow wsX0_canFollow rm_X0_canFollow (va_Pc [.ref (o 7), .int a1, .int a2] (px D y sz (RD o y rE rL rP rF rS rD))) (Qri D y sz (RD o y rE rL rP rF rS rD) (RD o y rE rL rP rF rS rD) (F_X0_canFollow rD a1 a2)) 0 0 (va_A (RD o y rE rL rP rF rS rD) sz) := by
  refine hd_z (cc := cX0_canFollow) (maxL := 4) (rt := .boolean) rfl rfl (Nat.le_of_ble_eq_true rfl) ?_
  intro p e s m args below meth c A Q H locs ls hx hb hml hts hown _ hA hP hD hK hS hl hE
  have hl : lv_has ls 4 [(0, .ref (o 7)), (1, .int a1), (2, .int a2)] := hl
  have q0 := hts (.fieldLink RX0 25 "SliceShares$CommandReader" "digits" "I") (by decide +kernel)
  have hinRX0 : ∀ w ∈ wsX00, w ∈ wsX0_canFollow := by decide +kernel
  refine lv_aload_n hx hb dX0_canFollow_0 rfl (lv_at hl 0 rfl) ?_
  refine va_get (D := D) (ci := 0) (C := RX0) (T := TX0) (N := 6) hx hb hts hinRX0 hown hK hP 0 rfl rfl 5 (by decide) q0 (fun _ h9 => h9) rfl dX0_canFollow_1 ?_
  have J1 : ∀ (v2 : Int32) (ls : Array Slot), v2 = (if rD ≤ (0 : Int32) then (0 : Int32) else (if a1 = (0 : Int32) then (1 : Int32) else (0 : Int32))) → lv_has ls 4 [(0, .ref (o 7)), (1, .int a1), (2, .int a2)] → W p l e rm_X0_canFollow s m args below meth c H locs 0 0 Q (F0 m 16 ls [.int v2]) := by
    intro v2 ls ev2 hl
    subst ev2
    refine lv_istore_n (lv' := [(3, .int (if rD ≤ (0 : Int32) then (0 : Int32) else (if a1 = (0 : Int32) then (1 : Int32) else (0 : Int32)))), (0, .ref (o 7)), (1, .int a1), (2, .int a2)]) hx hb dX0_canFollow_16 rfl hl (by decide) rfl (fun ls hl => ?_)
    refine lv_iload_n hx hb dX0_canFollow_17 rfl (lv_at hl 3 rfl) ?_
    refine cT_i (As := [.int a2]) (rest := []) ⟨hx, hb, hml, hown, hts⟩ (c_X0_isDigit l D y _ a2) (va_cwS 1 hts gX0_canFollow_X0_isDigit rfl rfl rfl hd_X0_isDigit ⟨Nat.le_of_ble_eq_true rfl, Nat.le_of_ble_eq_true rfl⟩) hK hP hD hS hA rfl hl.1 rfl (Nat.le_of_ble_eq_true rfl) dX0_canFollow_18 ⟨Nat.le_of_ble_eq_true rfl, Nat.le_of_ble_eq_true rfl⟩ (fun H locs hP hD hS => ?_)
    have J3 : ∀ (v4 : Int32) (ls : Array Slot), v4 = (if (F_X0_isDigit a2) = (0 : Int32) then (0 : Int32) else (if (4 : Int32) ≤ rD then (0 : Int32) else (if (if rD ≤ (0 : Int32) then (0 : Int32) else (if a1 = (0 : Int32) then (1 : Int32) else (0 : Int32))) = (0 : Int32) then (1 : Int32) else (0 : Int32)))) → lv_has ls 4 [(0, .ref (o 7)), (1, .int a1), (2, .int a2), (3, .int (if rD ≤ (0 : Int32) then (0 : Int32) else (if a1 = (0 : Int32) then (1 : Int32) else (0 : Int32))))] → W p l e rm_X0_canFollow s m args below meth c H locs 0 0 Q (F0 m 41 ls [.int v4]) := by
      intro v4 ls ev4 hl
      subst ev4
      exact hE _ _ _ _ dX0_canFollow_41 hP hD hS (nz01 (z01 (Or.inl rfl) (z01 (Or.inl rfl) (z01 (Or.inr rfl) (Or.inl rfl)))))
    refine lv_if_eq (tgt := 40) hx hb dX0_canFollow_21 (by decide) (fun c5 => ?_) (fun c5 => ?_)
    · refine lv_iconst (v := (0 : Int32)) hx hb dX0_canFollow_40 (by decide) ?_
      exact J3 _ _ (by rw [if_pos c5]) (lv_sub hl [1, 2, 3, 0] rfl)
    · refine lv_aload_n hx hb dX0_canFollow_24 rfl (lv_at hl 1 rfl) ?_
      refine va_get (D := D) (ci := 0) (C := RX0) (T := TX0) (N := 6) hx hb hts hinRX0 hown hK hP 0 rfl rfl 5 (by decide) q0 (fun _ h9 => h9) rfl dX0_canFollow_25 ?_
      refine lv_iconst (v := (4 : Int32)) hx hb dX0_canFollow_28 (by decide) ?_
      refine lv_icmp_ge (tgt := 40) hx hb dX0_canFollow_29 (by decide) (fun c6 => ?_) (fun c6 => ?_)
      · refine lv_iconst (v := (0 : Int32)) hx hb dX0_canFollow_40 (by decide) ?_
        exact J3 _ _ (by rw [if_neg c5, if_pos c6]) (lv_sub hl [1, 2, 3, 0] rfl)
      · refine lv_iload_n hx hb dX0_canFollow_32 rfl (lv_at hl 0 rfl) ?_
        refine lv_if_ne (tgt := 40) hx hb dX0_canFollow_33 (by decide) (fun c7 => ?_) (fun c7 => ?_)
        · refine lv_iconst (v := (0 : Int32)) hx hb dX0_canFollow_40 (by decide) ?_
          exact J3 _ _ (by rw [if_neg c5, if_neg c6, if_neg c7]) (lv_sub hl [1, 2, 3, 0] rfl)
        · refine lv_iconst (v := (1 : Int32)) hx hb dX0_canFollow_36 (by decide) ?_
          refine lv_goto (tgt := 41) hx hb dX0_canFollow_37 (by decide) ?_
          exact J3 _ _ (by rw [if_neg c5, if_neg c6, if_pos c7]) (lv_sub hl [1, 2, 3, 0] rfl)
  refine lv_if_le (tgt := 15) hx hb dX0_canFollow_4 (by decide) (fun c8 => ?_) (fun c8 => ?_)
  · refine lv_iconst (v := (0 : Int32)) hx hb dX0_canFollow_15 (by decide) ?_
    exact J1 _ _ (by rw [if_pos c8]) (lv_sub hl [0, 1, 2] rfl)
  · refine lv_iload_n hx hb dX0_canFollow_7 rfl (lv_at hl 1 rfl) ?_
    refine lv_if_ne (tgt := 15) hx hb dX0_canFollow_8 (by decide) (fun c9 => ?_) (fun c9 => ?_)
    · refine lv_iconst (v := (0 : Int32)) hx hb dX0_canFollow_15 (by decide) ?_
      exact J1 _ _ (by rw [if_neg c8, if_neg c9]) (lv_sub hl [0, 1, 2] rfl)
    · refine lv_iconst (v := (1 : Int32)) hx hb dX0_canFollow_11 (by decide) ?_
      refine lv_goto (tgt := 16) hx hb dX0_canFollow_12 (by decide) ?_
      exact J1 _ _ (by rw [if_neg c8, if_pos c9]) (lv_sub hl [0, 1, 2] rfl)
abbrev rm_X0_acceptFirstNumber : Room := { frames := 2, cells := 0, slots := 0, locals := 43 }
theorem hd_X0_acceptFirstNumber : yX0_acceptFirstNumber.cls = RX0 ∧ yX0_acceptFirstNumber.cls ≠ "java/lang/invoke/MethodHandle" ∧ yX0_acceptFirstNumber.cls ≠ "java/lang/invoke/VarHandle" ∧ (parseMethodDescriptor yX0_acceptFirstNumber.desc).map (fun d => d.parameters.length) = some 1 := by decide +kernel
set_option maxHeartbeats 0 in
set_option maxRecDepth 100000 in
theorem c_X0_acceptFirstNumber (l : Launch) (D : va_G) (o : Nat → Nat) (y : Nat → ClassId) (sz : Nat) (rE : Int32) (rL : Int32) (rP : Int32) (rF : Int32) (rS : Int32) (rD : Int32) (a1 : Int32) (r : Int32) (rE' : Int32) (rF' : Int32) (rD' : Int32) (h : F_X0_acceptFirstNumber rE rF rD a1 = some (r, rE', rF', rD')) : Met l yX0_acceptFirstNumber wsX0_acceptFirstNumber rm_X0_acceptFirstNumber (va_Pc [.ref (o 7), .int a1] (px D y sz (RD o y rE rL rP rF rS rD))) (Qri D y sz (RD o y rE rL rP rF rS rD) (RD o y rE' rL rP rF' rS rD') r) 0 0 (va_A (RD o y rE rL rP rF rS rD) sz) := by
  refine hd_z (cc := cX0_acceptFirstNumber) (maxL := 2) (rt := .boolean) rfl rfl (Nat.le_of_ble_eq_true rfl) ?_
  intro p e s m args below meth c A Q H locs ls hx hb hml hts hown _ hA hP hD hK hS hl hE
  have hl : lv_has ls 2 [(0, .ref (o 7)), (1, .int a1)] := hl
  have q0 := hts (.fieldLink RX0 19 "SliceShares$CommandReader" "first" "I") (by decide +kernel)
  have q1 := hts (.fieldLink RX0 25 "SliceShares$CommandReader" "digits" "I") (by decide +kernel)
  have q2 := hts (.fieldLink RX0 9 "SliceShares$CommandReader" "expected" "I") (by decide +kernel)
  have hinRX0 : ∀ w ∈ wsX00, w ∈ wsX0_acceptFirstNumber := by decide +kernel
  unfold F_X0_acceptFirstNumber at h
  refine lv_aload_n hx hb dX0_acceptFirstNumber_0 rfl (lv_at hl 0 rfl) ?_
  refine lv_aload_n hx hb dX0_acceptFirstNumber_1 rfl (lv_at hl 0 rfl) ?_
  refine va_get (D := D) (ci := 0) (C := RX0) (T := TX0) (N := 6) hx hb hts hinRX0 hown hK hP 0 rfl rfl 3 (by decide) q0 (fun _ h9 => h9) rfl dX0_acceptFirstNumber_2 ?_
  refine lv_iload_n hx hb dX0_acceptFirstNumber_5 rfl (lv_at hl 1 rfl) ?_
  refine cV_i (As := [.int rF, .int a1]) (rest := []) (ws1 := (RD o y rE rL rP rF rS rD)) ⟨hx, hb, hml, hown, hts⟩ (c_X0_canFollow l D o y _ rE rL rP rF rS rD rF a1) (cwV 2 hts gX0_acceptFirstNumber_X0_canFollow rfl rfl rfl hd_X0_canFollow ⟨Nat.le_of_ble_eq_true rfl, Nat.le_of_ble_eq_true rfl⟩) hK hP hD hS hA [0] [] [0] rfl rfl rfl (by decide) rfl rfl rfl 0 (ci := 0) rfl rfl rfl hl.1 rfl (Nat.le_of_ble_eq_true rfl) dX0_acceptFirstNumber_6 ⟨Nat.le_of_ble_eq_true rfl, Nat.le_of_ble_eq_true rfl⟩ (fun H locs hP hD hS => ?_)
  refine lv_if_eq (tgt := 40) hx hb dX0_acceptFirstNumber_9 (by decide) (fun c1 => ?_) (fun c1 => ?_)
  · replace h := fT c1 h
    refine lv_iload_n hx hb dX0_acceptFirstNumber_40 rfl (lv_at hl 1 rfl) ?_
    refine lv_bipush (v := (47 : Int32)) hx hb dX0_acceptFirstNumber_41 (by decide) ?_
    refine lv_icmp_ne (tgt := 53) hx hb dX0_acceptFirstNumber_43 (by decide) (fun c2 => ?_) (fun c2 => ?_)
    · replace h := fF c2 h
      refine lv_iconst (v := (0 : Int32)) hx hb dX0_acceptFirstNumber_53 (by decide) ?_
      cases h
      exact hE _ _ _ _ dX0_acceptFirstNumber_54 hP hD hS (nz01 (Or.inl rfl))
    · replace h := fT c2 h
      refine lv_aload_n hx hb dX0_acceptFirstNumber_46 rfl (lv_at hl 0 rfl) ?_
      refine va_get (D := D) (ci := 0) (C := RX0) (T := TX0) (N := 6) hx hb hts hinRX0 hown hK hP 0 rfl rfl 5 (by decide) q1 (fun _ h9 => h9) rfl dX0_acceptFirstNumber_47 ?_
      refine lv_if_ne (tgt := 55) hx hb dX0_acceptFirstNumber_50 (by decide) (fun c3 => ?_) (fun c3 => ?_)
      · replace h := fF c3 h
        refine lv_aload_n hx hb dX0_acceptFirstNumber_55 rfl (lv_at hl 0 rfl) ?_
        refine lv_iconst (v := (0 : Int32)) hx hb dX0_acceptFirstNumber_56 (by decide) ?_
        refine va_put (D := D) (ci := 0) (v := .int (0 : Int32)) (ty := .int) (C := RX0) (T := TX0) (N := 6) hx hb hts hinRX0 tyX0 tyX0_ok nmX0 hown hK hP hD hS 0 rfl rfl 5 (by decide) q1 (fun _ h9 => h9) rfl (by decide +kernel) rfl rfl (Nat.le_of_ble_eq_true rfl) dX0_acceptFirstNumber_57 (fun H locs hP hD hS => ?_)
        have hP : va_P D vwCl (RD o y rE rL rP rF rS (0 : Int32)) H := hP
        have hD : va_D A (RD o y rE rL rP rF rS (0 : Int32)) := hD
        refine lv_aload_n hx hb dX0_acceptFirstNumber_60 rfl (lv_at hl 0 rfl) ?_
        refine lv_iconst (v := (4 : Int32)) hx hb dX0_acceptFirstNumber_61 (by decide) ?_
        refine va_put (D := D) (ci := 0) (v := .int (4 : Int32)) (ty := .int) (C := RX0) (T := TX0) (N := 6) hx hb hts hinRX0 tyX0 tyX0_ok nmX0 hown hK hP hD hS 0 rfl rfl 0 (by decide) q2 (fun _ h9 => h9) rfl (by decide +kernel) rfl rfl (Nat.le_of_ble_eq_true rfl) dX0_acceptFirstNumber_62 (fun H locs hP hD hS => ?_)
        have hP : va_P D vwCl (RD o y (4 : Int32) rL rP rF rS (0 : Int32)) H := hP
        have hD : va_D A (RD o y (4 : Int32) rL rP rF rS (0 : Int32)) := hD
        refine lv_iconst (v := (1 : Int32)) hx hb dX0_acceptFirstNumber_65 (by decide) ?_
        cases h
        exact hE _ _ _ _ dX0_acceptFirstNumber_66 hP hD hS (nz01 (Or.inr rfl))
      · replace h := fT c3 h
        refine lv_iconst (v := (0 : Int32)) hx hb dX0_acceptFirstNumber_53 (by decide) ?_
        cases h
        exact hE _ _ _ _ dX0_acceptFirstNumber_54 hP hD hS (nz01 (Or.inl rfl))
  · replace h := fF c1 h
    refine lv_aload_n hx hb dX0_acceptFirstNumber_12 rfl (lv_at hl 0 rfl) ?_
    refine lv_aload_n hx hb dX0_acceptFirstNumber_13 rfl (lv_at hl 0 rfl) ?_
    refine va_get (D := D) (ci := 0) (C := RX0) (T := TX0) (N := 6) hx hb hts hinRX0 hown hK hP 0 rfl rfl 3 (by decide) q0 (fun _ h9 => h9) rfl dX0_acceptFirstNumber_14 ?_
    refine lv_bipush (v := (10 : Int32)) hx hb dX0_acceptFirstNumber_17 (by decide) ?_
    refine lv_imul hx hb dX0_acceptFirstNumber_19 ?_
    refine lv_iload_n hx hb dX0_acceptFirstNumber_20 rfl (lv_at hl 1 rfl) ?_
    refine lv_bipush (v := (48 : Int32)) hx hb dX0_acceptFirstNumber_21 (by decide) ?_
    refine lv_isub hx hb dX0_acceptFirstNumber_23 ?_
    refine lv_iadd hx hb dX0_acceptFirstNumber_24 ?_
    refine va_put (D := D) (ci := 0) (v := .int ((rF * (10 : Int32)) + (a1 - (48 : Int32)))) (ty := .int) (C := RX0) (T := TX0) (N := 6) hx hb hts hinRX0 tyX0 tyX0_ok nmX0 hown hK hP hD hS 0 rfl rfl 3 (by decide) q0 (fun _ h9 => h9) rfl (by decide +kernel) rfl rfl (Nat.le_of_ble_eq_true rfl) dX0_acceptFirstNumber_25 (fun H locs hP hD hS => ?_)
    have hP : va_P D vwCl (RD o y rE rL rP ((rF * (10 : Int32)) + (a1 - (48 : Int32))) rS rD) H := hP
    have hD : va_D A (RD o y rE rL rP ((rF * (10 : Int32)) + (a1 - (48 : Int32))) rS rD) := hD
    refine lv_aload_n hx hb dX0_acceptFirstNumber_28 rfl (lv_at hl 0 rfl) ?_
    refine lv_dup hx hb dX0_acceptFirstNumber_29 rfl ?_
    refine va_get (D := D) (ci := 0) (C := RX0) (T := TX0) (N := 6) hx hb hts hinRX0 hown hK hP 0 rfl rfl 5 (by decide) q1 (fun _ h9 => h9) rfl dX0_acceptFirstNumber_30 ?_
    refine lv_iconst (v := (1 : Int32)) hx hb dX0_acceptFirstNumber_33 (by decide) ?_
    refine lv_iadd hx hb dX0_acceptFirstNumber_34 ?_
    refine va_put (D := D) (ci := 0) (v := .int (rD + (1 : Int32))) (ty := .int) (C := RX0) (T := TX0) (N := 6) hx hb hts hinRX0 tyX0 tyX0_ok nmX0 hown hK hP hD hS 0 rfl rfl 5 (by decide) q1 (fun _ h9 => h9) rfl (by decide +kernel) rfl rfl (Nat.le_of_ble_eq_true rfl) dX0_acceptFirstNumber_35 (fun H locs hP hD hS => ?_)
    have hP : va_P D vwCl (RD o y rE rL rP ((rF * (10 : Int32)) + (a1 - (48 : Int32))) rS (rD + (1 : Int32))) H := hP
    have hD : va_D A (RD o y rE rL rP ((rF * (10 : Int32)) + (a1 - (48 : Int32))) rS (rD + (1 : Int32))) := hD
    refine lv_iconst (v := (1 : Int32)) hx hb dX0_acceptFirstNumber_38 (by decide) ?_
    cases h
    exact hE _ _ _ _ dX0_acceptFirstNumber_39 hP hD hS (nz01 (Or.inr rfl))
abbrev rm_X0_acceptEnd : Room := { frames := 0, cells := 0, slots := 0, locals := 0 }
theorem hd_X0_acceptEnd : yX0_acceptEnd.cls = RX0 ∧ yX0_acceptEnd.cls ≠ "java/lang/invoke/MethodHandle" ∧ yX0_acceptEnd.cls ≠ "java/lang/invoke/VarHandle" ∧ (parseMethodDescriptor yX0_acceptEnd.desc).map (fun d => d.parameters.length) = some 1 := by decide +kernel
set_option maxHeartbeats 0 in
set_option maxRecDepth 100000 in
theorem c_X0_acceptEnd (l : Launch) (D : va_G) (o : Nat → Nat) (y : Nat → ClassId) (sz : Nat) (rE : Int32) (rL : Int32) (rP : Int32) (rF : Int32) (rS : Int32) (rD : Int32) (a1 : Int32) (r : Int32) (rE' : Int32) (h : F_X0_acceptEnd rE a1 = some (r, rE')) : Met l yX0_acceptEnd wsX0_acceptEnd rm_X0_acceptEnd (va_Pc [.ref (o 7), .int a1] (px D y sz (RD o y rE rL rP rF rS rD))) (Qri D y sz (RD o y rE rL rP rF rS rD) (RD o y rE' rL rP rF rS rD) r) 0 0 (va_A (RD o y rE rL rP rF rS rD) sz) := by
  refine hd_z (cc := cX0_acceptEnd) (maxL := 2) (rt := .boolean) rfl rfl (Nat.le_of_ble_eq_true rfl) ?_
  intro p e s m args below meth c A Q H locs ls hx hb hml hts hown _ hA hP hD hK hS hl hE
  have hl : lv_has ls 2 [(0, .ref (o 7)), (1, .int a1)] := hl
  have q0 := hts (.fieldLink RX0 9 "SliceShares$CommandReader" "expected" "I") (by decide +kernel)
  have hinRX0 : ∀ w ∈ wsX00, w ∈ wsX0_acceptEnd := by decide +kernel
  unfold F_X0_acceptEnd at h
  refine lv_aload_n hx hb dX0_acceptEnd_0 rfl (lv_at hl 0 rfl) ?_
  refine lv_iconst (v := (0 : Int32)) hx hb dX0_acceptEnd_1 (by decide) ?_
  refine va_put (D := D) (ci := 0) (v := .int (0 : Int32)) (ty := .int) (C := RX0) (T := TX0) (N := 6) hx hb hts hinRX0 tyX0 tyX0_ok nmX0 hown hK hP hD hS 0 rfl rfl 0 (by decide) q0 (fun _ h9 => h9) rfl (by decide +kernel) rfl rfl (Nat.le_of_ble_eq_true rfl) dX0_acceptEnd_2 (fun H locs hP hD hS => ?_)
  have hP : va_P D vwCl (RD o y (0 : Int32) rL rP rF rS rD) H := hP
  have hD : va_D A (RD o y (0 : Int32) rL rP rF rS rD) := hD
  refine lv_iload_n hx hb dX0_acceptEnd_5 rfl (lv_at hl 1 rfl) ?_
  refine lv_bipush (v := (59 : Int32)) hx hb dX0_acceptEnd_6 (by decide) ?_
  have J1 : ∀ (v2 : Int32) (ls : Array Slot), v2 = (if a1 = (59 : Int32) then (1 : Int32) else (0 : Int32)) → lv_has ls 2 [(0, .ref (o 7)), (1, .int a1)] → W p l e rm_X0_acceptEnd s m args below meth c H locs 0 0 Q (F0 m 16 ls [.int v2]) := by
    intro v2 ls ev2 hl
    subst ev2
    cases h
    exact hE _ _ _ _ dX0_acceptEnd_16 hP hD hS (nz01 (z01 (Or.inr rfl) (Or.inl rfl)))
  refine lv_icmp_ne (tgt := 15) hx hb dX0_acceptEnd_8 (by decide) (fun c3 => ?_) (fun c3 => ?_)
  · refine lv_iconst (v := (0 : Int32)) hx hb dX0_acceptEnd_15 (by decide) ?_
    exact J1 _ _ (by rw [if_neg c3]) (lv_sub hl [0, 1] rfl)
  · refine lv_iconst (v := (1 : Int32)) hx hb dX0_acceptEnd_11 (by decide) ?_
    refine lv_goto (tgt := 16) hx hb dX0_acceptEnd_12 (by decide) ?_
    exact J1 _ _ (by rw [if_pos c3]) (lv_sub hl [0, 1] rfl)
abbrev rm_X0_acceptSecondNumber : Room := { frames := 2, cells := 0, slots := 0, locals := 43 }
theorem hd_X0_acceptSecondNumber : yX0_acceptSecondNumber.cls = RX0 ∧ yX0_acceptSecondNumber.cls ≠ "java/lang/invoke/MethodHandle" ∧ yX0_acceptSecondNumber.cls ≠ "java/lang/invoke/VarHandle" ∧ (parseMethodDescriptor yX0_acceptSecondNumber.desc).map (fun d => d.parameters.length) = some 1 := by decide +kernel
set_option maxHeartbeats 0 in
set_option maxRecDepth 100000 in
theorem c_X0_acceptSecondNumber (l : Launch) (D : va_G) (o : Nat → Nat) (y : Nat → ClassId) (sz : Nat) (rE : Int32) (rL : Int32) (rP : Int32) (rF : Int32) (rS : Int32) (rD : Int32) (a1 : Int32) (r : Int32) (rE' : Int32) (rS' : Int32) (rD' : Int32) (h : F_X0_acceptSecondNumber rE rS rD a1 = some (r, rE', rS', rD')) : Met l yX0_acceptSecondNumber wsX0_acceptSecondNumber rm_X0_acceptSecondNumber (va_Pc [.ref (o 7), .int a1] (px D y sz (RD o y rE rL rP rF rS rD))) (Qri D y sz (RD o y rE rL rP rF rS rD) (RD o y rE' rL rP rF rS' rD') r) 0 0 (va_A (RD o y rE rL rP rF rS rD) sz) := by
  refine hd_z (cc := cX0_acceptSecondNumber) (maxL := 2) (rt := .boolean) rfl rfl (Nat.le_of_ble_eq_true rfl) ?_
  intro p e s m args below meth c A Q H locs ls hx hb hml hts hown _ hA hP hD hK hS hl hE
  have hl : lv_has ls 2 [(0, .ref (o 7)), (1, .int a1)] := hl
  have q0 := hts (.fieldLink RX0 22 "SliceShares$CommandReader" "second" "I") (by decide +kernel)
  have q1 := hts (.fieldLink RX0 25 "SliceShares$CommandReader" "digits" "I") (by decide +kernel)
  have hinRX0 : ∀ w ∈ wsX00, w ∈ wsX0_acceptSecondNumber := by decide +kernel
  unfold F_X0_acceptSecondNumber at h
  refine lv_aload_n hx hb dX0_acceptSecondNumber_0 rfl (lv_at hl 0 rfl) ?_
  refine lv_aload_n hx hb dX0_acceptSecondNumber_1 rfl (lv_at hl 0 rfl) ?_
  refine va_get (D := D) (ci := 0) (C := RX0) (T := TX0) (N := 6) hx hb hts hinRX0 hown hK hP 0 rfl rfl 4 (by decide) q0 (fun _ h9 => h9) rfl dX0_acceptSecondNumber_2 ?_
  refine lv_iload_n hx hb dX0_acceptSecondNumber_5 rfl (lv_at hl 1 rfl) ?_
  refine cV_i (As := [.int rS, .int a1]) (rest := []) (ws1 := (RD o y rE rL rP rF rS rD)) ⟨hx, hb, hml, hown, hts⟩ (c_X0_canFollow l D o y _ rE rL rP rF rS rD rS a1) (cwV 2 hts gX0_acceptSecondNumber_X0_canFollow rfl rfl rfl hd_X0_canFollow ⟨Nat.le_of_ble_eq_true rfl, Nat.le_of_ble_eq_true rfl⟩) hK hP hD hS hA [0] [] [0] rfl rfl rfl (by decide) rfl rfl rfl 0 (ci := 0) rfl rfl rfl hl.1 rfl (Nat.le_of_ble_eq_true rfl) dX0_acceptSecondNumber_6 ⟨Nat.le_of_ble_eq_true rfl, Nat.le_of_ble_eq_true rfl⟩ (fun H locs hP hD hS => ?_)
  refine lv_if_eq (tgt := 40) hx hb dX0_acceptSecondNumber_9 (by decide) (fun c1 => ?_) (fun c1 => ?_)
  · replace h := fT c1 h
    refine lv_aload_n hx hb dX0_acceptSecondNumber_40 rfl (lv_at hl 0 rfl) ?_
    refine va_get (D := D) (ci := 0) (C := RX0) (T := TX0) (N := 6) hx hb hts hinRX0 hown hK hP 0 rfl rfl 5 (by decide) q1 (fun _ h9 => h9) rfl dX0_acceptSecondNumber_41 ?_
    refine lv_if_le (tgt := 59) hx hb dX0_acceptSecondNumber_44 (by decide) (fun c2 => ?_) (fun c2 => ?_)
    · replace h := fT c2 h
      refine lv_iconst (v := (0 : Int32)) hx hb dX0_acceptSecondNumber_59 (by decide) ?_
      cases h
      exact hE _ _ _ _ dX0_acceptSecondNumber_60 hP hD hS (nz01 (Or.inl rfl))
    · replace h := fF c2 h
      refine lv_aload_n hx hb dX0_acceptSecondNumber_47 rfl (lv_at hl 0 rfl) ?_
      refine lv_iload_n hx hb dX0_acceptSecondNumber_48 rfl (lv_at hl 1 rfl) ?_
      obtain ⟨r3, rE4, g5, h⟩ := fB2 h
      refine cV_i (As := [.int a1]) (rest := []) (ws1 := (RD o y rE4 rL rP rF rS rD)) ⟨hx, hb, hml, hown, hts⟩ (c_X0_acceptEnd l D o y _ rE rL rP rF rS rD a1 r3 rE4 g5) (cwV 1 hts gX0_acceptSecondNumber_X0_acceptEnd rfl rfl rfl hd_X0_acceptEnd ⟨Nat.le_of_ble_eq_true rfl, Nat.le_of_ble_eq_true rfl⟩) hK hP hD hS hA [0] [] [0] rfl rfl rfl (by decide) rfl rfl rfl 0 (ci := 0) rfl rfl rfl hl.1 rfl (Nat.le_of_ble_eq_true rfl) dX0_acceptSecondNumber_49 ⟨Nat.le_of_ble_eq_true rfl, Nat.le_of_ble_eq_true rfl⟩ (fun H locs hP hD hS => ?_)
      have J6 : ∀ (v7 : Int32) (ls : Array Slot), v7 = (if r3 = (0 : Int32) then (0 : Int32) else (1 : Int32)) → lv_has ls 2 [(0, .ref (o 7)), (1, .int a1)] → W p l e rm_X0_acceptSecondNumber s m args below meth c H locs 0 0 Q (F0 m 60 ls [.int v7]) := by
        intro v7 ls ev7 hl
        subst ev7
        cases h
        exact hE _ _ _ _ dX0_acceptSecondNumber_60 hP hD hS (nz01 (z01 (Or.inl rfl) (Or.inr rfl)))
      refine lv_if_eq (tgt := 59) hx hb dX0_acceptSecondNumber_52 (by decide) (fun c8 => ?_) (fun c8 => ?_)
      · refine lv_iconst (v := (0 : Int32)) hx hb dX0_acceptSecondNumber_59 (by decide) ?_
        exact J6 _ _ (by rw [if_pos c8]) (lv_sub hl [0, 1] rfl)
      · refine lv_iconst (v := (1 : Int32)) hx hb dX0_acceptSecondNumber_55 (by decide) ?_
        refine lv_goto (tgt := 60) hx hb dX0_acceptSecondNumber_56 (by decide) ?_
        exact J6 _ _ (by rw [if_neg c8]) (lv_sub hl [0, 1] rfl)
  · replace h := fF c1 h
    refine lv_aload_n hx hb dX0_acceptSecondNumber_12 rfl (lv_at hl 0 rfl) ?_
    refine lv_aload_n hx hb dX0_acceptSecondNumber_13 rfl (lv_at hl 0 rfl) ?_
    refine va_get (D := D) (ci := 0) (C := RX0) (T := TX0) (N := 6) hx hb hts hinRX0 hown hK hP 0 rfl rfl 4 (by decide) q0 (fun _ h9 => h9) rfl dX0_acceptSecondNumber_14 ?_
    refine lv_bipush (v := (10 : Int32)) hx hb dX0_acceptSecondNumber_17 (by decide) ?_
    refine lv_imul hx hb dX0_acceptSecondNumber_19 ?_
    refine lv_iload_n hx hb dX0_acceptSecondNumber_20 rfl (lv_at hl 1 rfl) ?_
    refine lv_bipush (v := (48 : Int32)) hx hb dX0_acceptSecondNumber_21 (by decide) ?_
    refine lv_isub hx hb dX0_acceptSecondNumber_23 ?_
    refine lv_iadd hx hb dX0_acceptSecondNumber_24 ?_
    refine va_put (D := D) (ci := 0) (v := .int ((rS * (10 : Int32)) + (a1 - (48 : Int32)))) (ty := .int) (C := RX0) (T := TX0) (N := 6) hx hb hts hinRX0 tyX0 tyX0_ok nmX0 hown hK hP hD hS 0 rfl rfl 4 (by decide) q0 (fun _ h9 => h9) rfl (by decide +kernel) rfl rfl (Nat.le_of_ble_eq_true rfl) dX0_acceptSecondNumber_25 (fun H locs hP hD hS => ?_)
    have hP : va_P D vwCl (RD o y rE rL rP rF ((rS * (10 : Int32)) + (a1 - (48 : Int32))) rD) H := hP
    have hD : va_D A (RD o y rE rL rP rF ((rS * (10 : Int32)) + (a1 - (48 : Int32))) rD) := hD
    refine lv_aload_n hx hb dX0_acceptSecondNumber_28 rfl (lv_at hl 0 rfl) ?_
    refine lv_dup hx hb dX0_acceptSecondNumber_29 rfl ?_
    refine va_get (D := D) (ci := 0) (C := RX0) (T := TX0) (N := 6) hx hb hts hinRX0 hown hK hP 0 rfl rfl 5 (by decide) q1 (fun _ h9 => h9) rfl dX0_acceptSecondNumber_30 ?_
    refine lv_iconst (v := (1 : Int32)) hx hb dX0_acceptSecondNumber_33 (by decide) ?_
    refine lv_iadd hx hb dX0_acceptSecondNumber_34 ?_
    refine va_put (D := D) (ci := 0) (v := .int (rD + (1 : Int32))) (ty := .int) (C := RX0) (T := TX0) (N := 6) hx hb hts hinRX0 tyX0 tyX0_ok nmX0 hown hK hP hD hS 0 rfl rfl 5 (by decide) q1 (fun _ h9 => h9) rfl (by decide +kernel) rfl rfl (Nat.le_of_ble_eq_true rfl) dX0_acceptSecondNumber_35 (fun H locs hP hD hS => ?_)
    have hP : va_P D vwCl (RD o y rE rL rP rF ((rS * (10 : Int32)) + (a1 - (48 : Int32))) (rD + (1 : Int32))) H := hP
    have hD : va_D A (RD o y rE rL rP rF ((rS * (10 : Int32)) + (a1 - (48 : Int32))) (rD + (1 : Int32))) := hD
    refine lv_iconst (v := (1 : Int32)) hx hb dX0_acceptSecondNumber_38 (by decide) ?_
    cases h
    exact hE _ _ _ _ dX0_acceptSecondNumber_39 hP hD hS (nz01 (Or.inr rfl))
abbrev rm_X0_acceptOtherPlate : Room := { frames := 1, cells := 0, slots := 0, locals := 20 }
theorem hd_X0_acceptOtherPlate : yX0_acceptOtherPlate.cls = RX0 ∧ yX0_acceptOtherPlate.cls ≠ "java/lang/invoke/MethodHandle" ∧ yX0_acceptOtherPlate.cls ≠ "java/lang/invoke/VarHandle" ∧ (parseMethodDescriptor yX0_acceptOtherPlate.desc).map (fun d => d.parameters.length) = some 1 := by decide +kernel
set_option maxHeartbeats 0 in
set_option maxRecDepth 100000 in
theorem c_X0_acceptOtherPlate (l : Launch) (D : va_G) (o : Nat → Nat) (y : Nat → ClassId) (sz : Nat) (rE : Int32) (rL : Int32) (rP : Int32) (rF : Int32) (rS : Int32) (rD : Int32) (a1 : Int32) (r : Int32) (rE' : Int32) (rS' : Int32) (h : F_X0_acceptOtherPlate rE rS a1 = some (r, rE', rS')) : Met l yX0_acceptOtherPlate wsX0_acceptOtherPlate rm_X0_acceptOtherPlate (va_Pc [.ref (o 7), .int a1] (px D y sz (RD o y rE rL rP rF rS rD))) (Qri D y sz (RD o y rE rL rP rF rS rD) (RD o y rE' rL rP rF rS' rD) r) 0 0 (va_A (RD o y rE rL rP rF rS rD) sz) := by
  refine hd_z (cc := cX0_acceptOtherPlate) (maxL := 2) (rt := .boolean) rfl rfl (Nat.le_of_ble_eq_true rfl) ?_
  intro p e s m args below meth c A Q H locs ls hx hb hml hts hown _ hA hP hD hK hS hl hE
  have hl : lv_has ls 2 [(0, .ref (o 7)), (1, .int a1)] := hl
  have q0 := hts (.fieldLink RX0 22 "SliceShares$CommandReader" "second" "I") (by decide +kernel)
  have q1 := hts (.fieldLink RX0 9 "SliceShares$CommandReader" "expected" "I") (by decide +kernel)
  have hinRX0 : ∀ w ∈ wsX00, w ∈ wsX0_acceptOtherPlate := by decide +kernel
  unfold F_X0_acceptOtherPlate at h
  refine lv_iload_n hx hb dX0_acceptOtherPlate_0 rfl (lv_at hl 1 rfl) ?_
  refine cT_i (As := [.int a1]) (rest := []) ⟨hx, hb, hml, hown, hts⟩ (c_X0_isDigit l D y _ a1) (va_cwS 1 hts gX0_acceptOtherPlate_X0_isDigit rfl rfl rfl hd_X0_isDigit ⟨Nat.le_of_ble_eq_true rfl, Nat.le_of_ble_eq_true rfl⟩) hK hP hD hS hA rfl hl.1 rfl (Nat.le_of_ble_eq_true rfl) dX0_acceptOtherPlate_1 ⟨Nat.le_of_ble_eq_true rfl, Nat.le_of_ble_eq_true rfl⟩ (fun H locs hP hD hS => ?_)
  refine lv_if_ne (tgt := 9) hx hb dX0_acceptOtherPlate_4 (by decide) (fun c1 => ?_) (fun c1 => ?_)
  · replace h := fF c1 h
    refine lv_aload_n hx hb dX0_acceptOtherPlate_9 rfl (lv_at hl 0 rfl) ?_
    refine lv_iload_n hx hb dX0_acceptOtherPlate_10 rfl (lv_at hl 1 rfl) ?_
    refine lv_bipush (v := (48 : Int32)) hx hb dX0_acceptOtherPlate_11 (by decide) ?_
    refine lv_isub hx hb dX0_acceptOtherPlate_13 ?_
    refine va_put (D := D) (ci := 0) (v := .int (a1 - (48 : Int32))) (ty := .int) (C := RX0) (T := TX0) (N := 6) hx hb hts hinRX0 tyX0 tyX0_ok nmX0 hown hK hP hD hS 0 rfl rfl 4 (by decide) q0 (fun _ h9 => h9) rfl (by decide +kernel) rfl rfl (Nat.le_of_ble_eq_true rfl) dX0_acceptOtherPlate_14 (fun H locs hP hD hS => ?_)
    have hP : va_P D vwCl (RD o y rE rL rP rF (a1 - (48 : Int32)) rD) H := hP
    have hD : va_D A (RD o y rE rL rP rF (a1 - (48 : Int32)) rD) := hD
    refine lv_aload_n hx hb dX0_acceptOtherPlate_17 rfl (lv_at hl 0 rfl) ?_
    refine lv_bipush (v := (6 : Int32)) hx hb dX0_acceptOtherPlate_18 (by decide) ?_
    refine va_put (D := D) (ci := 0) (v := .int (6 : Int32)) (ty := .int) (C := RX0) (T := TX0) (N := 6) hx hb hts hinRX0 tyX0 tyX0_ok nmX0 hown hK hP hD hS 0 rfl rfl 0 (by decide) q1 (fun _ h9 => h9) rfl (by decide +kernel) rfl rfl (Nat.le_of_ble_eq_true rfl) dX0_acceptOtherPlate_20 (fun H locs hP hD hS => ?_)
    have hP : va_P D vwCl (RD o y (6 : Int32) rL rP rF (a1 - (48 : Int32)) rD) H := hP
    have hD : va_D A (RD o y (6 : Int32) rL rP rF (a1 - (48 : Int32)) rD) := hD
    refine lv_iconst (v := (1 : Int32)) hx hb dX0_acceptOtherPlate_23 (by decide) ?_
    cases h
    exact hE _ _ _ _ dX0_acceptOtherPlate_24 hP hD hS (nz01 (Or.inr rfl))
  · replace h := fT c1 h
    refine lv_iconst (v := (0 : Int32)) hx hb dX0_acceptOtherPlate_7 (by decide) ?_
    cases h
    exact hE _ _ _ _ dX0_acceptOtherPlate_8 hP hD hS (nz01 (Or.inl rfl))
abbrev rm_X0_accept : Room := { frames := 3, cells := 0, slots := 0, locals := 64 }
theorem hd_X0_accept : yX0_accept.cls = RX0 ∧ yX0_accept.cls ≠ "java/lang/invoke/MethodHandle" ∧ yX0_accept.cls ≠ "java/lang/invoke/VarHandle" ∧ (parseMethodDescriptor yX0_accept.desc).map (fun d => d.parameters.length) = some 1 := by decide +kernel
set_option maxHeartbeats 0 in
set_option maxRecDepth 100000 in
theorem c_X0_accept (l : Launch) (D : va_G) (o : Nat → Nat) (y : Nat → ClassId) (sz : Nat) (rE : Int32) (rL : Int32) (rP : Int32) (rF : Int32) (rS : Int32) (rD : Int32) (a1 : Int32) (r : Int32) (rE' : Int32) (rL' : Int32) (rP' : Int32) (rF' : Int32) (rS' : Int32) (rD' : Int32) (h : F_X0_accept rE rL rP rF rS rD a1 = some (r, rE', rL', rP', rF', rS', rD')) : Met l yX0_accept wsX0_accept rm_X0_accept (va_Pc [.ref (o 7), .int a1] (px D y sz (RD o y rE rL rP rF rS rD))) (Qri D y sz (RD o y rE rL rP rF rS rD) (RD o y rE' rL' rP' rF' rS' rD') r) 0 0 (va_A (RD o y rE rL rP rF rS rD) sz) := by
  refine hd_z (cc := cX0_accept) (maxL := 2) (rt := .boolean) rfl rfl (Nat.le_of_ble_eq_true rfl) ?_
  intro p e s m args below meth c A Q H locs ls hx hb hml hts hown _ hA hP hD hK hS hl hE
  have hl : lv_has ls 2 [(0, .ref (o 7)), (1, .int a1)] := hl
  have q0 := hts (.fieldLink RX0 9 "SliceShares$CommandReader" "expected" "I") (by decide +kernel)
  have hinRX0 : ∀ w ∈ wsX00, w ∈ wsX0_accept := by decide +kernel
  unfold F_X0_accept at h
  refine lv_aload_n hx hb dX0_accept_0 rfl (lv_at hl 0 rfl) ?_
  refine va_get (D := D) (ci := 0) (C := RX0) (T := TX0) (N := 6) hx hb hts hinRX0 hown hK hP 0 rfl rfl 0 (by decide) q0 (fun _ h9 => h9) rfl dX0_accept_1 ?_
  by_cases c1 : rE = (0 : Int32)
  · replace h := fT c1 h
    refine lv_tableIn (off := 40) (tgt := 44) hx hb dX0_accept_4 (by rw [c1]; decide) (by rw [c1]; decide) (by rw [c1]; rfl) (by decide) ?_
    refine lv_aload_n hx hb dX0_accept_44 rfl (lv_at hl 0 rfl) ?_
    refine lv_iload_n hx hb dX0_accept_45 rfl (lv_at hl 1 rfl) ?_
    obtain ⟨r2, rE3, rL4, rF5, rS6, rD7, g8, h⟩ := fB6 h
    refine cV_i (As := [.int a1]) (rest := []) (ws1 := (RD o y rE3 rL4 rP rF5 rS6 rD7)) ⟨hx, hb, hml, hown, hts⟩ (c_X0_acceptLetter l D o y _ rE rL rP rF rS rD a1 r2 rE3 rL4 rF5 rS6 rD7 g8) (cwV 1 hts gX0_accept_X0_acceptLetter rfl rfl rfl hd_X0_acceptLetter ⟨Nat.le_of_ble_eq_true rfl, Nat.le_of_ble_eq_true rfl⟩) hK hP hD hS hA [0] [] [0] rfl rfl rfl (by decide) rfl rfl rfl 0 (ci := 0) rfl rfl rfl hl.1 rfl (Nat.le_of_ble_eq_true rfl) dX0_accept_46 ⟨Nat.le_of_ble_eq_true rfl, Nat.le_of_ble_eq_true rfl⟩ (fun H locs hP hD hS => ?_)
    obtain ⟨g9, h⟩ := fG h
    cases h
    exact hE _ _ _ _ dX0_accept_49 hP hD hS (nz01 (Classical.not_not.mp g9))
  replace h := fF c1 h
  by_cases c10 : rE = (1 : Int32)
  · replace h := fT c10 h
    refine lv_tableIn (off := 46) (tgt := 50) hx hb dX0_accept_4 (by rw [c10]; decide) (by rw [c10]; decide) (by rw [c10]; rfl) (by decide) ?_
    refine lv_aload_n hx hb dX0_accept_50 rfl (lv_at hl 0 rfl) ?_
    refine lv_iload_n hx hb dX0_accept_51 rfl (lv_at hl 1 rfl) ?_
    obtain ⟨r11, rE12, rP13, g14, h⟩ := fB3 h
    refine cV_i (As := [.int a1]) (rest := []) (ws1 := (RD o y rE12 rL rP13 rF rS rD)) ⟨hx, hb, hml, hown, hts⟩ (c_X0_acceptPlate l D o y _ rE rL rP rF rS rD a1 r11 rE12 rP13 g14) (cwV 1 hts gX0_accept_X0_acceptPlate rfl rfl rfl hd_X0_acceptPlate ⟨Nat.le_of_ble_eq_true rfl, Nat.le_of_ble_eq_true rfl⟩) hK hP hD hS hA [0] [] [0] rfl rfl rfl (by decide) rfl rfl rfl 0 (ci := 0) rfl rfl rfl hl.1 rfl (Nat.le_of_ble_eq_true rfl) dX0_accept_52 ⟨Nat.le_of_ble_eq_true rfl, Nat.le_of_ble_eq_true rfl⟩ (fun H locs hP hD hS => ?_)
    obtain ⟨g15, h⟩ := fG h
    cases h
    exact hE _ _ _ _ dX0_accept_55 hP hD hS (nz01 (Classical.not_not.mp g15))
  replace h := fF c10 h
  by_cases c16 : rE = (2 : Int32)
  · replace h := fT c16 h
    refine lv_tableIn (off := 52) (tgt := 56) hx hb dX0_accept_4 (by rw [c16]; decide) (by rw [c16]; decide) (by rw [c16]; rfl) (by decide) ?_
    refine lv_aload_n hx hb dX0_accept_56 rfl (lv_at hl 0 rfl) ?_
    refine lv_iload_n hx hb dX0_accept_57 rfl (lv_at hl 1 rfl) ?_
    obtain ⟨r17, rE18, g19, h⟩ := fB2 h
    refine cV_i (As := [.int a1]) (rest := []) (ws1 := (RD o y rE18 rL rP rF rS rD)) ⟨hx, hb, hml, hown, hts⟩ (c_X0_acceptSignBehindPlate l D o y _ rE rL rP rF rS rD a1 r17 rE18 g19) (cwV 1 hts gX0_accept_X0_acceptSignBehindPlate rfl rfl rfl hd_X0_acceptSignBehindPlate ⟨Nat.le_of_ble_eq_true rfl, Nat.le_of_ble_eq_true rfl⟩) hK hP hD hS hA [0] [] [0] rfl rfl rfl (by decide) rfl rfl rfl 0 (ci := 0) rfl rfl rfl hl.1 rfl (Nat.le_of_ble_eq_true rfl) dX0_accept_58 ⟨Nat.le_of_ble_eq_true rfl, Nat.le_of_ble_eq_true rfl⟩ (fun H locs hP hD hS => ?_)
    obtain ⟨g20, h⟩ := fG h
    cases h
    exact hE _ _ _ _ dX0_accept_61 hP hD hS (nz01 (Classical.not_not.mp g20))
  replace h := fF c16 h
  by_cases c21 : rE = (3 : Int32)
  · replace h := fT c21 h
    refine lv_tableIn (off := 58) (tgt := 62) hx hb dX0_accept_4 (by rw [c21]; decide) (by rw [c21]; decide) (by rw [c21]; rfl) (by decide) ?_
    refine lv_aload_n hx hb dX0_accept_62 rfl (lv_at hl 0 rfl) ?_
    refine lv_iload_n hx hb dX0_accept_63 rfl (lv_at hl 1 rfl) ?_
    obtain ⟨r22, rE23, rF24, rD25, g26, h⟩ := fB4 h
    refine cV_i (As := [.int a1]) (rest := []) (ws1 := (RD o y rE23 rL rP rF24 rS rD25)) ⟨hx, hb, hml, hown, hts⟩ (c_X0_acceptFirstNumber l D o y _ rE rL rP rF rS rD a1 r22 rE23 rF24 rD25 g26) (cwV 1 hts gX0_accept_X0_acceptFirstNumber rfl rfl rfl hd_X0_acceptFirstNumber ⟨Nat.le_of_ble_eq_true rfl, Nat.le_of_ble_eq_true rfl⟩) hK hP hD hS hA [0] [] [0] rfl rfl rfl (by decide) rfl rfl rfl 0 (ci := 0) rfl rfl rfl hl.1 rfl (Nat.le_of_ble_eq_true rfl) dX0_accept_64 ⟨Nat.le_of_ble_eq_true rfl, Nat.le_of_ble_eq_true rfl⟩ (fun H locs hP hD hS => ?_)
    obtain ⟨g27, h⟩ := fG h
    cases h
    exact hE _ _ _ _ dX0_accept_67 hP hD hS (nz01 (Classical.not_not.mp g27))
  replace h := fF c21 h
  by_cases c28 : rE = (4 : Int32)
  · replace h := fT c28 h
    refine lv_tableIn (off := 64) (tgt := 68) hx hb dX0_accept_4 (by rw [c28]; decide) (by rw [c28]; decide) (by rw [c28]; rfl) (by decide) ?_
    refine lv_aload_n hx hb dX0_accept_68 rfl (lv_at hl 0 rfl) ?_
    refine lv_iload_n hx hb dX0_accept_69 rfl (lv_at hl 1 rfl) ?_
    obtain ⟨r29, rE30, rS31, rD32, g33, h⟩ := fB4 h
    refine cV_i (As := [.int a1]) (rest := []) (ws1 := (RD o y rE30 rL rP rF rS31 rD32)) ⟨hx, hb, hml, hown, hts⟩ (c_X0_acceptSecondNumber l D o y _ rE rL rP rF rS rD a1 r29 rE30 rS31 rD32 g33) (cwV 1 hts gX0_accept_X0_acceptSecondNumber rfl rfl rfl hd_X0_acceptSecondNumber ⟨Nat.le_of_ble_eq_true rfl, Nat.le_of_ble_eq_true rfl⟩) hK hP hD hS hA [0] [] [0] rfl rfl rfl (by decide) rfl rfl rfl 0 (ci := 0) rfl rfl rfl hl.1 rfl (Nat.le_of_ble_eq_true rfl) dX0_accept_70 ⟨Nat.le_of_ble_eq_true rfl, Nat.le_of_ble_eq_true rfl⟩ (fun H locs hP hD hS => ?_)
    obtain ⟨g34, h⟩ := fG h
    cases h
    exact hE _ _ _ _ dX0_accept_73 hP hD hS (nz01 (Classical.not_not.mp g34))
  replace h := fF c28 h
  by_cases c35 : rE = (5 : Int32)
  · replace h := fT c35 h
    refine lv_tableIn (off := 70) (tgt := 74) hx hb dX0_accept_4 (by rw [c35]; decide) (by rw [c35]; decide) (by rw [c35]; rfl) (by decide) ?_
    refine lv_aload_n hx hb dX0_accept_74 rfl (lv_at hl 0 rfl) ?_
    refine lv_iload_n hx hb dX0_accept_75 rfl (lv_at hl 1 rfl) ?_
    obtain ⟨r36, rE37, rS38, g39, h⟩ := fB3 h
    refine cV_i (As := [.int a1]) (rest := []) (ws1 := (RD o y rE37 rL rP rF rS38 rD)) ⟨hx, hb, hml, hown, hts⟩ (c_X0_acceptOtherPlate l D o y _ rE rL rP rF rS rD a1 r36 rE37 rS38 g39) (cwV 1 hts gX0_accept_X0_acceptOtherPlate rfl rfl rfl hd_X0_acceptOtherPlate ⟨Nat.le_of_ble_eq_true rfl, Nat.le_of_ble_eq_true rfl⟩) hK hP hD hS hA [0] [] [0] rfl rfl rfl (by decide) rfl rfl rfl 0 (ci := 0) rfl rfl rfl hl.1 rfl (Nat.le_of_ble_eq_true rfl) dX0_accept_76 ⟨Nat.le_of_ble_eq_true rfl, Nat.le_of_ble_eq_true rfl⟩ (fun H locs hP hD hS => ?_)
    obtain ⟨g40, h⟩ := fG h
    cases h
    exact hE _ _ _ _ dX0_accept_79 hP hD hS (nz01 (Classical.not_not.mp g40))
  replace h := fF c35 h
  refine lv_tableOut (tgt := 80) hx hb dX0_accept_4 (by have tc1 := lv_neT c1 (show (0 : Int32).toInt = 0 from by decide); have tc10 := lv_neT c10 (show (1 : Int32).toInt = 1 from by decide); have tc16 := lv_neT c16 (show (2 : Int32).toInt = 2 from by decide); have tc21 := lv_neT c21 (show (3 : Int32).toInt = 3 from by decide); have tc28 := lv_neT c28 (show (4 : Int32).toInt = 4 from by decide); have tc35 := lv_neT c35 (show (5 : Int32).toInt = 5 from by decide); omega) (by decide) ?_
  refine lv_aload_n hx hb dX0_accept_80 rfl (lv_at hl 0 rfl) ?_
  refine lv_iload_n hx hb dX0_accept_81 rfl (lv_at hl 1 rfl) ?_
  obtain ⟨r41, rE42, g43, h⟩ := fB2 h
  refine cV_i (As := [.int a1]) (rest := []) (ws1 := (RD o y rE42 rL rP rF rS rD)) ⟨hx, hb, hml, hown, hts⟩ (c_X0_acceptEnd l D o y _ rE rL rP rF rS rD a1 r41 rE42 g43) (cwV 1 hts gX0_accept_X0_acceptEnd rfl rfl rfl hd_X0_acceptEnd ⟨Nat.le_of_ble_eq_true rfl, Nat.le_of_ble_eq_true rfl⟩) hK hP hD hS hA [0] [] [0] rfl rfl rfl (by decide) rfl rfl rfl 0 (ci := 0) rfl rfl rfl hl.1 rfl (Nat.le_of_ble_eq_true rfl) dX0_accept_82 ⟨Nat.le_of_ble_eq_true rfl, Nat.le_of_ble_eq_true rfl⟩ (fun H locs hP hD hS => ?_)
  obtain ⟨g44, h⟩ := fG h
  cases h
  exact hE _ _ _ _ dX0_accept_85 hP hD hS (nz01 (Classical.not_not.mp g44))
abbrev rm_X1_length : Room := { frames := 0, cells := 0, slots := 0, locals := 0 }
theorem hd_X1_length : yX1_length.cls = RX1 ∧ yX1_length.cls ≠ "java/lang/invoke/MethodHandle" ∧ yX1_length.cls ≠ "java/lang/invoke/VarHandle" ∧ (parseMethodDescriptor yX1_length.desc).map (fun d => d.parameters.length) = some 0 := by decide +kernel
set_option maxHeartbeats 0 in
set_option maxRecDepth 100000 in
theorem c_X1_length (l : Launch) (D : va_G) (o : Nat → Nat) (y : Nat → ClassId) (sz : Nat) (ch : Nat → Int32) (le : Int32) : Met l yX1_length wsX1_length rm_X1_length (va_Pc [.ref (o 5)] (px D y sz (TX o y ch le))) (Qri D y sz (TX o y ch le) (TX o y ch le) (F_X1_length le)) 0 0 (va_A (TX o y ch le) sz) := by
  refine hd_i (cc := cX1_length) (maxL := 1) rfl rfl (Nat.le_of_ble_eq_true rfl) ?_
  intro p e s m args below meth c A Q H locs ls hx hb hml hts hown _ hA hP hD hK hS hl hE
  have hl : lv_has ls 1 [(0, .ref (o 5))] := hl
  have q0 := hts (.fieldLink RX1 15 "SliceShares$CommandText" "length" "I") (by decide +kernel)
  have hinRX1 : ∀ w ∈ wsX10, w ∈ wsX1_length := by decide +kernel
  refine lv_aload_n hx hb dX1_length_0 rfl (lv_at hl 0 rfl) ?_
  refine va_get (D := D) (ci := 1) (C := RX1) (T := TX1) (N := 2) hx hb hts hinRX1 hown hK hP 0 rfl rfl 1 (by decide) q0 (fun _ h9 => h9) rfl dX1_length_1 ?_
  exact hE _ _ _ _ dX1_length_4 hP hD hS
abbrev rm_X1_character : Room := { frames := 0, cells := 0, slots := 0, locals := 0 }
theorem hd_X1_character : yX1_character.cls = RX1 ∧ yX1_character.cls ≠ "java/lang/invoke/MethodHandle" ∧ yX1_character.cls ≠ "java/lang/invoke/VarHandle" ∧ (parseMethodDescriptor yX1_character.desc).map (fun d => d.parameters.length) = some 1 := by decide +kernel
set_option maxHeartbeats 0 in
set_option maxRecDepth 100000 in
theorem c_X1_character (l : Launch) (D : va_G) (o : Nat → Nat) (y : Nat → ClassId) (sz : Nat) (ch : Nat → Int32) (le : Int32) (a1 : Int32) (r : Int32) (h : F_X1_character ch a1 = some r) : Met l yX1_character wsX1_character rm_X1_character (va_Pc [.ref (o 5), .int a1] (px D y sz (TX o y ch le))) (Qri D y sz (TX o y ch le) (TX o y ch le) r) 0 0 (va_A (TX o y ch le) sz) := by
  refine hd_z (cc := cX1_character) (maxL := 2) (rt := .char) rfl rfl (Nat.le_of_ble_eq_true rfl) ?_
  intro p e s m args below meth c A Q H locs ls hx hb hml hts hown _ hA hP hD hK hS hl hE
  have hl : lv_has ls 2 [(0, .ref (o 5)), (1, .int a1)] := hl
  have q0 := hts (.fieldLink RX1 9 "SliceShares$CommandText" "characters" "[C") (by decide +kernel)
  have hinRX1 : ∀ w ∈ wsX10, w ∈ wsX1_character := by decide +kernel
  unfold F_X1_character at h
  refine lv_aload_n hx hb dX1_character_0 rfl (lv_at hl 0 rfl) ?_
  refine va_get (D := D) (ci := 1) (C := RX1) (T := TX1) (N := 2) hx hb hts hinRX1 hown hK hP 0 rfl rfl 0 (by decide) q0 (fun _ h9 => h9) rfl dX1_character_1 ?_
  refine lv_iload_n hx hb dX1_character_4 rfl (lv_at hl 1 rfl) ?_
  obtain ⟨g1, h⟩ := fG h
  refine va_cald hx hb hK hP 1 2 rfl rfl g1 dX1_character_5 ?_
  obtain ⟨g2, h⟩ := fG h
  cases h
  exact hE _ _ _ _ dX1_character_6 hP hD hS (nzch (Classical.not_not.mp g2))
abbrev rm_X3_numerator : Room := { frames := 0, cells := 0, slots := 0, locals := 0 }
theorem hd_X3_numerator : yX3_numerator.cls ≠ "java/lang/invoke/MethodHandle" ∧ yX3_numerator.cls ≠ "java/lang/invoke/VarHandle" ∧ (parseMethodDescriptor yX3_numerator.desc).map (fun d => d.parameters.length) = some 1 := by decide +kernel
set_option maxHeartbeats 0 in
set_option maxRecDepth 100000 in
theorem c_X3_numerator (l : Launch) (D : va_G) (y : Nat → ClassId) (sz : Nat) (a1 : Int64) : Met l yX3_numerator wsX3_numerator rm_X3_numerator (va_Pc [.long a1] (px D y sz [])) (Qrl D y sz [] [] (F_X3_numerator a1)) 0 0 (va_A [] sz) := by
  refine hd_l (cc := cX3_numerator) (maxL := 2) rfl rfl (Nat.le_of_ble_eq_true rfl) ?_
  intro p e s m args below meth c A Q H locs ls hx hb hml hts hown _ hA hP hD hK hS hl hE
  have hl : lv_has ls 2 [(0, .long a1)] := hl
  refine lv_lload_n hx hb dX3_numerator_0 rfl (lv_at hl 0 rfl) ?_
  refine lv_bipush (v := (20 : Int32)) hx hb dX3_numerator_1 (by decide) ?_
  refine lv_lshr (v := a1 >>> ((20 : Int32).toInt64 &&& 63)) hx hb dX3_numerator_3 rfl ?_
  exact hE _ _ _ _ dX3_numerator_4 hP hD hS
abbrev rm_X3_denominator : Room := { frames := 1, cells := 0, slots := 0, locals := 15 }
theorem hd_X3_denominator : yX3_denominator.cls ≠ "java/lang/invoke/MethodHandle" ∧ yX3_denominator.cls ≠ "java/lang/invoke/VarHandle" ∧ (parseMethodDescriptor yX3_denominator.desc).map (fun d => d.parameters.length) = some 1 := by decide +kernel
set_option maxHeartbeats 0 in
set_option maxRecDepth 100000 in
theorem c_X3_denominator (l : Launch) (D : va_G) (y : Nat → ClassId) (sz : Nat) (a1 : Int64) : Met l yX3_denominator wsX3_denominator rm_X3_denominator (va_Pc [.long a1] (px D y sz [])) (Qrl D y sz [] [] (F_X3_denominator a1)) 0 0 (va_A [] sz) := by
  refine hd_l (cc := cX3_denominator) (maxL := 2) rfl rfl (Nat.le_of_ble_eq_true rfl) ?_
  intro p e s m args below meth c A Q H locs ls hx hb hml hts hown _ hA hP hD hK hS hl hE
  have hl : lv_has ls 2 [(0, .long a1)] := hl
  have q0 := hts (.constantLong RX3 11 (1048575)) (by decide +kernel)
  have q1 := hts (.methodLink RX3 13 Lib.MathLoose.max_long.x) (by decide +kernel)
  have q2 := hts (.static Lib.MathLoose.max_long.x) (by decide +kernel)
  have q3 := hts (.initialized "java/lang/Math") (by decide +kernel)
  have q4 := hts (.code Lib.MathLoose.max_long.x Lib.MathLoose.max_long.code 4 (some .long)) (by decide +kernel)
  refine lv_lconst (v := (1 : Int64)) hx hb dX3_denominator_0 rfl ?_
  refine lv_lload_n hx hb dX3_denominator_1 rfl (lv_at hl 0 rfl) ?_
  refine lv_ldc2 (v := (1048575 : Int64)) hx hb hown q0 dX3_denominator_2 ?_
  refine lv_land hx hb dX3_denominator_5 ?_
  refine va_mmax_long hx hb (hml.trans hl.1.symm) hown q1 q2 q3 q4 (Nat.le_of_ble_eq_true rfl) (Nat.le_of_ble_eq_true rfl) (Nat.zero_le _) (Nat.zero_le _) dX3_denominator_6 ?_
  exact hE _ _ _ _ dX3_denominator_9 hP hD hS
abbrev rm_X3_pair : Room := { frames := 0, cells := 0, slots := 0, locals := 0 }
theorem hd_X3_pair : yX3_pair.cls ≠ "java/lang/invoke/MethodHandle" ∧ yX3_pair.cls ≠ "java/lang/invoke/VarHandle" ∧ (parseMethodDescriptor yX3_pair.desc).map (fun d => d.parameters.length) = some 2 := by decide +kernel
set_option maxHeartbeats 0 in
set_option maxRecDepth 100000 in
theorem c_X3_pair (l : Launch) (D : va_G) (y : Nat → ClassId) (sz : Nat) (a1 : Int64) (a2 : Int64) : Met l yX3_pair wsX3_pair rm_X3_pair (va_Pc [.long a1, .long a2] (px D y sz [])) (Qrl D y sz [] [] (F_X3_pair a1 a2)) 0 0 (va_A [] sz) := by
  refine hd_l (cc := cX3_pair) (maxL := 4) rfl rfl (Nat.le_of_ble_eq_true rfl) ?_
  intro p e s m args below meth c A Q H locs ls hx hb hml hts hown _ hA hP hD hK hS hl hE
  have hl : lv_has ls 4 [(0, .long a1), (2, .long a2)] := hl
  refine lv_lload_n hx hb dX3_pair_0 rfl (lv_at hl 0 rfl) ?_
  refine lv_bipush (v := (20 : Int32)) hx hb dX3_pair_1 (by decide) ?_
  refine lv_lshl (v := a1 <<< ((20 : Int32).toInt64 &&& 63)) hx hb dX3_pair_3 rfl ?_
  refine lv_lload_n hx hb dX3_pair_4 rfl (lv_at hl 1 rfl) ?_
  refine lv_lor hx hb dX3_pair_5 ?_
  exact hE _ _ _ _ dX3_pair_6 hP hD hS
abbrev rm_X2_nextBeginning : Room := { frames := 2, cells := 0, slots := 0, locals := 36 }
theorem hd_X2_nextBeginning : yX2_nextBeginning.cls = RX2 ∧ yX2_nextBeginning.cls ≠ "java/lang/invoke/MethodHandle" ∧ yX2_nextBeginning.cls ≠ "java/lang/invoke/VarHandle" ∧ (parseMethodDescriptor yX2_nextBeginning.desc).map (fun d => d.parameters.length) = some 2 := by decide +kernel
set_option maxHeartbeats 0 in
set_option maxRecDepth 100000 in
theorem c_X2_nextBeginning (l : Launch) (D : va_G) (o : Nat → Nat) (y : Nat → ClassId) (sz : Nat) (te : Nat → Int32) (be : Nat → Int64) (cn : Int32) (a1 : Int32) (a2 : Int64) (r : Int64) (h : F_X2_nextBeginning be a1 a2 = some r) : Met l yX2_nextBeginning wsX2_nextBeginning rm_X2_nextBeginning (va_Pc [.ref (o 2), .int a1, .long a2] (px D y sz (CF o y te be cn))) (Qrl D y sz (CF o y te be cn) (CF o y te be cn) r) 0 0 (va_A (CF o y te be cn) sz) := by
  refine hd_l (cc := cX2_nextBeginning) (maxL := 12) rfl rfl (Nat.le_of_ble_eq_true rfl) ?_
  intro p e s m args below meth c A Q H locs ls hx hb hml hts hown _ hA hP hD hK hS hl hE
  have hl : lv_has ls 12 [(0, .ref (o 2)), (1, .int a1), (2, .long a2)] := hl
  have q0 := hts (.fieldLink RX2 13 "SliceShares$ContinuedFraction" "beginnings" "[J") (by decide +kernel)
  have hinRX2 : ∀ w ∈ wsX20, w ∈ wsX2_nextBeginning := by decide +kernel
  unfold F_X2_nextBeginning at h
  refine lv_iload_n hx hb dX2_nextBeginning_0 rfl (lv_at hl 1 rfl) ?_
  refine lv_iconst (v := (1 : Int32)) hx hb dX2_nextBeginning_1 (by decide) ?_
  refine lv_icmp_ge (tgt := 11) hx hb dX2_nextBeginning_2 (by decide) (fun c1 => ?_) (fun c1 => ?_)
  · replace h := fT c1 h
    refine lv_aload_n hx hb dX2_nextBeginning_11 rfl (lv_at hl 0 rfl) ?_
    refine va_get (D := D) (ci := 2) (C := RX2) (T := TX2) (N := 3) hx hb hts hinRX2 hown hK hP 0 rfl rfl 1 (by decide) q0 (fun _ h9 => h9) rfl dX2_nextBeginning_12 ?_
    refine lv_iload_n hx hb dX2_nextBeginning_15 rfl (lv_at hl 1 rfl) ?_
    refine lv_iconst (v := (1 : Int32)) hx hb dX2_nextBeginning_16 (by decide) ?_
    refine lv_isub hx hb dX2_nextBeginning_17 ?_
    obtain ⟨g2, h⟩ := fG h
    refine va_lald hx hb hK hP 2 1 rfl rfl g2 dX2_nextBeginning_18 ?_
    refine lv_lstore (lv' := [(4, .long (be (a1 - (1 : Int32)).toNatClampNeg)), (0, .ref (o 2)), (1, .int a1), (2, .long a2)]) hx hb dX2_nextBeginning_19 hl (by decide) rfl (fun ls hl => ?_)
    refine lv_lload_n hx hb dX2_nextBeginning_21 rfl (lv_at hl 3 rfl) ?_
    refine lv_lload hx hb dX2_nextBeginning_22 (lv_at hl 0 rfl) ?_
    refine cT_l (As := [.long (be (a1 - (1 : Int32)).toNatClampNeg)]) (rest := [.long a2]) ⟨hx, hb, hml, hown, hts⟩ (c_X3_numerator l D y _ (be (a1 - (1 : Int32)).toNatClampNeg)) (va_cwS 1 hts gX2_nextBeginning_X3_numerator rfl rfl rfl hd_X3_numerator ⟨Nat.le_of_ble_eq_true rfl, Nat.le_of_ble_eq_true rfl⟩) hK hP hD hS hA rfl hl.1 rfl (Nat.le_of_ble_eq_true rfl) dX2_nextBeginning_24 ⟨Nat.le_of_ble_eq_true rfl, Nat.le_of_ble_eq_true rfl⟩ (fun H locs hP hD hS => ?_)
    refine lv_lmul hx hb dX2_nextBeginning_27 ?_
    refine lv_lstore (lv' := [(6, .long (a2 * (F_X3_numerator (be (a1 - (1 : Int32)).toNatClampNeg)))), (4, .long (be (a1 - (1 : Int32)).toNatClampNeg)), (0, .ref (o 2)), (1, .int a1), (2, .long a2)]) hx hb dX2_nextBeginning_28 hl (by decide) rfl (fun ls hl => ?_)
    refine lv_lload_n hx hb dX2_nextBeginning_30 rfl (lv_at hl 4 rfl) ?_
    refine lv_lload hx hb dX2_nextBeginning_31 (lv_at hl 1 rfl) ?_
    refine cT_l (As := [.long (be (a1 - (1 : Int32)).toNatClampNeg)]) (rest := [.long a2]) ⟨hx, hb, hml, hown, hts⟩ (c_X3_denominator l D y _ (be (a1 - (1 : Int32)).toNatClampNeg)) (va_cwS 1 hts gX2_nextBeginning_X3_denominator rfl rfl rfl hd_X3_denominator ⟨Nat.le_of_ble_eq_true rfl, Nat.le_of_ble_eq_true rfl⟩) hK hP hD hS hA rfl hl.1 rfl (Nat.le_of_ble_eq_true rfl) dX2_nextBeginning_33 ⟨Nat.le_of_ble_eq_true rfl, Nat.le_of_ble_eq_true rfl⟩ (fun H locs hP hD hS => ?_)
    refine lv_lmul hx hb dX2_nextBeginning_36 ?_
    refine lv_lstore (lv' := [(8, .long (a2 * (F_X3_denominator (be (a1 - (1 : Int32)).toNatClampNeg)))), (6, .long (a2 * (F_X3_numerator (be (a1 - (1 : Int32)).toNatClampNeg)))), (4, .long (be (a1 - (1 : Int32)).toNatClampNeg)), (0, .ref (o 2)), (1, .int a1), (2, .long a2)]) hx hb dX2_nextBeginning_37 hl (by decide) rfl (fun ls hl => ?_)
    refine lv_iload_n hx hb dX2_nextBeginning_39 rfl (lv_at hl 4 rfl) ?_
    refine lv_iconst (v := (1 : Int32)) hx hb dX2_nextBeginning_40 (by decide) ?_
    refine lv_icmp_ne (tgt := 54) hx hb dX2_nextBeginning_41 (by decide) (fun c3 => ?_) (fun c3 => ?_)
    · replace h := fF c3 h
      refine lv_aload_n hx hb dX2_nextBeginning_54 rfl (lv_at hl 3 rfl) ?_
      refine va_get (D := D) (ci := 2) (C := RX2) (T := TX2) (N := 3) hx hb hts hinRX2 hown hK hP 0 rfl rfl 1 (by decide) q0 (fun _ h9 => h9) rfl dX2_nextBeginning_55 ?_
      refine lv_iload_n hx hb dX2_nextBeginning_58 rfl (lv_at hl 4 rfl) ?_
      refine lv_iconst (v := (2 : Int32)) hx hb dX2_nextBeginning_59 (by decide) ?_
      refine lv_isub hx hb dX2_nextBeginning_60 ?_
      obtain ⟨g4, h⟩ := fG h
      refine va_lald hx hb hK hP 2 1 rfl rfl g4 dX2_nextBeginning_61 ?_
      refine lv_lstore (lv' := [(10, .long (be (a1 - (2 : Int32)).toNatClampNeg)), (8, .long (a2 * (F_X3_denominator (be (a1 - (1 : Int32)).toNatClampNeg)))), (6, .long (a2 * (F_X3_numerator (be (a1 - (1 : Int32)).toNatClampNeg)))), (4, .long (be (a1 - (1 : Int32)).toNatClampNeg)), (0, .ref (o 2)), (1, .int a1), (2, .long a2)]) hx hb dX2_nextBeginning_62 hl (by decide) rfl (fun ls hl => ?_)
      refine lv_lload hx hb dX2_nextBeginning_64 (lv_at hl 2 rfl) ?_
      refine lv_lload hx hb dX2_nextBeginning_66 (lv_at hl 0 rfl) ?_
      refine cT_l (As := [.long (be (a1 - (2 : Int32)).toNatClampNeg)]) (rest := [.long (a2 * (F_X3_numerator (be (a1 - (1 : Int32)).toNatClampNeg)))]) ⟨hx, hb, hml, hown, hts⟩ (c_X3_numerator l D y _ (be (a1 - (2 : Int32)).toNatClampNeg)) (va_cwS 1 hts gX2_nextBeginning_X3_numerator rfl rfl rfl hd_X3_numerator ⟨Nat.le_of_ble_eq_true rfl, Nat.le_of_ble_eq_true rfl⟩) hK hP hD hS hA rfl hl.1 rfl (Nat.le_of_ble_eq_true rfl) dX2_nextBeginning_68 ⟨Nat.le_of_ble_eq_true rfl, Nat.le_of_ble_eq_true rfl⟩ (fun H locs hP hD hS => ?_)
      refine lv_ladd hx hb dX2_nextBeginning_71 ?_
      refine lv_lload hx hb dX2_nextBeginning_72 (lv_at hl 1 rfl) ?_
      refine lv_lload hx hb dX2_nextBeginning_74 (lv_at hl 0 rfl) ?_
      refine cT_l (As := [.long (be (a1 - (2 : Int32)).toNatClampNeg)]) (rest := [.long (a2 * (F_X3_denominator (be (a1 - (1 : Int32)).toNatClampNeg))), .long ((a2 * (F_X3_numerator (be (a1 - (1 : Int32)).toNatClampNeg))) + (F_X3_numerator (be (a1 - (2 : Int32)).toNatClampNeg)))]) ⟨hx, hb, hml, hown, hts⟩ (c_X3_denominator l D y _ (be (a1 - (2 : Int32)).toNatClampNeg)) (va_cwS 1 hts gX2_nextBeginning_X3_denominator rfl rfl rfl hd_X3_denominator ⟨Nat.le_of_ble_eq_true rfl, Nat.le_of_ble_eq_true rfl⟩) hK hP hD hS hA rfl hl.1 rfl (Nat.le_of_ble_eq_true rfl) dX2_nextBeginning_76 ⟨Nat.le_of_ble_eq_true rfl, Nat.le_of_ble_eq_true rfl⟩ (fun H locs hP hD hS => ?_)
      refine lv_ladd hx hb dX2_nextBeginning_79 ?_
      refine cT_l (As := [.long ((a2 * (F_X3_numerator (be (a1 - (1 : Int32)).toNatClampNeg))) + (F_X3_numerator (be (a1 - (2 : Int32)).toNatClampNeg))), .long ((a2 * (F_X3_denominator (be (a1 - (1 : Int32)).toNatClampNeg))) + (F_X3_denominator (be (a1 - (2 : Int32)).toNatClampNeg)))]) (rest := []) ⟨hx, hb, hml, hown, hts⟩ (c_X3_pair l D y _ ((a2 * (F_X3_numerator (be (a1 - (1 : Int32)).toNatClampNeg))) + (F_X3_numerator (be (a1 - (2 : Int32)).toNatClampNeg))) ((a2 * (F_X3_denominator (be (a1 - (1 : Int32)).toNatClampNeg))) + (F_X3_denominator (be (a1 - (2 : Int32)).toNatClampNeg)))) (va_cwS 2 hts gX2_nextBeginning_X3_pair rfl rfl rfl hd_X3_pair ⟨Nat.le_of_ble_eq_true rfl, Nat.le_of_ble_eq_true rfl⟩) hK hP hD hS hA rfl hl.1 rfl (Nat.le_of_ble_eq_true rfl) dX2_nextBeginning_80 ⟨Nat.le_of_ble_eq_true rfl, Nat.le_of_ble_eq_true rfl⟩ (fun H locs hP hD hS => ?_)
      cases h
      exact hE _ _ _ _ dX2_nextBeginning_83 hP hD hS
    · replace h := fT c3 h
      refine lv_lload hx hb dX2_nextBeginning_44 (lv_at hl 1 rfl) ?_
      refine lv_lconst (v := (1 : Int64)) hx hb dX2_nextBeginning_46 rfl ?_
      refine lv_ladd hx hb dX2_nextBeginning_47 ?_
      refine lv_lload hx hb dX2_nextBeginning_48 (lv_at hl 0 rfl) ?_
      refine cT_l (As := [.long ((a2 * (F_X3_numerator (be (a1 - (1 : Int32)).toNatClampNeg))) + (1 : Int64)), .long (a2 * (F_X3_denominator (be (a1 - (1 : Int32)).toNatClampNeg)))]) (rest := []) ⟨hx, hb, hml, hown, hts⟩ (c_X3_pair l D y _ ((a2 * (F_X3_numerator (be (a1 - (1 : Int32)).toNatClampNeg))) + (1 : Int64)) (a2 * (F_X3_denominator (be (a1 - (1 : Int32)).toNatClampNeg)))) (va_cwS 2 hts gX2_nextBeginning_X3_pair rfl rfl rfl hd_X3_pair ⟨Nat.le_of_ble_eq_true rfl, Nat.le_of_ble_eq_true rfl⟩) hK hP hD hS hA rfl hl.1 rfl (Nat.le_of_ble_eq_true rfl) dX2_nextBeginning_50 ⟨Nat.le_of_ble_eq_true rfl, Nat.le_of_ble_eq_true rfl⟩ (fun H locs hP hD hS => ?_)
      cases h
      exact hE _ _ _ _ dX2_nextBeginning_53 hP hD hS
  · replace h := fF c1 h
    refine lv_lload_n hx hb dX2_nextBeginning_5 rfl (lv_at hl 2 rfl) ?_
    refine lv_lconst (v := (1 : Int64)) hx hb dX2_nextBeginning_6 rfl ?_
    refine cT_l (As := [.long a2, .long (1 : Int64)]) (rest := []) ⟨hx, hb, hml, hown, hts⟩ (c_X3_pair l D y _ a2 (1 : Int64)) (va_cwS 2 hts gX2_nextBeginning_X3_pair rfl rfl rfl hd_X3_pair ⟨Nat.le_of_ble_eq_true rfl, Nat.le_of_ble_eq_true rfl⟩) hK hP hD hS hA rfl hl.1 rfl (Nat.le_of_ble_eq_true rfl) dX2_nextBeginning_7 ⟨Nat.le_of_ble_eq_true rfl, Nat.le_of_ble_eq_true rfl⟩ (fun H locs hP hD hS => ?_)
    cases h
    exact hE _ _ _ _ dX2_nextBeginning_10 hP hD hS
abbrev rm_X2_expand : Room := { frames := 3, cells := 0, slots := 0, locals := 67 }
theorem hd_X2_expand : yX2_expand.cls = RX2 ∧ yX2_expand.cls ≠ "java/lang/invoke/MethodHandle" ∧ yX2_expand.cls ≠ "java/lang/invoke/VarHandle" ∧ (parseMethodDescriptor yX2_expand.desc).map (fun d => d.parameters.length) = some 1 := by decide +kernel
set_option maxHeartbeats 0 in
set_option maxRecDepth 100000 in
theorem c_X2_expand (l : Launch) (D : va_G) (o : Nat → Nat) (y : Nat → ClassId) (sz : Nat) (te : Nat → Int32) (be : Nat → Int64) (cn : Int32) (a1 : Int64) (te' : Nat → Int32) (be' : Nat → Int64) (cn' : Int32) (h : F_X2_expand te be cn a1 = some (te', be', cn')) : Met l yX2_expand wsX2_expand rm_X2_expand (va_Pc [.ref (o 2), .long a1] (px D y sz (CF o y te be cn))) (Qrv D y sz (CF o y te be cn) (CF o y te' be' cn')) 0 0 (va_A (CF o y te be cn) sz) := by
  refine hd_v (cc := cX2_expand) (maxL := 10) rfl rfl (Nat.le_of_ble_eq_true rfl) ?_
  intro p e s m args below meth c A Q H locs ls hx hb hml hts hown _ hA hP hD hK hS hl hE
  have hl : lv_has ls 10 [(0, .ref (o 2)), (1, .long a1)] := hl
  have q0 := hts (.fieldLink RX2 26 "SliceShares$ContinuedFraction" "count" "I") (by decide +kernel)
  have q1 := hts (.fieldLink RX2 9 "SliceShares$ContinuedFraction" "terms" "[I") (by decide +kernel)
  have q2 := hts (.fieldLink RX2 13 "SliceShares$ContinuedFraction" "beginnings" "[J") (by decide +kernel)
  have hinRX2 : ∀ w ∈ wsX20, w ∈ wsX2_expand := by decide +kernel
  unfold F_X2_expand at h
  refine lv_lload_n hx hb dX2_expand_0 rfl (lv_at hl 1 rfl) ?_
  refine cT_l (As := [.long a1]) (rest := []) ⟨hx, hb, hml, hown, hts⟩ (c_X3_numerator l D y _ a1) (va_cwS 1 hts gX2_expand_X3_numerator rfl rfl rfl hd_X3_numerator ⟨Nat.le_of_ble_eq_true rfl, Nat.le_of_ble_eq_true rfl⟩) hK hP hD hS hA rfl hl.1 rfl (Nat.le_of_ble_eq_true rfl) dX2_expand_1 ⟨Nat.le_of_ble_eq_true rfl, Nat.le_of_ble_eq_true rfl⟩ (fun H locs hP hD hS => ?_)
  refine lv_lstore_n (lv' := [(3, .long (F_X3_numerator a1)), (0, .ref (o 2)), (1, .long a1)]) hx hb dX2_expand_4 rfl hl (by decide) rfl (fun ls hl => ?_)
  refine lv_lload_n hx hb dX2_expand_5 rfl (lv_at hl 2 rfl) ?_
  refine cT_l (As := [.long a1]) (rest := []) ⟨hx, hb, hml, hown, hts⟩ (c_X3_denominator l D y _ a1) (va_cwS 1 hts gX2_expand_X3_denominator rfl rfl rfl hd_X3_denominator ⟨Nat.le_of_ble_eq_true rfl, Nat.le_of_ble_eq_true rfl⟩) hK hP hD hS hA rfl hl.1 rfl (Nat.le_of_ble_eq_true rfl) dX2_expand_6 ⟨Nat.le_of_ble_eq_true rfl, Nat.le_of_ble_eq_true rfl⟩ (fun H locs hP hD hS => ?_)
  refine lv_lstore (lv' := [(5, .long (F_X3_denominator a1)), (3, .long (F_X3_numerator a1)), (0, .ref (o 2)), (1, .long a1)]) hx hb dX2_expand_9 hl (by decide) rfl (fun ls hl => ?_)
  refine lv_aload_n hx hb dX2_expand_11 rfl (lv_at hl 2 rfl) ?_
  refine lv_iconst (v := (0 : Int32)) hx hb dX2_expand_12 (by decide) ?_
  refine va_put (D := D) (ci := 2) (v := .int (0 : Int32)) (ty := .int) (C := RX2) (T := TX2) (N := 3) hx hb hts hinRX2 tyX2 tyX2_ok nmX2 hown hK hP hD hS 0 rfl rfl 2 (by decide) q0 (fun _ h9 => h9) rfl (by decide +kernel) rfl rfl (Nat.le_of_ble_eq_true rfl) dX2_expand_13 (fun H locs hP hD hS => ?_)
  have hP : va_P D vwCl (CF o y te be (0 : Int32)) H := hP
  have hD : va_D A (CF o y te be (0 : Int32)) := hD
  refine lv_iconst (v := (0 : Int32)) hx hb dX2_expand_16 (by decide) ?_
  refine lv_istore (lv' := [(7, .int (0 : Int32)), (5, .long (F_X3_denominator a1)), (3, .long (F_X3_numerator a1)), (0, .ref (o 2)), (1, .long a1)]) hx hb dX2_expand_17 hl (by decide) rfl (fun ls hl => ?_)
  obtain ⟨te7, be8, cn9, g10, h⟩ := fB3 h
  have J11 : ∀ (H : Heap) (locs : List Loc) (ls : Array Slot), va_P D vwCl (CF o y te7 be8 cn9) H → va_D A (CF o y te7 be8 cn9) → va_S A s.heap H locs → lv_has ls 10 [] → W p l e rm_X2_expand s m args below meth c H locs 0 0 Q (F0 m 95 ls []) := by
    intro H locs ls hP hD hS hl
    cases h
    exact hE _ _ _ _ dX2_expand_95 hP hD hS
  have LP12 : ∀ (n : Nat) (x1 : Int64) (x2 : Int64) (x3 : Int32) (te4 : Nat → Int32) (be5 : Nat → Int64) (cn6 : Int32) (H : Heap) (locs : List Loc) (ls : Array Slot), L_X2_expand_19 n x1 x2 x3 te4 be5 cn6 = some (te7, be8, cn9) → va_P D vwCl (CF o y te4 be5 cn6) H → va_D A (CF o y te4 be5 cn6) → va_S A s.heap H locs → lv_has ls 10 [(0, .ref (o 2)), (3, .long x1), (5, .long x2), (7, .int x3)] → W p l e rm_X2_expand s m args below meth c H locs 0 0 Q (F0 m 19 ls []) := by
    intro n
    induction n with
    | zero => intro x1 x2 x3 te4 be5 cn6 H locs ls h hP hD hS hl; exact fN h
    | succ n ih =>
      intro x1 x2 x3 te4 be5 cn6 H locs ls h hP hD hS hl
      replace h := (L_X2_expand_19_s n x1 x2 x3 te4 be5 cn6).symm.trans h
      refine lv_iload hx hb dX2_expand_19 (lv_at hl 3 rfl) ?_
      refine lv_bipush (v := (40 : Int32)) hx hb dX2_expand_21 (by decide) ?_
      refine lv_icmp_ge (tgt := 95) hx hb dX2_expand_23 (by decide) (fun c13 => ?_) (fun c13 => ?_)
      · replace h := fT c13 h
        cases h
        exact J11 _ _ _ hP hD hS (lv_sub hl [] rfl)
      · replace h := fF c13 h
        refine lv_lload hx hb dX2_expand_26 (lv_at hl 2 rfl) ?_
        refine lv_lconst (v := (0 : Int64)) hx hb dX2_expand_28 rfl ?_
        refine lx_eq (tgt := 95) hx hb dX2_expand_29 dX2_expand_30 (by decide) (fun c14 => ?_) (fun c14 => ?_)
        · replace h := fT c14 h
          cases h
          exact J11 _ _ _ hP hD hS (lv_sub hl [] rfl)
        · replace h := fF c14 h
          refine lv_lload_n hx hb dX2_expand_33 rfl (lv_at hl 1 rfl) ?_
          refine lv_lload hx hb dX2_expand_34 (lv_at hl 2 rfl) ?_
          obtain ⟨g15, h⟩ := fG h
          refine lv_lrem hx hb dX2_expand_36 g15 ?_
          refine lv_lstore (lv' := [(8, .long (x1 - x1 / x2 * x2)), (0, .ref (o 2)), (3, .long x1), (5, .long x2), (7, .int x3)]) hx hb dX2_expand_37 hl (by decide) rfl (fun ls hl => ?_)
          refine lv_aload_n hx hb dX2_expand_39 rfl (lv_at hl 1 rfl) ?_
          refine va_get (D := D) (ci := 2) (C := RX2) (T := TX2) (N := 3) hx hb hts hinRX2 hown hK hP 0 rfl rfl 0 (by decide) q1 (fun _ h9 => h9) rfl dX2_expand_40 ?_
          refine lv_iload hx hb dX2_expand_43 (lv_at hl 4 rfl) ?_
          refine lv_lload_n hx hb dX2_expand_45 rfl (lv_at hl 2 rfl) ?_
          refine lv_lload hx hb dX2_expand_46 (lv_at hl 3 rfl) ?_
          refine lv_ldiv hx hb dX2_expand_48 g15 ?_
          refine lv_l2i (v := (x1 / x2).toInt32) hx hb dX2_expand_49 rfl ?_
          obtain ⟨g16, h⟩ := fG h
          refine va_iast hx hb hK hP hD hS 1 0 rfl rfl g16 dX2_expand_50 (fun H locs hP hD hS => ?_)
          have hP : va_P D vwCl (CF o y (upd te4 x3.toNatClampNeg ((x1 / x2).toInt32)) be5 cn6) H := hP
          have hD : va_D A (CF o y (upd te4 x3.toNatClampNeg ((x1 / x2).toInt32)) be5 cn6) := hD
          refine lv_aload_n hx hb dX2_expand_51 rfl (lv_at hl 1 rfl) ?_
          refine va_get (D := D) (ci := 2) (C := RX2) (T := TX2) (N := 3) hx hb hts hinRX2 hown hK hP 0 rfl rfl 1 (by decide) q2 (fun _ h9 => h9) rfl dX2_expand_52 ?_
          refine lv_iload hx hb dX2_expand_55 (lv_at hl 4 rfl) ?_
          refine lv_aload_n hx hb dX2_expand_57 rfl (lv_at hl 1 rfl) ?_
          refine lv_iload hx hb dX2_expand_58 (lv_at hl 4 rfl) ?_
          refine lv_aload_n hx hb dX2_expand_60 rfl (lv_at hl 1 rfl) ?_
          refine va_get (D := D) (ci := 2) (C := RX2) (T := TX2) (N := 3) hx hb hts hinRX2 hown hK hP 0 rfl rfl 0 (by decide) q1 (fun _ h9 => h9) rfl dX2_expand_61 ?_
          refine lv_iload hx hb dX2_expand_64 (lv_at hl 4 rfl) ?_
          refine va_iald hx hb hK hP 1 0 rfl rfl g16 dX2_expand_66 ?_
          refine lv_i2l (v := ((upd te4 x3.toNatClampNeg ((x1 / x2).toInt32)) x3.toNatClampNeg).toInt64) hx hb dX2_expand_67 rfl ?_
          obtain ⟨r17, g18, h⟩ := fB1 h
          refine cV_l (As := [.int x3, .long (((upd te4 x3.toNatClampNeg ((x1 / x2).toInt32)) x3.toNatClampNeg).toInt64)]) (rest := [.int x3, .ref (o 4)]) (ws1 := (CF o y (upd te4 x3.toNatClampNeg ((x1 / x2).toInt32)) be5 cn6)) ⟨hx, hb, hml, hown, hts⟩ (c_X2_nextBeginning l D o y _ (upd te4 x3.toNatClampNeg ((x1 / x2).toInt32)) be5 cn6 x3 (((upd te4 x3.toNatClampNeg ((x1 / x2).toInt32)) x3.toNatClampNeg).toInt64) r17 g18) (cwV 2 hts gX2_expand_X2_nextBeginning rfl rfl rfl hd_X2_nextBeginning ⟨Nat.le_of_ble_eq_true rfl, Nat.le_of_ble_eq_true rfl⟩) hK hP hD hS hA [0, 1, 2] [] [0, 1, 2] rfl rfl rfl (by decide) rfl rfl rfl 0 (ci := 2) rfl rfl rfl hl.1 rfl (Nat.le_of_ble_eq_true rfl) dX2_expand_68 ⟨Nat.le_of_ble_eq_true rfl, Nat.le_of_ble_eq_true rfl⟩ (fun H locs hP hD hS => ?_)
          refine va_last hx hb hK hP hD hS 2 1 rfl rfl g16 dX2_expand_71 (fun H locs hP hD hS => ?_)
          have hP : va_P D vwCl (CF o y (upd te4 x3.toNatClampNeg ((x1 / x2).toInt32)) (vp_updL be5 x3.toNatClampNeg r17) cn6) H := hP
          have hD : va_D A (CF o y (upd te4 x3.toNatClampNeg ((x1 / x2).toInt32)) (vp_updL be5 x3.toNatClampNeg r17) cn6) := hD
          refine lv_aload_n hx hb dX2_expand_72 rfl (lv_at hl 1 rfl) ?_
          refine lv_dup hx hb dX2_expand_73 rfl ?_
          refine va_get (D := D) (ci := 2) (C := RX2) (T := TX2) (N := 3) hx hb hts hinRX2 hown hK hP 0 rfl rfl 2 (by decide) q0 (fun _ h9 => h9) rfl dX2_expand_74 ?_
          refine lv_iconst (v := (1 : Int32)) hx hb dX2_expand_77 (by decide) ?_
          refine lv_iadd hx hb dX2_expand_78 ?_
          refine va_put (D := D) (ci := 2) (v := .int (cn6 + (1 : Int32))) (ty := .int) (C := RX2) (T := TX2) (N := 3) hx hb hts hinRX2 tyX2 tyX2_ok nmX2 hown hK hP hD hS 0 rfl rfl 2 (by decide) q0 (fun _ h9 => h9) rfl (by decide +kernel) rfl rfl (Nat.le_of_ble_eq_true rfl) dX2_expand_79 (fun H locs hP hD hS => ?_)
          have hP : va_P D vwCl (CF o y (upd te4 x3.toNatClampNeg ((x1 / x2).toInt32)) (vp_updL be5 x3.toNatClampNeg r17) (cn6 + (1 : Int32))) H := hP
          have hD : va_D A (CF o y (upd te4 x3.toNatClampNeg ((x1 / x2).toInt32)) (vp_updL be5 x3.toNatClampNeg r17) (cn6 + (1 : Int32))) := hD
          refine lv_lload hx hb dX2_expand_82 (lv_at hl 3 rfl) ?_
          refine lv_lstore_n (lv' := [(3, .long x2), (8, .long (x1 - x1 / x2 * x2)), (0, .ref (o 2)), (5, .long x2), (7, .int x3)]) hx hb dX2_expand_84 rfl hl (by decide) rfl (fun ls hl => ?_)
          refine lv_lload hx hb dX2_expand_85 (lv_at hl 1 rfl) ?_
          refine lv_lstore (lv' := [(5, .long (x1 - x1 / x2 * x2)), (3, .long x2), (8, .long (x1 - x1 / x2 * x2)), (0, .ref (o 2)), (7, .int x3)]) hx hb dX2_expand_87 hl (by decide) rfl (fun ls hl => ?_)
          refine lv_iinc (v := x3 + (1 : Int32)) (lv' := [(7, .int (x3 + (1 : Int32))), (5, .long (x1 - x1 / x2 * x2)), (3, .long x2), (8, .long (x1 - x1 / x2 * x2)), (0, .ref (o 2))]) hx hb dX2_expand_89 hl (k := 4) rfl rfl (by decide) rfl (fun ls hl => ?_)
          refine lv_goto (tgt := 19) hx hb dX2_expand_92 (by decide) ?_
          exact ih x2 (x1 - x1 / x2 * x2) (x3 + (1 : Int32)) (upd te4 x3.toNatClampNeg ((x1 / x2).toInt32)) (vp_updL be5 x3.toNatClampNeg r17) (cn6 + (1 : Int32)) _ _ _ h hP hD hS (lv_sub hl [4, 2, 1, 0] rfl)
  exact LP12 FU (F_X3_numerator a1) (F_X3_denominator a1) (0 : Int32) te be (0 : Int32) _ _ _ g10 hP hD hS (lv_sub hl [3, 2, 1, 0] rfl)
abbrev rm_X2_count : Room := { frames := 0, cells := 0, slots := 0, locals := 0 }
theorem hd_X2_count : yX2_count.cls = RX2 ∧ yX2_count.cls ≠ "java/lang/invoke/MethodHandle" ∧ yX2_count.cls ≠ "java/lang/invoke/VarHandle" ∧ (parseMethodDescriptor yX2_count.desc).map (fun d => d.parameters.length) = some 0 := by decide +kernel
set_option maxHeartbeats 0 in
set_option maxRecDepth 100000 in
theorem c_X2_count (l : Launch) (D : va_G) (o : Nat → Nat) (y : Nat → ClassId) (sz : Nat) (te : Nat → Int32) (be : Nat → Int64) (cn : Int32) : Met l yX2_count wsX2_count rm_X2_count (va_Pc [.ref (o 2)] (px D y sz (CF o y te be cn))) (Qri D y sz (CF o y te be cn) (CF o y te be cn) (F_X2_count cn)) 0 0 (va_A (CF o y te be cn) sz) := by
  refine hd_i (cc := cX2_count) (maxL := 1) rfl rfl (Nat.le_of_ble_eq_true rfl) ?_
  intro p e s m args below meth c A Q H locs ls hx hb hml hts hown _ hA hP hD hK hS hl hE
  have hl : lv_has ls 1 [(0, .ref (o 2))] := hl
  have q0 := hts (.fieldLink RX2 26 "SliceShares$ContinuedFraction" "count" "I") (by decide +kernel)
  have hinRX2 : ∀ w ∈ wsX20, w ∈ wsX2_count := by decide +kernel
  refine lv_aload_n hx hb dX2_count_0 rfl (lv_at hl 0 rfl) ?_
  refine va_get (D := D) (ci := 2) (C := RX2) (T := TX2) (N := 3) hx hb hts hinRX2 hown hK hP 0 rfl rfl 2 (by decide) q0 (fun _ h9 => h9) rfl dX2_count_1 ?_
  exact hE _ _ _ _ dX2_count_4 hP hD hS
abbrev rm_X2_beginning : Room := { frames := 0, cells := 0, slots := 0, locals := 0 }
theorem hd_X2_beginning : yX2_beginning.cls = RX2 ∧ yX2_beginning.cls ≠ "java/lang/invoke/MethodHandle" ∧ yX2_beginning.cls ≠ "java/lang/invoke/VarHandle" ∧ (parseMethodDescriptor yX2_beginning.desc).map (fun d => d.parameters.length) = some 1 := by decide +kernel
set_option maxHeartbeats 0 in
set_option maxRecDepth 100000 in
theorem c_X2_beginning (l : Launch) (D : va_G) (o : Nat → Nat) (y : Nat → ClassId) (sz : Nat) (te : Nat → Int32) (be : Nat → Int64) (cn : Int32) (a1 : Int32) (r : Int64) (h : F_X2_beginning be a1 = some r) : Met l yX2_beginning wsX2_beginning rm_X2_beginning (va_Pc [.ref (o 2), .int a1] (px D y sz (CF o y te be cn))) (Qrl D y sz (CF o y te be cn) (CF o y te be cn) r) 0 0 (va_A (CF o y te be cn) sz) := by
  refine hd_l (cc := cX2_beginning) (maxL := 2) rfl rfl (Nat.le_of_ble_eq_true rfl) ?_
  intro p e s m args below meth c A Q H locs ls hx hb hml hts hown _ hA hP hD hK hS hl hE
  have hl : lv_has ls 2 [(0, .ref (o 2)), (1, .int a1)] := hl
  have q0 := hts (.fieldLink RX2 13 "SliceShares$ContinuedFraction" "beginnings" "[J") (by decide +kernel)
  have hinRX2 : ∀ w ∈ wsX20, w ∈ wsX2_beginning := by decide +kernel
  unfold F_X2_beginning at h
  refine lv_aload_n hx hb dX2_beginning_0 rfl (lv_at hl 0 rfl) ?_
  refine va_get (D := D) (ci := 2) (C := RX2) (T := TX2) (N := 3) hx hb hts hinRX2 hown hK hP 0 rfl rfl 1 (by decide) q0 (fun _ h9 => h9) rfl dX2_beginning_1 ?_
  refine lv_iload_n hx hb dX2_beginning_4 rfl (lv_at hl 1 rfl) ?_
  obtain ⟨g1, h⟩ := fG h
  refine va_lald hx hb hK hP 2 1 rfl rfl g1 dX2_beginning_5 ?_
  cases h
  exact hE _ _ _ _ dX2_beginning_6 hP hD hS
abbrev rm_X3_distanceTimesDenominators : Room := { frames := 2, cells := 0, slots := 0, locals := 36 }
theorem hd_X3_distanceTimesDenominators : yX3_distanceTimesDenominators.cls ≠ "java/lang/invoke/MethodHandle" ∧ yX3_distanceTimesDenominators.cls ≠ "java/lang/invoke/VarHandle" ∧ (parseMethodDescriptor yX3_distanceTimesDenominators.desc).map (fun d => d.parameters.length) = some 2 := by decide +kernel
set_option maxHeartbeats 0 in
set_option maxRecDepth 100000 in
theorem c_X3_distanceTimesDenominators (l : Launch) (D : va_G) (y : Nat → ClassId) (sz : Nat) (a1 : Int64) (a2 : Int64) : Met l yX3_distanceTimesDenominators wsX3_distanceTimesDenominators rm_X3_distanceTimesDenominators (va_Pc [.long a1, .long a2] (px D y sz [])) (Qrl D y sz [] [] (F_X3_distanceTimesDenominators a1 a2)) 0 0 (va_A [] sz) := by
  refine hd_l (cc := cX3_distanceTimesDenominators) (maxL := 4) rfl rfl (Nat.le_of_ble_eq_true rfl) ?_
  intro p e s m args below meth c A Q H locs ls hx hb hml hts hown _ hA hP hD hK hS hl hE
  have hl : lv_has ls 4 [(0, .long a1), (2, .long a2)] := hl
  have q0 := hts (.methodLink RX3 45 Lib.MathLoose.abs_long.x) (by decide +kernel)
  have q1 := hts (.static Lib.MathLoose.abs_long.x) (by decide +kernel)
  have q2 := hts (.initialized "java/lang/Math") (by decide +kernel)
  have q3 := hts (.code Lib.MathLoose.abs_long.x Lib.MathLoose.abs_long.code 2 (some .long)) (by decide +kernel)
  refine lv_lload_n hx hb dX3_distanceTimesDenominators_0 rfl (lv_at hl 0 rfl) ?_
  refine cT_l (As := [.long a1]) (rest := []) ⟨hx, hb, hml, hown, hts⟩ (c_X3_numerator l D y _ a1) (va_cwS 1 hts gX3_distanceTimesDenominators_X3_numerator rfl rfl rfl hd_X3_numerator ⟨Nat.le_of_ble_eq_true rfl, Nat.le_of_ble_eq_true rfl⟩) hK hP hD hS hA rfl hl.1 rfl (Nat.le_of_ble_eq_true rfl) dX3_distanceTimesDenominators_1 ⟨Nat.le_of_ble_eq_true rfl, Nat.le_of_ble_eq_true rfl⟩ (fun H locs hP hD hS => ?_)
  refine lv_lload_n hx hb dX3_distanceTimesDenominators_4 rfl (lv_at hl 1 rfl) ?_
  refine cT_l (As := [.long a2]) (rest := [.long (F_X3_numerator a1)]) ⟨hx, hb, hml, hown, hts⟩ (c_X3_denominator l D y _ a2) (va_cwS 1 hts gX3_distanceTimesDenominators_X3_denominator rfl rfl rfl hd_X3_denominator ⟨Nat.le_of_ble_eq_true rfl, Nat.le_of_ble_eq_true rfl⟩) hK hP hD hS hA rfl hl.1 rfl (Nat.le_of_ble_eq_true rfl) dX3_distanceTimesDenominators_5 ⟨Nat.le_of_ble_eq_true rfl, Nat.le_of_ble_eq_true rfl⟩ (fun H locs hP hD hS => ?_)
  refine lv_lmul hx hb dX3_distanceTimesDenominators_8 ?_
  refine lv_lload_n hx hb dX3_distanceTimesDenominators_9 rfl (lv_at hl 1 rfl) ?_
  refine cT_l (As := [.long a2]) (rest := [.long ((F_X3_numerator a1) * (F_X3_denominator a2))]) ⟨hx, hb, hml, hown, hts⟩ (c_X3_numerator l D y _ a2) (va_cwS 1 hts gX3_distanceTimesDenominators_X3_numerator rfl rfl rfl hd_X3_numerator ⟨Nat.le_of_ble_eq_true rfl, Nat.le_of_ble_eq_true rfl⟩) hK hP hD hS hA rfl hl.1 rfl (Nat.le_of_ble_eq_true rfl) dX3_distanceTimesDenominators_10 ⟨Nat.le_of_ble_eq_true rfl, Nat.le_of_ble_eq_true rfl⟩ (fun H locs hP hD hS => ?_)
  refine lv_lload_n hx hb dX3_distanceTimesDenominators_13 rfl (lv_at hl 0 rfl) ?_
  refine cT_l (As := [.long a1]) (rest := [.long (F_X3_numerator a2), .long ((F_X3_numerator a1) * (F_X3_denominator a2))]) ⟨hx, hb, hml, hown, hts⟩ (c_X3_denominator l D y _ a1) (va_cwS 1 hts gX3_distanceTimesDenominators_X3_denominator rfl rfl rfl hd_X3_denominator ⟨Nat.le_of_ble_eq_true rfl, Nat.le_of_ble_eq_true rfl⟩) hK hP hD hS hA rfl hl.1 rfl (Nat.le_of_ble_eq_true rfl) dX3_distanceTimesDenominators_14 ⟨Nat.le_of_ble_eq_true rfl, Nat.le_of_ble_eq_true rfl⟩ (fun H locs hP hD hS => ?_)
  refine lv_lmul hx hb dX3_distanceTimesDenominators_17 ?_
  refine lv_lsub hx hb dX3_distanceTimesDenominators_18 ?_
  refine va_mabs_long hx hb (hml.trans hl.1.symm) hown q0 q1 q2 q3 (Nat.le_of_ble_eq_true rfl) (Nat.le_of_ble_eq_true rfl) (Nat.zero_le _) (Nat.zero_le _) dX3_distanceTimesDenominators_19 ?_
  exact hE _ _ _ _ dX3_distanceTimesDenominators_22 hP hD hS
abbrev rm_X3_nearer : Room := { frames := 3, cells := 0, slots := 0, locals := 59 }
theorem hd_X3_nearer : yX3_nearer.cls ≠ "java/lang/invoke/MethodHandle" ∧ yX3_nearer.cls ≠ "java/lang/invoke/VarHandle" ∧ (parseMethodDescriptor yX3_nearer.desc).map (fun d => d.parameters.length) = some 3 := by decide +kernel
set_option maxHeartbeats 0 in
set_option maxRecDepth 100000 in
theorem c_X3_nearer (l : Launch) (D : va_G) (y : Nat → ClassId) (sz : Nat) (a1 : Int64) (a2 : Int64) (a3 : Int64) : Met l yX3_nearer wsX3_nearer rm_X3_nearer (va_Pc [.long a1, .long a2, .long a3] (px D y sz [])) (Qrl D y sz [] [] (F_X3_nearer a1 a2 a3)) 0 0 (va_A [] sz) := by
  refine hd_l (cc := cX3_nearer) (maxL := 10) rfl rfl (Nat.le_of_ble_eq_true rfl) ?_
  intro p e s m args below meth c A Q H locs ls hx hb hml hts hown _ hA hP hD hK hS hl hE
  have hl : lv_has ls 10 [(0, .long a1), (2, .long a2), (4, .long a3)] := hl
  refine lv_lload_n hx hb dX3_nearer_0 rfl (lv_at hl 0 rfl) ?_
  refine lv_lload_n hx hb dX3_nearer_1 rfl (lv_at hl 1 rfl) ?_
  refine cT_l (As := [.long a1, .long a2]) (rest := []) ⟨hx, hb, hml, hown, hts⟩ (c_X3_distanceTimesDenominators l D y _ a1 a2) (va_cwS 2 hts gX3_nearer_X3_distanceTimesDenominators rfl rfl rfl hd_X3_distanceTimesDenominators ⟨Nat.le_of_ble_eq_true rfl, Nat.le_of_ble_eq_true rfl⟩) hK hP hD hS hA rfl hl.1 rfl (Nat.le_of_ble_eq_true rfl) dX3_nearer_2 ⟨Nat.le_of_ble_eq_true rfl, Nat.le_of_ble_eq_true rfl⟩ (fun H locs hP hD hS => ?_)
  refine lv_lload hx hb dX3_nearer_5 (lv_at hl 2 rfl) ?_
  refine cT_l (As := [.long a3]) (rest := [.long (F_X3_distanceTimesDenominators a1 a2)]) ⟨hx, hb, hml, hown, hts⟩ (c_X3_denominator l D y _ a3) (va_cwS 1 hts gX3_nearer_X3_denominator rfl rfl rfl hd_X3_denominator ⟨Nat.le_of_ble_eq_true rfl, Nat.le_of_ble_eq_true rfl⟩) hK hP hD hS hA rfl hl.1 rfl (Nat.le_of_ble_eq_true rfl) dX3_nearer_7 ⟨Nat.le_of_ble_eq_true rfl, Nat.le_of_ble_eq_true rfl⟩ (fun H locs hP hD hS => ?_)
  refine lv_lmul hx hb dX3_nearer_10 ?_
  refine lv_lstore (lv' := [(6, .long ((F_X3_distanceTimesDenominators a1 a2) * (F_X3_denominator a3))), (0, .long a1), (2, .long a2), (4, .long a3)]) hx hb dX3_nearer_11 hl (by decide) rfl (fun ls hl => ?_)
  refine lv_lload_n hx hb dX3_nearer_13 rfl (lv_at hl 1 rfl) ?_
  refine lv_lload hx hb dX3_nearer_14 (lv_at hl 3 rfl) ?_
  refine cT_l (As := [.long a1, .long a3]) (rest := []) ⟨hx, hb, hml, hown, hts⟩ (c_X3_distanceTimesDenominators l D y _ a1 a3) (va_cwS 2 hts gX3_nearer_X3_distanceTimesDenominators rfl rfl rfl hd_X3_distanceTimesDenominators ⟨Nat.le_of_ble_eq_true rfl, Nat.le_of_ble_eq_true rfl⟩) hK hP hD hS hA rfl hl.1 rfl (Nat.le_of_ble_eq_true rfl) dX3_nearer_16 ⟨Nat.le_of_ble_eq_true rfl, Nat.le_of_ble_eq_true rfl⟩ (fun H locs hP hD hS => ?_)
  refine lv_lload_n hx hb dX3_nearer_19 rfl (lv_at hl 2 rfl) ?_
  refine cT_l (As := [.long a2]) (rest := [.long (F_X3_distanceTimesDenominators a1 a3)]) ⟨hx, hb, hml, hown, hts⟩ (c_X3_denominator l D y _ a2) (va_cwS 1 hts gX3_nearer_X3_denominator rfl rfl rfl hd_X3_denominator ⟨Nat.le_of_ble_eq_true rfl, Nat.le_of_ble_eq_true rfl⟩) hK hP hD hS hA rfl hl.1 rfl (Nat.le_of_ble_eq_true rfl) dX3_nearer_20 ⟨Nat.le_of_ble_eq_true rfl, Nat.le_of_ble_eq_true rfl⟩ (fun H locs hP hD hS => ?_)
  refine lv_lmul hx hb dX3_nearer_23 ?_
  refine lv_lstore (lv' := [(8, .long ((F_X3_distanceTimesDenominators a1 a3) * (F_X3_denominator a2))), (6, .long ((F_X3_distanceTimesDenominators a1 a2) * (F_X3_denominator a3))), (0, .long a1), (2, .long a2), (4, .long a3)]) hx hb dX3_nearer_24 hl (by decide) rfl (fun ls hl => ?_)
  refine lv_lload hx hb dX3_nearer_26 (lv_at hl 0 rfl) ?_
  refine lv_lload hx hb dX3_nearer_28 (lv_at hl 1 rfl) ?_
  have J1 : ∀ (v2 : Int64) (ls : Array Slot), v2 = (if ((F_X3_distanceTimesDenominators a1 a2) * (F_X3_denominator a3)) ≤ ((F_X3_distanceTimesDenominators a1 a3) * (F_X3_denominator a2)) then a2 else a3) → lv_has ls 10 [(0, .long a1), (2, .long a2), (4, .long a3), (6, .long ((F_X3_distanceTimesDenominators a1 a2) * (F_X3_denominator a3))), (8, .long ((F_X3_distanceTimesDenominators a1 a3) * (F_X3_denominator a2)))] → W p l e rm_X3_nearer s m args below meth c H locs 0 0 Q (F0 m 40 ls [.long v2]) := by
    intro v2 ls ev2 hl
    subst ev2
    exact hE _ _ _ _ dX3_nearer_40 hP hD hS
  refine lx_ge (tgt := 39) hx hb dX3_nearer_30 dX3_nearer_31 (by decide) (fun c3 => ?_) (fun c3 => ?_)
  · refine lv_lload_n hx hb dX3_nearer_39 rfl (lv_at hl 3 rfl) ?_
    exact J1 _ _ (by rw [if_pos c3]) (lv_sub hl [2, 3, 4, 1, 0] rfl)
  · refine lv_lload hx hb dX3_nearer_34 (lv_at hl 4 rfl) ?_
    refine lv_goto (tgt := 40) hx hb dX3_nearer_36 (by decide) ?_
    exact J1 _ _ (by rw [if_neg c3]) (lv_sub hl [2, 3, 4, 1, 0] rfl)
abbrev rm_X2_nearest : Room := { frames := 4, cells := 0, slots := 0, locals := 88 }
theorem hd_X2_nearest : yX2_nearest.cls = RX2 ∧ yX2_nearest.cls ≠ "java/lang/invoke/MethodHandle" ∧ yX2_nearest.cls ≠ "java/lang/invoke/VarHandle" ∧ (parseMethodDescriptor yX2_nearest.desc).map (fun d => d.parameters.length) = some 1 := by decide +kernel
set_option maxHeartbeats 0 in
set_option maxRecDepth 100000 in
theorem c_X2_nearest (l : Launch) (D : va_G) (o : Nat → Nat) (y : Nat → ClassId) (sz : Nat) (te : Nat → Int32) (be : Nat → Int64) (cn : Int32) (a1 : Int32) (r : Int64) (h : F_X2_nearest be cn a1 = some r) : Met l yX2_nearest wsX2_nearest rm_X2_nearest (va_Pc [.ref (o 2), .int a1] (px D y sz (CF o y te be cn))) (Qrl D y sz (CF o y te be cn) (CF o y te be cn) r) 0 0 (va_A (CF o y te be cn) sz) := by
  refine hd_l (cc := cX2_nearest) (maxL := 9) rfl rfl (Nat.le_of_ble_eq_true rfl) ?_
  intro p e s m args below meth c A Q H locs ls hx hb hml hts hown _ hA hP hD hK hS hl hE
  have hl : lv_has ls 9 [(0, .ref (o 2)), (1, .int a1)] := hl
  have q0 := hts (.fieldLink RX2 26 "SliceShares$ContinuedFraction" "count" "I") (by decide +kernel)
  have q1 := hts (.fieldLink RX2 13 "SliceShares$ContinuedFraction" "beginnings" "[J") (by decide +kernel)
  have hinRX2 : ∀ w ∈ wsX20, w ∈ wsX2_nearest := by decide +kernel
  unfold F_X2_nearest at h
  refine lv_iconst (v := (0 : Int32)) hx hb dX2_nearest_0 (by decide) ?_
  refine lv_istore_n (lv' := [(2, .int (0 : Int32)), (0, .ref (o 2)), (1, .int a1)]) hx hb dX2_nearest_1 rfl hl (by decide) rfl (fun ls hl => ?_)
  refine lv_iconst (v := (1 : Int32)) hx hb dX2_nearest_2 (by decide) ?_
  refine lv_istore_n (lv' := [(3, .int (1 : Int32)), (2, .int (0 : Int32)), (0, .ref (o 2)), (1, .int a1)]) hx hb dX2_nearest_3 rfl hl (by decide) rfl (fun ls hl => ?_)
  obtain ⟨v3, g4, h⟩ := fB1 h
  have J5 : ∀ (H : Heap) (locs : List Loc) (ls : Array Slot), va_P D vwCl (CF o y te be cn) H → va_D A (CF o y te be cn) → va_S A s.heap H locs → lv_has ls 9 [(0, .ref (o 2)), (1, .int a1), (2, .int v3)] → W p l e rm_X2_nearest s m args below meth c H locs 0 0 Q (F0 m 35 ls []) := by
    intro H locs ls hP hD hS hl
    refine lv_iload_n hx hb dX2_nearest_35 rfl (lv_at hl 2 rfl) ?_
    refine lv_aload_n hx hb dX2_nearest_36 rfl (lv_at hl 0 rfl) ?_
    refine va_get (D := D) (ci := 2) (C := RX2) (T := TX2) (N := 3) hx hb hts hinRX2 hown hK hP 0 rfl rfl 2 (by decide) q0 (fun _ h9 => h9) rfl dX2_nearest_37 ?_
    refine lv_iconst (v := (1 : Int32)) hx hb dX2_nearest_40 (by decide) ?_
    refine lv_isub hx hb dX2_nearest_41 ?_
    refine lv_icmp_ne (tgt := 52) hx hb dX2_nearest_42 (by decide) (fun c6 => ?_) (fun c6 => ?_)
    · replace h := fF c6 h
      refine lv_iload_n hx hb dX2_nearest_52 rfl (lv_at hl 2 rfl) ?_
      obtain ⟨v7, g8, h⟩ := fB1 h
      have J9 : ∀ (H : Heap) (locs : List Loc) (ls : Array Slot), va_P D vwCl (CF o y te be cn) H → va_D A (CF o y te be cn) → va_S A s.heap H locs → lv_has ls 9 [(0, .ref (o 2)), (1, .int a1), (2, .int v3)] → W p l e rm_X2_nearest s m args below meth c H locs 0 0 Q (F0 m 71 ls [.long v7]) := by
        intro H locs ls hP hD hS hl
        refine lv_lstore_n (lv' := [(3, .long v7), (0, .ref (o 2)), (1, .int a1), (2, .int v3)]) hx hb dX2_nearest_71 rfl hl (by decide) rfl (fun ls hl => ?_)
        refine lv_iload_n hx hb dX2_nearest_72 rfl (lv_at hl 2 rfl) ?_
        refine lv_i2l (v := a1.toInt64) hx hb dX2_nearest_73 rfl ?_
        refine lv_lload_n hx hb dX2_nearest_74 rfl (lv_at hl 0 rfl) ?_
        refine lv_lsub hx hb dX2_nearest_75 ?_
        refine lv_aload_n hx hb dX2_nearest_76 rfl (lv_at hl 1 rfl) ?_
        refine va_get (D := D) (ci := 2) (C := RX2) (T := TX2) (N := 3) hx hb hts hinRX2 hown hK hP 0 rfl rfl 1 (by decide) q1 (fun _ h9 => h9) rfl dX2_nearest_77 ?_
        refine lv_iload_n hx hb dX2_nearest_80 rfl (lv_at hl 3 rfl) ?_
        obtain ⟨g10, h⟩ := fG h
        refine va_lald hx hb hK hP 2 1 rfl rfl g10 dX2_nearest_81 ?_
        refine cT_l (As := [.long (be v3.toNatClampNeg)]) (rest := [.long (a1.toInt64 - v7)]) ⟨hx, hb, hml, hown, hts⟩ (c_X3_denominator l D y _ (be v3.toNatClampNeg)) (va_cwS 1 hts gX2_nearest_X3_denominator rfl rfl rfl hd_X3_denominator ⟨Nat.le_of_ble_eq_true rfl, Nat.le_of_ble_eq_true rfl⟩) hK hP hD hS hA rfl hl.1 rfl (Nat.le_of_ble_eq_true rfl) dX2_nearest_82 ⟨Nat.le_of_ble_eq_true rfl, Nat.le_of_ble_eq_true rfl⟩ (fun H locs hP hD hS => ?_)
        obtain ⟨g11, h⟩ := fG h
        refine lv_ldiv hx hb dX2_nearest_85 g11 ?_
        refine lv_lstore (lv' := [(5, .long ((a1.toInt64 - v7) / (F_X3_denominator (be v3.toNatClampNeg)))), (3, .long v7), (0, .ref (o 2)), (1, .int a1), (2, .int v3)]) hx hb dX2_nearest_86 hl (by decide) rfl (fun ls hl => ?_)
        refine lv_aload_n hx hb dX2_nearest_88 rfl (lv_at hl 2 rfl) ?_
        refine va_get (D := D) (ci := 2) (C := RX2) (T := TX2) (N := 3) hx hb hts hinRX2 hown hK hP 0 rfl rfl 1 (by decide) q1 (fun _ h9 => h9) rfl dX2_nearest_89 ?_
        refine lv_aload_n hx hb dX2_nearest_92 rfl (lv_at hl 2 rfl) ?_
        refine va_get (D := D) (ci := 2) (C := RX2) (T := TX2) (N := 3) hx hb hts hinRX2 hown hK hP 0 rfl rfl 2 (by decide) q0 (fun _ h9 => h9) rfl dX2_nearest_93 ?_
        refine lv_iconst (v := (1 : Int32)) hx hb dX2_nearest_96 (by decide) ?_
        refine lv_isub hx hb dX2_nearest_97 ?_
        obtain ⟨g12, h⟩ := fG h
        refine va_lald hx hb hK hP 2 1 rfl rfl g12 dX2_nearest_98 ?_
        refine lv_lstore (lv' := [(7, .long (be (cn - (1 : Int32)).toNatClampNeg)), (5, .long ((a1.toInt64 - v7) / (F_X3_denominator (be v3.toNatClampNeg)))), (3, .long v7), (0, .ref (o 2)), (1, .int a1), (2, .int v3)]) hx hb dX2_nearest_99 hl (by decide) rfl (fun ls hl => ?_)
        refine lv_lload hx hb dX2_nearest_101 (lv_at hl 0 rfl) ?_
        refine lv_aload_n hx hb dX2_nearest_103 rfl (lv_at hl 3 rfl) ?_
        refine va_get (D := D) (ci := 2) (C := RX2) (T := TX2) (N := 3) hx hb hts hinRX2 hown hK hP 0 rfl rfl 1 (by decide) q1 (fun _ h9 => h9) rfl dX2_nearest_104 ?_
        refine lv_iload_n hx hb dX2_nearest_107 rfl (lv_at hl 5 rfl) ?_
        refine va_lald hx hb hK hP 2 1 rfl rfl g10 dX2_nearest_108 ?_
        refine lv_aload_n hx hb dX2_nearest_109 rfl (lv_at hl 3 rfl) ?_
        refine lv_iload_n hx hb dX2_nearest_110 rfl (lv_at hl 5 rfl) ?_
        refine lv_iconst (v := (1 : Int32)) hx hb dX2_nearest_111 (by decide) ?_
        refine lv_iadd hx hb dX2_nearest_112 ?_
        refine lv_lload hx hb dX2_nearest_113 (lv_at hl 1 rfl) ?_
        obtain ⟨r13, g14, h⟩ := fB1 h
        refine cV_l (As := [.int (v3 + (1 : Int32)), .long ((a1.toInt64 - v7) / (F_X3_denominator (be v3.toNatClampNeg)))]) (rest := [.long (be v3.toNatClampNeg), .long (be (cn - (1 : Int32)).toNatClampNeg)]) (ws1 := (CF o y te be cn)) ⟨hx, hb, hml, hown, hts⟩ (c_X2_nextBeginning l D o y _ te be cn (v3 + (1 : Int32)) ((a1.toInt64 - v7) / (F_X3_denominator (be v3.toNatClampNeg))) r13 g14) (cwV 2 hts gX2_nearest_X2_nextBeginning rfl rfl rfl hd_X2_nextBeginning ⟨Nat.le_of_ble_eq_true rfl, Nat.le_of_ble_eq_true rfl⟩) hK hP hD hS hA [0, 1, 2] [] [0, 1, 2] rfl rfl rfl (by decide) rfl rfl rfl 0 (ci := 2) rfl rfl rfl hl.1 rfl (Nat.le_of_ble_eq_true rfl) dX2_nearest_115 ⟨Nat.le_of_ble_eq_true rfl, Nat.le_of_ble_eq_true rfl⟩ (fun H locs hP hD hS => ?_)
        refine cT_l (As := [.long (be (cn - (1 : Int32)).toNatClampNeg), .long (be v3.toNatClampNeg), .long r13]) (rest := []) ⟨hx, hb, hml, hown, hts⟩ (c_X3_nearer l D y _ (be (cn - (1 : Int32)).toNatClampNeg) (be v3.toNatClampNeg) r13) (va_cwS 3 hts gX2_nearest_X3_nearer rfl rfl rfl hd_X3_nearer ⟨Nat.le_of_ble_eq_true rfl, Nat.le_of_ble_eq_true rfl⟩) hK hP hD hS hA rfl hl.1 rfl (Nat.le_of_ble_eq_true rfl) dX2_nearest_118 ⟨Nat.le_of_ble_eq_true rfl, Nat.le_of_ble_eq_true rfl⟩ (fun H locs hP hD hS => ?_)
        cases h
        exact hE _ _ _ _ dX2_nearest_121 hP hD hS
      refine lv_if_ne (tgt := 60) hx hb dX2_nearest_53 (by decide) (fun c15 => ?_) (fun c15 => ?_)
      · replace g8 := fF c15 g8
        refine lv_aload_n hx hb dX2_nearest_60 rfl (lv_at hl 0 rfl) ?_
        refine va_get (D := D) (ci := 2) (C := RX2) (T := TX2) (N := 3) hx hb hts hinRX2 hown hK hP 0 rfl rfl 1 (by decide) q1 (fun _ h9 => h9) rfl dX2_nearest_61 ?_
        refine lv_iload_n hx hb dX2_nearest_64 rfl (lv_at hl 2 rfl) ?_
        refine lv_iconst (v := (1 : Int32)) hx hb dX2_nearest_65 (by decide) ?_
        refine lv_isub hx hb dX2_nearest_66 ?_
        obtain ⟨g16, g8⟩ := fG g8
        refine va_lald hx hb hK hP 2 1 rfl rfl g16 dX2_nearest_67 ?_
        refine cT_l (As := [.long (be (v3 - (1 : Int32)).toNatClampNeg)]) (rest := []) ⟨hx, hb, hml, hown, hts⟩ (c_X3_denominator l D y _ (be (v3 - (1 : Int32)).toNatClampNeg)) (va_cwS 1 hts gX2_nearest_X3_denominator rfl rfl rfl hd_X3_denominator ⟨Nat.le_of_ble_eq_true rfl, Nat.le_of_ble_eq_true rfl⟩) hK hP hD hS hA rfl hl.1 rfl (Nat.le_of_ble_eq_true rfl) dX2_nearest_68 ⟨Nat.le_of_ble_eq_true rfl, Nat.le_of_ble_eq_true rfl⟩ (fun H locs hP hD hS => ?_)
        cases g8
        exact J9 _ _ _ hP hD hS (lv_sub hl [0, 1, 2] rfl)
      · replace g8 := fT c15 g8
        refine lv_lconst (v := (0 : Int64)) hx hb dX2_nearest_56 rfl ?_
        refine lv_goto (tgt := 71) hx hb dX2_nearest_57 (by decide) ?_
        cases g8
        exact J9 _ _ _ hP hD hS (lv_sub hl [0, 1, 2] rfl)
    · replace h := fT c6 h
      refine lv_aload_n hx hb dX2_nearest_45 rfl (lv_at hl 0 rfl) ?_
      refine va_get (D := D) (ci := 2) (C := RX2) (T := TX2) (N := 3) hx hb hts hinRX2 hown hK hP 0 rfl rfl 1 (by decide) q1 (fun _ h9 => h9) rfl dX2_nearest_46 ?_
      refine lv_iload_n hx hb dX2_nearest_49 rfl (lv_at hl 2 rfl) ?_
      obtain ⟨g17, h⟩ := fG h
      refine va_lald hx hb hK hP 2 1 rfl rfl g17 dX2_nearest_50 ?_
      cases h
      exact hE _ _ _ _ dX2_nearest_51 hP hD hS
  have LP18 : ∀ (n : Nat) (x1 : Int32) (x2 : Int32) (H : Heap) (locs : List Loc) (ls : Array Slot), L_X2_nearest_4 n a1 x1 x2 be cn = some v3 → va_P D vwCl (CF o y te be cn) H → va_D A (CF o y te be cn) → va_S A s.heap H locs → lv_has ls 9 [(0, .ref (o 2)), (1, .int a1), (2, .int x1), (3, .int x2)] → W p l e rm_X2_nearest s m args below meth c H locs 0 0 Q (F0 m 4 ls []) := by
    intro n
    induction n with
    | zero => intro x1 x2 H locs ls h hP hD hS hl; exact fN h
    | succ n ih =>
      intro x1 x2 H locs ls h hP hD hS hl
      replace h := (L_X2_nearest_4_s n a1 x1 x2 be cn).symm.trans h
      refine lv_iload_n hx hb dX2_nearest_4 rfl (lv_at hl 3 rfl) ?_
      refine lv_aload_n hx hb dX2_nearest_5 rfl (lv_at hl 0 rfl) ?_
      refine va_get (D := D) (ci := 2) (C := RX2) (T := TX2) (N := 3) hx hb hts hinRX2 hown hK hP 0 rfl rfl 2 (by decide) q0 (fun _ h9 => h9) rfl dX2_nearest_6 ?_
      refine lv_icmp_ge (tgt := 35) hx hb dX2_nearest_9 (by decide) (fun c19 => ?_) (fun c19 => ?_)
      · replace h := fT c19 h
        cases h
        exact J5 _ _ _ hP hD hS (lv_sub hl [0, 1, 2] rfl)
      · replace h := fF c19 h
        refine lv_aload_n hx hb dX2_nearest_12 rfl (lv_at hl 0 rfl) ?_
        refine va_get (D := D) (ci := 2) (C := RX2) (T := TX2) (N := 3) hx hb hts hinRX2 hown hK hP 0 rfl rfl 1 (by decide) q1 (fun _ h9 => h9) rfl dX2_nearest_13 ?_
        refine lv_iload_n hx hb dX2_nearest_16 rfl (lv_at hl 3 rfl) ?_
        obtain ⟨g20, h⟩ := fG h
        refine va_lald hx hb hK hP 2 1 rfl rfl g20 dX2_nearest_17 ?_
        refine cT_l (As := [.long (be x2.toNatClampNeg)]) (rest := []) ⟨hx, hb, hml, hown, hts⟩ (c_X3_denominator l D y _ (be x2.toNatClampNeg)) (va_cwS 1 hts gX2_nearest_X3_denominator rfl rfl rfl hd_X3_denominator ⟨Nat.le_of_ble_eq_true rfl, Nat.le_of_ble_eq_true rfl⟩) hK hP hD hS hA rfl hl.1 rfl (Nat.le_of_ble_eq_true rfl) dX2_nearest_18 ⟨Nat.le_of_ble_eq_true rfl, Nat.le_of_ble_eq_true rfl⟩ (fun H locs hP hD hS => ?_)
        refine lv_iload_n hx hb dX2_nearest_21 rfl (lv_at hl 1 rfl) ?_
        refine lv_i2l (v := a1.toInt64) hx hb dX2_nearest_22 rfl ?_
        have J21 : ∀ (v22 : Int32) (ls : Array Slot), v22 = (if a1.toInt64 < (F_X3_denominator (be x2.toNatClampNeg)) then x1 else x2) → lv_has ls 9 [(0, .ref (o 2)), (1, .int a1), (2, .int v22), (3, .int x2)] → W p l e rm_X2_nearest s m args below meth c H locs 0 0 Q (F0 m 29 ls []) := by
          intro v22 ls ev22 hl
          subst ev22
          refine lv_iinc (v := x2 + (1 : Int32)) (lv' := [(3, .int (x2 + (1 : Int32))), (0, .ref (o 2)), (1, .int a1), (2, .int (if a1.toInt64 < (F_X3_denominator (be x2.toNatClampNeg)) then x1 else x2))]) hx hb dX2_nearest_29 hl (k := 3) rfl rfl (by decide) rfl (fun ls hl => ?_)
          refine lv_goto (tgt := 4) hx hb dX2_nearest_32 (by decide) ?_
          exact ih (if a1.toInt64 < (F_X3_denominator (be x2.toNatClampNeg)) then x1 else x2) (x2 + (1 : Int32)) _ _ _ h hP hD hS (lv_sub hl [1, 2, 3, 0] rfl)
        refine lx_gt (tgt := 29) hx hb dX2_nearest_23 dX2_nearest_24 (by decide) (fun c23 => ?_) (fun c23 => ?_)
        · exact J21 _ _ (by rw [if_pos c23]) (lv_sub hl [0, 1, 2, 3] rfl)
        · refine lv_iload_n hx hb dX2_nearest_27 rfl (lv_at hl 3 rfl) ?_
          refine lv_istore_n (lv' := [(2, .int x2), (0, .ref (o 2)), (1, .int a1), (3, .int x2)]) hx hb dX2_nearest_28 rfl hl (by decide) rfl (fun ls hl => ?_)
          exact J21 _ _ (by rw [if_neg c23]) (lv_sub hl [1, 2, 0, 3] rfl)
  exact LP18 FU (0 : Int32) (1 : Int32) _ _ _ g4 hP hD hS (lv_sub hl [2, 3, 1, 0] rfl)
abbrev rm_X3_commonDivisor : Room := { frames := 1, cells := 0, slots := 0, locals := 15 }
theorem hd_X3_commonDivisor : yX3_commonDivisor.cls ≠ "java/lang/invoke/MethodHandle" ∧ yX3_commonDivisor.cls ≠ "java/lang/invoke/VarHandle" ∧ (parseMethodDescriptor yX3_commonDivisor.desc).map (fun d => d.parameters.length) = some 2 := by decide +kernel
set_option maxHeartbeats 0 in
set_option maxRecDepth 100000 in
theorem c_X3_commonDivisor (l : Launch) (D : va_G) (y : Nat → ClassId) (sz : Nat) (a1 : Int64) (a2 : Int64) (r : Int64) (h : F_X3_commonDivisor a1 a2 = some r) : Met l yX3_commonDivisor wsX3_commonDivisor rm_X3_commonDivisor (va_Pc [.long a1, .long a2] (px D y sz [])) (Qrl D y sz [] [] r) 0 0 (va_A [] sz) := by
  refine hd_l (cc := cX3_commonDivisor) (maxL := 11) rfl rfl (Nat.le_of_ble_eq_true rfl) ?_
  intro p e s m args below meth c A Q H locs ls hx hb hml hts hown _ hA hP hD hK hS hl hE
  have hl : lv_has ls 11 [(0, .long a1), (2, .long a2)] := hl
  have q0 := hts (.methodLink RX3 13 Lib.MathLoose.max_long.x) (by decide +kernel)
  have q1 := hts (.static Lib.MathLoose.max_long.x) (by decide +kernel)
  have q2 := hts (.initialized "java/lang/Math") (by decide +kernel)
  have q3 := hts (.code Lib.MathLoose.max_long.x Lib.MathLoose.max_long.code 4 (some .long)) (by decide +kernel)
  unfold F_X3_commonDivisor at h
  refine lv_lload_n hx hb dX3_commonDivisor_0 rfl (lv_at hl 0 rfl) ?_
  refine lv_lstore (lv' := [(4, .long a1), (0, .long a1), (2, .long a2)]) hx hb dX3_commonDivisor_1 hl (by decide) rfl (fun ls hl => ?_)
  refine lv_lload_n hx hb dX3_commonDivisor_3 rfl (lv_at hl 2 rfl) ?_
  refine lv_lstore (lv' := [(6, .long a2), (4, .long a1), (0, .long a1), (2, .long a2)]) hx hb dX3_commonDivisor_4 hl (by decide) rfl (fun ls hl => ?_)
  refine lv_iconst (v := (0 : Int32)) hx hb dX3_commonDivisor_6 (by decide) ?_
  refine lv_istore (lv' := [(8, .int (0 : Int32)), (6, .long a2), (4, .long a1), (0, .long a1), (2, .long a2)]) hx hb dX3_commonDivisor_7 hl (by decide) rfl (fun ls hl => ?_)
  obtain ⟨v4, g5, h⟩ := fB1 h
  have J6 : ∀ (H : Heap) (locs : List Loc) (ls : Array Slot), va_P D vwCl [] H → va_D A [] → va_S A s.heap H locs → lv_has ls 11 [(4, .long v4)] → W p l e rm_X3_commonDivisor s m args below meth c H locs 0 0 Q (F0 m 45 ls []) := by
    intro H locs ls hP hD hS hl
    refine lv_lconst (v := (1 : Int64)) hx hb dX3_commonDivisor_45 rfl ?_
    refine lv_lload hx hb dX3_commonDivisor_46 (lv_at hl 0 rfl) ?_
    refine va_mmax_long hx hb (hml.trans hl.1.symm) hown q0 q1 q2 q3 (Nat.le_of_ble_eq_true rfl) (Nat.le_of_ble_eq_true rfl) (Nat.zero_le _) (Nat.zero_le _) dX3_commonDivisor_48 ?_
    cases h
    exact hE _ _ _ _ dX3_commonDivisor_51 hP hD hS
  have LP7 : ∀ (n : Nat) (x1 : Int64) (x2 : Int64) (x3 : Int32) (H : Heap) (locs : List Loc) (ls : Array Slot), L_X3_commonDivisor_9 n x1 x2 x3 = some v4 → va_P D vwCl [] H → va_D A [] → va_S A s.heap H locs → lv_has ls 11 [(4, .long x1), (6, .long x2), (8, .int x3)] → W p l e rm_X3_commonDivisor s m args below meth c H locs 0 0 Q (F0 m 9 ls []) := by
    intro n
    induction n with
    | zero => intro x1 x2 x3 H locs ls h hP hD hS hl; exact fN h
    | succ n ih =>
      intro x1 x2 x3 H locs ls h hP hD hS hl
      replace h := (L_X3_commonDivisor_9_s n x1 x2 x3).symm.trans h
      refine lv_iload hx hb dX3_commonDivisor_9 (lv_at hl 2 rfl) ?_
      refine lv_sipush (v := (1000 : Int32)) hx hb dX3_commonDivisor_11 (by decide) ?_
      refine lv_icmp_ge (tgt := 45) hx hb dX3_commonDivisor_14 (by decide) (fun c8 => ?_) (fun c8 => ?_)
      · replace h := fT c8 h
        cases h
        exact J6 _ _ _ hP hD hS (lv_sub hl [0] rfl)
      · replace h := fF c8 h
        refine lv_lload hx hb dX3_commonDivisor_17 (lv_at hl 1 rfl) ?_
        refine lv_lconst (v := (0 : Int64)) hx hb dX3_commonDivisor_19 rfl ?_
        refine lx_eq (tgt := 45) hx hb dX3_commonDivisor_20 dX3_commonDivisor_21 (by decide) (fun c9 => ?_) (fun c9 => ?_)
        · replace h := fT c9 h
          cases h
          exact J6 _ _ _ hP hD hS (lv_sub hl [0] rfl)
        · replace h := fF c9 h
          refine lv_lload hx hb dX3_commonDivisor_24 (lv_at hl 0 rfl) ?_
          refine lv_lload hx hb dX3_commonDivisor_26 (lv_at hl 1 rfl) ?_
          obtain ⟨g10, h⟩ := fG h
          refine lv_lrem hx hb dX3_commonDivisor_28 g10 ?_
          refine lv_lstore (lv' := [(9, .long (x1 - x1 / x2 * x2)), (4, .long x1), (6, .long x2), (8, .int x3)]) hx hb dX3_commonDivisor_29 hl (by decide) rfl (fun ls hl => ?_)
          refine lv_lload hx hb dX3_commonDivisor_31 (lv_at hl 2 rfl) ?_
          refine lv_lstore (lv' := [(4, .long x2), (9, .long (x1 - x1 / x2 * x2)), (6, .long x2), (8, .int x3)]) hx hb dX3_commonDivisor_33 hl (by decide) rfl (fun ls hl => ?_)
          refine lv_lload hx hb dX3_commonDivisor_35 (lv_at hl 1 rfl) ?_
          refine lv_lstore (lv' := [(6, .long (x1 - x1 / x2 * x2)), (4, .long x2), (9, .long (x1 - x1 / x2 * x2)), (8, .int x3)]) hx hb dX3_commonDivisor_37 hl (by decide) rfl (fun ls hl => ?_)
          refine lv_iinc (v := x3 + (1 : Int32)) (lv' := [(8, .int (x3 + (1 : Int32))), (6, .long (x1 - x1 / x2 * x2)), (4, .long x2), (9, .long (x1 - x1 / x2 * x2))]) hx hb dX3_commonDivisor_39 hl (k := 3) rfl rfl (by decide) rfl (fun ls hl => ?_)
          refine lv_goto (tgt := 9) hx hb dX3_commonDivisor_42 (by decide) ?_
          exact ih x2 (x1 - x1 / x2 * x2) (x3 + (1 : Int32)) _ _ _ h hP hD hS (lv_sub hl [2, 1, 0] rfl)
  exact LP7 FU a1 a2 (0 : Int32) _ _ _ g5 hP hD hS (lv_sub hl [2, 1, 0] rfl)
