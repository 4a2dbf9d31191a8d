abbrev rm_X7_compare : Room := { frames := 3, cells := 0, slots := 0, locals := 63 }
theorem hd_X7_compare : yX7_compare.cls = RX7 ∧ yX7_compare.cls ≠ "java/lang/invoke/MethodHandle" ∧ yX7_compare.cls ≠ "java/lang/invoke/VarHandle" ∧ (parseMethodDescriptor yX7_compare.desc).map (fun d => d.parameters.length) = some 2 := by decide +kernel
set_option maxHeartbeats 0 in
set_option maxRecDepth 100000 in
theorem c_X7_compare (l : Launch) (D : va_G) (w : Nat → Nat) (y : Nat → ClassId) (sz : Nat) (th : Int32) (ms : Nat → Int32) (mst : Nat → Int32) (smn : Int32) (msl : Nat → Int32) (mhs : Nat → Int32) (mtx : Nat → Int32) (mle : Int32) (mat : Int32) (mwl : Int32) (mrd : Nat → Int32) (mrm : Int32) (mtp : Int64) (mbt : Int64) (mtm : Nat → Int32) (mtn : Int32) (mnt : Int32) (mnb : Int32) (mun : Nat → Int32) (mum : Int32) (mau : Int32) (a1 : Int32) (a2 : Int32) (r : Int32) (th' : Int32) (h : F_X7_compare th ms a1 a2 = some (r, th')) : Met l yX7_compare wsX7_compare rm_X7_compare (va_Pc [.ref (w 0), .int a1, .int a2] (px D y sz (MW w y th ms mst smn msl mhs mtx mle mat mwl mrd mrm mtp mbt mtm mtn mnt mnb mun mum mau))) (Qri D y sz (MW w y th ms mst smn msl mhs mtx mle mat mwl mrd mrm mtp mbt mtm mtn mnt mnb mun mum mau) (MW w y th' ms mst smn msl mhs mtx mle mat mwl mrd mrm mtp mbt mtm mtn mnt mnb mun mum mau) r) 0 0 (va_A (MW w y th ms mst smn msl mhs mtx mle mat mwl mrd mrm mtp mbt mtm mtn mnt mnb mun mum mau) sz) := by
  refine hd_i (cc := cX7_compare) (maxL := 3) rfl rfl (Nat.le_of_ble_eq_true rfl) ?_
  intro p e s m args below meth c A Q H locs ls hx hb hml hts hown _ hA hP hD hK hS hl hE
  have hl : lv_has ls 3 [(0, .ref (w 0)), (1, .int a1), (2, .int a2)] := hl
  have q0 := hts (.fieldLink RX7 35 "SliceSharesModel" "thrown" "I") (by decide +kernel)
  have hinRX7 : ∀ w ∈ wsX70, w ∈ wsX7_compare := by decide +kernel
  unfold F_X7_compare at h
  refine lv_aload_n hx hb dX7_compare_0 rfl (lv_at hl 0 rfl) ?_
  refine lv_iconst (v := (0 : Int32)) hx hb dX7_compare_1 (by decide) ?_
  refine va_put (D := D) (ci := 5) (v := .int (0 : Int32)) (ty := .int) (C := RX7) (T := TX7) (N := 21) hx hb hts hinRX7 tyX7 tyX7_ok nmX7 hown hK hP hD hS 0 rfl rfl 0 (by decide) q0 (fun _ h9 => h9) rfl (by decide +kernel) rfl rfl (Nat.le_of_ble_eq_true rfl) dX7_compare_2 (fun H locs hP hD hS => ?_)
  have hP : va_P D vwCl (MW w y (0 : Int32) ms mst smn msl mhs mtx mle mat mwl mrd mrm mtp mbt mtm mtn mnt mnb mun mum mau) H := hP
  have hD : va_D A (MW w y (0 : Int32) ms mst smn msl mhs mtx mle mat mwl mrd mrm mtp mbt mtm mtn mnt mnb mun mum mau) := hD
  refine lv_iload_n hx hb dX7_compare_5 rfl (lv_at hl 1 rfl) ?_
  refine lv_iload_n hx hb dX7_compare_6 rfl (lv_at hl 2 rfl) ?_
  refine cT_i (As := [.int a1, .int a2]) (rest := []) ⟨hx, hb, hml, hown, hts⟩ (c_X7_arePlates l D y _ a1 a2) (va_cwS 2 hts gX7_compare_X7_arePlates rfl rfl rfl hd_X7_arePlates ⟨Nat.le_of_ble_eq_true rfl, Nat.le_of_ble_eq_true rfl⟩) hK hP hD hS hA rfl hl.1 rfl (Nat.le_of_ble_eq_true rfl) dX7_compare_7 ⟨Nat.le_of_ble_eq_true rfl, Nat.le_of_ble_eq_true rfl⟩ (fun H locs hP hD hS => ?_)
  refine lv_if_eq (tgt := 22) hx hb dX7_compare_10 (by decide) (fun c1 => ?_) (fun c1 => ?_)
  · replace h := fT c1 h
    refine lv_aload_n hx hb dX7_compare_22 rfl (lv_at hl 0 rfl) ?_
    refine lv_iconst (v := (1 : Int32)) hx hb dX7_compare_23 (by decide) ?_
    obtain ⟨r2, th3, g4, h⟩ := fB2 h
    refine cV_i (As := [.int (1 : Int32)]) (rest := []) (ws1 := (MW w y th3 ms mst smn msl mhs mtx mle mat mwl mrd mrm mtp mbt mtm mtn mnt mnb mun mum mau)) ⟨hx, hb, hml, hown, hts⟩ (c_X7_fails l D w y _ (0 : Int32) ms mst smn msl mhs mtx mle mat mwl mrd mrm mtp mbt mtm mtn mnt mnb mun mum mau (1 : Int32) r2 th3 g4) (cwV 1 hts gX7_compare_X7_fails rfl rfl rfl hd_X7_fails ⟨Nat.le_of_ble_eq_true rfl, Nat.le_of_ble_eq_true rfl⟩) hK hP hD hS hA [0, 1, 2, 3, 4, 5, 6, 7, 8] [] [0, 1, 2, 3, 4, 5, 6, 7, 8] rfl rfl rfl (by decide) rfl rfl rfl 0 (ci := 5) rfl rfl rfl hl.1 rfl (Nat.le_of_ble_eq_true rfl) dX7_compare_24 ⟨Nat.le_of_ble_eq_true rfl, Nat.le_of_ble_eq_true rfl⟩ (fun H locs hP hD hS => ?_)
    cases h
    exact hE _ _ _ _ dX7_compare_27 hP hD hS
  · replace h := fF c1 h
    refine lv_aload_n hx hb dX7_compare_13 rfl (lv_at hl 0 rfl) ?_
    refine lv_iload_n hx hb dX7_compare_14 rfl (lv_at hl 1 rfl) ?_
    refine lv_iload_n hx hb dX7_compare_15 rfl (lv_at hl 2 rfl) ?_
    obtain ⟨r5, g6, h⟩ := fB1 h
    refine cV_i (As := [.int a1, .int a2]) (rest := []) (ws1 := (MW w y (0 : Int32) ms mst smn msl mhs mtx mle mat mwl mrd mrm mtp mbt mtm mtn mnt mnb mun mum mau)) ⟨hx, hb, hml, hown, hts⟩ (c_X7_holds l D w y _ (0 : Int32) ms mst smn msl mhs mtx mle mat mwl mrd mrm mtp mbt mtm mtn mnt mnb mun mum mau a1 a2 r5 g6) (cwV 2 hts gX7_compare_X7_holds rfl rfl rfl hd_X7_holds ⟨Nat.le_of_ble_eq_true rfl, Nat.le_of_ble_eq_true rfl⟩) hK hP hD hS hA [0, 1, 2, 3, 4, 5, 6, 7, 8] [] [0, 1, 2, 3, 4, 5, 6, 7, 8] rfl rfl rfl (by decide) rfl rfl rfl 0 (ci := 5) rfl rfl rfl hl.1 rfl (Nat.le_of_ble_eq_true rfl) dX7_compare_16 ⟨Nat.le_of_ble_eq_true rfl, Nat.le_of_ble_eq_true rfl⟩ (fun H locs hP hD hS => ?_)
    refine lv_goto (tgt := 27) hx hb dX7_compare_19 (by decide) ?_
    cases h
    exact hE _ _ _ _ dX7_compare_27 hP hD hS
abbrev rm_X7_ranked : Room := { frames := 2, cells := 0, slots := 0, locals := 45 }
theorem hd_X7_ranked : yX7_ranked.cls = RX7 ∧ yX7_ranked.cls ≠ "java/lang/invoke/MethodHandle" ∧ yX7_ranked.cls ≠ "java/lang/invoke/VarHandle" ∧ (parseMethodDescriptor yX7_ranked.desc).map (fun d => d.parameters.length) = some 1 := by decide +kernel
set_option maxHeartbeats 0 in
set_option maxRecDepth 100000 in
theorem c_X7_ranked (l : Launch) (D : va_G) (w : Nat → Nat) (y : Nat → ClassId) (sz : Nat) (th : Int32) (ms : Nat → Int32) (mst : Nat → Int32) (smn : Int32) (msl : Nat → Int32) (mhs : Nat → Int32) (mtx : Nat → Int32) (mle : Int32) (mat : Int32) (mwl : Int32) (mrd : Nat → Int32) (mrm : Int32) (mtp : Int64) (mbt : Int64) (mtm : Nat → Int32) (mtn : Int32) (mnt : Int32) (mnb : Int32) (mun : Nat → Int32) (mum : Int32) (mau : Int32) (a1 : Int32) (r : Int32) (h : F_X7_ranked ms a1 = some r) : Met l yX7_ranked wsX7_ranked rm_X7_ranked (va_Pc [.ref (w 0), .int a1] (px D y sz (MW w y th ms mst smn msl mhs mtx mle mat mwl mrd mrm mtp mbt mtm mtn mnt mnb mun mum mau))) (Qri D y sz (MW w y th ms mst smn msl mhs mtx mle mat mwl mrd mrm mtp mbt mtm mtn mnt mnb mun mum mau) (MW w y th ms mst smn msl mhs mtx mle mat mwl mrd mrm mtp mbt mtm mtn mnt mnb mun mum mau) r) 0 0 (va_A (MW w y th ms mst smn msl mhs mtx mle mat mwl mrd mrm mtp mbt mtm mtn mnt mnb mun mum mau) sz) := by
  refine hd_i (cc := cX7_ranked) (maxL := 6) rfl rfl (Nat.le_of_ble_eq_true rfl) ?_
  intro p e s m args below meth c A Q H locs ls hx hb hml hts hown _ hA hP hD hK hS hl hE
  have hl : lv_has ls 6 [(0, .ref (w 0)), (1, .int a1)] := hl
  unfold F_X7_ranked at h
  refine lv_iconst (v := (-1 : Int32)) hx hb dX7_ranked_0 (by decide) ?_
  refine lv_istore_n (lv' := [(2, .int (-1 : Int32)), (0, .ref (w 0)), (1, .int a1)]) hx hb dX7_ranked_1 rfl hl (by decide) rfl (fun ls hl => ?_)
  refine lv_iconst (v := (0 : Int32)) hx hb dX7_ranked_2 (by decide) ?_
  refine lv_istore_n (lv' := [(3, .int (0 : Int32)), (2, .int (-1 : Int32)), (0, .ref (w 0)), (1, .int a1)]) hx hb dX7_ranked_3 rfl hl (by decide) rfl (fun ls hl => ?_)
  obtain ⟨v3, g4, h⟩ := fB1 h
  have J5 : ∀ (H : Heap) (locs : List Loc) (ls : Array Slot), va_P D vwCl (MW w y th ms mst smn msl mhs mtx mle mat mwl mrd mrm mtp mbt mtm mtn mnt mnb mun mum mau) H → va_D A (MW w y th ms mst smn msl mhs mtx mle mat mwl mrd mrm mtp mbt mtm mtn mnt mnb mun mum mau) → va_S A s.heap H locs → lv_has ls 6 [(2, .int v3)] → W p l e rm_X7_ranked s m args below meth c H locs 0 0 Q (F0 m 83 ls []) := by
    intro H locs ls hP hD hS hl
    refine lv_iload_n hx hb dX7_ranked_83 rfl (lv_at hl 0 rfl) ?_
    cases h
    exact hE _ _ _ _ dX7_ranked_84 hP hD hS
  have LP6 : ∀ (n : Nat) (x1 : Int32) (x2 : Int32) (H : Heap) (locs : List Loc) (ls : Array Slot), L_X7_ranked_4 n a1 x1 x2 ms = some v3 → va_P D vwCl (MW w y th ms mst smn msl mhs mtx mle mat mwl mrd mrm mtp mbt mtm mtn mnt mnb mun mum mau) H → va_D A (MW w y th ms mst smn msl mhs mtx mle mat mwl mrd mrm mtp mbt mtm mtn mnt mnb mun mum mau) → va_S A s.heap H locs → lv_has ls 6 [(0, .ref (w 0)), (1, .int a1), (2, .int x1), (3, .int x2)] → W p l e rm_X7_ranked s m args below meth c H locs 0 0 Q (F0 m 4 ls []) := by
    intro n
    induction n with
    | zero => intro x1 x2 H locs ls h hP hD hS hl; exact fN h
    | succ n ih =>
      intro x1 x2 H locs ls h hP hD hS hl
      replace h := (L_X7_ranked_4_s n a1 x1 x2 ms).symm.trans h
      refine lv_iload_n hx hb dX7_ranked_4 rfl (lv_at hl 3 rfl) ?_
      refine lv_bipush (v := (6 : Int32)) hx hb dX7_ranked_5 (by decide) ?_
      refine lv_icmp_ge (tgt := 83) hx hb dX7_ranked_7 (by decide) (fun c7 => ?_) (fun c7 => ?_)
      · replace h := fT c7 h
        cases h
        exact J5 _ _ _ hP hD hS (lv_sub hl [2] rfl)
      · replace h := fF c7 h
        refine lv_iconst (v := (0 : Int32)) hx hb dX7_ranked_10 (by decide) ?_
        refine lv_istore (lv' := [(4, .int (0 : Int32)), (0, .ref (w 0)), (1, .int a1), (2, .int x1), (3, .int x2)]) hx hb dX7_ranked_11 hl (by decide) rfl (fun ls hl => ?_)
        refine lv_iconst (v := (0 : Int32)) hx hb dX7_ranked_13 (by decide) ?_
        refine lv_istore (lv' := [(5, .int (0 : Int32)), (4, .int (0 : Int32)), (0, .ref (w 0)), (1, .int a1), (2, .int x1), (3, .int x2)]) hx hb dX7_ranked_14 hl (by decide) rfl (fun ls hl => ?_)
        obtain ⟨v10, g11, h⟩ := fB1 h
        have J12 : ∀ (H : Heap) (locs : List Loc) (ls : Array Slot), va_P D vwCl (MW w y th ms mst smn msl mhs mtx mle mat mwl mrd mrm mtp mbt mtm mtn mnt mnb mun mum mau) H → va_D A (MW w y th ms mst smn msl mhs mtx mle mat mwl mrd mrm mtp mbt mtm mtn mnt mnb mun mum mau) → va_S A s.heap H locs → lv_has ls 6 [(0, .ref (w 0)), (1, .int a1), (2, .int x1), (3, .int x2), (4, .int v10)] → W p l e rm_X7_ranked s m args below meth c H locs 0 0 Q (F0 m 65 ls []) := by
          intro H locs ls hP hD hS hl
          refine lv_iload hx hb dX7_ranked_65 (lv_at hl 4 rfl) ?_
          refine lv_iload_n hx hb dX7_ranked_67 rfl (lv_at hl 1 rfl) ?_
          have J13 : ∀ (v14 : Int32) (ls : Array Slot), v14 = (if v10 = a1 then x2 else x1) → lv_has ls 6 [(0, .ref (w 0)), (1, .int a1), (2, .int x1), (3, .int x2), (4, .int v10)] → W p l e rm_X7_ranked s m args below meth c H locs 0 0 Q (F0 m 76 ls [.int v14]) := by
            intro v14 ls ev14 hl
            subst ev14
            refine lv_istore_n (lv' := [(2, .int (if v10 = a1 then x2 else x1)), (0, .ref (w 0)), (1, .int a1), (3, .int x2), (4, .int v10)]) hx hb dX7_ranked_76 rfl hl (by decide) rfl (fun ls hl => ?_)
            refine lv_iinc (v := x2 + (1 : Int32)) (lv' := [(3, .int (x2 + (1 : Int32))), (2, .int (if v10 = a1 then x2 else x1)), (0, .ref (w 0)), (1, .int a1), (4, .int v10)]) hx hb dX7_ranked_77 hl (k := 3) rfl rfl (by decide) rfl (fun ls hl => ?_)
            refine lv_goto (tgt := 4) hx hb dX7_ranked_80 (by decide) ?_
            exact ih (if v10 = a1 then x2 else x1) (x2 + (1 : Int32)) _ _ _ h hP hD hS (lv_sub hl [2, 3, 1, 0] rfl)
          refine lv_icmp_ne (tgt := 75) hx hb dX7_ranked_68 (by decide) (fun c15 => ?_) (fun c15 => ?_)
          · refine lv_iload_n hx hb dX7_ranked_75 rfl (lv_at hl 2 rfl) ?_
            exact J13 _ _ (by rw [if_neg c15]) (lv_sub hl [0, 1, 2, 3, 4] rfl)
          · refine lv_iload_n hx hb dX7_ranked_71 rfl (lv_at hl 3 rfl) ?_
            refine lv_goto (tgt := 76) hx hb dX7_ranked_72 (by decide) ?_
            exact J13 _ _ (by rw [if_pos c15]) (lv_sub hl [0, 1, 2, 3, 4] rfl)
        have LP16 : ∀ (n : Nat) (x8 : Int32) (x9 : Int32) (H : Heap) (locs : List Loc) (ls : Array Slot), L_X7_ranked_16 n a1 x1 x2 x8 x9 ms = some v10 → va_P D vwCl (MW w y th ms mst smn msl mhs mtx mle mat mwl mrd mrm mtp mbt mtm mtn mnt mnb mun mum mau) H → va_D A (MW w y th ms mst smn msl mhs mtx mle mat mwl mrd mrm mtp mbt mtm mtn mnt mnb mun mum mau) → va_S A s.heap H locs → lv_has ls 6 [(0, .ref (w 0)), (1, .int a1), (2, .int x1), (3, .int x2), (4, .int x8), (5, .int x9)] → W p l e rm_X7_ranked s m args below meth c H locs 0 0 Q (F0 m 16 ls []) := by
          intro n
          induction n with
          | zero => intro x8 x9 H locs ls h hP hD hS hl; exact fN h
          | succ n ih =>
            intro x8 x9 H locs ls h hP hD hS hl
            replace h := (L_X7_ranked_16_s n a1 x1 x2 x8 x9 ms).symm.trans h
            refine lv_iload hx hb dX7_ranked_16 (lv_at hl 5 rfl) ?_
            refine lv_bipush (v := (6 : Int32)) hx hb dX7_ranked_18 (by decide) ?_
            refine lv_icmp_ge (tgt := 65) hx hb dX7_ranked_20 (by decide) (fun c17 => ?_) (fun c17 => ?_)
            · replace h := fT c17 h
              cases h
              exact J12 _ _ _ hP hD hS (lv_sub hl [0, 1, 2, 3, 4] rfl)
            · replace h := fF c17 h
              refine lv_iload hx hb dX7_ranked_23 (lv_at hl 4 rfl) ?_
              refine lv_aload_n hx hb dX7_ranked_25 rfl (lv_at hl 0 rfl) ?_
              refine lv_iload hx hb dX7_ranked_26 (lv_at hl 5 rfl) ?_
              refine lv_iload_n hx hb dX7_ranked_28 rfl (lv_at hl 3 rfl) ?_
              obtain ⟨r18, g19, h⟩ := fB1 h
              refine cV_i (As := [.int x9, .int x2]) (rest := [.int x8]) (ws1 := (MW w y th ms mst smn msl mhs mtx mle mat mwl mrd mrm mtp mbt mtm mtn mnt mnb mun mum mau)) ⟨hx, hb, hml, hown, hts⟩ (c_X7_holds l D w y _ th ms mst smn msl mhs mtx mle mat mwl mrd mrm mtp mbt mtm mtn mnt mnb mun mum mau x9 x2 r18 g19) (cwV 2 hts gX7_ranked_X7_holds rfl rfl rfl hd_X7_holds ⟨Nat.le_of_ble_eq_true rfl, Nat.le_of_ble_eq_true rfl⟩) hK hP hD hS hA [0, 1, 2, 3, 4, 5, 6, 7, 8] [] [0, 1, 2, 3, 4, 5, 6, 7, 8] rfl rfl rfl (by decide) rfl rfl rfl 0 (ci := 5) rfl rfl rfl hl.1 rfl (Nat.le_of_ble_eq_true rfl) dX7_ranked_29 ⟨Nat.le_of_ble_eq_true rfl, Nat.le_of_ble_eq_true rfl⟩ (fun H locs hP hD hS => ?_)
              obtain ⟨v20, g21, h⟩ := fB1 h
              have J22 : ∀ (H : Heap) (locs : List Loc) (ls : Array Slot), va_P D vwCl (MW w y th ms mst smn msl mhs mtx mle mat mwl mrd mrm mtp mbt mtm mtn mnt mnb mun mum mau) H → va_D A (MW w y th ms mst smn msl mhs mtx mle mat mwl mrd mrm mtp mbt mtm mtn mnt mnb mun mum mau) → va_S A s.heap H locs → lv_has ls 6 [(0, .ref (w 0)), (1, .int a1), (2, .int x1), (3, .int x2), (4, .int x8), (5, .int x9)] → W p l e rm_X7_ranked s m args below meth c H locs 0 0 Q (F0 m 56 ls [.int v20, .int x8]) := by
                intro H locs ls hP hD hS hl
                refine lv_iadd hx hb dX7_ranked_56 ?_
                refine lv_istore (lv' := [(4, .int (x8 + v20)), (0, .ref (w 0)), (1, .int a1), (2, .int x1), (3, .int x2), (5, .int x9)]) hx hb dX7_ranked_57 hl (by decide) rfl (fun ls hl => ?_)
                refine lv_iinc (v := x9 + (1 : Int32)) (lv' := [(5, .int (x9 + (1 : Int32))), (4, .int (x8 + v20)), (0, .ref (w 0)), (1, .int a1), (2, .int x1), (3, .int x2)]) hx hb dX7_ranked_59 hl (k := 5) rfl rfl (by decide) rfl (fun ls hl => ?_)
                refine lv_goto (tgt := 16) hx hb dX7_ranked_62 (by decide) ?_
                exact ih (x8 + v20) (x9 + (1 : Int32)) _ _ _ h hP hD hS (lv_sub hl [2, 3, 4, 5, 1, 0] rfl)
              refine lv_if_gt (tgt := 51) hx hb dX7_ranked_32 (by decide) (fun c23 => ?_) (fun c23 => ?_)
              · replace g21 := fT c23 g21
                refine lv_iconst (v := (1 : Int32)) hx hb dX7_ranked_51 (by decide) ?_
                refine lv_goto (tgt := 56) hx hb dX7_ranked_52 (by decide) ?_
                cases g21
                exact J22 _ _ _ hP hD hS (lv_sub hl [0, 1, 2, 3, 4, 5] rfl)
              · replace g21 := fF c23 g21
                refine lv_aload_n hx hb dX7_ranked_35 rfl (lv_at hl 0 rfl) ?_
                refine lv_iload hx hb dX7_ranked_36 (lv_at hl 5 rfl) ?_
                refine lv_iload_n hx hb dX7_ranked_38 rfl (lv_at hl 3 rfl) ?_
                obtain ⟨r24, g25, g21⟩ := fB1 g21
                refine cV_i (As := [.int x9, .int x2]) (rest := [.int x8]) (ws1 := (MW w y th ms mst smn msl mhs mtx mle mat mwl mrd mrm mtp mbt mtm mtn mnt mnb mun mum mau)) ⟨hx, hb, hml, hown, hts⟩ (c_X7_holds l D w y _ th ms mst smn msl mhs mtx mle mat mwl mrd mrm mtp mbt mtm mtn mnt mnb mun mum mau x9 x2 r24 g25) (cwV 2 hts gX7_ranked_X7_holds rfl rfl rfl hd_X7_holds ⟨Nat.le_of_ble_eq_true rfl, Nat.le_of_ble_eq_true rfl⟩) hK hP hD hS hA [0, 1, 2, 3, 4, 5, 6, 7, 8] [] [0, 1, 2, 3, 4, 5, 6, 7, 8] rfl rfl rfl (by decide) rfl rfl rfl 0 (ci := 5) rfl rfl rfl hl.1 rfl (Nat.le_of_ble_eq_true rfl) dX7_ranked_39 ⟨Nat.le_of_ble_eq_true rfl, Nat.le_of_ble_eq_true rfl⟩ (fun H locs hP hD hS => ?_)
                refine lv_if_ne (tgt := 55) hx hb dX7_ranked_42 (by decide) (fun c26 => ?_) (fun c26 => ?_)
                · replace g21 := fF c26 g21
                  refine lv_iconst (v := (0 : Int32)) hx hb dX7_ranked_55 (by decide) ?_
                  cases g21
                  exact J22 _ _ _ hP hD hS (lv_sub hl [0, 1, 2, 3, 4, 5] rfl)
                · replace g21 := fT c26 g21
                  refine lv_iload hx hb dX7_ranked_45 (lv_at hl 5 rfl) ?_
                  refine lv_iload_n hx hb dX7_ranked_47 rfl (lv_at hl 3 rfl) ?_
                  refine lv_icmp_ge (tgt := 55) hx hb dX7_ranked_48 (by decide) (fun c27 => ?_) (fun c27 => ?_)
                  · replace g21 := fT c27 g21
                    refine lv_iconst (v := (0 : Int32)) hx hb dX7_ranked_55 (by decide) ?_
                    cases g21
                    exact J22 _ _ _ hP hD hS (lv_sub hl [0, 1, 2, 3, 4, 5] rfl)
                  · replace g21 := fF c27 g21
                    refine lv_iconst (v := (1 : Int32)) hx hb dX7_ranked_51 (by decide) ?_
                    refine lv_goto (tgt := 56) hx hb dX7_ranked_52 (by decide) ?_
                    cases g21
                    exact J22 _ _ _ hP hD hS (lv_sub hl [0, 1, 2, 3, 4, 5] rfl)
        exact LP16 FU (0 : Int32) (0 : Int32) _ _ _ g11 hP hD hS (lv_sub hl [2, 3, 4, 5, 1, 0] rfl)
  exact LP6 FU (-1 : Int32) (0 : Int32) _ _ _ g4 hP hD hS (lv_sub hl [2, 3, 1, 0] rfl)
abbrev rm_X7_plateByAmount : Room := { frames := 3, cells := 0, slots := 0, locals := 70 }
theorem hd_X7_plateByAmount : yX7_plateByAmount.cls = RX7 ∧ yX7_plateByAmount.cls ≠ "java/lang/invoke/MethodHandle" ∧ yX7_plateByAmount.cls ≠ "java/lang/invoke/VarHandle" ∧ (parseMethodDescriptor yX7_plateByAmount.desc).map (fun d => d.parameters.length) = some 1 := by decide +kernel
set_option maxHeartbeats 0 in
set_option maxRecDepth 100000 in
theorem c_X7_plateByAmount (l : Launch) (D : va_G) (w : Nat → Nat) (y : Nat → ClassId) (sz : Nat) (th : Int32) (ms : Nat → Int32) (mst : Nat → Int32) (smn : Int32) (msl : Nat → Int32) (mhs : Nat → Int32) (mtx : Nat → Int32) (mle : Int32) (mat : Int32) (mwl : Int32) (mrd : Nat → Int32) (mrm : Int32) (mtp : Int64) (mbt : Int64) (mtm : Nat → Int32) (mtn : Int32) (mnt : Int32) (mnb : Int32) (mun : Nat → Int32) (mum : Int32) (mau : Int32) (a1 : Int32) (r : Int32) (th' : Int32) (h : F_X7_plateByAmount th ms a1 = some (r, th')) : Met l yX7_plateByAmount wsX7_plateByAmount rm_X7_plateByAmount (va_Pc [.ref (w 0), .int a1] (px D y sz (MW w y th ms mst smn msl mhs mtx mle mat mwl mrd mrm mtp mbt mtm mtn mnt mnb mun mum mau))) (Qri D y sz (MW w y th ms mst smn msl mhs mtx mle mat mwl mrd mrm mtp mbt mtm mtn mnt mnb mun mum mau) (MW w y th' ms mst smn msl mhs mtx mle mat mwl mrd mrm mtp mbt mtm mtn mnt mnb mun mum mau) r) 0 0 (va_A (MW w y th ms mst smn msl mhs mtx mle mat mwl mrd mrm mtp mbt mtm mtn mnt mnb mun mum mau) sz) := by
  refine hd_i (cc := cX7_plateByAmount) (maxL := 2) rfl rfl (Nat.le_of_ble_eq_true rfl) ?_
  intro p e s m args below meth c A Q H locs ls hx hb hml hts hown _ hA hP hD hK hS hl hE
  have hl : lv_has ls 2 [(0, .ref (w 0)), (1, .int a1)] := hl
  have q0 := hts (.fieldLink RX7 35 "SliceSharesModel" "thrown" "I") (by decide +kernel)
  have hinRX7 : ∀ w ∈ wsX70, w ∈ wsX7_plateByAmount := by decide +kernel
  unfold F_X7_plateByAmount at h
  refine lv_aload_n hx hb dX7_plateByAmount_0 rfl (lv_at hl 0 rfl) ?_
  refine lv_iconst (v := (0 : Int32)) hx hb dX7_plateByAmount_1 (by decide) ?_
  refine va_put (D := D) (ci := 5) (v := .int (0 : Int32)) (ty := .int) (C := RX7) (T := TX7) (N := 21) hx hb hts hinRX7 tyX7 tyX7_ok nmX7 hown hK hP hD hS 0 rfl rfl 0 (by decide) q0 (fun _ h9 => h9) rfl (by decide +kernel) rfl rfl (Nat.le_of_ble_eq_true rfl) dX7_plateByAmount_2 (fun H locs hP hD hS => ?_)
  have hP : va_P D vwCl (MW w y (0 : Int32) ms mst smn msl mhs mtx mle mat mwl mrd mrm mtp mbt mtm mtn mnt mnb mun mum mau) H := hP
  have hD : va_D A (MW w y (0 : Int32) ms mst smn msl mhs mtx mle mat mwl mrd mrm mtp mbt mtm mtn mnt mnb mun mum mau) := hD
  refine lv_iload_n hx hb dX7_plateByAmount_5 rfl (lv_at hl 1 rfl) ?_
  refine cT_i (As := [.int a1]) (rest := []) ⟨hx, hb, hml, hown, hts⟩ (c_X7_isPlate l D y _ a1) (va_cwS 1 hts gX7_plateByAmount_X7_isPlate rfl rfl rfl hd_X7_isPlate ⟨Nat.le_of_ble_eq_true rfl, Nat.le_of_ble_eq_true rfl⟩) hK hP hD hS hA rfl hl.1 rfl (Nat.le_of_ble_eq_true rfl) dX7_plateByAmount_6 ⟨Nat.le_of_ble_eq_true rfl, Nat.le_of_ble_eq_true rfl⟩ (fun H locs hP hD hS => ?_)
  refine lv_if_eq (tgt := 20) hx hb dX7_plateByAmount_9 (by decide) (fun c1 => ?_) (fun c1 => ?_)
  · replace h := fT c1 h
    refine lv_aload_n hx hb dX7_plateByAmount_20 rfl (lv_at hl 0 rfl) ?_
    refine lv_iconst (v := (1 : Int32)) hx hb dX7_plateByAmount_21 (by decide) ?_
    obtain ⟨r2, th3, g4, h⟩ := fB2 h
    refine cV_i (As := [.int (1 : Int32)]) (rest := []) (ws1 := (MW w y th3 ms mst smn msl mhs mtx mle mat mwl mrd mrm mtp mbt mtm mtn mnt mnb mun mum mau)) ⟨hx, hb, hml, hown, hts⟩ (c_X7_fails l D w y _ (0 : Int32) ms mst smn msl mhs mtx mle mat mwl mrd mrm mtp mbt mtm mtn mnt mnb mun mum mau (1 : Int32) r2 th3 g4) (cwV 1 hts gX7_plateByAmount_X7_fails rfl rfl rfl hd_X7_fails ⟨Nat.le_of_ble_eq_true rfl, Nat.le_of_ble_eq_true rfl⟩) hK hP hD hS hA [0, 1, 2, 3, 4, 5, 6, 7, 8] [] [0, 1, 2, 3, 4, 5, 6, 7, 8] rfl rfl rfl (by decide) rfl rfl rfl 0 (ci := 5) rfl rfl rfl hl.1 rfl (Nat.le_of_ble_eq_true rfl) dX7_plateByAmount_22 ⟨Nat.le_of_ble_eq_true rfl, Nat.le_of_ble_eq_true rfl⟩ (fun H locs hP hD hS => ?_)
    cases h
    exact hE _ _ _ _ dX7_plateByAmount_25 hP hD hS
  · replace h := fF c1 h
    refine lv_aload_n hx hb dX7_plateByAmount_12 rfl (lv_at hl 0 rfl) ?_
    refine lv_iload_n hx hb dX7_plateByAmount_13 rfl (lv_at hl 1 rfl) ?_
    obtain ⟨r5, g6, h⟩ := fB1 h
    refine cV_i (As := [.int a1]) (rest := []) (ws1 := (MW w y (0 : Int32) ms mst smn msl mhs mtx mle mat mwl mrd mrm mtp mbt mtm mtn mnt mnb mun mum mau)) ⟨hx, hb, hml, hown, hts⟩ (c_X7_ranked l D w y _ (0 : Int32) ms mst smn msl mhs mtx mle mat mwl mrd mrm mtp mbt mtm mtn mnt mnb mun mum mau a1 r5 g6) (cwV 1 hts gX7_plateByAmount_X7_ranked rfl rfl rfl hd_X7_ranked ⟨Nat.le_of_ble_eq_true rfl, Nat.le_of_ble_eq_true rfl⟩) hK hP hD hS hA [0, 1, 2, 3, 4, 5, 6, 7, 8] [] [0, 1, 2, 3, 4, 5, 6, 7, 8] rfl rfl rfl (by decide) rfl rfl rfl 0 (ci := 5) rfl rfl rfl hl.1 rfl (Nat.le_of_ble_eq_true rfl) dX7_plateByAmount_14 ⟨Nat.le_of_ble_eq_true rfl, Nat.le_of_ble_eq_true rfl⟩ (fun H locs hP hD hS => ?_)
    refine lv_goto (tgt := 25) hx hb dX7_plateByAmount_17 (by decide) ?_
    cases h
    exact hE _ _ _ _ dX7_plateByAmount_25 hP hD hS
abbrev rm_X7_commonParts : Room := { frames := 1, cells := 0, slots := 0, locals := 29 }
theorem hd_X7_commonParts : yX7_commonParts.cls = RX7 ∧ yX7_commonParts.cls ≠ "java/lang/invoke/MethodHandle" ∧ yX7_commonParts.cls ≠ "java/lang/invoke/VarHandle" ∧ (parseMethodDescriptor yX7_commonParts.desc).map (fun d => d.parameters.length) = some 0 := by decide +kernel
set_option maxHeartbeats 0 in
set_option maxRecDepth 100000 in
theorem c_X7_commonParts (l : Launch) (D : va_G) (w : Nat → Nat) (y : Nat → ClassId) (sz : Nat) (th : Int32) (ms : Nat → Int32) (mst : Nat → Int32) (smn : Int32) (msl : Nat → Int32) (mhs : Nat → Int32) (mtx : Nat → Int32) (mle : Int32) (mat : Int32) (mwl : Int32) (mrd : Nat → Int32) (mrm : Int32) (mtp : Int64) (mbt : Int64) (mtm : Nat → Int32) (mtn : Int32) (mnt : Int32) (mnb : Int32) (mun : Nat → Int32) (mum : Int32) (mau : Int32) (r : Int64) (th' : Int32) (h : F_X7_commonParts th ms = some (r, th')) : Met l yX7_commonParts wsX7_commonParts rm_X7_commonParts (va_Pc [.ref (w 0)] (px D y sz (MW w y th ms mst smn msl mhs mtx mle mat mwl mrd mrm mtp mbt mtm mtn mnt mnb mun mum mau))) (Qrl D y sz (MW w y th ms mst smn msl mhs mtx mle mat mwl mrd mrm mtp mbt mtm mtn mnt mnb mun mum mau) (MW w y th' ms mst smn msl mhs mtx mle mat mwl mrd mrm mtp mbt mtm mtn mnt mnb mun mum mau) r) 0 0 (va_A (MW w y th ms mst smn msl mhs mtx mle mat mwl mrd mrm mtp mbt mtm mtn mnt mnb mun mum mau) sz) := by
  refine hd_l (cc := cX7_commonParts) (maxL := 7) rfl rfl (Nat.le_of_ble_eq_true rfl) ?_
  intro p e s m args below meth c A Q H locs ls hx hb hml hts hown _ hA hP hD hK hS hl hE
  have hl : lv_has ls 7 [(0, .ref (w 0))] := hl
  have q0 := hts (.fieldLink RX7 35 "SliceSharesModel" "thrown" "I") (by decide +kernel)
  have q1 := hts (.constantLong RX7 145 (-1)) (by decide +kernel)
  have q2 := hts (.constantLong RX7 143 (1000000000000000)) (by decide +kernel)
  have hinRX7 : ∀ w ∈ wsX70, w ∈ wsX7_commonParts := by decide +kernel
  unfold F_X7_commonParts at h
  refine lv_aload_n hx hb dX7_commonParts_0 rfl (lv_at hl 0 rfl) ?_
  refine lv_iconst (v := (0 : Int32)) hx hb dX7_commonParts_1 (by decide) ?_
  refine va_put (D := D) (ci := 5) (v := .int (0 : Int32)) (ty := .int) (C := RX7) (T := TX7) (N := 21) hx hb hts hinRX7 tyX7 tyX7_ok nmX7 hown hK hP hD hS 0 rfl rfl 0 (by decide) q0 (fun _ h9 => h9) rfl (by decide +kernel) rfl rfl (Nat.le_of_ble_eq_true rfl) dX7_commonParts_2 (fun H locs hP hD hS => ?_)
  have hP : va_P D vwCl (MW w y (0 : Int32) ms mst smn msl mhs mtx mle mat mwl mrd mrm mtp mbt mtm mtn mnt mnb mun mum mau) H := hP
  have hD : va_D A (MW w y (0 : Int32) ms mst smn msl mhs mtx mle mat mwl mrd mrm mtp mbt mtm mtn mnt mnb mun mum mau) := hD
  refine lv_lconst (v := (1 : Int64)) hx hb dX7_commonParts_5 rfl ?_
  refine lv_lstore_n (lv' := [(1, .long (1 : Int64)), (0, .ref (w 0))]) hx hb dX7_commonParts_6 rfl hl (by decide) rfl (fun ls hl => ?_)
  refine lv_iconst (v := (1 : Int32)) hx hb dX7_commonParts_7 (by decide) ?_
  refine lv_istore_n (lv' := [(3, .int (1 : Int32)), (1, .long (1 : Int64)), (0, .ref (w 0))]) hx hb dX7_commonParts_8 rfl hl (by decide) rfl (fun ls hl => ?_)
  refine lv_iconst (v := (0 : Int32)) hx hb dX7_commonParts_9 (by decide) ?_
  refine lv_istore (lv' := [(4, .int (0 : Int32)), (3, .int (1 : Int32)), (1, .long (1 : Int64)), (0, .ref (w 0))]) hx hb dX7_commonParts_10 hl (by decide) rfl (fun ls hl => ?_)
  obtain ⟨v4, v5, g6, h⟩ := fB2 h
  have J7 : ∀ (H : Heap) (locs : List Loc) (ls : Array Slot), va_P D vwCl (MW w y (0 : Int32) ms mst smn msl mhs mtx mle mat mwl mrd mrm mtp mbt mtm mtn mnt mnb mun mum mau) H → va_D A (MW w y (0 : Int32) ms mst smn msl mhs mtx mle mat mwl mrd mrm mtp mbt mtm mtn mnt mnb mun mum mau) → va_S A s.heap H locs → lv_has ls 7 [(1, .long v4), (3, .int v5)] → W p l e rm_X7_commonParts s m args below meth c H locs 0 0 Q (F0 m 80 ls []) := by
    intro H locs ls hP hD hS hl
    refine lv_iload_n hx hb dX7_commonParts_80 rfl (lv_at hl 1 rfl) ?_
    have J8 : ∀ (v9 : Int64) (ls : Array Slot), v9 = (if v5 = (0 : Int32) then (-1 : Int64) else v4) → lv_has ls 7 [(1, .long v4), (3, .int v5)] → W p l e rm_X7_commonParts s m args below meth c H locs 0 0 Q (F0 m 91 ls [.long v9]) := by
      intro v9 ls ev9 hl
      subst ev9
      cases h
      exact hE _ _ _ _ dX7_commonParts_91 hP hD hS
    refine lv_if_eq (tgt := 88) hx hb dX7_commonParts_81 (by decide) (fun c10 => ?_) (fun c10 => ?_)
    · refine lv_ldc2 (v := (-1 : Int64)) hx hb hown q1 dX7_commonParts_88 ?_
      exact J8 _ _ (by rw [if_pos c10]) (lv_sub hl [0, 1] rfl)
    · refine lv_lload_n hx hb dX7_commonParts_84 rfl (lv_at hl 0 rfl) ?_
      refine lv_goto (tgt := 91) hx hb dX7_commonParts_85 (by decide) ?_
      exact J8 _ _ (by rw [if_neg c10]) (lv_sub hl [0, 1] rfl)
  have LP11 : ∀ (n : Nat) (x1 : Int64) (x2 : Int32) (x3 : Int32) (H : Heap) (locs : List Loc) (ls : Array Slot), L_X7_commonParts_12 n x1 x2 x3 ms = some (v4, v5) → va_P D vwCl (MW w y (0 : Int32) ms mst smn msl mhs mtx mle mat mwl mrd mrm mtp mbt mtm mtn mnt mnb mun mum mau) H → va_D A (MW w y (0 : Int32) ms mst smn msl mhs mtx mle mat mwl mrd mrm mtp mbt mtm mtn mnt mnb mun mum mau) → va_S A s.heap H locs → lv_has ls 7 [(0, .ref (w 0)), (1, .long x1), (3, .int x2), (4, .int x3)] → W p l e rm_X7_commonParts s m args below meth c H locs 0 0 Q (F0 m 12 ls []) := by
    intro n
    induction n with
    | zero => intro x1 x2 x3 H locs ls h hP hD hS hl; exact fN h
    | succ n ih =>
      intro x1 x2 x3 H locs ls h hP hD hS hl
      replace h := (L_X7_commonParts_12_s n x1 x2 x3 ms).symm.trans h
      refine lv_iload hx hb dX7_commonParts_12 (lv_at hl 3 rfl) ?_
      refine lv_bipush (v := (6 : Int32)) hx hb dX7_commonParts_14 (by decide) ?_
      refine lv_icmp_ge (tgt := 80) hx hb dX7_commonParts_16 (by decide) (fun c12 => ?_) (fun c12 => ?_)
      · replace h := fT c12 h
        cases h
        exact J7 _ _ _ hP hD hS (lv_sub hl [1, 2] rfl)
      · replace h := fF c12 h
        refine lv_iload_n hx hb dX7_commonParts_19 rfl (lv_at hl 2 rfl) ?_
        refine lv_if_eq (tgt := 80) hx hb dX7_commonParts_20 (by decide) (fun c13 => ?_) (fun c13 => ?_)
        · replace h := fT c13 h
          cases h
          exact J7 _ _ _ hP hD hS (lv_sub hl [1, 2] rfl)
        · replace h := fF c13 h
          refine lv_aload_n hx hb dX7_commonParts_23 rfl (lv_at hl 0 rfl) ?_
          refine lv_iload hx hb dX7_commonParts_24 (lv_at hl 3 rfl) ?_
          obtain ⟨r14, g15, h⟩ := fB1 h
          refine cV_i (As := [.int x3]) (rest := []) (ws1 := (MW w y (0 : Int32) ms mst smn msl mhs mtx mle mat mwl mrd mrm mtp mbt mtm mtn mnt mnb mun mum mau)) ⟨hx, hb, hml, hown, hts⟩ (c_X7_below l D w y _ (0 : Int32) ms mst smn msl mhs mtx mle mat mwl mrd mrm mtp mbt mtm mtn mnt mnb mun mum mau x3 r14 g15) (cwV 1 hts gX7_commonParts_X7_below rfl rfl rfl hd_X7_below ⟨Nat.le_of_ble_eq_true rfl, Nat.le_of_ble_eq_true rfl⟩) hK hP hD hS hA [0, 1, 2, 3, 4, 5, 6, 7, 8] [] [0, 1, 2, 3, 4, 5, 6, 7, 8] rfl rfl rfl (by decide) rfl rfl rfl 0 (ci := 5) rfl rfl rfl hl.1 rfl (Nat.le_of_ble_eq_true rfl) dX7_commonParts_26 ⟨Nat.le_of_ble_eq_true rfl, Nat.le_of_ble_eq_true rfl⟩ (fun H locs hP hD hS => ?_)
          refine lv_i2l (v := r14.toInt64) hx hb dX7_commonParts_29 rfl ?_
          refine lv_aload_n hx hb dX7_commonParts_30 rfl (lv_at hl 0 rfl) ?_
          refine lv_iload hx hb dX7_commonParts_31 (lv_at hl 3 rfl) ?_
          obtain ⟨r16, g17, h⟩ := fB1 h
          refine cV_i (As := [.int x3]) (rest := [.long r14.toInt64]) (ws1 := (MW w y (0 : Int32) ms mst smn msl mhs mtx mle mat mwl mrd mrm mtp mbt mtm mtn mnt mnb mun mum mau)) ⟨hx, hb, hml, hown, hts⟩ (c_X7_below l D w y _ (0 : Int32) ms mst smn msl mhs mtx mle mat mwl mrd mrm mtp mbt mtm mtn mnt mnb mun mum mau x3 r16 g17) (cwV 1 hts gX7_commonParts_X7_below rfl rfl rfl hd_X7_below ⟨Nat.le_of_ble_eq_true rfl, Nat.le_of_ble_eq_true rfl⟩) hK hP hD hS hA [0, 1, 2, 3, 4, 5, 6, 7, 8] [] [0, 1, 2, 3, 4, 5, 6, 7, 8] rfl rfl rfl (by decide) rfl rfl rfl 0 (ci := 5) rfl rfl rfl hl.1 rfl (Nat.le_of_ble_eq_true rfl) dX7_commonParts_33 ⟨Nat.le_of_ble_eq_true rfl, Nat.le_of_ble_eq_true rfl⟩ (fun H locs hP hD hS => ?_)
          refine lv_i2l (v := r16.toInt64) hx hb dX7_commonParts_36 rfl ?_
          refine lv_lload_n hx hb dX7_commonParts_37 rfl (lv_at hl 1 rfl) ?_
          obtain ⟨r18, g19, h⟩ := fB1 h
          refine cT_l (As := [.long r16.toInt64, .long x1]) (rest := [.long r14.toInt64]) ⟨hx, hb, hml, hown, hts⟩ (c_X7_divisor l D y _ r16.toInt64 x1 r18 g19) (va_cwS 2 hts gX7_commonParts_X7_divisor rfl rfl rfl hd_X7_divisor ⟨Nat.le_of_ble_eq_true rfl, Nat.le_of_ble_eq_true rfl⟩) hK hP hD hS hA rfl hl.1 rfl (Nat.le_of_ble_eq_true rfl) dX7_commonParts_38 ⟨Nat.le_of_ble_eq_true rfl, Nat.le_of_ble_eq_true rfl⟩ (fun H locs hP hD hS => ?_)
          obtain ⟨g20, h⟩ := fG h
          refine lv_ldiv hx hb dX7_commonParts_41 g20 ?_
          refine lv_lstore (lv' := [(5, .long (r14.toInt64 / r18)), (0, .ref (w 0)), (1, .long x1), (3, .int x2), (4, .int x3)]) hx hb dX7_commonParts_42 hl (by decide) rfl (fun ls hl => ?_)
          refine lv_lload_n hx hb dX7_commonParts_44 rfl (lv_at hl 2 rfl) ?_
          refine lv_ldc2 (v := (1000000000000000 : Int64)) hx hb hown q2 dX7_commonParts_45 ?_
          refine lv_lload hx hb dX7_commonParts_48 (lv_at hl 0 rfl) ?_
          obtain ⟨g21, h⟩ := fG h
          refine lv_ldiv hx hb dX7_commonParts_50 g21 ?_
          have J22 : ∀ (v23 : Int32) (ls : Array Slot), v23 = (if ((1000000000000000 : Int64) / (r14.toInt64 / r18)) < x1 then (0 : Int32) else (1 : Int32)) → lv_has ls 7 [(0, .ref (w 0)), (1, .long x1), (3, .int x2), (4, .int x3), (5, .long (r14.toInt64 / r18))] → W p l e rm_X7_commonParts s m args below meth c H locs 0 0 Q (F0 m 60 ls [.int v23]) := by
            intro v23 ls ev23 hl
            subst ev23
            refine lv_istore_n (lv' := [(3, .int (if ((1000000000000000 : Int64) / (r14.toInt64 / r18)) < x1 then (0 : Int32) else (1 : Int32))), (0, .ref (w 0)), (1, .long x1), (4, .int x3), (5, .long (r14.toInt64 / r18))]) hx hb dX7_commonParts_60 rfl hl (by decide) rfl (fun ls hl => ?_)
            refine lv_iload_n hx hb dX7_commonParts_61 rfl (lv_at hl 0 rfl) ?_
            have J24 : ∀ (v25 : Int64) (ls : Array Slot), v25 = (if (if ((1000000000000000 : Int64) / (r14.toInt64 / r18)) < x1 then (0 : Int32) else (1 : Int32)) = (0 : Int32) then x1 else (x1 * (r14.toInt64 / r18))) → lv_has ls 7 [(0, .ref (w 0)), (1, .long x1), (3, .int (if ((1000000000000000 : Int64) / (r14.toInt64 / r18)) < x1 then (0 : Int32) else (1 : Int32))), (4, .int x3), (5, .long (r14.toInt64 / r18))] → W p l e rm_X7_commonParts s m args below meth c H locs 0 0 Q (F0 m 73 ls [.long v25]) := by
              intro v25 ls ev25 hl
              subst ev25
              refine lv_lstore_n (lv' := [(1, .long (if (if ((1000000000000000 : Int64) / (r14.toInt64 / r18)) < x1 then (0 : Int32) else (1 : Int32)) = (0 : Int32) then x1 else (x1 * (r14.toInt64 / r18)))), (0, .ref (w 0)), (3, .int (if ((1000000000000000 : Int64) / (r14.toInt64 / r18)) < x1 then (0 : Int32) else (1 : Int32))), (4, .int x3), (5, .long (r14.toInt64 / r18))]) hx hb dX7_commonParts_73 rfl hl (by decide) rfl (fun ls hl => ?_)
              refine lv_iinc (v := x3 + (1 : Int32)) (lv' := [(4, .int (x3 + (1 : Int32))), (1, .long (if (if ((1000000000000000 : Int64) / (r14.toInt64 / r18)) < x1 then (0 : Int32) else (1 : Int32)) = (0 : Int32) then x1 else (x1 * (r14.toInt64 / r18)))), (0, .ref (w 0)), (3, .int (if ((1000000000000000 : Int64) / (r14.toInt64 / r18)) < x1 then (0 : Int32) else (1 : Int32))), (5, .long (r14.toInt64 / r18))]) hx hb dX7_commonParts_74 hl (k := 3) rfl rfl (by decide) rfl (fun ls hl => ?_)
              refine lv_goto (tgt := 12) hx hb dX7_commonParts_77 (by decide) ?_
              exact ih (if (if ((1000000000000000 : Int64) / (r14.toInt64 / r18)) < x1 then (0 : Int32) else (1 : Int32)) = (0 : Int32) then x1 else (x1 * (r14.toInt64 / r18))) (if ((1000000000000000 : Int64) / (r14.toInt64 / r18)) < x1 then (0 : Int32) else (1 : Int32)) (x3 + (1 : Int32)) _ _ _ h hP hD hS (lv_sub hl [2, 1, 3, 0] rfl)
            refine lv_if_eq (tgt := 72) hx hb dX7_commonParts_62 (by decide) (fun c26 => ?_) (fun c26 => ?_)
            · refine lv_lload_n hx hb dX7_commonParts_72 rfl (lv_at hl 2 rfl) ?_
              exact J24 _ _ (by rw [if_pos c26]) (lv_sub hl [1, 2, 0, 3, 4] rfl)
            · refine lv_lload_n hx hb dX7_commonParts_65 rfl (lv_at hl 2 rfl) ?_
              refine lv_lload hx hb dX7_commonParts_66 (lv_at hl 4 rfl) ?_
              refine lv_lmul hx hb dX7_commonParts_68 ?_
              refine lv_goto (tgt := 73) hx hb dX7_commonParts_69 (by decide) ?_
              exact J24 _ _ (by rw [if_neg c26]) (lv_sub hl [1, 2, 0, 3, 4] rfl)
          refine lx_gt (tgt := 59) hx hb dX7_commonParts_51 dX7_commonParts_52 (by decide) (fun c27 => ?_) (fun c27 => ?_)
          · refine lv_iconst (v := (0 : Int32)) hx hb dX7_commonParts_59 (by decide) ?_
            exact J22 _ _ (by rw [if_pos c27]) (lv_sub hl [1, 2, 3, 4, 0] rfl)
          · refine lv_iconst (v := (1 : Int32)) hx hb dX7_commonParts_55 (by decide) ?_
            refine lv_goto (tgt := 60) hx hb dX7_commonParts_56 (by decide) ?_
            exact J22 _ _ (by rw [if_neg c27]) (lv_sub hl [1, 2, 3, 4, 0] rfl)
  exact LP11 FU (1 : Int64) (1 : Int32) (0 : Int32) _ _ _ g6 hP hD hS (lv_sub hl [3, 2, 1, 0] rfl)
abbrev rm_X7_differentFractions : Room := { frames := 2, cells := 0, slots := 0, locals := 45 }
theorem hd_X7_differentFractions : yX7_differentFractions.cls = RX7 ∧ yX7_differentFractions.cls ≠ "java/lang/invoke/MethodHandle" ∧ yX7_differentFractions.cls ≠ "java/lang/invoke/VarHandle" ∧ (parseMethodDescriptor yX7_differentFractions.desc).map (fun d => d.parameters.length) = some 0 := by decide +kernel
set_option maxHeartbeats 0 in
set_option maxRecDepth 100000 in
theorem c_X7_differentFractions (l : Launch) (D : va_G) (w : Nat → Nat) (y : Nat → ClassId) (sz : Nat) (th : Int32) (ms : Nat → Int32) (mst : Nat → Int32) (smn : Int32) (msl : Nat → Int32) (mhs : Nat → Int32) (mtx : Nat → Int32) (mle : Int32) (mat : Int32) (mwl : Int32) (mrd : Nat → Int32) (mrm : Int32) (mtp : Int64) (mbt : Int64) (mtm : Nat → Int32) (mtn : Int32) (mnt : Int32) (mnb : Int32) (mun : Nat → Int32) (mum : Int32) (mau : Int32) (r : Int32) (th' : Int32) (h : F_X7_differentFractions th ms = some (r, th')) : Met l yX7_differentFractions wsX7_differentFractions rm_X7_differentFractions (va_Pc [.ref (w 0)] (px D y sz (MW w y th ms mst smn msl mhs mtx mle mat mwl mrd mrm mtp mbt mtm mtn mnt mnb mun mum mau))) (Qri D y sz (MW w y th ms mst smn msl mhs mtx mle mat mwl mrd mrm mtp mbt mtm mtn mnt mnb mun mum mau) (MW w y th' ms mst smn msl mhs mtx mle mat mwl mrd mrm mtp mbt mtm mtn mnt mnb mun mum mau) r) 0 0 (va_A (MW w y th ms mst smn msl mhs mtx mle mat mwl mrd mrm mtp mbt mtm mtn mnt mnb mun mum mau) sz) := by
  refine hd_i (cc := cX7_differentFractions) (maxL := 5) rfl rfl (Nat.le_of_ble_eq_true rfl) ?_
  intro p e s m args below meth c A Q H locs ls hx hb hml hts hown _ hA hP hD hK hS hl hE
  have hl : lv_has ls 5 [(0, .ref (w 0))] := hl
  have q0 := hts (.fieldLink RX7 35 "SliceSharesModel" "thrown" "I") (by decide +kernel)
  have hinRX7 : ∀ w ∈ wsX70, w ∈ wsX7_differentFractions := by decide +kernel
  unfold F_X7_differentFractions at h
  refine lv_aload_n hx hb dX7_differentFractions_0 rfl (lv_at hl 0 rfl) ?_
  refine lv_iconst (v := (0 : Int32)) hx hb dX7_differentFractions_1 (by decide) ?_
  refine va_put (D := D) (ci := 5) (v := .int (0 : Int32)) (ty := .int) (C := RX7) (T := TX7) (N := 21) hx hb hts hinRX7 tyX7 tyX7_ok nmX7 hown hK hP hD hS 0 rfl rfl 0 (by decide) q0 (fun _ h9 => h9) rfl (by decide +kernel) rfl rfl (Nat.le_of_ble_eq_true rfl) dX7_differentFractions_2 (fun H locs hP hD hS => ?_)
  have hP : va_P D vwCl (MW w y (0 : Int32) ms mst smn msl mhs mtx mle mat mwl mrd mrm mtp mbt mtm mtn mnt mnb mun mum mau) H := hP
  have hD : va_D A (MW w y (0 : Int32) ms mst smn msl mhs mtx mle mat mwl mrd mrm mtp mbt mtm mtn mnt mnb mun mum mau) := hD
  refine lv_iconst (v := (0 : Int32)) hx hb dX7_differentFractions_5 (by decide) ?_
  refine lv_istore_n (lv' := [(1, .int (0 : Int32)), (0, .ref (w 0))]) hx hb dX7_differentFractions_6 rfl hl (by decide) rfl (fun ls hl => ?_)
  refine lv_iconst (v := (0 : Int32)) hx hb dX7_differentFractions_7 (by decide) ?_
  refine lv_istore_n (lv' := [(2, .int (0 : Int32)), (1, .int (0 : Int32)), (0, .ref (w 0))]) hx hb dX7_differentFractions_8 rfl hl (by decide) rfl (fun ls hl => ?_)
  obtain ⟨v3, g4, h⟩ := fB1 h
  have J5 : ∀ (H : Heap) (locs : List Loc) (ls : Array Slot), va_P D vwCl (MW w y (0 : Int32) ms mst smn msl mhs mtx mle mat mwl mrd mrm mtp mbt mtm mtn mnt mnb mun mum mau) H → va_D A (MW w y (0 : Int32) ms mst smn msl mhs mtx mle mat mwl mrd mrm mtp mbt mtm mtn mnt mnb mun mum mau) → va_S A s.heap H locs → lv_has ls 5 [(1, .int v3)] → W p l e rm_X7_differentFractions s m args below meth c H locs 0 0 Q (F0 m 70 ls []) := by
    intro H locs ls hP hD hS hl
    refine lv_iload_n hx hb dX7_differentFractions_70 rfl (lv_at hl 0 rfl) ?_
    cases h
    exact hE _ _ _ _ dX7_differentFractions_71 hP hD hS
  have LP6 : ∀ (n : Nat) (x1 : Int32) (x2 : Int32) (H : Heap) (locs : List Loc) (ls : Array Slot), L_X7_differentFractions_9 n x1 x2 ms = some v3 → va_P D vwCl (MW w y (0 : Int32) ms mst smn msl mhs mtx mle mat mwl mrd mrm mtp mbt mtm mtn mnt mnb mun mum mau) H → va_D A (MW w y (0 : Int32) ms mst smn msl mhs mtx mle mat mwl mrd mrm mtp mbt mtm mtn mnt mnb mun mum mau) → va_S A s.heap H locs → lv_has ls 5 [(0, .ref (w 0)), (1, .int x1), (2, .int x2)] → W p l e rm_X7_differentFractions s m args below meth c H locs 0 0 Q (F0 m 9 ls []) := by
    intro n
    induction n with
    | zero => intro x1 x2 H locs ls h hP hD hS hl; exact fN h
    | succ n ih =>
      intro x1 x2 H locs ls h hP hD hS hl
      replace h := (L_X7_differentFractions_9_s n x1 x2 ms).symm.trans h
      refine lv_iload_n hx hb dX7_differentFractions_9 rfl (lv_at hl 2 rfl) ?_
      refine lv_bipush (v := (6 : Int32)) hx hb dX7_differentFractions_10 (by decide) ?_
      refine lv_icmp_ge (tgt := 70) hx hb dX7_differentFractions_12 (by decide) (fun c7 => ?_) (fun c7 => ?_)
      · replace h := fT c7 h
        cases h
        exact J5 _ _ _ hP hD hS (lv_sub hl [1] rfl)
      · replace h := fF c7 h
        refine lv_iconst (v := (1 : Int32)) hx hb dX7_differentFractions_15 (by decide) ?_
        refine lv_istore_n (lv' := [(3, .int (1 : Int32)), (0, .ref (w 0)), (1, .int x1), (2, .int x2)]) hx hb dX7_differentFractions_16 rfl hl (by decide) rfl (fun ls hl => ?_)
        refine lv_iconst (v := (0 : Int32)) hx hb dX7_differentFractions_17 (by decide) ?_
        refine lv_istore (lv' := [(4, .int (0 : Int32)), (3, .int (1 : Int32)), (0, .ref (w 0)), (1, .int x1), (2, .int x2)]) hx hb dX7_differentFractions_18 hl (by decide) rfl (fun ls hl => ?_)
        obtain ⟨v10, g11, h⟩ := fB1 h
        have J12 : ∀ (H : Heap) (locs : List Loc) (ls : Array Slot), va_P D vwCl (MW w y (0 : Int32) ms mst smn msl mhs mtx mle mat mwl mrd mrm mtp mbt mtm mtn mnt mnb mun mum mau) H → va_D A (MW w y (0 : Int32) ms mst smn msl mhs mtx mle mat mwl mrd mrm mtp mbt mtm mtn mnt mnb mun mum mau) → va_S A s.heap H locs → lv_has ls 5 [(0, .ref (w 0)), (1, .int x1), (2, .int x2), (3, .int v10)] → W p l e rm_X7_differentFractions s m args below meth c H locs 0 0 Q (F0 m 52 ls []) := by
          intro H locs ls hP hD hS hl
          refine lv_iload_n hx hb dX7_differentFractions_52 rfl (lv_at hl 1 rfl) ?_
          refine lv_iload_n hx hb dX7_differentFractions_53 rfl (lv_at hl 3 rfl) ?_
          have J13 : ∀ (v14 : Int32) (ls : Array Slot), v14 = (if v10 = (0 : Int32) then (0 : Int32) else (1 : Int32)) → lv_has ls 5 [(0, .ref (w 0)), (1, .int x1), (2, .int x2), (3, .int v10)] → W p l e rm_X7_differentFractions s m args below meth c H locs 0 0 Q (F0 m 62 ls [.int v14, .int x1]) := by
            intro v14 ls ev14 hl
            subst ev14
            refine lv_iadd hx hb dX7_differentFractions_62 ?_
            refine lv_istore_n (lv' := [(1, .int (x1 + (if v10 = (0 : Int32) then (0 : Int32) else (1 : Int32)))), (0, .ref (w 0)), (2, .int x2), (3, .int v10)]) hx hb dX7_differentFractions_63 rfl hl (by decide) rfl (fun ls hl => ?_)
            refine lv_iinc (v := x2 + (1 : Int32)) (lv' := [(2, .int (x2 + (1 : Int32))), (1, .int (x1 + (if v10 = (0 : Int32) then (0 : Int32) else (1 : Int32)))), (0, .ref (w 0)), (3, .int v10)]) hx hb dX7_differentFractions_64 hl (k := 2) rfl rfl (by decide) rfl (fun ls hl => ?_)
            refine lv_goto (tgt := 9) hx hb dX7_differentFractions_67 (by decide) ?_
            exact ih (x1 + (if v10 = (0 : Int32) then (0 : Int32) else (1 : Int32))) (x2 + (1 : Int32)) _ _ _ h hP hD hS (lv_sub hl [2, 1, 0] rfl)
          refine lv_if_eq (tgt := 61) hx hb dX7_differentFractions_54 (by decide) (fun c15 => ?_) (fun c15 => ?_)
          · refine lv_iconst (v := (0 : Int32)) hx hb dX7_differentFractions_61 (by decide) ?_
            exact J13 _ _ (by rw [if_pos c15]) (lv_sub hl [0, 1, 2, 3] rfl)
          · refine lv_iconst (v := (1 : Int32)) hx hb dX7_differentFractions_57 (by decide) ?_
            refine lv_goto (tgt := 62) hx hb dX7_differentFractions_58 (by decide) ?_
            exact J13 _ _ (by rw [if_neg c15]) (lv_sub hl [0, 1, 2, 3] rfl)
        have LP16 : ∀ (n : Nat) (x8 : Int32) (x9 : Int32) (H : Heap) (locs : List Loc) (ls : Array Slot), L_X7_differentFractions_20 n x1 x2 x8 x9 ms = some v10 → va_P D vwCl (MW w y (0 : Int32) ms mst smn msl mhs mtx mle mat mwl mrd mrm mtp mbt mtm mtn mnt mnb mun mum mau) H → va_D A (MW w y (0 : Int32) ms mst smn msl mhs mtx mle mat mwl mrd mrm mtp mbt mtm mtn mnt mnb mun mum mau) → va_S A s.heap H locs → lv_has ls 5 [(0, .ref (w 0)), (1, .int x1), (2, .int x2), (3, .int x8), (4, .int x9)] → W p l e rm_X7_differentFractions s m args below meth c H locs 0 0 Q (F0 m 20 ls []) := by
          intro n
          induction n with
          | zero => intro x8 x9 H locs ls h hP hD hS hl; exact fN h
          | succ n ih =>
            intro x8 x9 H locs ls h hP hD hS hl
            replace h := (L_X7_differentFractions_20_s n x1 x2 x8 x9 ms).symm.trans h
            refine lv_iload hx hb dX7_differentFractions_20 (lv_at hl 4 rfl) ?_
            refine lv_iload_n hx hb dX7_differentFractions_22 rfl (lv_at hl 2 rfl) ?_
            refine lv_icmp_ge (tgt := 52) hx hb dX7_differentFractions_23 (by decide) (fun c17 => ?_) (fun c17 => ?_)
            · replace h := fT c17 h
              cases h
              exact J12 _ _ _ hP hD hS (lv_sub hl [0, 1, 2, 3] rfl)
            · replace h := fF c17 h
              refine lv_iload_n hx hb dX7_differentFractions_26 rfl (lv_at hl 3 rfl) ?_
              obtain ⟨v18, g19, h⟩ := fB1 h
              have J20 : ∀ (H : Heap) (locs : List Loc) (ls : Array Slot), va_P D vwCl (MW w y (0 : Int32) ms mst smn msl mhs mtx mle mat mwl mrd mrm mtp mbt mtm mtn mnt mnb mun mum mau) H → va_D A (MW w y (0 : Int32) ms mst smn msl mhs mtx mle mat mwl mrd mrm mtp mbt mtm mtn mnt mnb mun mum mau) → va_S A s.heap H locs → lv_has ls 5 [(0, .ref (w 0)), (1, .int x1), (2, .int x2), (3, .int x8), (4, .int x9)] → W p l e rm_X7_differentFractions s m args below meth c H locs 0 0 Q (F0 m 45 ls [.int v18]) := by
                intro H locs ls hP hD hS hl
                refine lv_istore_n (lv' := [(3, .int v18), (0, .ref (w 0)), (1, .int x1), (2, .int x2), (4, .int x9)]) hx hb dX7_differentFractions_45 rfl hl (by decide) rfl (fun ls hl => ?_)
                refine lv_iinc (v := x9 + (1 : Int32)) (lv' := [(4, .int (x9 + (1 : Int32))), (3, .int v18), (0, .ref (w 0)), (1, .int x1), (2, .int x2)]) hx hb dX7_differentFractions_46 hl (k := 4) rfl rfl (by decide) rfl (fun ls hl => ?_)
                refine lv_goto (tgt := 20) hx hb dX7_differentFractions_49 (by decide) ?_
                exact ih v18 (x9 + (1 : Int32)) _ _ _ h hP hD hS (lv_sub hl [2, 3, 4, 1, 0] rfl)
              refine lv_if_eq (tgt := 44) hx hb dX7_differentFractions_27 (by decide) (fun c21 => ?_) (fun c21 => ?_)
              · replace g19 := fT c21 g19
                refine lv_iconst (v := (0 : Int32)) hx hb dX7_differentFractions_44 (by decide) ?_
                cases g19
                exact J20 _ _ _ hP hD hS (lv_sub hl [0, 1, 2, 3, 4] rfl)
              · replace g19 := fF c21 g19
                refine lv_aload_n hx hb dX7_differentFractions_30 rfl (lv_at hl 0 rfl) ?_
                refine lv_iload_n hx hb dX7_differentFractions_31 rfl (lv_at hl 2 rfl) ?_
                refine lv_iload hx hb dX7_differentFractions_32 (lv_at hl 4 rfl) ?_
                obtain ⟨r22, g23, g19⟩ := fB1 g19
                refine cV_i (As := [.int x2, .int x9]) (rest := []) (ws1 := (MW w y (0 : Int32) ms mst smn msl mhs mtx mle mat mwl mrd mrm mtp mbt mtm mtn mnt mnb mun mum mau)) ⟨hx, hb, hml, hown, hts⟩ (c_X7_holds l D w y _ (0 : Int32) ms mst smn msl mhs mtx mle mat mwl mrd mrm mtp mbt mtm mtn mnt mnb mun mum mau x2 x9 r22 g23) (cwV 2 hts gX7_differentFractions_X7_holds rfl rfl rfl hd_X7_holds ⟨Nat.le_of_ble_eq_true rfl, Nat.le_of_ble_eq_true rfl⟩) hK hP hD hS hA [0, 1, 2, 3, 4, 5, 6, 7, 8] [] [0, 1, 2, 3, 4, 5, 6, 7, 8] rfl rfl rfl (by decide) rfl rfl rfl 0 (ci := 5) rfl rfl rfl hl.1 rfl (Nat.le_of_ble_eq_true rfl) dX7_differentFractions_34 ⟨Nat.le_of_ble_eq_true rfl, Nat.le_of_ble_eq_true rfl⟩ (fun H locs hP hD hS => ?_)
                refine lv_if_eq (tgt := 44) hx hb dX7_differentFractions_37 (by decide) (fun c24 => ?_) (fun c24 => ?_)
                · replace g19 := fT c24 g19
                  refine lv_iconst (v := (0 : Int32)) hx hb dX7_differentFractions_44 (by decide) ?_
                  cases g19
                  exact J20 _ _ _ hP hD hS (lv_sub hl [0, 1, 2, 3, 4] rfl)
                · replace g19 := fF c24 g19
                  refine lv_iconst (v := (1 : Int32)) hx hb dX7_differentFractions_40 (by decide) ?_
                  refine lv_goto (tgt := 45) hx hb dX7_differentFractions_41 (by decide) ?_
                  cases g19
                  exact J20 _ _ _ hP hD hS (lv_sub hl [0, 1, 2, 3, 4] rfl)
        exact LP16 FU (1 : Int32) (0 : Int32) _ _ _ g11 hP hD hS (lv_sub hl [2, 3, 4, 1, 0] rfl)
  exact LP6 FU (0 : Int32) (0 : Int32) _ _ _ g4 hP hD hS (lv_sub hl [2, 1, 0] rfl)
abbrev rm_X7_countsTerms : Room := { frames := 2, cells := 0, slots := 0, locals := 45 }
theorem hd_X7_countsTerms : yX7_countsTerms.cls = RX7 ∧ yX7_countsTerms.cls ≠ "java/lang/invoke/MethodHandle" ∧ yX7_countsTerms.cls ≠ "java/lang/invoke/VarHandle" ∧ (parseMethodDescriptor yX7_countsTerms.desc).map (fun d => d.parameters.length) = some 1 := by decide +kernel
set_option maxHeartbeats 0 in
set_option maxRecDepth 100000 in
theorem c_X7_countsTerms (l : Launch) (D : va_G) (w : Nat → Nat) (y : Nat → ClassId) (sz : Nat) (th : Int32) (ms : Nat → Int32) (mst : Nat → Int32) (smn : Int32) (msl : Nat → Int32) (mhs : Nat → Int32) (mtx : Nat → Int32) (mle : Int32) (mat : Int32) (mwl : Int32) (mrd : Nat → Int32) (mrm : Int32) (mtp : Int64) (mbt : Int64) (mtm : Nat → Int32) (mtn : Int32) (mnt : Int32) (mnb : Int32) (mun : Nat → Int32) (mum : Int32) (mau : Int32) (a1 : Int32) (r : Int32) (mtm' : Nat → Int32) (mtn' : Int32) (h : F_X7_countsTerms ms mtm mtn a1 = some (r, mtm', mtn')) : Met l yX7_countsTerms wsX7_countsTerms rm_X7_countsTerms (va_Pc [.ref (w 0), .int a1] (px D y sz (MW w y th ms mst smn msl mhs mtx mle mat mwl mrd mrm mtp mbt mtm mtn mnt mnb mun mum mau))) (Qri D y sz (MW w y th ms mst smn msl mhs mtx mle mat mwl mrd mrm mtp mbt mtm mtn mnt mnb mun mum mau) (MW w y th ms mst smn msl mhs mtx mle mat mwl mrd mrm mtp mbt mtm' mtn' mnt mnb mun mum mau) r) 0 0 (va_A (MW w y th ms mst smn msl mhs mtx mle mat mwl mrd mrm mtp mbt mtm mtn mnt mnb mun mum mau) sz) := by
  refine hd_i (cc := cX7_countsTerms) (maxL := 2) rfl rfl (Nat.le_of_ble_eq_true rfl) ?_
  intro p e s m args below meth c A Q H locs ls hx hb hml hts hown _ hA hP hD hK hS hl hE
  have hl : lv_has ls 2 [(0, .ref (w 0)), (1, .int a1)] := hl
  have q0 := hts (.fieldLink RX7 74 "SliceSharesModel" "termMany" "I") (by decide +kernel)
  have hinRX7 : ∀ w ∈ wsX70, w ∈ wsX7_countsTerms := by decide +kernel
  unfold F_X7_countsTerms at h
  refine lv_aload_n hx hb dX7_countsTerms_0 rfl (lv_at hl 0 rfl) ?_
  refine lv_iload_n hx hb dX7_countsTerms_1 rfl (lv_at hl 1 rfl) ?_
  obtain ⟨mtm1, mtn2, g3, h⟩ := fB2 h
  refine cV_v (As := [.int a1]) (rest := []) (ws1 := (MW w y th ms mst smn msl mhs mtx mle mat mwl mrd mrm mtp mbt mtm1 mtn2 mnt mnb mun mum mau)) ⟨hx, hb, hml, hown, hts⟩ (c_X7_tellsTerms l D w y _ th ms mst smn msl mhs mtx mle mat mwl mrd mrm mtp mbt mtm mtn mnt mnb mun mum mau a1 mtm1 mtn2 g3) (cwV 1 hts gX7_countsTerms_X7_tellsTerms rfl rfl rfl hd_X7_tellsTerms ⟨Nat.le_of_ble_eq_true rfl, Nat.le_of_ble_eq_true rfl⟩) hK hP hD hS hA [0, 1, 2, 3, 4, 5, 6, 7, 8] [] [0, 1, 2, 3, 4, 5, 6, 7, 8] rfl rfl rfl (by decide) rfl rfl rfl 0 (ci := 5) rfl rfl rfl hl.1 rfl (Nat.le_of_ble_eq_true rfl) dX7_countsTerms_2 ⟨Nat.le_of_ble_eq_true rfl, Nat.le_of_ble_eq_true rfl⟩ (fun H locs hP hD hS => ?_)
  refine lv_aload_n hx hb dX7_countsTerms_5 rfl (lv_at hl 0 rfl) ?_
  refine va_get (D := D) (ci := 5) (C := RX7) (T := TX7) (N := 21) hx hb hts hinRX7 hown hK hP 0 rfl rfl 15 (by decide) q0 (fun _ h9 => h9) rfl dX7_countsTerms_6 ?_
  cases h
  exact hE _ _ _ _ dX7_countsTerms_9 hP hD hS
abbrev rm_X7_termCount : Room := { frames := 3, cells := 0, slots := 0, locals := 66 }
theorem hd_X7_termCount : yX7_termCount.cls = RX7 ∧ yX7_termCount.cls ≠ "java/lang/invoke/MethodHandle" ∧ yX7_termCount.cls ≠ "java/lang/invoke/VarHandle" ∧ (parseMethodDescriptor yX7_termCount.desc).map (fun d => d.parameters.length) = some 1 := by decide +kernel
set_option maxHeartbeats 0 in
set_option maxRecDepth 100000 in
theorem c_X7_termCount (l : Launch) (D : va_G) (w : Nat → Nat) (y : Nat → ClassId) (sz : Nat) (th : Int32) (ms : Nat → Int32) (mst : Nat → Int32) (smn : Int32) (msl : Nat → Int32) (mhs : Nat → Int32) (mtx : Nat → Int32) (mle : Int32) (mat : Int32) (mwl : Int32) (mrd : Nat → Int32) (mrm : Int32) (mtp : Int64) (mbt : Int64) (mtm : Nat → Int32) (mtn : Int32) (mnt : Int32) (mnb : Int32) (mun : Nat → Int32) (mum : Int32) (mau : Int32) (a1 : Int32) (r : Int32) (th' : Int32) (mtm' : Nat → Int32) (mtn' : Int32) (h : F_X7_termCount th ms mtm mtn a1 = some (r, th', mtm', mtn')) : Met l yX7_termCount wsX7_termCount rm_X7_termCount (va_Pc [.ref (w 0), .int a1] (px D y sz (MW w y th ms mst smn msl mhs mtx mle mat mwl mrd mrm mtp mbt mtm mtn mnt mnb mun mum mau))) (Qri D y sz (MW w y th ms mst smn msl mhs mtx mle mat mwl mrd mrm mtp mbt mtm mtn mnt mnb mun mum mau) (MW w y th' ms mst smn msl mhs mtx mle mat mwl mrd mrm mtp mbt mtm' mtn' mnt mnb mun mum mau) r) 0 0 (va_A (MW w y th ms mst smn msl mhs mtx mle mat mwl mrd mrm mtp mbt mtm mtn mnt mnb mun mum mau) sz) := by
  refine hd_i (cc := cX7_termCount) (maxL := 2) rfl rfl (Nat.le_of_ble_eq_true rfl) ?_
  intro p e s m args below meth c A Q H locs ls hx hb hml hts hown _ hA hP hD hK hS hl hE
  have hl : lv_has ls 2 [(0, .ref (w 0)), (1, .int a1)] := hl
  have q0 := hts (.fieldLink RX7 35 "SliceSharesModel" "thrown" "I") (by decide +kernel)
  have hinRX7 : ∀ w ∈ wsX70, w ∈ wsX7_termCount := by decide +kernel
  unfold F_X7_termCount at h
  refine lv_aload_n hx hb dX7_termCount_0 rfl (lv_at hl 0 rfl) ?_
  refine lv_iconst (v := (0 : Int32)) hx hb dX7_termCount_1 (by decide) ?_
  refine va_put (D := D) (ci := 5) (v := .int (0 : Int32)) (ty := .int) (C := RX7) (T := TX7) (N := 21) hx hb hts hinRX7 tyX7 tyX7_ok nmX7 hown hK hP hD hS 0 rfl rfl 0 (by decide) q0 (fun _ h9 => h9) rfl (by decide +kernel) rfl rfl (Nat.le_of_ble_eq_true rfl) dX7_termCount_2 (fun H locs hP hD hS => ?_)
  have hP : va_P D vwCl (MW w y (0 : Int32) ms mst smn msl mhs mtx mle mat mwl mrd mrm mtp mbt mtm mtn mnt mnb mun mum mau) H := hP
  have hD : va_D A (MW w y (0 : Int32) ms mst smn msl mhs mtx mle mat mwl mrd mrm mtp mbt mtm mtn mnt mnb mun mum mau) := hD
  refine lv_iload_n hx hb dX7_termCount_5 rfl (lv_at hl 1 rfl) ?_
  refine cT_i (As := [.int a1]) (rest := []) ⟨hx, hb, hml, hown, hts⟩ (c_X7_isPlate l D y _ a1) (va_cwS 1 hts gX7_termCount_X7_isPlate rfl rfl rfl hd_X7_isPlate ⟨Nat.le_of_ble_eq_true rfl, Nat.le_of_ble_eq_true rfl⟩) hK hP hD hS hA rfl hl.1 rfl (Nat.le_of_ble_eq_true rfl) dX7_termCount_6 ⟨Nat.le_of_ble_eq_true rfl, Nat.le_of_ble_eq_true rfl⟩ (fun H locs hP hD hS => ?_)
  refine lv_if_eq (tgt := 20) hx hb dX7_termCount_9 (by decide) (fun c1 => ?_) (fun c1 => ?_)
  · replace h := fT c1 h
    refine lv_aload_n hx hb dX7_termCount_20 rfl (lv_at hl 0 rfl) ?_
    refine lv_iconst (v := (1 : Int32)) hx hb dX7_termCount_21 (by decide) ?_
    obtain ⟨r2, th3, g4, h⟩ := fB2 h
    refine cV_i (As := [.int (1 : Int32)]) (rest := []) (ws1 := (MW w y th3 ms mst smn msl mhs mtx mle mat mwl mrd mrm mtp mbt mtm mtn mnt mnb mun mum mau)) ⟨hx, hb, hml, hown, hts⟩ (c_X7_fails l D w y _ (0 : Int32) ms mst smn msl mhs mtx mle mat mwl mrd mrm mtp mbt mtm mtn mnt mnb mun mum mau (1 : Int32) r2 th3 g4) (cwV 1 hts gX7_termCount_X7_fails rfl rfl rfl hd_X7_fails ⟨Nat.le_of_ble_eq_true rfl, Nat.le_of_ble_eq_true rfl⟩) hK hP hD hS hA [0, 1, 2, 3, 4, 5, 6, 7, 8] [] [0, 1, 2, 3, 4, 5, 6, 7, 8] rfl rfl rfl (by decide) rfl rfl rfl 0 (ci := 5) rfl rfl rfl hl.1 rfl (Nat.le_of_ble_eq_true rfl) dX7_termCount_22 ⟨Nat.le_of_ble_eq_true rfl, Nat.le_of_ble_eq_true rfl⟩ (fun H locs hP hD hS => ?_)
    cases h
    exact hE _ _ _ _ dX7_termCount_25 hP hD hS
  · replace h := fF c1 h
    refine lv_aload_n hx hb dX7_termCount_12 rfl (lv_at hl 0 rfl) ?_
    refine lv_iload_n hx hb dX7_termCount_13 rfl (lv_at hl 1 rfl) ?_
    obtain ⟨r5, mtm6, mtn7, g8, h⟩ := fB3 h
    refine cV_i (As := [.int a1]) (rest := []) (ws1 := (MW w y (0 : Int32) ms mst smn msl mhs mtx mle mat mwl mrd mrm mtp mbt mtm6 mtn7 mnt mnb mun mum mau)) ⟨hx, hb, hml, hown, hts⟩ (c_X7_countsTerms l D w y _ (0 : Int32) ms mst smn msl mhs mtx mle mat mwl mrd mrm mtp mbt mtm mtn mnt mnb mun mum mau a1 r5 mtm6 mtn7 g8) (cwV 1 hts gX7_termCount_X7_countsTerms rfl rfl rfl hd_X7_countsTerms ⟨Nat.le_of_ble_eq_true rfl, Nat.le_of_ble_eq_true rfl⟩) hK hP hD hS hA [0, 1, 2, 3, 4, 5, 6, 7, 8] [] [0, 1, 2, 3, 4, 5, 6, 7, 8] rfl rfl rfl (by decide) rfl rfl rfl 0 (ci := 5) rfl rfl rfl hl.1 rfl (Nat.le_of_ble_eq_true rfl) dX7_termCount_14 ⟨Nat.le_of_ble_eq_true rfl, Nat.le_of_ble_eq_true rfl⟩ (fun H locs hP hD hS => ?_)
    refine lv_goto (tgt := 25) hx hb dX7_termCount_17 (by decide) ?_
    cases h
    exact hE _ _ _ _ dX7_termCount_25 hP hD hS
abbrev rm_X7_termAt : Room := { frames := 3, cells := 0, slots := 0, locals := 67 }
theorem hd_X7_termAt : yX7_termAt.cls = RX7 ∧ yX7_termAt.cls ≠ "java/lang/invoke/MethodHandle" ∧ yX7_termAt.cls ≠ "java/lang/invoke/VarHandle" ∧ (parseMethodDescriptor yX7_termAt.desc).map (fun d => d.parameters.length) = some 2 := by decide +kernel
set_option maxHeartbeats 0 in
set_option maxRecDepth 100000 in
theorem c_X7_termAt (l : Launch) (D : va_G) (w : Nat → Nat) (y : Nat → ClassId) (sz : Nat) (th : Int32) (ms : Nat → Int32) (mst : Nat → Int32) (smn : Int32) (msl : Nat → Int32) (mhs : Nat → Int32) (mtx : Nat → Int32) (mle : Int32) (mat : Int32) (mwl : Int32) (mrd : Nat → Int32) (mrm : Int32) (mtp : Int64) (mbt : Int64) (mtm : Nat → Int32) (mtn : Int32) (mnt : Int32) (mnb : Int32) (mun : Nat → Int32) (mum : Int32) (mau : Int32) (a1 : Int32) (a2 : Int32) (r : Int32) (th' : Int32) (mtm' : Nat → Int32) (mtn' : Int32) (h : F_X7_termAt th ms mtm mtn a1 a2 = some (r, th', mtm', mtn')) : Met l yX7_termAt wsX7_termAt rm_X7_termAt (va_Pc [.ref (w 0), .int a1, .int a2] (px D y sz (MW w y th ms mst smn msl mhs mtx mle mat mwl mrd mrm mtp mbt mtm mtn mnt mnb mun mum mau))) (Qri D y sz (MW w y th ms mst smn msl mhs mtx mle mat mwl mrd mrm mtp mbt mtm mtn mnt mnb mun mum mau) (MW w y th' ms mst smn msl mhs mtx mle mat mwl mrd mrm mtp mbt mtm' mtn' mnt mnb mun mum mau) r) 0 0 (va_A (MW w y th ms mst smn msl mhs mtx mle mat mwl mrd mrm mtp mbt mtm mtn mnt mnb mun mum mau) sz) := by
  refine hd_i (cc := cX7_termAt) (maxL := 3) rfl rfl (Nat.le_of_ble_eq_true rfl) ?_
  intro p e s m args below meth c A Q H locs ls hx hb hml hts hown _ hA hP hD hK hS hl hE
  have hl : lv_has ls 3 [(0, .ref (w 0)), (1, .int a1), (2, .int a2)] := hl
  have q0 := hts (.fieldLink RX7 35 "SliceSharesModel" "thrown" "I") (by decide +kernel)
  have q1 := hts (.fieldLink RX7 29 "SliceSharesModel" "term" "[I") (by decide +kernel)
  have hinRX7 : ∀ w ∈ wsX70, w ∈ wsX7_termAt := by decide +kernel
  unfold F_X7_termAt at h
  refine lv_aload_n hx hb dX7_termAt_0 rfl (lv_at hl 0 rfl) ?_
  refine lv_iconst (v := (0 : Int32)) hx hb dX7_termAt_1 (by decide) ?_
  refine va_put (D := D) (ci := 5) (v := .int (0 : Int32)) (ty := .int) (C := RX7) (T := TX7) (N := 21) hx hb hts hinRX7 tyX7 tyX7_ok nmX7 hown hK hP hD hS 0 rfl rfl 0 (by decide) q0 (fun _ h9 => h9) rfl (by decide +kernel) rfl rfl (Nat.le_of_ble_eq_true rfl) dX7_termAt_2 (fun H locs hP hD hS => ?_)
  have hP : va_P D vwCl (MW w y (0 : Int32) ms mst smn msl mhs mtx mle mat mwl mrd mrm mtp mbt mtm mtn mnt mnb mun mum mau) H := hP
  have hD : va_D A (MW w y (0 : Int32) ms mst smn msl mhs mtx mle mat mwl mrd mrm mtp mbt mtm mtn mnt mnb mun mum mau) := hD
  refine lv_aload_n hx hb dX7_termAt_5 rfl (lv_at hl 0 rfl) ?_
  refine lv_iload_n hx hb dX7_termAt_6 rfl (lv_at hl 1 rfl) ?_
  refine lv_iload_n hx hb dX7_termAt_7 rfl (lv_at hl 2 rfl) ?_
  obtain ⟨r1, mtm2, mtn3, g4, h⟩ := fB3 h
  refine cV_i (As := [.int a1, .int a2]) (rest := []) (ws1 := (MW w y (0 : Int32) ms mst smn msl mhs mtx mle mat mwl mrd mrm mtp mbt mtm2 mtn3 mnt mnb mun mum mau)) ⟨hx, hb, hml, hown, hts⟩ (c_X7_isTerm l D w y _ (0 : Int32) ms mst smn msl mhs mtx mle mat mwl mrd mrm mtp mbt mtm mtn mnt mnb mun mum mau a1 a2 r1 mtm2 mtn3 g4) (cwV 2 hts gX7_termAt_X7_isTerm rfl rfl rfl hd_X7_isTerm ⟨Nat.le_of_ble_eq_true rfl, Nat.le_of_ble_eq_true rfl⟩) hK hP hD hS hA [0, 1, 2, 3, 4, 5, 6, 7, 8] [] [0, 1, 2, 3, 4, 5, 6, 7, 8] rfl rfl rfl (by decide) rfl rfl rfl 0 (ci := 5) rfl rfl rfl hl.1 rfl (Nat.le_of_ble_eq_true rfl) dX7_termAt_8 ⟨Nat.le_of_ble_eq_true rfl, Nat.le_of_ble_eq_true rfl⟩ (fun H locs hP hD hS => ?_)
  refine lv_if_eq (tgt := 23) hx hb dX7_termAt_11 (by decide) (fun c5 => ?_) (fun c5 => ?_)
  · replace h := fT c5 h
    refine lv_aload_n hx hb dX7_termAt_23 rfl (lv_at hl 0 rfl) ?_
    refine lv_iconst (v := (1 : Int32)) hx hb dX7_termAt_24 (by decide) ?_
    obtain ⟨r6, th7, g8, h⟩ := fB2 h
    refine cV_i (As := [.int (1 : Int32)]) (rest := []) (ws1 := (MW w y th7 ms mst smn msl mhs mtx mle mat mwl mrd mrm mtp mbt mtm2 mtn3 mnt mnb mun mum mau)) ⟨hx, hb, hml, hown, hts⟩ (c_X7_fails l D w y _ (0 : Int32) ms mst smn msl mhs mtx mle mat mwl mrd mrm mtp mbt mtm2 mtn3 mnt mnb mun mum mau (1 : Int32) r6 th7 g8) (cwV 1 hts gX7_termAt_X7_fails rfl rfl rfl hd_X7_fails ⟨Nat.le_of_ble_eq_true rfl, Nat.le_of_ble_eq_true rfl⟩) hK hP hD hS hA [0, 1, 2, 3, 4, 5, 6, 7, 8] [] [0, 1, 2, 3, 4, 5, 6, 7, 8] rfl rfl rfl (by decide) rfl rfl rfl 0 (ci := 5) rfl rfl rfl hl.1 rfl (Nat.le_of_ble_eq_true rfl) dX7_termAt_25 ⟨Nat.le_of_ble_eq_true rfl, Nat.le_of_ble_eq_true rfl⟩ (fun H locs hP hD hS => ?_)
    cases h
    exact hE _ _ _ _ dX7_termAt_28 hP hD hS
  · replace h := fF c5 h
    refine lv_aload_n hx hb dX7_termAt_14 rfl (lv_at hl 0 rfl) ?_
    refine va_get (D := D) (ci := 5) (C := RX7) (T := TX7) (N := 21) hx hb hts hinRX7 hown hK hP 0 rfl rfl 14 (by decide) q1 (fun _ h9 => h9) rfl dX7_termAt_15 ?_
    refine lv_iload_n hx hb dX7_termAt_18 rfl (lv_at hl 2 rfl) ?_
    obtain ⟨g9, h⟩ := fG h
    refine va_iald hx hb hK hP 7 0 rfl rfl g9 dX7_termAt_19 ?_
    refine lv_goto (tgt := 28) hx hb dX7_termAt_20 (by decide) ?_
    cases h
    exact hE _ _ _ _ dX7_termAt_28 hP hD hS
abbrev rm_X7_beginningNumerator : Room := { frames := 3, cells := 0, slots := 0, locals := 67 }
theorem hd_X7_beginningNumerator : yX7_beginningNumerator.cls = RX7 ∧ yX7_beginningNumerator.cls ≠ "java/lang/invoke/MethodHandle" ∧ yX7_beginningNumerator.cls ≠ "java/lang/invoke/VarHandle" ∧ (parseMethodDescriptor yX7_beginningNumerator.desc).map (fun d => d.parameters.length) = some 2 := by decide +kernel
set_option maxHeartbeats 0 in
set_option maxRecDepth 100000 in
theorem c_X7_beginningNumerator (l : Launch) (D : va_G) (w : Nat → Nat) (y : Nat → ClassId) (sz : Nat) (th : Int32) (ms : Nat → Int32) (mst : Nat → Int32) (smn : Int32) (msl : Nat → Int32) (mhs : Nat → Int32) (mtx : Nat → Int32) (mle : Int32) (mat : Int32) (mwl : Int32) (mrd : Nat → Int32) (mrm : Int32) (mtp : Int64) (mbt : Int64) (mtm : Nat → Int32) (mtn : Int32) (mnt : Int32) (mnb : Int32) (mun : Nat → Int32) (mum : Int32) (mau : Int32) (a1 : Int32) (a2 : Int32) (r : Int32) (th' : Int32) (mtp' : Int64) (mbt' : Int64) (mtm' : Nat → Int32) (mtn' : Int32) (h : F_X7_beginningNumerator th ms mtp mbt mtm mtn a1 a2 = some (r, th', mtp', mbt', mtm', mtn')) : Met l yX7_beginningNumerator wsX7_beginningNumerator rm_X7_beginningNumerator (va_Pc [.ref (w 0), .int a1, .int a2] (px D y sz (MW w y th ms mst smn msl mhs mtx mle mat mwl mrd mrm mtp mbt mtm mtn mnt mnb mun mum mau))) (Qri D y sz (MW w y th ms mst smn msl mhs mtx mle mat mwl mrd mrm mtp mbt mtm mtn mnt mnb mun mum mau) (MW w y th' ms mst smn msl mhs mtx mle mat mwl mrd mrm mtp' mbt' mtm' mtn' mnt mnb mun mum mau) r) 0 0 (va_A (MW w y th ms mst smn msl mhs mtx mle mat mwl mrd mrm mtp mbt mtm mtn mnt mnb mun mum mau) sz) := by
  refine hd_i (cc := cX7_beginningNumerator) (maxL := 3) rfl rfl (Nat.le_of_ble_eq_true rfl) ?_
  intro p e s m args below meth c A Q H locs ls hx hb hml hts hown _ hA hP hD hK hS hl hE
  have hl : lv_has ls 3 [(0, .ref (w 0)), (1, .int a1), (2, .int a2)] := hl
  have q0 := hts (.fieldLink RX7 35 "SliceSharesModel" "thrown" "I") (by decide +kernel)
  have q1 := hts (.fieldLink RX7 54 "SliceSharesModel" "top" "J") (by decide +kernel)
  have hinRX7 : ∀ w ∈ wsX70, w ∈ wsX7_beginningNumerator := by decide +kernel
  unfold F_X7_beginningNumerator at h
  refine lv_aload_n hx hb dX7_beginningNumerator_0 rfl (lv_at hl 0 rfl) ?_
  refine lv_iconst (v := (0 : Int32)) hx hb dX7_beginningNumerator_1 (by decide) ?_
  refine va_put (D := D) (ci := 5) (v := .int (0 : Int32)) (ty := .int) (C := RX7) (T := TX7) (N := 21) hx hb hts hinRX7 tyX7 tyX7_ok nmX7 hown hK hP hD hS 0 rfl rfl 0 (by decide) q0 (fun _ h9 => h9) rfl (by decide +kernel) rfl rfl (Nat.le_of_ble_eq_true rfl) dX7_beginningNumerator_2 (fun H locs hP hD hS => ?_)
  have hP : va_P D vwCl (MW w y (0 : Int32) ms mst smn msl mhs mtx mle mat mwl mrd mrm mtp mbt mtm mtn mnt mnb mun mum mau) H := hP
  have hD : va_D A (MW w y (0 : Int32) ms mst smn msl mhs mtx mle mat mwl mrd mrm mtp mbt mtm mtn mnt mnb mun mum mau) := hD
  refine lv_aload_n hx hb dX7_beginningNumerator_5 rfl (lv_at hl 0 rfl) ?_
  refine lv_iload_n hx hb dX7_beginningNumerator_6 rfl (lv_at hl 1 rfl) ?_
  refine lv_iload_n hx hb dX7_beginningNumerator_7 rfl (lv_at hl 2 rfl) ?_
  obtain ⟨r1, mtm2, mtn3, g4, h⟩ := fB3 h
  refine cV_i (As := [.int a1, .int a2]) (rest := []) (ws1 := (MW w y (0 : Int32) ms mst smn msl mhs mtx mle mat mwl mrd mrm mtp mbt mtm2 mtn3 mnt mnb mun mum mau)) ⟨hx, hb, hml, hown, hts⟩ (c_X7_isTerm l D w y _ (0 : Int32) ms mst smn msl mhs mtx mle mat mwl mrd mrm mtp mbt mtm mtn mnt mnb mun mum mau a1 a2 r1 mtm2 mtn3 g4) (cwV 2 hts gX7_beginningNumerator_X7_isTerm rfl rfl rfl hd_X7_isTerm ⟨Nat.le_of_ble_eq_true rfl, Nat.le_of_ble_eq_true rfl⟩) hK hP hD hS hA [0, 1, 2, 3, 4, 5, 6, 7, 8] [] [0, 1, 2, 3, 4, 5, 6, 7, 8] rfl rfl rfl (by decide) rfl rfl rfl 0 (ci := 5) rfl rfl rfl hl.1 rfl (Nat.le_of_ble_eq_true rfl) dX7_beginningNumerator_8 ⟨Nat.le_of_ble_eq_true rfl, Nat.le_of_ble_eq_true rfl⟩ (fun H locs hP hD hS => ?_)
  refine lv_if_ne (tgt := 20) hx hb dX7_beginningNumerator_11 (by decide) (fun c5 => ?_) (fun c5 => ?_)
  · replace h := fF c5 h
    refine lv_aload_n hx hb dX7_beginningNumerator_20 rfl (lv_at hl 0 rfl) ?_
    refine lv_iload_n hx hb dX7_beginningNumerator_21 rfl (lv_at hl 2 rfl) ?_
    obtain ⟨mtp6, mbt7, g8, h⟩ := fB2 h
    refine cV_v (As := [.int a2]) (rest := []) (ws1 := (MW w y (0 : Int32) ms mst smn msl mhs mtx mle mat mwl mrd mrm mtp6 mbt7 mtm2 mtn3 mnt mnb mun mum mau)) ⟨hx, hb, hml, hown, hts⟩ (c_X7_makesBeginning l D w y _ (0 : Int32) ms mst smn msl mhs mtx mle mat mwl mrd mrm mtp mbt mtm2 mtn3 mnt mnb mun mum mau a2 mtp6 mbt7 g8) (cwV 1 hts gX7_beginningNumerator_X7_makesBeginning rfl rfl rfl hd_X7_makesBeginning ⟨Nat.le_of_ble_eq_true rfl, Nat.le_of_ble_eq_true rfl⟩) hK hP hD hS hA [0, 1, 2, 3, 4, 5, 6, 7, 8] [] [0, 1, 2, 3, 4, 5, 6, 7, 8] rfl rfl rfl (by decide) rfl rfl rfl 0 (ci := 5) rfl rfl rfl hl.1 rfl (Nat.le_of_ble_eq_true rfl) dX7_beginningNumerator_22 ⟨Nat.le_of_ble_eq_true rfl, Nat.le_of_ble_eq_true rfl⟩ (fun H locs hP hD hS => ?_)
    refine lv_aload_n hx hb dX7_beginningNumerator_25 rfl (lv_at hl 0 rfl) ?_
    refine va_get (D := D) (ci := 5) (C := RX7) (T := TX7) (N := 21) hx hb hts hinRX7 hown hK hP 0 rfl rfl 12 (by decide) q1 (fun _ h9 => h9) rfl dX7_beginningNumerator_26 ?_
    refine lv_l2i (v := mtp6.toInt32) hx hb dX7_beginningNumerator_29 rfl ?_
    cases h
    exact hE _ _ _ _ dX7_beginningNumerator_30 hP hD hS
  · replace h := fT c5 h
    refine lv_aload_n hx hb dX7_beginningNumerator_14 rfl (lv_at hl 0 rfl) ?_
    refine lv_iconst (v := (1 : Int32)) hx hb dX7_beginningNumerator_15 (by decide) ?_
    obtain ⟨r9, th10, g11, h⟩ := fB2 h
    refine cV_i (As := [.int (1 : Int32)]) (rest := []) (ws1 := (MW w y th10 ms mst smn msl mhs mtx mle mat mwl mrd mrm mtp mbt mtm2 mtn3 mnt mnb mun mum mau)) ⟨hx, hb, hml, hown, hts⟩ (c_X7_fails l D w y _ (0 : Int32) ms mst smn msl mhs mtx mle mat mwl mrd mrm mtp mbt mtm2 mtn3 mnt mnb mun mum mau (1 : Int32) r9 th10 g11) (cwV 1 hts gX7_beginningNumerator_X7_fails rfl rfl rfl hd_X7_fails ⟨Nat.le_of_ble_eq_true rfl, Nat.le_of_ble_eq_true rfl⟩) hK hP hD hS hA [0, 1, 2, 3, 4, 5, 6, 7, 8] [] [0, 1, 2, 3, 4, 5, 6, 7, 8] rfl rfl rfl (by decide) rfl rfl rfl 0 (ci := 5) rfl rfl rfl hl.1 rfl (Nat.le_of_ble_eq_true rfl) dX7_beginningNumerator_16 ⟨Nat.le_of_ble_eq_true rfl, Nat.le_of_ble_eq_true rfl⟩ (fun H locs hP hD hS => ?_)
    cases h
    exact hE _ _ _ _ dX7_beginningNumerator_19 hP hD hS
abbrev rm_X7_beginningDenominator : Room := { frames := 3, cells := 0, slots := 0, locals := 67 }
theorem hd_X7_beginningDenominator : yX7_beginningDenominator.cls = RX7 ∧ yX7_beginningDenominator.cls ≠ "java/lang/invoke/MethodHandle" ∧ yX7_beginningDenominator.cls ≠ "java/lang/invoke/VarHandle" ∧ (parseMethodDescriptor yX7_beginningDenominator.desc).map (fun d => d.parameters.length) = some 2 := by decide +kernel
set_option maxHeartbeats 0 in
set_option maxRecDepth 100000 in
theorem c_X7_beginningDenominator (l : Launch) (D : va_G) (w : Nat → Nat) (y : Nat → ClassId) (sz : Nat) (th : Int32) (ms : Nat → Int32) (mst : Nat → Int32) (smn : Int32) (msl : Nat → Int32) (mhs : Nat → Int32) (mtx : Nat → Int32) (mle : Int32) (mat : Int32) (mwl : Int32) (mrd : Nat → Int32) (mrm : Int32) (mtp : Int64) (mbt : Int64) (mtm : Nat → Int32) (mtn : Int32) (mnt : Int32) (mnb : Int32) (mun : Nat → Int32) (mum : Int32) (mau : Int32) (a1 : Int32) (a2 : Int32) (r : Int32) (th' : Int32) (mtp' : Int64) (mbt' : Int64) (mtm' : Nat → Int32) (mtn' : Int32) (h : F_X7_beginningDenominator th ms mtp mbt mtm mtn a1 a2 = some (r, th', mtp', mbt', mtm', mtn')) : Met l yX7_beginningDenominator wsX7_beginningDenominator rm_X7_beginningDenominator (va_Pc [.ref (w 0), .int a1, .int a2] (px D y sz (MW w y th ms mst smn msl mhs mtx mle mat mwl mrd mrm mtp mbt mtm mtn mnt mnb mun mum mau))) (Qri D y sz (MW w y th ms mst smn msl mhs mtx mle mat mwl mrd mrm mtp mbt mtm mtn mnt mnb mun mum mau) (MW w y th' ms mst smn msl mhs mtx mle mat mwl mrd mrm mtp' mbt' mtm' mtn' mnt mnb mun mum mau) r) 0 0 (va_A (MW w y th ms mst smn msl mhs mtx mle mat mwl mrd mrm mtp mbt mtm mtn mnt mnb mun mum mau) sz) := by
  refine hd_i (cc := cX7_beginningDenominator) (maxL := 3) rfl rfl (Nat.le_of_ble_eq_true rfl) ?_
  intro p e s m args below meth c A Q H locs ls hx hb hml hts hown _ hA hP hD hK hS hl hE
  have hl : lv_has ls 3 [(0, .ref (w 0)), (1, .int a1), (2, .int a2)] := hl
  have q0 := hts (.fieldLink RX7 35 "SliceSharesModel" "thrown" "I") (by decide +kernel)
  have q1 := hts (.fieldLink RX7 58 "SliceSharesModel" "bottom" "J") (by decide +kernel)
  have hinRX7 : ∀ w ∈ wsX70, w ∈ wsX7_beginningDenominator := by decide +kernel
  unfold F_X7_beginningDenominator at h
  refine lv_aload_n hx hb dX7_beginningDenominator_0 rfl (lv_at hl 0 rfl) ?_
  refine lv_iconst (v := (0 : Int32)) hx hb dX7_beginningDenominator_1 (by decide) ?_
  refine va_put (D := D) (ci := 5) (v := .int (0 : Int32)) (ty := .int) (C := RX7) (T := TX7) (N := 21) hx hb hts hinRX7 tyX7 tyX7_ok nmX7 hown hK hP hD hS 0 rfl rfl 0 (by decide) q0 (fun _ h9 => h9) rfl (by decide +kernel) rfl rfl (Nat.le_of_ble_eq_true rfl) dX7_beginningDenominator_2 (fun H locs hP hD hS => ?_)
  have hP : va_P D vwCl (MW w y (0 : Int32) ms mst smn msl mhs mtx mle mat mwl mrd mrm mtp mbt mtm mtn mnt mnb mun mum mau) H := hP
  have hD : va_D A (MW w y (0 : Int32) ms mst smn msl mhs mtx mle mat mwl mrd mrm mtp mbt mtm mtn mnt mnb mun mum mau) := hD
  refine lv_aload_n hx hb dX7_beginningDenominator_5 rfl (lv_at hl 0 rfl) ?_
  refine lv_iload_n hx hb dX7_beginningDenominator_6 rfl (lv_at hl 1 rfl) ?_
  refine lv_iload_n hx hb dX7_beginningDenominator_7 rfl (lv_at hl 2 rfl) ?_
  obtain ⟨r1, mtm2, mtn3, g4, h⟩ := fB3 h
  refine cV_i (As := [.int a1, .int a2]) (rest := []) (ws1 := (MW w y (0 : Int32) ms mst smn msl mhs mtx mle mat mwl mrd mrm mtp mbt mtm2 mtn3 mnt mnb mun mum mau)) ⟨hx, hb, hml, hown, hts⟩ (c_X7_isTerm l D w y _ (0 : Int32) ms mst smn msl mhs mtx mle mat mwl mrd mrm mtp mbt mtm mtn mnt mnb mun mum mau a1 a2 r1 mtm2 mtn3 g4) (cwV 2 hts gX7_beginningDenominator_X7_isTerm rfl rfl rfl hd_X7_isTerm ⟨Nat.le_of_ble_eq_true rfl, Nat.le_of_ble_eq_true rfl⟩) hK hP hD hS hA [0, 1, 2, 3, 4, 5, 6, 7, 8] [] [0, 1, 2, 3, 4, 5, 6, 7, 8] rfl rfl rfl (by decide) rfl rfl rfl 0 (ci := 5) rfl rfl rfl hl.1 rfl (Nat.le_of_ble_eq_true rfl) dX7_beginningDenominator_8 ⟨Nat.le_of_ble_eq_true rfl, Nat.le_of_ble_eq_true rfl⟩ (fun H locs hP hD hS => ?_)
  refine lv_if_ne (tgt := 20) hx hb dX7_beginningDenominator_11 (by decide) (fun c5 => ?_) (fun c5 => ?_)
  · replace h := fF c5 h
    refine lv_aload_n hx hb dX7_beginningDenominator_20 rfl (lv_at hl 0 rfl) ?_
    refine lv_iload_n hx hb dX7_beginningDenominator_21 rfl (lv_at hl 2 rfl) ?_
    obtain ⟨mtp6, mbt7, g8, h⟩ := fB2 h
    refine cV_v (As := [.int a2]) (rest := []) (ws1 := (MW w y (0 : Int32) ms mst smn msl mhs mtx mle mat mwl mrd mrm mtp6 mbt7 mtm2 mtn3 mnt mnb mun mum mau)) ⟨hx, hb, hml, hown, hts⟩ (c_X7_makesBeginning l D w y _ (0 : Int32) ms mst smn msl mhs mtx mle mat mwl mrd mrm mtp mbt mtm2 mtn3 mnt mnb mun mum mau a2 mtp6 mbt7 g8) (cwV 1 hts gX7_beginningDenominator_X7_makesBeginning rfl rfl rfl hd_X7_makesBeginning ⟨Nat.le_of_ble_eq_true rfl, Nat.le_of_ble_eq_true rfl⟩) hK hP hD hS hA [0, 1, 2, 3, 4, 5, 6, 7, 8] [] [0, 1, 2, 3, 4, 5, 6, 7, 8] rfl rfl rfl (by decide) rfl rfl rfl 0 (ci := 5) rfl rfl rfl hl.1 rfl (Nat.le_of_ble_eq_true rfl) dX7_beginningDenominator_22 ⟨Nat.le_of_ble_eq_true rfl, Nat.le_of_ble_eq_true rfl⟩ (fun H locs hP hD hS => ?_)
    refine lv_aload_n hx hb dX7_beginningDenominator_25 rfl (lv_at hl 0 rfl) ?_
    refine va_get (D := D) (ci := 5) (C := RX7) (T := TX7) (N := 21) hx hb hts hinRX7 hown hK hP 0 rfl rfl 13 (by decide) q1 (fun _ h9 => h9) rfl dX7_beginningDenominator_26 ?_
    refine lv_l2i (v := mbt7.toInt32) hx hb dX7_beginningDenominator_29 rfl ?_
    cases h
    exact hE _ _ _ _ dX7_beginningDenominator_30 hP hD hS
  · replace h := fT c5 h
    refine lv_aload_n hx hb dX7_beginningDenominator_14 rfl (lv_at hl 0 rfl) ?_
    refine lv_iconst (v := (1 : Int32)) hx hb dX7_beginningDenominator_15 (by decide) ?_
    obtain ⟨r9, th10, g11, h⟩ := fB2 h
    refine cV_i (As := [.int (1 : Int32)]) (rest := []) (ws1 := (MW w y th10 ms mst smn msl mhs mtx mle mat mwl mrd mrm mtp mbt mtm2 mtn3 mnt mnb mun mum mau)) ⟨hx, hb, hml, hown, hts⟩ (c_X7_fails l D w y _ (0 : Int32) ms mst smn msl mhs mtx mle mat mwl mrd mrm mtp mbt mtm2 mtn3 mnt mnb mun mum mau (1 : Int32) r9 th10 g11) (cwV 1 hts gX7_beginningDenominator_X7_fails rfl rfl rfl hd_X7_fails ⟨Nat.le_of_ble_eq_true rfl, Nat.le_of_ble_eq_true rfl⟩) hK hP hD hS hA [0, 1, 2, 3, 4, 5, 6, 7, 8] [] [0, 1, 2, 3, 4, 5, 6, 7, 8] rfl rfl rfl (by decide) rfl rfl rfl 0 (ci := 5) rfl rfl rfl hl.1 rfl (Nat.le_of_ble_eq_true rfl) dX7_beginningDenominator_16 ⟨Nat.le_of_ble_eq_true rfl, Nat.le_of_ble_eq_true rfl⟩ (fun H locs hP hD hS => ?_)
    cases h
    exact hE _ _ _ _ dX7_beginningDenominator_19 hP hD hS
abbrev rm_X7_isNear : Room := { frames := 2, cells := 0, slots := 0, locals := 52 }
theorem hd_X7_isNear : yX7_isNear.cls = RX7 ∧ yX7_isNear.cls ≠ "java/lang/invoke/MethodHandle" ∧ yX7_isNear.cls ≠ "java/lang/invoke/VarHandle" ∧ (parseMethodDescriptor yX7_isNear.desc).map (fun d => d.parameters.length) = some 2 := by decide +kernel
set_option maxHeartbeats 0 in
set_option maxRecDepth 100000 in
theorem c_X7_isNear (l : Launch) (D : va_G) (w : Nat → Nat) (y : Nat → ClassId) (sz : Nat) (th : Int32) (ms : Nat → Int32) (mst : Nat → Int32) (smn : Int32) (msl : Nat → Int32) (mhs : Nat → Int32) (mtx : Nat → Int32) (mle : Int32) (mat : Int32) (mwl : Int32) (mrd : Nat → Int32) (mrm : Int32) (mtp : Int64) (mbt : Int64) (mtm : Nat → Int32) (mtn : Int32) (mnt : Int32) (mnb : Int32) (mun : Nat → Int32) (mum : Int32) (mau : Int32) (a1 : Int32) (a2 : Int32) (r : Int32) (th' : Int32) (mnt' : Int32) (mnb' : Int32) (h : F_X7_isNear th ms mnt mnb a1 a2 = some (r, th', mnt', mnb')) : Met l yX7_isNear wsX7_isNear rm_X7_isNear (va_Pc [.ref (w 0), .int a1, .int a2] (px D y sz (MW w y th ms mst smn msl mhs mtx mle mat mwl mrd mrm mtp mbt mtm mtn mnt mnb mun mum mau))) (Qri D y sz (MW w y th ms mst smn msl mhs mtx mle mat mwl mrd mrm mtp mbt mtm mtn mnt mnb mun mum mau) (MW w y th' ms mst smn msl mhs mtx mle mat mwl mrd mrm mtp mbt mtm mtn mnt' mnb' mun mum mau) r) 0 0 (va_A (MW w y th ms mst smn msl mhs mtx mle mat mwl mrd mrm mtp mbt mtm mtn mnt mnb mun mum mau) sz) := by
  refine hd_z (cc := cX7_isNear) (maxL := 3) (rt := .boolean) rfl rfl (Nat.le_of_ble_eq_true rfl) ?_
  intro p e s m args below meth c A Q H locs ls hx hb hml hts hown _ hA hP hD hK hS hl hE
  have hl : lv_has ls 3 [(0, .ref (w 0)), (1, .int a1), (2, .int a2)] := hl
  have q0 := hts (.fieldLink RX7 35 "SliceSharesModel" "thrown" "I") (by decide +kernel)
  have hinRX7 : ∀ w ∈ wsX70, w ∈ wsX7_isNear := by decide +kernel
  unfold F_X7_isNear at h
  refine lv_aload_n hx hb dX7_isNear_0 rfl (lv_at hl 0 rfl) ?_
  refine lv_iload_n hx hb dX7_isNear_1 rfl (lv_at hl 1 rfl) ?_
  refine cT_i (As := [.int a1]) (rest := [.ref (w 0)]) ⟨hx, hb, hml, hown, hts⟩ (c_X7_isPlate l D y _ a1) (va_cwS 1 hts gX7_isNear_X7_isPlate rfl rfl rfl hd_X7_isPlate ⟨Nat.le_of_ble_eq_true rfl, Nat.le_of_ble_eq_true rfl⟩) hK hP hD hS hA rfl hl.1 rfl (Nat.le_of_ble_eq_true rfl) dX7_isNear_2 ⟨Nat.le_of_ble_eq_true rfl, Nat.le_of_ble_eq_true rfl⟩ (fun H locs hP hD hS => ?_)
  have J1 : ∀ (v2 : Int32) (H : Heap) (locs : List Loc) (ls : Array Slot), v2 = (if (F_X7_isPlate a1) = (0 : Int32) then (1 : Int32) else (if (F_X7_isGreatest a2) = (0 : Int32) then (2 : Int32) else (0 : Int32))) → va_P D vwCl (MW w y th ms mst smn msl mhs mtx mle mat mwl mrd mrm mtp mbt mtm mtn mnt mnb mun mum mau) H → va_S A s.heap H locs → lv_has ls 3 [(0, .ref (w 0)), (1, .int a1), (2, .int a2)] → W p l e rm_X7_isNear s m args below meth c H locs 0 0 Q (F0 m 24 ls [.int v2, .ref (w 0)]) := by
    intro v2 H locs ls ev2 hP hS hl
    subst ev2
    refine va_put (D := D) (ci := 5) (v := .int (if (F_X7_isPlate a1) = (0 : Int32) then (1 : Int32) else (if (F_X7_isGreatest a2) = (0 : Int32) then (2 : Int32) else (0 : Int32)))) (ty := .int) (C := RX7) (T := TX7) (N := 21) hx hb hts hinRX7 tyX7 tyX7_ok nmX7 hown hK hP hD hS 0 rfl rfl 0 (by decide) q0 (fun _ h9 => h9) rfl (by decide +kernel) rfl rfl (Nat.le_of_ble_eq_true rfl) dX7_isNear_24 (fun H locs hP hD hS => ?_)
    have hP : va_P D vwCl (MW w y (if (F_X7_isPlate a1) = (0 : Int32) then (1 : Int32) else (if (F_X7_isGreatest a2) = (0 : Int32) then (2 : Int32) else (0 : Int32))) ms mst smn msl mhs mtx mle mat mwl mrd mrm mtp mbt mtm mtn mnt mnb mun mum mau) H := hP
    have hD : va_D A (MW w y (if (F_X7_isPlate a1) = (0 : Int32) then (1 : Int32) else (if (F_X7_isGreatest a2) = (0 : Int32) then (2 : Int32) else (0 : Int32))) ms mst smn msl mhs mtx mle mat mwl mrd mrm mtp mbt mtm mtn mnt mnb mun mum mau) := hD
    refine lv_aload_n hx hb dX7_isNear_27 rfl (lv_at hl 0 rfl) ?_
    refine va_get (D := D) (ci := 5) (C := RX7) (T := TX7) (N := 21) hx hb hts hinRX7 hown hK hP 0 rfl rfl 0 (by decide) q0 (fun _ h9 => h9) rfl dX7_isNear_28 ?_
    obtain ⟨mnt3, mnb4, g5, h⟩ := fB2 h
    have J6 : ∀ (H : Heap) (locs : List Loc) (ls : Array Slot), va_P D vwCl (MW w y (if (F_X7_isPlate a1) = (0 : Int32) then (1 : Int32) else (if (F_X7_isGreatest a2) = (0 : Int32) then (2 : Int32) else (0 : Int32))) ms mst smn msl mhs mtx mle mat mwl mrd mrm mtp mbt mtm mtn mnt3 mnb4 mun mum mau) H → va_D A (MW w y (if (F_X7_isPlate a1) = (0 : Int32) then (1 : Int32) else (if (F_X7_isGreatest a2) = (0 : Int32) then (2 : Int32) else (0 : Int32))) ms mst smn msl mhs mtx mle mat mwl mrd mrm mtp mbt mtm mtn mnt3 mnb4 mun mum mau) → va_S A s.heap H locs → lv_has ls 3 [(0, .ref (w 0)), (1, .int a1), (2, .int a2)] → W p l e rm_X7_isNear s m args below meth c H locs 0 0 Q (F0 m 40 ls []) := by
      intro H locs ls hP hD hS hl
      refine lv_aload_n hx hb dX7_isNear_40 rfl (lv_at hl 0 rfl) ?_
      refine va_get (D := D) (ci := 5) (C := RX7) (T := TX7) (N := 21) hx hb hts hinRX7 hown hK hP 0 rfl rfl 0 (by decide) q0 (fun _ h9 => h9) rfl dX7_isNear_41 ?_
      have J7 : ∀ (v8 : Int32) (ls : Array Slot), v8 = (if (if (F_X7_isPlate a1) = (0 : Int32) then (1 : Int32) else (if (F_X7_isGreatest a2) = (0 : Int32) then (2 : Int32) else (0 : Int32))) = (0 : Int32) then (1 : Int32) else (0 : Int32)) → lv_has ls 3 [(0, .ref (w 0)), (1, .int a1), (2, .int a2)] → W p l e rm_X7_isNear s m args below meth c H locs 0 0 Q (F0 m 52 ls [.int v8]) := by
        intro v8 ls ev8 hl
        subst ev8
        cases h
        exact hE _ _ _ _ dX7_isNear_52 hP hD hS (nz01 (z01 (Or.inr rfl) (Or.inl rfl)))
      refine lv_if_ne (tgt := 51) hx hb dX7_isNear_44 (by decide) (fun c9 => ?_) (fun c9 => ?_)
      · refine lv_iconst (v := (0 : Int32)) hx hb dX7_isNear_51 (by decide) ?_
        exact J7 _ _ (by rw [if_neg c9]) (lv_sub hl [0, 1, 2] rfl)
      · refine lv_iconst (v := (1 : Int32)) hx hb dX7_isNear_47 (by decide) ?_
        refine lv_goto (tgt := 52) hx hb dX7_isNear_48 (by decide) ?_
        exact J7 _ _ (by rw [if_pos c9]) (lv_sub hl [0, 1, 2] rfl)
    refine lv_if_ne (tgt := 40) hx hb dX7_isNear_31 (by decide) (fun c10 => ?_) (fun c10 => ?_)
    · replace g5 := fF c10 g5
      cases g5
      exact J6 _ _ _ hP hD hS (lv_sub hl [0, 1, 2] rfl)
    · replace g5 := fT c10 g5
      refine lv_aload_n hx hb dX7_isNear_34 rfl (lv_at hl 0 rfl) ?_
      refine lv_iload_n hx hb dX7_isNear_35 rfl (lv_at hl 1 rfl) ?_
      refine lv_iload_n hx hb dX7_isNear_36 rfl (lv_at hl 2 rfl) ?_
      obtain ⟨mnt11, mnb12, g13, g5⟩ := fB2 g5
      refine cV_v (As := [.int a1, .int a2]) (rest := []) (ws1 := (MW w y (if (F_X7_isPlate a1) = (0 : Int32) then (1 : Int32) else (if (F_X7_isGreatest a2) = (0 : Int32) then (2 : Int32) else (0 : Int32))) ms mst smn msl mhs mtx mle mat mwl mrd mrm mtp mbt mtm mtn mnt11 mnb12 mun mum mau)) ⟨hx, hb, hml, hown, hts⟩ (c_X7_tellsNearest l D w y _ (if (F_X7_isPlate a1) = (0 : Int32) then (1 : Int32) else (if (F_X7_isGreatest a2) = (0 : Int32) then (2 : Int32) else (0 : Int32))) ms mst smn msl mhs mtx mle mat mwl mrd mrm mtp mbt mtm mtn mnt mnb mun mum mau a1 a2 mnt11 mnb12 g13) (cwV 2 hts gX7_isNear_X7_tellsNearest rfl rfl rfl hd_X7_tellsNearest ⟨Nat.le_of_ble_eq_true rfl, Nat.le_of_ble_eq_true rfl⟩) hK hP hD hS hA [0, 1, 2, 3, 4, 5, 6, 7, 8] [] [0, 1, 2, 3, 4, 5, 6, 7, 8] rfl rfl rfl (by decide) rfl rfl rfl 0 (ci := 5) rfl rfl rfl hl.1 rfl (Nat.le_of_ble_eq_true rfl) dX7_isNear_37 ⟨Nat.le_of_ble_eq_true rfl, Nat.le_of_ble_eq_true rfl⟩ (fun H locs hP hD hS => ?_)
      cases g5
      exact J6 _ _ _ hP hD hS (lv_sub hl [0, 1, 2] rfl)
  refine lv_if_ne (tgt := 12) hx hb dX7_isNear_5 (by decide) (fun c14 => ?_) (fun c14 => ?_)
  · refine lv_iload_n hx hb dX7_isNear_12 rfl (lv_at hl 2 rfl) ?_
    refine cT_i (As := [.int a2]) (rest := [.ref (w 0)]) ⟨hx, hb, hml, hown, hts⟩ (c_X7_isGreatest l D y _ a2) (va_cwS 1 hts gX7_isNear_X7_isGreatest rfl rfl rfl hd_X7_isGreatest ⟨Nat.le_of_ble_eq_true rfl, Nat.le_of_ble_eq_true rfl⟩) hK hP hD hS hA rfl hl.1 rfl (Nat.le_of_ble_eq_true rfl) dX7_isNear_13 ⟨Nat.le_of_ble_eq_true rfl, Nat.le_of_ble_eq_true rfl⟩ (fun H locs hP hD hS => ?_)
    refine lv_if_ne (tgt := 23) hx hb dX7_isNear_16 (by decide) (fun c15 => ?_) (fun c15 => ?_)
    · refine lv_iconst (v := (0 : Int32)) hx hb dX7_isNear_23 (by decide) ?_
      exact J1 _ _ _ _ (by rw [if_neg c14, if_neg c15]) hP hS (lv_sub hl [0, 1, 2] rfl)
    · refine lv_iconst (v := (2 : Int32)) hx hb dX7_isNear_19 (by decide) ?_
      refine lv_goto (tgt := 24) hx hb dX7_isNear_20 (by decide) ?_
      exact J1 _ _ _ _ (by rw [if_neg c14, if_pos c15]) hP hS (lv_sub hl [0, 1, 2] rfl)
  · refine lv_iconst (v := (1 : Int32)) hx hb dX7_isNear_8 (by decide) ?_
    refine lv_goto (tgt := 24) hx hb dX7_isNear_9 (by decide) ?_
    exact J1 _ _ _ _ (by rw [if_pos c14]) hP hS (lv_sub hl [0, 1, 2] rfl)
abbrev rm_X7_nearestDenominator : Room := { frames := 3, cells := 0, slots := 0, locals := 74 }
theorem hd_X7_nearestDenominator : yX7_nearestDenominator.cls = RX7 ∧ yX7_nearestDenominator.cls ≠ "java/lang/invoke/MethodHandle" ∧ yX7_nearestDenominator.cls ≠ "java/lang/invoke/VarHandle" ∧ (parseMethodDescriptor yX7_nearestDenominator.desc).map (fun d => d.parameters.length) = some 2 := by decide +kernel
set_option maxHeartbeats 0 in
set_option maxRecDepth 100000 in
theorem c_X7_nearestDenominator (l : Launch) (D : va_G) (w : Nat → Nat) (y : Nat → ClassId) (sz : Nat) (th : Int32) (ms : Nat → Int32) (mst : Nat → Int32) (smn : Int32) (msl : Nat → Int32) (mhs : Nat → Int32) (mtx : Nat → Int32) (mle : Int32) (mat : Int32) (mwl : Int32) (mrd : Nat → Int32) (mrm : Int32) (mtp : Int64) (mbt : Int64) (mtm : Nat → Int32) (mtn : Int32) (mnt : Int32) (mnb : Int32) (mun : Nat → Int32) (mum : Int32) (mau : Int32) (a1 : Int32) (a2 : Int32) (r : Int32) (th' : Int32) (mnt' : Int32) (mnb' : Int32) (h : F_X7_nearestDenominator th ms mnt mnb a1 a2 = some (r, th', mnt', mnb')) : Met l yX7_nearestDenominator wsX7_nearestDenominator rm_X7_nearestDenominator (va_Pc [.ref (w 0), .int a1, .int a2] (px D y sz (MW w y th ms mst smn msl mhs mtx mle mat mwl mrd mrm mtp mbt mtm mtn mnt mnb mun mum mau))) (Qri D y sz (MW w y th ms mst smn msl mhs mtx mle mat mwl mrd mrm mtp mbt mtm mtn mnt mnb mun mum mau) (MW w y th' ms mst smn msl mhs mtx mle mat mwl mrd mrm mtp mbt mtm mtn mnt' mnb' mun mum mau) r) 0 0 (va_A (MW w y th ms mst smn msl mhs mtx mle mat mwl mrd mrm mtp mbt mtm mtn mnt mnb mun mum mau) sz) := by
  refine hd_i (cc := cX7_nearestDenominator) (maxL := 3) rfl rfl (Nat.le_of_ble_eq_true rfl) ?_
  intro p e s m args below meth c A Q H locs ls hx hb hml hts hown _ hA hP hD hK hS hl hE
  have hl : lv_has ls 3 [(0, .ref (w 0)), (1, .int a1), (2, .int a2)] := hl
  have q0 := hts (.fieldLink RX7 83 "SliceSharesModel" "nearBottom" "I") (by decide +kernel)
  have hinRX7 : ∀ w ∈ wsX70, w ∈ wsX7_nearestDenominator := by decide +kernel
  unfold F_X7_nearestDenominator at h
  refine lv_aload_n hx hb dX7_nearestDenominator_0 rfl (lv_at hl 0 rfl) ?_
  refine lv_iload_n hx hb dX7_nearestDenominator_1 rfl (lv_at hl 1 rfl) ?_
  refine lv_iload_n hx hb dX7_nearestDenominator_2 rfl (lv_at hl 2 rfl) ?_
  obtain ⟨r1, th2, mnt3, mnb4, g5, h⟩ := fB4 h
  refine cV_i (As := [.int a1, .int a2]) (rest := []) (ws1 := (MW w y th2 ms mst smn msl mhs mtx mle mat mwl mrd mrm mtp mbt mtm mtn mnt3 mnb4 mun mum mau)) ⟨hx, hb, hml, hown, hts⟩ (c_X7_isNear l D w y _ th ms mst smn msl mhs mtx mle mat mwl mrd mrm mtp mbt mtm mtn mnt mnb mun mum mau a1 a2 r1 th2 mnt3 mnb4 g5) (cwV 2 hts gX7_nearestDenominator_X7_isNear rfl rfl rfl hd_X7_isNear ⟨Nat.le_of_ble_eq_true rfl, Nat.le_of_ble_eq_true rfl⟩) hK hP hD hS hA [0, 1, 2, 3, 4, 5, 6, 7, 8] [] [0, 1, 2, 3, 4, 5, 6, 7, 8] rfl rfl rfl (by decide) rfl rfl rfl 0 (ci := 5) rfl rfl rfl hl.1 rfl (Nat.le_of_ble_eq_true rfl) dX7_nearestDenominator_3 ⟨Nat.le_of_ble_eq_true rfl, Nat.le_of_ble_eq_true rfl⟩ (fun H locs hP hD hS => ?_)
  have J6 : ∀ (v7 : Int32) (ls : Array Slot), v7 = (if r1 = (0 : Int32) then (0 : Int32) else mnb4) → lv_has ls 3 [(0, .ref (w 0)), (1, .int a1), (2, .int a2)] → W p l e rm_X7_nearestDenominator s m args below meth c H locs 0 0 Q (F0 m 17 ls [.int v7]) := by
    intro v7 ls ev7 hl
    subst ev7
    cases h
    exact hE _ _ _ _ dX7_nearestDenominator_17 hP hD hS
  refine lv_if_eq (tgt := 16) hx hb dX7_nearestDenominator_6 (by decide) (fun c8 => ?_) (fun c8 => ?_)
  · refine lv_iconst (v := (0 : Int32)) hx hb dX7_nearestDenominator_16 (by decide) ?_
    exact J6 _ _ (by rw [if_pos c8]) (lv_sub hl [0, 1, 2] rfl)
  · refine lv_aload_n hx hb dX7_nearestDenominator_9 rfl (lv_at hl 0 rfl) ?_
    refine va_get (D := D) (ci := 5) (C := RX7) (T := TX7) (N := 21) hx hb hts hinRX7 hown hK hP 0 rfl rfl 17 (by decide) q0 (fun _ h9 => h9) rfl dX7_nearestDenominator_10 ?_
    refine lv_goto (tgt := 17) hx hb dX7_nearestDenominator_13 (by decide) ?_
    exact J6 _ _ (by rw [if_neg c8]) (lv_sub hl [0, 1, 2] rfl)
abbrev rm_X7_nearestByTrying : Room := { frames := 3, cells := 0, slots := 0, locals := 74 }
theorem hd_X7_nearestByTrying : yX7_nearestByTrying.cls = RX7 ∧ yX7_nearestByTrying.cls ≠ "java/lang/invoke/MethodHandle" ∧ yX7_nearestByTrying.cls ≠ "java/lang/invoke/VarHandle" ∧ (parseMethodDescriptor yX7_nearestByTrying.desc).map (fun d => d.parameters.length) = some 2 := by decide +kernel
set_option maxHeartbeats 0 in
set_option maxRecDepth 100000 in
theorem c_X7_nearestByTrying (l : Launch) (D : va_G) (w : Nat → Nat) (y : Nat → ClassId) (sz : Nat) (th : Int32) (ms : Nat → Int32) (mst : Nat → Int32) (smn : Int32) (msl : Nat → Int32) (mhs : Nat → Int32) (mtx : Nat → Int32) (mle : Int32) (mat : Int32) (mwl : Int32) (mrd : Nat → Int32) (mrm : Int32) (mtp : Int64) (mbt : Int64) (mtm : Nat → Int32) (mtn : Int32) (mnt : Int32) (mnb : Int32) (mun : Nat → Int32) (mum : Int32) (mau : Int32) (a1 : Int32) (a2 : Int32) (r : Int32) (th' : Int32) (mnt' : Int32) (mnb' : Int32) (h : F_X7_nearestByTrying th ms mnt mnb a1 a2 = some (r, th', mnt', mnb')) : Met l yX7_nearestByTrying wsX7_nearestByTrying rm_X7_nearestByTrying (va_Pc [.ref (w 0), .int a1, .int a2] (px D y sz (MW w y th ms mst smn msl mhs mtx mle mat mwl mrd mrm mtp mbt mtm mtn mnt mnb mun mum mau))) (Qri D y sz (MW w y th ms mst smn msl mhs mtx mle mat mwl mrd mrm mtp mbt mtm mtn mnt mnb mun mum mau) (MW w y th' ms mst smn msl mhs mtx mle mat mwl mrd mrm mtp mbt mtm mtn mnt' mnb' mun mum mau) r) 0 0 (va_A (MW w y th ms mst smn msl mhs mtx mle mat mwl mrd mrm mtp mbt mtm mtn mnt mnb mun mum mau) sz) := by
  refine hd_i (cc := cX7_nearestByTrying) (maxL := 3) rfl rfl (Nat.le_of_ble_eq_true rfl) ?_
  intro p e s m args below meth c A Q H locs ls hx hb hml hts hown _ hA hP hD hK hS hl hE
  have hl : lv_has ls 3 [(0, .ref (w 0)), (1, .int a1), (2, .int a2)] := hl
  have q0 := hts (.fieldLink RX7 83 "SliceSharesModel" "nearBottom" "I") (by decide +kernel)
  have hinRX7 : ∀ w ∈ wsX70, w ∈ wsX7_nearestByTrying := by decide +kernel
  unfold F_X7_nearestByTrying at h
  refine lv_aload_n hx hb dX7_nearestByTrying_0 rfl (lv_at hl 0 rfl) ?_
  refine lv_iload_n hx hb dX7_nearestByTrying_1 rfl (lv_at hl 1 rfl) ?_
  refine lv_iload_n hx hb dX7_nearestByTrying_2 rfl (lv_at hl 2 rfl) ?_
  obtain ⟨r1, th2, mnt3, mnb4, g5, h⟩ := fB4 h
  refine cV_i (As := [.int a1, .int a2]) (rest := []) (ws1 := (MW w y th2 ms mst smn msl mhs mtx mle mat mwl mrd mrm mtp mbt mtm mtn mnt3 mnb4 mun mum mau)) ⟨hx, hb, hml, hown, hts⟩ (c_X7_isNear l D w y _ th ms mst smn msl mhs mtx mle mat mwl mrd mrm mtp mbt mtm mtn mnt mnb mun mum mau a1 a2 r1 th2 mnt3 mnb4 g5) (cwV 2 hts gX7_nearestByTrying_X7_isNear rfl rfl rfl hd_X7_isNear ⟨Nat.le_of_ble_eq_true rfl, Nat.le_of_ble_eq_true rfl⟩) hK hP hD hS hA [0, 1, 2, 3, 4, 5, 6, 7, 8] [] [0, 1, 2, 3, 4, 5, 6, 7, 8] rfl rfl rfl (by decide) rfl rfl rfl 0 (ci := 5) rfl rfl rfl hl.1 rfl (Nat.le_of_ble_eq_true rfl) dX7_nearestByTrying_3 ⟨Nat.le_of_ble_eq_true rfl, Nat.le_of_ble_eq_true rfl⟩ (fun H locs hP hD hS => ?_)
  have J6 : ∀ (v7 : Int32) (ls : Array Slot), v7 = (if r1 = (0 : Int32) then (0 : Int32) else mnb4) → lv_has ls 3 [(0, .ref (w 0)), (1, .int a1), (2, .int a2)] → W p l e rm_X7_nearestByTrying s m args below meth c H locs 0 0 Q (F0 m 17 ls [.int v7]) := by
    intro v7 ls ev7 hl
    subst ev7
    cases h
    exact hE _ _ _ _ dX7_nearestByTrying_17 hP hD hS
  refine lv_if_eq (tgt := 16) hx hb dX7_nearestByTrying_6 (by decide) (fun c8 => ?_) (fun c8 => ?_)
  · refine lv_iconst (v := (0 : Int32)) hx hb dX7_nearestByTrying_16 (by decide) ?_
    exact J6 _ _ (by rw [if_pos c8]) (lv_sub hl [0, 1, 2] rfl)
  · refine lv_aload_n hx hb dX7_nearestByTrying_9 rfl (lv_at hl 0 rfl) ?_
    refine va_get (D := D) (ci := 5) (C := RX7) (T := TX7) (N := 21) hx hb hts hinRX7 hown hK hP 0 rfl rfl 17 (by decide) q0 (fun _ h9 => h9) rfl dX7_nearestByTrying_10 ?_
    refine lv_goto (tgt := 17) hx hb dX7_nearestByTrying_13 (by decide) ?_
    exact J6 _ _ (by rw [if_neg c8]) (lv_sub hl [0, 1, 2] rfl)
abbrev rm_X7_nearestNumerator : Room := { frames := 3, cells := 0, slots := 0, locals := 74 }
theorem hd_X7_nearestNumerator : yX7_nearestNumerator.cls = RX7 ∧ yX7_nearestNumerator.cls ≠ "java/lang/invoke/MethodHandle" ∧ yX7_nearestNumerator.cls ≠ "java/lang/invoke/VarHandle" ∧ (parseMethodDescriptor yX7_nearestNumerator.desc).map (fun d => d.parameters.length) = some 2 := by decide +kernel
set_option maxHeartbeats 0 in
set_option maxRecDepth 100000 in
theorem c_X7_nearestNumerator (l : Launch) (D : va_G) (w : Nat → Nat) (y : Nat → ClassId) (sz : Nat) (th : Int32) (ms : Nat → Int32) (mst : Nat → Int32) (smn : Int32) (msl : Nat → Int32) (mhs : Nat → Int32) (mtx : Nat → Int32) (mle : Int32) (mat : Int32) (mwl : Int32) (mrd : Nat → Int32) (mrm : Int32) (mtp : Int64) (mbt : Int64) (mtm : Nat → Int32) (mtn : Int32) (mnt : Int32) (mnb : Int32) (mun : Nat → Int32) (mum : Int32) (mau : Int32) (a1 : Int32) (a2 : Int32) (r : Int32) (th' : Int32) (mnt' : Int32) (mnb' : Int32) (h : F_X7_nearestNumerator th ms mnt mnb a1 a2 = some (r, th', mnt', mnb')) : Met l yX7_nearestNumerator wsX7_nearestNumerator rm_X7_nearestNumerator (va_Pc [.ref (w 0), .int a1, .int a2] (px D y sz (MW w y th ms mst smn msl mhs mtx mle mat mwl mrd mrm mtp mbt mtm mtn mnt mnb mun mum mau))) (Qri D y sz (MW w y th ms mst smn msl mhs mtx mle mat mwl mrd mrm mtp mbt mtm mtn mnt mnb mun mum mau) (MW w y th' ms mst smn msl mhs mtx mle mat mwl mrd mrm mtp mbt mtm mtn mnt' mnb' mun mum mau) r) 0 0 (va_A (MW w y th ms mst smn msl mhs mtx mle mat mwl mrd mrm mtp mbt mtm mtn mnt mnb mun mum mau) sz) := by
  refine hd_i (cc := cX7_nearestNumerator) (maxL := 3) rfl rfl (Nat.le_of_ble_eq_true rfl) ?_
  intro p e s m args below meth c A Q H locs ls hx hb hml hts hown _ hA hP hD hK hS hl hE
  have hl : lv_has ls 3 [(0, .ref (w 0)), (1, .int a1), (2, .int a2)] := hl
  have q0 := hts (.fieldLink RX7 86 "SliceSharesModel" "nearTop" "I") (by decide +kernel)
  have hinRX7 : ∀ w ∈ wsX70, w ∈ wsX7_nearestNumerator := by decide +kernel
  unfold F_X7_nearestNumerator at h
  refine lv_aload_n hx hb dX7_nearestNumerator_0 rfl (lv_at hl 0 rfl) ?_
  refine lv_iload_n hx hb dX7_nearestNumerator_1 rfl (lv_at hl 1 rfl) ?_
  refine lv_iload_n hx hb dX7_nearestNumerator_2 rfl (lv_at hl 2 rfl) ?_
  obtain ⟨r1, th2, mnt3, mnb4, g5, h⟩ := fB4 h
  refine cV_i (As := [.int a1, .int a2]) (rest := []) (ws1 := (MW w y th2 ms mst smn msl mhs mtx mle mat mwl mrd mrm mtp mbt mtm mtn mnt3 mnb4 mun mum mau)) ⟨hx, hb, hml, hown, hts⟩ (c_X7_isNear l D w y _ th ms mst smn msl mhs mtx mle mat mwl mrd mrm mtp mbt mtm mtn mnt mnb mun mum mau a1 a2 r1 th2 mnt3 mnb4 g5) (cwV 2 hts gX7_nearestNumerator_X7_isNear rfl rfl rfl hd_X7_isNear ⟨Nat.le_of_ble_eq_true rfl, Nat.le_of_ble_eq_true rfl⟩) hK hP hD hS hA [0, 1, 2, 3, 4, 5, 6, 7, 8] [] [0, 1, 2, 3, 4, 5, 6, 7, 8] rfl rfl rfl (by decide) rfl rfl rfl 0 (ci := 5) rfl rfl rfl hl.1 rfl (Nat.le_of_ble_eq_true rfl) dX7_nearestNumerator_3 ⟨Nat.le_of_ble_eq_true rfl, Nat.le_of_ble_eq_true rfl⟩ (fun H locs hP hD hS => ?_)
  have J6 : ∀ (v7 : Int32) (ls : Array Slot), v7 = (if r1 = (0 : Int32) then (0 : Int32) else mnt3) → lv_has ls 3 [(0, .ref (w 0)), (1, .int a1), (2, .int a2)] → W p l e rm_X7_nearestNumerator s m args below meth c H locs 0 0 Q (F0 m 17 ls [.int v7]) := by
    intro v7 ls ev7 hl
    subst ev7
    cases h
    exact hE _ _ _ _ dX7_nearestNumerator_17 hP hD hS
  refine lv_if_eq (tgt := 16) hx hb dX7_nearestNumerator_6 (by decide) (fun c8 => ?_) (fun c8 => ?_)
  · refine lv_iconst (v := (0 : Int32)) hx hb dX7_nearestNumerator_16 (by decide) ?_
    exact J6 _ _ (by rw [if_pos c8]) (lv_sub hl [0, 1, 2] rfl)
  · refine lv_aload_n hx hb dX7_nearestNumerator_9 rfl (lv_at hl 0 rfl) ?_
    refine va_get (D := D) (ci := 5) (C := RX7) (T := TX7) (N := 21) hx hb hts hinRX7 hown hK hP 0 rfl rfl 16 (by decide) q0 (fun _ h9 => h9) rfl dX7_nearestNumerator_10 ?_
    refine lv_goto (tgt := 17) hx hb dX7_nearestNumerator_13 (by decide) ?_
    exact J6 _ _ (by rw [if_neg c8]) (lv_sub hl [0, 1, 2] rfl)
abbrev rm_X7_isLess : Room := { frames := 1, cells := 0, slots := 0, locals := 21 }
theorem hd_X7_isLess : yX7_isLess.cls = RX7 ∧ yX7_isLess.cls ≠ "java/lang/invoke/MethodHandle" ∧ yX7_isLess.cls ≠ "java/lang/invoke/VarHandle" ∧ (parseMethodDescriptor yX7_isLess.desc).map (fun d => d.parameters.length) = some 1 := by decide +kernel
set_option maxHeartbeats 0 in
set_option maxRecDepth 100000 in
theorem c_X7_isLess (l : Launch) (D : va_G) (w : Nat → Nat) (y : Nat → ClassId) (sz : Nat) (th : Int32) (ms : Nat → Int32) (mst : Nat → Int32) (smn : Int32) (msl : Nat → Int32) (mhs : Nat → Int32) (mtx : Nat → Int32) (mle : Int32) (mat : Int32) (mwl : Int32) (mrd : Nat → Int32) (mrm : Int32) (mtp : Int64) (mbt : Int64) (mtm : Nat → Int32) (mtn : Int32) (mnt : Int32) (mnb : Int32) (mun : Nat → Int32) (mum : Int32) (mau : Int32) (a1 : Int32) (r : Int32) (h : F_X7_isLess ms a1 = some r) : Met l yX7_isLess wsX7_isLess rm_X7_isLess (va_Pc [.ref (w 0), .int a1] (px D y sz (MW w y th ms mst smn msl mhs mtx mle mat mwl mrd mrm mtp mbt mtm mtn mnt mnb mun mum mau))) (Qri D y sz (MW w y th ms mst smn msl mhs mtx mle mat mwl mrd mrm mtp mbt mtm mtn mnt mnb mun mum mau) (MW w y th ms mst smn msl mhs mtx mle mat mwl mrd mrm mtp mbt mtm mtn mnt mnb mun mum mau) r) 0 0 (va_A (MW w y th ms mst smn msl mhs mtx mle mat mwl mrd mrm mtp mbt mtm mtn mnt mnb mun mum mau) sz) := by
  refine hd_z (cc := cX7_isLess) (maxL := 2) (rt := .boolean) rfl rfl (Nat.le_of_ble_eq_true rfl) ?_
  intro p e s m args below meth c A Q H locs ls hx hb hml hts hown _ hA hP hD hK hS hl hE
  have hl : lv_has ls 2 [(0, .ref (w 0)), (1, .int a1)] := hl
  unfold F_X7_isLess at h
  refine lv_aload_n hx hb dX7_isLess_0 rfl (lv_at hl 0 rfl) ?_
  refine lv_iload_n hx hb dX7_isLess_1 rfl (lv_at hl 1 rfl) ?_
  obtain ⟨r1, g2, h⟩ := fB1 h
  refine cV_i (As := [.int a1]) (rest := []) (ws1 := (MW w y th ms mst smn msl mhs mtx mle mat mwl mrd mrm mtp mbt mtm mtn mnt mnb mun mum mau)) ⟨hx, hb, hml, hown, hts⟩ (c_X7_above l D w y _ th ms mst smn msl mhs mtx mle mat mwl mrd mrm mtp mbt mtm mtn mnt mnb mun mum mau a1 r1 g2) (cwV 1 hts gX7_isLess_X7_above rfl rfl rfl hd_X7_above ⟨Nat.le_of_ble_eq_true rfl, Nat.le_of_ble_eq_true rfl⟩) hK hP hD hS hA [0, 1, 2, 3, 4, 5, 6, 7, 8] [] [0, 1, 2, 3, 4, 5, 6, 7, 8] rfl rfl rfl (by decide) rfl rfl rfl 0 (ci := 5) rfl rfl rfl hl.1 rfl (Nat.le_of_ble_eq_true rfl) dX7_isLess_2 ⟨Nat.le_of_ble_eq_true rfl, Nat.le_of_ble_eq_true rfl⟩ (fun H locs hP hD hS => ?_)
  refine lv_aload_n hx hb dX7_isLess_5 rfl (lv_at hl 0 rfl) ?_
  refine lv_iload_n hx hb dX7_isLess_6 rfl (lv_at hl 1 rfl) ?_
  obtain ⟨r3, g4, h⟩ := fB1 h
  refine cV_i (As := [.int a1]) (rest := [.int r1]) (ws1 := (MW w y th ms mst smn msl mhs mtx mle mat mwl mrd mrm mtp mbt mtm mtn mnt mnb mun mum mau)) ⟨hx, hb, hml, hown, hts⟩ (c_X7_below l D w y _ th ms mst smn msl mhs mtx mle mat mwl mrd mrm mtp mbt mtm mtn mnt mnb mun mum mau a1 r3 g4) (cwV 1 hts gX7_isLess_X7_below rfl rfl rfl hd_X7_below ⟨Nat.le_of_ble_eq_true rfl, Nat.le_of_ble_eq_true rfl⟩) hK hP hD hS hA [0, 1, 2, 3, 4, 5, 6, 7, 8] [] [0, 1, 2, 3, 4, 5, 6, 7, 8] rfl rfl rfl (by decide) rfl rfl rfl 0 (ci := 5) rfl rfl rfl hl.1 rfl (Nat.le_of_ble_eq_true rfl) dX7_isLess_7 ⟨Nat.le_of_ble_eq_true rfl, Nat.le_of_ble_eq_true rfl⟩ (fun H locs hP hD hS => ?_)
  have J5 : ∀ (v6 : Int32) (ls : Array Slot), v6 = (if r3 ≤ r1 then (0 : Int32) else (1 : Int32)) → lv_has ls 2 [(0, .ref (w 0)), (1, .int a1)] → W p l e rm_X7_isLess s m args below meth c H locs 0 0 Q (F0 m 18 ls [.int v6]) := by
    intro v6 ls ev6 hl
    subst ev6
    cases h
    exact hE _ _ _ _ dX7_isLess_18 hP hD hS (nz01 (z01 (Or.inl rfl) (Or.inr rfl)))
  refine lv_icmp_ge (tgt := 17) hx hb dX7_isLess_10 (by decide) (fun c7 => ?_) (fun c7 => ?_)
  · refine lv_iconst (v := (0 : Int32)) hx hb dX7_isLess_17 (by decide) ?_
    exact J5 _ _ (by rw [if_pos c7]) (lv_sub hl [0, 1] rfl)
  · refine lv_iconst (v := (1 : Int32)) hx hb dX7_isLess_13 (by decide) ?_
    refine lv_goto (tgt := 18) hx hb dX7_isLess_14 (by decide) ?_
    exact J5 _ _ (by rw [if_neg c7]) (lv_sub hl [0, 1] rfl)
abbrev rm_X7_unitCount : Room := { frames := 2, cells := 0, slots := 0, locals := 58 }
theorem hd_X7_unitCount : yX7_unitCount.cls = RX7 ∧ yX7_unitCount.cls ≠ "java/lang/invoke/MethodHandle" ∧ yX7_unitCount.cls ≠ "java/lang/invoke/VarHandle" ∧ (parseMethodDescriptor yX7_unitCount.desc).map (fun d => d.parameters.length) = some 1 := by decide +kernel
set_option maxHeartbeats 0 in
set_option maxRecDepth 100000 in
theorem c_X7_unitCount (l : Launch) (D : va_G) (w : Nat → Nat) (y : Nat → ClassId) (sz : Nat) (th : Int32) (ms : Nat → Int32) (mst : Nat → Int32) (smn : Int32) (msl : Nat → Int32) (mhs : Nat → Int32) (mtx : Nat → Int32) (mle : Int32) (mat : Int32) (mwl : Int32) (mrd : Nat → Int32) (mrm : Int32) (mtp : Int64) (mbt : Int64) (mtm : Nat → Int32) (mtn : Int32) (mnt : Int32) (mnb : Int32) (mun : Nat → Int32) (mum : Int32) (mau : Int32) (a1 : Int32) (r : Int32) (th' : Int32) (mun' : Nat → Int32) (mum' : Int32) (mau' : Int32) (h : F_X7_unitCount th ms mun mum mau a1 = some (r, th', mun', mum', mau')) : Met l yX7_unitCount wsX7_unitCount rm_X7_unitCount (va_Pc [.ref (w 0), .int a1] (px D y sz (MW w y th ms mst smn msl mhs mtx mle mat mwl mrd mrm mtp mbt mtm mtn mnt mnb mun mum mau))) (Qri D y sz (MW w y th ms mst smn msl mhs mtx mle mat mwl mrd mrm mtp mbt mtm mtn mnt mnb mun mum mau) (MW w y th' ms mst smn msl mhs mtx mle mat mwl mrd mrm mtp mbt mtm mtn mnt mnb mun' mum' mau') r) 0 0 (va_A (MW w y th ms mst smn msl mhs mtx mle mat mwl mrd mrm mtp mbt mtm mtn mnt mnb mun mum mau) sz) := by
  refine hd_i (cc := cX7_unitCount) (maxL := 2) rfl rfl (Nat.le_of_ble_eq_true rfl) ?_
  intro p e s m args below meth c A Q H locs ls hx hb hml hts hown _ hA hP hD hK hS hl hE
  have hl : lv_has ls 2 [(0, .ref (w 0)), (1, .int a1)] := hl
  have q0 := hts (.fieldLink RX7 35 "SliceSharesModel" "thrown" "I") (by decide +kernel)
  have q1 := hts (.fieldLink RX7 92 "SliceSharesModel" "areUnits" "Z") (by decide +kernel)
  have q2 := hts (.fieldLink RX7 89 "SliceSharesModel" "unitMany" "I") (by decide +kernel)
  have hinRX7 : ∀ w ∈ wsX70, w ∈ wsX7_unitCount := by decide +kernel
  unfold F_X7_unitCount at h
  refine lv_aload_n hx hb dX7_unitCount_0 rfl (lv_at hl 0 rfl) ?_
  refine lv_iconst (v := (0 : Int32)) hx hb dX7_unitCount_1 (by decide) ?_
  refine va_put (D := D) (ci := 5) (v := .int (0 : Int32)) (ty := .int) (C := RX7) (T := TX7) (N := 21) hx hb hts hinRX7 tyX7 tyX7_ok nmX7 hown hK hP hD hS 0 rfl rfl 0 (by decide) q0 (fun _ h9 => h9) rfl (by decide +kernel) rfl rfl (Nat.le_of_ble_eq_true rfl) dX7_unitCount_2 (fun H locs hP hD hS => ?_)
  have hP : va_P D vwCl (MW w y (0 : Int32) ms mst smn msl mhs mtx mle mat mwl mrd mrm mtp mbt mtm mtn mnt mnb mun mum mau) H := hP
  have hD : va_D A (MW w y (0 : Int32) ms mst smn msl mhs mtx mle mat mwl mrd mrm mtp mbt mtm mtn mnt mnb mun mum mau) := hD
  refine lv_iload_n hx hb dX7_unitCount_5 rfl (lv_at hl 1 rfl) ?_
  refine cT_i (As := [.int a1]) (rest := []) ⟨hx, hb, hml, hown, hts⟩ (c_X7_isPlate l D y _ a1) (va_cwS 1 hts gX7_unitCount_X7_isPlate rfl rfl rfl hd_X7_isPlate ⟨Nat.le_of_ble_eq_true rfl, Nat.le_of_ble_eq_true rfl⟩) hK hP hD hS hA rfl hl.1 rfl (Nat.le_of_ble_eq_true rfl) dX7_unitCount_6 ⟨Nat.le_of_ble_eq_true rfl, Nat.le_of_ble_eq_true rfl⟩ (fun H locs hP hD hS => ?_)
  refine lv_if_ne (tgt := 18) hx hb dX7_unitCount_9 (by decide) (fun c1 => ?_) (fun c1 => ?_)
  · replace h := fF c1 h
    refine lv_aload_n hx hb dX7_unitCount_18 rfl (lv_at hl 0 rfl) ?_
    refine lv_iload_n hx hb dX7_unitCount_19 rfl (lv_at hl 1 rfl) ?_
    obtain ⟨r2, g3, h⟩ := fB1 h
    refine cV_i (As := [.int a1]) (rest := []) (ws1 := (MW w y (0 : Int32) ms mst smn msl mhs mtx mle mat mwl mrd mrm mtp mbt mtm mtn mnt mnb mun mum mau)) ⟨hx, hb, hml, hown, hts⟩ (c_X7_isLess l D w y _ (0 : Int32) ms mst smn msl mhs mtx mle mat mwl mrd mrm mtp mbt mtm mtn mnt mnb mun mum mau a1 r2 g3) (cwV 1 hts gX7_unitCount_X7_isLess rfl rfl rfl hd_X7_isLess ⟨Nat.le_of_ble_eq_true rfl, Nat.le_of_ble_eq_true rfl⟩) hK hP hD hS hA [0, 1, 2, 3, 4, 5, 6, 7, 8] [] [0, 1, 2, 3, 4, 5, 6, 7, 8] rfl rfl rfl (by decide) rfl rfl rfl 0 (ci := 5) rfl rfl rfl hl.1 rfl (Nat.le_of_ble_eq_true rfl) dX7_unitCount_20 ⟨Nat.le_of_ble_eq_true rfl, Nat.le_of_ble_eq_true rfl⟩ (fun H locs hP hD hS => ?_)
    refine lv_if_ne (tgt := 32) hx hb dX7_unitCount_23 (by decide) (fun c4 => ?_) (fun c4 => ?_)
    · replace h := fF c4 h
      refine lv_aload_n hx hb dX7_unitCount_32 rfl (lv_at hl 0 rfl) ?_
      refine lv_iload_n hx hb dX7_unitCount_33 rfl (lv_at hl 1 rfl) ?_
      obtain ⟨mun5, mum6, mau7, g8, h⟩ := fB3 h
      refine cV_v (As := [.int a1]) (rest := []) (ws1 := (MW w y (0 : Int32) ms mst smn msl mhs mtx mle mat mwl mrd mrm mtp mbt mtm mtn mnt mnb mun5 mum6 mau7)) ⟨hx, hb, hml, hown, hts⟩ (c_X7_tellsUnits l D w y _ (0 : Int32) ms mst smn msl mhs mtx mle mat mwl mrd mrm mtp mbt mtm mtn mnt mnb mun mum mau a1 mun5 mum6 mau7 g8) (cwV 1 hts gX7_unitCount_X7_tellsUnits rfl rfl rfl hd_X7_tellsUnits ⟨Nat.le_of_ble_eq_true rfl, Nat.le_of_ble_eq_true rfl⟩) hK hP hD hS hA [0, 1, 2, 3, 4, 5, 6, 7, 8] [] [0, 1, 2, 3, 4, 5, 6, 7, 8] rfl rfl rfl (by decide) rfl rfl rfl 0 (ci := 5) rfl rfl rfl hl.1 rfl (Nat.le_of_ble_eq_true rfl) dX7_unitCount_34 ⟨Nat.le_of_ble_eq_true rfl, Nat.le_of_ble_eq_true rfl⟩ (fun H locs hP hD hS => ?_)
      refine lv_aload_n hx hb dX7_unitCount_37 rfl (lv_at hl 0 rfl) ?_
      refine va_get (D := D) (ci := 5) (C := RX7) (T := TX7) (N := 21) hx hb hts hinRX7 hown hK hP 0 rfl rfl 20 (by decide) q1 (fun _ h9 => h9) rfl dX7_unitCount_38 ?_
      have J9 : ∀ (v10 : Int32) (ls : Array Slot), v10 = (if mau7 = (0 : Int32) then (-1 : Int32) else mum6) → lv_has ls 2 [(0, .ref (w 0)), (1, .int a1)] → W p l e rm_X7_unitCount s m args below meth c H locs 0 0 Q (F0 m 52 ls [.int v10]) := by
        intro v10 ls ev10 hl
        subst ev10
        cases h
        exact hE _ _ _ _ dX7_unitCount_52 hP hD hS
      refine lv_if_eq (tgt := 51) hx hb dX7_unitCount_41 (by decide) (fun c11 => ?_) (fun c11 => ?_)
      · refine lv_iconst (v := (-1 : Int32)) hx hb dX7_unitCount_51 (by decide) ?_
        exact J9 _ _ (by rw [if_pos c11]) (lv_sub hl [0, 1] rfl)
      · refine lv_aload_n hx hb dX7_unitCount_44 rfl (lv_at hl 0 rfl) ?_
        refine va_get (D := D) (ci := 5) (C := RX7) (T := TX7) (N := 21) hx hb hts hinRX7 hown hK hP 0 rfl rfl 19 (by decide) q2 (fun _ h9 => h9) rfl dX7_unitCount_45 ?_
        refine lv_goto (tgt := 52) hx hb dX7_unitCount_48 (by decide) ?_
        exact J9 _ _ (by rw [if_neg c11]) (lv_sub hl [0, 1] rfl)
    · replace h := fT c4 h
      refine lv_aload_n hx hb dX7_unitCount_26 rfl (lv_at hl 0 rfl) ?_
      refine lv_iconst (v := (2 : Int32)) hx hb dX7_unitCount_27 (by decide) ?_
      obtain ⟨r12, th13, g14, h⟩ := fB2 h
      refine cV_i (As := [.int (2 : Int32)]) (rest := []) (ws1 := (MW w y th13 ms mst smn msl mhs mtx mle mat mwl mrd mrm mtp mbt mtm mtn mnt mnb mun mum mau)) ⟨hx, hb, hml, hown, hts⟩ (c_X7_fails l D w y _ (0 : Int32) ms mst smn msl mhs mtx mle mat mwl mrd mrm mtp mbt mtm mtn mnt mnb mun mum mau (2 : Int32) r12 th13 g14) (cwV 1 hts gX7_unitCount_X7_fails rfl rfl rfl hd_X7_fails ⟨Nat.le_of_ble_eq_true rfl, Nat.le_of_ble_eq_true rfl⟩) hK hP hD hS hA [0, 1, 2, 3, 4, 5, 6, 7, 8] [] [0, 1, 2, 3, 4, 5, 6, 7, 8] rfl rfl rfl (by decide) rfl rfl rfl 0 (ci := 5) rfl rfl rfl hl.1 rfl (Nat.le_of_ble_eq_true rfl) dX7_unitCount_28 ⟨Nat.le_of_ble_eq_true rfl, Nat.le_of_ble_eq_true rfl⟩ (fun H locs hP hD hS => ?_)
      cases h
      exact hE _ _ _ _ dX7_unitCount_31 hP hD hS
  · replace h := fT c1 h
    refine lv_aload_n hx hb dX7_unitCount_12 rfl (lv_at hl 0 rfl) ?_
    refine lv_iconst (v := (1 : Int32)) hx hb dX7_unitCount_13 (by decide) ?_
    obtain ⟨r15, th16, g17, h⟩ := fB2 h
    refine cV_i (As := [.int (1 : Int32)]) (rest := []) (ws1 := (MW w y th16 ms mst smn msl mhs mtx mle mat mwl mrd mrm mtp mbt mtm mtn mnt mnb mun mum mau)) ⟨hx, hb, hml, hown, hts⟩ (c_X7_fails l D w y _ (0 : Int32) ms mst smn msl mhs mtx mle mat mwl mrd mrm mtp mbt mtm mtn mnt mnb mun mum mau (1 : Int32) r15 th16 g17) (cwV 1 hts gX7_unitCount_X7_fails rfl rfl rfl hd_X7_fails ⟨Nat.le_of_ble_eq_true rfl, Nat.le_of_ble_eq_true rfl⟩) hK hP hD hS hA [0, 1, 2, 3, 4, 5, 6, 7, 8] [] [0, 1, 2, 3, 4, 5, 6, 7, 8] rfl rfl rfl (by decide) rfl rfl rfl 0 (ci := 5) rfl rfl rfl hl.1 rfl (Nat.le_of_ble_eq_true rfl) dX7_unitCount_14 ⟨Nat.le_of_ble_eq_true rfl, Nat.le_of_ble_eq_true rfl⟩ (fun H locs hP hD hS => ?_)
    cases h
    exact hE _ _ _ _ dX7_unitCount_17 hP hD hS
abbrev rm_X7_unitAt : Room := { frames := 2, cells := 0, slots := 0, locals := 58 }
theorem hd_X7_unitAt : yX7_unitAt.cls = RX7 ∧ yX7_unitAt.cls ≠ "java/lang/invoke/MethodHandle" ∧ yX7_unitAt.cls ≠ "java/lang/invoke/VarHandle" ∧ (parseMethodDescriptor yX7_unitAt.desc).map (fun d => d.parameters.length) = some 2 := by decide +kernel
set_option maxHeartbeats 0 in
set_option maxRecDepth 100000 in
theorem c_X7_unitAt (l : Launch) (D : va_G) (w : Nat → Nat) (y : Nat → ClassId) (sz : Nat) (th : Int32) (ms : Nat → Int32) (mst : Nat → Int32) (smn : Int32) (msl : Nat → Int32) (mhs : Nat → Int32) (mtx : Nat → Int32) (mle : Int32) (mat : Int32) (mwl : Int32) (mrd : Nat → Int32) (mrm : Int32) (mtp : Int64) (mbt : Int64) (mtm : Nat → Int32) (mtn : Int32) (mnt : Int32) (mnb : Int32) (mun : Nat → Int32) (mum : Int32) (mau : Int32) (a1 : Int32) (a2 : Int32) (r : Int32) (th' : Int32) (mun' : Nat → Int32) (mum' : Int32) (mau' : Int32) (h : F_X7_unitAt th ms mun mum mau a1 a2 = some (r, th', mun', mum', mau')) : Met l yX7_unitAt wsX7_unitAt rm_X7_unitAt (va_Pc [.ref (w 0), .int a1, .int a2] (px D y sz (MW w y th ms mst smn msl mhs mtx mle mat mwl mrd mrm mtp mbt mtm mtn mnt mnb mun mum mau))) (Qri D y sz (MW w y th ms mst smn msl mhs mtx mle mat mwl mrd mrm mtp mbt mtm mtn mnt mnb mun mum mau) (MW w y th' ms mst smn msl mhs mtx mle mat mwl mrd mrm mtp mbt mtm mtn mnt mnb mun' mum' mau') r) 0 0 (va_A (MW w y th ms mst smn msl mhs mtx mle mat mwl mrd mrm mtp mbt mtm mtn mnt mnb mun mum mau) sz) := by
  refine hd_i (cc := cX7_unitAt) (maxL := 3) rfl rfl (Nat.le_of_ble_eq_true rfl) ?_
  intro p e s m args below meth c A Q H locs ls hx hb hml hts hown _ hA hP hD hK hS hl hE
  have hl : lv_has ls 3 [(0, .ref (w 0)), (1, .int a1), (2, .int a2)] := hl
  have q0 := hts (.fieldLink RX7 35 "SliceSharesModel" "thrown" "I") (by decide +kernel)
  have q1 := hts (.fieldLink RX7 89 "SliceSharesModel" "unitMany" "I") (by decide +kernel)
  have q2 := hts (.fieldLink RX7 32 "SliceSharesModel" "unit" "[I") (by decide +kernel)
  have hinRX7 : ∀ w ∈ wsX70, w ∈ wsX7_unitAt := by decide +kernel
  unfold F_X7_unitAt at h
  refine lv_aload_n hx hb dX7_unitAt_0 rfl (lv_at hl 0 rfl) ?_
  refine lv_iconst (v := (0 : Int32)) hx hb dX7_unitAt_1 (by decide) ?_
  refine va_put (D := D) (ci := 5) (v := .int (0 : Int32)) (ty := .int) (C := RX7) (T := TX7) (N := 21) hx hb hts hinRX7 tyX7 tyX7_ok nmX7 hown hK hP hD hS 0 rfl rfl 0 (by decide) q0 (fun _ h9 => h9) rfl (by decide +kernel) rfl rfl (Nat.le_of_ble_eq_true rfl) dX7_unitAt_2 (fun H locs hP hD hS => ?_)
  have hP : va_P D vwCl (MW w y (0 : Int32) ms mst smn msl mhs mtx mle mat mwl mrd mrm mtp mbt mtm mtn mnt mnb mun mum mau) H := hP
  have hD : va_D A (MW w y (0 : Int32) ms mst smn msl mhs mtx mle mat mwl mrd mrm mtp mbt mtm mtn mnt mnb mun mum mau) := hD
  refine lv_iload_n hx hb dX7_unitAt_5 rfl (lv_at hl 1 rfl) ?_
  refine cT_i (As := [.int a1]) (rest := []) ⟨hx, hb, hml, hown, hts⟩ (c_X7_isPlate l D y _ a1) (va_cwS 1 hts gX7_unitAt_X7_isPlate rfl rfl rfl hd_X7_isPlate ⟨Nat.le_of_ble_eq_true rfl, Nat.le_of_ble_eq_true rfl⟩) hK hP hD hS hA rfl hl.1 rfl (Nat.le_of_ble_eq_true rfl) dX7_unitAt_6 ⟨Nat.le_of_ble_eq_true rfl, Nat.le_of_ble_eq_true rfl⟩ (fun H locs hP hD hS => ?_)
  refine lv_if_eq (tgt := 21) hx hb dX7_unitAt_9 (by decide) (fun c1 => ?_) (fun c1 => ?_)
  · replace h := fT c1 h
    refine lv_aload_n hx hb dX7_unitAt_21 rfl (lv_at hl 0 rfl) ?_
    refine lv_iconst (v := (1 : Int32)) hx hb dX7_unitAt_22 (by decide) ?_
    obtain ⟨r2, th3, g4, h⟩ := fB2 h
    refine cV_i (As := [.int (1 : Int32)]) (rest := []) (ws1 := (MW w y th3 ms mst smn msl mhs mtx mle mat mwl mrd mrm mtp mbt mtm mtn mnt mnb mun mum mau)) ⟨hx, hb, hml, hown, hts⟩ (c_X7_fails l D w y _ (0 : Int32) ms mst smn msl mhs mtx mle mat mwl mrd mrm mtp mbt mtm mtn mnt mnb mun mum mau (1 : Int32) r2 th3 g4) (cwV 1 hts gX7_unitAt_X7_fails rfl rfl rfl hd_X7_fails ⟨Nat.le_of_ble_eq_true rfl, Nat.le_of_ble_eq_true rfl⟩) hK hP hD hS hA [0, 1, 2, 3, 4, 5, 6, 7, 8] [] [0, 1, 2, 3, 4, 5, 6, 7, 8] rfl rfl rfl (by decide) rfl rfl rfl 0 (ci := 5) rfl rfl rfl hl.1 rfl (Nat.le_of_ble_eq_true rfl) dX7_unitAt_23 ⟨Nat.le_of_ble_eq_true rfl, Nat.le_of_ble_eq_true rfl⟩ (fun H locs hP hD hS => ?_)
    cases h
    exact hE _ _ _ _ dX7_unitAt_26 hP hD hS
  · replace h := fF c1 h
    refine lv_iload_n hx hb dX7_unitAt_12 rfl (lv_at hl 2 rfl) ?_
    refine lv_iconst (v := (0 : Int32)) hx hb dX7_unitAt_13 (by decide) ?_
    refine lv_iconst (v := (3 : Int32)) hx hb dX7_unitAt_14 (by decide) ?_
    refine cT_i (As := [.int a2, .int (0 : Int32), .int (3 : Int32)]) (rest := []) ⟨hx, hb, hml, hown, hts⟩ (c_X7_in l D y _ a2 (0 : Int32) (3 : Int32)) (va_cwS 3 hts gX7_unitAt_X7_in rfl rfl rfl hd_X7_in ⟨Nat.le_of_ble_eq_true rfl, Nat.le_of_ble_eq_true rfl⟩) hK hP hD hS hA rfl hl.1 rfl (Nat.le_of_ble_eq_true rfl) dX7_unitAt_15 ⟨Nat.le_of_ble_eq_true rfl, Nat.le_of_ble_eq_true rfl⟩ (fun H locs hP hD hS => ?_)
    refine lv_if_ne (tgt := 27) hx hb dX7_unitAt_18 (by decide) (fun c5 => ?_) (fun c5 => ?_)
    · replace h := fF c5 h
      refine lv_aload_n hx hb dX7_unitAt_27 rfl (lv_at hl 0 rfl) ?_
      refine lv_iload_n hx hb dX7_unitAt_28 rfl (lv_at hl 1 rfl) ?_
      obtain ⟨r6, g7, h⟩ := fB1 h
      refine cV_i (As := [.int a1]) (rest := []) (ws1 := (MW w y (0 : Int32) ms mst smn msl mhs mtx mle mat mwl mrd mrm mtp mbt mtm mtn mnt mnb mun mum mau)) ⟨hx, hb, hml, hown, hts⟩ (c_X7_isLess l D w y _ (0 : Int32) ms mst smn msl mhs mtx mle mat mwl mrd mrm mtp mbt mtm mtn mnt mnb mun mum mau a1 r6 g7) (cwV 1 hts gX7_unitAt_X7_isLess rfl rfl rfl hd_X7_isLess ⟨Nat.le_of_ble_eq_true rfl, Nat.le_of_ble_eq_true rfl⟩) hK hP hD hS hA [0, 1, 2, 3, 4, 5, 6, 7, 8] [] [0, 1, 2, 3, 4, 5, 6, 7, 8] rfl rfl rfl (by decide) rfl rfl rfl 0 (ci := 5) rfl rfl rfl hl.1 rfl (Nat.le_of_ble_eq_true rfl) dX7_unitAt_29 ⟨Nat.le_of_ble_eq_true rfl, Nat.le_of_ble_eq_true rfl⟩ (fun H locs hP hD hS => ?_)
      refine lv_if_ne (tgt := 41) hx hb dX7_unitAt_32 (by decide) (fun c8 => ?_) (fun c8 => ?_)
      · replace h := fF c8 h
        refine lv_aload_n hx hb dX7_unitAt_41 rfl (lv_at hl 0 rfl) ?_
        refine lv_iload_n hx hb dX7_unitAt_42 rfl (lv_at hl 1 rfl) ?_
        obtain ⟨mun9, mum10, mau11, g12, h⟩ := fB3 h
        refine cV_v (As := [.int a1]) (rest := []) (ws1 := (MW w y (0 : Int32) ms mst smn msl mhs mtx mle mat mwl mrd mrm mtp mbt mtm mtn mnt mnb mun9 mum10 mau11)) ⟨hx, hb, hml, hown, hts⟩ (c_X7_tellsUnits l D w y _ (0 : Int32) ms mst smn msl mhs mtx mle mat mwl mrd mrm mtp mbt mtm mtn mnt mnb mun mum mau a1 mun9 mum10 mau11 g12) (cwV 1 hts gX7_unitAt_X7_tellsUnits rfl rfl rfl hd_X7_tellsUnits ⟨Nat.le_of_ble_eq_true rfl, Nat.le_of_ble_eq_true rfl⟩) hK hP hD hS hA [0, 1, 2, 3, 4, 5, 6, 7, 8] [] [0, 1, 2, 3, 4, 5, 6, 7, 8] rfl rfl rfl (by decide) rfl rfl rfl 0 (ci := 5) rfl rfl rfl hl.1 rfl (Nat.le_of_ble_eq_true rfl) dX7_unitAt_43 ⟨Nat.le_of_ble_eq_true rfl, Nat.le_of_ble_eq_true rfl⟩ (fun H locs hP hD hS => ?_)
        refine lv_iload_n hx hb dX7_unitAt_46 rfl (lv_at hl 2 rfl) ?_
        refine lv_aload_n hx hb dX7_unitAt_47 rfl (lv_at hl 0 rfl) ?_
        refine va_get (D := D) (ci := 5) (C := RX7) (T := TX7) (N := 21) hx hb hts hinRX7 hown hK hP 0 rfl rfl 19 (by decide) q1 (fun _ h9 => h9) rfl dX7_unitAt_48 ?_
        refine lv_icmp_ge (tgt := 63) hx hb dX7_unitAt_51 (by decide) (fun c13 => ?_) (fun c13 => ?_)
        · replace h := fT c13 h
          refine lv_iconst (v := (-1 : Int32)) hx hb dX7_unitAt_63 (by decide) ?_
          cases h
          exact hE _ _ _ _ dX7_unitAt_64 hP hD hS
        · replace h := fF c13 h
          refine lv_aload_n hx hb dX7_unitAt_54 rfl (lv_at hl 0 rfl) ?_
          refine va_get (D := D) (ci := 5) (C := RX7) (T := TX7) (N := 21) hx hb hts hinRX7 hown hK hP 0 rfl rfl 18 (by decide) q2 (fun _ h9 => h9) rfl dX7_unitAt_55 ?_
          refine lv_iload_n hx hb dX7_unitAt_58 rfl (lv_at hl 2 rfl) ?_
          obtain ⟨g14, h⟩ := fG h
          refine va_iald hx hb hK hP 8 0 rfl rfl g14 dX7_unitAt_59 ?_
          refine lv_goto (tgt := 64) hx hb dX7_unitAt_60 (by decide) ?_
          cases h
          exact hE _ _ _ _ dX7_unitAt_64 hP hD hS
      · replace h := fT c8 h
        refine lv_aload_n hx hb dX7_unitAt_35 rfl (lv_at hl 0 rfl) ?_
        refine lv_iconst (v := (2 : Int32)) hx hb dX7_unitAt_36 (by decide) ?_
        obtain ⟨r15, th16, g17, h⟩ := fB2 h
        refine cV_i (As := [.int (2 : Int32)]) (rest := []) (ws1 := (MW w y th16 ms mst smn msl mhs mtx mle mat mwl mrd mrm mtp mbt mtm mtn mnt mnb mun mum mau)) ⟨hx, hb, hml, hown, hts⟩ (c_X7_fails l D w y _ (0 : Int32) ms mst smn msl mhs mtx mle mat mwl mrd mrm mtp mbt mtm mtn mnt mnb mun mum mau (2 : Int32) r15 th16 g17) (cwV 1 hts gX7_unitAt_X7_fails rfl rfl rfl hd_X7_fails ⟨Nat.le_of_ble_eq_true rfl, Nat.le_of_ble_eq_true rfl⟩) hK hP hD hS hA [0, 1, 2, 3, 4, 5, 6, 7, 8] [] [0, 1, 2, 3, 4, 5, 6, 7, 8] rfl rfl rfl (by decide) rfl rfl rfl 0 (ci := 5) rfl rfl rfl hl.1 rfl (Nat.le_of_ble_eq_true rfl) dX7_unitAt_37 ⟨Nat.le_of_ble_eq_true rfl, Nat.le_of_ble_eq_true rfl⟩ (fun H locs hP hD hS => ?_)
        cases h
        exact hE _ _ _ _ dX7_unitAt_40 hP hD hS
    · replace h := fT c5 h
      refine lv_aload_n hx hb dX7_unitAt_21 rfl (lv_at hl 0 rfl) ?_
      refine lv_iconst (v := (1 : Int32)) hx hb dX7_unitAt_22 (by decide) ?_
      obtain ⟨r18, th19, g20, h⟩ := fB2 h
      refine cV_i (As := [.int (1 : Int32)]) (rest := []) (ws1 := (MW w y th19 ms mst smn msl mhs mtx mle mat mwl mrd mrm mtp mbt mtm mtn mnt mnb mun mum mau)) ⟨hx, hb, hml, hown, hts⟩ (c_X7_fails l D w y _ (0 : Int32) ms mst smn msl mhs mtx mle mat mwl mrd mrm mtp mbt mtm mtn mnt mnb mun mum mau (1 : Int32) r18 th19 g20) (cwV 1 hts gX7_unitAt_X7_fails rfl rfl rfl hd_X7_fails ⟨Nat.le_of_ble_eq_true rfl, Nat.le_of_ble_eq_true rfl⟩) hK hP hD hS hA [0, 1, 2, 3, 4, 5, 6, 7, 8] [] [0, 1, 2, 3, 4, 5, 6, 7, 8] rfl rfl rfl (by decide) rfl rfl rfl 0 (ci := 5) rfl rfl rfl hl.1 rfl (Nat.le_of_ble_eq_true rfl) dX7_unitAt_23 ⟨Nat.le_of_ble_eq_true rfl, Nat.le_of_ble_eq_true rfl⟩ (fun H locs hP hD hS => ?_)
      cases h
      exact hE _ _ _ _ dX7_unitAt_26 hP hD hS
abbrev rm_X7_steps : Room := { frames := 2, cells := 0, slots := 0, locals := 45 }
theorem hd_X7_steps : yX7_steps.cls = RX7 ∧ yX7_steps.cls ≠ "java/lang/invoke/MethodHandle" ∧ yX7_steps.cls ≠ "java/lang/invoke/VarHandle" ∧ (parseMethodDescriptor yX7_steps.desc).map (fun d => d.parameters.length) = some 1 := by decide +kernel
set_option maxHeartbeats 0 in
set_option maxRecDepth 100000 in
theorem c_X7_steps (l : Launch) (D : va_G) (w : Nat → Nat) (y : Nat → ClassId) (sz : Nat) (th : Int32) (ms : Nat → Int32) (mst : Nat → Int32) (smn : Int32) (msl : Nat → Int32) (mhs : Nat → Int32) (mtx : Nat → Int32) (mle : Int32) (mat : Int32) (mwl : Int32) (mrd : Nat → Int32) (mrm : Int32) (mtp : Int64) (mbt : Int64) (mtm : Nat → Int32) (mtn : Int32) (mnt : Int32) (mnb : Int32) (mun : Nat → Int32) (mum : Int32) (mau : Int32) (a1 : Int32) (r : Int32) (mtm' : Nat → Int32) (mtn' : Int32) (h : F_X7_steps ms mtm mtn a1 = some (r, mtm', mtn')) : Met l yX7_steps wsX7_steps rm_X7_steps (va_Pc [.ref (w 0), .int a1] (px D y sz (MW w y th ms mst smn msl mhs mtx mle mat mwl mrd mrm mtp mbt mtm mtn mnt mnb mun mum mau))) (Qri D y sz (MW w y th ms mst smn msl mhs mtx mle mat mwl mrd mrm mtp mbt mtm mtn mnt mnb mun mum mau) (MW w y th ms mst smn msl mhs mtx mle mat mwl mrd mrm mtp mbt mtm' mtn' mnt mnb mun mum mau) r) 0 0 (va_A (MW w y th ms mst smn msl mhs mtx mle mat mwl mrd mrm mtp mbt mtm mtn mnt mnb mun mum mau) sz) := by
  refine hd_i (cc := cX7_steps) (maxL := 4) rfl rfl (Nat.le_of_ble_eq_true rfl) ?_
  intro p e s m args below meth c A Q H locs ls hx hb hml hts hown _ hA hP hD hK hS hl hE
  have hl : lv_has ls 4 [(0, .ref (w 0)), (1, .int a1)] := hl
  have q0 := hts (.fieldLink RX7 74 "SliceSharesModel" "termMany" "I") (by decide +kernel)
  have q1 := hts (.fieldLink RX7 29 "SliceSharesModel" "term" "[I") (by decide +kernel)
  have hinRX7 : ∀ w ∈ wsX70, w ∈ wsX7_steps := by decide +kernel
  unfold F_X7_steps at h
  refine lv_iconst (v := (0 : Int32)) hx hb dX7_steps_0 (by decide) ?_
  refine lv_istore_n (lv' := [(2, .int (0 : Int32)), (0, .ref (w 0)), (1, .int a1)]) hx hb dX7_steps_1 rfl hl (by decide) rfl (fun ls hl => ?_)
  refine lv_aload_n hx hb dX7_steps_2 rfl (lv_at hl 1 rfl) ?_
  refine lv_iload_n hx hb dX7_steps_3 rfl (lv_at hl 2 rfl) ?_
  obtain ⟨mtm1, mtn2, g3, h⟩ := fB2 h
  refine cV_v (As := [.int a1]) (rest := []) (ws1 := (MW w y th ms mst smn msl mhs mtx mle mat mwl mrd mrm mtp mbt mtm1 mtn2 mnt mnb mun mum mau)) ⟨hx, hb, hml, hown, hts⟩ (c_X7_tellsTerms l D w y _ th ms mst smn msl mhs mtx mle mat mwl mrd mrm mtp mbt mtm mtn mnt mnb mun mum mau a1 mtm1 mtn2 g3) (cwV 1 hts gX7_steps_X7_tellsTerms rfl rfl rfl hd_X7_tellsTerms ⟨Nat.le_of_ble_eq_true rfl, Nat.le_of_ble_eq_true rfl⟩) hK hP hD hS hA [0, 1, 2, 3, 4, 5, 6, 7, 8] [] [0, 1, 2, 3, 4, 5, 6, 7, 8] rfl rfl rfl (by decide) rfl rfl rfl 0 (ci := 5) rfl rfl rfl hl.1 rfl (Nat.le_of_ble_eq_true rfl) dX7_steps_4 ⟨Nat.le_of_ble_eq_true rfl, Nat.le_of_ble_eq_true rfl⟩ (fun H locs hP hD hS => ?_)
  refine lv_iconst (v := (0 : Int32)) hx hb dX7_steps_7 (by decide) ?_
  refine lv_istore_n (lv' := [(3, .int (0 : Int32)), (2, .int (0 : Int32)), (0, .ref (w 0)), (1, .int a1)]) hx hb dX7_steps_8 rfl hl (by decide) rfl (fun ls hl => ?_)
  obtain ⟨v6, g7, h⟩ := fB1 h
  have J8 : ∀ (H : Heap) (locs : List Loc) (ls : Array Slot), va_P D vwCl (MW w y th ms mst smn msl mhs mtx mle mat mwl mrd mrm mtp mbt mtm1 mtn2 mnt mnb mun mum mau) H → va_D A (MW w y th ms mst smn msl mhs mtx mle mat mwl mrd mrm mtp mbt mtm1 mtn2 mnt mnb mun mum mau) → va_S A s.heap H locs → lv_has ls 4 [(2, .int v6)] → W p l e rm_X7_steps s m args below meth c H locs 0 0 Q (F0 m 32 ls []) := by
    intro H locs ls hP hD hS hl
    refine lv_iload_n hx hb dX7_steps_32 rfl (lv_at hl 0 rfl) ?_
    refine lv_iconst (v := (1 : Int32)) hx hb dX7_steps_33 (by decide) ?_
    refine lv_isub hx hb dX7_steps_34 ?_
    cases h
    exact hE _ _ _ _ dX7_steps_35 hP hD hS
  have LP9 : ∀ (n : Nat) (x4 : Int32) (x5 : Int32) (H : Heap) (locs : List Loc) (ls : Array Slot), L_X7_steps_9 n x4 x5 mtm1 mtn2 = some v6 → va_P D vwCl (MW w y th ms mst smn msl mhs mtx mle mat mwl mrd mrm mtp mbt mtm1 mtn2 mnt mnb mun mum mau) H → va_D A (MW w y th ms mst smn msl mhs mtx mle mat mwl mrd mrm mtp mbt mtm1 mtn2 mnt mnb mun mum mau) → va_S A s.heap H locs → lv_has ls 4 [(0, .ref (w 0)), (2, .int x4), (3, .int x5)] → W p l e rm_X7_steps s m args below meth c H locs 0 0 Q (F0 m 9 ls []) := by
    intro n
    induction n with
    | zero => intro x4 x5 H locs ls h hP hD hS hl; exact fN h
    | succ n ih =>
      intro x4 x5 H locs ls h hP hD hS hl
      replace h := (L_X7_steps_9_s n x4 x5 mtm1 mtn2).symm.trans h
      refine lv_iload_n hx hb dX7_steps_9 rfl (lv_at hl 2 rfl) ?_
      refine lv_aload_n hx hb dX7_steps_10 rfl (lv_at hl 0 rfl) ?_
      refine va_get (D := D) (ci := 5) (C := RX7) (T := TX7) (N := 21) hx hb hts hinRX7 hown hK hP 0 rfl rfl 15 (by decide) q0 (fun _ h9 => h9) rfl dX7_steps_11 ?_
      refine lv_icmp_ge (tgt := 32) hx hb dX7_steps_14 (by decide) (fun c10 => ?_) (fun c10 => ?_)
      · replace h := fT c10 h
        cases h
        exact J8 _ _ _ hP hD hS (lv_sub hl [1] rfl)
      · replace h := fF c10 h
        refine lv_iload_n hx hb dX7_steps_17 rfl (lv_at hl 1 rfl) ?_
        refine lv_aload_n hx hb dX7_steps_18 rfl (lv_at hl 0 rfl) ?_
        refine va_get (D := D) (ci := 5) (C := RX7) (T := TX7) (N := 21) hx hb hts hinRX7 hown hK hP 0 rfl rfl 14 (by decide) q1 (fun _ h9 => h9) rfl dX7_steps_19 ?_
        refine lv_iload_n hx hb dX7_steps_22 rfl (lv_at hl 2 rfl) ?_
        obtain ⟨g11, h⟩ := fG h
        refine va_iald hx hb hK hP 7 0 rfl rfl g11 dX7_steps_23 ?_
        refine lv_iadd hx hb dX7_steps_24 ?_
        refine lv_istore_n (lv' := [(2, .int (x4 + (mtm1 x5.toNatClampNeg))), (0, .ref (w 0)), (3, .int x5)]) hx hb dX7_steps_25 rfl hl (by decide) rfl (fun ls hl => ?_)
        refine lv_iinc (v := x5 + (1 : Int32)) (lv' := [(3, .int (x5 + (1 : Int32))), (2, .int (x4 + (mtm1 x5.toNatClampNeg))), (0, .ref (w 0))]) hx hb dX7_steps_26 hl (k := 2) rfl rfl (by decide) rfl (fun ls hl => ?_)
        refine lv_goto (tgt := 9) hx hb dX7_steps_29 (by decide) ?_
        exact ih (x4 + (mtm1 x5.toNatClampNeg)) (x5 + (1 : Int32)) _ _ _ h hP hD hS (lv_sub hl [2, 1, 0] rfl)
  exact LP9 FU (0 : Int32) (0 : Int32) _ _ _ g7 hP hD hS (lv_sub hl [2, 1, 0] rfl)
abbrev rm_X7_waySteps : Room := { frames := 3, cells := 0, slots := 0, locals := 68 }
theorem hd_X7_waySteps : yX7_waySteps.cls = RX7 ∧ yX7_waySteps.cls ≠ "java/lang/invoke/MethodHandle" ∧ yX7_waySteps.cls ≠ "java/lang/invoke/VarHandle" ∧ (parseMethodDescriptor yX7_waySteps.desc).map (fun d => d.parameters.length) = some 1 := by decide +kernel
set_option maxHeartbeats 0 in
set_option maxRecDepth 100000 in
theorem c_X7_waySteps (l : Launch) (D : va_G) (w : Nat → Nat) (y : Nat → ClassId) (sz : Nat) (th : Int32) (ms : Nat → Int32) (mst : Nat → Int32) (smn : Int32) (msl : Nat → Int32) (mhs : Nat → Int32) (mtx : Nat → Int32) (mle : Int32) (mat : Int32) (mwl : Int32) (mrd : Nat → Int32) (mrm : Int32) (mtp : Int64) (mbt : Int64) (mtm : Nat → Int32) (mtn : Int32) (mnt : Int32) (mnb : Int32) (mun : Nat → Int32) (mum : Int32) (mau : Int32) (a1 : Int32) (r : Int32) (th' : Int32) (mtm' : Nat → Int32) (mtn' : Int32) (h : F_X7_waySteps th ms mtm mtn a1 = some (r, th', mtm', mtn')) : Met l yX7_waySteps wsX7_waySteps rm_X7_waySteps (va_Pc [.ref (w 0), .int a1] (px D y sz (MW w y th ms mst smn msl mhs mtx mle mat mwl mrd mrm mtp mbt mtm mtn mnt mnb mun mum mau))) (Qri D y sz (MW w y th ms mst smn msl mhs mtx mle mat mwl mrd mrm mtp mbt mtm mtn mnt mnb mun mum mau) (MW w y th' ms mst smn msl mhs mtx mle mat mwl mrd mrm mtp mbt mtm' mtn' mnt mnb mun mum mau) r) 0 0 (va_A (MW w y th ms mst smn msl mhs mtx mle mat mwl mrd mrm mtp mbt mtm mtn mnt mnb mun mum mau) sz) := by
  refine hd_i (cc := cX7_waySteps) (maxL := 2) rfl rfl (Nat.le_of_ble_eq_true rfl) ?_
  intro p e s m args below meth c A Q H locs ls hx hb hml hts hown _ hA hP hD hK hS hl hE
  have hl : lv_has ls 2 [(0, .ref (w 0)), (1, .int a1)] := hl
  have q0 := hts (.fieldLink RX7 35 "SliceSharesModel" "thrown" "I") (by decide +kernel)
  have hinRX7 : ∀ w ∈ wsX70, w ∈ wsX7_waySteps := by decide +kernel
  unfold F_X7_waySteps at h
  refine lv_aload_n hx hb dX7_waySteps_0 rfl (lv_at hl 0 rfl) ?_
  refine lv_iconst (v := (0 : Int32)) hx hb dX7_waySteps_1 (by decide) ?_
  refine va_put (D := D) (ci := 5) (v := .int (0 : Int32)) (ty := .int) (C := RX7) (T := TX7) (N := 21) hx hb hts hinRX7 tyX7 tyX7_ok nmX7 hown hK hP hD hS 0 rfl rfl 0 (by decide) q0 (fun _ h9 => h9) rfl (by decide +kernel) rfl rfl (Nat.le_of_ble_eq_true rfl) dX7_waySteps_2 (fun H locs hP hD hS => ?_)
  have hP : va_P D vwCl (MW w y (0 : Int32) ms mst smn msl mhs mtx mle mat mwl mrd mrm mtp mbt mtm mtn mnt mnb mun mum mau) H := hP
  have hD : va_D A (MW w y (0 : Int32) ms mst smn msl mhs mtx mle mat mwl mrd mrm mtp mbt mtm mtn mnt mnb mun mum mau) := hD
  refine lv_iload_n hx hb dX7_waySteps_5 rfl (lv_at hl 1 rfl) ?_
  refine cT_i (As := [.int a1]) (rest := []) ⟨hx, hb, hml, hown, hts⟩ (c_X7_isPlate l D y _ a1) (va_cwS 1 hts gX7_waySteps_X7_isPlate rfl rfl rfl hd_X7_isPlate ⟨Nat.le_of_ble_eq_true rfl, Nat.le_of_ble_eq_true rfl⟩) hK hP hD hS hA rfl hl.1 rfl (Nat.le_of_ble_eq_true rfl) dX7_waySteps_6 ⟨Nat.le_of_ble_eq_true rfl, Nat.le_of_ble_eq_true rfl⟩ (fun H locs hP hD hS => ?_)
  refine lv_if_ne (tgt := 18) hx hb dX7_waySteps_9 (by decide) (fun c1 => ?_) (fun c1 => ?_)
  · replace h := fF c1 h
    refine lv_aload_n hx hb dX7_waySteps_18 rfl (lv_at hl 0 rfl) ?_
    refine lv_iload_n hx hb dX7_waySteps_19 rfl (lv_at hl 1 rfl) ?_
    obtain ⟨r2, g3, h⟩ := fB1 h
    refine cV_i (As := [.int a1]) (rest := []) (ws1 := (MW w y (0 : Int32) ms mst smn msl mhs mtx mle mat mwl mrd mrm mtp mbt mtm mtn mnt mnb mun mum mau)) ⟨hx, hb, hml, hown, hts⟩ (c_X7_above l D w y _ (0 : Int32) ms mst smn msl mhs mtx mle mat mwl mrd mrm mtp mbt mtm mtn mnt mnb mun mum mau a1 r2 g3) (cwV 1 hts gX7_waySteps_X7_above rfl rfl rfl hd_X7_above ⟨Nat.le_of_ble_eq_true rfl, Nat.le_of_ble_eq_true rfl⟩) hK hP hD hS hA [0, 1, 2, 3, 4, 5, 6, 7, 8] [] [0, 1, 2, 3, 4, 5, 6, 7, 8] rfl rfl rfl (by decide) rfl rfl rfl 0 (ci := 5) rfl rfl rfl hl.1 rfl (Nat.le_of_ble_eq_true rfl) dX7_waySteps_20 ⟨Nat.le_of_ble_eq_true rfl, Nat.le_of_ble_eq_true rfl⟩ (fun H locs hP hD hS => ?_)
    refine lv_if_ne (tgt := 34) hx hb dX7_waySteps_23 (by decide) (fun c4 => ?_) (fun c4 => ?_)
    · replace h := fF c4 h
      refine lv_aload_n hx hb dX7_waySteps_34 rfl (lv_at hl 0 rfl) ?_
      refine lv_iload_n hx hb dX7_waySteps_35 rfl (lv_at hl 1 rfl) ?_
      obtain ⟨r5, mtm6, mtn7, g8, h⟩ := fB3 h
      refine cV_i (As := [.int a1]) (rest := []) (ws1 := (MW w y (0 : Int32) ms mst smn msl mhs mtx mle mat mwl mrd mrm mtp mbt mtm6 mtn7 mnt mnb mun mum mau)) ⟨hx, hb, hml, hown, hts⟩ (c_X7_steps l D w y _ (0 : Int32) ms mst smn msl mhs mtx mle mat mwl mrd mrm mtp mbt mtm mtn mnt mnb mun mum mau a1 r5 mtm6 mtn7 g8) (cwV 1 hts gX7_waySteps_X7_steps rfl rfl rfl hd_X7_steps ⟨Nat.le_of_ble_eq_true rfl, Nat.le_of_ble_eq_true rfl⟩) hK hP hD hS hA [0, 1, 2, 3, 4, 5, 6, 7, 8] [] [0, 1, 2, 3, 4, 5, 6, 7, 8] rfl rfl rfl (by decide) rfl rfl rfl 0 (ci := 5) rfl rfl rfl hl.1 rfl (Nat.le_of_ble_eq_true rfl) dX7_waySteps_36 ⟨Nat.le_of_ble_eq_true rfl, Nat.le_of_ble_eq_true rfl⟩ (fun H locs hP hD hS => ?_)
      cases h
      exact hE _ _ _ _ dX7_waySteps_39 hP hD hS
    · replace h := fT c4 h
      refine lv_aload_n hx hb dX7_waySteps_26 rfl (lv_at hl 0 rfl) ?_
      refine lv_iconst (v := (2 : Int32)) hx hb dX7_waySteps_27 (by decide) ?_
      obtain ⟨r9, th10, g11, h⟩ := fB2 h
      refine cV_i (As := [.int (2 : Int32)]) (rest := []) (ws1 := (MW w y th10 ms mst smn msl mhs mtx mle mat mwl mrd mrm mtp mbt mtm mtn mnt mnb mun mum mau)) ⟨hx, hb, hml, hown, hts⟩ (c_X7_fails l D w y _ (0 : Int32) ms mst smn msl mhs mtx mle mat mwl mrd mrm mtp mbt mtm mtn mnt mnb mun mum mau (2 : Int32) r9 th10 g11) (cwV 1 hts gX7_waySteps_X7_fails rfl rfl rfl hd_X7_fails ⟨Nat.le_of_ble_eq_true rfl, Nat.le_of_ble_eq_true rfl⟩) hK hP hD hS hA [0, 1, 2, 3, 4, 5, 6, 7, 8] [] [0, 1, 2, 3, 4, 5, 6, 7, 8] rfl rfl rfl (by decide) rfl rfl rfl 0 (ci := 5) rfl rfl rfl hl.1 rfl (Nat.le_of_ble_eq_true rfl) dX7_waySteps_28 ⟨Nat.le_of_ble_eq_true rfl, Nat.le_of_ble_eq_true rfl⟩ (fun H locs hP hD hS => ?_)
      refine lv_goto (tgt := 39) hx hb dX7_waySteps_31 (by decide) ?_
      cases h
      exact hE _ _ _ _ dX7_waySteps_39 hP hD hS
  · replace h := fT c1 h
    refine lv_aload_n hx hb dX7_waySteps_12 rfl (lv_at hl 0 rfl) ?_
    refine lv_iconst (v := (1 : Int32)) hx hb dX7_waySteps_13 (by decide) ?_
    obtain ⟨r12, th13, g14, h⟩ := fB2 h
    refine cV_i (As := [.int (1 : Int32)]) (rest := []) (ws1 := (MW w y th13 ms mst smn msl mhs mtx mle mat mwl mrd mrm mtp mbt mtm mtn mnt mnb mun mum mau)) ⟨hx, hb, hml, hown, hts⟩ (c_X7_fails l D w y _ (0 : Int32) ms mst smn msl mhs mtx mle mat mwl mrd mrm mtp mbt mtm mtn mnt mnb mun mum mau (1 : Int32) r12 th13 g14) (cwV 1 hts gX7_waySteps_X7_fails rfl rfl rfl hd_X7_fails ⟨Nat.le_of_ble_eq_true rfl, Nat.le_of_ble_eq_true rfl⟩) hK hP hD hS hA [0, 1, 2, 3, 4, 5, 6, 7, 8] [] [0, 1, 2, 3, 4, 5, 6, 7, 8] rfl rfl rfl (by decide) rfl rfl rfl 0 (ci := 5) rfl rfl rfl hl.1 rfl (Nat.le_of_ble_eq_true rfl) dX7_waySteps_14 ⟨Nat.le_of_ble_eq_true rfl, Nat.le_of_ble_eq_true rfl⟩ (fun H locs hP hD hS => ?_)
    cases h
    exact hE _ _ _ _ dX7_waySteps_17 hP hD hS
