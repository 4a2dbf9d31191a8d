abbrev rm_L_common : Room := { frames := 0, cells := 0, slots := 0, locals := 0 }
theorem hd_L_common : yL_common.cls ≠ "java/lang/invoke/MethodHandle" ∧ yL_common.cls ≠ "java/lang/invoke/VarHandle" ∧ (parseMethodDescriptor yL_common.desc).map (fun d => d.parameters.length) = some 2 := by decide +kernel
set_option maxHeartbeats 0 in
set_option maxRecDepth 100000 in
theorem c_L_common (l : Launch) (D : va_G) (y : Nat → ClassId) (sz : Nat) (a1 : Int32) (a2 : Int32) (r : Int32) (h : F_L_common a1 a2 = some r) : Met l yL_common wsL_common rm_L_common (va_Pc [.int a1, .int a2] (px D y sz [])) (Qri D y sz [] [] r) 0 0 (va_A [] sz) := by
  refine hd_i (cc := cL_common) (maxL := 5) rfl rfl (Nat.le_of_ble_eq_true rfl) ?_
  intro p e s m args below meth c A Q H locs ls hx hb hml hts hown _ hA hP hD hK hS hl hE
  have hl : lv_has ls 5 [(0, .int a1), (1, .int a2)] := hl
  unfold F_L_common at h
  refine lv_iload_n hx hb dL_common_0 rfl (lv_at hl 0 rfl) ?_
  refine lv_istore_n (lv' := [(2, .int a1), (0, .int a1), (1, .int a2)]) hx hb dL_common_1 rfl hl (by decide) rfl (fun ls hl => ?_)
  refine lv_iload_n hx hb dL_common_2 rfl (lv_at hl 2 rfl) ?_
  refine lv_istore_n (lv' := [(3, .int a2), (2, .int a1), (0, .int a1), (1, .int a2)]) hx hb dL_common_3 rfl hl (by decide) rfl (fun ls hl => ?_)
  obtain ⟨v3, g4, h⟩ := fB1 h
  have J5 : ∀ (H : Heap) (locs : List Loc) (ls : Array Slot), va_P D vwCl [] H → va_D A [] → va_S A s.heap H locs → lv_has ls 5 [(2, .int v3)] → W p l e rm_L_common s m args below meth c H locs 0 0 Q (F0 m 21 ls []) := by
    intro H locs ls hP hD hS hl
    refine lv_iload_n hx hb dL_common_21 rfl (lv_at hl 0 rfl) ?_
    cases h
    exact hE _ _ _ _ dL_common_22 hP hD hS
  have LP6 : ∀ (n : Nat) (x1 : Int32) (x2 : Int32) (H : Heap) (locs : List Loc) (ls : Array Slot), L_L_common_4 n x1 x2 = some v3 → va_P D vwCl [] H → va_D A [] → va_S A s.heap H locs → lv_has ls 5 [(2, .int x1), (3, .int x2)] → W p l e rm_L_common s m args below meth c H locs 0 0 Q (F0 m 4 ls []) := by
    intro n
    induction n with
    | zero => intro x1 x2 H locs ls h hP hD hS hl; exact fN h
    | succ n ih =>
      intro x1 x2 H locs ls h hP hD hS hl
      replace h := (L_L_common_4_s n x1 x2).symm.trans h
      refine lv_iload_n hx hb dL_common_4 rfl (lv_at hl 1 rfl) ?_
      refine lv_if_le (tgt := 21) hx hb dL_common_5 (by decide) (fun c7 => ?_) (fun c7 => ?_)
      · replace h := fT c7 h
        cases h
        exact J5 _ _ _ hP hD hS (lv_sub hl [0] rfl)
      · replace h := fF c7 h
        refine lv_iload_n hx hb dL_common_8 rfl (lv_at hl 0 rfl) ?_
        refine lv_iload_n hx hb dL_common_9 rfl (lv_at hl 1 rfl) ?_
        obtain ⟨g8, h⟩ := fG h
        refine lv_irem hx hb dL_common_10 g8 ?_
        refine lv_istore (lv' := [(4, .int (x1 - x1 / x2 * x2)), (2, .int x1), (3, .int x2)]) hx hb dL_common_11 hl (by decide) rfl (fun ls hl => ?_)
        refine lv_iload_n hx hb dL_common_13 rfl (lv_at hl 2 rfl) ?_
        refine lv_istore_n (lv' := [(2, .int x2), (4, .int (x1 - x1 / x2 * x2)), (3, .int x2)]) hx hb dL_common_14 rfl hl (by decide) rfl (fun ls hl => ?_)
        refine lv_iload hx hb dL_common_15 (lv_at hl 1 rfl) ?_
        refine lv_istore_n (lv' := [(3, .int (x1 - x1 / x2 * x2)), (2, .int x2), (4, .int (x1 - x1 / x2 * x2))]) hx hb dL_common_17 rfl hl (by decide) rfl (fun ls hl => ?_)
        refine lv_goto (tgt := 4) hx hb dL_common_18 (by decide) ?_
        exact ih x2 (x1 - x1 / x2 * x2) _ _ _ h hP hD hS (lv_sub hl [1, 0] rfl)
  exact LP6 FU a1 a2 _ _ _ g4 hP hD hS (lv_sub hl [1, 0] rfl)
abbrev rm_L_holds : Room := { frames := 7, cells := 0, slots := 0, locals := 160 }
theorem hd_L_holds : yL_holds.cls ≠ "java/lang/invoke/MethodHandle" ∧ yL_holds.cls ≠ "java/lang/invoke/VarHandle" ∧ (parseMethodDescriptor yL_holds.desc).map (fun d => d.parameters.length) = some 3 := by decide +kernel
set_option maxHeartbeats 0 in
set_option maxRecDepth 100000 in
theorem c_L_holds (l : Launch) (D : va_G) (o : Nat → Nat) (y : Nat → ClassId) (sz : Nat) (pl : Nat → Int64) (te : Nat → Int32) (be : Nat → Int64) (cn : Int32) (ch : Nat → Int32) (le : Int32) (rE : Int32) (rL : Int32) (rP : Int32) (rF : Int32) (rS : Int32) (rD : Int32) (hs : Nat → Int64) (ho : Int32) (hc : Int32) (sl : Nat → Int64) (fi : Nat → Int32) (a1 : Int32) (a2 : Int32) (r : Int32) (te' : Nat → Int32) (be' : Nat → Int64) (cn' : Int32) (h : F_L_holds pl te be cn a1 a2 = some (r, te', be', cn')) : Met l yL_holds wsL_holds rm_L_holds (va_Pc [.ref (o 0), .int a1, .int a2] (px D y sz (XW o y pl te be cn ch le rE rL rP rF rS rD hs ho hc sl fi))) (Qri D y sz (XW o y pl te be cn ch le rE rL rP rF rS rD hs ho hc sl fi) (XW o y pl te' be' cn' ch le rE rL rP rF rS rD hs ho hc sl fi) r) 0 0 (va_A (XW o y pl te be cn ch le rE rL rP rF rS rD hs ho hc sl fi) sz) := by
  refine hd_z (cc := cL_holds) (maxL := 8) (rt := .boolean) rfl rfl (Nat.le_of_ble_eq_true rfl) ?_
  intro p e s m args below meth c A Q H locs ls hx hb hml hts hown _ hA hP hD hK hS hl hE
  have hl : lv_has ls 8 [(0, .ref (o 0)), (1, .int a1), (2, .int a2)] := hl
  have q0 := hts (.constant RL 28 (1000000)) (by decide +kernel)
  unfold F_L_holds at h
  refine lv_iconst (v := (0 : Int32)) hx hb dL_holds_0 (by decide) ?_
  refine lv_istore_n (lv' := [(3, .int (0 : Int32)), (0, .ref (o 0)), (1, .int a1), (2, .int a2)]) hx hb dL_holds_1 rfl hl (by decide) rfl (fun ls hl => ?_)
  refine lv_iconst (v := (0 : Int32)) hx hb dL_holds_2 (by decide) ?_
  refine lv_istore (lv' := [(4, .int (0 : Int32)), (3, .int (0 : Int32)), (0, .ref (o 0)), (1, .int a1), (2, .int a2)]) hx hb dL_holds_3 hl (by decide) rfl (fun ls hl => ?_)
  obtain ⟨v3, g4, h⟩ := fB1 h
  have J5 : ∀ (H : Heap) (locs : List Loc) (ls : Array Slot), va_P D vwCl (XW o y pl te be cn ch le rE rL rP rF rS rD hs ho hc sl fi) H → va_D A (XW o y pl te be cn ch le rE rL rP rF rS rD hs ho hc sl fi) → va_S A s.heap H locs → lv_has ls 8 [(0, .ref (o 0)), (1, .int a1), (2, .int a2), (3, .int v3)] → W p l e rm_L_holds s m args below meth c H locs 0 0 Q (F0 m 145 ls []) := by
    intro H locs ls hP hD hS hl
    refine lv_aload_n hx hb dL_holds_145 rfl (lv_at hl 0 rfl) ?_
    refine lv_iload_n hx hb dL_holds_146 rfl (lv_at hl 1 rfl) ?_
    refine lv_iload_n hx hb dL_holds_147 rfl (lv_at hl 2 rfl) ?_
    obtain ⟨k6, r7, te8, be9, cn10, g11, h⟩ := fB5 h
    by_cases e12 : ¬ k6 = 0
    · replace h := fF e12 h
      exact fN h
    replace e12 := Classical.not_not.mp e12
    subst e12
    replace h := fT rfl h
    refine cV_i (As := [.int a1, .int a2]) (rest := []) (ws1 := (XW o y pl te8 be9 cn10 ch le rE rL rP rF rS rD hs ho hc sl fi)) ⟨hx, hb, hml, hown, hts⟩ (c_X6_nearestDenominator l D o y _ pl te be cn ch le rE rL rP rF rS rD hs ho hc sl fi a1 a2 r7 te8 be9 cn10 g11) (cwV 2 hts gL_holds_X6_nearestDenominator rfl rfl rfl hd_X6_nearestDenominator ⟨Nat.le_of_ble_eq_true rfl, Nat.le_of_ble_eq_true rfl⟩) hK hP hD hS hA [0, 1, 2, 3, 4, 5, 6, 7, 8, 9, 10, 11] [] [0, 1, 2, 3, 4, 5, 6, 7, 8, 9, 10, 11] rfl rfl rfl (by decide) rfl rfl rfl 0 (ci := 4) rfl rfl rfl hl.1 rfl (Nat.le_of_ble_eq_true rfl) dL_holds_148 ⟨Nat.le_of_ble_eq_true rfl, Nat.le_of_ble_eq_true rfl⟩ (fun H locs hP hD hS => ?_)
    refine lv_istore (lv' := [(4, .int r7), (0, .ref (o 0)), (1, .int a1), (2, .int a2), (3, .int v3)]) hx hb dL_holds_151 hl (by decide) rfl (fun ls hl => ?_)
    refine lv_iload_n hx hb dL_holds_153 rfl (lv_at hl 4 rfl) ?_
    refine lv_bipush (v := (63 : Int32)) hx hb dL_holds_154 (by decide) ?_
    refine lv_icmp_ne (tgt := 214) hx hb dL_holds_156 (by decide) (fun c13 => ?_) (fun c13 => ?_)
    · replace h := fF c13 h
      exact fN h
    · replace h := fT c13 h
      refine lv_iload hx hb dL_holds_159 (lv_at hl 0 rfl) ?_
      refine lv_aload_n hx hb dL_holds_161 rfl (lv_at hl 1 rfl) ?_
      refine lv_iload_n hx hb dL_holds_162 rfl (lv_at hl 2 rfl) ?_
      refine lv_iload_n hx hb dL_holds_163 rfl (lv_at hl 3 rfl) ?_
      obtain ⟨k14, r15, g16, h⟩ := fB2 h
      by_cases e17 : ¬ k14 = 0
      · replace h := fF e17 h
        exact fN h
      replace e17 := Classical.not_not.mp e17
      subst e17
      replace h := fT rfl h
      refine cV_i (As := [.int a1, .int a2]) (rest := [.int r7]) (ws1 := (XW o y pl te8 be9 cn10 ch le rE rL rP rF rS rD hs ho hc sl fi)) ⟨hx, hb, hml, hown, hts⟩ (c_X6_nearestByTrying l D o y _ pl te8 be9 cn10 ch le rE rL rP rF rS rD hs ho hc sl fi a1 a2 r15 g16) (cwV 2 hts gL_holds_X6_nearestByTrying rfl rfl rfl hd_X6_nearestByTrying ⟨Nat.le_of_ble_eq_true rfl, Nat.le_of_ble_eq_true rfl⟩) hK hP hD hS hA [0, 1, 2, 3, 4, 5, 6, 7, 8, 9, 10, 11] [] [0, 1, 2, 3, 4, 5, 6, 7, 8, 9, 10, 11] rfl rfl rfl (by decide) rfl rfl rfl 0 (ci := 4) rfl rfl rfl hl.1 rfl (Nat.le_of_ble_eq_true rfl) dL_holds_164 ⟨Nat.le_of_ble_eq_true rfl, Nat.le_of_ble_eq_true rfl⟩ (fun H locs hP hD hS => ?_)
      refine lv_icmp_ne (tgt := 214) hx hb dL_holds_167 (by decide) (fun c18 => ?_) (fun c18 => ?_)
      · replace h := fF c18 h
        exact fN h
      · replace h := fT c18 h
        refine lv_iload hx hb dL_holds_170 (lv_at hl 0 rfl) ?_
        refine lv_iload_n hx hb dL_holds_172 rfl (lv_at hl 3 rfl) ?_
        refine lv_icmp_gt (tgt := 214) hx hb dL_holds_173 (by decide) (fun c19 => ?_) (fun c19 => ?_)
        · replace h := fT c19 h
          exact fN h
        · replace h := fF c19 h
          refine lv_aload_n hx hb dL_holds_176 rfl (lv_at hl 1 rfl) ?_
          refine lv_iload_n hx hb dL_holds_177 rfl (lv_at hl 2 rfl) ?_
          obtain ⟨k20, r21, g22, h⟩ := fB2 h
          by_cases e23 : ¬ k20 = 0
          · replace h := fF e23 h
            exact fN h
          replace e23 := Classical.not_not.mp e23
          subst e23
          replace h := fT rfl h
          refine cV_i (As := [.int a1]) (rest := []) (ws1 := (XW o y pl te8 be9 cn10 ch le rE rL rP rF rS rD hs ho hc sl fi)) ⟨hx, hb, hml, hown, hts⟩ (c_X6_denominatorOf l D o y _ pl te8 be9 cn10 ch le rE rL rP rF rS rD hs ho hc sl fi a1 r21 g22) (cwV 1 hts gL_holds_X6_denominatorOf rfl rfl rfl hd_X6_denominatorOf ⟨Nat.le_of_ble_eq_true rfl, Nat.le_of_ble_eq_true rfl⟩) hK hP hD hS hA [0, 1, 2, 3, 4, 5, 6, 7, 8, 9, 10, 11] [] [0, 1, 2, 3, 4, 5, 6, 7, 8, 9, 10, 11] rfl rfl rfl (by decide) rfl rfl rfl 0 (ci := 4) rfl rfl rfl hl.1 rfl (Nat.le_of_ble_eq_true rfl) dL_holds_178 ⟨Nat.le_of_ble_eq_true rfl, Nat.le_of_ble_eq_true rfl⟩ (fun H locs hP hD hS => ?_)
          refine lv_iload_n hx hb dL_holds_181 rfl (lv_at hl 3 rfl) ?_
          refine lv_icmp_gt (tgt := 195) hx hb dL_holds_182 (by decide) (fun c24 => ?_) (fun c24 => ?_)
          · replace h := fT c24 h
            refine lv_iload hx hb dL_holds_195 (lv_at hl 0 rfl) ?_
            refine lv_aload_n hx hb dL_holds_197 rfl (lv_at hl 1 rfl) ?_
            refine lv_iload_n hx hb dL_holds_198 rfl (lv_at hl 2 rfl) ?_
            refine lv_iload_n hx hb dL_holds_199 rfl (lv_at hl 3 rfl) ?_
            obtain ⟨k25, r26, te27, be28, cn29, g30, h⟩ := fB5 h
            by_cases e31 : ¬ k25 = 0
            · replace h := fF e31 h
              exact fN h
            replace e31 := Classical.not_not.mp e31
            subst e31
            replace h := fT rfl h
            refine cV_i (As := [.int a1, .int a2]) (rest := [.int r7]) (ws1 := (XW o y pl te27 be28 cn29 ch le rE rL rP rF rS rD hs ho hc sl fi)) ⟨hx, hb, hml, hown, hts⟩ (c_X6_nearestNumerator l D o y _ pl te8 be9 cn10 ch le rE rL rP rF rS rD hs ho hc sl fi a1 a2 r26 te27 be28 cn29 g30) (cwV 2 hts gL_holds_X6_nearestNumerator rfl rfl rfl hd_X6_nearestNumerator ⟨Nat.le_of_ble_eq_true rfl, Nat.le_of_ble_eq_true rfl⟩) hK hP hD hS hA [0, 1, 2, 3, 4, 5, 6, 7, 8, 9, 10, 11] [] [0, 1, 2, 3, 4, 5, 6, 7, 8, 9, 10, 11] rfl rfl rfl (by decide) rfl rfl rfl 0 (ci := 4) rfl rfl rfl hl.1 rfl (Nat.le_of_ble_eq_true rfl) dL_holds_200 ⟨Nat.le_of_ble_eq_true rfl, Nat.le_of_ble_eq_true rfl⟩ (fun H locs hP hD hS => ?_)
            obtain ⟨r32, g33, h⟩ := fB1 h
            refine cT_i (As := [.int r7, .int r26]) (rest := []) ⟨hx, hb, hml, hown, hts⟩ (c_L_common l D y _ r7 r26 r32 g33) (va_cwS 2 hts gL_holds_L_common rfl rfl rfl hd_L_common ⟨Nat.le_of_ble_eq_true rfl, Nat.le_of_ble_eq_true rfl⟩) hK hP hD hS hA rfl hl.1 rfl (Nat.le_of_ble_eq_true rfl) dL_holds_203 ⟨Nat.le_of_ble_eq_true rfl, Nat.le_of_ble_eq_true rfl⟩ (fun H locs hP hD hS => ?_)
            refine lv_iconst (v := (1 : Int32)) hx hb dL_holds_206 (by decide) ?_
            refine lv_icmp_ne (tgt := 214) hx hb dL_holds_207 (by decide) (fun c34 => ?_) (fun c34 => ?_)
            · replace h := fF c34 h
              exact fN h
            · replace h := fT c34 h
              refine lv_iconst (v := (1 : Int32)) hx hb dL_holds_210 (by decide) ?_
              refine lv_goto (tgt := 215) hx hb dL_holds_211 (by decide) ?_
              refine lv_istore (lv' := [(5, .int (1 : Int32)), (4, .int r7), (0, .ref (o 0)), (1, .int a1), (2, .int a2), (3, .int v3)]) hx hb dL_holds_215 hl (by decide) rfl (fun ls hl => ?_)
              refine lv_aload_n hx hb dL_holds_217 rfl (lv_at hl 2 rfl) ?_
              refine lv_iload_n hx hb dL_holds_218 rfl (lv_at hl 3 rfl) ?_
              obtain ⟨k35, r36, te37, be38, cn39, g40, h⟩ := fB5 h
              by_cases e41 : ¬ k35 = 0
              · replace h := fF e41 h
                exact fN h
              replace e41 := Classical.not_not.mp e41
              subst e41
              replace h := fT rfl h
              refine cV_i (As := [.int a1]) (rest := []) (ws1 := (XW o y pl te37 be38 cn39 ch le rE rL rP rF rS rD hs ho hc sl fi)) ⟨hx, hb, hml, hown, hts⟩ (c_X6_termCount l D o y _ pl te27 be28 cn29 ch le rE rL rP rF rS rD hs ho hc sl fi a1 r36 te37 be38 cn39 g40) (cwV 1 hts gL_holds_X6_termCount rfl rfl rfl hd_X6_termCount ⟨Nat.le_of_ble_eq_true rfl, Nat.le_of_ble_eq_true rfl⟩) hK hP hD hS hA [0, 1, 2, 3, 4, 5, 6, 7, 8, 9, 10, 11] [] [0, 1, 2, 3, 4, 5, 6, 7, 8, 9, 10, 11] rfl rfl rfl (by decide) rfl rfl rfl 0 (ci := 4) rfl rfl rfl hl.1 rfl (Nat.le_of_ble_eq_true rfl) dL_holds_219 ⟨Nat.le_of_ble_eq_true rfl, Nat.le_of_ble_eq_true rfl⟩ (fun H locs hP hD hS => ?_)
              refine lv_iconst (v := (1 : Int32)) hx hb dL_holds_222 (by decide) ?_
              refine lv_isub hx hb dL_holds_223 ?_
              refine lv_istore (lv' := [(6, .int (r36 - (1 : Int32))), (5, .int (1 : Int32)), (4, .int r7), (0, .ref (o 0)), (1, .int a1), (2, .int a2), (3, .int v3)]) hx hb dL_holds_224 hl (by decide) rfl (fun ls hl => ?_)
              refine lv_iload hx hb dL_holds_226 (lv_at hl 1 rfl) ?_
              refine lv_if_eq (tgt := 282) hx hb dL_holds_228 (by decide) (fun c42 => ?_) (fun c42 => ?_)
              · replace h := fT c42 h
                exact fN h
              · replace h := fF c42 h
                refine lv_aload_n hx hb dL_holds_231 rfl (lv_at hl 3 rfl) ?_
                refine lv_iload_n hx hb dL_holds_232 rfl (lv_at hl 4 rfl) ?_
                refine lv_iload hx hb dL_holds_233 (lv_at hl 0 rfl) ?_
                obtain ⟨k43, r44, te45, be46, cn47, g48, h⟩ := fB5 h
                by_cases e49 : ¬ k43 = 0
                · replace h := fF e49 h
                  exact fN h
                replace e49 := Classical.not_not.mp e49
                subst e49
                replace h := fT rfl h
                refine cV_i (As := [.int a1, .int (r36 - (1 : Int32))]) (rest := []) (ws1 := (XW o y pl te45 be46 cn47 ch le rE rL rP rF rS rD hs ho hc sl fi)) ⟨hx, hb, hml, hown, hts⟩ (c_X6_beginningNumerator l D o y _ pl te37 be38 cn39 ch le rE rL rP rF rS rD hs ho hc sl fi a1 (r36 - (1 : Int32)) r44 te45 be46 cn47 g48) (cwV 2 hts gL_holds_X6_beginningNumerator rfl rfl rfl hd_X6_beginningNumerator ⟨Nat.le_of_ble_eq_true rfl, Nat.le_of_ble_eq_true rfl⟩) hK hP hD hS hA [0, 1, 2, 3, 4, 5, 6, 7, 8, 9, 10, 11] [] [0, 1, 2, 3, 4, 5, 6, 7, 8, 9, 10, 11] rfl rfl rfl (by decide) rfl rfl rfl 0 (ci := 4) rfl rfl rfl hl.1 rfl (Nat.le_of_ble_eq_true rfl) dL_holds_235 ⟨Nat.le_of_ble_eq_true rfl, Nat.le_of_ble_eq_true rfl⟩ (fun H locs hP hD hS => ?_)
                refine lv_aload_n hx hb dL_holds_238 rfl (lv_at hl 3 rfl) ?_
                refine lv_iload_n hx hb dL_holds_239 rfl (lv_at hl 4 rfl) ?_
                obtain ⟨k50, r51, g52, h⟩ := fB2 h
                by_cases e53 : ¬ k50 = 0
                · replace h := fF e53 h
                  exact fN h
                replace e53 := Classical.not_not.mp e53
                subst e53
                replace h := fT rfl h
                refine cV_i (As := [.int a1]) (rest := [.int r44]) (ws1 := (XW o y pl te45 be46 cn47 ch le rE rL rP rF rS rD hs ho hc sl fi)) ⟨hx, hb, hml, hown, hts⟩ (c_X6_numeratorOf l D o y _ pl te45 be46 cn47 ch le rE rL rP rF rS rD hs ho hc sl fi a1 r51 g52) (cwV 1 hts gL_holds_X6_numeratorOf rfl rfl rfl hd_X6_numeratorOf ⟨Nat.le_of_ble_eq_true rfl, Nat.le_of_ble_eq_true rfl⟩) hK hP hD hS hA [0, 1, 2, 3, 4, 5, 6, 7, 8, 9, 10, 11] [] [0, 1, 2, 3, 4, 5, 6, 7, 8, 9, 10, 11] rfl rfl rfl (by decide) rfl rfl rfl 0 (ci := 4) rfl rfl rfl hl.1 rfl (Nat.le_of_ble_eq_true rfl) dL_holds_240 ⟨Nat.le_of_ble_eq_true rfl, Nat.le_of_ble_eq_true rfl⟩ (fun H locs hP hD hS => ?_)
                refine lv_icmp_ne (tgt := 282) hx hb dL_holds_243 (by decide) (fun c54 => ?_) (fun c54 => ?_)
                · replace h := fF c54 h
                  exact fN h
                · replace h := fT c54 h
                  refine lv_aload_n hx hb dL_holds_246 rfl (lv_at hl 3 rfl) ?_
                  refine lv_iload_n hx hb dL_holds_247 rfl (lv_at hl 4 rfl) ?_
                  refine lv_iload hx hb dL_holds_248 (lv_at hl 0 rfl) ?_
                  obtain ⟨k55, r56, te57, be58, cn59, g60, h⟩ := fB5 h
                  by_cases e61 : ¬ k55 = 0
                  · replace h := fF e61 h
                    exact fN h
                  replace e61 := Classical.not_not.mp e61
                  subst e61
                  replace h := fT rfl h
                  refine cV_i (As := [.int a1, .int (r36 - (1 : Int32))]) (rest := []) (ws1 := (XW o y pl te57 be58 cn59 ch le rE rL rP rF rS rD hs ho hc sl fi)) ⟨hx, hb, hml, hown, hts⟩ (c_X6_beginningDenominator l D o y _ pl te45 be46 cn47 ch le rE rL rP rF rS rD hs ho hc sl fi a1 (r36 - (1 : Int32)) r56 te57 be58 cn59 g60) (cwV 2 hts gL_holds_X6_beginningDenominator rfl rfl rfl hd_X6_beginningDenominator ⟨Nat.le_of_ble_eq_true rfl, Nat.le_of_ble_eq_true rfl⟩) hK hP hD hS hA [0, 1, 2, 3, 4, 5, 6, 7, 8, 9, 10, 11] [] [0, 1, 2, 3, 4, 5, 6, 7, 8, 9, 10, 11] rfl rfl rfl (by decide) rfl rfl rfl 0 (ci := 4) rfl rfl rfl hl.1 rfl (Nat.le_of_ble_eq_true rfl) dL_holds_250 ⟨Nat.le_of_ble_eq_true rfl, Nat.le_of_ble_eq_true rfl⟩ (fun H locs hP hD hS => ?_)
                  refine lv_aload_n hx hb dL_holds_253 rfl (lv_at hl 3 rfl) ?_
                  refine lv_iload_n hx hb dL_holds_254 rfl (lv_at hl 4 rfl) ?_
                  obtain ⟨k62, r63, g64, h⟩ := fB2 h
                  by_cases e65 : ¬ k62 = 0
                  · replace h := fF e65 h
                    exact fN h
                  replace e65 := Classical.not_not.mp e65
                  subst e65
                  replace h := fT rfl h
                  refine cV_i (As := [.int a1]) (rest := [.int r56]) (ws1 := (XW o y pl te57 be58 cn59 ch le rE rL rP rF rS rD hs ho hc sl fi)) ⟨hx, hb, hml, hown, hts⟩ (c_X6_denominatorOf l D o y _ pl te57 be58 cn59 ch le rE rL rP rF rS rD hs ho hc sl fi a1 r63 g64) (cwV 1 hts gL_holds_X6_denominatorOf rfl rfl rfl hd_X6_denominatorOf ⟨Nat.le_of_ble_eq_true rfl, Nat.le_of_ble_eq_true rfl⟩) hK hP hD hS hA [0, 1, 2, 3, 4, 5, 6, 7, 8, 9, 10, 11] [] [0, 1, 2, 3, 4, 5, 6, 7, 8, 9, 10, 11] rfl rfl rfl (by decide) rfl rfl rfl 0 (ci := 4) rfl rfl rfl hl.1 rfl (Nat.le_of_ble_eq_true rfl) dL_holds_255 ⟨Nat.le_of_ble_eq_true rfl, Nat.le_of_ble_eq_true rfl⟩ (fun H locs hP hD hS => ?_)
                  refine lv_icmp_ne (tgt := 282) hx hb dL_holds_258 (by decide) (fun c66 => ?_) (fun c66 => ?_)
                  · replace h := fF c66 h
                    exact fN h
                  · replace h := fT c66 h
                    refine lv_aload_n hx hb dL_holds_261 rfl (lv_at hl 3 rfl) ?_
                    obtain ⟨r67, g68, h⟩ := fB1 h
                    refine cV_i (As := []) (rest := []) (ws1 := (XW o y pl te57 be58 cn59 ch le rE rL rP rF rS rD hs ho hc sl fi)) ⟨hx, hb, hml, hown, hts⟩ (c_X6_differentFractions l D o y _ pl te57 be58 cn59 ch le rE rL rP rF rS rD hs ho hc sl fi r67 g68) (cwV 0 hts gL_holds_X6_differentFractions rfl rfl rfl hd_X6_differentFractions ⟨Nat.le_of_ble_eq_true rfl, Nat.le_of_ble_eq_true rfl⟩) hK hP hD hS hA [0, 1, 2, 3, 4, 5, 6, 7, 8, 9, 10, 11] [] [0, 1, 2, 3, 4, 5, 6, 7, 8, 9, 10, 11] rfl rfl rfl (by decide) rfl rfl rfl 0 (ci := 4) rfl rfl rfl hl.1 rfl (Nat.le_of_ble_eq_true rfl) dL_holds_262 ⟨Nat.le_of_ble_eq_true rfl, Nat.le_of_ble_eq_true rfl⟩ (fun H locs hP hD hS => ?_)
                    refine lv_iconst (v := (1 : Int32)) hx hb dL_holds_265 (by decide) ?_
                    refine lv_icmp_lt (tgt := 282) hx hb dL_holds_266 (by decide) (fun c69 => ?_) (fun c69 => ?_)
                    · replace h := fT c69 h
                      exact fN h
                    · replace h := fF c69 h
                      refine lv_aload_n hx hb dL_holds_269 rfl (lv_at hl 3 rfl) ?_
                      obtain ⟨r70, g71, h⟩ := fB1 h
                      refine cV_i (As := []) (rest := []) (ws1 := (XW o y pl te57 be58 cn59 ch le rE rL rP rF rS rD hs ho hc sl fi)) ⟨hx, hb, hml, hown, hts⟩ (c_X6_differentFractions l D o y _ pl te57 be58 cn59 ch le rE rL rP rF rS rD hs ho hc sl fi r70 g71) (cwV 0 hts gL_holds_X6_differentFractions rfl rfl rfl hd_X6_differentFractions ⟨Nat.le_of_ble_eq_true rfl, Nat.le_of_ble_eq_true rfl⟩) hK hP hD hS hA [0, 1, 2, 3, 4, 5, 6, 7, 8, 9, 10, 11] [] [0, 1, 2, 3, 4, 5, 6, 7, 8, 9, 10, 11] rfl rfl rfl (by decide) rfl rfl rfl 0 (ci := 4) rfl rfl rfl hl.1 rfl (Nat.le_of_ble_eq_true rfl) dL_holds_270 ⟨Nat.le_of_ble_eq_true rfl, Nat.le_of_ble_eq_true rfl⟩ (fun H locs hP hD hS => ?_)
                      refine lv_bipush (v := (6 : Int32)) hx hb dL_holds_273 (by decide) ?_
                      refine lv_icmp_gt (tgt := 282) hx hb dL_holds_275 (by decide) (fun c72 => ?_) (fun c72 => ?_)
                      · replace h := fT c72 h
                        exact fN h
                      · replace h := fF c72 h
                        refine lv_iconst (v := (1 : Int32)) hx hb dL_holds_278 (by decide) ?_
                        refine lv_goto (tgt := 283) hx hb dL_holds_279 (by decide) ?_
                        refine lv_istore (lv' := [(5, .int (1 : Int32)), (6, .int (r36 - (1 : Int32))), (4, .int r7), (0, .ref (o 0)), (1, .int a1), (2, .int a2), (3, .int v3)]) hx hb dL_holds_283 hl (by decide) rfl (fun ls hl => ?_)
                        refine lv_iload hx hb dL_holds_285 (lv_at hl 0 rfl) ?_
                        refine lv_if_eq (tgt := 328) hx hb dL_holds_287 (by decide) (fun c73 => ?_) (fun c73 => ?_)
                        · replace h := fT c73 h
                          exact fN h
                        · replace h := fF c73 h
                          refine lv_aload_n hx hb dL_holds_290 rfl (lv_at hl 3 rfl) ?_
                          refine lv_iload_n hx hb dL_holds_291 rfl (lv_at hl 4 rfl) ?_
                          obtain ⟨k74, r75, g76, h⟩ := fB2 h
                          by_cases e77 : ¬ k74 = 0
                          · replace h := fF e77 h
                            exact fN h
                          replace e77 := Classical.not_not.mp e77
                          subst e77
                          replace h := fT rfl h
                          refine cV_i (As := [.int a1]) (rest := []) (ws1 := (XW o y pl te57 be58 cn59 ch le rE rL rP rF rS rD hs ho hc sl fi)) ⟨hx, hb, hml, hown, hts⟩ (c_X6_numeratorOf l D o y _ pl te57 be58 cn59 ch le rE rL rP rF rS rD hs ho hc sl fi a1 r75 g76) (cwV 1 hts gL_holds_X6_numeratorOf rfl rfl rfl hd_X6_numeratorOf ⟨Nat.le_of_ble_eq_true rfl, Nat.le_of_ble_eq_true rfl⟩) hK hP hD hS hA [0, 1, 2, 3, 4, 5, 6, 7, 8, 9, 10, 11] [] [0, 1, 2, 3, 4, 5, 6, 7, 8, 9, 10, 11] rfl rfl rfl (by decide) rfl rfl rfl 0 (ci := 4) rfl rfl rfl hl.1 rfl (Nat.le_of_ble_eq_true rfl) dL_holds_292 ⟨Nat.le_of_ble_eq_true rfl, Nat.le_of_ble_eq_true rfl⟩ (fun H locs hP hD hS => ?_)
                          refine lv_if_eq (tgt := 324) hx hb dL_holds_295 (by decide) (fun c78 => ?_) (fun c78 => ?_)
                          · replace h := fT c78 h
                            refine lv_iconst (v := (1 : Int32)) hx hb dL_holds_324 (by decide) ?_
                            refine lv_goto (tgt := 329) hx hb dL_holds_325 (by decide) ?_
                            cases h
                            exact hE _ _ _ _ dL_holds_329 hP hD hS (nz01 (Or.inr rfl))
                          · replace h := fF c78 h
                            refine lv_aload_n hx hb dL_holds_298 rfl (lv_at hl 3 rfl) ?_
                            refine lv_iload_n hx hb dL_holds_299 rfl (lv_at hl 4 rfl) ?_
                            obtain ⟨k79, r80, g81, h⟩ := fB2 h
                            by_cases e82 : ¬ k79 = 0
                            · replace h := fF e82 h
                              exact fN h
                            replace e82 := Classical.not_not.mp e82
                            subst e82
                            replace h := fT rfl h
                            refine cV_i (As := [.int a1]) (rest := []) (ws1 := (XW o y pl te57 be58 cn59 ch le rE rL rP rF rS rD hs ho hc sl fi)) ⟨hx, hb, hml, hown, hts⟩ (c_X6_beginsRight l D o y _ pl te57 be58 cn59 ch le rE rL rP rF rS rD hs ho hc sl fi a1 r80 g81) (cwV 1 hts gL_holds_X6_beginsRight rfl rfl rfl hd_X6_beginsRight ⟨Nat.le_of_ble_eq_true rfl, Nat.le_of_ble_eq_true rfl⟩) hK hP hD hS hA [0, 1, 2, 3, 4, 5, 6, 7, 8, 9, 10, 11] [] [0, 1, 2, 3, 4, 5, 6, 7, 8, 9, 10, 11] rfl rfl rfl (by decide) rfl rfl rfl 0 (ci := 4) rfl rfl rfl hl.1 rfl (Nat.le_of_ble_eq_true rfl) dL_holds_300 ⟨Nat.le_of_ble_eq_true rfl, Nat.le_of_ble_eq_true rfl⟩ (fun H locs hP hD hS => ?_)
                            refine lv_aload_n hx hb dL_holds_303 rfl (lv_at hl 3 rfl) ?_
                            refine lv_iload_n hx hb dL_holds_304 rfl (lv_at hl 4 rfl) ?_
                            obtain ⟨k83, r84, g85, h⟩ := fB2 h
                            by_cases e86 : ¬ k83 = 0
                            · replace h := fF e86 h
                              exact fN h
                            replace e86 := Classical.not_not.mp e86
                            subst e86
                            replace h := fT rfl h
                            refine cV_i (As := [.int a1]) (rest := [.int r80]) (ws1 := (XW o y pl te57 be58 cn59 ch le rE rL rP rF rS rD hs ho hc sl fi)) ⟨hx, hb, hml, hown, hts⟩ (c_X6_numeratorOf l D o y _ pl te57 be58 cn59 ch le rE rL rP rF rS rD hs ho hc sl fi a1 r84 g85) (cwV 1 hts gL_holds_X6_numeratorOf rfl rfl rfl hd_X6_numeratorOf ⟨Nat.le_of_ble_eq_true rfl, Nat.le_of_ble_eq_true rfl⟩) hK hP hD hS hA [0, 1, 2, 3, 4, 5, 6, 7, 8, 9, 10, 11] [] [0, 1, 2, 3, 4, 5, 6, 7, 8, 9, 10, 11] rfl rfl rfl (by decide) rfl rfl rfl 0 (ci := 4) rfl rfl rfl hl.1 rfl (Nat.le_of_ble_eq_true rfl) dL_holds_305 ⟨Nat.le_of_ble_eq_true rfl, Nat.le_of_ble_eq_true rfl⟩ (fun H locs hP hD hS => ?_)
                            refine lv_aload_n hx hb dL_holds_308 rfl (lv_at hl 3 rfl) ?_
                            refine lv_iload_n hx hb dL_holds_309 rfl (lv_at hl 4 rfl) ?_
                            obtain ⟨k87, r88, g89, h⟩ := fB2 h
                            by_cases e90 : ¬ k87 = 0
                            · replace h := fF e90 h
                              exact fN h
                            replace e90 := Classical.not_not.mp e90
                            subst e90
                            replace h := fT rfl h
                            refine cV_i (As := [.int a1]) (rest := [.int r84, .int r80]) (ws1 := (XW o y pl te57 be58 cn59 ch le rE rL rP rF rS rD hs ho hc sl fi)) ⟨hx, hb, hml, hown, hts⟩ (c_X6_denominatorOf l D o y _ pl te57 be58 cn59 ch le rE rL rP rF rS rD hs ho hc sl fi a1 r88 g89) (cwV 1 hts gL_holds_X6_denominatorOf rfl rfl rfl hd_X6_denominatorOf ⟨Nat.le_of_ble_eq_true rfl, Nat.le_of_ble_eq_true rfl⟩) hK hP hD hS hA [0, 1, 2, 3, 4, 5, 6, 7, 8, 9, 10, 11] [] [0, 1, 2, 3, 4, 5, 6, 7, 8, 9, 10, 11] rfl rfl rfl (by decide) rfl rfl rfl 0 (ci := 4) rfl rfl rfl hl.1 rfl (Nat.le_of_ble_eq_true rfl) dL_holds_310 ⟨Nat.le_of_ble_eq_true rfl, Nat.le_of_ble_eq_true rfl⟩ (fun H locs hP hD hS => ?_)
                            have J91 : ∀ (v92 : Int32) (ls : Array Slot), v92 = (if r84 ≤ r88 then (0 : Int32) else (1 : Int32)) → lv_has ls 8 [(0, .ref (o 0)), (1, .int a1), (2, .int a2), (3, .int v3), (4, .int r7), (5, .int (1 : Int32)), (6, .int (r36 - (1 : Int32)))] → W p l e rm_L_holds s m args below meth c H locs 0 0 Q (F0 m 321 ls [.int v92, .int r80]) := by
                              intro v92 ls ev92 hl
                              subst ev92
                              refine lv_icmp_ne (tgt := 328) hx hb dL_holds_321 (by decide) (fun c93 => ?_) (fun c93 => ?_)
                              · replace h := fF c93 h
                                exact fN h
                              · replace h := fT c93 h
                                refine lv_iconst (v := (1 : Int32)) hx hb dL_holds_324 (by decide) ?_
                                refine lv_goto (tgt := 329) hx hb dL_holds_325 (by decide) ?_
                                cases h
                                exact hE _ _ _ _ dL_holds_329 hP hD hS (nz01 (Or.inr rfl))
                            refine lv_icmp_le (tgt := 320) hx hb dL_holds_313 (by decide) (fun c94 => ?_) (fun c94 => ?_)
                            · refine lv_iconst (v := (0 : Int32)) hx hb dL_holds_320 (by decide) ?_
                              exact J91 _ _ (by rw [if_pos c94]) (lv_sub hl [3, 4, 5, 6, 2, 0, 1] rfl)
                            · refine lv_iconst (v := (1 : Int32)) hx hb dL_holds_316 (by decide) ?_
                              refine lv_goto (tgt := 321) hx hb dL_holds_317 (by decide) ?_
                              exact J91 _ _ (by rw [if_neg c94]) (lv_sub hl [3, 4, 5, 6, 2, 0, 1] rfl)
          · replace h := fF c24 h
            refine lv_iload hx hb dL_holds_185 (lv_at hl 0 rfl) ?_
            refine lv_aload_n hx hb dL_holds_187 rfl (lv_at hl 1 rfl) ?_
            refine lv_iload_n hx hb dL_holds_188 rfl (lv_at hl 2 rfl) ?_
            obtain ⟨k95, r96, g97, h⟩ := fB2 h
            by_cases e98 : ¬ k95 = 0
            · replace h := fF e98 h
              exact fN h
            replace e98 := Classical.not_not.mp e98
            subst e98
            replace h := fT rfl h
            refine cV_i (As := [.int a1]) (rest := [.int r7]) (ws1 := (XW o y pl te8 be9 cn10 ch le rE rL rP rF rS rD hs ho hc sl fi)) ⟨hx, hb, hml, hown, hts⟩ (c_X6_denominatorOf l D o y _ pl te8 be9 cn10 ch le rE rL rP rF rS rD hs ho hc sl fi a1 r96 g97) (cwV 1 hts gL_holds_X6_denominatorOf rfl rfl rfl hd_X6_denominatorOf ⟨Nat.le_of_ble_eq_true rfl, Nat.le_of_ble_eq_true rfl⟩) hK hP hD hS hA [0, 1, 2, 3, 4, 5, 6, 7, 8, 9, 10, 11] [] [0, 1, 2, 3, 4, 5, 6, 7, 8, 9, 10, 11] rfl rfl rfl (by decide) rfl rfl rfl 0 (ci := 4) rfl rfl rfl hl.1 rfl (Nat.le_of_ble_eq_true rfl) dL_holds_189 ⟨Nat.le_of_ble_eq_true rfl, Nat.le_of_ble_eq_true rfl⟩ (fun H locs hP hD hS => ?_)
            refine lv_icmp_ne (tgt := 214) hx hb dL_holds_192 (by decide) (fun c99 => ?_) (fun c99 => ?_)
            · replace h := fF c99 h
              exact fN h
            · replace h := fT c99 h
              refine lv_iload hx hb dL_holds_195 (lv_at hl 0 rfl) ?_
              refine lv_aload_n hx hb dL_holds_197 rfl (lv_at hl 1 rfl) ?_
              refine lv_iload_n hx hb dL_holds_198 rfl (lv_at hl 2 rfl) ?_
              refine lv_iload_n hx hb dL_holds_199 rfl (lv_at hl 3 rfl) ?_
              obtain ⟨k100, r101, te102, be103, cn104, g105, h⟩ := fB5 h
              by_cases e106 : ¬ k100 = 0
              · replace h := fF e106 h
                exact fN h
              replace e106 := Classical.not_not.mp e106
              subst e106
              replace h := fT rfl h
              refine cV_i (As := [.int a1, .int a2]) (rest := [.int r7]) (ws1 := (XW o y pl te102 be103 cn104 ch le rE rL rP rF rS rD hs ho hc sl fi)) ⟨hx, hb, hml, hown, hts⟩ (c_X6_nearestNumerator l D o y _ pl te8 be9 cn10 ch le rE rL rP rF rS rD hs ho hc sl fi a1 a2 r101 te102 be103 cn104 g105) (cwV 2 hts gL_holds_X6_nearestNumerator rfl rfl rfl hd_X6_nearestNumerator ⟨Nat.le_of_ble_eq_true rfl, Nat.le_of_ble_eq_true rfl⟩) hK hP hD hS hA [0, 1, 2, 3, 4, 5, 6, 7, 8, 9, 10, 11] [] [0, 1, 2, 3, 4, 5, 6, 7, 8, 9, 10, 11] rfl rfl rfl (by decide) rfl rfl rfl 0 (ci := 4) rfl rfl rfl hl.1 rfl (Nat.le_of_ble_eq_true rfl) dL_holds_200 ⟨Nat.le_of_ble_eq_true rfl, Nat.le_of_ble_eq_true rfl⟩ (fun H locs hP hD hS => ?_)
              obtain ⟨r107, g108, h⟩ := fB1 h
              refine cT_i (As := [.int r7, .int r101]) (rest := []) ⟨hx, hb, hml, hown, hts⟩ (c_L_common l D y _ r7 r101 r107 g108) (va_cwS 2 hts gL_holds_L_common rfl rfl rfl hd_L_common ⟨Nat.le_of_ble_eq_true rfl, Nat.le_of_ble_eq_true rfl⟩) hK hP hD hS hA rfl hl.1 rfl (Nat.le_of_ble_eq_true rfl) dL_holds_203 ⟨Nat.le_of_ble_eq_true rfl, Nat.le_of_ble_eq_true rfl⟩ (fun H locs hP hD hS => ?_)
              refine lv_iconst (v := (1 : Int32)) hx hb dL_holds_206 (by decide) ?_
              refine lv_icmp_ne (tgt := 214) hx hb dL_holds_207 (by decide) (fun c109 => ?_) (fun c109 => ?_)
              · replace h := fF c109 h
                exact fN h
              · replace h := fT c109 h
                refine lv_iconst (v := (1 : Int32)) hx hb dL_holds_210 (by decide) ?_
                refine lv_goto (tgt := 215) hx hb dL_holds_211 (by decide) ?_
                refine lv_istore (lv' := [(5, .int (1 : Int32)), (4, .int r7), (0, .ref (o 0)), (1, .int a1), (2, .int a2), (3, .int v3)]) hx hb dL_holds_215 hl (by decide) rfl (fun ls hl => ?_)
                refine lv_aload_n hx hb dL_holds_217 rfl (lv_at hl 2 rfl) ?_
                refine lv_iload_n hx hb dL_holds_218 rfl (lv_at hl 3 rfl) ?_
                obtain ⟨k110, r111, te112, be113, cn114, g115, h⟩ := fB5 h
                by_cases e116 : ¬ k110 = 0
                · replace h := fF e116 h
                  exact fN h
                replace e116 := Classical.not_not.mp e116
                subst e116
                replace h := fT rfl h
                refine cV_i (As := [.int a1]) (rest := []) (ws1 := (XW o y pl te112 be113 cn114 ch le rE rL rP rF rS rD hs ho hc sl fi)) ⟨hx, hb, hml, hown, hts⟩ (c_X6_termCount l D o y _ pl te102 be103 cn104 ch le rE rL rP rF rS rD hs ho hc sl fi a1 r111 te112 be113 cn114 g115) (cwV 1 hts gL_holds_X6_termCount rfl rfl rfl hd_X6_termCount ⟨Nat.le_of_ble_eq_true rfl, Nat.le_of_ble_eq_true rfl⟩) hK hP hD hS hA [0, 1, 2, 3, 4, 5, 6, 7, 8, 9, 10, 11] [] [0, 1, 2, 3, 4, 5, 6, 7, 8, 9, 10, 11] rfl rfl rfl (by decide) rfl rfl rfl 0 (ci := 4) rfl rfl rfl hl.1 rfl (Nat.le_of_ble_eq_true rfl) dL_holds_219 ⟨Nat.le_of_ble_eq_true rfl, Nat.le_of_ble_eq_true rfl⟩ (fun H locs hP hD hS => ?_)
                refine lv_iconst (v := (1 : Int32)) hx hb dL_holds_222 (by decide) ?_
                refine lv_isub hx hb dL_holds_223 ?_
                refine lv_istore (lv' := [(6, .int (r111 - (1 : Int32))), (5, .int (1 : Int32)), (4, .int r7), (0, .ref (o 0)), (1, .int a1), (2, .int a2), (3, .int v3)]) hx hb dL_holds_224 hl (by decide) rfl (fun ls hl => ?_)
                refine lv_iload hx hb dL_holds_226 (lv_at hl 1 rfl) ?_
                refine lv_if_eq (tgt := 282) hx hb dL_holds_228 (by decide) (fun c117 => ?_) (fun c117 => ?_)
                · replace h := fT c117 h
                  exact fN h
                · replace h := fF c117 h
                  refine lv_aload_n hx hb dL_holds_231 rfl (lv_at hl 3 rfl) ?_
                  refine lv_iload_n hx hb dL_holds_232 rfl (lv_at hl 4 rfl) ?_
                  refine lv_iload hx hb dL_holds_233 (lv_at hl 0 rfl) ?_
                  obtain ⟨k118, r119, te120, be121, cn122, g123, h⟩ := fB5 h
                  by_cases e124 : ¬ k118 = 0
                  · replace h := fF e124 h
                    exact fN h
                  replace e124 := Classical.not_not.mp e124
                  subst e124
                  replace h := fT rfl h
                  refine cV_i (As := [.int a1, .int (r111 - (1 : Int32))]) (rest := []) (ws1 := (XW o y pl te120 be121 cn122 ch le rE rL rP rF rS rD hs ho hc sl fi)) ⟨hx, hb, hml, hown, hts⟩ (c_X6_beginningNumerator l D o y _ pl te112 be113 cn114 ch le rE rL rP rF rS rD hs ho hc sl fi a1 (r111 - (1 : Int32)) r119 te120 be121 cn122 g123) (cwV 2 hts gL_holds_X6_beginningNumerator rfl rfl rfl hd_X6_beginningNumerator ⟨Nat.le_of_ble_eq_true rfl, Nat.le_of_ble_eq_true rfl⟩) hK hP hD hS hA [0, 1, 2, 3, 4, 5, 6, 7, 8, 9, 10, 11] [] [0, 1, 2, 3, 4, 5, 6, 7, 8, 9, 10, 11] rfl rfl rfl (by decide) rfl rfl rfl 0 (ci := 4) rfl rfl rfl hl.1 rfl (Nat.le_of_ble_eq_true rfl) dL_holds_235 ⟨Nat.le_of_ble_eq_true rfl, Nat.le_of_ble_eq_true rfl⟩ (fun H locs hP hD hS => ?_)
                  refine lv_aload_n hx hb dL_holds_238 rfl (lv_at hl 3 rfl) ?_
                  refine lv_iload_n hx hb dL_holds_239 rfl (lv_at hl 4 rfl) ?_
                  obtain ⟨k125, r126, g127, h⟩ := fB2 h
                  by_cases e128 : ¬ k125 = 0
                  · replace h := fF e128 h
                    exact fN h
                  replace e128 := Classical.not_not.mp e128
                  subst e128
                  replace h := fT rfl h
                  refine cV_i (As := [.int a1]) (rest := [.int r119]) (ws1 := (XW o y pl te120 be121 cn122 ch le rE rL rP rF rS rD hs ho hc sl fi)) ⟨hx, hb, hml, hown, hts⟩ (c_X6_numeratorOf l D o y _ pl te120 be121 cn122 ch le rE rL rP rF rS rD hs ho hc sl fi a1 r126 g127) (cwV 1 hts gL_holds_X6_numeratorOf rfl rfl rfl hd_X6_numeratorOf ⟨Nat.le_of_ble_eq_true rfl, Nat.le_of_ble_eq_true rfl⟩) hK hP hD hS hA [0, 1, 2, 3, 4, 5, 6, 7, 8, 9, 10, 11] [] [0, 1, 2, 3, 4, 5, 6, 7, 8, 9, 10, 11] rfl rfl rfl (by decide) rfl rfl rfl 0 (ci := 4) rfl rfl rfl hl.1 rfl (Nat.le_of_ble_eq_true rfl) dL_holds_240 ⟨Nat.le_of_ble_eq_true rfl, Nat.le_of_ble_eq_true rfl⟩ (fun H locs hP hD hS => ?_)
                  refine lv_icmp_ne (tgt := 282) hx hb dL_holds_243 (by decide) (fun c129 => ?_) (fun c129 => ?_)
                  · replace h := fF c129 h
                    exact fN h
                  · replace h := fT c129 h
                    refine lv_aload_n hx hb dL_holds_246 rfl (lv_at hl 3 rfl) ?_
                    refine lv_iload_n hx hb dL_holds_247 rfl (lv_at hl 4 rfl) ?_
                    refine lv_iload hx hb dL_holds_248 (lv_at hl 0 rfl) ?_
                    obtain ⟨k130, r131, te132, be133, cn134, g135, h⟩ := fB5 h
                    by_cases e136 : ¬ k130 = 0
                    · replace h := fF e136 h
                      exact fN h
                    replace e136 := Classical.not_not.mp e136
                    subst e136
                    replace h := fT rfl h
                    refine cV_i (As := [.int a1, .int (r111 - (1 : Int32))]) (rest := []) (ws1 := (XW o y pl te132 be133 cn134 ch le rE rL rP rF rS rD hs ho hc sl fi)) ⟨hx, hb, hml, hown, hts⟩ (c_X6_beginningDenominator l D o y _ pl te120 be121 cn122 ch le rE rL rP rF rS rD hs ho hc sl fi a1 (r111 - (1 : Int32)) r131 te132 be133 cn134 g135) (cwV 2 hts gL_holds_X6_beginningDenominator rfl rfl rfl hd_X6_beginningDenominator ⟨Nat.le_of_ble_eq_true rfl, Nat.le_of_ble_eq_true rfl⟩) hK hP hD hS hA [0, 1, 2, 3, 4, 5, 6, 7, 8, 9, 10, 11] [] [0, 1, 2, 3, 4, 5, 6, 7, 8, 9, 10, 11] rfl rfl rfl (by decide) rfl rfl rfl 0 (ci := 4) rfl rfl rfl hl.1 rfl (Nat.le_of_ble_eq_true rfl) dL_holds_250 ⟨Nat.le_of_ble_eq_true rfl, Nat.le_of_ble_eq_true rfl⟩ (fun H locs hP hD hS => ?_)
                    refine lv_aload_n hx hb dL_holds_253 rfl (lv_at hl 3 rfl) ?_
                    refine lv_iload_n hx hb dL_holds_254 rfl (lv_at hl 4 rfl) ?_
                    obtain ⟨k137, r138, g139, h⟩ := fB2 h
                    by_cases e140 : ¬ k137 = 0
                    · replace h := fF e140 h
                      exact fN h
                    replace e140 := Classical.not_not.mp e140
                    subst e140
                    replace h := fT rfl h
                    refine cV_i (As := [.int a1]) (rest := [.int r131]) (ws1 := (XW o y pl te132 be133 cn134 ch le rE rL rP rF rS rD hs ho hc sl fi)) ⟨hx, hb, hml, hown, hts⟩ (c_X6_denominatorOf l D o y _ pl te132 be133 cn134 ch le rE rL rP rF rS rD hs ho hc sl fi a1 r138 g139) (cwV 1 hts gL_holds_X6_denominatorOf rfl rfl rfl hd_X6_denominatorOf ⟨Nat.le_of_ble_eq_true rfl, Nat.le_of_ble_eq_true rfl⟩) hK hP hD hS hA [0, 1, 2, 3, 4, 5, 6, 7, 8, 9, 10, 11] [] [0, 1, 2, 3, 4, 5, 6, 7, 8, 9, 10, 11] rfl rfl rfl (by decide) rfl rfl rfl 0 (ci := 4) rfl rfl rfl hl.1 rfl (Nat.le_of_ble_eq_true rfl) dL_holds_255 ⟨Nat.le_of_ble_eq_true rfl, Nat.le_of_ble_eq_true rfl⟩ (fun H locs hP hD hS => ?_)
                    refine lv_icmp_ne (tgt := 282) hx hb dL_holds_258 (by decide) (fun c141 => ?_) (fun c141 => ?_)
                    · replace h := fF c141 h
                      exact fN h
                    · replace h := fT c141 h
                      refine lv_aload_n hx hb dL_holds_261 rfl (lv_at hl 3 rfl) ?_
                      obtain ⟨r142, g143, h⟩ := fB1 h
                      refine cV_i (As := []) (rest := []) (ws1 := (XW o y pl te132 be133 cn134 ch le rE rL rP rF rS rD hs ho hc sl fi)) ⟨hx, hb, hml, hown, hts⟩ (c_X6_differentFractions l D o y _ pl te132 be133 cn134 ch le rE rL rP rF rS rD hs ho hc sl fi r142 g143) (cwV 0 hts gL_holds_X6_differentFractions rfl rfl rfl hd_X6_differentFractions ⟨Nat.le_of_ble_eq_true rfl, Nat.le_of_ble_eq_true rfl⟩) hK hP hD hS hA [0, 1, 2, 3, 4, 5, 6, 7, 8, 9, 10, 11] [] [0, 1, 2, 3, 4, 5, 6, 7, 8, 9, 10, 11] rfl rfl rfl (by decide) rfl rfl rfl 0 (ci := 4) rfl rfl rfl hl.1 rfl (Nat.le_of_ble_eq_true rfl) dL_holds_262 ⟨Nat.le_of_ble_eq_true rfl, Nat.le_of_ble_eq_true rfl⟩ (fun H locs hP hD hS => ?_)
                      refine lv_iconst (v := (1 : Int32)) hx hb dL_holds_265 (by decide) ?_
                      refine lv_icmp_lt (tgt := 282) hx hb dL_holds_266 (by decide) (fun c144 => ?_) (fun c144 => ?_)
                      · replace h := fT c144 h
                        exact fN h
                      · replace h := fF c144 h
                        refine lv_aload_n hx hb dL_holds_269 rfl (lv_at hl 3 rfl) ?_
                        obtain ⟨r145, g146, h⟩ := fB1 h
                        refine cV_i (As := []) (rest := []) (ws1 := (XW o y pl te132 be133 cn134 ch le rE rL rP rF rS rD hs ho hc sl fi)) ⟨hx, hb, hml, hown, hts⟩ (c_X6_differentFractions l D o y _ pl te132 be133 cn134 ch le rE rL rP rF rS rD hs ho hc sl fi r145 g146) (cwV 0 hts gL_holds_X6_differentFractions rfl rfl rfl hd_X6_differentFractions ⟨Nat.le_of_ble_eq_true rfl, Nat.le_of_ble_eq_true rfl⟩) hK hP hD hS hA [0, 1, 2, 3, 4, 5, 6, 7, 8, 9, 10, 11] [] [0, 1, 2, 3, 4, 5, 6, 7, 8, 9, 10, 11] rfl rfl rfl (by decide) rfl rfl rfl 0 (ci := 4) rfl rfl rfl hl.1 rfl (Nat.le_of_ble_eq_true rfl) dL_holds_270 ⟨Nat.le_of_ble_eq_true rfl, Nat.le_of_ble_eq_true rfl⟩ (fun H locs hP hD hS => ?_)
                        refine lv_bipush (v := (6 : Int32)) hx hb dL_holds_273 (by decide) ?_
                        refine lv_icmp_gt (tgt := 282) hx hb dL_holds_275 (by decide) (fun c147 => ?_) (fun c147 => ?_)
                        · replace h := fT c147 h
                          exact fN h
                        · replace h := fF c147 h
                          refine lv_iconst (v := (1 : Int32)) hx hb dL_holds_278 (by decide) ?_
                          refine lv_goto (tgt := 283) hx hb dL_holds_279 (by decide) ?_
                          refine lv_istore (lv' := [(5, .int (1 : Int32)), (6, .int (r111 - (1 : Int32))), (4, .int r7), (0, .ref (o 0)), (1, .int a1), (2, .int a2), (3, .int v3)]) hx hb dL_holds_283 hl (by decide) rfl (fun ls hl => ?_)
                          refine lv_iload hx hb dL_holds_285 (lv_at hl 0 rfl) ?_
                          refine lv_if_eq (tgt := 328) hx hb dL_holds_287 (by decide) (fun c148 => ?_) (fun c148 => ?_)
                          · replace h := fT c148 h
                            exact fN h
                          · replace h := fF c148 h
                            refine lv_aload_n hx hb dL_holds_290 rfl (lv_at hl 3 rfl) ?_
                            refine lv_iload_n hx hb dL_holds_291 rfl (lv_at hl 4 rfl) ?_
                            obtain ⟨k149, r150, g151, h⟩ := fB2 h
                            by_cases e152 : ¬ k149 = 0
                            · replace h := fF e152 h
                              exact fN h
                            replace e152 := Classical.not_not.mp e152
                            subst e152
                            replace h := fT rfl h
                            refine cV_i (As := [.int a1]) (rest := []) (ws1 := (XW o y pl te132 be133 cn134 ch le rE rL rP rF rS rD hs ho hc sl fi)) ⟨hx, hb, hml, hown, hts⟩ (c_X6_numeratorOf l D o y _ pl te132 be133 cn134 ch le rE rL rP rF rS rD hs ho hc sl fi a1 r150 g151) (cwV 1 hts gL_holds_X6_numeratorOf rfl rfl rfl hd_X6_numeratorOf ⟨Nat.le_of_ble_eq_true rfl, Nat.le_of_ble_eq_true rfl⟩) hK hP hD hS hA [0, 1, 2, 3, 4, 5, 6, 7, 8, 9, 10, 11] [] [0, 1, 2, 3, 4, 5, 6, 7, 8, 9, 10, 11] rfl rfl rfl (by decide) rfl rfl rfl 0 (ci := 4) rfl rfl rfl hl.1 rfl (Nat.le_of_ble_eq_true rfl) dL_holds_292 ⟨Nat.le_of_ble_eq_true rfl, Nat.le_of_ble_eq_true rfl⟩ (fun H locs hP hD hS => ?_)
                            refine lv_if_eq (tgt := 324) hx hb dL_holds_295 (by decide) (fun c153 => ?_) (fun c153 => ?_)
                            · replace h := fT c153 h
                              refine lv_iconst (v := (1 : Int32)) hx hb dL_holds_324 (by decide) ?_
                              refine lv_goto (tgt := 329) hx hb dL_holds_325 (by decide) ?_
                              cases h
                              exact hE _ _ _ _ dL_holds_329 hP hD hS (nz01 (Or.inr rfl))
                            · replace h := fF c153 h
                              refine lv_aload_n hx hb dL_holds_298 rfl (lv_at hl 3 rfl) ?_
                              refine lv_iload_n hx hb dL_holds_299 rfl (lv_at hl 4 rfl) ?_
                              obtain ⟨k154, r155, g156, h⟩ := fB2 h
                              by_cases e157 : ¬ k154 = 0
                              · replace h := fF e157 h
                                exact fN h
                              replace e157 := Classical.not_not.mp e157
                              subst e157
                              replace h := fT rfl h
                              refine cV_i (As := [.int a1]) (rest := []) (ws1 := (XW o y pl te132 be133 cn134 ch le rE rL rP rF rS rD hs ho hc sl fi)) ⟨hx, hb, hml, hown, hts⟩ (c_X6_beginsRight l D o y _ pl te132 be133 cn134 ch le rE rL rP rF rS rD hs ho hc sl fi a1 r155 g156) (cwV 1 hts gL_holds_X6_beginsRight rfl rfl rfl hd_X6_beginsRight ⟨Nat.le_of_ble_eq_true rfl, Nat.le_of_ble_eq_true rfl⟩) hK hP hD hS hA [0, 1, 2, 3, 4, 5, 6, 7, 8, 9, 10, 11] [] [0, 1, 2, 3, 4, 5, 6, 7, 8, 9, 10, 11] rfl rfl rfl (by decide) rfl rfl rfl 0 (ci := 4) rfl rfl rfl hl.1 rfl (Nat.le_of_ble_eq_true rfl) dL_holds_300 ⟨Nat.le_of_ble_eq_true rfl, Nat.le_of_ble_eq_true rfl⟩ (fun H locs hP hD hS => ?_)
                              refine lv_aload_n hx hb dL_holds_303 rfl (lv_at hl 3 rfl) ?_
                              refine lv_iload_n hx hb dL_holds_304 rfl (lv_at hl 4 rfl) ?_
                              obtain ⟨k158, r159, g160, h⟩ := fB2 h
                              by_cases e161 : ¬ k158 = 0
                              · replace h := fF e161 h
                                exact fN h
                              replace e161 := Classical.not_not.mp e161
                              subst e161
                              replace h := fT rfl h
                              refine cV_i (As := [.int a1]) (rest := [.int r155]) (ws1 := (XW o y pl te132 be133 cn134 ch le rE rL rP rF rS rD hs ho hc sl fi)) ⟨hx, hb, hml, hown, hts⟩ (c_X6_numeratorOf l D o y _ pl te132 be133 cn134 ch le rE rL rP rF rS rD hs ho hc sl fi a1 r159 g160) (cwV 1 hts gL_holds_X6_numeratorOf rfl rfl rfl hd_X6_numeratorOf ⟨Nat.le_of_ble_eq_true rfl, Nat.le_of_ble_eq_true rfl⟩) hK hP hD hS hA [0, 1, 2, 3, 4, 5, 6, 7, 8, 9, 10, 11] [] [0, 1, 2, 3, 4, 5, 6, 7, 8, 9, 10, 11] rfl rfl rfl (by decide) rfl rfl rfl 0 (ci := 4) rfl rfl rfl hl.1 rfl (Nat.le_of_ble_eq_true rfl) dL_holds_305 ⟨Nat.le_of_ble_eq_true rfl, Nat.le_of_ble_eq_true rfl⟩ (fun H locs hP hD hS => ?_)
                              refine lv_aload_n hx hb dL_holds_308 rfl (lv_at hl 3 rfl) ?_
                              refine lv_iload_n hx hb dL_holds_309 rfl (lv_at hl 4 rfl) ?_
                              obtain ⟨k162, r163, g164, h⟩ := fB2 h
                              by_cases e165 : ¬ k162 = 0
                              · replace h := fF e165 h
                                exact fN h
                              replace e165 := Classical.not_not.mp e165
                              subst e165
                              replace h := fT rfl h
                              refine cV_i (As := [.int a1]) (rest := [.int r159, .int r155]) (ws1 := (XW o y pl te132 be133 cn134 ch le rE rL rP rF rS rD hs ho hc sl fi)) ⟨hx, hb, hml, hown, hts⟩ (c_X6_denominatorOf l D o y _ pl te132 be133 cn134 ch le rE rL rP rF rS rD hs ho hc sl fi a1 r163 g164) (cwV 1 hts gL_holds_X6_denominatorOf rfl rfl rfl hd_X6_denominatorOf ⟨Nat.le_of_ble_eq_true rfl, Nat.le_of_ble_eq_true rfl⟩) hK hP hD hS hA [0, 1, 2, 3, 4, 5, 6, 7, 8, 9, 10, 11] [] [0, 1, 2, 3, 4, 5, 6, 7, 8, 9, 10, 11] rfl rfl rfl (by decide) rfl rfl rfl 0 (ci := 4) rfl rfl rfl hl.1 rfl (Nat.le_of_ble_eq_true rfl) dL_holds_310 ⟨Nat.le_of_ble_eq_true rfl, Nat.le_of_ble_eq_true rfl⟩ (fun H locs hP hD hS => ?_)
                              have J166 : ∀ (v167 : Int32) (ls : Array Slot), v167 = (if r159 ≤ r163 then (0 : Int32) else (1 : Int32)) → lv_has ls 8 [(0, .ref (o 0)), (1, .int a1), (2, .int a2), (3, .int v3), (4, .int r7), (5, .int (1 : Int32)), (6, .int (r111 - (1 : Int32)))] → W p l e rm_L_holds s m args below meth c H locs 0 0 Q (F0 m 321 ls [.int v167, .int r155]) := by
                                intro v167 ls ev167 hl
                                subst ev167
                                refine lv_icmp_ne (tgt := 328) hx hb dL_holds_321 (by decide) (fun c168 => ?_) (fun c168 => ?_)
                                · replace h := fF c168 h
                                  exact fN h
                                · replace h := fT c168 h
                                  refine lv_iconst (v := (1 : Int32)) hx hb dL_holds_324 (by decide) ?_
                                  refine lv_goto (tgt := 329) hx hb dL_holds_325 (by decide) ?_
                                  cases h
                                  exact hE _ _ _ _ dL_holds_329 hP hD hS (nz01 (Or.inr rfl))
                              refine lv_icmp_le (tgt := 320) hx hb dL_holds_313 (by decide) (fun c169 => ?_) (fun c169 => ?_)
                              · refine lv_iconst (v := (0 : Int32)) hx hb dL_holds_320 (by decide) ?_
                                exact J166 _ _ (by rw [if_pos c169]) (lv_sub hl [3, 4, 5, 6, 2, 0, 1] rfl)
                              · refine lv_iconst (v := (1 : Int32)) hx hb dL_holds_316 (by decide) ?_
                                refine lv_goto (tgt := 321) hx hb dL_holds_317 (by decide) ?_
                                exact J166 _ _ (by rw [if_neg c169]) (lv_sub hl [3, 4, 5, 6, 2, 0, 1] rfl)
  have LP170 : ∀ (n : Nat) (x1 : Int32) (x2 : Int32) (H : Heap) (locs : List Loc) (ls : Array Slot), L_L_holds_5 n a1 a2 x1 x2 pl = some v3 → va_P D vwCl (XW o y pl te be cn ch le rE rL rP rF rS rD hs ho hc sl fi) H → va_D A (XW o y pl te be cn ch le rE rL rP rF rS rD hs ho hc sl fi) → va_S A s.heap H locs → lv_has ls 8 [(0, .ref (o 0)), (1, .int a1), (2, .int a2), (3, .int x1), (4, .int x2)] → W p l e rm_L_holds s m args below meth c H locs 0 0 Q (F0 m 5 ls []) := by
    intro n
    induction n with
    | zero => intro x1 x2 H locs ls h hP hD hS hl; exact fN h
    | succ n ih =>
      intro x1 x2 H locs ls h hP hD hS hl
      replace h := (L_L_holds_5_s n a1 a2 x1 x2 pl).symm.trans h
      refine lv_iload hx hb dL_holds_5 (lv_at hl 4 rfl) ?_
      refine lv_bipush (v := (6 : Int32)) hx hb dL_holds_7 (by decide) ?_
      refine lv_icmp_ge (tgt := 145) hx hb dL_holds_9 (by decide) (fun c171 => ?_) (fun c171 => ?_)
      · replace h := fT c171 h
        cases h
        exact J5 _ _ _ hP hD hS (lv_sub hl [0, 1, 2, 3] rfl)
      · replace h := fF c171 h
        refine lv_aload_n hx hb dL_holds_12 rfl (lv_at hl 0 rfl) ?_
        refine lv_iload hx hb dL_holds_13 (lv_at hl 4 rfl) ?_
        obtain ⟨k172, r173, g174, h⟩ := fB2 h
        by_cases e175 : ¬ k172 = 0
        · replace h := fF e175 h
          exact fN h
        replace e175 := Classical.not_not.mp e175
        subst e175
        replace h := fT rfl h
        refine cV_i (As := [.int x2]) (rest := []) (ws1 := (XW o y pl te be cn ch le rE rL rP rF rS rD hs ho hc sl fi)) ⟨hx, hb, hml, hown, hts⟩ (c_X6_plateByAmount l D o y _ pl te be cn ch le rE rL rP rF rS rD hs ho hc sl fi x2 r173 g174) (cwV 1 hts gL_holds_X6_plateByAmount rfl rfl rfl hd_X6_plateByAmount ⟨Nat.le_of_ble_eq_true rfl, Nat.le_of_ble_eq_true rfl⟩) hK hP hD hS hA [0, 1, 2, 3, 4, 5, 6, 7, 8, 9, 10, 11] [] [0, 1, 2, 3, 4, 5, 6, 7, 8, 9, 10, 11] rfl rfl rfl (by decide) rfl rfl rfl 0 (ci := 4) rfl rfl rfl hl.1 rfl (Nat.le_of_ble_eq_true rfl) dL_holds_15 ⟨Nat.le_of_ble_eq_true rfl, Nat.le_of_ble_eq_true rfl⟩ (fun H locs hP hD hS => ?_)
        refine lv_istore (lv' := [(5, .int r173), (0, .ref (o 0)), (1, .int a1), (2, .int a2), (3, .int x1), (4, .int x2)]) hx hb dL_holds_18 hl (by decide) rfl (fun ls hl => ?_)
        refine lv_aload_n hx hb dL_holds_20 rfl (lv_at hl 1 rfl) ?_
        refine lv_iload hx hb dL_holds_21 (lv_at hl 5 rfl) ?_
        obtain ⟨k176, r177, g178, h⟩ := fB2 h
        by_cases e179 : ¬ k176 = 0
        · replace h := fF e179 h
          exact fN h
        replace e179 := Classical.not_not.mp e179
        subst e179
        replace h := fT rfl h
        refine cV_i (As := [.int x2]) (rest := []) (ws1 := (XW o y pl te be cn ch le rE rL rP rF rS rD hs ho hc sl fi)) ⟨hx, hb, hml, hown, hts⟩ (c_X6_numeratorOf l D o y _ pl te be cn ch le rE rL rP rF rS rD hs ho hc sl fi x2 r177 g178) (cwV 1 hts gL_holds_X6_numeratorOf rfl rfl rfl hd_X6_numeratorOf ⟨Nat.le_of_ble_eq_true rfl, Nat.le_of_ble_eq_true rfl⟩) hK hP hD hS hA [0, 1, 2, 3, 4, 5, 6, 7, 8, 9, 10, 11] [] [0, 1, 2, 3, 4, 5, 6, 7, 8, 9, 10, 11] rfl rfl rfl (by decide) rfl rfl rfl 0 (ci := 4) rfl rfl rfl hl.1 rfl (Nat.le_of_ble_eq_true rfl) dL_holds_23 ⟨Nat.le_of_ble_eq_true rfl, Nat.le_of_ble_eq_true rfl⟩ (fun H locs hP hD hS => ?_)
        refine lv_istore (lv' := [(6, .int r177), (5, .int r173), (0, .ref (o 0)), (1, .int a1), (2, .int a2), (3, .int x1), (4, .int x2)]) hx hb dL_holds_26 hl (by decide) rfl (fun ls hl => ?_)
        refine lv_aload_n hx hb dL_holds_28 rfl (lv_at hl 2 rfl) ?_
        refine lv_iload hx hb dL_holds_29 (lv_at hl 6 rfl) ?_
        obtain ⟨k180, r181, g182, h⟩ := fB2 h
        by_cases e183 : ¬ k180 = 0
        · replace h := fF e183 h
          exact fN h
        replace e183 := Classical.not_not.mp e183
        subst e183
        replace h := fT rfl h
        refine cV_i (As := [.int x2]) (rest := []) (ws1 := (XW o y pl te be cn ch le rE rL rP rF rS rD hs ho hc sl fi)) ⟨hx, hb, hml, hown, hts⟩ (c_X6_denominatorOf l D o y _ pl te be cn ch le rE rL rP rF rS rD hs ho hc sl fi x2 r181 g182) (cwV 1 hts gL_holds_X6_denominatorOf rfl rfl rfl hd_X6_denominatorOf ⟨Nat.le_of_ble_eq_true rfl, Nat.le_of_ble_eq_true rfl⟩) hK hP hD hS hA [0, 1, 2, 3, 4, 5, 6, 7, 8, 9, 10, 11] [] [0, 1, 2, 3, 4, 5, 6, 7, 8, 9, 10, 11] rfl rfl rfl (by decide) rfl rfl rfl 0 (ci := 4) rfl rfl rfl hl.1 rfl (Nat.le_of_ble_eq_true rfl) dL_holds_31 ⟨Nat.le_of_ble_eq_true rfl, Nat.le_of_ble_eq_true rfl⟩ (fun H locs hP hD hS => ?_)
        refine lv_istore (lv' := [(7, .int r181), (6, .int r177), (5, .int r173), (0, .ref (o 0)), (1, .int a1), (2, .int a2), (3, .int x1), (4, .int x2)]) hx hb dL_holds_34 hl (by decide) rfl (fun ls hl => ?_)
        refine lv_iload_n hx hb dL_holds_36 rfl (lv_at hl 6 rfl) ?_
        refine lv_iconst (v := (1 : Int32)) hx hb dL_holds_37 (by decide) ?_
        refine lv_iload hx hb dL_holds_38 (lv_at hl 2 rfl) ?_
        refine lv_ishl hx hb dL_holds_40 ?_
        refine lv_ior hx hb dL_holds_41 ?_
        refine lv_istore_n (lv' := [(3, .int (x1 ||| ((1 : Int32) <<< (r173 &&& 31)))), (7, .int r181), (6, .int r177), (5, .int r173), (0, .ref (o 0)), (1, .int a1), (2, .int a2), (4, .int x2)]) hx hb dL_holds_42 rfl hl (by decide) rfl (fun ls hl => ?_)
        refine lv_iload hx hb dL_holds_43 (lv_at hl 1 rfl) ?_
        refine lv_iload hx hb dL_holds_45 (lv_at hl 2 rfl) ?_
        obtain ⟨r184, g185, h⟩ := fB1 h
        refine cT_i (As := [.int r181, .int r177]) (rest := []) ⟨hx, hb, hml, hown, hts⟩ (c_L_common l D y _ r181 r177 r184 g185) (va_cwS 2 hts gL_holds_L_common rfl rfl rfl hd_L_common ⟨Nat.le_of_ble_eq_true rfl, Nat.le_of_ble_eq_true rfl⟩) hK hP hD hS hA rfl hl.1 rfl (Nat.le_of_ble_eq_true rfl) dL_holds_47 ⟨Nat.le_of_ble_eq_true rfl, Nat.le_of_ble_eq_true rfl⟩ (fun H locs hP hD hS => ?_)
        refine lv_iconst (v := (1 : Int32)) hx hb dL_holds_50 (by decide) ?_
        refine lv_icmp_ne (tgt := 137) hx hb dL_holds_51 (by decide) (fun c186 => ?_) (fun c186 => ?_)
        · replace h := fF c186 h
          exact fN h
        · replace h := fT c186 h
          refine lv_iload hx hb dL_holds_54 (lv_at hl 2 rfl) ?_
          refine lv_if_lt (tgt := 137) hx hb dL_holds_56 (by decide) (fun c187 => ?_) (fun c187 => ?_)
          · replace h := fT c187 h
            exact fN h
          · replace h := fF c187 h
            refine lv_iload hx hb dL_holds_59 (lv_at hl 2 rfl) ?_
            refine lv_ldc (v := (1000000 : Int32)) hx hb hown q0 dL_holds_61 ?_
            refine lv_icmp_gt (tgt := 137) hx hb dL_holds_63 (by decide) (fun c188 => ?_) (fun c188 => ?_)
            · replace h := fT c188 h
              exact fN h
            · replace h := fF c188 h
              refine lv_iload hx hb dL_holds_66 (lv_at hl 1 rfl) ?_
              refine lv_ldc (v := (1000000 : Int32)) hx hb hown q0 dL_holds_68 ?_
              refine lv_icmp_gt (tgt := 137) hx hb dL_holds_70 (by decide) (fun c189 => ?_) (fun c189 => ?_)
              · replace h := fT c189 h
                exact fN h
              · replace h := fF c189 h
                refine lv_aload_n hx hb dL_holds_73 rfl (lv_at hl 4 rfl) ?_
                refine lv_iload hx hb dL_holds_74 (lv_at hl 7 rfl) ?_
                refine lv_iload hx hb dL_holds_76 (lv_at hl 3 rfl) ?_
                obtain ⟨k190, r191, g192, h⟩ := fB2 h
                by_cases e193 : ¬ k190 = 0
                · replace h := fF e193 h
                  exact fN h
                replace e193 := Classical.not_not.mp e193
                subst e193
                replace h := fT rfl h
                refine cV_i (As := [.int x2, .int r173]) (rest := []) (ws1 := (XW o y pl te be cn ch le rE rL rP rF rS rD hs ho hc sl fi)) ⟨hx, hb, hml, hown, hts⟩ (c_X6_compare l D o y _ pl te be cn ch le rE rL rP rF rS rD hs ho hc sl fi x2 r173 r191 g192) (cwV 2 hts gL_holds_X6_compare rfl rfl rfl hd_X6_compare ⟨Nat.le_of_ble_eq_true rfl, Nat.le_of_ble_eq_true rfl⟩) hK hP hD hS hA [0, 1, 2, 3, 4, 5, 6, 7, 8, 9, 10, 11] [] [0, 1, 2, 3, 4, 5, 6, 7, 8, 9, 10, 11] rfl rfl rfl (by decide) rfl rfl rfl 0 (ci := 4) rfl rfl rfl hl.1 rfl (Nat.le_of_ble_eq_true rfl) dL_holds_78 ⟨Nat.le_of_ble_eq_true rfl, Nat.le_of_ble_eq_true rfl⟩ (fun H locs hP hD hS => ?_)
                refine lv_aload_n hx hb dL_holds_81 rfl (lv_at hl 4 rfl) ?_
                refine lv_iload hx hb dL_holds_82 (lv_at hl 3 rfl) ?_
                refine lv_iload hx hb dL_holds_84 (lv_at hl 7 rfl) ?_
                obtain ⟨k194, r195, g196, h⟩ := fB2 h
                by_cases e197 : ¬ k194 = 0
                · replace h := fF e197 h
                  exact fN h
                replace e197 := Classical.not_not.mp e197
                subst e197
                replace h := fT rfl h
                refine cV_i (As := [.int r173, .int x2]) (rest := [.int r191]) (ws1 := (XW o y pl te be cn ch le rE rL rP rF rS rD hs ho hc sl fi)) ⟨hx, hb, hml, hown, hts⟩ (c_X6_compare l D o y _ pl te be cn ch le rE rL rP rF rS rD hs ho hc sl fi r173 x2 r195 g196) (cwV 2 hts gL_holds_X6_compare rfl rfl rfl hd_X6_compare ⟨Nat.le_of_ble_eq_true rfl, Nat.le_of_ble_eq_true rfl⟩) hK hP hD hS hA [0, 1, 2, 3, 4, 5, 6, 7, 8, 9, 10, 11] [] [0, 1, 2, 3, 4, 5, 6, 7, 8, 9, 10, 11] rfl rfl rfl (by decide) rfl rfl rfl 0 (ci := 4) rfl rfl rfl hl.1 rfl (Nat.le_of_ble_eq_true rfl) dL_holds_86 ⟨Nat.le_of_ble_eq_true rfl, Nat.le_of_ble_eq_true rfl⟩ (fun H locs hP hD hS => ?_)
                refine lv_ineg hx hb dL_holds_89 ?_
                refine lv_icmp_ne (tgt := 137) hx hb dL_holds_90 (by decide) (fun c198 => ?_) (fun c198 => ?_)
                · replace h := fF c198 h
                  exact fN h
                · replace h := fT c198 h
                  refine lv_iload hx hb dL_holds_93 (lv_at hl 7 rfl) ?_
                  refine lv_if_le (tgt := 115) hx hb dL_holds_95 (by decide) (fun c199 => ?_) (fun c199 => ?_)
                  · replace h := fT c199 h
                    refine lv_aload_n hx hb dL_holds_115 rfl (lv_at hl 4 rfl) ?_
                    obtain ⟨r200, g201, h⟩ := fB1 h
                    refine cV_l (As := []) (rest := []) (ws1 := (XW o y pl te be cn ch le rE rL rP rF rS rD hs ho hc sl fi)) ⟨hx, hb, hml, hown, hts⟩ (c_X6_commonParts l D o y _ pl te be cn ch le rE rL rP rF rS rD hs ho hc sl fi r200 g201) (cwV 0 hts gL_holds_X6_commonParts rfl rfl rfl hd_X6_commonParts ⟨Nat.le_of_ble_eq_true rfl, Nat.le_of_ble_eq_true rfl⟩) hK hP hD hS hA [0, 1, 2, 3, 4, 5, 6, 7, 8, 9, 10, 11] [] [0, 1, 2, 3, 4, 5, 6, 7, 8, 9, 10, 11] rfl rfl rfl (by decide) rfl rfl rfl 0 (ci := 4) rfl rfl rfl hl.1 rfl (Nat.le_of_ble_eq_true rfl) dL_holds_116 ⟨Nat.le_of_ble_eq_true rfl, Nat.le_of_ble_eq_true rfl⟩ (fun H locs hP hD hS => ?_)
                    refine lv_lconst (v := (0 : Int64)) hx hb dL_holds_119 rfl ?_
                    refine lx_le (tgt := 139) hx hb dL_holds_120 dL_holds_121 (by decide) (fun c202 => ?_) (fun c202 => ?_)
                    · replace h := fT c202 h
                      refine lv_iinc (v := x2 + (1 : Int32)) (lv' := [(4, .int (x2 + (1 : Int32))), (3, .int (x1 ||| ((1 : Int32) <<< (r173 &&& 31)))), (7, .int r181), (6, .int r177), (5, .int r173), (0, .ref (o 0)), (1, .int a1), (2, .int a2)]) hx hb dL_holds_139 hl (k := 7) rfl rfl (by decide) rfl (fun ls hl => ?_)
                      refine lv_goto (tgt := 5) hx hb dL_holds_142 (by decide) ?_
                      exact ih (x1 ||| ((1 : Int32) <<< (r173 &&& 31))) (x2 + (1 : Int32)) _ _ _ h hP hD hS (lv_sub hl [5, 6, 7, 1, 0] rfl)
                    · replace h := fF c202 h
                      refine lv_aload_n hx hb dL_holds_124 rfl (lv_at hl 4 rfl) ?_
                      obtain ⟨r203, g204, h⟩ := fB1 h
                      refine cV_l (As := []) (rest := []) (ws1 := (XW o y pl te be cn ch le rE rL rP rF rS rD hs ho hc sl fi)) ⟨hx, hb, hml, hown, hts⟩ (c_X6_commonParts l D o y _ pl te be cn ch le rE rL rP rF rS rD hs ho hc sl fi r203 g204) (cwV 0 hts gL_holds_X6_commonParts rfl rfl rfl hd_X6_commonParts ⟨Nat.le_of_ble_eq_true rfl, Nat.le_of_ble_eq_true rfl⟩) hK hP hD hS hA [0, 1, 2, 3, 4, 5, 6, 7, 8, 9, 10, 11] [] [0, 1, 2, 3, 4, 5, 6, 7, 8, 9, 10, 11] rfl rfl rfl (by decide) rfl rfl rfl 0 (ci := 4) rfl rfl rfl hl.1 rfl (Nat.le_of_ble_eq_true rfl) dL_holds_125 ⟨Nat.le_of_ble_eq_true rfl, Nat.le_of_ble_eq_true rfl⟩ (fun H locs hP hD hS => ?_)
                      refine lv_iload hx hb dL_holds_128 (lv_at hl 1 rfl) ?_
                      refine lv_i2l (v := r181.toInt64) hx hb dL_holds_130 rfl ?_
                      obtain ⟨g205, h⟩ := fG h
                      refine lv_lrem hx hb dL_holds_131 g205 ?_
                      refine lv_lconst (v := (0 : Int64)) hx hb dL_holds_132 rfl ?_
                      refine lx_eq (tgt := 139) hx hb dL_holds_133 dL_holds_134 (by decide) (fun c206 => ?_) (fun c206 => ?_)
                      · replace h := fT c206 h
                        refine lv_iinc (v := x2 + (1 : Int32)) (lv' := [(4, .int (x2 + (1 : Int32))), (3, .int (x1 ||| ((1 : Int32) <<< (r173 &&& 31)))), (7, .int r181), (6, .int r177), (5, .int r173), (0, .ref (o 0)), (1, .int a1), (2, .int a2)]) hx hb dL_holds_139 hl (k := 7) rfl rfl (by decide) rfl (fun ls hl => ?_)
                        refine lv_goto (tgt := 5) hx hb dL_holds_142 (by decide) ?_
                        exact ih (x1 ||| ((1 : Int32) <<< (r173 &&& 31))) (x2 + (1 : Int32)) _ _ _ h hP hD hS (lv_sub hl [5, 6, 7, 1, 0] rfl)
                      · replace h := fF c206 h
                        exact fN h
                  · replace h := fF c199 h
                    refine lv_aload_n hx hb dL_holds_98 rfl (lv_at hl 4 rfl) ?_
                    refine lv_aload_n hx hb dL_holds_99 rfl (lv_at hl 4 rfl) ?_
                    refine lv_iload hx hb dL_holds_100 (lv_at hl 7 rfl) ?_
                    refine lv_iconst (v := (1 : Int32)) hx hb dL_holds_102 (by decide) ?_
                    refine lv_isub hx hb dL_holds_103 ?_
                    obtain ⟨k207, r208, g209, h⟩ := fB2 h
                    by_cases e210 : ¬ k207 = 0
                    · replace h := fF e210 h
                      exact fN h
                    replace e210 := Classical.not_not.mp e210
                    subst e210
                    replace h := fT rfl h
                    refine cV_i (As := [.int (x2 - (1 : Int32))]) (rest := [.ref (o 0)]) (ws1 := (XW o y pl te be cn ch le rE rL rP rF rS rD hs ho hc sl fi)) ⟨hx, hb, hml, hown, hts⟩ (c_X6_plateByAmount l D o y _ pl te be cn ch le rE rL rP rF rS rD hs ho hc sl fi (x2 - (1 : Int32)) r208 g209) (cwV 1 hts gL_holds_X6_plateByAmount rfl rfl rfl hd_X6_plateByAmount ⟨Nat.le_of_ble_eq_true rfl, Nat.le_of_ble_eq_true rfl⟩) hK hP hD hS hA [0, 1, 2, 3, 4, 5, 6, 7, 8, 9, 10, 11] [] [0, 1, 2, 3, 4, 5, 6, 7, 8, 9, 10, 11] rfl rfl rfl (by decide) rfl rfl rfl 0 (ci := 4) rfl rfl rfl hl.1 rfl (Nat.le_of_ble_eq_true rfl) dL_holds_104 ⟨Nat.le_of_ble_eq_true rfl, Nat.le_of_ble_eq_true rfl⟩ (fun H locs hP hD hS => ?_)
                    refine lv_iload hx hb dL_holds_107 (lv_at hl 3 rfl) ?_
                    obtain ⟨k211, r212, g213, h⟩ := fB2 h
                    by_cases e214 : ¬ k211 = 0
                    · replace h := fF e214 h
                      exact fN h
                    replace e214 := Classical.not_not.mp e214
                    subst e214
                    replace h := fT rfl h
                    refine cV_i (As := [.int r208, .int r173]) (rest := []) (ws1 := (XW o y pl te be cn ch le rE rL rP rF rS rD hs ho hc sl fi)) ⟨hx, hb, hml, hown, hts⟩ (c_X6_compare l D o y _ pl te be cn ch le rE rL rP rF rS rD hs ho hc sl fi r208 r173 r212 g213) (cwV 2 hts gL_holds_X6_compare rfl rfl rfl hd_X6_compare ⟨Nat.le_of_ble_eq_true rfl, Nat.le_of_ble_eq_true rfl⟩) hK hP hD hS hA [0, 1, 2, 3, 4, 5, 6, 7, 8, 9, 10, 11] [] [0, 1, 2, 3, 4, 5, 6, 7, 8, 9, 10, 11] rfl rfl rfl (by decide) rfl rfl rfl 0 (ci := 4) rfl rfl rfl hl.1 rfl (Nat.le_of_ble_eq_true rfl) dL_holds_109 ⟨Nat.le_of_ble_eq_true rfl, Nat.le_of_ble_eq_true rfl⟩ (fun H locs hP hD hS => ?_)
                    refine lv_if_lt (tgt := 137) hx hb dL_holds_112 (by decide) (fun c215 => ?_) (fun c215 => ?_)
                    · replace h := fT c215 h
                      exact fN h
                    · replace h := fF c215 h
                      refine lv_aload_n hx hb dL_holds_115 rfl (lv_at hl 4 rfl) ?_
                      obtain ⟨r216, g217, h⟩ := fB1 h
                      refine cV_l (As := []) (rest := []) (ws1 := (XW o y pl te be cn ch le rE rL rP rF rS rD hs ho hc sl fi)) ⟨hx, hb, hml, hown, hts⟩ (c_X6_commonParts l D o y _ pl te be cn ch le rE rL rP rF rS rD hs ho hc sl fi r216 g217) (cwV 0 hts gL_holds_X6_commonParts rfl rfl rfl hd_X6_commonParts ⟨Nat.le_of_ble_eq_true rfl, Nat.le_of_ble_eq_true rfl⟩) hK hP hD hS hA [0, 1, 2, 3, 4, 5, 6, 7, 8, 9, 10, 11] [] [0, 1, 2, 3, 4, 5, 6, 7, 8, 9, 10, 11] rfl rfl rfl (by decide) rfl rfl rfl 0 (ci := 4) rfl rfl rfl hl.1 rfl (Nat.le_of_ble_eq_true rfl) dL_holds_116 ⟨Nat.le_of_ble_eq_true rfl, Nat.le_of_ble_eq_true rfl⟩ (fun H locs hP hD hS => ?_)
                      refine lv_lconst (v := (0 : Int64)) hx hb dL_holds_119 rfl ?_
                      refine lx_le (tgt := 139) hx hb dL_holds_120 dL_holds_121 (by decide) (fun c218 => ?_) (fun c218 => ?_)
                      · replace h := fT c218 h
                        refine lv_iinc (v := x2 + (1 : Int32)) (lv' := [(4, .int (x2 + (1 : Int32))), (3, .int (x1 ||| ((1 : Int32) <<< (r173 &&& 31)))), (7, .int r181), (6, .int r177), (5, .int r173), (0, .ref (o 0)), (1, .int a1), (2, .int a2)]) hx hb dL_holds_139 hl (k := 7) rfl rfl (by decide) rfl (fun ls hl => ?_)
                        refine lv_goto (tgt := 5) hx hb dL_holds_142 (by decide) ?_
                        exact ih (x1 ||| ((1 : Int32) <<< (r173 &&& 31))) (x2 + (1 : Int32)) _ _ _ h hP hD hS (lv_sub hl [5, 6, 7, 1, 0] rfl)
                      · replace h := fF c218 h
                        refine lv_aload_n hx hb dL_holds_124 rfl (lv_at hl 4 rfl) ?_
                        obtain ⟨r219, g220, h⟩ := fB1 h
                        refine cV_l (As := []) (rest := []) (ws1 := (XW o y pl te be cn ch le rE rL rP rF rS rD hs ho hc sl fi)) ⟨hx, hb, hml, hown, hts⟩ (c_X6_commonParts l D o y _ pl te be cn ch le rE rL rP rF rS rD hs ho hc sl fi r219 g220) (cwV 0 hts gL_holds_X6_commonParts rfl rfl rfl hd_X6_commonParts ⟨Nat.le_of_ble_eq_true rfl, Nat.le_of_ble_eq_true rfl⟩) hK hP hD hS hA [0, 1, 2, 3, 4, 5, 6, 7, 8, 9, 10, 11] [] [0, 1, 2, 3, 4, 5, 6, 7, 8, 9, 10, 11] rfl rfl rfl (by decide) rfl rfl rfl 0 (ci := 4) rfl rfl rfl hl.1 rfl (Nat.le_of_ble_eq_true rfl) dL_holds_125 ⟨Nat.le_of_ble_eq_true rfl, Nat.le_of_ble_eq_true rfl⟩ (fun H locs hP hD hS => ?_)
                        refine lv_iload hx hb dL_holds_128 (lv_at hl 1 rfl) ?_
                        refine lv_i2l (v := r181.toInt64) hx hb dL_holds_130 rfl ?_
                        obtain ⟨g221, h⟩ := fG h
                        refine lv_lrem hx hb dL_holds_131 g221 ?_
                        refine lv_lconst (v := (0 : Int64)) hx hb dL_holds_132 rfl ?_
                        refine lx_eq (tgt := 139) hx hb dL_holds_133 dL_holds_134 (by decide) (fun c222 => ?_) (fun c222 => ?_)
                        · replace h := fT c222 h
                          refine lv_iinc (v := x2 + (1 : Int32)) (lv' := [(4, .int (x2 + (1 : Int32))), (3, .int (x1 ||| ((1 : Int32) <<< (r173 &&& 31)))), (7, .int r181), (6, .int r177), (5, .int r173), (0, .ref (o 0)), (1, .int a1), (2, .int a2)]) hx hb dL_holds_139 hl (k := 7) rfl rfl (by decide) rfl (fun ls hl => ?_)
                          refine lv_goto (tgt := 5) hx hb dL_holds_142 (by decide) ?_
                          exact ih (x1 ||| ((1 : Int32) <<< (r173 &&& 31))) (x2 + (1 : Int32)) _ _ _ h hP hD hS (lv_sub hl [5, 6, 7, 1, 0] rfl)
                        · replace h := fF c222 h
                          exact fN h
  exact LP170 FU (0 : Int32) (0 : Int32) _ _ _ g4 hP hD hS (lv_sub hl [2, 3, 4, 1, 0] rfl)
