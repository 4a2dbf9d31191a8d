/-! the law's pieces -/
set_option maxHeartbeats 0 in
set_option maxRecDepth 100000 in
theorem cs_A {p : Program} {l : Launch} {e : Env} {s : State} {m : MethodId} {args : Array Value} {below : List Frame} {meth : Method} {c : Code} {Q : State → Prop} {D : va_G} {o : Nat → Nat} {y : Nat → ClassId} {A : Nat → Prop} {b L : Nat} {xs : Nat → Int32} {cells slots : Nat} (hL : L ≤ 260) (hx : p.tables.exec = Jvm.exec) (hb : c.code = code) (hml : c.maxLocals = 12) (hown : s.vm.findClass RL = some m.cls) (hts : ∀ w ∈ wsL_law, w.before args s = true) (hA : ∀ q, s.heap.size ≤ q → A q) (hK : va_K D vwCl (TY y) s) (hX : va_X b L xs s s.heap) (hbl : b < s.heap.size) (hbA : ¬ A b) (bcl : cells ≤ 153) (bsl : slots ≤ 1343) (pl : Nat → Int64) (te : Nat → Int32) (be : Nat → Int64) (cn : Int32) (ch : Nat → Int32) (le : Int32) (rE : Int32) (rL : Int32) (rP : Int32) (rF : Int32) (rS : Int32) (rD : Int32) (hs : Nat → Int64) (ho : Int32) (hc : Int32) (sl : Nat → Int64) (fi : Nat → Int32) (v2' : Int32) (te' : Nat → Int32) (be' : Nat → Int64) (cn' : Int32) (rE' : Int32) (rL' : Int32) (rP' : Int32) (rF' : Int32) (rS' : Int32) (rD' : Int32) (h : G_A pl te be cn ch le rE rL rP rF rS rD hc = some (v2', te', be', cn', rE', rL', rP', rF', rS', rD')) {H : Heap} {locs : List Loc} {ls : Array Slot} (hP : va_P D vwCl (XW o y pl te be cn ch le rE rL rP rF rS rD hs ho hc sl fi) H) (hD : va_D A (XW o y pl te be cn ch le rE rL rP rF rS rD hs ho hc sl fi)) (hS : va_S A s.heap H locs) (hl : lv_has ls 12 [(0, .ref b), (1, .ref (o 0))])
    (kk : ∀ (H : Heap) (locs : List Loc) (ls : Array Slot), va_P D vwCl (XW o y pl te' be' cn' ch le rE' rL' rP' rF' rS' rD' hs ho hc sl fi) H → va_D A (XW o y pl te' be' cn' ch le rE' rL' rP' rF' rS' rD' hs ho hc sl fi) → va_S A s.heap H locs → lv_has ls 12 [(0, .ref b), (1, .ref (o 0)), (2, .int v2')] → W p l e room_1 s m args below meth c H locs cells slots Q (F0 m 77 ls [])) : W p l e room_1 s m args below meth c H locs cells slots Q (F0 m 8 ls []) := by
  unfold G_A at h
  refine lv_aload_n hx hb dL_law_8 rfl (lv_at hl 1 rfl) ?_
  refine cV_i (As := []) (rest := []) (ws1 := (XW o y pl te be cn ch le rE rL rP rF rS rD hs ho hc sl fi)) ⟨hx, hb, hml, hown, hts⟩ (c_X6_undoCount l D o y _ pl te be cn ch le rE rL rP rF rS rD hs ho hc sl fi ) (cwV 0 hts gL_law_X6_undoCount rfl rfl rfl hd_X6_undoCount ⟨Nat.le_of_ble_eq_true rfl, Nat.le_of_ble_eq_true rfl⟩) hK hP hD hS hA [0, 1, 2, 3, 4, 5, 6, 7, 8, 9, 10, 11] [] [0, 1, 2, 3, 4, 5, 6, 7, 8, 9, 10, 11] rfl rfl rfl (by decide) rfl rfl rfl 0 (ci := 4) rfl rfl rfl hl.1 rfl (Nat.le_of_ble_eq_true rfl) dL_law_9 ⟨bcl, bsl⟩ (fun H locs hP hD hS => ?_)
  refine lv_if_ne (tgt := 73) hx hb dL_law_12 (by decide) (fun c1 => ?_) (fun c1 => ?_)
  · replace h := fF c1 h
    exact fN h
  · replace h := fT c1 h
    refine lv_aload_n hx hb dL_law_15 rfl (lv_at hl 1 rfl) ?_
    refine lv_iconst (v := (0 : Int32)) hx hb dL_law_16 (by decide) ?_
    obtain ⟨k2, r3, g4, h⟩ := fB2 h
    by_cases e5 : ¬ k2 = 0
    · replace h := fF e5 h
      exact fN h
    replace e5 := Classical.not_not.mp e5
    subst e5
    replace h := fT rfl h
    refine cV_i (As := [.int (0 : Int32)]) (rest := []) (ws1 := (XW o y pl te be cn ch le rE rL rP rF rS rD hs ho hc sl fi)) ⟨hx, hb, hml, hown, hts⟩ (c_X6_numeratorOf l D o y _ pl te be cn ch le rE rL rP rF rS rD hs ho hc sl fi (0 : Int32) r3 g4) (cwV 1 hts gL_law_X6_numeratorOf rfl rfl rfl hd_X6_numeratorOf ⟨Nat.le_of_ble_eq_true rfl, Nat.le_of_ble_eq_true rfl⟩) hK hP hD hS hA [0, 1, 2, 3, 4, 5, 6, 7, 8, 9, 10, 11] [] [0, 1, 2, 3, 4, 5, 6, 7, 8, 9, 10, 11] rfl rfl rfl (by decide) rfl rfl rfl 0 (ci := 4) rfl rfl rfl hl.1 rfl (Nat.le_of_ble_eq_true rfl) dL_law_17 ⟨bcl, bsl⟩ (fun H locs hP hD hS => ?_)
    refine lv_if_ne (tgt := 73) hx hb dL_law_20 (by decide) (fun c6 => ?_) (fun c6 => ?_)
    · replace h := fF c6 h
      exact fN h
    · replace h := fT c6 h
      refine lv_aload_n hx hb dL_law_23 rfl (lv_at hl 1 rfl) ?_
      refine lv_iconst (v := (5 : Int32)) hx hb dL_law_24 (by decide) ?_
      obtain ⟨k7, r8, g9, h⟩ := fB2 h
      by_cases e10 : ¬ k7 = 0
      · replace h := fF e10 h
        exact fN h
      replace e10 := Classical.not_not.mp e10
      subst e10
      replace h := fT rfl h
      refine cV_i (As := [.int (5 : Int32)]) (rest := []) (ws1 := (XW o y pl te be cn ch le rE rL rP rF rS rD hs ho hc sl fi)) ⟨hx, hb, hml, hown, hts⟩ (c_X6_denominatorOf l D o y _ pl te be cn ch le rE rL rP rF rS rD hs ho hc sl fi (5 : Int32) r8 g9) (cwV 1 hts gL_law_X6_denominatorOf rfl rfl rfl hd_X6_denominatorOf ⟨Nat.le_of_ble_eq_true rfl, Nat.le_of_ble_eq_true rfl⟩) hK hP hD hS hA [0, 1, 2, 3, 4, 5, 6, 7, 8, 9, 10, 11] [] [0, 1, 2, 3, 4, 5, 6, 7, 8, 9, 10, 11] rfl rfl rfl (by decide) rfl rfl rfl 0 (ci := 4) rfl rfl rfl hl.1 rfl (Nat.le_of_ble_eq_true rfl) dL_law_25 ⟨bcl, bsl⟩ (fun H locs hP hD hS => ?_)
      refine lv_iconst (v := (1 : Int32)) hx hb dL_law_28 (by decide) ?_
      refine lv_icmp_ne (tgt := 73) hx hb dL_law_29 (by decide) (fun c11 => ?_) (fun c11 => ?_)
      · replace h := fF c11 h
        exact fN h
      · replace h := fT c11 h
        refine lv_aload_n hx hb dL_law_32 rfl (lv_at hl 1 rfl) ?_
        obtain ⟨r12, g13, h⟩ := fB1 h
        refine cV_i (As := []) (rest := []) (ws1 := (XW o y pl te be cn ch le rE rL rP rF rS rD hs ho hc sl fi)) ⟨hx, hb, hml, hown, hts⟩ (c_X6_differentFractions l D o y _ pl te be cn ch le rE rL rP rF rS rD hs ho hc sl fi r12 g13) (cwV 0 hts gL_law_X6_differentFractions rfl rfl rfl hd_X6_differentFractions ⟨Nat.le_of_ble_eq_true rfl, Nat.le_of_ble_eq_true rfl⟩) hK hP hD hS hA [0, 1, 2, 3, 4, 5, 6, 7, 8, 9, 10, 11] [] [0, 1, 2, 3, 4, 5, 6, 7, 8, 9, 10, 11] rfl rfl rfl (by decide) rfl rfl rfl 0 (ci := 4) rfl rfl rfl hl.1 rfl (Nat.le_of_ble_eq_true rfl) dL_law_33 ⟨bcl, bsl⟩ (fun H locs hP hD hS => ?_)
        refine lv_iconst (v := (1 : Int32)) hx hb dL_law_36 (by decide) ?_
        refine lv_icmp_ne (tgt := 73) hx hb dL_law_37 (by decide) (fun c14 => ?_) (fun c14 => ?_)
        · replace h := fF c14 h
          exact fN h
        · replace h := fT c14 h
          refine lv_aload_n hx hb dL_law_40 rfl (lv_at hl 1 rfl) ?_
          obtain ⟨r15, g16, h⟩ := fB1 h
          refine cV_l (As := []) (rest := []) (ws1 := (XW o y pl te be cn ch le rE rL rP rF rS rD hs ho hc sl fi)) ⟨hx, hb, hml, hown, hts⟩ (c_X6_commonParts l D o y _ pl te be cn ch le rE rL rP rF rS rD hs ho hc sl fi r15 g16) (cwV 0 hts gL_law_X6_commonParts rfl rfl rfl hd_X6_commonParts ⟨Nat.le_of_ble_eq_true rfl, Nat.le_of_ble_eq_true rfl⟩) hK hP hD hS hA [0, 1, 2, 3, 4, 5, 6, 7, 8, 9, 10, 11] [] [0, 1, 2, 3, 4, 5, 6, 7, 8, 9, 10, 11] rfl rfl rfl (by decide) rfl rfl rfl 0 (ci := 4) rfl rfl rfl hl.1 rfl (Nat.le_of_ble_eq_true rfl) dL_law_41 ⟨bcl, bsl⟩ (fun H locs hP hD hS => ?_)
          refine lv_lconst (v := (1 : Int64)) hx hb dL_law_44 rfl ?_
          refine lx_ne (tgt := 73) hx hb dL_law_45 dL_law_46 (by decide) (fun c17 => ?_) (fun c17 => ?_)
          · replace h := fF c17 h
            exact fN h
          · replace h := fT c17 h
            refine lv_aload_n hx hb dL_law_49 rfl (lv_at hl 1 rfl) ?_
            refine lv_iconst (v := (3 : Int32)) hx hb dL_law_50 (by decide) ?_
            obtain ⟨k18, r19, te20, be21, cn22, g23, h⟩ := fB5 h
            by_cases e24 : ¬ k18 = 0
            · replace h := fF e24 h
              exact fN h
            replace e24 := Classical.not_not.mp e24
            subst e24
            replace h := fT rfl h
            refine cV_i (As := [.int (3 : Int32)]) (rest := []) (ws1 := (XW o y pl te20 be21 cn22 ch le rE rL rP rF rS rD hs ho hc sl fi)) ⟨hx, hb, hml, hown, hts⟩ (c_X6_termCount l D o y _ pl te be cn ch le rE rL rP rF rS rD hs ho hc sl fi (3 : Int32) r19 te20 be21 cn22 g23) (cwV 1 hts gL_law_X6_termCount rfl rfl rfl hd_X6_termCount ⟨Nat.le_of_ble_eq_true rfl, Nat.le_of_ble_eq_true rfl⟩) hK hP hD hS hA [0, 1, 2, 3, 4, 5, 6, 7, 8, 9, 10, 11] [] [0, 1, 2, 3, 4, 5, 6, 7, 8, 9, 10, 11] rfl rfl rfl (by decide) rfl rfl rfl 0 (ci := 4) rfl rfl rfl hl.1 rfl (Nat.le_of_ble_eq_true rfl) dL_law_51 ⟨bcl, bsl⟩ (fun H locs hP hD hS => ?_)
            refine lv_iconst (v := (1 : Int32)) hx hb dL_law_54 (by decide) ?_
            refine lv_icmp_ne (tgt := 73) hx hb dL_law_55 (by decide) (fun c25 => ?_) (fun c25 => ?_)
            · replace h := fF c25 h
              exact fN h
            · replace h := fT c25 h
              refine lv_aload_n hx hb dL_law_58 rfl (lv_at hl 1 rfl) ?_
              refine lv_iconst (v := (2 : Int32)) hx hb dL_law_59 (by decide) ?_
              obtain ⟨k26, r27, g28, h⟩ := fB2 h
              by_cases e29 : ¬ k26 = 0
              · replace h := fF e29 h
                exact fN h
              replace e29 := Classical.not_not.mp e29
              subst e29
              replace h := fT rfl h
              refine cV_i (As := [.int (2 : Int32)]) (rest := []) (ws1 := (XW o y pl te20 be21 cn22 ch le rE rL rP rF rS rD hs ho hc sl fi)) ⟨hx, hb, hml, hown, hts⟩ (c_X6_unitCount l D o y _ pl te20 be21 cn22 ch le rE rL rP rF rS rD hs ho hc sl fi (2 : Int32) r27 g28) (cwV 1 hts gL_law_X6_unitCount rfl rfl rfl hd_X6_unitCount ⟨Nat.le_of_ble_eq_true rfl, Nat.le_of_ble_eq_true rfl⟩) hK hP hD hS hA [0, 1, 2, 3, 4, 5, 6, 7, 8, 9, 10, 11] [] [0, 1, 2, 3, 4, 5, 6, 7, 8, 9, 10, 11] rfl rfl rfl (by decide) rfl rfl rfl 0 (ci := 4) rfl rfl rfl hl.1 rfl (Nat.le_of_ble_eq_true rfl) dL_law_60 ⟨bcl, bsl⟩ (fun H locs hP hD hS => ?_)
              refine lv_if_ne (tgt := 73) hx hb dL_law_63 (by decide) (fun c30 => ?_) (fun c30 => ?_)
              · replace h := fF c30 h
                exact fN h
              · replace h := fT c30 h
                refine lv_aload_n hx hb dL_law_66 rfl (lv_at hl 1 rfl) ?_
                obtain ⟨r31, rE32, rL33, rP34, rF35, rS36, rD37, g38, h⟩ := fB7 h
                refine cV_i (As := []) (rest := []) (ws1 := (XW o y pl te20 be21 cn22 ch le rE32 rL33 rP34 rF35 rS36 rD37 hs ho hc sl fi)) ⟨hx, hb, hml, hown, hts⟩ (c_X6_textError l D o y _ pl te20 be21 cn22 ch le rE rL rP rF rS rD hs ho hc sl fi r31 rE32 rL33 rP34 rF35 rS36 rD37 g38) (cwV 0 hts gL_law_X6_textError rfl rfl rfl hd_X6_textError ⟨Nat.le_of_ble_eq_true rfl, Nat.le_of_ble_eq_true rfl⟩) hK hP hD hS hA [0, 1, 2, 3, 4, 5, 6, 7, 8, 9, 10, 11] [] [0, 1, 2, 3, 4, 5, 6, 7, 8, 9, 10, 11] rfl rfl rfl (by decide) rfl rfl rfl 0 (ci := 4) rfl rfl rfl hl.1 rfl (Nat.le_of_ble_eq_true rfl) dL_law_67 ⟨bcl, bsl⟩ (fun H locs hP hD hS => ?_)
                refine lv_if_eq (tgt := 75) hx hb dL_law_70 (by decide) (fun c39 => ?_) (fun c39 => ?_)
                · replace h := fT c39 h
                  refine lv_iconst (v := (0 : Int32)) hx hb dL_law_75 (by decide) ?_
                  refine lv_istore_n (lv' := [(2, .int (0 : Int32)), (0, .ref b), (1, .ref (o 0))]) hx hb dL_law_76 rfl hl (by decide) rfl (fun ls hl => ?_)
                  cases h
                  exact kk _ _ _ hP hD hS (lv_sub hl [1, 2, 0] rfl)
                · replace h := fF c39 h
                  exact fN h
set_option maxHeartbeats 0 in
set_option maxRecDepth 100000 in
theorem cs_B {p : Program} {l : Launch} {e : Env} {s : State} {m : MethodId} {args : Array Value} {below : List Frame} {meth : Method} {c : Code} {Q : State → Prop} {D : va_G} {o : Nat → Nat} {y : Nat → ClassId} {A : Nat → Prop} {b L : Nat} {xs : Nat → Int32} {cells slots : Nat} (hL : L ≤ 260) (hx : p.tables.exec = Jvm.exec) (hb : c.code = code) (hml : c.maxLocals = 12) (hown : s.vm.findClass RL = some m.cls) (hts : ∀ w ∈ wsL_law, w.before args s = true) (hA : ∀ q, s.heap.size ≤ q → A q) (hK : va_K D vwCl (TY y) s) (hX : va_X b L xs s s.heap) (hbl : b < s.heap.size) (hbA : ¬ A b) (bcl : cells ≤ 153) (bsl : slots ≤ 1343) {x2 a1 a2 : Int32} {j2 : Nat} (hj2 : j2 < 1000) (hi2 : ((2 : Int32) * x2) + (1 : Int32) = nI j2) (ha2 : cv xs L j2 = a2) (pl : Nat → Int64) (te : Nat → Int32) (be : Nat → Int64) (cn : Int32) (ch : Nat → Int32) (le : Int32) (rE : Int32) (rL : Int32) (rP : Int32) (rF : Int32) (rS : Int32) (rD : Int32) (hs : Nat → Int64) (ho : Int32) (hc : Int32) (sl : Nat → Int64) (fi : Nat → Int32) (v3' : Int32) (v4' : Int32) (pl' : Nat → Int64) (te' : Nat → Int32) (be' : Nat → Int64) (cn' : Int32) (hs' : Nat → Int64) (ho' : Int32) (hc' : Int32) (h : G_B pl te be cn hs ho hc x2 a1 a2 = some (v3', v4', pl', te', be', cn', hs', ho', hc')) {H : Heap} {locs : List Loc} {ls : Array Slot} (hP : va_P D vwCl (XW o y pl te be cn ch le rE rL rP rF rS rD hs ho hc sl fi) H) (hD : va_D A (XW o y pl te be cn ch le rE rL rP rF rS rD hs ho hc sl fi)) (hS : va_S A s.heap H locs) (hl : lv_has ls 12 [(0, .ref b), (1, .ref (o 0)), (2, .int x2), (3, .int a1)])
    (kk : ∀ (H : Heap) (locs : List Loc) (ls : Array Slot), va_P D vwCl (XW o y pl' te' be' cn' ch le rE rL rP rF rS rD hs' ho' hc' sl fi) H → va_D A (XW o y pl' te' be' cn' ch le rE rL rP rF rS rD hs' ho' hc' sl fi) → va_S A s.heap H locs → lv_has ls 12 [(0, .ref b), (1, .ref (o 0)), (2, .int x2), (3, .int v3'), (4, .int v4')] → W p l e room_1 s m args below meth c H locs cells slots Q (F0 m 256 ls [])) : W p l e room_1 s m args below meth c H locs cells slots Q (F0 m 91 ls []) := by
  unfold G_B at h
  refine lv_iload_n hx hb dL_law_91 rfl (lv_at hl 2 rfl) ?_
  refine lv_iconst (v := (3 : Int32)) hx hb dL_law_92 (by decide) ?_
  have J1 : ∀ (v2 : Int32) (ls : Array Slot), v2 = (if (3 : Int32) ≤ x2 then a1 else (a1 &&& (-16 : Int32))) → lv_has ls 12 [(0, .ref b), (1, .ref (o 0)), (2, .int x2), (3, .int a1)] → W p l e room_1 s m args below meth c H locs cells slots Q (F0 m 104 ls [.int v2]) := by
    intro v2 ls ev2 hl
    subst ev2
    refine lv_istore_n (lv' := [(3, .int (if (3 : Int32) ≤ x2 then a1 else (a1 &&& (-16 : Int32)))), (0, .ref b), (1, .ref (o 0)), (2, .int x2)]) hx hb dL_law_104 rfl hl (by decide) rfl (fun ls hl => ?_)
    refine lv_aload_n hx hb dL_law_105 rfl (lv_at hl 1 rfl) ?_
    refine lv_iconst (v := (2 : Int32)) hx hb dL_law_106 (by decide) ?_
    refine lv_iload_n hx hb dL_law_107 rfl (lv_at hl 3 rfl) ?_
    refine lv_imul hx hb dL_law_108 ?_
    refine lv_iconst (v := (1 : Int32)) hx hb dL_law_109 (by decide) ?_
    refine lv_iadd hx hb dL_law_110 ?_
    refine eqi hi2 ?_
    refine cX_i (As := [.ref b, .int (nI j2)]) (rest := []) ⟨hx, hb, hml, hown, hts⟩ (c_L_cell l D y _ b L xs hL j2 hj2) (va_cwS 2 hts gL_law_L_cell rfl rfl rfl hd_L_cell ⟨Nat.le_of_ble_eq_true rfl, Nat.le_of_ble_eq_true rfl⟩) hK hP hD hS hA hX hbl hbA rfl hl.1 rfl (Nat.le_of_ble_eq_true rfl) dL_law_111 ⟨bcl, bsl⟩ (fun H locs hP hD hS => ?_)
    refine eqi ha2 ?_
    refine lv_istore (lv' := [(4, .int a2), (3, .int (if (3 : Int32) ≤ x2 then a1 else (a1 &&& (-16 : Int32)))), (0, .ref b), (1, .ref (o 0)), (2, .int x2)]) hx hb dL_law_114 hl (by decide) rfl (fun ls hl => ?_)
    refine lv_aload_n hx hb dL_law_116 rfl (lv_at hl 3 rfl) ?_
    obtain ⟨r3, g4, h⟩ := fB1 h
    refine cS_l (As := [.ref (o 0)]) (rest := []) (ws1 := (XW o y pl te be cn ch le rE rL rP rF rS rD hs ho hc sl fi)) ⟨hx, hb, hml, hown, hts⟩ (c_L_told l D o y _ pl te be cn ch le rE rL rP rF rS rD hs ho hc sl fi r3 g4) (va_cwS 1 hts gL_law_L_told rfl rfl rfl hd_L_told ⟨Nat.le_of_ble_eq_true rfl, Nat.le_of_ble_eq_true rfl⟩) hK hP hD hS hA [0, 1, 2, 3, 4, 5, 6, 7, 8, 9, 10, 11] [] [0, 1, 2, 3, 4, 5, 6, 7, 8, 9, 10, 11] rfl rfl rfl (by decide) rfl rfl rfl rfl hl.1 rfl (Nat.le_of_ble_eq_true rfl) dL_law_117 ⟨bcl, bsl⟩ (fun H locs hP hD hS => ?_)
    refine lv_lstore (lv' := [(5, .long r3), (4, .int a2), (3, .int (if (3 : Int32) ≤ x2 then a1 else (a1 &&& (-16 : Int32)))), (0, .ref b), (1, .ref (o 0)), (2, .int x2)]) hx hb dL_law_120 hl (by decide) rfl (fun ls hl => ?_)
    refine lv_aload_n hx hb dL_law_122 rfl (lv_at hl 4 rfl) ?_
    refine cV_i (As := []) (rest := []) (ws1 := (XW o y pl te be cn ch le rE rL rP rF rS rD hs ho hc sl fi)) ⟨hx, hb, hml, hown, hts⟩ (c_X6_undoCount l D o y _ pl te be cn ch le rE rL rP rF rS rD hs ho hc sl fi ) (cwV 0 hts gL_law_X6_undoCount rfl rfl rfl hd_X6_undoCount ⟨Nat.le_of_ble_eq_true rfl, Nat.le_of_ble_eq_true rfl⟩) hK hP hD hS hA [0, 1, 2, 3, 4, 5, 6, 7, 8, 9, 10, 11] [] [0, 1, 2, 3, 4, 5, 6, 7, 8, 9, 10, 11] rfl rfl rfl (by decide) rfl rfl rfl 0 (ci := 4) rfl rfl rfl hl.1 rfl (Nat.le_of_ble_eq_true rfl) dL_law_123 ⟨bcl, bsl⟩ (fun H locs hP hD hS => ?_)
    refine lv_istore (lv' := [(7, .int (F_X6_undoCount hc)), (5, .long r3), (4, .int a2), (3, .int (if (3 : Int32) ≤ x2 then a1 else (a1 &&& (-16 : Int32)))), (0, .ref b), (1, .ref (o 0)), (2, .int x2)]) hx hb dL_law_126 hl (by decide) rfl (fun ls hl => ?_)
    refine lv_aload_n hx hb dL_law_128 rfl (lv_at hl 5 rfl) ?_
    refine lv_iload_n hx hb dL_law_129 rfl (lv_at hl 3 rfl) ?_
    refine lv_iload hx hb dL_law_130 (lv_at hl 2 rfl) ?_
    obtain ⟨r5, pl6, te7, be8, cn9, hs10, ho11, hc12, g13, h⟩ := fB8 h
    refine cS_i (As := [.ref (o 0), .int (if (3 : Int32) ≤ x2 then a1 else (a1 &&& (-16 : Int32))), .int a2]) (rest := []) (ws1 := (XW o y pl6 te7 be8 cn9 ch le rE rL rP rF rS rD hs10 ho11 hc12 sl fi)) ⟨hx, hb, hml, hown, hts⟩ (c_L_act l D o y _ pl te be cn ch le rE rL rP rF rS rD hs ho hc sl fi (if (3 : Int32) ≤ x2 then a1 else (a1 &&& (-16 : Int32))) a2 r5 pl6 te7 be8 cn9 hs10 ho11 hc12 g13) (va_cwS 3 hts gL_law_L_act rfl rfl rfl hd_L_act ⟨Nat.le_of_ble_eq_true rfl, Nat.le_of_ble_eq_true rfl⟩) hK hP hD hS hA [0, 1, 2, 3, 4, 5, 6, 7, 8, 9, 10, 11] [] [0, 1, 2, 3, 4, 5, 6, 7, 8, 9, 10, 11] rfl rfl rfl (by decide) rfl rfl rfl rfl hl.1 rfl (Nat.le_of_ble_eq_true rfl) dL_law_132 ⟨bcl, bsl⟩ (fun H locs hP hD hS => ?_)
    refine lv_istore (lv' := [(8, .int r5), (7, .int (F_X6_undoCount hc)), (5, .long r3), (4, .int a2), (3, .int (if (3 : Int32) ≤ x2 then a1 else (a1 &&& (-16 : Int32)))), (0, .ref b), (1, .ref (o 0)), (2, .int x2)]) hx hb dL_law_135 hl (by decide) rfl (fun ls hl => ?_)
    refine lv_aload_n hx hb dL_law_137 rfl (lv_at hl 6 rfl) ?_
    obtain ⟨r14, g15, h⟩ := fB1 h
    refine cS_l (As := [.ref (o 0)]) (rest := []) (ws1 := (XW o y pl6 te7 be8 cn9 ch le rE rL rP rF rS rD hs10 ho11 hc12 sl fi)) ⟨hx, hb, hml, hown, hts⟩ (c_L_told l D o y _ pl6 te7 be8 cn9 ch le rE rL rP rF rS rD hs10 ho11 hc12 sl fi r14 g15) (va_cwS 1 hts gL_law_L_told rfl rfl rfl hd_L_told ⟨Nat.le_of_ble_eq_true rfl, Nat.le_of_ble_eq_true rfl⟩) hK hP hD hS hA [0, 1, 2, 3, 4, 5, 6, 7, 8, 9, 10, 11] [] [0, 1, 2, 3, 4, 5, 6, 7, 8, 9, 10, 11] rfl rfl rfl (by decide) rfl rfl rfl rfl hl.1 rfl (Nat.le_of_ble_eq_true rfl) dL_law_138 ⟨bcl, bsl⟩ (fun H locs hP hD hS => ?_)
    refine lv_lstore (lv' := [(9, .long r14), (8, .int r5), (7, .int (F_X6_undoCount hc)), (5, .long r3), (4, .int a2), (3, .int (if (3 : Int32) ≤ x2 then a1 else (a1 &&& (-16 : Int32)))), (0, .ref b), (1, .ref (o 0)), (2, .int x2)]) hx hb dL_law_141 hl (by decide) rfl (fun ls hl => ?_)
    refine lv_iload hx hb dL_law_143 (lv_at hl 1 rfl) ?_
    refine lv_if_ne (tgt := 168) hx hb dL_law_145 (by decide) (fun c16 => ?_) (fun c16 => ?_)
    · replace h := fF c16 h
      refine lv_aload_n hx hb dL_law_168 rfl (lv_at hl 7 rfl) ?_
      refine cV_i (As := []) (rest := []) (ws1 := (XW o y pl6 te7 be8 cn9 ch le rE rL rP rF rS rD hs10 ho11 hc12 sl fi)) ⟨hx, hb, hml, hown, hts⟩ (c_X6_undoCount l D o y _ pl6 te7 be8 cn9 ch le rE rL rP rF rS rD hs10 ho11 hc12 sl fi ) (cwV 0 hts gL_law_X6_undoCount rfl rfl rfl hd_X6_undoCount ⟨Nat.le_of_ble_eq_true rfl, Nat.le_of_ble_eq_true rfl⟩) hK hP hD hS hA [0, 1, 2, 3, 4, 5, 6, 7, 8, 9, 10, 11] [] [0, 1, 2, 3, 4, 5, 6, 7, 8, 9, 10, 11] rfl rfl rfl (by decide) rfl rfl rfl 0 (ci := 4) rfl rfl rfl hl.1 rfl (Nat.le_of_ble_eq_true rfl) dL_law_169 ⟨bcl, bsl⟩ (fun H locs hP hD hS => ?_)
      refine lv_iload hx hb dL_law_172 (lv_at hl 2 rfl) ?_
      refine lv_bipush (v := (6 : Int32)) hx hb dL_law_174 (by decide) ?_
      have J17 : ∀ (v18 : Int32) (ls : Array Slot), v18 = (if (6 : Int32) ≤ (F_X6_undoCount hc) then (6 : Int32) else ((F_X6_undoCount hc) + (1 : Int32))) → lv_has ls 12 [(0, .ref b), (1, .ref (o 0)), (2, .int x2), (3, .int (if (3 : Int32) ≤ x2 then a1 else (a1 &&& (-16 : Int32)))), (4, .int a2), (5, .long r3), (7, .int (F_X6_undoCount hc)), (8, .int r5), (9, .long r14)] → W p l e room_1 s m args below meth c H locs cells slots Q (F0 m 188 ls [.int v18, .int (F_X6_undoCount hc12)]) := by
        intro v18 ls ev18 hl
        subst ev18
        refine lv_icmp_eq (tgt := 193) hx hb dL_law_188 (by decide) (fun c19 => ?_) (fun c19 => ?_)
        · replace h := fT c19 h
          refine lv_iload hx hb dL_law_193 (lv_at hl 7 rfl) ?_
          refine lv_if_eq (tgt := 256) hx hb dL_law_195 (by decide) (fun c20 => ?_) (fun c20 => ?_)
          · replace h := fT c20 h
            cases h
            exact kk _ _ _ hP hD hS (lv_sub hl [0, 1, 2, 3, 4] rfl)
          · replace h := fF c20 h
            refine lv_iload_n hx hb dL_law_198 rfl (lv_at hl 3 rfl) ?_
            refine lv_bipush (v := (20 : Int32)) hx hb dL_law_199 (by decide) ?_
            refine lv_ishr hx hb dL_law_201 ?_
            refine lv_iconst (v := (1 : Int32)) hx hb dL_law_202 (by decide) ?_
            refine lv_iand hx hb dL_law_203 ?_
            refine lv_if_ne (tgt := 256) hx hb dL_law_204 (by decide) (fun c21 => ?_) (fun c21 => ?_)
            · replace h := fF c21 h
              cases h
              exact kk _ _ _ hP hD hS (lv_sub hl [0, 1, 2, 3, 4] rfl)
            · replace h := fT c21 h
              refine lv_aload_n hx hb dL_law_207 rfl (lv_at hl 1 rfl) ?_
              refine cV_i (As := []) (rest := []) (ws1 := (XW o y pl6 te7 be8 cn9 ch le rE rL rP rF rS rD hs10 ho11 hc12 sl fi)) ⟨hx, hb, hml, hown, hts⟩ (c_X6_undoCount l D o y _ pl6 te7 be8 cn9 ch le rE rL rP rF rS rD hs10 ho11 hc12 sl fi ) (cwV 0 hts gL_law_X6_undoCount rfl rfl rfl hd_X6_undoCount ⟨Nat.le_of_ble_eq_true rfl, Nat.le_of_ble_eq_true rfl⟩) hK hP hD hS hA [0, 1, 2, 3, 4, 5, 6, 7, 8, 9, 10, 11] [] [0, 1, 2, 3, 4, 5, 6, 7, 8, 9, 10, 11] rfl rfl rfl (by decide) rfl rfl rfl 0 (ci := 4) rfl rfl rfl hl.1 rfl (Nat.le_of_ble_eq_true rfl) dL_law_208 ⟨bcl, bsl⟩ (fun H locs hP hD hS => ?_)
              refine lv_iconst (v := (1 : Int32)) hx hb dL_law_211 (by decide) ?_
              refine lv_isub hx hb dL_law_212 ?_
              refine lv_istore (lv' := [(11, .int ((F_X6_undoCount hc12) - (1 : Int32))), (0, .ref b), (1, .ref (o 0)), (2, .int x2), (3, .int (if (3 : Int32) ≤ x2 then a1 else (a1 &&& (-16 : Int32)))), (4, .int a2), (5, .long r3), (7, .int (F_X6_undoCount hc)), (8, .int r5), (9, .long r14)]) hx hb dL_law_213 hl (by decide) rfl (fun ls hl => ?_)
              refine lv_aload_n hx hb dL_law_215 rfl (lv_at hl 2 rfl) ?_
              obtain ⟨k22, r23, pl24, hc25, g26, h⟩ := fB4 h
              by_cases e27 : ¬ k22 = 0
              · replace h := fF e27 h
                exact fN h
              replace e27 := Classical.not_not.mp e27
              subst e27
              replace h := fT rfl h
              refine cV_i (As := []) (rest := []) (ws1 := (XW o y pl24 te7 be8 cn9 ch le rE rL rP rF rS rD hs10 ho11 hc25 sl fi)) ⟨hx, hb, hml, hown, hts⟩ (c_X6_undo l D o y _ pl6 te7 be8 cn9 ch le rE rL rP rF rS rD hs10 ho11 hc12 sl fi r23 pl24 hc25 g26) (cwV 0 hts gL_law_X6_undo rfl rfl rfl hd_X6_undo ⟨Nat.le_of_ble_eq_true rfl, Nat.le_of_ble_eq_true rfl⟩) hK hP hD hS hA [0, 1, 2, 3, 4, 5, 6, 7, 8, 9, 10, 11] [] [0, 1, 2, 3, 4, 5, 6, 7, 8, 9, 10, 11] rfl rfl rfl (by decide) rfl rfl rfl 0 (ci := 4) rfl rfl rfl hl.1 rfl (Nat.le_of_ble_eq_true rfl) dL_law_216 ⟨bcl, bsl⟩ (fun H locs hP hD hS => ?_)
              refine lv_iload hx hb dL_law_219 (lv_at hl 0 rfl) ?_
              refine lv_icmp_ne (tgt := 254) hx hb dL_law_221 (by decide) (fun c28 => ?_) (fun c28 => ?_)
              · replace h := fF c28 h
                exact fN h
              · replace h := fT c28 h
                refine lv_aload_n hx hb dL_law_224 rfl (lv_at hl 2 rfl) ?_
                obtain ⟨r29, g30, h⟩ := fB1 h
                refine cS_l (As := [.ref (o 0)]) (rest := []) (ws1 := (XW o y pl24 te7 be8 cn9 ch le rE rL rP rF rS rD hs10 ho11 hc25 sl fi)) ⟨hx, hb, hml, hown, hts⟩ (c_L_told l D o y _ pl24 te7 be8 cn9 ch le rE rL rP rF rS rD hs10 ho11 hc25 sl fi r29 g30) (va_cwS 1 hts gL_law_L_told rfl rfl rfl hd_L_told ⟨Nat.le_of_ble_eq_true rfl, Nat.le_of_ble_eq_true rfl⟩) hK hP hD hS hA [0, 1, 2, 3, 4, 5, 6, 7, 8, 9, 10, 11] [] [0, 1, 2, 3, 4, 5, 6, 7, 8, 9, 10, 11] rfl rfl rfl (by decide) rfl rfl rfl rfl hl.1 rfl (Nat.le_of_ble_eq_true rfl) dL_law_225 ⟨bcl, bsl⟩ (fun H locs hP hD hS => ?_)
                refine lv_lload hx hb dL_law_228 (lv_at hl 6 rfl) ?_
                refine lx_ne (tgt := 254) hx hb dL_law_230 dL_law_231 (by decide) (fun c31 => ?_) (fun c31 => ?_)
                · replace h := fF c31 h
                  exact fN h
                · replace h := fT c31 h
                  refine lv_aload_n hx hb dL_law_234 rfl (lv_at hl 2 rfl) ?_
                  refine lv_iload_n hx hb dL_law_235 rfl (lv_at hl 4 rfl) ?_
                  refine lv_iload hx hb dL_law_236 (lv_at hl 5 rfl) ?_
                  obtain ⟨r32, pl33, te34, be35, cn36, hs37, ho38, hc39, g40, h⟩ := fB8 h
                  refine cS_i (As := [.ref (o 0), .int (if (3 : Int32) ≤ x2 then a1 else (a1 &&& (-16 : Int32))), .int a2]) (rest := []) (ws1 := (XW o y pl33 te34 be35 cn36 ch le rE rL rP rF rS rD hs37 ho38 hc39 sl fi)) ⟨hx, hb, hml, hown, hts⟩ (c_L_act l D o y _ pl24 te7 be8 cn9 ch le rE rL rP rF rS rD hs10 ho11 hc25 sl fi (if (3 : Int32) ≤ x2 then a1 else (a1 &&& (-16 : Int32))) a2 r32 pl33 te34 be35 cn36 hs37 ho38 hc39 g40) (va_cwS 3 hts gL_law_L_act rfl rfl rfl hd_L_act ⟨Nat.le_of_ble_eq_true rfl, Nat.le_of_ble_eq_true rfl⟩) hK hP hD hS hA [0, 1, 2, 3, 4, 5, 6, 7, 8, 9, 10, 11] [] [0, 1, 2, 3, 4, 5, 6, 7, 8, 9, 10, 11] rfl rfl rfl (by decide) rfl rfl rfl rfl hl.1 rfl (Nat.le_of_ble_eq_true rfl) dL_law_238 ⟨bcl, bsl⟩ (fun H locs hP hD hS => ?_)
                  refine lv_if_eq (tgt := 254) hx hb dL_law_241 (by decide) (fun c41 => ?_) (fun c41 => ?_)
                  · replace h := fT c41 h
                    exact fN h
                  · replace h := fF c41 h
                    refine lv_aload_n hx hb dL_law_244 rfl (lv_at hl 2 rfl) ?_
                    obtain ⟨r42, g43, h⟩ := fB1 h
                    refine cS_l (As := [.ref (o 0)]) (rest := []) (ws1 := (XW o y pl33 te34 be35 cn36 ch le rE rL rP rF rS rD hs37 ho38 hc39 sl fi)) ⟨hx, hb, hml, hown, hts⟩ (c_L_told l D o y _ pl33 te34 be35 cn36 ch le rE rL rP rF rS rD hs37 ho38 hc39 sl fi r42 g43) (va_cwS 1 hts gL_law_L_told rfl rfl rfl hd_L_told ⟨Nat.le_of_ble_eq_true rfl, Nat.le_of_ble_eq_true rfl⟩) hK hP hD hS hA [0, 1, 2, 3, 4, 5, 6, 7, 8, 9, 10, 11] [] [0, 1, 2, 3, 4, 5, 6, 7, 8, 9, 10, 11] rfl rfl rfl (by decide) rfl rfl rfl rfl hl.1 rfl (Nat.le_of_ble_eq_true rfl) dL_law_245 ⟨bcl, bsl⟩ (fun H locs hP hD hS => ?_)
                    refine lv_lload hx hb dL_law_248 (lv_at hl 9 rfl) ?_
                    refine lx_eq (tgt := 256) hx hb dL_law_250 dL_law_251 (by decide) (fun c44 => ?_) (fun c44 => ?_)
                    · replace h := fT c44 h
                      cases h
                      exact kk _ _ _ hP hD hS (lv_sub hl [1, 2, 3, 4, 5] rfl)
                    · replace h := fF c44 h
                      exact fN h
        · replace h := fF c19 h
          exact fN h
      refine lv_icmp_ge (tgt := 186) hx hb dL_law_176 (by decide) (fun c45 => ?_) (fun c45 => ?_)
      · refine lv_bipush (v := (6 : Int32)) hx hb dL_law_186 (by decide) ?_
        exact J17 _ _ (by rw [if_pos c45]) (lv_sub hl [6, 7, 8, 5, 4, 3, 2, 1, 0] rfl)
      · refine lv_iload hx hb dL_law_179 (lv_at hl 2 rfl) ?_
        refine lv_iconst (v := (1 : Int32)) hx hb dL_law_181 (by decide) ?_
        refine lv_iadd hx hb dL_law_182 ?_
        refine lv_goto (tgt := 188) hx hb dL_law_183 (by decide) ?_
        exact J17 _ _ (by rw [if_neg c45]) (lv_sub hl [6, 7, 8, 5, 4, 3, 2, 1, 0] rfl)
    · replace h := fT c16 h
      refine lv_lload hx hb dL_law_148 (lv_at hl 0 rfl) ?_
      refine lv_lload hx hb dL_law_150 (lv_at hl 3 rfl) ?_
      refine lx_ne (tgt := 191) hx hb dL_law_152 dL_law_153 (by decide) (fun c46 => ?_) (fun c46 => ?_)
      · replace h := fF c46 h
        exact fN h
      · replace h := fT c46 h
        refine lv_aload_n hx hb dL_law_156 rfl (lv_at hl 7 rfl) ?_
        refine cV_i (As := []) (rest := []) (ws1 := (XW o y pl6 te7 be8 cn9 ch le rE rL rP rF rS rD hs10 ho11 hc12 sl fi)) ⟨hx, hb, hml, hown, hts⟩ (c_X6_undoCount l D o y _ pl6 te7 be8 cn9 ch le rE rL rP rF rS rD hs10 ho11 hc12 sl fi ) (cwV 0 hts gL_law_X6_undoCount rfl rfl rfl hd_X6_undoCount ⟨Nat.le_of_ble_eq_true rfl, Nat.le_of_ble_eq_true rfl⟩) hK hP hD hS hA [0, 1, 2, 3, 4, 5, 6, 7, 8, 9, 10, 11] [] [0, 1, 2, 3, 4, 5, 6, 7, 8, 9, 10, 11] rfl rfl rfl (by decide) rfl rfl rfl 0 (ci := 4) rfl rfl rfl hl.1 rfl (Nat.le_of_ble_eq_true rfl) dL_law_157 ⟨bcl, bsl⟩ (fun H locs hP hD hS => ?_)
        refine lv_iload hx hb dL_law_160 (lv_at hl 2 rfl) ?_
        refine lv_icmp_eq (tgt := 193) hx hb dL_law_162 (by decide) (fun c47 => ?_) (fun c47 => ?_)
        · replace h := fT c47 h
          refine lv_iload hx hb dL_law_193 (lv_at hl 1 rfl) ?_
          refine lv_if_eq (tgt := 256) hx hb dL_law_195 (by decide) (fun c48 => ?_) (fun c48 => ?_)
          · replace h := fT c48 h
            cases h
            exact kk _ _ _ hP hD hS (lv_sub hl [6, 7, 8, 5, 4] rfl)
          · replace h := fF c48 h
            refine lv_iload_n hx hb dL_law_198 rfl (lv_at hl 5 rfl) ?_
            refine lv_bipush (v := (20 : Int32)) hx hb dL_law_199 (by decide) ?_
            refine lv_ishr hx hb dL_law_201 ?_
            refine lv_iconst (v := (1 : Int32)) hx hb dL_law_202 (by decide) ?_
            refine lv_iand hx hb dL_law_203 ?_
            refine lv_if_ne (tgt := 256) hx hb dL_law_204 (by decide) (fun c49 => ?_) (fun c49 => ?_)
            · replace h := fF c49 h
              cases h
              exact kk _ _ _ hP hD hS (lv_sub hl [6, 7, 8, 5, 4] rfl)
            · replace h := fT c49 h
              refine lv_aload_n hx hb dL_law_207 rfl (lv_at hl 7 rfl) ?_
              refine cV_i (As := []) (rest := []) (ws1 := (XW o y pl6 te7 be8 cn9 ch le rE rL rP rF rS rD hs10 ho11 hc12 sl fi)) ⟨hx, hb, hml, hown, hts⟩ (c_X6_undoCount l D o y _ pl6 te7 be8 cn9 ch le rE rL rP rF rS rD hs10 ho11 hc12 sl fi ) (cwV 0 hts gL_law_X6_undoCount rfl rfl rfl hd_X6_undoCount ⟨Nat.le_of_ble_eq_true rfl, Nat.le_of_ble_eq_true rfl⟩) hK hP hD hS hA [0, 1, 2, 3, 4, 5, 6, 7, 8, 9, 10, 11] [] [0, 1, 2, 3, 4, 5, 6, 7, 8, 9, 10, 11] rfl rfl rfl (by decide) rfl rfl rfl 0 (ci := 4) rfl rfl rfl hl.1 rfl (Nat.le_of_ble_eq_true rfl) dL_law_208 ⟨bcl, bsl⟩ (fun H locs hP hD hS => ?_)
              refine lv_iconst (v := (1 : Int32)) hx hb dL_law_211 (by decide) ?_
              refine lv_isub hx hb dL_law_212 ?_
              refine lv_istore (lv' := [(11, .int ((F_X6_undoCount hc12) - (1 : Int32))), (9, .long r14), (8, .int r5), (7, .int (F_X6_undoCount hc)), (5, .long r3), (4, .int a2), (3, .int (if (3 : Int32) ≤ x2 then a1 else (a1 &&& (-16 : Int32)))), (0, .ref b), (1, .ref (o 0)), (2, .int x2)]) hx hb dL_law_213 hl (by decide) rfl (fun ls hl => ?_)
              refine lv_aload_n hx hb dL_law_215 rfl (lv_at hl 8 rfl) ?_
              obtain ⟨k50, r51, pl52, hc53, g54, h⟩ := fB4 h
              by_cases e55 : ¬ k50 = 0
              · replace h := fF e55 h
                exact fN h
              replace e55 := Classical.not_not.mp e55
              subst e55
              replace h := fT rfl h
              refine cV_i (As := []) (rest := []) (ws1 := (XW o y pl52 te7 be8 cn9 ch le rE rL rP rF rS rD hs10 ho11 hc53 sl fi)) ⟨hx, hb, hml, hown, hts⟩ (c_X6_undo l D o y _ pl6 te7 be8 cn9 ch le rE rL rP rF rS rD hs10 ho11 hc12 sl fi r51 pl52 hc53 g54) (cwV 0 hts gL_law_X6_undo rfl rfl rfl hd_X6_undo ⟨Nat.le_of_ble_eq_true rfl, Nat.le_of_ble_eq_true rfl⟩) hK hP hD hS hA [0, 1, 2, 3, 4, 5, 6, 7, 8, 9, 10, 11] [] [0, 1, 2, 3, 4, 5, 6, 7, 8, 9, 10, 11] rfl rfl rfl (by decide) rfl rfl rfl 0 (ci := 4) rfl rfl rfl hl.1 rfl (Nat.le_of_ble_eq_true rfl) dL_law_216 ⟨bcl, bsl⟩ (fun H locs hP hD hS => ?_)
              refine lv_iload hx hb dL_law_219 (lv_at hl 0 rfl) ?_
              refine lv_icmp_ne (tgt := 254) hx hb dL_law_221 (by decide) (fun c56 => ?_) (fun c56 => ?_)
              · replace h := fF c56 h
                exact fN h
              · replace h := fT c56 h
                refine lv_aload_n hx hb dL_law_224 rfl (lv_at hl 8 rfl) ?_
                obtain ⟨r57, g58, h⟩ := fB1 h
                refine cS_l (As := [.ref (o 0)]) (rest := []) (ws1 := (XW o y pl52 te7 be8 cn9 ch le rE rL rP rF rS rD hs10 ho11 hc53 sl fi)) ⟨hx, hb, hml, hown, hts⟩ (c_L_told l D o y _ pl52 te7 be8 cn9 ch le rE rL rP rF rS rD hs10 ho11 hc53 sl fi r57 g58) (va_cwS 1 hts gL_law_L_told rfl rfl rfl hd_L_told ⟨Nat.le_of_ble_eq_true rfl, Nat.le_of_ble_eq_true rfl⟩) hK hP hD hS hA [0, 1, 2, 3, 4, 5, 6, 7, 8, 9, 10, 11] [] [0, 1, 2, 3, 4, 5, 6, 7, 8, 9, 10, 11] rfl rfl rfl (by decide) rfl rfl rfl rfl hl.1 rfl (Nat.le_of_ble_eq_true rfl) dL_law_225 ⟨bcl, bsl⟩ (fun H locs hP hD hS => ?_)
                refine lv_lload hx hb dL_law_228 (lv_at hl 4 rfl) ?_
                refine lx_ne (tgt := 254) hx hb dL_law_230 dL_law_231 (by decide) (fun c59 => ?_) (fun c59 => ?_)
                · replace h := fF c59 h
                  exact fN h
                · replace h := fT c59 h
                  refine lv_aload_n hx hb dL_law_234 rfl (lv_at hl 8 rfl) ?_
                  refine lv_iload_n hx hb dL_law_235 rfl (lv_at hl 6 rfl) ?_
                  refine lv_iload hx hb dL_law_236 (lv_at hl 5 rfl) ?_
                  obtain ⟨r60, pl61, te62, be63, cn64, hs65, ho66, hc67, g68, h⟩ := fB8 h
                  refine cS_i (As := [.ref (o 0), .int (if (3 : Int32) ≤ x2 then a1 else (a1 &&& (-16 : Int32))), .int a2]) (rest := []) (ws1 := (XW o y pl61 te62 be63 cn64 ch le rE rL rP rF rS rD hs65 ho66 hc67 sl fi)) ⟨hx, hb, hml, hown, hts⟩ (c_L_act l D o y _ pl52 te7 be8 cn9 ch le rE rL rP rF rS rD hs10 ho11 hc53 sl fi (if (3 : Int32) ≤ x2 then a1 else (a1 &&& (-16 : Int32))) a2 r60 pl61 te62 be63 cn64 hs65 ho66 hc67 g68) (va_cwS 3 hts gL_law_L_act rfl rfl rfl hd_L_act ⟨Nat.le_of_ble_eq_true rfl, Nat.le_of_ble_eq_true rfl⟩) hK hP hD hS hA [0, 1, 2, 3, 4, 5, 6, 7, 8, 9, 10, 11] [] [0, 1, 2, 3, 4, 5, 6, 7, 8, 9, 10, 11] rfl rfl rfl (by decide) rfl rfl rfl rfl hl.1 rfl (Nat.le_of_ble_eq_true rfl) dL_law_238 ⟨bcl, bsl⟩ (fun H locs hP hD hS => ?_)
                  refine lv_if_eq (tgt := 254) hx hb dL_law_241 (by decide) (fun c69 => ?_) (fun c69 => ?_)
                  · replace h := fT c69 h
                    exact fN h
                  · replace h := fF c69 h
                    refine lv_aload_n hx hb dL_law_244 rfl (lv_at hl 8 rfl) ?_
                    obtain ⟨r70, g71, h⟩ := fB1 h
                    refine cS_l (As := [.ref (o 0)]) (rest := []) (ws1 := (XW o y pl61 te62 be63 cn64 ch le rE rL rP rF rS rD hs65 ho66 hc67 sl fi)) ⟨hx, hb, hml, hown, hts⟩ (c_L_told l D o y _ pl61 te62 be63 cn64 ch le rE rL rP rF rS rD hs65 ho66 hc67 sl fi r70 g71) (va_cwS 1 hts gL_law_L_told rfl rfl rfl hd_L_told ⟨Nat.le_of_ble_eq_true rfl, Nat.le_of_ble_eq_true rfl⟩) hK hP hD hS hA [0, 1, 2, 3, 4, 5, 6, 7, 8, 9, 10, 11] [] [0, 1, 2, 3, 4, 5, 6, 7, 8, 9, 10, 11] rfl rfl rfl (by decide) rfl rfl rfl rfl hl.1 rfl (Nat.le_of_ble_eq_true rfl) dL_law_245 ⟨bcl, bsl⟩ (fun H locs hP hD hS => ?_)
                    refine lv_lload hx hb dL_law_248 (lv_at hl 1 rfl) ?_
                    refine lx_eq (tgt := 256) hx hb dL_law_250 dL_law_251 (by decide) (fun c72 => ?_) (fun c72 => ?_)
                    · replace h := fT c72 h
                      cases h
                      exact kk _ _ _ hP hD hS (lv_sub hl [7, 8, 9, 6, 5] rfl)
                    · replace h := fF c72 h
                      exact fN h
        · replace h := fF c47 h
          refine lv_goto (tgt := 191) hx hb dL_law_165 (by decide) ?_
          exact fN h
  refine lv_icmp_ge (tgt := 103) hx hb dL_law_93 (by decide) (fun c73 => ?_) (fun c73 => ?_)
  · refine lv_iload_n hx hb dL_law_103 rfl (lv_at hl 3 rfl) ?_
    exact J1 _ _ (by rw [if_pos c73]) (lv_sub hl [0, 1, 2, 3] rfl)
  · refine lv_iload_n hx hb dL_law_96 rfl (lv_at hl 3 rfl) ?_
    refine lv_bipush (v := (-16 : Int32)) hx hb dL_law_97 (by decide) ?_
    refine lv_iand hx hb dL_law_99 ?_
    refine lv_goto (tgt := 104) hx hb dL_law_100 (by decide) ?_
    exact J1 _ _ (by rw [if_neg c73]) (lv_sub hl [0, 1, 2, 3] rfl)
set_option maxHeartbeats 0 in
set_option maxRecDepth 100000 in
theorem cs_C {p : Program} {l : Launch} {e : Env} {s : State} {m : MethodId} {args : Array Value} {below : List Frame} {meth : Method} {c : Code} {Q : State → Prop} {D : va_G} {o : Nat → Nat} {y : Nat → ClassId} {A : Nat → Prop} {b L : Nat} {xs : Nat → Int32} {cells slots : Nat} (hL : L ≤ 260) (hx : p.tables.exec = Jvm.exec) (hb : c.code = code) (hml : c.maxLocals = 12) (hown : s.vm.findClass RL = some m.cls) (hts : ∀ w ∈ wsL_law, w.before args s = true) (hA : ∀ q, s.heap.size ≤ q → A q) (hK : va_K D vwCl (TY y) s) (hX : va_X b L xs s s.heap) (hbl : b < s.heap.size) (hbA : ¬ A b) (bcl : cells ≤ 153) (bsl : slots ≤ 1343) {x2 x3 x4 : Int32} (pl : Nat → Int64) (te : Nat → Int32) (be : Nat → Int64) (cn : Int32) (ch : Nat → Int32) (le : Int32) (rE : Int32) (rL : Int32) (rP : Int32) (rF : Int32) (rS : Int32) (rD : Int32) (hs : Nat → Int64) (ho : Int32) (hc : Int32) (sl : Nat → Int64) (fi : Nat → Int32) (te' : Nat → Int32) (be' : Nat → Int64) (cn' : Int32) (h : G_C pl te be cn x3 x4 = some (te', be', cn')) {H : Heap} {locs : List Loc} {ls : Array Slot} (hP : va_P D vwCl (XW o y pl te be cn ch le rE rL rP rF rS rD hs ho hc sl fi) H) (hD : va_D A (XW o y pl te be cn ch le rE rL rP rF rS rD hs ho hc sl fi)) (hS : va_S A s.heap H locs) (hl : lv_has ls 12 [(0, .ref b), (1, .ref (o 0)), (2, .int x2), (3, .int x3), (4, .int x4)])
    (kk : ∀ (H : Heap) (locs : List Loc) (ls : Array Slot), va_P D vwCl (XW o y pl te' be' cn' ch le rE rL rP rF rS rD hs ho hc sl fi) H → va_D A (XW o y pl te' be' cn' ch le rE rL rP rF rS rD hs ho hc sl fi) → va_S A s.heap H locs → lv_has ls 12 [(0, .ref b), (1, .ref (o 0)), (2, .int x2)] → W p l e room_1 s m args below meth c H locs cells slots Q (F0 m 285 ls [])) : W p l e room_1 s m args below meth c H locs cells slots Q (F0 m 256 ls []) := by
  unfold G_C at h
  refine lv_aload_n hx hb dL_law_256 rfl (lv_at hl 1 rfl) ?_
  refine lv_iload_n hx hb dL_law_257 rfl (lv_at hl 3 rfl) ?_
  refine lv_iconst (v := (4 : Int32)) hx hb dL_law_258 (by decide) ?_
  refine lv_ishr hx hb dL_law_259 ?_
  refine lv_bipush (v := (6 : Int32)) hx hb dL_law_260 (by decide) ?_
  obtain ⟨r1, g2, h⟩ := fB1 h
  refine cT_i (As := [.int (x3 >>> ((4 : Int32) &&& 31)), .int (6 : Int32)]) (rest := [.ref (o 0)]) ⟨hx, hb, hml, hown, hts⟩ (c_L_low l D y _ (x3 >>> ((4 : Int32) &&& 31)) (6 : Int32) r1 g2) (va_cwS 2 hts gL_law_L_low rfl rfl rfl hd_L_low ⟨Nat.le_of_ble_eq_true rfl, Nat.le_of_ble_eq_true rfl⟩) hK hP hD hS hA rfl hl.1 rfl (Nat.le_of_ble_eq_true rfl) dL_law_262 ⟨bcl, bsl⟩ (fun H locs hP hD hS => ?_)
  refine lv_iconst (v := (1 : Int32)) hx hb dL_law_265 (by decide) ?_
  refine lv_iload hx hb dL_law_266 (lv_at hl 4 rfl) ?_
  refine lv_iconst (v := (3 : Int32)) hx hb dL_law_268 (by decide) ?_
  refine lv_ishr hx hb dL_law_269 ?_
  refine lv_sipush (v := (200 : Int32)) hx hb dL_law_270 (by decide) ?_
  obtain ⟨r3, g4, h⟩ := fB1 h
  refine cT_i (As := [.int (x4 >>> ((3 : Int32) &&& 31)), .int (200 : Int32)]) (rest := [.int (1 : Int32), .int r1, .ref (o 0)]) ⟨hx, hb, hml, hown, hts⟩ (c_L_low l D y _ (x4 >>> ((3 : Int32) &&& 31)) (200 : Int32) r3 g4) (va_cwS 2 hts gL_law_L_low rfl rfl rfl hd_L_low ⟨Nat.le_of_ble_eq_true rfl, Nat.le_of_ble_eq_true rfl⟩) hK hP hD hS hA rfl hl.1 rfl (Nat.le_of_ble_eq_true rfl) dL_law_273 ⟨bcl, bsl⟩ (fun H locs hP hD hS => ?_)
  refine lv_iadd hx hb dL_law_276 ?_
  obtain ⟨r5, te6, be7, cn8, g9, h⟩ := fB4 h
  refine cS_i (As := [.ref (o 0), .int r1, .int ((1 : Int32) + r3)]) (rest := []) (ws1 := (XW o y pl te6 be7 cn8 ch le rE rL rP rF rS rD hs ho hc sl fi)) ⟨hx, hb, hml, hown, hts⟩ (c_L_holds l D o y _ pl te be cn ch le rE rL rP rF rS rD hs ho hc sl fi r1 ((1 : Int32) + r3) r5 te6 be7 cn8 g9) (va_cwS 3 hts gL_law_L_holds rfl rfl rfl hd_L_holds ⟨Nat.le_of_ble_eq_true rfl, Nat.le_of_ble_eq_true rfl⟩) hK hP hD hS hA [0, 1, 2, 3, 4, 5, 6, 7, 8, 9, 10, 11] [] [0, 1, 2, 3, 4, 5, 6, 7, 8, 9, 10, 11] rfl rfl rfl (by decide) rfl rfl rfl rfl hl.1 rfl (Nat.le_of_ble_eq_true rfl) dL_law_277 ⟨bcl, bsl⟩ (fun H locs hP hD hS => ?_)
  refine lv_if_ne (tgt := 285) hx hb dL_law_280 (by decide) (fun c10 => ?_) (fun c10 => ?_)
  · replace h := fF c10 h
    cases h
    exact kk _ _ _ hP hD hS (lv_sub hl [0, 1, 2] rfl)
  · replace h := fT c10 h
    exact fN h
