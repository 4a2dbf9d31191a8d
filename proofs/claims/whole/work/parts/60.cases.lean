/-! the law's cases -/
abbrev LW (o : Nat → Nat) (w : Nat → Nat) (v : Nat) (y : Nat → ClassId) (pl : Nat → Int64) (te : Nat → Int32) (be : Nat → Int64) (cn : Int32) (ch : Nat → Int32) (le : Int32) (rE : Int32) (rL : Int32) (rP : Int32) (rF : Int32) (rS : Int32) (rD : Int32) (hs : Nat → Int64) (ho : Int32) (hc : Int32) (sl : Nat → Int64) (fi : Nat → Int32) (th : Int32) (ms : Nat → Int32) (mst : Nat → Int32) (smn : Int32) (msl : Nat → Int32) (mhs : Nat → Int32) (mtx : Nat → Int32) (mle : Int32) (mat : Int32) (mwl : Int32) (mrd : Nat → Int32) (mrm : Int32) (mtp : Int64) (mbt : Int64) (mtm : Nat → Int32) (mtn : Int32) (mnt : Int32) (mnb : Int32) (mun : Nat → Int32) (mum : Int32) (mau : Int32) (ou : Nat → Int64) : va_W := [(o 0, .inr (4, [.ref (o 1), .ref (o 2), .ref (o 5), .ref (o 7), .ref (o 8), .ref (o 10), .ref (o 11)])), (o 1, .inl (y 1, 6, .inr (.inl pl))), (o 2, .inr (2, [.ref (o 3), .ref (o 4), .int cn])), (o 3, .inl (y 0, 40, .inl te)), (o 4, .inl (y 1, 40, .inr (.inl be))), (o 5, .inr (1, [.ref (o 6), .int le])), (o 6, .inl (y 2, 80, .inl ch)), (o 7, .inr (0, [.int rE, .int rL, .int rP, .int rF, .int rS, .int rD])), (o 8, .inr (3, [.ref (o 9), .int ho, .int hc])), (o 9, .inl (y 1, 36, .inr (.inl hs))), (o 10, .inl (y 1, 12, .inr (.inl sl))), (o 11, .inl (y 3, 2, .inl fi)), (w 0, .inr (5, [.int th, .ref (w 1), .ref (w 2), .int smn, .ref (w 3), .ref (w 4), .ref (w 5), .int mle, .int mat, .int mwl, .ref (w 6), .int mrm, .long mtp, .long mbt, .ref (w 7), .int mtn, .int mnt, .int mnb, .ref (w 8), .int mum, .int mau])), (w 1, .inl (y 0, 12, .inl ms)), (w 2, .inl (y 0, 72, .inl mst)), (w 3, .inl (y 0, 24, .inl msl)), (w 4, .inl (y 3, 2, .inl mhs)), (w 5, .inl (y 0, 80, .inl mtx)), (w 6, .inl (y 0, 84, .inl mrd)), (w 7, .inl (y 0, 40, .inl mtm)), (w 8, .inl (y 0, 40, .inl mun)), (v, .inl (y 1, 1, .inr (.inl ou)))]
section XL
variable {p : Program} {l : Launch} {e : Env} {R : Room} {s : State} {m : MethodId} {args : Array Value} {below : List Frame} {meth : Method} {c : Code} {H : Heap} {locs : List Loc} {cells slots : Nat} {Q : State → Prop}
variable {cc : ByteArray} {pc : Nat} {ls : Array Slot} {rest st0 : List Value} {D : va_G} {y : Nat → ClassId} {A : Nat → Prop} {ws wc w0 w1 ws1 : va_W}
variable {yy : MethodName} {bytes : ByteArray} {maxL nL n index : Nat} {ret : Option FieldType} {hh : List (Nat × Nat × Nat × Nat)} {wo : List Cond} {rm : Room} {Ts : List Cond} {own C : String} {As : List Value}
/-- a wrapper's call -/
theorem cW_i {v : Int32} (S : CallFix p m c cc nL s args Ts own) (hM : Met l yy wo rm (va_Pc As (pxe D y H.size wc)) (Qri D y H.size wc w1 v) 1 6 (va_A wc H.size)) (cw : vx_CSW R s args own index yy bytes maxL ret hh wo rm 1 6 n) (hK : va_K D vwCl (TY y) s) (hP : va_P D vwCl ws H) (hD : va_D A ws) (hS : va_S A s.heap H locs) (hA : ∀ q, s.heap.size ≤ q → A q) (hEX : EXC A s s.heap) (isC isR isP : List Nat)
    (hC : isC.map (fun i => ws[i]?) = wc.map some) (hR : isR.map (fun i => ws[i]?) = (isR.filterMap (fun i => ws[i]?)).map some) (hn : va_nd isR = true) (hdis : ∀ i ∈ isR, i ∉ isC) (hp : isP.map (fun i => ((isR.filterMap (fun i => ws[i]?)) ++ w1)[i]?) = ws1.map some) (hnp : va_nd isP = true) (hnC : va_nd isC = true)
    (hlen : As.length = n) (hsz : ls.size = nL) (hst : st0 = As.reverse ++ rest) (hW : (rest.map fun v => v.category).sum ≤ 8) (hdg : decode cc pc = .ok (.invokestatic index, 3)) (hf : cells + 1 ≤ R.cells ∧ slots + 6 ≤ R.slots)
    (kk : ∀ (H1 : Heap) (locs1 : List Loc), va_P D vwCl ws1 H1 → va_D A ws1 → va_S A s.heap H1 locs1 → W p l e R s m args below meth c H1 locs1 (cells + 1) (slots + 6) Q (F0 m (pc + 3) ls (.int v :: rest))) : W p l e R s m args below meth c H locs cells slots Q (F0 m pc ls st0) := by
  obtain ⟨hpre, hPc⟩ := pxe_of (av := As) hEX hK hP hD hS hA isC hC hnC
  have hF := va_free hD hS hA isC hC
  refine va_calli (vx_runSW (g := F0 m pc ls st0) (rest := rest) S hM cw ⟨pxe_blind, hpre⟩ rfl hlen hsz hst (lv_room hW) hdg hf) hS (fun q _ h => hF q h) hF (fun r u t H1 locs1 ht hvm hw hB hz hk hS1 => ?_)
  obtain ⟨b1, b2, b3⟩ := hB
  rw [ht] at b1
  obtain ⟨x1, x2⟩ := px_back hP hD hS hA isC isR isP hC hR hn hdis hp hnp hk b1 b3
  subst hw
  exact kk H1 locs1 x1 x2 hS1
end XL
set_option maxHeartbeats 0 in
set_option maxRecDepth 100000 in
theorem cs_0 {p : Program} {l : Launch} {e : Env} {s : State} {m : MethodId} {args : Array Value} {below : List Frame} {meth : Method} {c : Code} {Q : State → Prop} {D : va_G} {o w : Nat → Nat} {v : Nat} {y : Nat → ClassId} {A : Nat → Prop} {b L : Nat} {xs : Nat → Int32} {x4 a1 a2 a3 : Int32} (hfl : l.stackTraces = false) (hx : p.tables.exec = Jvm.exec) (hb : c.code = code) (hml : c.maxLocals = 7) (hown : s.vm.findClass RL = some m.cls) (hts : ∀ w ∈ wsL_law, w.before args s = true) (hA : ∀ q, s.heap.size ≤ q → A q) (hK : va_K D vwCl (TY y) s) (hEX : EXC A s s.heap) (hX : va_X b L xs s s.heap) (hbl : b < s.heap.size) (hbA : ¬ A b) (hi1 : vp_in (x4 + (1 : Int32)) L) (hi2 : vp_in (x4 + (2 : Int32)) L) (hi3 : vp_in (x4 + (3 : Int32)) L) (ha1 : xs (x4 + (1 : Int32)).toNatClampNeg = a1) (ha2 : xs (x4 + (2 : Int32)).toNatClampNeg = a2) (ha3 : xs (x4 + (3 : Int32)).toNatClampNeg = a3) (pl : Nat → Int64) (te : Nat → Int32) (be : Nat → Int64) (cn : Int32) (ch : Nat → Int32) (le : Int32) (rE : Int32) (rL : Int32) (rP : Int32) (rF : Int32) (rS : Int32) (rD : Int32) (hs : Nat → Int64) (ho : Int32) (hc : Int32) (sl : Nat → Int64) (fi : Nat → Int32) (th : Int32) (ms : Nat → Int32) (mst : Nat → Int32) (smn : Int32) (msl : Nat → Int32) (mhs : Nat → Int32) (mtx : Nat → Int32) (mle : Int32) (mat : Int32) (mwl : Int32) (mrd : Nat → Int32) (mrm : Int32) (mtp : Int64) (mbt : Int64) (mtm : Nat → Int32) (mtn : Int32) (mnt : Int32) (mnb : Int32) (mun : Nat → Int32) (mum : Int32) (mau : Int32) (ou : Nat → Int64) (pl' : Nat → Int64) (hs' : Nat → Int64) (ho' : Int32) (hc' : Int32) (th' : Int32) (ms' : Nat → Int32) (mst' : Nat → Int32) (smn' : Int32) (mtp' : Int64) (mbt' : Int64) (ou' : Nat → Int64) (h : G_0 pl hs ho hc th ms mst smn mtp mbt ou a1 a2 a3 = some (pl', hs', ho', hc', th', ms', mst', smn', mtp', mbt', ou')) {H : Heap} {locs : List Loc} {ls : Array Slot} {cells slots : Nat} (hP : va_P D vwCl (LW o w v y pl te be cn ch le rE rL rP rF rS rD hs ho hc sl fi th ms mst smn msl mhs mtx mle mat mwl mrd mrm mtp mbt mtm mtn mnt mnb mun mum mau ou) H) (hD : va_D A (LW o w v y pl te be cn ch le rE rL rP rF rS rD hs ho hc sl fi th ms mst smn msl mhs mtx mle mat mwl mrd mrm mtp mbt mtm mtn mnt mnb mun mum mau ou)) (hS : va_S A s.heap H locs) (hl : lv_has ls 7 [(0, .ref b), (1, .ref (o 0)), (2, .ref (w 0)), (3, .ref v), (4, .int x4)]) (bcl : cells + 1 ≤ 1063) (bsl : slots + 6 ≤ 8907)
    (kk : ∀ (H : Heap) (locs : List Loc) (ls : Array Slot), va_P D vwCl (LW o w v y pl' te be cn ch le rE rL rP rF rS rD hs' ho' hc' sl fi th' ms' mst' smn' msl mhs mtx mle mat mwl mrd mrm mtp' mbt' mtm mtn mnt mnb mun mum mau ou') H → va_D A (LW o w v y pl' te be cn ch le rE rL rP rF rS rD hs' ho' hc' sl fi th' ms' mst' smn' msl mhs mtx mle mat mwl mrd mrm mtp' mbt' mtm mtn mnt mnb mun mum mau ou') → va_S A s.heap H locs → lv_has ls 7 [(0, .ref b), (1, .ref (o 0)), (2, .ref (w 0)), (3, .ref v), (4, .int x4)] → W p l e room_1 s m args below meth c H locs (cells + 1) (slots + 6) Q (F0 m 2109 ls [])) : W p l e room_1 s m args below meth c H locs cells slots Q (F0 m 192 ls []) := by
  unfold G_0 at h
  refine lv_aload_n hx hb dL_law_192 rfl (lv_at hl 1 rfl) ?_
  refine lv_aload_n hx hb dL_law_193 rfl (lv_at hl 0 rfl) ?_
  refine lv_iload hx hb dL_law_194 (lv_at hl 4 rfl) ?_
  refine lv_iconst (v := (1 : Int32)) hx hb dL_law_196 (by decide) ?_
  refine lv_iadd hx hb dL_law_197 ?_
  refine va_sld hx hb hX hbl hbA hS hi1 dL_law_198 ?_
  refine eqi ha1 ?_
  refine lv_aload_n hx hb dL_law_199 rfl (lv_at hl 0 rfl) ?_
  refine lv_iload hx hb dL_law_200 (lv_at hl 4 rfl) ?_
  refine lv_iconst (v := (2 : Int32)) hx hb dL_law_202 (by decide) ?_
  refine lv_iadd hx hb dL_law_203 ?_
  refine va_sld hx hb hX hbl hbA hS hi2 dL_law_204 ?_
  refine eqi ha2 ?_
  refine lv_aload_n hx hb dL_law_205 rfl (lv_at hl 0 rfl) ?_
  refine lv_iload hx hb dL_law_206 (lv_at hl 4 rfl) ?_
  refine lv_iconst (v := (3 : Int32)) hx hb dL_law_208 (by decide) ?_
  refine lv_iadd hx hb dL_law_209 ?_
  refine va_sld hx hb hX hbl hbA hS hi3 dL_law_210 ?_
  refine eqi ha3 ?_
  refine lv_aload_n hx hb dL_law_211 rfl (lv_at hl 3 rfl) ?_
  obtain ⟨r1, pl2, hs3, ho4, hc5, ou6, g7, h⟩ := fB6 h
  refine cW_i (As := [.ref (o 0), .int a1, .int a2, .int a3, .ref v]) (rest := []) (ws1 := (LW o w v y pl2 te be cn ch le rE rL rP rF rS rD hs3 ho4 hc5 sl fi th ms mst smn msl mhs mtx mle mat mwl mrd mrm mtp mbt mtm mtn mnt mnb mun mum mau ou6)) ⟨hx, hb, hml, hown, hts⟩ (c_L_set l hfl D o v y _ pl te be cn ch le rE rL rP rF rS rD hs ho hc sl fi ou a1 a2 a3 r1 pl2 hs3 ho4 hc5 ou6 g7) (vx_cwSW 5 hts gL_law_L_set rfl rfl rfl hd_L_set ⟨Nat.le_of_ble_eq_true rfl, Nat.le_of_ble_eq_true rfl⟩) hK hP hD hS hA hEX [0, 1, 2, 3, 4, 5, 6, 7, 8, 9, 10, 11, 21] [12, 13, 14, 15, 16, 17, 18, 19, 20] [9, 10, 11, 12, 13, 14, 15, 16, 17, 18, 19, 20, 0, 1, 2, 3, 4, 5, 6, 7, 8, 21] rfl rfl rfl (by decide) rfl rfl rfl rfl hl.1 rfl (Nat.le_of_ble_eq_true rfl) dL_law_212 ⟨bcl, bsl⟩ (fun H locs hP hD hS => ?_)
  refine lv_istore (lv' := [(5, .int r1), (0, .ref b), (1, .ref (o 0)), (2, .ref (w 0)), (3, .ref v), (4, .int x4)]) hx hb dL_law_215 hl (by decide) rfl (fun ls hl => ?_)
  refine lv_aload_n hx hb dL_law_217 rfl (lv_at hl 3 rfl) ?_
  refine lv_aload_n hx hb dL_law_218 rfl (lv_at hl 1 rfl) ?_
  refine lv_iload hx hb dL_law_219 (lv_at hl 5 rfl) ?_
  refine lv_iconst (v := (1 : Int32)) hx hb dL_law_221 (by decide) ?_
  refine lv_iadd hx hb dL_law_222 ?_
  refine va_sld hx hb hX hbl hbA hS hi1 dL_law_223 ?_
  refine eqi ha1 ?_
  refine lv_aload_n hx hb dL_law_224 rfl (lv_at hl 1 rfl) ?_
  refine lv_iload hx hb dL_law_225 (lv_at hl 5 rfl) ?_
  refine lv_iconst (v := (2 : Int32)) hx hb dL_law_227 (by decide) ?_
  refine lv_iadd hx hb dL_law_228 ?_
  refine va_sld hx hb hX hbl hbA hS hi2 dL_law_229 ?_
  refine eqi ha2 ?_
  refine lv_aload_n hx hb dL_law_230 rfl (lv_at hl 1 rfl) ?_
  refine lv_iload hx hb dL_law_231 (lv_at hl 5 rfl) ?_
  refine lv_iconst (v := (3 : Int32)) hx hb dL_law_233 (by decide) ?_
  refine lv_iadd hx hb dL_law_234 ?_
  refine va_sld hx hb hX hbl hbA hS hi3 dL_law_235 ?_
  refine eqi ha3 ?_
  obtain ⟨r8, th9, ms10, mst11, smn12, mtp13, mbt14, g15, h⟩ := fB7 h
  refine cV_i (As := [.int a1, .int a2, .int a3]) (rest := []) (ws1 := (LW o w v y pl2 te be cn ch le rE rL rP rF rS rD hs3 ho4 hc5 sl fi th9 ms10 mst11 smn12 msl mhs mtx mle mat mwl mrd mrm mtp13 mbt14 mtm mtn mnt mnb mun mum mau ou6)) ⟨hx, hb, hml, hown, hts⟩ (c_X7_set l D w y _ th ms mst smn msl mhs mtx mle mat mwl mrd mrm mtp mbt mtm mtn mnt mnb mun mum mau a1 a2 a3 r8 th9 ms10 mst11 smn12 mtp13 mbt14 g15) (cwV 3 hts gL_law_X7_set rfl rfl rfl hd_X7_set ⟨Nat.le_of_ble_eq_true rfl, Nat.le_of_ble_eq_true rfl⟩) hK hP hD hS hA [12, 13, 14, 15, 16, 17, 18, 19, 20] [0, 1, 2, 3, 4, 5, 6, 7, 8, 9, 10, 11, 21] [0, 1, 2, 3, 4, 5, 6, 7, 8, 9, 10, 11, 13, 14, 15, 16, 17, 18, 19, 20, 21, 12] rfl rfl rfl (by decide) rfl rfl rfl 0 (ci := 5) rfl rfl rfl hl.1 rfl (Nat.le_of_ble_eq_true rfl) dL_law_236 ⟨bcl, bsl⟩ (fun H locs hP hD hS => ?_)
  refine lv_istore (lv' := [(6, .int r8), (5, .int r1), (0, .ref b), (1, .ref (o 0)), (2, .ref (w 0)), (3, .ref v), (4, .int x4)]) hx hb dL_law_239 hl (by decide) rfl (fun ls hl => ?_)
  refine lv_aload_n hx hb dL_law_241 rfl (lv_at hl 4 rfl) ?_
  refine cV_i (As := []) (rest := []) (ws1 := (LW o w v y pl2 te be cn ch le rE rL rP rF rS rD hs3 ho4 hc5 sl fi th9 ms10 mst11 smn12 msl mhs mtx mle mat mwl mrd mrm mtp13 mbt14 mtm mtn mnt mnb mun mum mau ou6)) ⟨hx, hb, hml, hown, hts⟩ (c_X7_thrown l D w y _ th9 ms10 mst11 smn12 msl mhs mtx mle mat mwl mrd mrm mtp13 mbt14 mtm mtn mnt mnb mun mum mau ) (cwV 0 hts gL_law_X7_thrown rfl rfl rfl hd_X7_thrown ⟨Nat.le_of_ble_eq_true rfl, Nat.le_of_ble_eq_true rfl⟩) hK hP hD hS hA [12, 13, 14, 15, 16, 17, 18, 19, 20] [0, 1, 2, 3, 4, 5, 6, 7, 8, 9, 10, 11, 21] [0, 1, 2, 3, 4, 5, 6, 7, 8, 9, 10, 11, 13, 14, 15, 16, 17, 18, 19, 20, 21, 12] rfl rfl rfl (by decide) rfl rfl rfl 0 (ci := 5) rfl rfl rfl hl.1 rfl (Nat.le_of_ble_eq_true rfl) dL_law_242 ⟨bcl, bsl⟩ (fun H locs hP hD hS => ?_)
  refine lv_iload hx hb dL_law_245 (lv_at hl 1 rfl) ?_
  refine lv_icmp_eq (tgt := 252) hx hb dL_law_247 (by decide) (fun c16 => ?_) (fun c16 => ?_)
  · replace h := fT c16 h
    refine lv_iload hx hb dL_law_252 (lv_at hl 1 rfl) ?_
    refine lv_if_ne (tgt := 269) hx hb dL_law_254 (by decide) (fun c17 => ?_) (fun c17 => ?_)
    · replace h := fF c17 h
      refine lv_goto (tgt := 2109) hx hb dL_law_269 (by decide) ?_
      cases h
      exact kk _ _ _ hP hD hS (lv_sub hl [2, 3, 4, 5, 6] rfl)
    · replace h := fT c17 h
      refine lv_aload_n hx hb dL_law_257 rfl (lv_at hl 5 rfl) ?_
      refine lv_iconst (v := (0 : Int32)) hx hb dL_law_258 (by decide) ?_
      refine va_lald hx hb hK hP 21 1 rfl rfl (show ¬ ((0 : Int32) < 0 ∨ 1 ≤ (0 : Int32).toNatClampNeg) from by decide) dL_law_259 ?_
      refine lv_iload hx hb dL_law_260 (lv_at hl 0 rfl) ?_
      refine lv_i2l (v := r8.toInt64) hx hb dL_law_262 rfl ?_
      refine lx_eq (tgt := 269) hx hb dL_law_263 dL_law_264 (by decide) (fun c18 => ?_) (fun c18 => ?_)
      · replace h := fT c18 h
        refine lv_goto (tgt := 2109) hx hb dL_law_269 (by decide) ?_
        cases h
        exact kk _ _ _ hP hD hS (lv_sub hl [2, 3, 4, 5, 6] rfl)
      · replace h := fF c18 h
        refine lv_iconst (v := (0 : Int32)) hx hb dL_law_267 (by decide) ?_
        exact fN h
  · replace h := fF c16 h
    refine lv_iconst (v := (0 : Int32)) hx hb dL_law_250 (by decide) ?_
    exact fN h
set_option maxHeartbeats 0 in
set_option maxRecDepth 100000 in
theorem cs_1 {p : Program} {l : Launch} {e : Env} {s : State} {m : MethodId} {args : Array Value} {below : List Frame} {meth : Method} {c : Code} {Q : State → Prop} {D : va_G} {o w : Nat → Nat} {v : Nat} {y : Nat → ClassId} {A : Nat → Prop} {b L : Nat} {xs : Nat → Int32} {x4 a1 a2 a3 : Int32} (hfl : l.stackTraces = false) (hx : p.tables.exec = Jvm.exec) (hb : c.code = code) (hml : c.maxLocals = 7) (hown : s.vm.findClass RL = some m.cls) (hts : ∀ w ∈ wsL_law, w.before args s = true) (hA : ∀ q, s.heap.size ≤ q → A q) (hK : va_K D vwCl (TY y) s) (hEX : EXC A s s.heap) (hX : va_X b L xs s s.heap) (hbl : b < s.heap.size) (hbA : ¬ A b) (hi1 : vp_in (x4 + (1 : Int32)) L) (hi2 : vp_in (x4 + (2 : Int32)) L) (hi3 : vp_in (x4 + (3 : Int32)) L) (ha1 : xs (x4 + (1 : Int32)).toNatClampNeg = a1) (ha2 : xs (x4 + (2 : Int32)).toNatClampNeg = a2) (ha3 : xs (x4 + (3 : Int32)).toNatClampNeg = a3) (pl : Nat → Int64) (te : Nat → Int32) (be : Nat → Int64) (cn : Int32) (ch : Nat → Int32) (le : Int32) (rE : Int32) (rL : Int32) (rP : Int32) (rF : Int32) (rS : Int32) (rD : Int32) (hs : Nat → Int64) (ho : Int32) (hc : Int32) (sl : Nat → Int64) (fi : Nat → Int32) (th : Int32) (ms : Nat → Int32) (mst : Nat → Int32) (smn : Int32) (msl : Nat → Int32) (mhs : Nat → Int32) (mtx : Nat → Int32) (mle : Int32) (mat : Int32) (mwl : Int32) (mrd : Nat → Int32) (mrm : Int32) (mtp : Int64) (mbt : Int64) (mtm : Nat → Int32) (mtn : Int32) (mnt : Int32) (mnb : Int32) (mun : Nat → Int32) (mum : Int32) (mau : Int32) (ou : Nat → Int64) (pl' : Nat → Int64) (hs' : Nat → Int64) (ho' : Int32) (hc' : Int32) (th' : Int32) (ms' : Nat → Int32) (mst' : Nat → Int32) (smn' : Int32) (mtp' : Int64) (mbt' : Int64) (ou' : Nat → Int64) (h : G_1 pl hs ho hc th ms mst smn mtp mbt ou a1 a2 a3 = some (pl', hs', ho', hc', th', ms', mst', smn', mtp', mbt', ou')) {H : Heap} {locs : List Loc} {ls : Array Slot} {cells slots : Nat} (hP : va_P D vwCl (LW o w v y pl te be cn ch le rE rL rP rF rS rD hs ho hc sl fi th ms mst smn msl mhs mtx mle mat mwl mrd mrm mtp mbt mtm mtn mnt mnb mun mum mau ou) H) (hD : va_D A (LW o w v y pl te be cn ch le rE rL rP rF rS rD hs ho hc sl fi th ms mst smn msl mhs mtx mle mat mwl mrd mrm mtp mbt mtm mtn mnt mnb mun mum mau ou)) (hS : va_S A s.heap H locs) (hl : lv_has ls 7 [(0, .ref b), (1, .ref (o 0)), (2, .ref (w 0)), (3, .ref v), (4, .int x4)]) (bcl : cells + 1 ≤ 1063) (bsl : slots + 6 ≤ 8907)
    (kk : ∀ (H : Heap) (locs : List Loc) (ls : Array Slot), va_P D vwCl (LW o w v y pl' te be cn ch le rE rL rP rF rS rD hs' ho' hc' sl fi th' ms' mst' smn' msl mhs mtx mle mat mwl mrd mrm mtp' mbt' mtm mtn mnt mnb mun mum mau ou') H → va_D A (LW o w v y pl' te be cn ch le rE rL rP rF rS rD hs' ho' hc' sl fi th' ms' mst' smn' msl mhs mtx mle mat mwl mrd mrm mtp' mbt' mtm mtn mnt mnb mun mum mau ou') → va_S A s.heap H locs → lv_has ls 7 [(0, .ref b), (1, .ref (o 0)), (2, .ref (w 0)), (3, .ref v), (4, .int x4)] → W p l e room_1 s m args below meth c H locs (cells + 1) (slots + 6) Q (F0 m 2109 ls [])) : W p l e room_1 s m args below meth c H locs cells slots Q (F0 m 272 ls []) := by
  unfold G_1 at h
  refine lv_aload_n hx hb dL_law_272 rfl (lv_at hl 1 rfl) ?_
  refine lv_aload_n hx hb dL_law_273 rfl (lv_at hl 0 rfl) ?_
  refine lv_iload hx hb dL_law_274 (lv_at hl 4 rfl) ?_
  refine lv_iconst (v := (1 : Int32)) hx hb dL_law_276 (by decide) ?_
  refine lv_iadd hx hb dL_law_277 ?_
  refine va_sld hx hb hX hbl hbA hS hi1 dL_law_278 ?_
  refine eqi ha1 ?_
  refine lv_aload_n hx hb dL_law_279 rfl (lv_at hl 0 rfl) ?_
  refine lv_iload hx hb dL_law_280 (lv_at hl 4 rfl) ?_
  refine lv_iconst (v := (2 : Int32)) hx hb dL_law_282 (by decide) ?_
  refine lv_iadd hx hb dL_law_283 ?_
  refine va_sld hx hb hX hbl hbA hS hi2 dL_law_284 ?_
  refine eqi ha2 ?_
  refine lv_aload_n hx hb dL_law_285 rfl (lv_at hl 3 rfl) ?_
  obtain ⟨r1, pl2, hs3, ho4, hc5, ou6, g7, h⟩ := fB6 h
  refine cW_i (As := [.ref (o 0), .int a1, .int a2, .ref v]) (rest := []) (ws1 := (LW o w v y pl2 te be cn ch le rE rL rP rF rS rD hs3 ho4 hc5 sl fi th ms mst smn msl mhs mtx mle mat mwl mrd mrm mtp mbt mtm mtn mnt mnb mun mum mau ou6)) ⟨hx, hb, hml, hown, hts⟩ (c_L_add l hfl D o v y _ pl te be cn ch le rE rL rP rF rS rD hs ho hc sl fi ou a1 a2 r1 pl2 hs3 ho4 hc5 ou6 g7) (vx_cwSW 4 hts gL_law_L_add rfl rfl rfl hd_L_add ⟨Nat.le_of_ble_eq_true rfl, Nat.le_of_ble_eq_true rfl⟩) hK hP hD hS hA hEX [0, 1, 2, 3, 4, 5, 6, 7, 8, 9, 10, 11, 21] [12, 13, 14, 15, 16, 17, 18, 19, 20] [9, 10, 11, 12, 13, 14, 15, 16, 17, 18, 19, 20, 0, 1, 2, 3, 4, 5, 6, 7, 8, 21] rfl rfl rfl (by decide) rfl rfl rfl rfl hl.1 rfl (Nat.le_of_ble_eq_true rfl) dL_law_286 ⟨bcl, bsl⟩ (fun H locs hP hD hS => ?_)
  refine lv_istore (lv' := [(5, .int r1), (0, .ref b), (1, .ref (o 0)), (2, .ref (w 0)), (3, .ref v), (4, .int x4)]) hx hb dL_law_289 hl (by decide) rfl (fun ls hl => ?_)
  refine lv_aload_n hx hb dL_law_291 rfl (lv_at hl 3 rfl) ?_
  refine lv_aload_n hx hb dL_law_292 rfl (lv_at hl 1 rfl) ?_
  refine lv_iload hx hb dL_law_293 (lv_at hl 5 rfl) ?_
  refine lv_iconst (v := (1 : Int32)) hx hb dL_law_295 (by decide) ?_
  refine lv_iadd hx hb dL_law_296 ?_
  refine va_sld hx hb hX hbl hbA hS hi1 dL_law_297 ?_
  refine eqi ha1 ?_
  refine lv_aload_n hx hb dL_law_298 rfl (lv_at hl 1 rfl) ?_
  refine lv_iload hx hb dL_law_299 (lv_at hl 5 rfl) ?_
  refine lv_iconst (v := (2 : Int32)) hx hb dL_law_301 (by decide) ?_
  refine lv_iadd hx hb dL_law_302 ?_
  refine va_sld hx hb hX hbl hbA hS hi2 dL_law_303 ?_
  refine eqi ha2 ?_
  obtain ⟨r8, th9, ms10, mst11, smn12, mtp13, mbt14, g15, h⟩ := fB7 h
  refine cV_i (As := [.int a1, .int a2]) (rest := []) (ws1 := (LW o w v y pl2 te be cn ch le rE rL rP rF rS rD hs3 ho4 hc5 sl fi th9 ms10 mst11 smn12 msl mhs mtx mle mat mwl mrd mrm mtp13 mbt14 mtm mtn mnt mnb mun mum mau ou6)) ⟨hx, hb, hml, hown, hts⟩ (c_X7_add l D w y _ th ms mst smn msl mhs mtx mle mat mwl mrd mrm mtp mbt mtm mtn mnt mnb mun mum mau a1 a2 r8 th9 ms10 mst11 smn12 mtp13 mbt14 g15) (cwV 2 hts gL_law_X7_add rfl rfl rfl hd_X7_add ⟨Nat.le_of_ble_eq_true rfl, Nat.le_of_ble_eq_true rfl⟩) hK hP hD hS hA [12, 13, 14, 15, 16, 17, 18, 19, 20] [0, 1, 2, 3, 4, 5, 6, 7, 8, 9, 10, 11, 21] [0, 1, 2, 3, 4, 5, 6, 7, 8, 9, 10, 11, 13, 14, 15, 16, 17, 18, 19, 20, 21, 12] rfl rfl rfl (by decide) rfl rfl rfl 0 (ci := 5) rfl rfl rfl hl.1 rfl (Nat.le_of_ble_eq_true rfl) dL_law_304 ⟨bcl, bsl⟩ (fun H locs hP hD hS => ?_)
  refine lv_istore (lv' := [(6, .int r8), (5, .int r1), (0, .ref b), (1, .ref (o 0)), (2, .ref (w 0)), (3, .ref v), (4, .int x4)]) hx hb dL_law_307 hl (by decide) rfl (fun ls hl => ?_)
  refine lv_aload_n hx hb dL_law_309 rfl (lv_at hl 4 rfl) ?_
  refine cV_i (As := []) (rest := []) (ws1 := (LW o w v y pl2 te be cn ch le rE rL rP rF rS rD hs3 ho4 hc5 sl fi th9 ms10 mst11 smn12 msl mhs mtx mle mat mwl mrd mrm mtp13 mbt14 mtm mtn mnt mnb mun mum mau ou6)) ⟨hx, hb, hml, hown, hts⟩ (c_X7_thrown l D w y _ th9 ms10 mst11 smn12 msl mhs mtx mle mat mwl mrd mrm mtp13 mbt14 mtm mtn mnt mnb mun mum mau ) (cwV 0 hts gL_law_X7_thrown rfl rfl rfl hd_X7_thrown ⟨Nat.le_of_ble_eq_true rfl, Nat.le_of_ble_eq_true rfl⟩) hK hP hD hS hA [12, 13, 14, 15, 16, 17, 18, 19, 20] [0, 1, 2, 3, 4, 5, 6, 7, 8, 9, 10, 11, 21] [0, 1, 2, 3, 4, 5, 6, 7, 8, 9, 10, 11, 13, 14, 15, 16, 17, 18, 19, 20, 21, 12] rfl rfl rfl (by decide) rfl rfl rfl 0 (ci := 5) rfl rfl rfl hl.1 rfl (Nat.le_of_ble_eq_true rfl) dL_law_310 ⟨bcl, bsl⟩ (fun H locs hP hD hS => ?_)
  refine lv_iload hx hb dL_law_313 (lv_at hl 1 rfl) ?_
  refine lv_icmp_eq (tgt := 320) hx hb dL_law_315 (by decide) (fun c16 => ?_) (fun c16 => ?_)
  · replace h := fT c16 h
    refine lv_iload hx hb dL_law_320 (lv_at hl 1 rfl) ?_
    refine lv_if_ne (tgt := 337) hx hb dL_law_322 (by decide) (fun c17 => ?_) (fun c17 => ?_)
    · replace h := fF c17 h
      refine lv_goto (tgt := 2109) hx hb dL_law_337 (by decide) ?_
      cases h
      exact kk _ _ _ hP hD hS (lv_sub hl [2, 3, 4, 5, 6] rfl)
    · replace h := fT c17 h
      refine lv_aload_n hx hb dL_law_325 rfl (lv_at hl 5 rfl) ?_
      refine lv_iconst (v := (0 : Int32)) hx hb dL_law_326 (by decide) ?_
      refine va_lald hx hb hK hP 21 1 rfl rfl (show ¬ ((0 : Int32) < 0 ∨ 1 ≤ (0 : Int32).toNatClampNeg) from by decide) dL_law_327 ?_
      refine lv_iload hx hb dL_law_328 (lv_at hl 0 rfl) ?_
      refine lv_i2l (v := r8.toInt64) hx hb dL_law_330 rfl ?_
      refine lx_eq (tgt := 337) hx hb dL_law_331 dL_law_332 (by decide) (fun c18 => ?_) (fun c18 => ?_)
      · replace h := fT c18 h
        refine lv_goto (tgt := 2109) hx hb dL_law_337 (by decide) ?_
        cases h
        exact kk _ _ _ hP hD hS (lv_sub hl [2, 3, 4, 5, 6] rfl)
      · replace h := fF c18 h
        refine lv_iconst (v := (0 : Int32)) hx hb dL_law_335 (by decide) ?_
        exact fN h
  · replace h := fF c16 h
    refine lv_iconst (v := (0 : Int32)) hx hb dL_law_318 (by decide) ?_
    exact fN h
set_option maxHeartbeats 0 in
set_option maxRecDepth 100000 in
theorem cs_2 {p : Program} {l : Launch} {e : Env} {s : State} {m : MethodId} {args : Array Value} {below : List Frame} {meth : Method} {c : Code} {Q : State → Prop} {D : va_G} {o w : Nat → Nat} {v : Nat} {y : Nat → ClassId} {A : Nat → Prop} {b L : Nat} {xs : Nat → Int32} {x4 a1 a2 a3 : Int32} (hfl : l.stackTraces = false) (hx : p.tables.exec = Jvm.exec) (hb : c.code = code) (hml : c.maxLocals = 7) (hown : s.vm.findClass RL = some m.cls) (hts : ∀ w ∈ wsL_law, w.before args s = true) (hA : ∀ q, s.heap.size ≤ q → A q) (hK : va_K D vwCl (TY y) s) (hEX : EXC A s s.heap) (hX : va_X b L xs s s.heap) (hbl : b < s.heap.size) (hbA : ¬ A b) (hi1 : vp_in (x4 + (1 : Int32)) L) (hi2 : vp_in (x4 + (2 : Int32)) L) (hi3 : vp_in (x4 + (3 : Int32)) L) (ha1 : xs (x4 + (1 : Int32)).toNatClampNeg = a1) (ha2 : xs (x4 + (2 : Int32)).toNatClampNeg = a2) (ha3 : xs (x4 + (3 : Int32)).toNatClampNeg = a3) (pl : Nat → Int64) (te : Nat → Int32) (be : Nat → Int64) (cn : Int32) (ch : Nat → Int32) (le : Int32) (rE : Int32) (rL : Int32) (rP : Int32) (rF : Int32) (rS : Int32) (rD : Int32) (hs : Nat → Int64) (ho : Int32) (hc : Int32) (sl : Nat → Int64) (fi : Nat → Int32) (th : Int32) (ms : Nat → Int32) (mst : Nat → Int32) (smn : Int32) (msl : Nat → Int32) (mhs : Nat → Int32) (mtx : Nat → Int32) (mle : Int32) (mat : Int32) (mwl : Int32) (mrd : Nat → Int32) (mrm : Int32) (mtp : Int64) (mbt : Int64) (mtm : Nat → Int32) (mtn : Int32) (mnt : Int32) (mnb : Int32) (mun : Nat → Int32) (mum : Int32) (mau : Int32) (ou : Nat → Int64) (pl' : Nat → Int64) (hs' : Nat → Int64) (ho' : Int32) (hc' : Int32) (th' : Int32) (ms' : Nat → Int32) (mst' : Nat → Int32) (smn' : Int32) (mtp' : Int64) (mbt' : Int64) (ou' : Nat → Int64) (h : G_2 pl hs ho hc th ms mst smn mtp mbt ou a1 a2 a3 = some (pl', hs', ho', hc', th', ms', mst', smn', mtp', mbt', ou')) {H : Heap} {locs : List Loc} {ls : Array Slot} {cells slots : Nat} (hP : va_P D vwCl (LW o w v y pl te be cn ch le rE rL rP rF rS rD hs ho hc sl fi th ms mst smn msl mhs mtx mle mat mwl mrd mrm mtp mbt mtm mtn mnt mnb mun mum mau ou) H) (hD : va_D A (LW o w v y pl te be cn ch le rE rL rP rF rS rD hs ho hc sl fi th ms mst smn msl mhs mtx mle mat mwl mrd mrm mtp mbt mtm mtn mnt mnb mun mum mau ou)) (hS : va_S A s.heap H locs) (hl : lv_has ls 7 [(0, .ref b), (1, .ref (o 0)), (2, .ref (w 0)), (3, .ref v), (4, .int x4)]) (bcl : cells + 1 ≤ 1063) (bsl : slots + 6 ≤ 8907)
    (kk : ∀ (H : Heap) (locs : List Loc) (ls : Array Slot), va_P D vwCl (LW o w v y pl' te be cn ch le rE rL rP rF rS rD hs' ho' hc' sl fi th' ms' mst' smn' msl mhs mtx mle mat mwl mrd mrm mtp' mbt' mtm mtn mnt mnb mun mum mau ou') H → va_D A (LW o w v y pl' te be cn ch le rE rL rP rF rS rD hs' ho' hc' sl fi th' ms' mst' smn' msl mhs mtx mle mat mwl mrd mrm mtp' mbt' mtm mtn mnt mnb mun mum mau ou') → va_S A s.heap H locs → lv_has ls 7 [(0, .ref b), (1, .ref (o 0)), (2, .ref (w 0)), (3, .ref v), (4, .int x4)] → W p l e room_1 s m args below meth c H locs (cells + 1) (slots + 6) Q (F0 m 2109 ls [])) : W p l e room_1 s m args below meth c H locs cells slots Q (F0 m 340 ls []) := by
  unfold G_2 at h
  refine lv_aload_n hx hb dL_law_340 rfl (lv_at hl 1 rfl) ?_
  refine lv_aload_n hx hb dL_law_341 rfl (lv_at hl 0 rfl) ?_
  refine lv_iload hx hb dL_law_342 (lv_at hl 4 rfl) ?_
  refine lv_iconst (v := (1 : Int32)) hx hb dL_law_344 (by decide) ?_
  refine lv_iadd hx hb dL_law_345 ?_
  refine va_sld hx hb hX hbl hbA hS hi1 dL_law_346 ?_
  refine eqi ha1 ?_
  refine lv_aload_n hx hb dL_law_347 rfl (lv_at hl 0 rfl) ?_
  refine lv_iload hx hb dL_law_348 (lv_at hl 4 rfl) ?_
  refine lv_iconst (v := (2 : Int32)) hx hb dL_law_350 (by decide) ?_
  refine lv_iadd hx hb dL_law_351 ?_
  refine va_sld hx hb hX hbl hbA hS hi2 dL_law_352 ?_
  refine eqi ha2 ?_
  refine lv_aload_n hx hb dL_law_353 rfl (lv_at hl 3 rfl) ?_
  obtain ⟨r1, pl2, hs3, ho4, hc5, ou6, g7, h⟩ := fB6 h
  refine cW_i (As := [.ref (o 0), .int a1, .int a2, .ref v]) (rest := []) (ws1 := (LW o w v y pl2 te be cn ch le rE rL rP rF rS rD hs3 ho4 hc5 sl fi th ms mst smn msl mhs mtx mle mat mwl mrd mrm mtp mbt mtm mtn mnt mnb mun mum mau ou6)) ⟨hx, hb, hml, hown, hts⟩ (c_L_takeAway l hfl D o v y _ pl te be cn ch le rE rL rP rF rS rD hs ho hc sl fi ou a1 a2 r1 pl2 hs3 ho4 hc5 ou6 g7) (vx_cwSW 4 hts gL_law_L_takeAway rfl rfl rfl hd_L_takeAway ⟨Nat.le_of_ble_eq_true rfl, Nat.le_of_ble_eq_true rfl⟩) hK hP hD hS hA hEX [0, 1, 2, 3, 4, 5, 6, 7, 8, 9, 10, 11, 21] [12, 13, 14, 15, 16, 17, 18, 19, 20] [9, 10, 11, 12, 13, 14, 15, 16, 17, 18, 19, 20, 0, 1, 2, 3, 4, 5, 6, 7, 8, 21] rfl rfl rfl (by decide) rfl rfl rfl rfl hl.1 rfl (Nat.le_of_ble_eq_true rfl) dL_law_354 ⟨bcl, bsl⟩ (fun H locs hP hD hS => ?_)
  refine lv_istore (lv' := [(5, .int r1), (0, .ref b), (1, .ref (o 0)), (2, .ref (w 0)), (3, .ref v), (4, .int x4)]) hx hb dL_law_357 hl (by decide) rfl (fun ls hl => ?_)
  refine lv_aload_n hx hb dL_law_359 rfl (lv_at hl 3 rfl) ?_
  refine lv_aload_n hx hb dL_law_360 rfl (lv_at hl 1 rfl) ?_
  refine lv_iload hx hb dL_law_361 (lv_at hl 5 rfl) ?_
  refine lv_iconst (v := (1 : Int32)) hx hb dL_law_363 (by decide) ?_
  refine lv_iadd hx hb dL_law_364 ?_
  refine va_sld hx hb hX hbl hbA hS hi1 dL_law_365 ?_
  refine eqi ha1 ?_
  refine lv_aload_n hx hb dL_law_366 rfl (lv_at hl 1 rfl) ?_
  refine lv_iload hx hb dL_law_367 (lv_at hl 5 rfl) ?_
  refine lv_iconst (v := (2 : Int32)) hx hb dL_law_369 (by decide) ?_
  refine lv_iadd hx hb dL_law_370 ?_
  refine va_sld hx hb hX hbl hbA hS hi2 dL_law_371 ?_
  refine eqi ha2 ?_
  obtain ⟨r8, th9, ms10, mst11, smn12, mtp13, mbt14, g15, h⟩ := fB7 h
  refine cV_i (As := [.int a1, .int a2]) (rest := []) (ws1 := (LW o w v y pl2 te be cn ch le rE rL rP rF rS rD hs3 ho4 hc5 sl fi th9 ms10 mst11 smn12 msl mhs mtx mle mat mwl mrd mrm mtp13 mbt14 mtm mtn mnt mnb mun mum mau ou6)) ⟨hx, hb, hml, hown, hts⟩ (c_X7_takeAway l D w y _ th ms mst smn msl mhs mtx mle mat mwl mrd mrm mtp mbt mtm mtn mnt mnb mun mum mau a1 a2 r8 th9 ms10 mst11 smn12 mtp13 mbt14 g15) (cwV 2 hts gL_law_X7_takeAway rfl rfl rfl hd_X7_takeAway ⟨Nat.le_of_ble_eq_true rfl, Nat.le_of_ble_eq_true rfl⟩) hK hP hD hS hA [12, 13, 14, 15, 16, 17, 18, 19, 20] [0, 1, 2, 3, 4, 5, 6, 7, 8, 9, 10, 11, 21] [0, 1, 2, 3, 4, 5, 6, 7, 8, 9, 10, 11, 13, 14, 15, 16, 17, 18, 19, 20, 21, 12] rfl rfl rfl (by decide) rfl rfl rfl 0 (ci := 5) rfl rfl rfl hl.1 rfl (Nat.le_of_ble_eq_true rfl) dL_law_372 ⟨bcl, bsl⟩ (fun H locs hP hD hS => ?_)
  refine lv_istore (lv' := [(6, .int r8), (5, .int r1), (0, .ref b), (1, .ref (o 0)), (2, .ref (w 0)), (3, .ref v), (4, .int x4)]) hx hb dL_law_375 hl (by decide) rfl (fun ls hl => ?_)
  refine lv_aload_n hx hb dL_law_377 rfl (lv_at hl 4 rfl) ?_
  refine cV_i (As := []) (rest := []) (ws1 := (LW o w v y pl2 te be cn ch le rE rL rP rF rS rD hs3 ho4 hc5 sl fi th9 ms10 mst11 smn12 msl mhs mtx mle mat mwl mrd mrm mtp13 mbt14 mtm mtn mnt mnb mun mum mau ou6)) ⟨hx, hb, hml, hown, hts⟩ (c_X7_thrown l D w y _ th9 ms10 mst11 smn12 msl mhs mtx mle mat mwl mrd mrm mtp13 mbt14 mtm mtn mnt mnb mun mum mau ) (cwV 0 hts gL_law_X7_thrown rfl rfl rfl hd_X7_thrown ⟨Nat.le_of_ble_eq_true rfl, Nat.le_of_ble_eq_true rfl⟩) hK hP hD hS hA [12, 13, 14, 15, 16, 17, 18, 19, 20] [0, 1, 2, 3, 4, 5, 6, 7, 8, 9, 10, 11, 21] [0, 1, 2, 3, 4, 5, 6, 7, 8, 9, 10, 11, 13, 14, 15, 16, 17, 18, 19, 20, 21, 12] rfl rfl rfl (by decide) rfl rfl rfl 0 (ci := 5) rfl rfl rfl hl.1 rfl (Nat.le_of_ble_eq_true rfl) dL_law_378 ⟨bcl, bsl⟩ (fun H locs hP hD hS => ?_)
  refine lv_iload hx hb dL_law_381 (lv_at hl 1 rfl) ?_
  refine lv_icmp_eq (tgt := 388) hx hb dL_law_383 (by decide) (fun c16 => ?_) (fun c16 => ?_)
  · replace h := fT c16 h
    refine lv_iload hx hb dL_law_388 (lv_at hl 1 rfl) ?_
    refine lv_if_ne (tgt := 405) hx hb dL_law_390 (by decide) (fun c17 => ?_) (fun c17 => ?_)
    · replace h := fF c17 h
      refine lv_goto (tgt := 2109) hx hb dL_law_405 (by decide) ?_
      cases h
      exact kk _ _ _ hP hD hS (lv_sub hl [2, 3, 4, 5, 6] rfl)
    · replace h := fT c17 h
      refine lv_aload_n hx hb dL_law_393 rfl (lv_at hl 5 rfl) ?_
      refine lv_iconst (v := (0 : Int32)) hx hb dL_law_394 (by decide) ?_
      refine va_lald hx hb hK hP 21 1 rfl rfl (show ¬ ((0 : Int32) < 0 ∨ 1 ≤ (0 : Int32).toNatClampNeg) from by decide) dL_law_395 ?_
      refine lv_iload hx hb dL_law_396 (lv_at hl 0 rfl) ?_
      refine lv_i2l (v := r8.toInt64) hx hb dL_law_398 rfl ?_
      refine lx_eq (tgt := 405) hx hb dL_law_399 dL_law_400 (by decide) (fun c18 => ?_) (fun c18 => ?_)
      · replace h := fT c18 h
        refine lv_goto (tgt := 2109) hx hb dL_law_405 (by decide) ?_
        cases h
        exact kk _ _ _ hP hD hS (lv_sub hl [2, 3, 4, 5, 6] rfl)
      · replace h := fF c18 h
        refine lv_iconst (v := (0 : Int32)) hx hb dL_law_403 (by decide) ?_
        exact fN h
  · replace h := fF c16 h
    refine lv_iconst (v := (0 : Int32)) hx hb dL_law_386 (by decide) ?_
    exact fN h
set_option maxHeartbeats 0 in
set_option maxRecDepth 100000 in
theorem cs_3 {p : Program} {l : Launch} {e : Env} {s : State} {m : MethodId} {args : Array Value} {below : List Frame} {meth : Method} {c : Code} {Q : State → Prop} {D : va_G} {o w : Nat → Nat} {v : Nat} {y : Nat → ClassId} {A : Nat → Prop} {b L : Nat} {xs : Nat → Int32} {x4 a1 a2 a3 : Int32} (hfl : l.stackTraces = false) (hx : p.tables.exec = Jvm.exec) (hb : c.code = code) (hml : c.maxLocals = 7) (hown : s.vm.findClass RL = some m.cls) (hts : ∀ w ∈ wsL_law, w.before args s = true) (hA : ∀ q, s.heap.size ≤ q → A q) (hK : va_K D vwCl (TY y) s) (hEX : EXC A s s.heap) (hX : va_X b L xs s s.heap) (hbl : b < s.heap.size) (hbA : ¬ A b) (hi1 : vp_in (x4 + (1 : Int32)) L) (hi2 : vp_in (x4 + (2 : Int32)) L) (hi3 : vp_in (x4 + (3 : Int32)) L) (ha1 : xs (x4 + (1 : Int32)).toNatClampNeg = a1) (ha2 : xs (x4 + (2 : Int32)).toNatClampNeg = a2) (ha3 : xs (x4 + (3 : Int32)).toNatClampNeg = a3) (pl : Nat → Int64) (te : Nat → Int32) (be : Nat → Int64) (cn : Int32) (ch : Nat → Int32) (le : Int32) (rE : Int32) (rL : Int32) (rP : Int32) (rF : Int32) (rS : Int32) (rD : Int32) (hs : Nat → Int64) (ho : Int32) (hc : Int32) (sl : Nat → Int64) (fi : Nat → Int32) (th : Int32) (ms : Nat → Int32) (mst : Nat → Int32) (smn : Int32) (msl : Nat → Int32) (mhs : Nat → Int32) (mtx : Nat → Int32) (mle : Int32) (mat : Int32) (mwl : Int32) (mrd : Nat → Int32) (mrm : Int32) (mtp : Int64) (mbt : Int64) (mtm : Nat → Int32) (mtn : Int32) (mnt : Int32) (mnb : Int32) (mun : Nat → Int32) (mum : Int32) (mau : Int32) (ou : Nat → Int64) (pl' : Nat → Int64) (hs' : Nat → Int64) (ho' : Int32) (hc' : Int32) (th' : Int32) (ms' : Nat → Int32) (mst' : Nat → Int32) (smn' : Int32) (mtp' : Int64) (mbt' : Int64) (ou' : Nat → Int64) (h : G_3 pl hs ho hc th ms mst smn mtp mbt ou a1 a2 a3 = some (pl', hs', ho', hc', th', ms', mst', smn', mtp', mbt', ou')) {H : Heap} {locs : List Loc} {ls : Array Slot} {cells slots : Nat} (hP : va_P D vwCl (LW o w v y pl te be cn ch le rE rL rP rF rS rD hs ho hc sl fi th ms mst smn msl mhs mtx mle mat mwl mrd mrm mtp mbt mtm mtn mnt mnb mun mum mau ou) H) (hD : va_D A (LW o w v y pl te be cn ch le rE rL rP rF rS rD hs ho hc sl fi th ms mst smn msl mhs mtx mle mat mwl mrd mrm mtp mbt mtm mtn mnt mnb mun mum mau ou)) (hS : va_S A s.heap H locs) (hl : lv_has ls 7 [(0, .ref b), (1, .ref (o 0)), (2, .ref (w 0)), (3, .ref v), (4, .int x4)]) (bcl : cells + 1 ≤ 1063) (bsl : slots + 6 ≤ 8907)
    (kk : ∀ (H : Heap) (locs : List Loc) (ls : Array Slot), va_P D vwCl (LW o w v y pl' te be cn ch le rE rL rP rF rS rD hs' ho' hc' sl fi th' ms' mst' smn' msl mhs mtx mle mat mwl mrd mrm mtp' mbt' mtm mtn mnt mnb mun mum mau ou') H → va_D A (LW o w v y pl' te be cn ch le rE rL rP rF rS rD hs' ho' hc' sl fi th' ms' mst' smn' msl mhs mtx mle mat mwl mrd mrm mtp' mbt' mtm mtn mnt mnb mun mum mau ou') → va_S A s.heap H locs → lv_has ls 7 [(0, .ref b), (1, .ref (o 0)), (2, .ref (w 0)), (3, .ref v), (4, .int x4)] → W p l e room_1 s m args below meth c H locs (cells + 1) (slots + 6) Q (F0 m 2109 ls [])) : W p l e room_1 s m args below meth c H locs cells slots Q (F0 m 408 ls []) := by
  unfold G_3 at h
  refine lv_aload_n hx hb dL_law_408 rfl (lv_at hl 1 rfl) ?_
  refine lv_aload_n hx hb dL_law_409 rfl (lv_at hl 0 rfl) ?_
  refine lv_iload hx hb dL_law_410 (lv_at hl 4 rfl) ?_
  refine lv_iconst (v := (1 : Int32)) hx hb dL_law_412 (by decide) ?_
  refine lv_iadd hx hb dL_law_413 ?_
  refine va_sld hx hb hX hbl hbA hS hi1 dL_law_414 ?_
  refine eqi ha1 ?_
  refine lv_aload_n hx hb dL_law_415 rfl (lv_at hl 0 rfl) ?_
  refine lv_iload hx hb dL_law_416 (lv_at hl 4 rfl) ?_
  refine lv_iconst (v := (2 : Int32)) hx hb dL_law_418 (by decide) ?_
  refine lv_iadd hx hb dL_law_419 ?_
  refine va_sld hx hb hX hbl hbA hS hi2 dL_law_420 ?_
  refine eqi ha2 ?_
  refine lv_aload_n hx hb dL_law_421 rfl (lv_at hl 3 rfl) ?_
  obtain ⟨r1, pl2, hs3, ho4, hc5, ou6, g7, h⟩ := fB6 h
  refine cW_i (As := [.ref (o 0), .int a1, .int a2, .ref v]) (rest := []) (ws1 := (LW o w v y pl2 te be cn ch le rE rL rP rF rS rD hs3 ho4 hc5 sl fi th ms mst smn msl mhs mtx mle mat mwl mrd mrm mtp mbt mtm mtn mnt mnb mun mum mau ou6)) ⟨hx, hb, hml, hown, hts⟩ (c_L_multiply l hfl D o v y _ pl te be cn ch le rE rL rP rF rS rD hs ho hc sl fi ou a1 a2 r1 pl2 hs3 ho4 hc5 ou6 g7) (vx_cwSW 4 hts gL_law_L_multiply rfl rfl rfl hd_L_multiply ⟨Nat.le_of_ble_eq_true rfl, Nat.le_of_ble_eq_true rfl⟩) hK hP hD hS hA hEX [0, 1, 2, 3, 4, 5, 6, 7, 8, 9, 10, 11, 21] [12, 13, 14, 15, 16, 17, 18, 19, 20] [9, 10, 11, 12, 13, 14, 15, 16, 17, 18, 19, 20, 0, 1, 2, 3, 4, 5, 6, 7, 8, 21] rfl rfl rfl (by decide) rfl rfl rfl rfl hl.1 rfl (Nat.le_of_ble_eq_true rfl) dL_law_422 ⟨bcl, bsl⟩ (fun H locs hP hD hS => ?_)
  refine lv_istore (lv' := [(5, .int r1), (0, .ref b), (1, .ref (o 0)), (2, .ref (w 0)), (3, .ref v), (4, .int x4)]) hx hb dL_law_425 hl (by decide) rfl (fun ls hl => ?_)
  refine lv_aload_n hx hb dL_law_427 rfl (lv_at hl 3 rfl) ?_
  refine lv_aload_n hx hb dL_law_428 rfl (lv_at hl 1 rfl) ?_
  refine lv_iload hx hb dL_law_429 (lv_at hl 5 rfl) ?_
  refine lv_iconst (v := (1 : Int32)) hx hb dL_law_431 (by decide) ?_
  refine lv_iadd hx hb dL_law_432 ?_
  refine va_sld hx hb hX hbl hbA hS hi1 dL_law_433 ?_
  refine eqi ha1 ?_
  refine lv_aload_n hx hb dL_law_434 rfl (lv_at hl 1 rfl) ?_
  refine lv_iload hx hb dL_law_435 (lv_at hl 5 rfl) ?_
  refine lv_iconst (v := (2 : Int32)) hx hb dL_law_437 (by decide) ?_
  refine lv_iadd hx hb dL_law_438 ?_
  refine va_sld hx hb hX hbl hbA hS hi2 dL_law_439 ?_
  refine eqi ha2 ?_
  obtain ⟨r8, th9, ms10, mst11, smn12, mtp13, mbt14, g15, h⟩ := fB7 h
  refine cV_i (As := [.int a1, .int a2]) (rest := []) (ws1 := (LW o w v y pl2 te be cn ch le rE rL rP rF rS rD hs3 ho4 hc5 sl fi th9 ms10 mst11 smn12 msl mhs mtx mle mat mwl mrd mrm mtp13 mbt14 mtm mtn mnt mnb mun mum mau ou6)) ⟨hx, hb, hml, hown, hts⟩ (c_X7_multiply l D w y _ th ms mst smn msl mhs mtx mle mat mwl mrd mrm mtp mbt mtm mtn mnt mnb mun mum mau a1 a2 r8 th9 ms10 mst11 smn12 mtp13 mbt14 g15) (cwV 2 hts gL_law_X7_multiply rfl rfl rfl hd_X7_multiply ⟨Nat.le_of_ble_eq_true rfl, Nat.le_of_ble_eq_true rfl⟩) hK hP hD hS hA [12, 13, 14, 15, 16, 17, 18, 19, 20] [0, 1, 2, 3, 4, 5, 6, 7, 8, 9, 10, 11, 21] [0, 1, 2, 3, 4, 5, 6, 7, 8, 9, 10, 11, 13, 14, 15, 16, 17, 18, 19, 20, 21, 12] rfl rfl rfl (by decide) rfl rfl rfl 0 (ci := 5) rfl rfl rfl hl.1 rfl (Nat.le_of_ble_eq_true rfl) dL_law_440 ⟨bcl, bsl⟩ (fun H locs hP hD hS => ?_)
  refine lv_istore (lv' := [(6, .int r8), (5, .int r1), (0, .ref b), (1, .ref (o 0)), (2, .ref (w 0)), (3, .ref v), (4, .int x4)]) hx hb dL_law_443 hl (by decide) rfl (fun ls hl => ?_)
  refine lv_aload_n hx hb dL_law_445 rfl (lv_at hl 4 rfl) ?_
  refine cV_i (As := []) (rest := []) (ws1 := (LW o w v y pl2 te be cn ch le rE rL rP rF rS rD hs3 ho4 hc5 sl fi th9 ms10 mst11 smn12 msl mhs mtx mle mat mwl mrd mrm mtp13 mbt14 mtm mtn mnt mnb mun mum mau ou6)) ⟨hx, hb, hml, hown, hts⟩ (c_X7_thrown l D w y _ th9 ms10 mst11 smn12 msl mhs mtx mle mat mwl mrd mrm mtp13 mbt14 mtm mtn mnt mnb mun mum mau ) (cwV 0 hts gL_law_X7_thrown rfl rfl rfl hd_X7_thrown ⟨Nat.le_of_ble_eq_true rfl, Nat.le_of_ble_eq_true rfl⟩) hK hP hD hS hA [12, 13, 14, 15, 16, 17, 18, 19, 20] [0, 1, 2, 3, 4, 5, 6, 7, 8, 9, 10, 11, 21] [0, 1, 2, 3, 4, 5, 6, 7, 8, 9, 10, 11, 13, 14, 15, 16, 17, 18, 19, 20, 21, 12] rfl rfl rfl (by decide) rfl rfl rfl 0 (ci := 5) rfl rfl rfl hl.1 rfl (Nat.le_of_ble_eq_true rfl) dL_law_446 ⟨bcl, bsl⟩ (fun H locs hP hD hS => ?_)
  refine lv_iload hx hb dL_law_449 (lv_at hl 1 rfl) ?_
  refine lv_icmp_eq (tgt := 456) hx hb dL_law_451 (by decide) (fun c16 => ?_) (fun c16 => ?_)
  · replace h := fT c16 h
    refine lv_iload hx hb dL_law_456 (lv_at hl 1 rfl) ?_
    refine lv_if_ne (tgt := 473) hx hb dL_law_458 (by decide) (fun c17 => ?_) (fun c17 => ?_)
    · replace h := fF c17 h
      refine lv_goto (tgt := 2109) hx hb dL_law_473 (by decide) ?_
      cases h
      exact kk _ _ _ hP hD hS (lv_sub hl [2, 3, 4, 5, 6] rfl)
    · replace h := fT c17 h
      refine lv_aload_n hx hb dL_law_461 rfl (lv_at hl 5 rfl) ?_
      refine lv_iconst (v := (0 : Int32)) hx hb dL_law_462 (by decide) ?_
      refine va_lald hx hb hK hP 21 1 rfl rfl (show ¬ ((0 : Int32) < 0 ∨ 1 ≤ (0 : Int32).toNatClampNeg) from by decide) dL_law_463 ?_
      refine lv_iload hx hb dL_law_464 (lv_at hl 0 rfl) ?_
      refine lv_i2l (v := r8.toInt64) hx hb dL_law_466 rfl ?_
      refine lx_eq (tgt := 473) hx hb dL_law_467 dL_law_468 (by decide) (fun c18 => ?_) (fun c18 => ?_)
      · replace h := fT c18 h
        refine lv_goto (tgt := 2109) hx hb dL_law_473 (by decide) ?_
        cases h
        exact kk _ _ _ hP hD hS (lv_sub hl [2, 3, 4, 5, 6] rfl)
      · replace h := fF c18 h
        refine lv_iconst (v := (0 : Int32)) hx hb dL_law_471 (by decide) ?_
        exact fN h
  · replace h := fF c16 h
    refine lv_iconst (v := (0 : Int32)) hx hb dL_law_454 (by decide) ?_
    exact fN h
set_option maxHeartbeats 0 in
set_option maxRecDepth 100000 in
theorem cs_4 {p : Program} {l : Launch} {e : Env} {s : State} {m : MethodId} {args : Array Value} {below : List Frame} {meth : Method} {c : Code} {Q : State → Prop} {D : va_G} {o w : Nat → Nat} {v : Nat} {y : Nat → ClassId} {A : Nat → Prop} {b L : Nat} {xs : Nat → Int32} {x4 a1 a2 a3 : Int32} (hfl : l.stackTraces = false) (hx : p.tables.exec = Jvm.exec) (hb : c.code = code) (hml : c.maxLocals = 7) (hown : s.vm.findClass RL = some m.cls) (hts : ∀ w ∈ wsL_law, w.before args s = true) (hA : ∀ q, s.heap.size ≤ q → A q) (hK : va_K D vwCl (TY y) s) (hEX : EXC A s s.heap) (hX : va_X b L xs s s.heap) (hbl : b < s.heap.size) (hbA : ¬ A b) (hi1 : vp_in (x4 + (1 : Int32)) L) (hi2 : vp_in (x4 + (2 : Int32)) L) (hi3 : vp_in (x4 + (3 : Int32)) L) (ha1 : xs (x4 + (1 : Int32)).toNatClampNeg = a1) (ha2 : xs (x4 + (2 : Int32)).toNatClampNeg = a2) (ha3 : xs (x4 + (3 : Int32)).toNatClampNeg = a3) (pl : Nat → Int64) (te : Nat → Int32) (be : Nat → Int64) (cn : Int32) (ch : Nat → Int32) (le : Int32) (rE : Int32) (rL : Int32) (rP : Int32) (rF : Int32) (rS : Int32) (rD : Int32) (hs : Nat → Int64) (ho : Int32) (hc : Int32) (sl : Nat → Int64) (fi : Nat → Int32) (th : Int32) (ms : Nat → Int32) (mst : Nat → Int32) (smn : Int32) (msl : Nat → Int32) (mhs : Nat → Int32) (mtx : Nat → Int32) (mle : Int32) (mat : Int32) (mwl : Int32) (mrd : Nat → Int32) (mrm : Int32) (mtp : Int64) (mbt : Int64) (mtm : Nat → Int32) (mtn : Int32) (mnt : Int32) (mnb : Int32) (mun : Nat → Int32) (mum : Int32) (mau : Int32) (ou : Nat → Int64) (pl' : Nat → Int64) (hs' : Nat → Int64) (ho' : Int32) (hc' : Int32) (th' : Int32) (ms' : Nat → Int32) (mst' : Nat → Int32) (smn' : Int32) (ou' : Nat → Int64) (h : G_4 pl hs ho hc th ms mst smn ou a1 a2 a3 = some (pl', hs', ho', hc', th', ms', mst', smn', ou')) {H : Heap} {locs : List Loc} {ls : Array Slot} {cells slots : Nat} (hP : va_P D vwCl (LW o w v y pl te be cn ch le rE rL rP rF rS rD hs ho hc sl fi th ms mst smn msl mhs mtx mle mat mwl mrd mrm mtp mbt mtm mtn mnt mnb mun mum mau ou) H) (hD : va_D A (LW o w v y pl te be cn ch le rE rL rP rF rS rD hs ho hc sl fi th ms mst smn msl mhs mtx mle mat mwl mrd mrm mtp mbt mtm mtn mnt mnb mun mum mau ou)) (hS : va_S A s.heap H locs) (hl : lv_has ls 7 [(0, .ref b), (1, .ref (o 0)), (2, .ref (w 0)), (3, .ref v), (4, .int x4)]) (bcl : cells + 1 ≤ 1063) (bsl : slots + 6 ≤ 8907)
    (kk : ∀ (H : Heap) (locs : List Loc) (ls : Array Slot), va_P D vwCl (LW o w v y pl' te be cn ch le rE rL rP rF rS rD hs' ho' hc' sl fi th' ms' mst' smn' msl mhs mtx mle mat mwl mrd mrm mtp mbt mtm mtn mnt mnb mun mum mau ou') H → va_D A (LW o w v y pl' te be cn ch le rE rL rP rF rS rD hs' ho' hc' sl fi th' ms' mst' smn' msl mhs mtx mle mat mwl mrd mrm mtp mbt mtm mtn mnt mnb mun mum mau ou') → va_S A s.heap H locs → lv_has ls 7 [(0, .ref b), (1, .ref (o 0)), (2, .ref (w 0)), (3, .ref v), (4, .int x4)] → W p l e room_1 s m args below meth c H locs (cells + 1) (slots + 6) Q (F0 m 2109 ls [])) : W p l e room_1 s m args below meth c H locs cells slots Q (F0 m 476 ls []) := by
  unfold G_4 at h
  refine lv_aload_n hx hb dL_law_476 rfl (lv_at hl 1 rfl) ?_
  refine lv_aload_n hx hb dL_law_477 rfl (lv_at hl 0 rfl) ?_
  refine lv_iload hx hb dL_law_478 (lv_at hl 4 rfl) ?_
  refine lv_iconst (v := (1 : Int32)) hx hb dL_law_480 (by decide) ?_
  refine lv_iadd hx hb dL_law_481 ?_
  refine va_sld hx hb hX hbl hbA hS hi1 dL_law_482 ?_
  refine eqi ha1 ?_
  refine lv_aload_n hx hb dL_law_483 rfl (lv_at hl 0 rfl) ?_
  refine lv_iload hx hb dL_law_484 (lv_at hl 4 rfl) ?_
  refine lv_iconst (v := (2 : Int32)) hx hb dL_law_486 (by decide) ?_
  refine lv_iadd hx hb dL_law_487 ?_
  refine va_sld hx hb hX hbl hbA hS hi2 dL_law_488 ?_
  refine eqi ha2 ?_
  refine lv_aload_n hx hb dL_law_489 rfl (lv_at hl 3 rfl) ?_
  obtain ⟨r1, pl2, hs3, ho4, hc5, ou6, g7, h⟩ := fB6 h
  refine cW_i (As := [.ref (o 0), .int a1, .int a2, .ref v]) (rest := []) (ws1 := (LW o w v y pl2 te be cn ch le rE rL rP rF rS rD hs3 ho4 hc5 sl fi th ms mst smn msl mhs mtx mle mat mwl mrd mrm mtp mbt mtm mtn mnt mnb mun mum mau ou6)) ⟨hx, hb, hml, hown, hts⟩ (c_L_copyTo l hfl D o v y _ pl te be cn ch le rE rL rP rF rS rD hs ho hc sl fi ou a1 a2 r1 pl2 hs3 ho4 hc5 ou6 g7) (vx_cwSW 4 hts gL_law_L_copyTo rfl rfl rfl hd_L_copyTo ⟨Nat.le_of_ble_eq_true rfl, Nat.le_of_ble_eq_true rfl⟩) hK hP hD hS hA hEX [0, 1, 2, 3, 4, 5, 6, 7, 8, 9, 10, 11, 21] [12, 13, 14, 15, 16, 17, 18, 19, 20] [9, 10, 11, 12, 13, 14, 15, 16, 17, 18, 19, 20, 0, 1, 2, 3, 4, 5, 6, 7, 8, 21] rfl rfl rfl (by decide) rfl rfl rfl rfl hl.1 rfl (Nat.le_of_ble_eq_true rfl) dL_law_490 ⟨bcl, bsl⟩ (fun H locs hP hD hS => ?_)
  refine lv_istore (lv' := [(5, .int r1), (0, .ref b), (1, .ref (o 0)), (2, .ref (w 0)), (3, .ref v), (4, .int x4)]) hx hb dL_law_493 hl (by decide) rfl (fun ls hl => ?_)
  refine lv_aload_n hx hb dL_law_495 rfl (lv_at hl 3 rfl) ?_
  refine lv_aload_n hx hb dL_law_496 rfl (lv_at hl 1 rfl) ?_
  refine lv_iload hx hb dL_law_497 (lv_at hl 5 rfl) ?_
  refine lv_iconst (v := (1 : Int32)) hx hb dL_law_499 (by decide) ?_
  refine lv_iadd hx hb dL_law_500 ?_
  refine va_sld hx hb hX hbl hbA hS hi1 dL_law_501 ?_
  refine eqi ha1 ?_
  refine lv_aload_n hx hb dL_law_502 rfl (lv_at hl 1 rfl) ?_
  refine lv_iload hx hb dL_law_503 (lv_at hl 5 rfl) ?_
  refine lv_iconst (v := (2 : Int32)) hx hb dL_law_505 (by decide) ?_
  refine lv_iadd hx hb dL_law_506 ?_
  refine va_sld hx hb hX hbl hbA hS hi2 dL_law_507 ?_
  refine eqi ha2 ?_
  obtain ⟨r8, th9, ms10, mst11, smn12, g13, h⟩ := fB5 h
  refine cV_i (As := [.int a1, .int a2]) (rest := []) (ws1 := (LW o w v y pl2 te be cn ch le rE rL rP rF rS rD hs3 ho4 hc5 sl fi th9 ms10 mst11 smn12 msl mhs mtx mle mat mwl mrd mrm mtp mbt mtm mtn mnt mnb mun mum mau ou6)) ⟨hx, hb, hml, hown, hts⟩ (c_X7_copyTo l D w y _ th ms mst smn msl mhs mtx mle mat mwl mrd mrm mtp mbt mtm mtn mnt mnb mun mum mau a1 a2 r8 th9 ms10 mst11 smn12 g13) (cwV 2 hts gL_law_X7_copyTo rfl rfl rfl hd_X7_copyTo ⟨Nat.le_of_ble_eq_true rfl, Nat.le_of_ble_eq_true rfl⟩) hK hP hD hS hA [12, 13, 14, 15, 16, 17, 18, 19, 20] [0, 1, 2, 3, 4, 5, 6, 7, 8, 9, 10, 11, 21] [0, 1, 2, 3, 4, 5, 6, 7, 8, 9, 10, 11, 13, 14, 15, 16, 17, 18, 19, 20, 21, 12] rfl rfl rfl (by decide) rfl rfl rfl 0 (ci := 5) rfl rfl rfl hl.1 rfl (Nat.le_of_ble_eq_true rfl) dL_law_508 ⟨bcl, bsl⟩ (fun H locs hP hD hS => ?_)
  refine lv_istore (lv' := [(6, .int r8), (5, .int r1), (0, .ref b), (1, .ref (o 0)), (2, .ref (w 0)), (3, .ref v), (4, .int x4)]) hx hb dL_law_511 hl (by decide) rfl (fun ls hl => ?_)
  refine lv_aload_n hx hb dL_law_513 rfl (lv_at hl 4 rfl) ?_
  refine cV_i (As := []) (rest := []) (ws1 := (LW o w v y pl2 te be cn ch le rE rL rP rF rS rD hs3 ho4 hc5 sl fi th9 ms10 mst11 smn12 msl mhs mtx mle mat mwl mrd mrm mtp mbt mtm mtn mnt mnb mun mum mau ou6)) ⟨hx, hb, hml, hown, hts⟩ (c_X7_thrown l D w y _ th9 ms10 mst11 smn12 msl mhs mtx mle mat mwl mrd mrm mtp mbt mtm mtn mnt mnb mun mum mau ) (cwV 0 hts gL_law_X7_thrown rfl rfl rfl hd_X7_thrown ⟨Nat.le_of_ble_eq_true rfl, Nat.le_of_ble_eq_true rfl⟩) hK hP hD hS hA [12, 13, 14, 15, 16, 17, 18, 19, 20] [0, 1, 2, 3, 4, 5, 6, 7, 8, 9, 10, 11, 21] [0, 1, 2, 3, 4, 5, 6, 7, 8, 9, 10, 11, 13, 14, 15, 16, 17, 18, 19, 20, 21, 12] rfl rfl rfl (by decide) rfl rfl rfl 0 (ci := 5) rfl rfl rfl hl.1 rfl (Nat.le_of_ble_eq_true rfl) dL_law_514 ⟨bcl, bsl⟩ (fun H locs hP hD hS => ?_)
  refine lv_iload hx hb dL_law_517 (lv_at hl 1 rfl) ?_
  refine lv_icmp_eq (tgt := 524) hx hb dL_law_519 (by decide) (fun c14 => ?_) (fun c14 => ?_)
  · replace h := fT c14 h
    refine lv_iload hx hb dL_law_524 (lv_at hl 1 rfl) ?_
    refine lv_if_ne (tgt := 548) hx hb dL_law_526 (by decide) (fun c15 => ?_) (fun c15 => ?_)
    · replace h := fF c15 h
      refine lv_goto (tgt := 2109) hx hb dL_law_548 (by decide) ?_
      cases h
      exact kk _ _ _ hP hD hS (lv_sub hl [2, 3, 4, 5, 6] rfl)
    · replace h := fT c15 h
      refine lv_aload_n hx hb dL_law_529 rfl (lv_at hl 5 rfl) ?_
      refine lv_iconst (v := (0 : Int32)) hx hb dL_law_530 (by decide) ?_
      refine va_lald hx hb hK hP 21 1 rfl rfl (show ¬ ((0 : Int32) < 0 ∨ 1 ≤ (0 : Int32).toNatClampNeg) from by decide) dL_law_531 ?_
      refine lv_iload hx hb dL_law_532 (lv_at hl 0 rfl) ?_
      have J16 : ∀ (v17 : Int64) (ls : Array Slot), v17 = (if r8 = (0 : Int32) then (0 : Int64) else (1 : Int64)) → lv_has ls 7 [(0, .ref b), (1, .ref (o 0)), (2, .ref (w 0)), (3, .ref v), (4, .int x4), (5, .int r1), (6, .int r8)] → W p l e room_1 s m args below meth c H locs (cells + 1) (slots + 6) Q (F0 m 542 ls [.long v17, .long (ou6 (0 : Int32).toNatClampNeg)]) := by
        intro v17 ls ev17 hl
        subst ev17
        refine lx_eq (tgt := 548) hx hb dL_law_542 dL_law_543 (by decide) (fun c18 => ?_) (fun c18 => ?_)
        · replace h := fT c18 h
          refine lv_goto (tgt := 2109) hx hb dL_law_548 (by decide) ?_
          cases h
          exact kk _ _ _ hP hD hS (lv_sub hl [0, 1, 2, 3, 4] rfl)
        · replace h := fF c18 h
          refine lv_iconst (v := (0 : Int32)) hx hb dL_law_546 (by decide) ?_
          exact fN h
      refine lv_if_eq (tgt := 541) hx hb dL_law_534 (by decide) (fun c19 => ?_) (fun c19 => ?_)
      · refine lv_lconst (v := (0 : Int64)) hx hb dL_law_541 rfl ?_
        exact J16 _ _ (by rw [if_pos c19]) (lv_sub hl [2, 3, 4, 5, 6, 1, 0] rfl)
      · refine lv_lconst (v := (1 : Int64)) hx hb dL_law_537 rfl ?_
        refine lv_goto (tgt := 542) hx hb dL_law_538 (by decide) ?_
        exact J16 _ _ (by rw [if_neg c19]) (lv_sub hl [2, 3, 4, 5, 6, 1, 0] rfl)
  · replace h := fF c14 h
    refine lv_iconst (v := (0 : Int32)) hx hb dL_law_522 (by decide) ?_
    exact fN h
set_option maxHeartbeats 0 in
set_option maxRecDepth 100000 in
theorem cs_5 {p : Program} {l : Launch} {e : Env} {s : State} {m : MethodId} {args : Array Value} {below : List Frame} {meth : Method} {c : Code} {Q : State → Prop} {D : va_G} {o w : Nat → Nat} {v : Nat} {y : Nat → ClassId} {A : Nat → Prop} {b L : Nat} {xs : Nat → Int32} {x4 a1 a2 a3 : Int32} (hfl : l.stackTraces = false) (hx : p.tables.exec = Jvm.exec) (hb : c.code = code) (hml : c.maxLocals = 7) (hown : s.vm.findClass RL = some m.cls) (hts : ∀ w ∈ wsL_law, w.before args s = true) (hA : ∀ q, s.heap.size ≤ q → A q) (hK : va_K D vwCl (TY y) s) (hEX : EXC A s s.heap) (hX : va_X b L xs s s.heap) (hbl : b < s.heap.size) (hbA : ¬ A b) (hi1 : vp_in (x4 + (1 : Int32)) L) (hi2 : vp_in (x4 + (2 : Int32)) L) (hi3 : vp_in (x4 + (3 : Int32)) L) (ha1 : xs (x4 + (1 : Int32)).toNatClampNeg = a1) (ha2 : xs (x4 + (2 : Int32)).toNatClampNeg = a2) (ha3 : xs (x4 + (3 : Int32)).toNatClampNeg = a3) (pl : Nat → Int64) (te : Nat → Int32) (be : Nat → Int64) (cn : Int32) (ch : Nat → Int32) (le : Int32) (rE : Int32) (rL : Int32) (rP : Int32) (rF : Int32) (rS : Int32) (rD : Int32) (hs : Nat → Int64) (ho : Int32) (hc : Int32) (sl : Nat → Int64) (fi : Nat → Int32) (th : Int32) (ms : Nat → Int32) (mst : Nat → Int32) (smn : Int32) (msl : Nat → Int32) (mhs : Nat → Int32) (mtx : Nat → Int32) (mle : Int32) (mat : Int32) (mwl : Int32) (mrd : Nat → Int32) (mrm : Int32) (mtp : Int64) (mbt : Int64) (mtm : Nat → Int32) (mtn : Int32) (mnt : Int32) (mnb : Int32) (mun : Nat → Int32) (mum : Int32) (mau : Int32) (ou : Nat → Int64) (pl' : Nat → Int64) (hs' : Nat → Int64) (ho' : Int32) (hc' : Int32) (th' : Int32) (ms' : Nat → Int32) (mst' : Nat → Int32) (smn' : Int32) (mtp' : Int64) (mbt' : Int64) (ou' : Nat → Int64) (h : G_5 pl hs ho hc th ms mst smn mtp mbt ou a1 a2 a3 = some (pl', hs', ho', hc', th', ms', mst', smn', mtp', mbt', ou')) {H : Heap} {locs : List Loc} {ls : Array Slot} {cells slots : Nat} (hP : va_P D vwCl (LW o w v y pl te be cn ch le rE rL rP rF rS rD hs ho hc sl fi th ms mst smn msl mhs mtx mle mat mwl mrd mrm mtp mbt mtm mtn mnt mnb mun mum mau ou) H) (hD : va_D A (LW o w v y pl te be cn ch le rE rL rP rF rS rD hs ho hc sl fi th ms mst smn msl mhs mtx mle mat mwl mrd mrm mtp mbt mtm mtn mnt mnb mun mum mau ou)) (hS : va_S A s.heap H locs) (hl : lv_has ls 7 [(0, .ref b), (1, .ref (o 0)), (2, .ref (w 0)), (3, .ref v), (4, .int x4)]) (bcl : cells + 1 ≤ 1063) (bsl : slots + 6 ≤ 8907)
    (kk : ∀ (H : Heap) (locs : List Loc) (ls : Array Slot), va_P D vwCl (LW o w v y pl' te be cn ch le rE rL rP rF rS rD hs' ho' hc' sl fi th' ms' mst' smn' msl mhs mtx mle mat mwl mrd mrm mtp' mbt' mtm mtn mnt mnb mun mum mau ou') H → va_D A (LW o w v y pl' te be cn ch le rE rL rP rF rS rD hs' ho' hc' sl fi th' ms' mst' smn' msl mhs mtx mle mat mwl mrd mrm mtp' mbt' mtm mtn mnt mnb mun mum mau ou') → va_S A s.heap H locs → lv_has ls 7 [(0, .ref b), (1, .ref (o 0)), (2, .ref (w 0)), (3, .ref v), (4, .int x4)] → W p l e room_1 s m args below meth c H locs (cells + 1) (slots + 6) Q (F0 m 2109 ls [])) : W p l e room_1 s m args below meth c H locs cells slots Q (F0 m 551 ls []) := by
  unfold G_5 at h
  refine lv_aload_n hx hb dL_law_551 rfl (lv_at hl 1 rfl) ?_
  refine lv_aload_n hx hb dL_law_552 rfl (lv_at hl 0 rfl) ?_
  refine lv_iload hx hb dL_law_553 (lv_at hl 4 rfl) ?_
  refine lv_iconst (v := (1 : Int32)) hx hb dL_law_555 (by decide) ?_
  refine lv_iadd hx hb dL_law_556 ?_
  refine va_sld hx hb hX hbl hbA hS hi1 dL_law_557 ?_
  refine eqi ha1 ?_
  refine lv_aload_n hx hb dL_law_558 rfl (lv_at hl 3 rfl) ?_
  obtain ⟨r1, pl2, hs3, ho4, hc5, ou6, g7, h⟩ := fB6 h
  refine cW_i (As := [.ref (o 0), .int a1, .ref v]) (rest := []) (ws1 := (LW o w v y pl2 te be cn ch le rE rL rP rF rS rD hs3 ho4 hc5 sl fi th ms mst smn msl mhs mtx mle mat mwl mrd mrm mtp mbt mtm mtn mnt mnb mun mum mau ou6)) ⟨hx, hb, hml, hown, hts⟩ (c_L_invert l hfl D o v y _ pl te be cn ch le rE rL rP rF rS rD hs ho hc sl fi ou a1 r1 pl2 hs3 ho4 hc5 ou6 g7) (vx_cwSW 3 hts gL_law_L_invert rfl rfl rfl hd_L_invert ⟨Nat.le_of_ble_eq_true rfl, Nat.le_of_ble_eq_true rfl⟩) hK hP hD hS hA hEX [0, 1, 2, 3, 4, 5, 6, 7, 8, 9, 10, 11, 21] [12, 13, 14, 15, 16, 17, 18, 19, 20] [9, 10, 11, 12, 13, 14, 15, 16, 17, 18, 19, 20, 0, 1, 2, 3, 4, 5, 6, 7, 8, 21] rfl rfl rfl (by decide) rfl rfl rfl rfl hl.1 rfl (Nat.le_of_ble_eq_true rfl) dL_law_559 ⟨bcl, bsl⟩ (fun H locs hP hD hS => ?_)
  refine lv_istore (lv' := [(5, .int r1), (0, .ref b), (1, .ref (o 0)), (2, .ref (w 0)), (3, .ref v), (4, .int x4)]) hx hb dL_law_562 hl (by decide) rfl (fun ls hl => ?_)
  refine lv_aload_n hx hb dL_law_564 rfl (lv_at hl 3 rfl) ?_
  refine lv_aload_n hx hb dL_law_565 rfl (lv_at hl 1 rfl) ?_
  refine lv_iload hx hb dL_law_566 (lv_at hl 5 rfl) ?_
  refine lv_iconst (v := (1 : Int32)) hx hb dL_law_568 (by decide) ?_
  refine lv_iadd hx hb dL_law_569 ?_
  refine va_sld hx hb hX hbl hbA hS hi1 dL_law_570 ?_
  refine eqi ha1 ?_
  obtain ⟨r8, th9, ms10, mst11, smn12, mtp13, mbt14, g15, h⟩ := fB7 h
  refine cV_i (As := [.int a1]) (rest := []) (ws1 := (LW o w v y pl2 te be cn ch le rE rL rP rF rS rD hs3 ho4 hc5 sl fi th9 ms10 mst11 smn12 msl mhs mtx mle mat mwl mrd mrm mtp13 mbt14 mtm mtn mnt mnb mun mum mau ou6)) ⟨hx, hb, hml, hown, hts⟩ (c_X7_invert l D w y _ th ms mst smn msl mhs mtx mle mat mwl mrd mrm mtp mbt mtm mtn mnt mnb mun mum mau a1 r8 th9 ms10 mst11 smn12 mtp13 mbt14 g15) (cwV 1 hts gL_law_X7_invert rfl rfl rfl hd_X7_invert ⟨Nat.le_of_ble_eq_true rfl, Nat.le_of_ble_eq_true rfl⟩) hK hP hD hS hA [12, 13, 14, 15, 16, 17, 18, 19, 20] [0, 1, 2, 3, 4, 5, 6, 7, 8, 9, 10, 11, 21] [0, 1, 2, 3, 4, 5, 6, 7, 8, 9, 10, 11, 13, 14, 15, 16, 17, 18, 19, 20, 21, 12] rfl rfl rfl (by decide) rfl rfl rfl 0 (ci := 5) rfl rfl rfl hl.1 rfl (Nat.le_of_ble_eq_true rfl) dL_law_571 ⟨bcl, bsl⟩ (fun H locs hP hD hS => ?_)
  refine lv_istore (lv' := [(6, .int r8), (5, .int r1), (0, .ref b), (1, .ref (o 0)), (2, .ref (w 0)), (3, .ref v), (4, .int x4)]) hx hb dL_law_574 hl (by decide) rfl (fun ls hl => ?_)
  refine lv_aload_n hx hb dL_law_576 rfl (lv_at hl 4 rfl) ?_
  refine cV_i (As := []) (rest := []) (ws1 := (LW o w v y pl2 te be cn ch le rE rL rP rF rS rD hs3 ho4 hc5 sl fi th9 ms10 mst11 smn12 msl mhs mtx mle mat mwl mrd mrm mtp13 mbt14 mtm mtn mnt mnb mun mum mau ou6)) ⟨hx, hb, hml, hown, hts⟩ (c_X7_thrown l D w y _ th9 ms10 mst11 smn12 msl mhs mtx mle mat mwl mrd mrm mtp13 mbt14 mtm mtn mnt mnb mun mum mau ) (cwV 0 hts gL_law_X7_thrown rfl rfl rfl hd_X7_thrown ⟨Nat.le_of_ble_eq_true rfl, Nat.le_of_ble_eq_true rfl⟩) hK hP hD hS hA [12, 13, 14, 15, 16, 17, 18, 19, 20] [0, 1, 2, 3, 4, 5, 6, 7, 8, 9, 10, 11, 21] [0, 1, 2, 3, 4, 5, 6, 7, 8, 9, 10, 11, 13, 14, 15, 16, 17, 18, 19, 20, 21, 12] rfl rfl rfl (by decide) rfl rfl rfl 0 (ci := 5) rfl rfl rfl hl.1 rfl (Nat.le_of_ble_eq_true rfl) dL_law_577 ⟨bcl, bsl⟩ (fun H locs hP hD hS => ?_)
  refine lv_iload hx hb dL_law_580 (lv_at hl 1 rfl) ?_
  refine lv_icmp_eq (tgt := 587) hx hb dL_law_582 (by decide) (fun c16 => ?_) (fun c16 => ?_)
  · replace h := fT c16 h
    refine lv_iload hx hb dL_law_587 (lv_at hl 1 rfl) ?_
    refine lv_if_ne (tgt := 604) hx hb dL_law_589 (by decide) (fun c17 => ?_) (fun c17 => ?_)
    · replace h := fF c17 h
      refine lv_goto (tgt := 2109) hx hb dL_law_604 (by decide) ?_
      cases h
      exact kk _ _ _ hP hD hS (lv_sub hl [2, 3, 4, 5, 6] rfl)
    · replace h := fT c17 h
      refine lv_aload_n hx hb dL_law_592 rfl (lv_at hl 5 rfl) ?_
      refine lv_iconst (v := (0 : Int32)) hx hb dL_law_593 (by decide) ?_
      refine va_lald hx hb hK hP 21 1 rfl rfl (show ¬ ((0 : Int32) < 0 ∨ 1 ≤ (0 : Int32).toNatClampNeg) from by decide) dL_law_594 ?_
      refine lv_iload hx hb dL_law_595 (lv_at hl 0 rfl) ?_
      refine lv_i2l (v := r8.toInt64) hx hb dL_law_597 rfl ?_
      refine lx_eq (tgt := 604) hx hb dL_law_598 dL_law_599 (by decide) (fun c18 => ?_) (fun c18 => ?_)
      · replace h := fT c18 h
        refine lv_goto (tgt := 2109) hx hb dL_law_604 (by decide) ?_
        cases h
        exact kk _ _ _ hP hD hS (lv_sub hl [2, 3, 4, 5, 6] rfl)
      · replace h := fF c18 h
        refine lv_iconst (v := (0 : Int32)) hx hb dL_law_602 (by decide) ?_
        exact fN h
  · replace h := fF c16 h
    refine lv_iconst (v := (0 : Int32)) hx hb dL_law_585 (by decide) ?_
    exact fN h
set_option maxHeartbeats 0 in
set_option maxRecDepth 100000 in
theorem cs_6 {p : Program} {l : Launch} {e : Env} {s : State} {m : MethodId} {args : Array Value} {below : List Frame} {meth : Method} {c : Code} {Q : State → Prop} {D : va_G} {o w : Nat → Nat} {v : Nat} {y : Nat → ClassId} {A : Nat → Prop} {b L : Nat} {xs : Nat → Int32} {x4 a1 a2 a3 : Int32} (hfl : l.stackTraces = false) (hx : p.tables.exec = Jvm.exec) (hb : c.code = code) (hml : c.maxLocals = 7) (hown : s.vm.findClass RL = some m.cls) (hts : ∀ w ∈ wsL_law, w.before args s = true) (hA : ∀ q, s.heap.size ≤ q → A q) (hK : va_K D vwCl (TY y) s) (hEX : EXC A s s.heap) (hX : va_X b L xs s s.heap) (hbl : b < s.heap.size) (hbA : ¬ A b) (hi1 : vp_in (x4 + (1 : Int32)) L) (hi2 : vp_in (x4 + (2 : Int32)) L) (hi3 : vp_in (x4 + (3 : Int32)) L) (ha1 : xs (x4 + (1 : Int32)).toNatClampNeg = a1) (ha2 : xs (x4 + (2 : Int32)).toNatClampNeg = a2) (ha3 : xs (x4 + (3 : Int32)).toNatClampNeg = a3) (pl : Nat → Int64) (te : Nat → Int32) (be : Nat → Int64) (cn : Int32) (ch : Nat → Int32) (le : Int32) (rE : Int32) (rL : Int32) (rP : Int32) (rF : Int32) (rS : Int32) (rD : Int32) (hs : Nat → Int64) (ho : Int32) (hc : Int32) (sl : Nat → Int64) (fi : Nat → Int32) (th : Int32) (ms : Nat → Int32) (mst : Nat → Int32) (smn : Int32) (msl : Nat → Int32) (mhs : Nat → Int32) (mtx : Nat → Int32) (mle : Int32) (mat : Int32) (mwl : Int32) (mrd : Nat → Int32) (mrm : Int32) (mtp : Int64) (mbt : Int64) (mtm : Nat → Int32) (mtn : Int32) (mnt : Int32) (mnb : Int32) (mun : Nat → Int32) (mum : Int32) (mau : Int32) (ou : Nat → Int64) (pl' : Nat → Int64) (hs' : Nat → Int64) (ho' : Int32) (hc' : Int32) (th' : Int32) (ms' : Nat → Int32) (mst' : Nat → Int32) (smn' : Int32) (mtp' : Int64) (mbt' : Int64) (ou' : Nat → Int64) (h : G_6 pl hs ho hc th ms mst smn mtp mbt ou a1 a2 a3 = some (pl', hs', ho', hc', th', ms', mst', smn', mtp', mbt', ou')) {H : Heap} {locs : List Loc} {ls : Array Slot} {cells slots : Nat} (hP : va_P D vwCl (LW o w v y pl te be cn ch le rE rL rP rF rS rD hs ho hc sl fi th ms mst smn msl mhs mtx mle mat mwl mrd mrm mtp mbt mtm mtn mnt mnb mun mum mau ou) H) (hD : va_D A (LW o w v y pl te be cn ch le rE rL rP rF rS rD hs ho hc sl fi th ms mst smn msl mhs mtx mle mat mwl mrd mrm mtp mbt mtm mtn mnt mnb mun mum mau ou)) (hS : va_S A s.heap H locs) (hl : lv_has ls 7 [(0, .ref b), (1, .ref (o 0)), (2, .ref (w 0)), (3, .ref v), (4, .int x4)]) (bcl : cells + 1 ≤ 1063) (bsl : slots + 6 ≤ 8907)
    (kk : ∀ (H : Heap) (locs : List Loc) (ls : Array Slot), va_P D vwCl (LW o w v y pl' te be cn ch le rE rL rP rF rS rD hs' ho' hc' sl fi th' ms' mst' smn' msl mhs mtx mle mat mwl mrd mrm mtp' mbt' mtm mtn mnt mnb mun mum mau ou') H → va_D A (LW o w v y pl' te be cn ch le rE rL rP rF rS rD hs' ho' hc' sl fi th' ms' mst' smn' msl mhs mtx mle mat mwl mrd mrm mtp' mbt' mtm mtn mnt mnb mun mum mau ou') → va_S A s.heap H locs → lv_has ls 7 [(0, .ref b), (1, .ref (o 0)), (2, .ref (w 0)), (3, .ref v), (4, .int x4)] → W p l e room_1 s m args below meth c H locs (cells + 1) (slots + 6) Q (F0 m 2109 ls [])) : W p l e room_1 s m args below meth c H locs cells slots Q (F0 m 607 ls []) := by
  unfold G_6 at h
  refine lv_aload_n hx hb dL_law_607 rfl (lv_at hl 1 rfl) ?_
  refine lv_aload_n hx hb dL_law_608 rfl (lv_at hl 0 rfl) ?_
  refine lv_iload hx hb dL_law_609 (lv_at hl 4 rfl) ?_
  refine lv_iconst (v := (1 : Int32)) hx hb dL_law_611 (by decide) ?_
  refine lv_iadd hx hb dL_law_612 ?_
  refine va_sld hx hb hX hbl hbA hS hi1 dL_law_613 ?_
  refine eqi ha1 ?_
  refine lv_aload_n hx hb dL_law_614 rfl (lv_at hl 0 rfl) ?_
  refine lv_iload hx hb dL_law_615 (lv_at hl 4 rfl) ?_
  refine lv_iconst (v := (2 : Int32)) hx hb dL_law_617 (by decide) ?_
  refine lv_iadd hx hb dL_law_618 ?_
  refine va_sld hx hb hX hbl hbA hS hi2 dL_law_619 ?_
  refine eqi ha2 ?_
  refine lv_aload_n hx hb dL_law_620 rfl (lv_at hl 3 rfl) ?_
  obtain ⟨r1, pl2, hs3, ho4, hc5, ou6, g7, h⟩ := fB6 h
  refine cW_i (As := [.ref (o 0), .int a1, .int a2, .ref v]) (rest := []) (ws1 := (LW o w v y pl2 te be cn ch le rE rL rP rF rS rD hs3 ho4 hc5 sl fi th ms mst smn msl mhs mtx mle mat mwl mrd mrm mtp mbt mtm mtn mnt mnb mun mum mau ou6)) ⟨hx, hb, hml, hown, hts⟩ (c_L_share l hfl D o v y _ pl te be cn ch le rE rL rP rF rS rD hs ho hc sl fi ou a1 a2 r1 pl2 hs3 ho4 hc5 ou6 g7) (vx_cwSW 4 hts gL_law_L_share rfl rfl rfl hd_L_share ⟨Nat.le_of_ble_eq_true rfl, Nat.le_of_ble_eq_true rfl⟩) hK hP hD hS hA hEX [0, 1, 2, 3, 4, 5, 6, 7, 8, 9, 10, 11, 21] [12, 13, 14, 15, 16, 17, 18, 19, 20] [9, 10, 11, 12, 13, 14, 15, 16, 17, 18, 19, 20, 0, 1, 2, 3, 4, 5, 6, 7, 8, 21] rfl rfl rfl (by decide) rfl rfl rfl rfl hl.1 rfl (Nat.le_of_ble_eq_true rfl) dL_law_621 ⟨bcl, bsl⟩ (fun H locs hP hD hS => ?_)
  refine lv_istore (lv' := [(5, .int r1), (0, .ref b), (1, .ref (o 0)), (2, .ref (w 0)), (3, .ref v), (4, .int x4)]) hx hb dL_law_624 hl (by decide) rfl (fun ls hl => ?_)
  refine lv_aload_n hx hb dL_law_626 rfl (lv_at hl 3 rfl) ?_
  refine lv_aload_n hx hb dL_law_627 rfl (lv_at hl 1 rfl) ?_
  refine lv_iload hx hb dL_law_628 (lv_at hl 5 rfl) ?_
  refine lv_iconst (v := (1 : Int32)) hx hb dL_law_630 (by decide) ?_
  refine lv_iadd hx hb dL_law_631 ?_
  refine va_sld hx hb hX hbl hbA hS hi1 dL_law_632 ?_
  refine eqi ha1 ?_
  refine lv_aload_n hx hb dL_law_633 rfl (lv_at hl 1 rfl) ?_
  refine lv_iload hx hb dL_law_634 (lv_at hl 5 rfl) ?_
  refine lv_iconst (v := (2 : Int32)) hx hb dL_law_636 (by decide) ?_
  refine lv_iadd hx hb dL_law_637 ?_
  refine va_sld hx hb hX hbl hbA hS hi2 dL_law_638 ?_
  refine eqi ha2 ?_
  obtain ⟨r8, th9, ms10, mst11, smn12, mtp13, mbt14, g15, h⟩ := fB7 h
  refine cV_i (As := [.int a1, .int a2]) (rest := []) (ws1 := (LW o w v y pl2 te be cn ch le rE rL rP rF rS rD hs3 ho4 hc5 sl fi th9 ms10 mst11 smn12 msl mhs mtx mle mat mwl mrd mrm mtp13 mbt14 mtm mtn mnt mnb mun mum mau ou6)) ⟨hx, hb, hml, hown, hts⟩ (c_X7_share l D w y _ th ms mst smn msl mhs mtx mle mat mwl mrd mrm mtp mbt mtm mtn mnt mnb mun mum mau a1 a2 r8 th9 ms10 mst11 smn12 mtp13 mbt14 g15) (cwV 2 hts gL_law_X7_share rfl rfl rfl hd_X7_share ⟨Nat.le_of_ble_eq_true rfl, Nat.le_of_ble_eq_true rfl⟩) hK hP hD hS hA [12, 13, 14, 15, 16, 17, 18, 19, 20] [0, 1, 2, 3, 4, 5, 6, 7, 8, 9, 10, 11, 21] [0, 1, 2, 3, 4, 5, 6, 7, 8, 9, 10, 11, 13, 14, 15, 16, 17, 18, 19, 20, 21, 12] rfl rfl rfl (by decide) rfl rfl rfl 0 (ci := 5) rfl rfl rfl hl.1 rfl (Nat.le_of_ble_eq_true rfl) dL_law_639 ⟨bcl, bsl⟩ (fun H locs hP hD hS => ?_)
  refine lv_istore (lv' := [(6, .int r8), (5, .int r1), (0, .ref b), (1, .ref (o 0)), (2, .ref (w 0)), (3, .ref v), (4, .int x4)]) hx hb dL_law_642 hl (by decide) rfl (fun ls hl => ?_)
  refine lv_aload_n hx hb dL_law_644 rfl (lv_at hl 4 rfl) ?_
  refine cV_i (As := []) (rest := []) (ws1 := (LW o w v y pl2 te be cn ch le rE rL rP rF rS rD hs3 ho4 hc5 sl fi th9 ms10 mst11 smn12 msl mhs mtx mle mat mwl mrd mrm mtp13 mbt14 mtm mtn mnt mnb mun mum mau ou6)) ⟨hx, hb, hml, hown, hts⟩ (c_X7_thrown l D w y _ th9 ms10 mst11 smn12 msl mhs mtx mle mat mwl mrd mrm mtp13 mbt14 mtm mtn mnt mnb mun mum mau ) (cwV 0 hts gL_law_X7_thrown rfl rfl rfl hd_X7_thrown ⟨Nat.le_of_ble_eq_true rfl, Nat.le_of_ble_eq_true rfl⟩) hK hP hD hS hA [12, 13, 14, 15, 16, 17, 18, 19, 20] [0, 1, 2, 3, 4, 5, 6, 7, 8, 9, 10, 11, 21] [0, 1, 2, 3, 4, 5, 6, 7, 8, 9, 10, 11, 13, 14, 15, 16, 17, 18, 19, 20, 21, 12] rfl rfl rfl (by decide) rfl rfl rfl 0 (ci := 5) rfl rfl rfl hl.1 rfl (Nat.le_of_ble_eq_true rfl) dL_law_645 ⟨bcl, bsl⟩ (fun H locs hP hD hS => ?_)
  refine lv_iload hx hb dL_law_648 (lv_at hl 1 rfl) ?_
  refine lv_icmp_eq (tgt := 655) hx hb dL_law_650 (by decide) (fun c16 => ?_) (fun c16 => ?_)
  · replace h := fT c16 h
    refine lv_iload hx hb dL_law_655 (lv_at hl 1 rfl) ?_
    refine lv_if_ne (tgt := 672) hx hb dL_law_657 (by decide) (fun c17 => ?_) (fun c17 => ?_)
    · replace h := fF c17 h
      refine lv_goto (tgt := 2109) hx hb dL_law_672 (by decide) ?_
      cases h
      exact kk _ _ _ hP hD hS (lv_sub hl [2, 3, 4, 5, 6] rfl)
    · replace h := fT c17 h
      refine lv_aload_n hx hb dL_law_660 rfl (lv_at hl 5 rfl) ?_
      refine lv_iconst (v := (0 : Int32)) hx hb dL_law_661 (by decide) ?_
      refine va_lald hx hb hK hP 21 1 rfl rfl (show ¬ ((0 : Int32) < 0 ∨ 1 ≤ (0 : Int32).toNatClampNeg) from by decide) dL_law_662 ?_
      refine lv_iload hx hb dL_law_663 (lv_at hl 0 rfl) ?_
      refine lv_i2l (v := r8.toInt64) hx hb dL_law_665 rfl ?_
      refine lx_eq (tgt := 672) hx hb dL_law_666 dL_law_667 (by decide) (fun c18 => ?_) (fun c18 => ?_)
      · replace h := fT c18 h
        refine lv_goto (tgt := 2109) hx hb dL_law_672 (by decide) ?_
        cases h
        exact kk _ _ _ hP hD hS (lv_sub hl [2, 3, 4, 5, 6] rfl)
      · replace h := fF c18 h
        refine lv_iconst (v := (0 : Int32)) hx hb dL_law_670 (by decide) ?_
        exact fN h
  · replace h := fF c16 h
    refine lv_iconst (v := (0 : Int32)) hx hb dL_law_653 (by decide) ?_
    exact fN h
set_option maxHeartbeats 0 in
set_option maxRecDepth 100000 in
theorem cs_7 {p : Program} {l : Launch} {e : Env} {s : State} {m : MethodId} {args : Array Value} {below : List Frame} {meth : Method} {c : Code} {Q : State → Prop} {D : va_G} {o w : Nat → Nat} {v : Nat} {y : Nat → ClassId} {A : Nat → Prop} {b L : Nat} {xs : Nat → Int32} {x4 a1 a2 a3 : Int32} (hfl : l.stackTraces = false) (hx : p.tables.exec = Jvm.exec) (hb : c.code = code) (hml : c.maxLocals = 7) (hown : s.vm.findClass RL = some m.cls) (hts : ∀ w ∈ wsL_law, w.before args s = true) (hA : ∀ q, s.heap.size ≤ q → A q) (hK : va_K D vwCl (TY y) s) (hEX : EXC A s s.heap) (hX : va_X b L xs s s.heap) (hbl : b < s.heap.size) (hbA : ¬ A b) (hi1 : vp_in (x4 + (1 : Int32)) L) (hi2 : vp_in (x4 + (2 : Int32)) L) (hi3 : vp_in (x4 + (3 : Int32)) L) (ha1 : xs (x4 + (1 : Int32)).toNatClampNeg = a1) (ha2 : xs (x4 + (2 : Int32)).toNatClampNeg = a2) (ha3 : xs (x4 + (3 : Int32)).toNatClampNeg = a3) (pl : Nat → Int64) (te : Nat → Int32) (be : Nat → Int64) (cn : Int32) (ch : Nat → Int32) (le : Int32) (rE : Int32) (rL : Int32) (rP : Int32) (rF : Int32) (rS : Int32) (rD : Int32) (hs : Nat → Int64) (ho : Int32) (hc : Int32) (sl : Nat → Int64) (fi : Nat → Int32) (th : Int32) (ms : Nat → Int32) (mst : Nat → Int32) (smn : Int32) (msl : Nat → Int32) (mhs : Nat → Int32) (mtx : Nat → Int32) (mle : Int32) (mat : Int32) (mwl : Int32) (mrd : Nat → Int32) (mrm : Int32) (mtp : Int64) (mbt : Int64) (mtm : Nat → Int32) (mtn : Int32) (mnt : Int32) (mnb : Int32) (mun : Nat → Int32) (mum : Int32) (mau : Int32) (ou : Nat → Int64) (pl' : Nat → Int64) (te' : Nat → Int32) (be' : Nat → Int64) (cn' : Int32) (hs' : Nat → Int64) (ho' : Int32) (hc' : Int32) (th' : Int32) (ms' : Nat → Int32) (mst' : Nat → Int32) (smn' : Int32) (mtp' : Int64) (mbt' : Int64) (mnt' : Int32) (mnb' : Int32) (ou' : Nat → Int64) (h : G_7 pl te be cn hs ho hc th ms mst smn mtp mbt mnt mnb ou a1 a2 a3 = some (pl', te', be', cn', hs', ho', hc', th', ms', mst', smn', mtp', mbt', mnt', mnb', ou')) {H : Heap} {locs : List Loc} {ls : Array Slot} {cells slots : Nat} (hP : va_P D vwCl (LW o w v y pl te be cn ch le rE rL rP rF rS rD hs ho hc sl fi th ms mst smn msl mhs mtx mle mat mwl mrd mrm mtp mbt mtm mtn mnt mnb mun mum mau ou) H) (hD : va_D A (LW o w v y pl te be cn ch le rE rL rP rF rS rD hs ho hc sl fi th ms mst smn msl mhs mtx mle mat mwl mrd mrm mtp mbt mtm mtn mnt mnb mun mum mau ou)) (hS : va_S A s.heap H locs) (hl : lv_has ls 7 [(0, .ref b), (1, .ref (o 0)), (2, .ref (w 0)), (3, .ref v), (4, .int x4)]) (bcl : cells + 1 ≤ 1063) (bsl : slots + 6 ≤ 8907)
    (kk : ∀ (H : Heap) (locs : List Loc) (ls : Array Slot), va_P D vwCl (LW o w v y pl' te' be' cn' ch le rE rL rP rF rS rD hs' ho' hc' sl fi th' ms' mst' smn' msl mhs mtx mle mat mwl mrd mrm mtp' mbt' mtm mtn mnt' mnb' mun mum mau ou') H → va_D A (LW o w v y pl' te' be' cn' ch le rE rL rP rF rS rD hs' ho' hc' sl fi th' ms' mst' smn' msl mhs mtx mle mat mwl mrd mrm mtp' mbt' mtm mtn mnt' mnb' mun mum mau ou') → va_S A s.heap H locs → lv_has ls 7 [(0, .ref b), (1, .ref (o 0)), (2, .ref (w 0)), (3, .ref v), (4, .int x4)] → W p l e room_1 s m args below meth c H locs (cells + 1) (slots + 6) Q (F0 m 2109 ls [])) : W p l e room_1 s m args below meth c H locs cells slots Q (F0 m 675 ls []) := by
  unfold G_7 at h
  refine lv_aload_n hx hb dL_law_675 rfl (lv_at hl 1 rfl) ?_
  refine lv_aload_n hx hb dL_law_676 rfl (lv_at hl 0 rfl) ?_
  refine lv_iload hx hb dL_law_677 (lv_at hl 4 rfl) ?_
  refine lv_iconst (v := (1 : Int32)) hx hb dL_law_679 (by decide) ?_
  refine lv_iadd hx hb dL_law_680 ?_
  refine va_sld hx hb hX hbl hbA hS hi1 dL_law_681 ?_
  refine eqi ha1 ?_
  refine lv_aload_n hx hb dL_law_682 rfl (lv_at hl 0 rfl) ?_
  refine lv_iload hx hb dL_law_683 (lv_at hl 4 rfl) ?_
  refine lv_iconst (v := (2 : Int32)) hx hb dL_law_685 (by decide) ?_
  refine lv_iadd hx hb dL_law_686 ?_
  refine va_sld hx hb hX hbl hbA hS hi2 dL_law_687 ?_
  refine eqi ha2 ?_
  refine lv_aload_n hx hb dL_law_688 rfl (lv_at hl 3 rfl) ?_
  obtain ⟨r1, pl2, te3, be4, cn5, hs6, ho7, hc8, ou9, g10, h⟩ := fB9 h
  refine cW_i (As := [.ref (o 0), .int a1, .int a2, .ref v]) (rest := []) (ws1 := (LW o w v y pl2 te3 be4 cn5 ch le rE rL rP rF rS rD hs6 ho7 hc8 sl fi th ms mst smn msl mhs mtx mle mat mwl mrd mrm mtp mbt mtm mtn mnt mnb mun mum mau ou9)) ⟨hx, hb, hml, hown, hts⟩ (c_L_roundTo l hfl D o v y _ pl te be cn ch le rE rL rP rF rS rD hs ho hc sl fi ou a1 a2 r1 pl2 te3 be4 cn5 hs6 ho7 hc8 ou9 g10) (vx_cwSW 4 hts gL_law_L_roundTo rfl rfl rfl hd_L_roundTo ⟨Nat.le_of_ble_eq_true rfl, Nat.le_of_ble_eq_true rfl⟩) hK hP hD hS hA hEX [0, 1, 2, 3, 4, 5, 6, 7, 8, 9, 10, 11, 21] [12, 13, 14, 15, 16, 17, 18, 19, 20] [9, 10, 11, 12, 13, 14, 15, 16, 17, 18, 19, 20, 0, 1, 2, 3, 4, 5, 6, 7, 8, 21] rfl rfl rfl (by decide) rfl rfl rfl rfl hl.1 rfl (Nat.le_of_ble_eq_true rfl) dL_law_689 ⟨bcl, bsl⟩ (fun H locs hP hD hS => ?_)
  refine lv_istore (lv' := [(5, .int r1), (0, .ref b), (1, .ref (o 0)), (2, .ref (w 0)), (3, .ref v), (4, .int x4)]) hx hb dL_law_692 hl (by decide) rfl (fun ls hl => ?_)
  refine lv_aload_n hx hb dL_law_694 rfl (lv_at hl 3 rfl) ?_
  refine lv_aload_n hx hb dL_law_695 rfl (lv_at hl 1 rfl) ?_
  refine lv_iload hx hb dL_law_696 (lv_at hl 5 rfl) ?_
  refine lv_iconst (v := (1 : Int32)) hx hb dL_law_698 (by decide) ?_
  refine lv_iadd hx hb dL_law_699 ?_
  refine va_sld hx hb hX hbl hbA hS hi1 dL_law_700 ?_
  refine eqi ha1 ?_
  refine lv_aload_n hx hb dL_law_701 rfl (lv_at hl 1 rfl) ?_
  refine lv_iload hx hb dL_law_702 (lv_at hl 5 rfl) ?_
  refine lv_iconst (v := (2 : Int32)) hx hb dL_law_704 (by decide) ?_
  refine lv_iadd hx hb dL_law_705 ?_
  refine va_sld hx hb hX hbl hbA hS hi2 dL_law_706 ?_
  refine eqi ha2 ?_
  obtain ⟨r11, th12, ms13, mst14, smn15, mtp16, mbt17, mnt18, mnb19, g20, h⟩ := fB9 h
  refine cV_i (As := [.int a1, .int a2]) (rest := []) (ws1 := (LW o w v y pl2 te3 be4 cn5 ch le rE rL rP rF rS rD hs6 ho7 hc8 sl fi th12 ms13 mst14 smn15 msl mhs mtx mle mat mwl mrd mrm mtp16 mbt17 mtm mtn mnt18 mnb19 mun mum mau ou9)) ⟨hx, hb, hml, hown, hts⟩ (c_X7_roundTo l D w y _ th ms mst smn msl mhs mtx mle mat mwl mrd mrm mtp mbt mtm mtn mnt mnb mun mum mau a1 a2 r11 th12 ms13 mst14 smn15 mtp16 mbt17 mnt18 mnb19 g20) (cwV 2 hts gL_law_X7_roundTo rfl rfl rfl hd_X7_roundTo ⟨Nat.le_of_ble_eq_true rfl, Nat.le_of_ble_eq_true rfl⟩) hK hP hD hS hA [12, 13, 14, 15, 16, 17, 18, 19, 20] [0, 1, 2, 3, 4, 5, 6, 7, 8, 9, 10, 11, 21] [0, 1, 2, 3, 4, 5, 6, 7, 8, 9, 10, 11, 13, 14, 15, 16, 17, 18, 19, 20, 21, 12] rfl rfl rfl (by decide) rfl rfl rfl 0 (ci := 5) rfl rfl rfl hl.1 rfl (Nat.le_of_ble_eq_true rfl) dL_law_707 ⟨bcl, bsl⟩ (fun H locs hP hD hS => ?_)
  refine lv_istore (lv' := [(6, .int r11), (5, .int r1), (0, .ref b), (1, .ref (o 0)), (2, .ref (w 0)), (3, .ref v), (4, .int x4)]) hx hb dL_law_710 hl (by decide) rfl (fun ls hl => ?_)
  refine lv_aload_n hx hb dL_law_712 rfl (lv_at hl 4 rfl) ?_
  refine cV_i (As := []) (rest := []) (ws1 := (LW o w v y pl2 te3 be4 cn5 ch le rE rL rP rF rS rD hs6 ho7 hc8 sl fi th12 ms13 mst14 smn15 msl mhs mtx mle mat mwl mrd mrm mtp16 mbt17 mtm mtn mnt18 mnb19 mun mum mau ou9)) ⟨hx, hb, hml, hown, hts⟩ (c_X7_thrown l D w y _ th12 ms13 mst14 smn15 msl mhs mtx mle mat mwl mrd mrm mtp16 mbt17 mtm mtn mnt18 mnb19 mun mum mau ) (cwV 0 hts gL_law_X7_thrown rfl rfl rfl hd_X7_thrown ⟨Nat.le_of_ble_eq_true rfl, Nat.le_of_ble_eq_true rfl⟩) hK hP hD hS hA [12, 13, 14, 15, 16, 17, 18, 19, 20] [0, 1, 2, 3, 4, 5, 6, 7, 8, 9, 10, 11, 21] [0, 1, 2, 3, 4, 5, 6, 7, 8, 9, 10, 11, 13, 14, 15, 16, 17, 18, 19, 20, 21, 12] rfl rfl rfl (by decide) rfl rfl rfl 0 (ci := 5) rfl rfl rfl hl.1 rfl (Nat.le_of_ble_eq_true rfl) dL_law_713 ⟨bcl, bsl⟩ (fun H locs hP hD hS => ?_)
  refine lv_iload hx hb dL_law_716 (lv_at hl 1 rfl) ?_
  refine lv_icmp_eq (tgt := 723) hx hb dL_law_718 (by decide) (fun c21 => ?_) (fun c21 => ?_)
  · replace h := fT c21 h
    refine lv_iload hx hb dL_law_723 (lv_at hl 1 rfl) ?_
    refine lv_if_ne (tgt := 740) hx hb dL_law_725 (by decide) (fun c22 => ?_) (fun c22 => ?_)
    · replace h := fF c22 h
      refine lv_goto (tgt := 2109) hx hb dL_law_740 (by decide) ?_
      cases h
      exact kk _ _ _ hP hD hS (lv_sub hl [2, 3, 4, 5, 6] rfl)
    · replace h := fT c22 h
      refine lv_aload_n hx hb dL_law_728 rfl (lv_at hl 5 rfl) ?_
      refine lv_iconst (v := (0 : Int32)) hx hb dL_law_729 (by decide) ?_
      refine va_lald hx hb hK hP 21 1 rfl rfl (show ¬ ((0 : Int32) < 0 ∨ 1 ≤ (0 : Int32).toNatClampNeg) from by decide) dL_law_730 ?_
      refine lv_iload hx hb dL_law_731 (lv_at hl 0 rfl) ?_
      refine lv_i2l (v := r11.toInt64) hx hb dL_law_733 rfl ?_
      refine lx_eq (tgt := 740) hx hb dL_law_734 dL_law_735 (by decide) (fun c23 => ?_) (fun c23 => ?_)
      · replace h := fT c23 h
        refine lv_goto (tgt := 2109) hx hb dL_law_740 (by decide) ?_
        cases h
        exact kk _ _ _ hP hD hS (lv_sub hl [2, 3, 4, 5, 6] rfl)
      · replace h := fF c23 h
        refine lv_iconst (v := (0 : Int32)) hx hb dL_law_738 (by decide) ?_
        exact fN h
  · replace h := fF c21 h
    refine lv_iconst (v := (0 : Int32)) hx hb dL_law_721 (by decide) ?_
    exact fN h
set_option maxHeartbeats 0 in
set_option maxRecDepth 100000 in
theorem cs_8 {p : Program} {l : Launch} {e : Env} {s : State} {m : MethodId} {args : Array Value} {below : List Frame} {meth : Method} {c : Code} {Q : State → Prop} {D : va_G} {o w : Nat → Nat} {v : Nat} {y : Nat → ClassId} {A : Nat → Prop} {b L : Nat} {xs : Nat → Int32} {x4 a1 a2 a3 : Int32} (hfl : l.stackTraces = false) (hx : p.tables.exec = Jvm.exec) (hb : c.code = code) (hml : c.maxLocals = 7) (hown : s.vm.findClass RL = some m.cls) (hts : ∀ w ∈ wsL_law, w.before args s = true) (hA : ∀ q, s.heap.size ≤ q → A q) (hK : va_K D vwCl (TY y) s) (hEX : EXC A s s.heap) (hX : va_X b L xs s s.heap) (hbl : b < s.heap.size) (hbA : ¬ A b) (hi1 : vp_in (x4 + (1 : Int32)) L) (hi2 : vp_in (x4 + (2 : Int32)) L) (hi3 : vp_in (x4 + (3 : Int32)) L) (ha1 : xs (x4 + (1 : Int32)).toNatClampNeg = a1) (ha2 : xs (x4 + (2 : Int32)).toNatClampNeg = a2) (ha3 : xs (x4 + (3 : Int32)).toNatClampNeg = a3) (pl : Nat → Int64) (te : Nat → Int32) (be : Nat → Int64) (cn : Int32) (ch : Nat → Int32) (le : Int32) (rE : Int32) (rL : Int32) (rP : Int32) (rF : Int32) (rS : Int32) (rD : Int32) (hs : Nat → Int64) (ho : Int32) (hc : Int32) (sl : Nat → Int64) (fi : Nat → Int32) (th : Int32) (ms : Nat → Int32) (mst : Nat → Int32) (smn : Int32) (msl : Nat → Int32) (mhs : Nat → Int32) (mtx : Nat → Int32) (mle : Int32) (mat : Int32) (mwl : Int32) (mrd : Nat → Int32) (mrm : Int32) (mtp : Int64) (mbt : Int64) (mtm : Nat → Int32) (mtn : Int32) (mnt : Int32) (mnb : Int32) (mun : Nat → Int32) (mum : Int32) (mau : Int32) (ou : Nat → Int64) (th' : Int32) (ou' : Nat → Int64) (h : G_8 pl th ms ou a1 a2 a3 = some (th', ou')) {H : Heap} {locs : List Loc} {ls : Array Slot} {cells slots : Nat} (hP : va_P D vwCl (LW o w v y pl te be cn ch le rE rL rP rF rS rD hs ho hc sl fi th ms mst smn msl mhs mtx mle mat mwl mrd mrm mtp mbt mtm mtn mnt mnb mun mum mau ou) H) (hD : va_D A (LW o w v y pl te be cn ch le rE rL rP rF rS rD hs ho hc sl fi th ms mst smn msl mhs mtx mle mat mwl mrd mrm mtp mbt mtm mtn mnt mnb mun mum mau ou)) (hS : va_S A s.heap H locs) (hl : lv_has ls 7 [(0, .ref b), (1, .ref (o 0)), (2, .ref (w 0)), (3, .ref v), (4, .int x4)]) (bcl : cells + 1 ≤ 1063) (bsl : slots + 6 ≤ 8907)
    (kk : ∀ (H : Heap) (locs : List Loc) (ls : Array Slot), va_P D vwCl (LW o w v y pl te be cn ch le rE rL rP rF rS rD hs ho hc sl fi th' ms mst smn msl mhs mtx mle mat mwl mrd mrm mtp mbt mtm mtn mnt mnb mun mum mau ou') H → va_D A (LW o w v y pl te be cn ch le rE rL rP rF rS rD hs ho hc sl fi th' ms mst smn msl mhs mtx mle mat mwl mrd mrm mtp mbt mtm mtn mnt mnb mun mum mau ou') → va_S A s.heap H locs → lv_has ls 7 [(0, .ref b), (1, .ref (o 0)), (2, .ref (w 0)), (3, .ref v), (4, .int x4)] → W p l e room_1 s m args below meth c H locs (cells + 1) (slots + 6) Q (F0 m 2109 ls [])) : W p l e room_1 s m args below meth c H locs cells slots Q (F0 m 743 ls []) := by
  unfold G_8 at h
  refine lv_aload_n hx hb dL_law_743 rfl (lv_at hl 1 rfl) ?_
  refine lv_aload_n hx hb dL_law_744 rfl (lv_at hl 0 rfl) ?_
  refine lv_iload hx hb dL_law_745 (lv_at hl 4 rfl) ?_
  refine lv_iconst (v := (1 : Int32)) hx hb dL_law_747 (by decide) ?_
  refine lv_iadd hx hb dL_law_748 ?_
  refine va_sld hx hb hX hbl hbA hS hi1 dL_law_749 ?_
  refine eqi ha1 ?_
  refine lv_aload_n hx hb dL_law_750 rfl (lv_at hl 3 rfl) ?_
  obtain ⟨r1, ou2, g3, h⟩ := fB2 h
  refine cW_i (As := [.ref (o 0), .int a1, .ref v]) (rest := []) (ws1 := (LW o w v y pl te be cn ch le rE rL rP rF rS rD hs ho hc sl fi th ms mst smn msl mhs mtx mle mat mwl mrd mrm mtp mbt mtm mtn mnt mnb mun mum mau ou2)) ⟨hx, hb, hml, hown, hts⟩ (c_L_numeratorOf l hfl D o v y _ pl te be cn ch le rE rL rP rF rS rD hs ho hc sl fi ou a1 r1 ou2 g3) (vx_cwSW 3 hts gL_law_L_numeratorOf rfl rfl rfl hd_L_numeratorOf ⟨Nat.le_of_ble_eq_true rfl, Nat.le_of_ble_eq_true rfl⟩) hK hP hD hS hA hEX [0, 1, 2, 3, 4, 5, 6, 7, 8, 9, 10, 11, 21] [12, 13, 14, 15, 16, 17, 18, 19, 20] [9, 10, 11, 12, 13, 14, 15, 16, 17, 18, 19, 20, 0, 1, 2, 3, 4, 5, 6, 7, 8, 21] rfl rfl rfl (by decide) rfl rfl rfl rfl hl.1 rfl (Nat.le_of_ble_eq_true rfl) dL_law_751 ⟨bcl, bsl⟩ (fun H locs hP hD hS => ?_)
  refine lv_istore (lv' := [(5, .int r1), (0, .ref b), (1, .ref (o 0)), (2, .ref (w 0)), (3, .ref v), (4, .int x4)]) hx hb dL_law_754 hl (by decide) rfl (fun ls hl => ?_)
  refine lv_aload_n hx hb dL_law_756 rfl (lv_at hl 3 rfl) ?_
  refine lv_aload_n hx hb dL_law_757 rfl (lv_at hl 1 rfl) ?_
  refine lv_iload hx hb dL_law_758 (lv_at hl 5 rfl) ?_
  refine lv_iconst (v := (1 : Int32)) hx hb dL_law_760 (by decide) ?_
  refine lv_iadd hx hb dL_law_761 ?_
  refine va_sld hx hb hX hbl hbA hS hi1 dL_law_762 ?_
  refine eqi ha1 ?_
  obtain ⟨r4, th5, g6, h⟩ := fB2 h
  refine cV_i (As := [.int a1]) (rest := []) (ws1 := (LW o w v y pl te be cn ch le rE rL rP rF rS rD hs ho hc sl fi th5 ms mst smn msl mhs mtx mle mat mwl mrd mrm mtp mbt mtm mtn mnt mnb mun mum mau ou2)) ⟨hx, hb, hml, hown, hts⟩ (c_X7_numeratorOf l D w y _ th ms mst smn msl mhs mtx mle mat mwl mrd mrm mtp mbt mtm mtn mnt mnb mun mum mau a1 r4 th5 g6) (cwV 1 hts gL_law_X7_numeratorOf rfl rfl rfl hd_X7_numeratorOf ⟨Nat.le_of_ble_eq_true rfl, Nat.le_of_ble_eq_true rfl⟩) hK hP hD hS hA [12, 13, 14, 15, 16, 17, 18, 19, 20] [0, 1, 2, 3, 4, 5, 6, 7, 8, 9, 10, 11, 21] [0, 1, 2, 3, 4, 5, 6, 7, 8, 9, 10, 11, 13, 14, 15, 16, 17, 18, 19, 20, 21, 12] rfl rfl rfl (by decide) rfl rfl rfl 0 (ci := 5) rfl rfl rfl hl.1 rfl (Nat.le_of_ble_eq_true rfl) dL_law_763 ⟨bcl, bsl⟩ (fun H locs hP hD hS => ?_)
  refine lv_istore (lv' := [(6, .int r4), (5, .int r1), (0, .ref b), (1, .ref (o 0)), (2, .ref (w 0)), (3, .ref v), (4, .int x4)]) hx hb dL_law_766 hl (by decide) rfl (fun ls hl => ?_)
  refine lv_aload_n hx hb dL_law_768 rfl (lv_at hl 4 rfl) ?_
  refine cV_i (As := []) (rest := []) (ws1 := (LW o w v y pl te be cn ch le rE rL rP rF rS rD hs ho hc sl fi th5 ms mst smn msl mhs mtx mle mat mwl mrd mrm mtp mbt mtm mtn mnt mnb mun mum mau ou2)) ⟨hx, hb, hml, hown, hts⟩ (c_X7_thrown l D w y _ th5 ms mst smn msl mhs mtx mle mat mwl mrd mrm mtp mbt mtm mtn mnt mnb mun mum mau ) (cwV 0 hts gL_law_X7_thrown rfl rfl rfl hd_X7_thrown ⟨Nat.le_of_ble_eq_true rfl, Nat.le_of_ble_eq_true rfl⟩) hK hP hD hS hA [12, 13, 14, 15, 16, 17, 18, 19, 20] [0, 1, 2, 3, 4, 5, 6, 7, 8, 9, 10, 11, 21] [0, 1, 2, 3, 4, 5, 6, 7, 8, 9, 10, 11, 13, 14, 15, 16, 17, 18, 19, 20, 21, 12] rfl rfl rfl (by decide) rfl rfl rfl 0 (ci := 5) rfl rfl rfl hl.1 rfl (Nat.le_of_ble_eq_true rfl) dL_law_769 ⟨bcl, bsl⟩ (fun H locs hP hD hS => ?_)
  refine lv_iload hx hb dL_law_772 (lv_at hl 1 rfl) ?_
  refine lv_icmp_eq (tgt := 779) hx hb dL_law_774 (by decide) (fun c7 => ?_) (fun c7 => ?_)
  · replace h := fT c7 h
    refine lv_iload hx hb dL_law_779 (lv_at hl 1 rfl) ?_
    refine lv_if_ne (tgt := 796) hx hb dL_law_781 (by decide) (fun c8 => ?_) (fun c8 => ?_)
    · replace h := fF c8 h
      refine lv_goto (tgt := 2109) hx hb dL_law_796 (by decide) ?_
      cases h
      exact kk _ _ _ hP hD hS (lv_sub hl [2, 3, 4, 5, 6] rfl)
    · replace h := fT c8 h
      refine lv_aload_n hx hb dL_law_784 rfl (lv_at hl 5 rfl) ?_
      refine lv_iconst (v := (0 : Int32)) hx hb dL_law_785 (by decide) ?_
      refine va_lald hx hb hK hP 21 1 rfl rfl (show ¬ ((0 : Int32) < 0 ∨ 1 ≤ (0 : Int32).toNatClampNeg) from by decide) dL_law_786 ?_
      refine lv_iload hx hb dL_law_787 (lv_at hl 0 rfl) ?_
      refine lv_i2l (v := r4.toInt64) hx hb dL_law_789 rfl ?_
      refine lx_eq (tgt := 796) hx hb dL_law_790 dL_law_791 (by decide) (fun c9 => ?_) (fun c9 => ?_)
      · replace h := fT c9 h
        refine lv_goto (tgt := 2109) hx hb dL_law_796 (by decide) ?_
        cases h
        exact kk _ _ _ hP hD hS (lv_sub hl [2, 3, 4, 5, 6] rfl)
      · replace h := fF c9 h
        refine lv_iconst (v := (0 : Int32)) hx hb dL_law_794 (by decide) ?_
        exact fN h
  · replace h := fF c7 h
    refine lv_iconst (v := (0 : Int32)) hx hb dL_law_777 (by decide) ?_
    exact fN h
set_option maxHeartbeats 0 in
set_option maxRecDepth 100000 in
theorem cs_9 {p : Program} {l : Launch} {e : Env} {s : State} {m : MethodId} {args : Array Value} {below : List Frame} {meth : Method} {c : Code} {Q : State → Prop} {D : va_G} {o w : Nat → Nat} {v : Nat} {y : Nat → ClassId} {A : Nat → Prop} {b L : Nat} {xs : Nat → Int32} {x4 a1 a2 a3 : Int32} (hfl : l.stackTraces = false) (hx : p.tables.exec = Jvm.exec) (hb : c.code = code) (hml : c.maxLocals = 7) (hown : s.vm.findClass RL = some m.cls) (hts : ∀ w ∈ wsL_law, w.before args s = true) (hA : ∀ q, s.heap.size ≤ q → A q) (hK : va_K D vwCl (TY y) s) (hEX : EXC A s s.heap) (hX : va_X b L xs s s.heap) (hbl : b < s.heap.size) (hbA : ¬ A b) (hi1 : vp_in (x4 + (1 : Int32)) L) (hi2 : vp_in (x4 + (2 : Int32)) L) (hi3 : vp_in (x4 + (3 : Int32)) L) (ha1 : xs (x4 + (1 : Int32)).toNatClampNeg = a1) (ha2 : xs (x4 + (2 : Int32)).toNatClampNeg = a2) (ha3 : xs (x4 + (3 : Int32)).toNatClampNeg = a3) (pl : Nat → Int64) (te : Nat → Int32) (be : Nat → Int64) (cn : Int32) (ch : Nat → Int32) (le : Int32) (rE : Int32) (rL : Int32) (rP : Int32) (rF : Int32) (rS : Int32) (rD : Int32) (hs : Nat → Int64) (ho : Int32) (hc : Int32) (sl : Nat → Int64) (fi : Nat → Int32) (th : Int32) (ms : Nat → Int32) (mst : Nat → Int32) (smn : Int32) (msl : Nat → Int32) (mhs : Nat → Int32) (mtx : Nat → Int32) (mle : Int32) (mat : Int32) (mwl : Int32) (mrd : Nat → Int32) (mrm : Int32) (mtp : Int64) (mbt : Int64) (mtm : Nat → Int32) (mtn : Int32) (mnt : Int32) (mnb : Int32) (mun : Nat → Int32) (mum : Int32) (mau : Int32) (ou : Nat → Int64) (th' : Int32) (ou' : Nat → Int64) (h : G_9 pl th ms ou a1 a2 a3 = some (th', ou')) {H : Heap} {locs : List Loc} {ls : Array Slot} {cells slots : Nat} (hP : va_P D vwCl (LW o w v y pl te be cn ch le rE rL rP rF rS rD hs ho hc sl fi th ms mst smn msl mhs mtx mle mat mwl mrd mrm mtp mbt mtm mtn mnt mnb mun mum mau ou) H) (hD : va_D A (LW o w v y pl te be cn ch le rE rL rP rF rS rD hs ho hc sl fi th ms mst smn msl mhs mtx mle mat mwl mrd mrm mtp mbt mtm mtn mnt mnb mun mum mau ou)) (hS : va_S A s.heap H locs) (hl : lv_has ls 7 [(0, .ref b), (1, .ref (o 0)), (2, .ref (w 0)), (3, .ref v), (4, .int x4)]) (bcl : cells + 1 ≤ 1063) (bsl : slots + 6 ≤ 8907)
    (kk : ∀ (H : Heap) (locs : List Loc) (ls : Array Slot), va_P D vwCl (LW o w v y pl te be cn ch le rE rL rP rF rS rD hs ho hc sl fi th' ms mst smn msl mhs mtx mle mat mwl mrd mrm mtp mbt mtm mtn mnt mnb mun mum mau ou') H → va_D A (LW o w v y pl te be cn ch le rE rL rP rF rS rD hs ho hc sl fi th' ms mst smn msl mhs mtx mle mat mwl mrd mrm mtp mbt mtm mtn mnt mnb mun mum mau ou') → va_S A s.heap H locs → lv_has ls 7 [(0, .ref b), (1, .ref (o 0)), (2, .ref (w 0)), (3, .ref v), (4, .int x4)] → W p l e room_1 s m args below meth c H locs (cells + 1) (slots + 6) Q (F0 m 2109 ls [])) : W p l e room_1 s m args below meth c H locs cells slots Q (F0 m 799 ls []) := by
  unfold G_9 at h
  refine lv_aload_n hx hb dL_law_799 rfl (lv_at hl 1 rfl) ?_
  refine lv_aload_n hx hb dL_law_800 rfl (lv_at hl 0 rfl) ?_
  refine lv_iload hx hb dL_law_801 (lv_at hl 4 rfl) ?_
  refine lv_iconst (v := (1 : Int32)) hx hb dL_law_803 (by decide) ?_
  refine lv_iadd hx hb dL_law_804 ?_
  refine va_sld hx hb hX hbl hbA hS hi1 dL_law_805 ?_
  refine eqi ha1 ?_
  refine lv_aload_n hx hb dL_law_806 rfl (lv_at hl 3 rfl) ?_
  obtain ⟨r1, ou2, g3, h⟩ := fB2 h
  refine cW_i (As := [.ref (o 0), .int a1, .ref v]) (rest := []) (ws1 := (LW o w v y pl te be cn ch le rE rL rP rF rS rD hs ho hc sl fi th ms mst smn msl mhs mtx mle mat mwl mrd mrm mtp mbt mtm mtn mnt mnb mun mum mau ou2)) ⟨hx, hb, hml, hown, hts⟩ (c_L_denominatorOf l hfl D o v y _ pl te be cn ch le rE rL rP rF rS rD hs ho hc sl fi ou a1 r1 ou2 g3) (vx_cwSW 3 hts gL_law_L_denominatorOf rfl rfl rfl hd_L_denominatorOf ⟨Nat.le_of_ble_eq_true rfl, Nat.le_of_ble_eq_true rfl⟩) hK hP hD hS hA hEX [0, 1, 2, 3, 4, 5, 6, 7, 8, 9, 10, 11, 21] [12, 13, 14, 15, 16, 17, 18, 19, 20] [9, 10, 11, 12, 13, 14, 15, 16, 17, 18, 19, 20, 0, 1, 2, 3, 4, 5, 6, 7, 8, 21] rfl rfl rfl (by decide) rfl rfl rfl rfl hl.1 rfl (Nat.le_of_ble_eq_true rfl) dL_law_807 ⟨bcl, bsl⟩ (fun H locs hP hD hS => ?_)
  refine lv_istore (lv' := [(5, .int r1), (0, .ref b), (1, .ref (o 0)), (2, .ref (w 0)), (3, .ref v), (4, .int x4)]) hx hb dL_law_810 hl (by decide) rfl (fun ls hl => ?_)
  refine lv_aload_n hx hb dL_law_812 rfl (lv_at hl 3 rfl) ?_
  refine lv_aload_n hx hb dL_law_813 rfl (lv_at hl 1 rfl) ?_
  refine lv_iload hx hb dL_law_814 (lv_at hl 5 rfl) ?_
  refine lv_iconst (v := (1 : Int32)) hx hb dL_law_816 (by decide) ?_
  refine lv_iadd hx hb dL_law_817 ?_
  refine va_sld hx hb hX hbl hbA hS hi1 dL_law_818 ?_
  refine eqi ha1 ?_
  obtain ⟨r4, th5, g6, h⟩ := fB2 h
  refine cV_i (As := [.int a1]) (rest := []) (ws1 := (LW o w v y pl te be cn ch le rE rL rP rF rS rD hs ho hc sl fi th5 ms mst smn msl mhs mtx mle mat mwl mrd mrm mtp mbt mtm mtn mnt mnb mun mum mau ou2)) ⟨hx, hb, hml, hown, hts⟩ (c_X7_denominatorOf l D w y _ th ms mst smn msl mhs mtx mle mat mwl mrd mrm mtp mbt mtm mtn mnt mnb mun mum mau a1 r4 th5 g6) (cwV 1 hts gL_law_X7_denominatorOf rfl rfl rfl hd_X7_denominatorOf ⟨Nat.le_of_ble_eq_true rfl, Nat.le_of_ble_eq_true rfl⟩) hK hP hD hS hA [12, 13, 14, 15, 16, 17, 18, 19, 20] [0, 1, 2, 3, 4, 5, 6, 7, 8, 9, 10, 11, 21] [0, 1, 2, 3, 4, 5, 6, 7, 8, 9, 10, 11, 13, 14, 15, 16, 17, 18, 19, 20, 21, 12] rfl rfl rfl (by decide) rfl rfl rfl 0 (ci := 5) rfl rfl rfl hl.1 rfl (Nat.le_of_ble_eq_true rfl) dL_law_819 ⟨bcl, bsl⟩ (fun H locs hP hD hS => ?_)
  refine lv_istore (lv' := [(6, .int r4), (5, .int r1), (0, .ref b), (1, .ref (o 0)), (2, .ref (w 0)), (3, .ref v), (4, .int x4)]) hx hb dL_law_822 hl (by decide) rfl (fun ls hl => ?_)
  refine lv_aload_n hx hb dL_law_824 rfl (lv_at hl 4 rfl) ?_
  refine cV_i (As := []) (rest := []) (ws1 := (LW o w v y pl te be cn ch le rE rL rP rF rS rD hs ho hc sl fi th5 ms mst smn msl mhs mtx mle mat mwl mrd mrm mtp mbt mtm mtn mnt mnb mun mum mau ou2)) ⟨hx, hb, hml, hown, hts⟩ (c_X7_thrown l D w y _ th5 ms mst smn msl mhs mtx mle mat mwl mrd mrm mtp mbt mtm mtn mnt mnb mun mum mau ) (cwV 0 hts gL_law_X7_thrown rfl rfl rfl hd_X7_thrown ⟨Nat.le_of_ble_eq_true rfl, Nat.le_of_ble_eq_true rfl⟩) hK hP hD hS hA [12, 13, 14, 15, 16, 17, 18, 19, 20] [0, 1, 2, 3, 4, 5, 6, 7, 8, 9, 10, 11, 21] [0, 1, 2, 3, 4, 5, 6, 7, 8, 9, 10, 11, 13, 14, 15, 16, 17, 18, 19, 20, 21, 12] rfl rfl rfl (by decide) rfl rfl rfl 0 (ci := 5) rfl rfl rfl hl.1 rfl (Nat.le_of_ble_eq_true rfl) dL_law_825 ⟨bcl, bsl⟩ (fun H locs hP hD hS => ?_)
  refine lv_iload hx hb dL_law_828 (lv_at hl 1 rfl) ?_
  refine lv_icmp_eq (tgt := 835) hx hb dL_law_830 (by decide) (fun c7 => ?_) (fun c7 => ?_)
  · replace h := fT c7 h
    refine lv_iload hx hb dL_law_835 (lv_at hl 1 rfl) ?_
    refine lv_if_ne (tgt := 852) hx hb dL_law_837 (by decide) (fun c8 => ?_) (fun c8 => ?_)
    · replace h := fF c8 h
      refine lv_goto (tgt := 2109) hx hb dL_law_852 (by decide) ?_
      cases h
      exact kk _ _ _ hP hD hS (lv_sub hl [2, 3, 4, 5, 6] rfl)
    · replace h := fT c8 h
      refine lv_aload_n hx hb dL_law_840 rfl (lv_at hl 5 rfl) ?_
      refine lv_iconst (v := (0 : Int32)) hx hb dL_law_841 (by decide) ?_
      refine va_lald hx hb hK hP 21 1 rfl rfl (show ¬ ((0 : Int32) < 0 ∨ 1 ≤ (0 : Int32).toNatClampNeg) from by decide) dL_law_842 ?_
      refine lv_iload hx hb dL_law_843 (lv_at hl 0 rfl) ?_
      refine lv_i2l (v := r4.toInt64) hx hb dL_law_845 rfl ?_
      refine lx_eq (tgt := 852) hx hb dL_law_846 dL_law_847 (by decide) (fun c9 => ?_) (fun c9 => ?_)
      · replace h := fT c9 h
        refine lv_goto (tgt := 2109) hx hb dL_law_852 (by decide) ?_
        cases h
        exact kk _ _ _ hP hD hS (lv_sub hl [2, 3, 4, 5, 6] rfl)
      · replace h := fF c9 h
        refine lv_iconst (v := (0 : Int32)) hx hb dL_law_850 (by decide) ?_
        exact fN h
  · replace h := fF c7 h
    refine lv_iconst (v := (0 : Int32)) hx hb dL_law_833 (by decide) ?_
    exact fN h
set_option maxHeartbeats 0 in
set_option maxRecDepth 100000 in
theorem cs_10 {p : Program} {l : Launch} {e : Env} {s : State} {m : MethodId} {args : Array Value} {below : List Frame} {meth : Method} {c : Code} {Q : State → Prop} {D : va_G} {o w : Nat → Nat} {v : Nat} {y : Nat → ClassId} {A : Nat → Prop} {b L : Nat} {xs : Nat → Int32} {x4 a1 a2 a3 : Int32} (hfl : l.stackTraces = false) (hx : p.tables.exec = Jvm.exec) (hb : c.code = code) (hml : c.maxLocals = 7) (hown : s.vm.findClass RL = some m.cls) (hts : ∀ w ∈ wsL_law, w.before args s = true) (hA : ∀ q, s.heap.size ≤ q → A q) (hK : va_K D vwCl (TY y) s) (hEX : EXC A s s.heap) (hX : va_X b L xs s s.heap) (hbl : b < s.heap.size) (hbA : ¬ A b) (hi1 : vp_in (x4 + (1 : Int32)) L) (hi2 : vp_in (x4 + (2 : Int32)) L) (hi3 : vp_in (x4 + (3 : Int32)) L) (ha1 : xs (x4 + (1 : Int32)).toNatClampNeg = a1) (ha2 : xs (x4 + (2 : Int32)).toNatClampNeg = a2) (ha3 : xs (x4 + (3 : Int32)).toNatClampNeg = a3) (pl : Nat → Int64) (te : Nat → Int32) (be : Nat → Int64) (cn : Int32) (ch : Nat → Int32) (le : Int32) (rE : Int32) (rL : Int32) (rP : Int32) (rF : Int32) (rS : Int32) (rD : Int32) (hs : Nat → Int64) (ho : Int32) (hc : Int32) (sl : Nat → Int64) (fi : Nat → Int32) (th : Int32) (ms : Nat → Int32) (mst : Nat → Int32) (smn : Int32) (msl : Nat → Int32) (mhs : Nat → Int32) (mtx : Nat → Int32) (mle : Int32) (mat : Int32) (mwl : Int32) (mrd : Nat → Int32) (mrm : Int32) (mtp : Int64) (mbt : Int64) (mtm : Nat → Int32) (mtn : Int32) (mnt : Int32) (mnb : Int32) (mun : Nat → Int32) (mum : Int32) (mau : Int32) (ou : Nat → Int64) (th' : Int32) (ou' : Nat → Int64) (h : G_10 pl th ms ou a1 a2 a3 = some (th', ou')) {H : Heap} {locs : List Loc} {ls : Array Slot} {cells slots : Nat} (hP : va_P D vwCl (LW o w v y pl te be cn ch le rE rL rP rF rS rD hs ho hc sl fi th ms mst smn msl mhs mtx mle mat mwl mrd mrm mtp mbt mtm mtn mnt mnb mun mum mau ou) H) (hD : va_D A (LW o w v y pl te be cn ch le rE rL rP rF rS rD hs ho hc sl fi th ms mst smn msl mhs mtx mle mat mwl mrd mrm mtp mbt mtm mtn mnt mnb mun mum mau ou)) (hS : va_S A s.heap H locs) (hl : lv_has ls 7 [(0, .ref b), (1, .ref (o 0)), (2, .ref (w 0)), (3, .ref v), (4, .int x4)]) (bcl : cells + 1 ≤ 1063) (bsl : slots + 6 ≤ 8907)
    (kk : ∀ (H : Heap) (locs : List Loc) (ls : Array Slot), va_P D vwCl (LW o w v y pl te be cn ch le rE rL rP rF rS rD hs ho hc sl fi th' ms mst smn msl mhs mtx mle mat mwl mrd mrm mtp mbt mtm mtn mnt mnb mun mum mau ou') H → va_D A (LW o w v y pl te be cn ch le rE rL rP rF rS rD hs ho hc sl fi th' ms mst smn msl mhs mtx mle mat mwl mrd mrm mtp mbt mtm mtn mnt mnb mun mum mau ou') → va_S A s.heap H locs → lv_has ls 7 [(0, .ref b), (1, .ref (o 0)), (2, .ref (w 0)), (3, .ref v), (4, .int x4)] → W p l e room_1 s m args below meth c H locs (cells + 1) (slots + 6) Q (F0 m 2109 ls [])) : W p l e room_1 s m args below meth c H locs cells slots Q (F0 m 855 ls []) := by
  unfold G_10 at h
  refine lv_aload_n hx hb dL_law_855 rfl (lv_at hl 1 rfl) ?_
  refine lv_aload_n hx hb dL_law_856 rfl (lv_at hl 0 rfl) ?_
  refine lv_iload hx hb dL_law_857 (lv_at hl 4 rfl) ?_
  refine lv_iconst (v := (1 : Int32)) hx hb dL_law_859 (by decide) ?_
  refine lv_iadd hx hb dL_law_860 ?_
  refine va_sld hx hb hX hbl hbA hS hi1 dL_law_861 ?_
  refine eqi ha1 ?_
  refine lv_aload_n hx hb dL_law_862 rfl (lv_at hl 0 rfl) ?_
  refine lv_iload hx hb dL_law_863 (lv_at hl 4 rfl) ?_
  refine lv_iconst (v := (2 : Int32)) hx hb dL_law_865 (by decide) ?_
  refine lv_iadd hx hb dL_law_866 ?_
  refine va_sld hx hb hX hbl hbA hS hi2 dL_law_867 ?_
  refine eqi ha2 ?_
  refine lv_aload_n hx hb dL_law_868 rfl (lv_at hl 3 rfl) ?_
  obtain ⟨r1, ou2, g3, h⟩ := fB2 h
  refine cW_i (As := [.ref (o 0), .int a1, .int a2, .ref v]) (rest := []) (ws1 := (LW o w v y pl te be cn ch le rE rL rP rF rS rD hs ho hc sl fi th ms mst smn msl mhs mtx mle mat mwl mrd mrm mtp mbt mtm mtn mnt mnb mun mum mau ou2)) ⟨hx, hb, hml, hown, hts⟩ (c_L_compare l hfl D o v y _ pl te be cn ch le rE rL rP rF rS rD hs ho hc sl fi ou a1 a2 r1 ou2 g3) (vx_cwSW 4 hts gL_law_L_compare rfl rfl rfl hd_L_compare ⟨Nat.le_of_ble_eq_true rfl, Nat.le_of_ble_eq_true rfl⟩) hK hP hD hS hA hEX [0, 1, 2, 3, 4, 5, 6, 7, 8, 9, 10, 11, 21] [12, 13, 14, 15, 16, 17, 18, 19, 20] [9, 10, 11, 12, 13, 14, 15, 16, 17, 18, 19, 20, 0, 1, 2, 3, 4, 5, 6, 7, 8, 21] rfl rfl rfl (by decide) rfl rfl rfl rfl hl.1 rfl (Nat.le_of_ble_eq_true rfl) dL_law_869 ⟨bcl, bsl⟩ (fun H locs hP hD hS => ?_)
  refine lv_istore (lv' := [(5, .int r1), (0, .ref b), (1, .ref (o 0)), (2, .ref (w 0)), (3, .ref v), (4, .int x4)]) hx hb dL_law_872 hl (by decide) rfl (fun ls hl => ?_)
  refine lv_aload_n hx hb dL_law_874 rfl (lv_at hl 3 rfl) ?_
  refine lv_aload_n hx hb dL_law_875 rfl (lv_at hl 1 rfl) ?_
  refine lv_iload hx hb dL_law_876 (lv_at hl 5 rfl) ?_
  refine lv_iconst (v := (1 : Int32)) hx hb dL_law_878 (by decide) ?_
  refine lv_iadd hx hb dL_law_879 ?_
  refine va_sld hx hb hX hbl hbA hS hi1 dL_law_880 ?_
  refine eqi ha1 ?_
  refine lv_aload_n hx hb dL_law_881 rfl (lv_at hl 1 rfl) ?_
  refine lv_iload hx hb dL_law_882 (lv_at hl 5 rfl) ?_
  refine lv_iconst (v := (2 : Int32)) hx hb dL_law_884 (by decide) ?_
  refine lv_iadd hx hb dL_law_885 ?_
  refine va_sld hx hb hX hbl hbA hS hi2 dL_law_886 ?_
  refine eqi ha2 ?_
  obtain ⟨r4, th5, g6, h⟩ := fB2 h
  refine cV_i (As := [.int a1, .int a2]) (rest := []) (ws1 := (LW o w v y pl te be cn ch le rE rL rP rF rS rD hs ho hc sl fi th5 ms mst smn msl mhs mtx mle mat mwl mrd mrm mtp mbt mtm mtn mnt mnb mun mum mau ou2)) ⟨hx, hb, hml, hown, hts⟩ (c_X7_compare l D w y _ th ms mst smn msl mhs mtx mle mat mwl mrd mrm mtp mbt mtm mtn mnt mnb mun mum mau a1 a2 r4 th5 g6) (cwV 2 hts gL_law_X7_compare rfl rfl rfl hd_X7_compare ⟨Nat.le_of_ble_eq_true rfl, Nat.le_of_ble_eq_true rfl⟩) hK hP hD hS hA [12, 13, 14, 15, 16, 17, 18, 19, 20] [0, 1, 2, 3, 4, 5, 6, 7, 8, 9, 10, 11, 21] [0, 1, 2, 3, 4, 5, 6, 7, 8, 9, 10, 11, 13, 14, 15, 16, 17, 18, 19, 20, 21, 12] rfl rfl rfl (by decide) rfl rfl rfl 0 (ci := 5) rfl rfl rfl hl.1 rfl (Nat.le_of_ble_eq_true rfl) dL_law_887 ⟨bcl, bsl⟩ (fun H locs hP hD hS => ?_)
  refine lv_istore (lv' := [(6, .int r4), (5, .int r1), (0, .ref b), (1, .ref (o 0)), (2, .ref (w 0)), (3, .ref v), (4, .int x4)]) hx hb dL_law_890 hl (by decide) rfl (fun ls hl => ?_)
  refine lv_aload_n hx hb dL_law_892 rfl (lv_at hl 4 rfl) ?_
  refine cV_i (As := []) (rest := []) (ws1 := (LW o w v y pl te be cn ch le rE rL rP rF rS rD hs ho hc sl fi th5 ms mst smn msl mhs mtx mle mat mwl mrd mrm mtp mbt mtm mtn mnt mnb mun mum mau ou2)) ⟨hx, hb, hml, hown, hts⟩ (c_X7_thrown l D w y _ th5 ms mst smn msl mhs mtx mle mat mwl mrd mrm mtp mbt mtm mtn mnt mnb mun mum mau ) (cwV 0 hts gL_law_X7_thrown rfl rfl rfl hd_X7_thrown ⟨Nat.le_of_ble_eq_true rfl, Nat.le_of_ble_eq_true rfl⟩) hK hP hD hS hA [12, 13, 14, 15, 16, 17, 18, 19, 20] [0, 1, 2, 3, 4, 5, 6, 7, 8, 9, 10, 11, 21] [0, 1, 2, 3, 4, 5, 6, 7, 8, 9, 10, 11, 13, 14, 15, 16, 17, 18, 19, 20, 21, 12] rfl rfl rfl (by decide) rfl rfl rfl 0 (ci := 5) rfl rfl rfl hl.1 rfl (Nat.le_of_ble_eq_true rfl) dL_law_893 ⟨bcl, bsl⟩ (fun H locs hP hD hS => ?_)
  refine lv_iload hx hb dL_law_896 (lv_at hl 1 rfl) ?_
  refine lv_icmp_eq (tgt := 903) hx hb dL_law_898 (by decide) (fun c7 => ?_) (fun c7 => ?_)
  · replace h := fT c7 h
    refine lv_iload hx hb dL_law_903 (lv_at hl 1 rfl) ?_
    refine lv_if_ne (tgt := 920) hx hb dL_law_905 (by decide) (fun c8 => ?_) (fun c8 => ?_)
    · replace h := fF c8 h
      refine lv_goto (tgt := 2109) hx hb dL_law_920 (by decide) ?_
      cases h
      exact kk _ _ _ hP hD hS (lv_sub hl [2, 3, 4, 5, 6] rfl)
    · replace h := fT c8 h
      refine lv_aload_n hx hb dL_law_908 rfl (lv_at hl 5 rfl) ?_
      refine lv_iconst (v := (0 : Int32)) hx hb dL_law_909 (by decide) ?_
      refine va_lald hx hb hK hP 21 1 rfl rfl (show ¬ ((0 : Int32) < 0 ∨ 1 ≤ (0 : Int32).toNatClampNeg) from by decide) dL_law_910 ?_
      refine lv_iload hx hb dL_law_911 (lv_at hl 0 rfl) ?_
      refine lv_i2l (v := r4.toInt64) hx hb dL_law_913 rfl ?_
      refine lx_eq (tgt := 920) hx hb dL_law_914 dL_law_915 (by decide) (fun c9 => ?_) (fun c9 => ?_)
      · replace h := fT c9 h
        refine lv_goto (tgt := 2109) hx hb dL_law_920 (by decide) ?_
        cases h
        exact kk _ _ _ hP hD hS (lv_sub hl [2, 3, 4, 5, 6] rfl)
      · replace h := fF c9 h
        refine lv_iconst (v := (0 : Int32)) hx hb dL_law_918 (by decide) ?_
        exact fN h
  · replace h := fF c7 h
    refine lv_iconst (v := (0 : Int32)) hx hb dL_law_901 (by decide) ?_
    exact fN h
set_option maxHeartbeats 0 in
set_option maxRecDepth 100000 in
theorem cs_11 {p : Program} {l : Launch} {e : Env} {s : State} {m : MethodId} {args : Array Value} {below : List Frame} {meth : Method} {c : Code} {Q : State → Prop} {D : va_G} {o w : Nat → Nat} {v : Nat} {y : Nat → ClassId} {A : Nat → Prop} {b L : Nat} {xs : Nat → Int32} {x4 a1 a2 a3 : Int32} (hfl : l.stackTraces = false) (hx : p.tables.exec = Jvm.exec) (hb : c.code = code) (hml : c.maxLocals = 7) (hown : s.vm.findClass RL = some m.cls) (hts : ∀ w ∈ wsL_law, w.before args s = true) (hA : ∀ q, s.heap.size ≤ q → A q) (hK : va_K D vwCl (TY y) s) (hEX : EXC A s s.heap) (hX : va_X b L xs s s.heap) (hbl : b < s.heap.size) (hbA : ¬ A b) (hi1 : vp_in (x4 + (1 : Int32)) L) (hi2 : vp_in (x4 + (2 : Int32)) L) (hi3 : vp_in (x4 + (3 : Int32)) L) (ha1 : xs (x4 + (1 : Int32)).toNatClampNeg = a1) (ha2 : xs (x4 + (2 : Int32)).toNatClampNeg = a2) (ha3 : xs (x4 + (3 : Int32)).toNatClampNeg = a3) (pl : Nat → Int64) (te : Nat → Int32) (be : Nat → Int64) (cn : Int32) (ch : Nat → Int32) (le : Int32) (rE : Int32) (rL : Int32) (rP : Int32) (rF : Int32) (rS : Int32) (rD : Int32) (hs : Nat → Int64) (ho : Int32) (hc : Int32) (sl : Nat → Int64) (fi : Nat → Int32) (th : Int32) (ms : Nat → Int32) (mst : Nat → Int32) (smn : Int32) (msl : Nat → Int32) (mhs : Nat → Int32) (mtx : Nat → Int32) (mle : Int32) (mat : Int32) (mwl : Int32) (mrd : Nat → Int32) (mrm : Int32) (mtp : Int64) (mbt : Int64) (mtm : Nat → Int32) (mtn : Int32) (mnt : Int32) (mnb : Int32) (mun : Nat → Int32) (mum : Int32) (mau : Int32) (ou : Nat → Int64) (th' : Int32) (ou' : Nat → Int64) (h : G_11 pl th ms ou a1 a2 a3 = some (th', ou')) {H : Heap} {locs : List Loc} {ls : Array Slot} {cells slots : Nat} (hP : va_P D vwCl (LW o w v y pl te be cn ch le rE rL rP rF rS rD hs ho hc sl fi th ms mst smn msl mhs mtx mle mat mwl mrd mrm mtp mbt mtm mtn mnt mnb mun mum mau ou) H) (hD : va_D A (LW o w v y pl te be cn ch le rE rL rP rF rS rD hs ho hc sl fi th ms mst smn msl mhs mtx mle mat mwl mrd mrm mtp mbt mtm mtn mnt mnb mun mum mau ou)) (hS : va_S A s.heap H locs) (hl : lv_has ls 7 [(0, .ref b), (1, .ref (o 0)), (2, .ref (w 0)), (3, .ref v), (4, .int x4)]) (bcl : cells + 1 ≤ 1063) (bsl : slots + 6 ≤ 8907)
    (kk : ∀ (H : Heap) (locs : List Loc) (ls : Array Slot), va_P D vwCl (LW o w v y pl te be cn ch le rE rL rP rF rS rD hs ho hc sl fi th' ms mst smn msl mhs mtx mle mat mwl mrd mrm mtp mbt mtm mtn mnt mnb mun mum mau ou') H → va_D A (LW o w v y pl te be cn ch le rE rL rP rF rS rD hs ho hc sl fi th' ms mst smn msl mhs mtx mle mat mwl mrd mrm mtp mbt mtm mtn mnt mnb mun mum mau ou') → va_S A s.heap H locs → lv_has ls 7 [(0, .ref b), (1, .ref (o 0)), (2, .ref (w 0)), (3, .ref v), (4, .int x4)] → W p l e room_1 s m args below meth c H locs (cells + 1) (slots + 6) Q (F0 m 2109 ls [])) : W p l e room_1 s m args below meth c H locs cells slots Q (F0 m 923 ls []) := by
  unfold G_11 at h
  refine lv_aload_n hx hb dL_law_923 rfl (lv_at hl 1 rfl) ?_
  refine lv_aload_n hx hb dL_law_924 rfl (lv_at hl 0 rfl) ?_
  refine lv_iload hx hb dL_law_925 (lv_at hl 4 rfl) ?_
  refine lv_iconst (v := (1 : Int32)) hx hb dL_law_927 (by decide) ?_
  refine lv_iadd hx hb dL_law_928 ?_
  refine va_sld hx hb hX hbl hbA hS hi1 dL_law_929 ?_
  refine eqi ha1 ?_
  refine lv_aload_n hx hb dL_law_930 rfl (lv_at hl 3 rfl) ?_
  obtain ⟨r1, ou2, g3, h⟩ := fB2 h
  refine cW_i (As := [.ref (o 0), .int a1, .ref v]) (rest := []) (ws1 := (LW o w v y pl te be cn ch le rE rL rP rF rS rD hs ho hc sl fi th ms mst smn msl mhs mtx mle mat mwl mrd mrm mtp mbt mtm mtn mnt mnb mun mum mau ou2)) ⟨hx, hb, hml, hown, hts⟩ (c_L_plateByAmount l hfl D o v y _ pl te be cn ch le rE rL rP rF rS rD hs ho hc sl fi ou a1 r1 ou2 g3) (vx_cwSW 3 hts gL_law_L_plateByAmount rfl rfl rfl hd_L_plateByAmount ⟨Nat.le_of_ble_eq_true rfl, Nat.le_of_ble_eq_true rfl⟩) hK hP hD hS hA hEX [0, 1, 2, 3, 4, 5, 6, 7, 8, 9, 10, 11, 21] [12, 13, 14, 15, 16, 17, 18, 19, 20] [9, 10, 11, 12, 13, 14, 15, 16, 17, 18, 19, 20, 0, 1, 2, 3, 4, 5, 6, 7, 8, 21] rfl rfl rfl (by decide) rfl rfl rfl rfl hl.1 rfl (Nat.le_of_ble_eq_true rfl) dL_law_931 ⟨bcl, bsl⟩ (fun H locs hP hD hS => ?_)
  refine lv_istore (lv' := [(5, .int r1), (0, .ref b), (1, .ref (o 0)), (2, .ref (w 0)), (3, .ref v), (4, .int x4)]) hx hb dL_law_934 hl (by decide) rfl (fun ls hl => ?_)
  refine lv_aload_n hx hb dL_law_936 rfl (lv_at hl 3 rfl) ?_
  refine lv_aload_n hx hb dL_law_937 rfl (lv_at hl 1 rfl) ?_
  refine lv_iload hx hb dL_law_938 (lv_at hl 5 rfl) ?_
  refine lv_iconst (v := (1 : Int32)) hx hb dL_law_940 (by decide) ?_
  refine lv_iadd hx hb dL_law_941 ?_
  refine va_sld hx hb hX hbl hbA hS hi1 dL_law_942 ?_
  refine eqi ha1 ?_
  obtain ⟨r4, th5, g6, h⟩ := fB2 h
  refine cV_i (As := [.int a1]) (rest := []) (ws1 := (LW o w v y pl te be cn ch le rE rL rP rF rS rD hs ho hc sl fi th5 ms mst smn msl mhs mtx mle mat mwl mrd mrm mtp mbt mtm mtn mnt mnb mun mum mau ou2)) ⟨hx, hb, hml, hown, hts⟩ (c_X7_plateByAmount l D w y _ th ms mst smn msl mhs mtx mle mat mwl mrd mrm mtp mbt mtm mtn mnt mnb mun mum mau a1 r4 th5 g6) (cwV 1 hts gL_law_X7_plateByAmount rfl rfl rfl hd_X7_plateByAmount ⟨Nat.le_of_ble_eq_true rfl, Nat.le_of_ble_eq_true rfl⟩) hK hP hD hS hA [12, 13, 14, 15, 16, 17, 18, 19, 20] [0, 1, 2, 3, 4, 5, 6, 7, 8, 9, 10, 11, 21] [0, 1, 2, 3, 4, 5, 6, 7, 8, 9, 10, 11, 13, 14, 15, 16, 17, 18, 19, 20, 21, 12] rfl rfl rfl (by decide) rfl rfl rfl 0 (ci := 5) rfl rfl rfl hl.1 rfl (Nat.le_of_ble_eq_true rfl) dL_law_943 ⟨bcl, bsl⟩ (fun H locs hP hD hS => ?_)
  refine lv_istore (lv' := [(6, .int r4), (5, .int r1), (0, .ref b), (1, .ref (o 0)), (2, .ref (w 0)), (3, .ref v), (4, .int x4)]) hx hb dL_law_946 hl (by decide) rfl (fun ls hl => ?_)
  refine lv_aload_n hx hb dL_law_948 rfl (lv_at hl 4 rfl) ?_
  refine cV_i (As := []) (rest := []) (ws1 := (LW o w v y pl te be cn ch le rE rL rP rF rS rD hs ho hc sl fi th5 ms mst smn msl mhs mtx mle mat mwl mrd mrm mtp mbt mtm mtn mnt mnb mun mum mau ou2)) ⟨hx, hb, hml, hown, hts⟩ (c_X7_thrown l D w y _ th5 ms mst smn msl mhs mtx mle mat mwl mrd mrm mtp mbt mtm mtn mnt mnb mun mum mau ) (cwV 0 hts gL_law_X7_thrown rfl rfl rfl hd_X7_thrown ⟨Nat.le_of_ble_eq_true rfl, Nat.le_of_ble_eq_true rfl⟩) hK hP hD hS hA [12, 13, 14, 15, 16, 17, 18, 19, 20] [0, 1, 2, 3, 4, 5, 6, 7, 8, 9, 10, 11, 21] [0, 1, 2, 3, 4, 5, 6, 7, 8, 9, 10, 11, 13, 14, 15, 16, 17, 18, 19, 20, 21, 12] rfl rfl rfl (by decide) rfl rfl rfl 0 (ci := 5) rfl rfl rfl hl.1 rfl (Nat.le_of_ble_eq_true rfl) dL_law_949 ⟨bcl, bsl⟩ (fun H locs hP hD hS => ?_)
  refine lv_iload hx hb dL_law_952 (lv_at hl 1 rfl) ?_
  refine lv_icmp_eq (tgt := 959) hx hb dL_law_954 (by decide) (fun c7 => ?_) (fun c7 => ?_)
  · replace h := fT c7 h
    refine lv_iload hx hb dL_law_959 (lv_at hl 1 rfl) ?_
    refine lv_if_ne (tgt := 976) hx hb dL_law_961 (by decide) (fun c8 => ?_) (fun c8 => ?_)
    · replace h := fF c8 h
      refine lv_goto (tgt := 2109) hx hb dL_law_976 (by decide) ?_
      cases h
      exact kk _ _ _ hP hD hS (lv_sub hl [2, 3, 4, 5, 6] rfl)
    · replace h := fT c8 h
      refine lv_aload_n hx hb dL_law_964 rfl (lv_at hl 5 rfl) ?_
      refine lv_iconst (v := (0 : Int32)) hx hb dL_law_965 (by decide) ?_
      refine va_lald hx hb hK hP 21 1 rfl rfl (show ¬ ((0 : Int32) < 0 ∨ 1 ≤ (0 : Int32).toNatClampNeg) from by decide) dL_law_966 ?_
      refine lv_iload hx hb dL_law_967 (lv_at hl 0 rfl) ?_
      refine lv_i2l (v := r4.toInt64) hx hb dL_law_969 rfl ?_
      refine lx_eq (tgt := 976) hx hb dL_law_970 dL_law_971 (by decide) (fun c9 => ?_) (fun c9 => ?_)
      · replace h := fT c9 h
        refine lv_goto (tgt := 2109) hx hb dL_law_976 (by decide) ?_
        cases h
        exact kk _ _ _ hP hD hS (lv_sub hl [2, 3, 4, 5, 6] rfl)
      · replace h := fF c9 h
        refine lv_iconst (v := (0 : Int32)) hx hb dL_law_974 (by decide) ?_
        exact fN h
  · replace h := fF c7 h
    refine lv_iconst (v := (0 : Int32)) hx hb dL_law_957 (by decide) ?_
    exact fN h
