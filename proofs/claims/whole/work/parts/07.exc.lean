/-! throwing and catching, in the form of our walks -/
def strs : List (Nat × String) := [(57, "the numerator is out of range"), (62, "the denominator is out of range"), (94, "the number of guests is out of range"), (106, "there is no such place"), (158, "the unit is out of range"), (171, "these are no characters of a text"), (178, "the text would be too long"), (209, "the text has an error"), (219, "no state is recorded"), (236, "nothing was saved in the slot"), (241, "there is no such plate"), (243, "the plate is 0"), (245, "the plate holds 1 or more"), (247, "the greatest denominator is out of range"), (249, "there is no such slot"), (251, "the fraction is not possible"), (253, "there is no such term")]
def exn : Nat → String := fun k => if k = 1 then "java/lang/IndexOutOfBoundsException" else if k = 2 then "java/lang/IllegalArgumentException" else "java/lang/IllegalStateException"
def decls : List Cond := [.declares (Bundle.initS "java/lang/RuntimeException"), .declares (Bundle.initS "java/lang/Exception"), .declares (Bundle.initS "java/lang/Throwable")]
abbrev nms : List String := ["java/lang/RuntimeException", "java/lang/Exception"]
/-- what a method that throws needs of the start: Throwable's two statics, the texts, what is castable to what -/
def EXC (A : Nat → Prop) (U : State) (H : Heap) : Prop := vx_Zq Bundle.tN "UNASSIGNED_STACK" Bundle.steD A U H ∧ vx_Zq Bundle.tN "SUPPRESSED_SENTINEL" Bundle.listD A U H ∧ (∀ q ∈ strs, ∃ a, vk_R RX6 q.1 q.2 a U) ∧ (∀ k, va_Nw (.castable (exn k) (exn k)) U) ∧ (∀ x : MethodName, Cond.declares x ∈ decls → va_Nw (.declares x) U) ∧ va_Nc (exn 2) (exn 1) U ∧ va_Nc (exn 3) (exn 1) U ∧ va_Nc (exn 3) (exn 2) U
theorem EXC.to {A A' : Nat → Prop} {s U : State} {H H1 : Heap} (h : EXC A s H) (hW : s.WarmedH U.vm) (hq : ∀ a : Nat, a < H.size → ¬ A a → H1[a]? = H[a]?) (hAA : ∀ q, A' q → A q) : EXC A' U H1 := by
  obtain ⟨h1, h2, h3, h4, h5, h6, h7, h8⟩ := h
  exact ⟨((h1.moved hW.alike).kept hq).narrow hAA, ((h2.moved hW.alike).kept hq).narrow hAA, fun q hq => (h3 q hq).elim (fun a ha => ⟨a, ha.warm hW⟩), fun k => (h4 k).warmC hW, fun x hx => (h5 x hx).warmD hW, h6.moved hW.alike, h7.moved hW.alike, h8.moved hW.alike⟩
def pxe (D : va_G) (y : Nat → ClassId) (sz : Nat) (w : va_W) : State → Prop := fun U => px D y sz w U ∧ EXC (va_A w sz) U U.heap
theorem pxe_blind {D : va_G} {y : Nat → ClassId} {sz : Nat} {w : va_W} {av : List Value} : FrameBlind (va_Pc av (pxe D y sz w)) := fun a U g mk q => by
  obtain ⟨q0, q1, q2⟩ := q
  exact ⟨q0, (px_blind (av := av) a U g mk ⟨q0, q1⟩).2, q2.to (U := U.calling g mk a) (State.WarmedH.refl U) (fun _ _ _ => rfl) (fun _ h => h)⟩
abbrev QNo (w0 : va_W) (sz : Nat) : Array Value → State → Outcome → State → Prop := va_Qv (fun (_ : Unit) => False) (fun _ _ => True) (va_A w0 sz)
abbrev QX (D : va_G) (y : Nat → ClassId) (sz : Nat) (w0 w1 : va_W) (k : Nat) : String → State → State → Prop := vx_X (fun (_ : Unit) => True) (fun E _ t => E = exn k ∧ bx D y (va_A w0 sz) w1 t) (va_A w0 sz)
theorem th2_59 : ∀ w ∈ (vx_atS RX6 59 "java/lang/IllegalArgumentException" nms).filter (fun w => !goodWord w), w ∈ Cond.castable "java/lang/IllegalArgumentException" "java/lang/IllegalArgumentException" :: decls := by decide +kernel
theorem thg_59 : ∀ w ∈ Cond.classLink RX6 55 "java/lang/IllegalArgumentException" :: Cond.initialized "java/lang/IllegalArgumentException" :: vx_atS RX6 59 "java/lang/IllegalArgumentException" nms, vx_ot w = true := by decide +kernel
theorem th2_108 : ∀ w ∈ (vx_atS RX6 108 "java/lang/IndexOutOfBoundsException" nms).filter (fun w => !goodWord w), w ∈ Cond.castable "java/lang/IndexOutOfBoundsException" "java/lang/IndexOutOfBoundsException" :: decls := by decide +kernel
theorem thg_108 : ∀ w ∈ Cond.classLink RX6 104 "java/lang/IndexOutOfBoundsException" :: Cond.initialized "java/lang/IndexOutOfBoundsException" :: vx_atS RX6 108 "java/lang/IndexOutOfBoundsException" nms, vx_ot w = true := by decide +kernel
theorem th2_180 : ∀ w ∈ (vx_atS RX6 180 "java/lang/IllegalStateException" nms).filter (fun w => !goodWord w), w ∈ Cond.castable "java/lang/IllegalStateException" "java/lang/IllegalStateException" :: decls := by decide +kernel
theorem thg_180 : ∀ w ∈ Cond.classLink RX6 176 "java/lang/IllegalStateException" :: Cond.initialized "java/lang/IllegalStateException" :: vx_atS RX6 180 "java/lang/IllegalStateException" nms, vx_ot w = true := by decide +kernel
section XE
variable {p : Program} {l : Launch} {e : Env} {R : Room} {s : State} {m : MethodId} {args : Array Value} {below : List Frame} {meth : Method} {c : Code} {H : Heap} {locs : List Loc} {cells slots : Nat} {Q : State → Prop}
variable {cc : ByteArray} {pc : Nat} {ls : Array Slot} {rest st0 : List Value} {D : va_G} {y : Nat → ClassId} {A : Nat → Prop} {ws wc w0 w1 ws1 : va_W} {H0 : Heap}
variable {yy : MethodName} {bytes : ByteArray} {maxL nL n index : Nat} {ret : Option FieldType} {wo : List Cond} {rm : Room} {Ts : List Cond} {own C : String} {b : Addr} {As : List Value} {k : Nat}
theorem pxe_of {av : List Value} (hEX : EXC A s s.heap) (hK : va_K D vwCl (TY y) s) (hP : va_P D vwCl ws H) (hD : va_D A ws) (hS : va_S A s.heap H locs) (hA : ∀ q, s.heap.size ≤ q → A q) (isC : List Nat) (hC : isC.map (fun i => ws[i]?) = wc.map some) (hn : va_nd isC = true) :
    (∀ U : State, U.heap = H → s.WarmedH U.vm → va_Pc av (pxe D y H.size wc) av.toArray U) ∧ va_P D vwCl wc H := by
  obtain ⟨h1, h2⟩ := px_of (av := av) hK hP hD isC hC hn
  have hF := va_free hD hS hA isC hC
  exact ⟨fun U hU hW => ⟨rfl, (h1 U hU hW).2, hEX.to hW (fun a ha hn => by rw [hU]; exact hS.2.1 a ha hn) hF⟩, h2⟩
/-- the head of a method that throws at its end -/
theorem hd_x {y' : MethodName} {wo' : List Cond} {sz : Nat} (hy : plainName y'.cls = true) (hw : wo = Cond.code y' cc maxL ret :: wo') (hlen : (lg_sl As).length ≤ maxL)
    (body : ∀ (p : Program) (e : Env) (s : State) (m : MethodId) (args : Array Value) (below : List Frame) (meth : Method) (c : Code) (A : Nat → Prop) (Q : State → Prop) (H : Heap) (locs : List Loc) (ls : Array Slot), p.tables.exec = Jvm.exec → c.code = cc → c.maxLocals = maxL → (∀ w ∈ wo, w.before args s = true) → s.vm.findClass y'.cls = some m.cls → (∀ q, s.heap.size ≤ q → A q) → va_P D vwCl w0 H → va_D A w0 → va_K D vwCl (TY y) s → va_S A s.heap H locs → lv_has ls maxL (lv_args 0 As) →
      EXC A s s.heap → meth.locks = false → (∀ x ∈ c.exceptionTable.toList, False) → Q = vx_MQ below (QNo w0 s.heap.size) (QX D y s.heap.size w0 w1 k) args s 1 6 (va_A w0 s.heap.size) → A = va_A w0 s.heap.size →
      W p l e rm s m args below meth c H locs 0 0 Q (F0 m 0 ls [])) : vx_Met l y' wo rm (va_Pc As (pxe D y sz w0)) (QNo w0 sz) (QX D y sz w0 w1 k) 1 6 (va_A w0 sz) := by
  refine vx_ofW (cc := cc) (maxL := maxL) (ret := ret) hy hw ?_
  intro p e s m args below meth c s₁ B hml ht hv
  obtain ⟨rfl, ⟨hsz, hP, hK, hD0⟩, hEX⟩ := hv
  subst hsz
  have hts := atoms_spec (ws := wo) B.pre
  have hown := findClass_of_methodNamed B.named
  have hD := hD0.self (sz := s.heap.size)
  have hl := lv_entry As (n := maxL) hlen
  rw [lg_entry_eq]
  exact body p e s m _ below meth c (va_A w0 s.heap.size) _ s.heap [] _ B.exec B.bytes hml hts hown (fun q h => Or.inr h) hP hD hK va_S.rf hl hEX B.notSynchronized ht rfl rfl
/-- the exception goes on to the caller -/
theorem outX {Qc : Array Value → State → Outcome → State → Prop} {E : String} {ce : Cell} {q : Addr} (hQ : Q = vx_MQ below Qc (QX D y s.heap.size w0 w1 k) args s 1 6 (va_A w0 s.heap.size)) (hAe : A = va_A w0 s.heap.size) (hout : ∀ x ∈ c.exceptionTable.toList, False) (hlocks : meth.locks = false) (hK : va_K D vwCl (TY y) s) (hP : va_P D vwCl w1 H) (hD : va_D A w1) (hS : va_S A s.heap H locs) (hce : H[q]? = some ce) (hv : ce.vm = .none) (hcl : s.vm.findClass E = some ce.cls) (hE : E = exn k) (hc : cells ≤ 1) (hs : slots ≤ 6) :
    vx_W p l e R s m args below meth c H locs cells slots Q (F0 m pc ls rest) q := by
  subst hQ
  subst hAe
  exact vx_out (fun x hx => (hout x hx).elim) hlocks hce hv hcl (fun t ht hW => ⟨(), trivial, ⟨hE, by rw [ht]; exact hP, va_K.moved hW hK, hD⟩, hS.F ht⟩) hS.2.2 hc hs
/-- throw new E("text") -/
theorem thrS {Qc : Array Value → State → Outcome → State → Prop} {E txt : String} {ik is ic : Nat} (hx : p.tables.exec = Jvm.exec) (hb : c.code = cc) (hfl : l.stackTraces = false) (hQ : Q = vx_MQ below Qc (QX D y s.heap.size w0 w1 k) args s 1 6 (va_A w0 s.heap.size)) (hAe : A = va_A w0 s.heap.size) (hout : ∀ x ∈ c.exceptionTable.toList, False) (hlocks : meth.locks = false) (hK : va_K D vwCl (TY y) s) (hP : va_P D vwCl w1 H) (hD : va_D A w1) (hS : va_S A s.heap H locs)
    (hown : s.vm.findClass RX6 = some m.cls) (hEk : exn k = E) (hfit : Bundle.fit E = true) (hk : (Cond.classLink RX6 ik E).before args s = true) (hini : (Cond.initialized E).before args s = true) (h1 : ∀ w ∈ (vx_atS RX6 ic E nms).filter goodWord, w.before args s = true) (h2 : ∀ w ∈ (vx_atS RX6 ic E nms).filter (fun w => !goodWord w), w ∈ Cond.castable E E :: decls)
    (hgood : ∀ w ∈ Cond.classLink RX6 ik E :: Cond.initialized E :: vx_atS RX6 ic E nms, vx_ot w = true) (hEX : EXC A s s.heap) (hstr : (is, txt) ∈ strs) (hsize : ls.size = c.maxLocals)
    (d0 : decode cc pc = .ok (.new ik, 3)) (d3 : decode cc (pc + 3) = .ok (.dup, 1)) (d4 : decode cc (pc + 4) = .ok (.ldc is, 2)) (d6 : decode cc (pc + 6) = .ok (.invokespecial ic, 3)) (d9 : decode cc (pc + 9) = .ok (.athrow, 1))
    (hRf : 5 < R.frames) (hRl : (rest.map fun v => v.category).sum + 82 ≤ R.locals) (hRc : cells + 1 ≤ R.cells) (hRs : slots + 6 ≤ R.slots) (hc : cells + 1 ≤ 1) (hs : slots + 6 ≤ 6) :
    W p l e R s m args below meth c H locs cells slots Q (F0 m pc ls rest) := by
  subst hQ
  obtain ⟨sa, hsa⟩ := hEX.2.2.1 _ hstr
  have h3 : ∀ w ∈ Cond.castable E E :: decls, w.before args s = true := by
    intro w hw
    rcases List.mem_cons.mp hw with rfl | hw
    · rw [← hEk]; exact va_Nw.use rfl (hEX.2.2.2.1 k)
    · simp only [decls, List.mem_cons, List.not_mem_nil, or_false] at hw
      rcases hw with rfl | rfl | rfl <;> exact va_Nw.use rfl (hEX.2.2.2.2.1 _ (by simp [decls]))
  refine vx_throwS (names := nms) hx hb hfl hown hfit (fun n hn => by simp only [nms, List.mem_cons, List.not_mem_nil, or_false] at hn; rcases hn with rfl | rfl <;> decide +kernel) hk hini hsa (vx_hat h1 h2 h3) hgood hEX.1 hEX.2.1 hS hsize d0 d3 d4 d6 d9 (fun x hx => (hout x hx).elim) hRf hRl hRc hRs hlocks ?_ (by subst hAe; exact hS.2.2) hc hs
  intro t hW hz hq
  subst hAe
  exact ⟨(), trivial, ⟨hEk.symm, hP.kept (fun k q hk => hq q.1 (hP k q hk).lt), va_K.moved hW hK, hD⟩, Nat.le_trans hS.1 hz, fun q h1 h2 => (hq q (Nat.lt_of_lt_of_le h1 hS.1)).trans (hS.2.1 q h1 h2)⟩
/-- a call that throws -/
theorem xc_V (S : CallFix p m c cc nL s args Ts own) (hM : vx_Met l yy wo rm (va_Pc (Value.ref b :: As) (pxe D y H.size wc)) (QNo wc H.size) (QX D y H.size wc w1 k) 1 6 (va_A wc H.size)) (cw : CallW R s args own C index yy bytes maxL ret wo rm 1 6 n) (hK : va_K D vwCl (TY y) s) (hP : va_P D vwCl ws H) (hD : va_D A ws) (hS : va_S A s.heap H locs) (hA : ∀ q, s.heap.size ≤ q → A q) (hEX : EXC A s s.heap) (isC isR isP : List Nat)
    (hC : isC.map (fun i => ws[i]?) = wc.map some) (hR : isR.map (fun i => ws[i]?) = (isR.filterMap (fun i => ws[i]?)).map some) (hn : va_nd isR = true) (hdis : ∀ i ∈ isR, i ∉ isC) (hp : isP.map (fun i => ((isR.filterMap (fun i => ws[i]?)) ++ w1)[i]?) = ws1.map some) (hnp : va_nd isP = true) (hnC : va_nd isC = true) (q0 : Nat) {ci : Nat} {fs : List Value} {T : u_T} {N : Nat} (hq : wc[q0]? = some (b, .inr (ci, fs))) (hcl : vwCl[ci]? = some (C, T, N))
    (hlen : As.length = n) (hsz : ls.size = nL) (hst : st0 = As.reverse ++ .ref b :: rest) (hW : (rest.map fun v => v.category).sum ≤ 8) (hdg : decode cc pc = .ok (.invokevirtual index, 3)) (hf : cells + 1 ≤ R.cells ∧ slots + 6 ≤ R.slots)
    (kx : ∀ (H1 : Heap) (locs1 : List Loc) (ce : Cell) (q : Addr), va_P D vwCl ws1 H1 → va_D A ws1 → va_S A s.heap H1 locs1 → H1[q]? = some ce → ce.vm = .none → s.vm.findClass (exn k) = some ce.cls → vx_W p l e R s m args below meth c H1 locs1 (cells + 1) (slots + 6) Q (F0 m pc ls rest) q) : W p l e R s m args below meth c H locs cells slots Q (F0 m pc ls st0) := by
  obtain ⟨hpre, hPc⟩ := pxe_of (av := (Value.ref b :: As)) hEX hK hP hD hS hA isC hC hnC
  have hF := va_free hD hS hA isC hC
  refine vx_callv (vx_runV (g := F0 m pc ls st0) (rest := rest) S hM cw ⟨pxe_blind, va_recv hK hPc hcl hq, hpre⟩ rfl hlen hsz hst (lv_room hW) hdg hf) hS (fun q _ h => hF q h) hF (fun q _ h => hF q h) (fun E ce q9 u t H1 locs1 ht hvm hw hB hz hk hS1 hce hv hcl => ?_) (fun u t H1 locs1 ht hvm hw hB hz hk hS1 => hw.elim)
  obtain ⟨rfl, b1, b2, b3⟩ := hB
  rw [ht] at b1
  obtain ⟨x1, x2⟩ := px_back hP hD hS hA isC isR isP hC hR hn hdis hp hnp hk b1 b3
  exact kx H1 locs1 ce q9 x1 x2 hS1 hce hv hcl
/-- a call that throws -/
theorem xc_S (S : CallFix p m c cc nL s args Ts own) (hM : vx_Met l yy wo rm (va_Pc As (pxe D y H.size wc)) (QNo wc H.size) (QX D y H.size wc w1 k) 1 6 (va_A wc H.size)) (cw : (CallB R s args own index yy bytes maxL ret wo rm 1 6 n ∧ (Cond.static yy).before args s = true)) (hK : va_K D vwCl (TY y) s) (hP : va_P D vwCl ws H) (hD : va_D A ws) (hS : va_S A s.heap H locs) (hA : ∀ q, s.heap.size ≤ q → A q) (hEX : EXC A s s.heap) (isC isR isP : List Nat)
    (hC : isC.map (fun i => ws[i]?) = wc.map some) (hR : isR.map (fun i => ws[i]?) = (isR.filterMap (fun i => ws[i]?)).map some) (hn : va_nd isR = true) (hdis : ∀ i ∈ isR, i ∉ isC) (hp : isP.map (fun i => ((isR.filterMap (fun i => ws[i]?)) ++ w1)[i]?) = ws1.map some) (hnp : va_nd isP = true) (hnC : va_nd isC = true)
    (hlen : As.length = n) (hsz : ls.size = nL) (hst : st0 = As.reverse ++ rest) (hW : (rest.map fun v => v.category).sum ≤ 8) (hdg : decode cc pc = .ok (.invokestatic index, 3)) (hf : cells + 1 ≤ R.cells ∧ slots + 6 ≤ R.slots)
    (kx : ∀ (H1 : Heap) (locs1 : List Loc) (ce : Cell) (q : Addr), va_P D vwCl ws1 H1 → va_D A ws1 → va_S A s.heap H1 locs1 → H1[q]? = some ce → ce.vm = .none → s.vm.findClass (exn k) = some ce.cls → vx_W p l e R s m args below meth c H1 locs1 (cells + 1) (slots + 6) Q (F0 m pc ls rest) q) : W p l e R s m args below meth c H locs cells slots Q (F0 m pc ls st0) := by
  obtain ⟨hpre, hPc⟩ := pxe_of (av := As) hEX hK hP hD hS hA isC hC hnC
  have hF := va_free hD hS hA isC hC
  refine vx_callv (vx_runS (g := F0 m pc ls st0) (rest := rest) S hM cw ⟨pxe_blind, hpre⟩ rfl hlen hsz hst (lv_room hW) hdg hf) hS (fun q _ h => hF q h) hF (fun q _ h => hF q h) (fun E ce q9 u t H1 locs1 ht hvm hw hB hz hk hS1 hce hv hcl => ?_) (fun u t H1 locs1 ht hvm hw hB hz hk hS1 => hw.elim)
  obtain ⟨rfl, b1, b2, b3⟩ := hB
  rw [ht] at b1
  obtain ⟨x1, x2⟩ := px_back hP hD hS hA isC isR isP hC hR hn hdis hp hnp hk b1 b3
  exact kx H1 locs1 ce q9 x1 x2 hS1 hce hv hcl
/-- the head of a wrapper with a table of handlers -/
theorem hd_w {y' : MethodName} {wo' : List Cond} {sz : Nat} {v : Int32} {hh : List (Nat × Nat × Nat × Nat)} (hy : plainName y'.cls = true) (hw : wo = Cond.codeWith y' cc maxL (some .int) hh :: wo') (hlen : (lg_sl As).length ≤ maxL)
    (body : ∀ (p : Program) (e : Env) (s : State) (m : MethodId) (args : Array Value) (below : List Frame) (meth : Method) (c : Code) (A : Nat → Prop) (Q : State → Prop) (H : Heap) (locs : List Loc) (ls : Array Slot), p.tables.exec = Jvm.exec → c.code = cc → c.maxLocals = maxL → (∀ w ∈ wo, w.before args s = true) → s.vm.findClass y'.cls = some m.cls → (∀ q, s.heap.size ≤ q → A q) → va_P D vwCl w0 H → va_D A w0 → va_K D vwCl (TY y) s → va_S A s.heap H locs → lv_has ls maxL (lv_args 0 As) →
      EXC A s s.heap → c.exceptionTable.toList = tableOf hh →
      (∀ (H : Heap) (locs : List Loc) (ls : Array Slot) (pc cells slots : Nat), cells ≤ 1 → slots ≤ 6 → decode cc pc = .ok (.ireturn, 1) → va_P D vwCl w1 H → va_D A w1 → va_S A s.heap H locs → W p l e rm s m args below meth c H locs cells slots Q (F0 m pc ls [.int v])) →
      W p l e rm s m args below meth c H locs 0 0 Q (F0 m 0 ls [])) : Met l y' wo rm (va_Pc As (pxe D y sz w0)) (Qri D y sz w0 w1 v) 1 6 (va_A w0 sz) := by
  refine MetFree.of_bodyS (code := cc) (maxLocals := maxL) (ret := some .int) hy ?_ ?_
  · intro args s m h hn
    obtain ⟨m9, meth, c, hn9, h1, h2, h3, h4, -, h5, h6, -⟩ := Cond.codeWith_spec (atoms_spec (ws := wo) h _ (by rw [hw]; exact List.mem_cons_self))
    cases hn.symm.trans hn9
    exact ⟨meth, c, h1, h2, h3, h4, h5, h6⟩
  · intro p e s m args below meth c s₁ B hml hv _
    obtain ⟨rfl, ⟨hsz, hP, hK, hD0⟩, hEX⟩ := hv
    subst hsz
    have hh0 : s₁.heap = s.heap := by rw [B.state]; rfl
    have hts := atoms_spec (ws := wo) B.pre
    have hown := findClass_of_methodNamed B.named
    have hml2 : c.maxLocals = maxL := by
      obtain ⟨m9, meth9, c9, hn9, h1, h2, -, h4, -⟩ := Cond.codeWith_spec (atoms_spec (ws := wo) B.pre _ (by rw [hw]; exact List.mem_cons_self))
      cases Option.some.inj (hn9.symm.trans B.named)
      cases Option.some.inj (h1.symm.trans B.method)
      cases Option.some.inj (h2.symm.trans (Stand.of_body B).code)
      exact h4
    have hD := hD0.self (sz := s.heap.size)
    have hl := lv_entry As (n := maxL) hlen
    have ht := vx_table (x := y') B (hts _ (by rw [hw]; exact List.mem_cons_self))
    have K := body p e s m _ below meth c (va_A w0 s.heap.size) (MQ below (Qri D y s.heap.size w0 w1 v) As.toArray s 1 6 (va_A w0 s.heap.size)) s.heap [] _ B.exec B.bytes hml2 hts hown (fun q h => Or.inr h) hP hD hK va_S.rf hl hEX ht (fun H locs ls pc cells slots hc hs hdg hP1 hD1 hS => W.widen hc hs (W.iret (v := v) B.exec B.bytes B.returns (fun t ht hW => ⟨⟨v, (), rfl, rfl, by rw [ht]; exact hP1, va_K.moved hW.alike hK, hD1⟩, hS.F ht⟩) hS.2.2 hdg B.notSynchronized))
    rw [← lg_entry_eq] at K
    obtain ⟨t, a1, o, b1, b2, b3⟩ := K s₁ hh0 (Stand.of_body B)
    exact ⟨t, o, a1, b1, b2, b3⟩
/-- caught by a row of the table -/
theorem catX {E : String} {ce : Cell} {q : Addr} {hh : List (Nat × Nat × Nat × Nat)} (hown : s.vm.findClass own = some m.cls) (htab : c.exceptionTable.toList = tableOf hh) (pre : List ExceptionTableEntry) (x : ExceptionTableEntry) (suf : List ExceptionTableEntry) (hsplit : tableOf hh = pre ++ x :: suf)
    (hpass : ∀ z ∈ pre, z.catchType ≠ 0 ∧ ∃ nm : String, (Cond.classLink own z.catchType nm).before args s = true ∧ va_Nc E nm s) (hx : covers x pc = true) (h0 : x.catchType ≠ 0)
    (hlink : (Cond.classLink own x.catchType E).before args s = true) (hcast : va_Nw (.castable E E) s) (hcell : H[q]? = some ce) (hv : ce.vm = .none) (hcl : s.vm.findClass E = some ce.cls)
    (kk : W p l e R s m args below meth c H locs cells slots Q (F0 m x.handlerPc ls [.ref q])) : vx_W p l e R s m args below meth c H locs cells slots Q (F0 m pc ls rest) q :=
  vx_catch hown pre x suf (htab.trans hsplit) (fun z hz => Or.inr (hpass z hz)) hx h0 hlink (va_Nw.use rfl hcast) hcell hv hcl kk
end XE
