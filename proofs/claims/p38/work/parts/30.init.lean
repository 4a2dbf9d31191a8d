section XI
variable {p : Program} {l : Launch} {e : Env} {R : Room} {s : State} {m : MethodId} {args : Array Value} {below : List Frame} {meth : Method} {c : Code} {H : Heap} {locs : List Loc} {cells slots : Nat} {Q : State → Prop}
variable {cc : ByteArray} {pc : Nat} {ls : Array Slot} {rest st0 : List Value} {D : va_G} {y : Nat → ClassId} {A : Nat → Prop} {ws wc w0 : va_W} {H0 : Heap}
variable {maxL mc ms : Nat} {wo : List Cond} {rm : Room} {As : List Value} {a : Array Value}
/-- behind a call that makes cells: the others, then the callee's -/
theorem cRun_v {S : Type} {post : S → Prop} {w1 : S → va_W} (hr : va_Run p l e R s m args below meth c H locs cells slots mc ms (F0 m pc ls st0) rest (va_Qv post (fun u => bx D y (va_A wc H.size) (w1 u)) (va_A wc H.size) a) (va_A wc H.size)) (hP : va_P D vwCl ws H) (hD : va_D A ws) (hS : va_S A H0 H locs) (hA : ∀ q, H0.size ≤ q → A q) (isC isR : List Nat)
    (hC : isC.map (fun i => ws[i]?) = wc.map some) (hR : isR.map (fun i => ws[i]?) = (isR.filterMap (fun i => ws[i]?)).map some) (hn : va_nd isR = true) (hdis : ∀ i ∈ isR, i ∉ isC)
    (kk : ∀ (u : S) (H1 : Heap) (locs1 : List Loc), post u → va_P D vwCl ((isR.filterMap (fun i => ws[i]?)) ++ w1 u) H1 → va_D A ((isR.filterMap (fun i => ws[i]?)) ++ w1 u) → va_S A H0 H1 locs1 → W p l e R s m args below meth c H1 locs1 (cells + mc) (slots + ms) Q (F0 m (pc + 3) ls rest)) : W p l e R s m args below meth c H locs cells slots Q (F0 m pc ls st0) := by
  have hF := va_free hD hS hA isC hC
  refine va_callv hr hS (fun q _ h => hF q h) hF (fun u t H1 locs1 ht hvm hw hB hz hk hS1 => ?_)
  obtain ⟨b1, b2, b3⟩ := hB
  rw [ht] at b1
  obtain ⟨x1, x2⟩ := va_join hP hD isC isR hC hR hn hdis hk hF b1 b3
  exact kk u H1 locs1 hw x1 x2 hS1
theorem hd_n {S : Type} {post : S → Prop} {w1 : S → va_W} {Pex : State → Prop} {y' : MethodName} {wo' : List Cond} {sz : Nat} (hy : plainName y'.cls = true) (hw : wo = Cond.code y' cc maxL none :: wo') (hlen : (lg_sl As).length ≤ maxL)
    (body : ∀ (p : Program) (e : Env) (s : State) (m : MethodId) (args : Array Value) (below : List Frame) (meth : Method) (c : Code) (A : Nat → Prop) (Q : State → Prop) (H : Heap) (locs : List Loc) (ls : Array Slot), p.tables.exec = Jvm.exec → c.code = cc → c.maxLocals = maxL → (∀ w ∈ wo, w.before args s = true) → s.vm.findClass y'.cls = some m.cls → meth.name = y'.name → (∀ q, s.heap.size ≤ q → A q) → va_P D vwCl w0 H → va_D A w0 → va_K D vwCl (TY y) s → va_S A s.heap H locs → lv_has ls maxL (lv_args 0 As) → Pex s →
      (∀ (u : S) (H : Heap) (locs : List Loc) (ls : Array Slot) (pc : Nat), post u → decode cc pc = .ok (.return_, 1) → va_P D vwCl (w1 u) H → va_D A (w1 u) → va_S A s.heap H locs → W p l e rm s m args below meth c H locs mc ms Q (F0 m pc ls [])) →
      W p l e rm s m args below meth c H locs 0 0 Q (F0 m 0 ls [])) : Met l y' wo rm (va_Pc As (fun U => px D y sz w0 U ∧ Pex U)) (va_Qv post (fun u => bx D y (va_A w0 sz) (w1 u)) (va_A w0 sz)) mc ms (va_A w0 sz) := by
  refine Met.ofW (cc := cc) (maxL := maxL) (ret := none) hy hw ?_
  intro p e s m args below meth c s₁ B hml hv
  obtain ⟨rfl, ⟨hsz, hP, hK, hD0⟩, hex⟩ := hv
  subst hsz
  have hts := atoms_spec (ws := wo) B.pre
  have hown := findClass_of_methodNamed B.named
  have hD := hD0.self (sz := s.heap.size)
  have hl := lv_entry As (n := maxL) hlen
  rw [lg_entry_eq]
  refine body p e s m _ below meth c (va_A w0 s.heap.size) _ s.heap [] _ B.exec B.bytes hml hts hown (name_of_methodNamed B.named B.method).1 (fun q h => Or.inr h) hP hD hK va_S.rf hl hex ?_
  intro u H locs ls pc hpo hdg hP1 hD1 hS
  exact W.vret B.exec B.bytes B.returns (fun t ht hW => ⟨⟨u, rfl, hpo, by rw [ht]; exact hP1, va_K.moved hW.alike hK, hD1⟩, hS.F ht⟩) hS.2.2 hdg B.notSynchronized
theorem pxp_blind {sz : Nat} {w : va_W} {av : List Value} {Pex : State → Prop} (hb : ∀ U g mk a, Pex U → Pex (State.calling U g mk a)) : FrameBlind (va_Pc av (fun U => px D y sz w U ∧ Pex U)) := fun a U g mk q => by
  obtain ⟨q0, q1, q2⟩ := q
  exact ⟨q0, (px_blind (av := av) a U g mk ⟨q0, q1⟩).2, hb U g mk a q2⟩
end XI
def NW (U : State) : Prop := va_Nw (.methodLinkNest RX6 17 yX2_init RX6) U ∧ va_Nw (.methodLinkNest RX6 24 yX1_init RX6) U ∧ va_Nw (.methodLinkNest RX6 31 yX0_init RX6) U ∧ va_Nw (.methodLinkNest RX6 38 yX4_init RX6) U
theorem NW.to {s U : State} (h : NW s) (hW : s.WarmedH U.vm) : NW U := ⟨h.1.warmM hW, h.2.1.warmM hW, h.2.2.1.warmM hW, h.2.2.2.warmM hW⟩
def T0 (_ : State) : Prop := True
def L_X6_init : Nat → Int32 → (Nat → Int64) → Option (Nat → Int64)
  | 0, _, _ => none
  | n + 1, x, pl => if (6 : Int32) ≤ x then some pl else (if (x < 0 ∨ 6 ≤ x.toNatClampNeg) then none else L_X6_init n (x + (1 : Int32)) (vp_updL pl x.toNatClampNeg (1 : Int64)))
theorem L_X6_init_s (n : Nat) (x : Int32) (pl : Nat → Int64) : L_X6_init (n + 1) x pl = (if (6 : Int32) ≤ x then some pl else (if (x < 0 ∨ 6 ≤ x.toNatClampNeg) then none else L_X6_init n (x + (1 : Int32)) (vp_updL pl x.toNatClampNeg (1 : Int64)))) := rfl
def L_X7_init : Nat → Int32 → (Nat → Int32) → Option (Nat → Int32)
  | 0, _, _ => none
  | n + 1, x, ms => if (6 : Int32) ≤ x then some ms else (if ((((2 : Int32) * x) + (1 : Int32)) < 0 ∨ 12 ≤ (((2 : Int32) * x) + (1 : Int32)).toNatClampNeg) then none else L_X7_init n (x + (1 : Int32)) (upd ms (((2 : Int32) * x) + (1 : Int32)).toNatClampNeg (1 : Int32)))
theorem L_X7_init_s (n : Nat) (x : Int32) (ms : Nat → Int32) : L_X7_init (n + 1) x ms = (if (6 : Int32) ≤ x then some ms else (if ((((2 : Int32) * x) + (1 : Int32)) < 0 ∨ 12 ≤ (((2 : Int32) * x) + (1 : Int32)).toNatClampNeg) then none else L_X7_init n (x + (1 : Int32)) (upd ms (((2 : Int32) * x) + (1 : Int32)).toNatClampNeg (1 : Int32)))) := rfl
abbrev rm_X0_init : Room := { frames := 1, cells := 0, slots := 0, locals := 12 }
theorem hd_X0_init : yX0_init.cls ≠ "java/lang/invoke/MethodHandle" ∧ yX0_init.cls ≠ "java/lang/invoke/VarHandle" ∧ (parseMethodDescriptor yX0_init.desc).map (fun d => d.parameters.length) = some 0 := by decide +kernel
set_option maxHeartbeats 0 in
set_option maxRecDepth 100000 in
theorem c_X0_init (l : Launch) (D : va_G) (y : Nat → ClassId) (sz h0 : Nat) : Met l yX0_init wsX0_init rm_X0_init (va_Pc [.ref h0] (fun U => px D y sz [(h0, .inr (0, [.int 0, .int 0, .int 0, .int 0, .int 0, .int 0]))] U ∧ T0 U)) (va_Qv (fun (_ : Unit) => True) (fun u => bx D y (va_A [(h0, .inr (0, [.int 0, .int 0, .int 0, .int 0, .int 0, .int 0]))] sz) ([(h0, .inr (0, [.int 0, .int 0, .int 0, .int 0, .int 0, .int 0]))])) (va_A [(h0, .inr (0, [.int 0, .int 0, .int 0, .int 0, .int 0, .int 0]))] sz)) 0 0 (va_A [(h0, .inr (0, [.int 0, .int 0, .int 0, .int 0, .int 0, .int 0]))] sz) := by
  refine hd_n (cc := cX0_init) (maxL := 1) rfl rfl (Nat.le_of_ble_eq_true rfl) ?_
  intro p e s m args below meth c A Q H locs ls hx hb hml hts hown hin hA hP hD hK hS hl hex hE
  have hl : lv_has ls 1 [(0, .ref h0)] := hl
  refine lv_aload_n hx hb dX0_init_0 rfl (lv_at hl 0 rfl) ?_
  refine W.objInit hx hb hown (hts (.methodLink RX0 1 objectInit) (by decide +kernel)) (hts (.instanceMethod objectInit) (by decide +kernel)) (hts (.code objectInit ⟨#[0xb1]⟩ 1 none) (by decide +kernel)) rfl (by rw [hml]; exact hl.1) rfl dX0_init_1 (Nat.le_of_ble_eq_true rfl) (Nat.le_of_ble_eq_true rfl) ?_
  refine W.eq (g2 := F0 m 4 ls []) rfl ?_
  exact hE () _ _ _ _ trivial dX0_init_4 hP hD hS
abbrev rm_X1_init : Room := { frames := 1, cells := 1, slots := 80, locals := 12 }
theorem hd_X1_init : yX1_init.cls ≠ "java/lang/invoke/MethodHandle" ∧ yX1_init.cls ≠ "java/lang/invoke/VarHandle" ∧ (parseMethodDescriptor yX1_init.desc).map (fun d => d.parameters.length) = some 0 := by decide +kernel
set_option maxHeartbeats 0 in
set_option maxRecDepth 100000 in
theorem c_X1_init (l : Launch) (D : va_G) (y : Nat → ClassId) (sz h0 : Nat) : Met l yX1_init wsX1_init rm_X1_init (va_Pc [.ref h0] (fun U => px D y sz [(h0, .inr (1, [.null, .int 0]))] U ∧ T0 U)) (va_Qv (fun (_ : Nat) => True) (fun u => bx D y (va_A [(h0, .inr (1, [.null, .int 0]))] sz) ([(h0, .inr (1, [.ref u, .int 0])), (u, .inl (y 2, 80, .inl (fun _ => 0)))])) (va_A [(h0, .inr (1, [.null, .int 0]))] sz)) 1 80 (va_A [(h0, .inr (1, [.null, .int 0]))] sz) := by
  refine hd_n (cc := cX1_init) (maxL := 1) rfl rfl (Nat.le_of_ble_eq_true rfl) ?_
  intro p e s m args below meth c A Q H locs ls hx hb hml hts hown hin hA hP hD hK hS hl hex hE
  have hl : lv_has ls 1 [(0, .ref h0)] := hl
  have hinRX1 : ∀ w ∈ wsX10, w ∈ wsX1_init := by decide +kernel
  refine lv_aload_n hx hb dX1_init_0 rfl (lv_at hl 0 rfl) ?_
  refine W.objInit hx hb hown (hts (.methodLink RX1 1 objectInit) (by decide +kernel)) (hts (.instanceMethod objectInit) (by decide +kernel)) (hts (.code objectInit ⟨#[0xb1]⟩ 1 none) (by decide +kernel)) rfl (by rw [hml]; exact hl.1) rfl dX1_init_1 (Nat.le_of_ble_eq_true rfl) (Nat.le_of_ble_eq_true rfl) ?_
  refine W.eq (g2 := F0 m 4 ls []) rfl ?_
  refine lv_aload_n hx hb dX1_init_4 rfl (lv_at hl 0 rfl) ?_
  refine lv_bipush (v := (80 : Int32)) hx hb dX1_init_5 (by decide) ?_
  refine va_newa (atype := .char) hx hb (hts (.arrayClass .char) (by decide +kernel)) (ty := .char) rfl hK hP hD hS hA (a0 := (80, .inl (fun _ => 0))) (fun _ => rfl) (by decide) rfl (Nat.le_of_ble_eq_true rfl) (Nat.le_of_ble_eq_true rfl) (Nat.le_of_ble_eq_true rfl) dX1_init_7 (fun p1 cA H hK2 hP hD hS => ?_)
  obtain rfl : cA = y 2 := Option.some.inj ((hK2.2 4 _ rfl).2.symm.trans (hK.2 2 _ rfl).2)
  clear hK2
  have hP : va_P D vwCl [(h0, .inr (1, [.null, .int 0])), (p1, .inl (y 2, 80, .inl (fun _ => 0)))] H := hP
  have hD : va_D A [(h0, .inr (1, [.null, .int 0])), (p1, .inl (y 2, 80, .inl (fun _ => 0)))] := hD
  refine va_putF (D := D) (ci := 1) (v := .ref p1) (ty := .array .char) (C := RX1) (T := TX1) (N := 2) hx hb hts hinRX1 tyX1 tyX1_ok nmX1 hown hK hP hD hS 0 rfl rfl 0 (by decide) (hts (.fieldLink RX1 9 "SliceShares$CommandText" "characters" "[C") (by decide +kernel)) (fun _ h9 => h9) rfl hin rfl (by decide +kernel) rfl rfl (Nat.le_of_ble_eq_true rfl) dX1_init_9 (fun H locs hP hD hS => ?_)
  have hP : va_P D vwCl [(h0, .inr (1, [.ref p1, .int 0])), (p1, .inl (y 2, 80, .inl (fun _ => 0)))] H := hP
  have hD : va_D A [(h0, .inr (1, [.ref p1, .int 0])), (p1, .inl (y 2, 80, .inl (fun _ => 0)))] := hD
  exact hE p1 _ _ _ _ trivial dX1_init_12 hP hD hS
abbrev rm_X2_init : Room := { frames := 1, cells := 2, slots := 80, locals := 12 }
theorem hd_X2_init : yX2_init.cls ≠ "java/lang/invoke/MethodHandle" ∧ yX2_init.cls ≠ "java/lang/invoke/VarHandle" ∧ (parseMethodDescriptor yX2_init.desc).map (fun d => d.parameters.length) = some 0 := by decide +kernel
set_option maxHeartbeats 0 in
set_option maxRecDepth 100000 in
theorem c_X2_init (l : Launch) (D : va_G) (y : Nat → ClassId) (sz h0 : Nat) : Met l yX2_init wsX2_init rm_X2_init (va_Pc [.ref h0] (fun U => px D y sz [(h0, .inr (2, [.null, .null, .int 0]))] U ∧ T0 U)) (va_Qv (fun (_ : Nat × Nat) => True) (fun u => bx D y (va_A [(h0, .inr (2, [.null, .null, .int 0]))] sz) ([(h0, .inr (2, [.ref u.1, .ref u.2, .int 0])), (u.1, .inl (y 0, 40, .inl (fun _ => 0))), (u.2, .inl (y 1, 40, .inr (.inl (fun _ => 0))))])) (va_A [(h0, .inr (2, [.null, .null, .int 0]))] sz)) 2 80 (va_A [(h0, .inr (2, [.null, .null, .int 0]))] sz) := by
  refine hd_n (cc := cX2_init) (maxL := 1) rfl rfl (Nat.le_of_ble_eq_true rfl) ?_
  intro p e s m args below meth c A Q H locs ls hx hb hml hts hown hin hA hP hD hK hS hl hex hE
  have hl : lv_has ls 1 [(0, .ref h0)] := hl
  have hinRX2 : ∀ w ∈ wsX20, w ∈ wsX2_init := by decide +kernel
  refine lv_aload_n hx hb dX2_init_0 rfl (lv_at hl 0 rfl) ?_
  refine W.objInit hx hb hown (hts (.methodLink RX2 1 objectInit) (by decide +kernel)) (hts (.instanceMethod objectInit) (by decide +kernel)) (hts (.code objectInit ⟨#[0xb1]⟩ 1 none) (by decide +kernel)) rfl (by rw [hml]; exact hl.1) rfl dX2_init_1 (Nat.le_of_ble_eq_true rfl) (Nat.le_of_ble_eq_true rfl) ?_
  refine W.eq (g2 := F0 m 4 ls []) rfl ?_
  refine lv_aload_n hx hb dX2_init_4 rfl (lv_at hl 0 rfl) ?_
  refine lv_bipush (v := (40 : Int32)) hx hb dX2_init_5 (by decide) ?_
  refine va_newa (atype := .int) hx hb (hts (.arrayClass .int) (by decide +kernel)) (ty := .int) rfl hK hP hD hS hA (a0 := (40, .inl (fun _ => 0))) (fun _ => rfl) (by decide) rfl (Nat.le_of_ble_eq_true rfl) (Nat.le_of_ble_eq_true rfl) (Nat.le_of_ble_eq_true rfl) dX2_init_7 (fun p1 cA H hK2 hP hD hS => ?_)
  obtain rfl : cA = y 0 := Option.some.inj ((hK2.2 4 _ rfl).2.symm.trans (hK.2 0 _ rfl).2)
  clear hK2
  have hP : va_P D vwCl [(h0, .inr (2, [.null, .null, .int 0])), (p1, .inl (y 0, 40, .inl (fun _ => 0)))] H := hP
  have hD : va_D A [(h0, .inr (2, [.null, .null, .int 0])), (p1, .inl (y 0, 40, .inl (fun _ => 0)))] := hD
  refine va_putF (D := D) (ci := 2) (v := .ref p1) (ty := .array .int) (C := RX2) (T := TX2) (N := 3) hx hb hts hinRX2 tyX2 tyX2_ok nmX2 hown hK hP hD hS 0 rfl rfl 0 (by decide) (hts (.fieldLink RX2 9 "SliceShares$ContinuedFraction" "terms" "[I") (by decide +kernel)) (fun _ h9 => h9) rfl hin rfl (by decide +kernel) rfl rfl (Nat.le_of_ble_eq_true rfl) dX2_init_9 (fun H locs hP hD hS => ?_)
  have hP : va_P D vwCl [(h0, .inr (2, [.ref p1, .null, .int 0])), (p1, .inl (y 0, 40, .inl (fun _ => 0)))] H := hP
  have hD : va_D A [(h0, .inr (2, [.ref p1, .null, .int 0])), (p1, .inl (y 0, 40, .inl (fun _ => 0)))] := hD
  refine lv_aload_n hx hb dX2_init_12 rfl (lv_at hl 0 rfl) ?_
  refine lv_bipush (v := (40 : Int32)) hx hb dX2_init_13 (by decide) ?_
  refine va_newa (atype := .long) hx hb (hts (.arrayClass .long) (by decide +kernel)) (ty := .long) rfl hK hP hD hS hA (a0 := (40, .inr (.inl (fun _ => 0)))) (fun _ => rfl) (by decide) rfl (Nat.le_of_ble_eq_true rfl) (Nat.le_of_ble_eq_true rfl) (Nat.le_of_ble_eq_true rfl) dX2_init_15 (fun p2 cA H hK2 hP hD hS => ?_)
  obtain rfl : cA = y 1 := Option.some.inj ((hK2.2 4 _ rfl).2.symm.trans (hK.2 1 _ rfl).2)
  clear hK2
  have hP : va_P D vwCl [(h0, .inr (2, [.ref p1, .null, .int 0])), (p1, .inl (y 0, 40, .inl (fun _ => 0))), (p2, .inl (y 1, 40, .inr (.inl (fun _ => 0))))] H := hP
  have hD : va_D A [(h0, .inr (2, [.ref p1, .null, .int 0])), (p1, .inl (y 0, 40, .inl (fun _ => 0))), (p2, .inl (y 1, 40, .inr (.inl (fun _ => 0))))] := hD
  refine va_putF (D := D) (ci := 2) (v := .ref p2) (ty := .array .long) (C := RX2) (T := TX2) (N := 3) hx hb hts hinRX2 tyX2 tyX2_ok nmX2 hown hK hP hD hS 0 rfl rfl 1 (by decide) (hts (.fieldLink RX2 13 "SliceShares$ContinuedFraction" "beginnings" "[J") (by decide +kernel)) (fun _ h9 => h9) rfl hin rfl (by decide +kernel) rfl rfl (Nat.le_of_ble_eq_true rfl) dX2_init_17 (fun H locs hP hD hS => ?_)
  have hP : va_P D vwCl [(h0, .inr (2, [.ref p1, .ref p2, .int 0])), (p1, .inl (y 0, 40, .inl (fun _ => 0))), (p2, .inl (y 1, 40, .inr (.inl (fun _ => 0))))] H := hP
  have hD : va_D A [(h0, .inr (2, [.ref p1, .ref p2, .int 0])), (p1, .inl (y 0, 40, .inl (fun _ => 0))), (p2, .inl (y 1, 40, .inr (.inl (fun _ => 0))))] := hD
  exact hE (p1, p2) _ _ _ _ trivial dX2_init_20 hP hD hS
abbrev rm_X4_init : Room := { frames := 1, cells := 1, slots := 36, locals := 12 }
theorem hd_X4_init : yX4_init.cls ≠ "java/lang/invoke/MethodHandle" ∧ yX4_init.cls ≠ "java/lang/invoke/VarHandle" ∧ (parseMethodDescriptor yX4_init.desc).map (fun d => d.parameters.length) = some 0 := by decide +kernel
set_option maxHeartbeats 0 in
set_option maxRecDepth 100000 in
theorem c_X4_init (l : Launch) (D : va_G) (y : Nat → ClassId) (sz h0 : Nat) : Met l yX4_init wsX4_init rm_X4_init (va_Pc [.ref h0] (fun U => px D y sz [(h0, .inr (3, [.null, .int 0, .int 0]))] U ∧ T0 U)) (va_Qv (fun (_ : Nat) => True) (fun u => bx D y (va_A [(h0, .inr (3, [.null, .int 0, .int 0]))] sz) ([(h0, .inr (3, [.ref u, .int 0, .int 0])), (u, .inl (y 1, 36, .inr (.inl (fun _ => 0))))])) (va_A [(h0, .inr (3, [.null, .int 0, .int 0]))] sz)) 1 36 (va_A [(h0, .inr (3, [.null, .int 0, .int 0]))] sz) := by
  refine hd_n (cc := cX4_init) (maxL := 1) rfl rfl (Nat.le_of_ble_eq_true rfl) ?_
  intro p e s m args below meth c A Q H locs ls hx hb hml hts hown hin hA hP hD hK hS hl hex hE
  have hl : lv_has ls 1 [(0, .ref h0)] := hl
  have hinRX4 : ∀ w ∈ wsX40, w ∈ wsX4_init := by decide +kernel
  refine lv_aload_n hx hb dX4_init_0 rfl (lv_at hl 0 rfl) ?_
  refine W.objInit hx hb hown (hts (.methodLink RX4 3 objectInit) (by decide +kernel)) (hts (.instanceMethod objectInit) (by decide +kernel)) (hts (.code objectInit ⟨#[0xb1]⟩ 1 none) (by decide +kernel)) rfl (by rw [hml]; exact hl.1) rfl dX4_init_1 (Nat.le_of_ble_eq_true rfl) (Nat.le_of_ble_eq_true rfl) ?_
  refine W.eq (g2 := F0 m 4 ls []) rfl ?_
  refine lv_aload_n hx hb dX4_init_4 rfl (lv_at hl 0 rfl) ?_
  refine lv_bipush (v := (36 : Int32)) hx hb dX4_init_5 (by decide) ?_
  refine va_newa (atype := .long) hx hb (hts (.arrayClass .long) (by decide +kernel)) (ty := .long) rfl hK hP hD hS hA (a0 := (36, .inr (.inl (fun _ => 0)))) (fun _ => rfl) (by decide) rfl (Nat.le_of_ble_eq_true rfl) (Nat.le_of_ble_eq_true rfl) (Nat.le_of_ble_eq_true rfl) dX4_init_7 (fun p1 cA H hK2 hP hD hS => ?_)
  obtain rfl : cA = y 1 := Option.some.inj ((hK2.2 4 _ rfl).2.symm.trans (hK.2 1 _ rfl).2)
  clear hK2
  have hP : va_P D vwCl [(h0, .inr (3, [.null, .int 0, .int 0])), (p1, .inl (y 1, 36, .inr (.inl (fun _ => 0))))] H := hP
  have hD : va_D A [(h0, .inr (3, [.null, .int 0, .int 0])), (p1, .inl (y 1, 36, .inr (.inl (fun _ => 0))))] := hD
  refine va_putF (D := D) (ci := 3) (v := .ref p1) (ty := .array .long) (C := RX4) (T := TX4) (N := 3) hx hb hts hinRX4 tyX4 tyX4_ok nmX4 hown hK hP hD hS 0 rfl rfl 0 (by decide) (hts (.fieldLink RX4 11 "SliceShares$History" "states" "[J") (by decide +kernel)) (fun _ h9 => h9) rfl hin rfl (by decide +kernel) rfl rfl (Nat.le_of_ble_eq_true rfl) dX4_init_9 (fun H locs hP hD hS => ?_)
  have hP : va_P D vwCl [(h0, .inr (3, [.ref p1, .int 0, .int 0])), (p1, .inl (y 1, 36, .inr (.inl (fun _ => 0))))] H := hP
  have hD : va_D A [(h0, .inr (3, [.ref p1, .int 0, .int 0])), (p1, .inl (y 1, 36, .inr (.inl (fun _ => 0))))] := hD
  exact hE p1 _ _ _ _ trivial dX4_init_12 hP hD hS
abbrev rm_X6_init : Room := { frames := 2, cells := 11, slots := 230, locals := 40 }
theorem hd_X6_init : yX6_init.cls ≠ "java/lang/invoke/MethodHandle" ∧ yX6_init.cls ≠ "java/lang/invoke/VarHandle" ∧ (parseMethodDescriptor yX6_init.desc).map (fun d => d.parameters.length) = some 0 := by decide +kernel
set_option maxHeartbeats 0 in
set_option maxRecDepth 100000 in
theorem c_X6_init (l : Launch) (D : va_G) (y : Nat → ClassId) (sz h0 : Nat) (pl : Nat → Int64) (h : L_X6_init FU (0 : Int32) (fun _ => 0) = some pl) : Met l yX6_init wsX6_init rm_X6_init (va_Pc [.ref h0] (fun U => px D y sz [(h0, .inr (4, [.null, .null, .null, .null, .null, .null, .null]))] U ∧ NW U)) (va_Qv (fun (u : Nat → Nat) => u 0 = h0) (fun u => bx D y (va_A [(h0, .inr (4, [.null, .null, .null, .null, .null, .null, .null]))] sz) (XW u y pl (fun _ => 0) (fun _ => 0) 0 (fun _ => 0) 0 0 0 0 0 0 0 (fun _ => 0) 0 0 (fun _ => 0) (fun _ => 0))) (va_A [(h0, .inr (4, [.null, .null, .null, .null, .null, .null, .null]))] sz)) 11 230 (va_A [(h0, .inr (4, [.null, .null, .null, .null, .null, .null, .null]))] sz) := by
  refine hd_n (cc := cX6_init) (maxL := 2) rfl rfl (Nat.le_of_ble_eq_true rfl) ?_
  intro p e s m args below meth c A Q H locs ls hx hb hml hts hown hin hA hP hD hK hS hl hex hE
  have hl : lv_has ls 2 [(0, .ref h0)] := hl
  have hinRX6 : ∀ w ∈ wsX60, w ∈ wsX6_init := by decide +kernel
  refine lv_aload_n hx hb dX6_init_0 rfl (lv_at hl 0 rfl) ?_
  refine W.objInit hx hb hown (hts (.methodLink RX6 1 objectInit) (by decide +kernel)) (hts (.instanceMethod objectInit) (by decide +kernel)) (hts (.code objectInit ⟨#[0xb1]⟩ 1 none) (by decide +kernel)) rfl (by rw [hml]; exact hl.1) rfl dX6_init_1 (Nat.le_of_ble_eq_true rfl) (Nat.le_of_ble_eq_true rfl) ?_
  refine W.eq (g2 := F0 m 4 ls []) rfl ?_
  refine lv_aload_n hx hb dX6_init_4 rfl (lv_at hl 0 rfl) ?_
  refine lv_bipush (v := (6 : Int32)) hx hb dX6_init_5 (by decide) ?_
  refine va_newa (atype := .long) hx hb (hts (.arrayClass .long) (by decide +kernel)) (ty := .long) rfl hK hP hD hS hA (a0 := (6, .inr (.inl (fun _ => 0)))) (fun _ => rfl) (by decide) rfl (Nat.le_of_ble_eq_true rfl) (Nat.le_of_ble_eq_true rfl) (Nat.le_of_ble_eq_true rfl) dX6_init_7 (fun p1 cA H hK2 hP hD hS => ?_)
  obtain rfl : cA = y 1 := Option.some.inj ((hK2.2 4 _ rfl).2.symm.trans (hK.2 1 _ rfl).2)
  clear hK2
  have hP : va_P D vwCl [(h0, .inr (4, [.null, .null, .null, .null, .null, .null, .null])), (p1, .inl (y 1, 6, .inr (.inl (fun _ => 0))))] H := hP
  have hD : va_D A [(h0, .inr (4, [.null, .null, .null, .null, .null, .null, .null])), (p1, .inl (y 1, 6, .inr (.inl (fun _ => 0))))] := hD
  refine va_putF (D := D) (ci := 4) (v := .ref p1) (ty := .array .long) (C := RX6) (T := TX6) (N := 7) hx hb hts hinRX6 tyX6 tyX6_ok nmX6 hown hK hP hD hS 0 rfl rfl 0 (by decide) (hts (.fieldLink RX6 9 "SliceShares" "plates" "[J") (by decide +kernel)) (fun _ h9 => h9) rfl hin rfl (by decide +kernel) rfl rfl (Nat.le_of_ble_eq_true rfl) dX6_init_9 (fun H locs hP hD hS => ?_)
  have hP : va_P D vwCl [(h0, .inr (4, [.ref p1, .null, .null, .null, .null, .null, .null])), (p1, .inl (y 1, 6, .inr (.inl (fun _ => 0))))] H := hP
  have hD : va_D A [(h0, .inr (4, [.ref p1, .null, .null, .null, .null, .null, .null])), (p1, .inl (y 1, 6, .inr (.inl (fun _ => 0))))] := hD
  refine lv_iconst (v := (0 : Int32)) hx hb dX6_init_12 (by decide) ?_
  refine lv_istore_n (lv' := [(1, .int (0 : Int32)), (0, .ref h0)]) hx hb dX6_init_13 rfl hl (by decide) rfl (fun ls hl => ?_)
  have J : ∀ (H : Heap) (locs : List Loc) (ls : Array Slot), va_P D vwCl [(h0, .inr (4, [.ref p1, .null, .null, .null, .null, .null, .null])), (p1, .inl (y 1, 6, .inr (.inl pl)))] H → va_D A [(h0, .inr (4, [.ref p1, .null, .null, .null, .null, .null, .null])), (p1, .inl (y 1, 6, .inr (.inl pl)))] → va_S A s.heap H locs → lv_has ls 2 [(0, .ref h0)] → W p l e rm_X6_init s m args below meth c H locs (0 + 1) (0 + 6) Q (F0 m 33 ls []) := by
    intro H locs ls hP hD hS hl
    refine lv_aload_n hx hb dX6_init_33 rfl (lv_at hl 0 rfl) ?_
    refine va_new (ci := 2) (fs := [.null, .null, .int 0]) (C := RX2) (T := TX2) (N := 3) hx hb hts (by decide +kernel) tyX2 tyX2_ok hown (hts (.classLink RX6 15 RX2) (by decide +kernel)) (hts (.instantiable RX2 3) (by decide +kernel)) (hts (.initialized RX2) (by decide +kernel)) hK hP hD hS hA rfl (fun j hj => by rcases (show j = 0 ∨ j = 1 ∨ j = 2 by omega) with rfl | rfl | rfl <;> rfl) (Nat.le_of_ble_eq_true rfl) (Nat.le_of_ble_eq_true rfl) dX6_init_34 (fun qCF H hP hD hS => ?_)
    have hP : va_P D vwCl [(h0, .inr (4, [.ref p1, .null, .null, .null, .null, .null, .null])), (p1, .inl (y 1, 6, .inr (.inl pl))), (qCF, .inr (2, [.null, .null, .int 0]))] H := hP
    have hD : va_D A [(h0, .inr (4, [.ref p1, .null, .null, .null, .null, .null, .null])), (p1, .inl (y 1, 6, .inr (.inl pl))), (qCF, .inr (2, [.null, .null, .int 0]))] := hD
    refine lv_dup hx hb dX6_init_37 rfl ?_
    obtain ⟨hpre, hPc⟩ := px_of (av := [.ref qCF]) hK hP hD [2] (wc := [(qCF, .inr (2, [.null, .null, .int 0]))]) rfl rfl
    refine cRun_v (va_runIN (As := []) (rest := [.ref qCF, .ref h0]) ⟨hx, hb, hml, hown, hts⟩ (c_X2_init l D y _ qCF) ⟨va_cnB 0 hts gX6_init_X2_init_n17 rfl rfl rfl hex.1 (hts (.initialized RX2) (by decide +kernel)) hd_X2_init ⟨Nat.le_of_ble_eq_true rfl, Nat.le_of_ble_eq_true rfl⟩, rfl, (hts (.instanceMethod yX2_init) (by decide +kernel))⟩ ⟨pxp_blind (fun _ _ _ _ h => h), fun U hU hW => ⟨rfl, (hpre U hU hW).2, trivial⟩⟩ rfl rfl hl.1 rfl (lv_room (Nat.le_of_ble_eq_true rfl)) dX6_init_38 ⟨Nat.le_of_ble_eq_true rfl, Nat.le_of_ble_eq_true rfl⟩) hP hD hS hA [2] [0, 1] rfl rfl rfl (by decide) (fun u2 H locs _ hP hD hS => ?_)
    have hP : va_P D vwCl [(h0, .inr (4, [.ref p1, .null, .null, .null, .null, .null, .null])), (p1, .inl (y 1, 6, .inr (.inl pl))), (qCF, .inr (2, [.ref u2.1, .ref u2.2, .int 0])), (u2.1, .inl (y 0, 40, .inl (fun _ => 0))), (u2.2, .inl (y 1, 40, .inr (.inl (fun _ => 0))))] H := hP
    have hD : va_D A [(h0, .inr (4, [.ref p1, .null, .null, .null, .null, .null, .null])), (p1, .inl (y 1, 6, .inr (.inl pl))), (qCF, .inr (2, [.ref u2.1, .ref u2.2, .int 0])), (u2.1, .inl (y 0, 40, .inl (fun _ => 0))), (u2.2, .inl (y 1, 40, .inr (.inl (fun _ => 0))))] := hD
    refine va_putF (D := D) (ci := 4) (v := .ref qCF) (ty := .object "SliceShares$ContinuedFraction") (C := RX6) (T := TX6) (N := 7) hx hb hts hinRX6 tyX6 tyX6_ok nmX6 hown hK hP hD hS 0 rfl rfl 1 (by decide) (hts (.fieldLink RX6 18 "SliceShares" "continued" "LSliceShares$ContinuedFraction;") (by decide +kernel)) (fun _ h9 => h9) rfl hin rfl (by decide +kernel) rfl rfl (Nat.le_of_ble_eq_true rfl) dX6_init_41 (fun H locs hP hD hS => ?_)
    have hP : va_P D vwCl [(h0, .inr (4, [.ref p1, .ref qCF, .null, .null, .null, .null, .null])), (p1, .inl (y 1, 6, .inr (.inl pl))), (qCF, .inr (2, [.ref u2.1, .ref u2.2, .int 0])), (u2.1, .inl (y 0, 40, .inl (fun _ => 0))), (u2.2, .inl (y 1, 40, .inr (.inl (fun _ => 0))))] H := hP
    have hD : va_D A [(h0, .inr (4, [.ref p1, .ref qCF, .null, .null, .null, .null, .null])), (p1, .inl (y 1, 6, .inr (.inl pl))), (qCF, .inr (2, [.ref u2.1, .ref u2.2, .int 0])), (u2.1, .inl (y 0, 40, .inl (fun _ => 0))), (u2.2, .inl (y 1, 40, .inr (.inl (fun _ => 0))))] := hD
    refine lv_aload_n hx hb dX6_init_44 rfl (lv_at hl 0 rfl) ?_
    refine va_new (ci := 1) (fs := [.null, .int 0]) (C := RX1) (T := TX1) (N := 2) hx hb hts (by decide +kernel) tyX1 tyX1_ok hown (hts (.classLink RX6 22 RX1) (by decide +kernel)) (hts (.instantiable RX1 2) (by decide +kernel)) (hts (.initialized RX1) (by decide +kernel)) hK hP hD hS hA rfl (fun j hj => by rcases (show j = 0 ∨ j = 1 by omega) with rfl | rfl <;> rfl) (Nat.le_of_ble_eq_true rfl) (Nat.le_of_ble_eq_true rfl) dX6_init_45 (fun qCT H hP hD hS => ?_)
    have hP : va_P D vwCl [(h0, .inr (4, [.ref p1, .ref qCF, .null, .null, .null, .null, .null])), (p1, .inl (y 1, 6, .inr (.inl pl))), (qCF, .inr (2, [.ref u2.1, .ref u2.2, .int 0])), (u2.1, .inl (y 0, 40, .inl (fun _ => 0))), (u2.2, .inl (y 1, 40, .inr (.inl (fun _ => 0)))), (qCT, .inr (1, [.null, .int 0]))] H := hP
    have hD : va_D A [(h0, .inr (4, [.ref p1, .ref qCF, .null, .null, .null, .null, .null])), (p1, .inl (y 1, 6, .inr (.inl pl))), (qCF, .inr (2, [.ref u2.1, .ref u2.2, .int 0])), (u2.1, .inl (y 0, 40, .inl (fun _ => 0))), (u2.2, .inl (y 1, 40, .inr (.inl (fun _ => 0)))), (qCT, .inr (1, [.null, .int 0]))] := hD
    refine lv_dup hx hb dX6_init_48 rfl ?_
    obtain ⟨hpre, hPc⟩ := px_of (av := [.ref qCT]) hK hP hD [5] (wc := [(qCT, .inr (1, [.null, .int 0]))]) rfl rfl
    refine cRun_v (va_runIN (As := []) (rest := [.ref qCT, .ref h0]) ⟨hx, hb, hml, hown, hts⟩ (c_X1_init l D y _ qCT) ⟨va_cnB 0 hts gX6_init_X1_init_n24 rfl rfl rfl hex.2.1 (hts (.initialized RX1) (by decide +kernel)) hd_X1_init ⟨Nat.le_of_ble_eq_true rfl, Nat.le_of_ble_eq_true rfl⟩, rfl, (hts (.instanceMethod yX1_init) (by decide +kernel))⟩ ⟨pxp_blind (fun _ _ _ _ h => h), fun U hU hW => ⟨rfl, (hpre U hU hW).2, trivial⟩⟩ rfl rfl hl.1 rfl (lv_room (Nat.le_of_ble_eq_true rfl)) dX6_init_49 ⟨Nat.le_of_ble_eq_true rfl, Nat.le_of_ble_eq_true rfl⟩) hP hD hS hA [5] [0, 1, 2, 3, 4] rfl rfl rfl (by decide) (fun u1 H locs _ hP hD hS => ?_)
    have hP : va_P D vwCl [(h0, .inr (4, [.ref p1, .ref qCF, .null, .null, .null, .null, .null])), (p1, .inl (y 1, 6, .inr (.inl pl))), (qCF, .inr (2, [.ref u2.1, .ref u2.2, .int 0])), (u2.1, .inl (y 0, 40, .inl (fun _ => 0))), (u2.2, .inl (y 1, 40, .inr (.inl (fun _ => 0)))), (qCT, .inr (1, [.ref u1, .int 0])), (u1, .inl (y 2, 80, .inl (fun _ => 0)))] H := hP
    have hD : va_D A [(h0, .inr (4, [.ref p1, .ref qCF, .null, .null, .null, .null, .null])), (p1, .inl (y 1, 6, .inr (.inl pl))), (qCF, .inr (2, [.ref u2.1, .ref u2.2, .int 0])), (u2.1, .inl (y 0, 40, .inl (fun _ => 0))), (u2.2, .inl (y 1, 40, .inr (.inl (fun _ => 0)))), (qCT, .inr (1, [.ref u1, .int 0])), (u1, .inl (y 2, 80, .inl (fun _ => 0)))] := hD
    refine va_putF (D := D) (ci := 4) (v := .ref qCT) (ty := .object "SliceShares$CommandText") (C := RX6) (T := TX6) (N := 7) hx hb hts hinRX6 tyX6 tyX6_ok nmX6 hown hK hP hD hS 0 rfl rfl 2 (by decide) (hts (.fieldLink RX6 25 "SliceShares" "text" "LSliceShares$CommandText;") (by decide +kernel)) (fun _ h9 => h9) rfl hin rfl (by decide +kernel) rfl rfl (Nat.le_of_ble_eq_true rfl) dX6_init_52 (fun H locs hP hD hS => ?_)
    have hP : va_P D vwCl [(h0, .inr (4, [.ref p1, .ref qCF, .ref qCT, .null, .null, .null, .null])), (p1, .inl (y 1, 6, .inr (.inl pl))), (qCF, .inr (2, [.ref u2.1, .ref u2.2, .int 0])), (u2.1, .inl (y 0, 40, .inl (fun _ => 0))), (u2.2, .inl (y 1, 40, .inr (.inl (fun _ => 0)))), (qCT, .inr (1, [.ref u1, .int 0])), (u1, .inl (y 2, 80, .inl (fun _ => 0)))] H := hP
    have hD : va_D A [(h0, .inr (4, [.ref p1, .ref qCF, .ref qCT, .null, .null, .null, .null])), (p1, .inl (y 1, 6, .inr (.inl pl))), (qCF, .inr (2, [.ref u2.1, .ref u2.2, .int 0])), (u2.1, .inl (y 0, 40, .inl (fun _ => 0))), (u2.2, .inl (y 1, 40, .inr (.inl (fun _ => 0)))), (qCT, .inr (1, [.ref u1, .int 0])), (u1, .inl (y 2, 80, .inl (fun _ => 0)))] := hD
    refine lv_aload_n hx hb dX6_init_55 rfl (lv_at hl 0 rfl) ?_
    refine va_new (ci := 0) (fs := [.int 0, .int 0, .int 0, .int 0, .int 0, .int 0]) (C := RX0) (T := TX0) (N := 6) hx hb hts (by decide +kernel) tyX0 tyX0_ok hown (hts (.classLink RX6 29 RX0) (by decide +kernel)) (hts (.instantiable RX0 6) (by decide +kernel)) (hts (.initialized RX0) (by decide +kernel)) hK hP hD hS hA rfl (fun j hj => by rcases (show j = 0 ∨ j = 1 ∨ j = 2 ∨ j = 3 ∨ j = 4 ∨ j = 5 by omega) with rfl | rfl | rfl | rfl | rfl | rfl <;> rfl) (Nat.le_of_ble_eq_true rfl) (Nat.le_of_ble_eq_true rfl) dX6_init_56 (fun qRD H hP hD hS => ?_)
    have hP : va_P D vwCl [(h0, .inr (4, [.ref p1, .ref qCF, .ref qCT, .null, .null, .null, .null])), (p1, .inl (y 1, 6, .inr (.inl pl))), (qCF, .inr (2, [.ref u2.1, .ref u2.2, .int 0])), (u2.1, .inl (y 0, 40, .inl (fun _ => 0))), (u2.2, .inl (y 1, 40, .inr (.inl (fun _ => 0)))), (qCT, .inr (1, [.ref u1, .int 0])), (u1, .inl (y 2, 80, .inl (fun _ => 0))), (qRD, .inr (0, [.int 0, .int 0, .int 0, .int 0, .int 0, .int 0]))] H := hP
    have hD : va_D A [(h0, .inr (4, [.ref p1, .ref qCF, .ref qCT, .null, .null, .null, .null])), (p1, .inl (y 1, 6, .inr (.inl pl))), (qCF, .inr (2, [.ref u2.1, .ref u2.2, .int 0])), (u2.1, .inl (y 0, 40, .inl (fun _ => 0))), (u2.2, .inl (y 1, 40, .inr (.inl (fun _ => 0)))), (qCT, .inr (1, [.ref u1, .int 0])), (u1, .inl (y 2, 80, .inl (fun _ => 0))), (qRD, .inr (0, [.int 0, .int 0, .int 0, .int 0, .int 0, .int 0]))] := hD
    refine lv_dup hx hb dX6_init_59 rfl ?_
    obtain ⟨hpre, hPc⟩ := px_of (av := [.ref qRD]) hK hP hD [7] (wc := [(qRD, .inr (0, [.int 0, .int 0, .int 0, .int 0, .int 0, .int 0]))]) rfl rfl
    refine cRun_v (va_runIN (As := []) (rest := [.ref qRD, .ref h0]) ⟨hx, hb, hml, hown, hts⟩ (c_X0_init l D y _ qRD) ⟨va_cnB 0 hts gX6_init_X0_init_n31 rfl rfl rfl hex.2.2.1 (hts (.initialized RX0) (by decide +kernel)) hd_X0_init ⟨Nat.le_of_ble_eq_true rfl, Nat.le_of_ble_eq_true rfl⟩, rfl, (hts (.instanceMethod yX0_init) (by decide +kernel))⟩ ⟨pxp_blind (fun _ _ _ _ h => h), fun U hU hW => ⟨rfl, (hpre U hU hW).2, trivial⟩⟩ rfl rfl hl.1 rfl (lv_room (Nat.le_of_ble_eq_true rfl)) dX6_init_60 ⟨Nat.le_of_ble_eq_true rfl, Nat.le_of_ble_eq_true rfl⟩) hP hD hS hA [7] [0, 1, 2, 3, 4, 5, 6] rfl rfl rfl (by decide) (fun u0 H locs _ hP hD hS => ?_)
    have hP : va_P D vwCl [(h0, .inr (4, [.ref p1, .ref qCF, .ref qCT, .null, .null, .null, .null])), (p1, .inl (y 1, 6, .inr (.inl pl))), (qCF, .inr (2, [.ref u2.1, .ref u2.2, .int 0])), (u2.1, .inl (y 0, 40, .inl (fun _ => 0))), (u2.2, .inl (y 1, 40, .inr (.inl (fun _ => 0)))), (qCT, .inr (1, [.ref u1, .int 0])), (u1, .inl (y 2, 80, .inl (fun _ => 0))), (qRD, .inr (0, [.int 0, .int 0, .int 0, .int 0, .int 0, .int 0]))] H := hP
    have hD : va_D A [(h0, .inr (4, [.ref p1, .ref qCF, .ref qCT, .null, .null, .null, .null])), (p1, .inl (y 1, 6, .inr (.inl pl))), (qCF, .inr (2, [.ref u2.1, .ref u2.2, .int 0])), (u2.1, .inl (y 0, 40, .inl (fun _ => 0))), (u2.2, .inl (y 1, 40, .inr (.inl (fun _ => 0)))), (qCT, .inr (1, [.ref u1, .int 0])), (u1, .inl (y 2, 80, .inl (fun _ => 0))), (qRD, .inr (0, [.int 0, .int 0, .int 0, .int 0, .int 0, .int 0]))] := hD
    refine va_putF (D := D) (ci := 4) (v := .ref qRD) (ty := .object "SliceShares$CommandReader") (C := RX6) (T := TX6) (N := 7) hx hb hts hinRX6 tyX6 tyX6_ok nmX6 hown hK hP hD hS 0 rfl rfl 3 (by decide) (hts (.fieldLink RX6 32 "SliceShares" "reader" "LSliceShares$CommandReader;") (by decide +kernel)) (fun _ h9 => h9) rfl hin rfl (by decide +kernel) rfl rfl (Nat.le_of_ble_eq_true rfl) dX6_init_63 (fun H locs hP hD hS => ?_)
    have hP : va_P D vwCl [(h0, .inr (4, [.ref p1, .ref qCF, .ref qCT, .ref qRD, .null, .null, .null])), (p1, .inl (y 1, 6, .inr (.inl pl))), (qCF, .inr (2, [.ref u2.1, .ref u2.2, .int 0])), (u2.1, .inl (y 0, 40, .inl (fun _ => 0))), (u2.2, .inl (y 1, 40, .inr (.inl (fun _ => 0)))), (qCT, .inr (1, [.ref u1, .int 0])), (u1, .inl (y 2, 80, .inl (fun _ => 0))), (qRD, .inr (0, [.int 0, .int 0, .int 0, .int 0, .int 0, .int 0]))] H := hP
    have hD : va_D A [(h0, .inr (4, [.ref p1, .ref qCF, .ref qCT, .ref qRD, .null, .null, .null])), (p1, .inl (y 1, 6, .inr (.inl pl))), (qCF, .inr (2, [.ref u2.1, .ref u2.2, .int 0])), (u2.1, .inl (y 0, 40, .inl (fun _ => 0))), (u2.2, .inl (y 1, 40, .inr (.inl (fun _ => 0)))), (qCT, .inr (1, [.ref u1, .int 0])), (u1, .inl (y 2, 80, .inl (fun _ => 0))), (qRD, .inr (0, [.int 0, .int 0, .int 0, .int 0, .int 0, .int 0]))] := hD
    refine lv_aload_n hx hb dX6_init_66 rfl (lv_at hl 0 rfl) ?_
    refine va_new (ci := 3) (fs := [.null, .int 0, .int 0]) (C := RX4) (T := TX4) (N := 3) hx hb hts (by decide +kernel) tyX4 tyX4_ok hown (hts (.classLink RX6 36 RX4) (by decide +kernel)) (hts (.instantiable RX4 3) (by decide +kernel)) (hts (.initialized RX4) (by decide +kernel)) hK hP hD hS hA rfl (fun j hj => by rcases (show j = 0 ∨ j = 1 ∨ j = 2 by omega) with rfl | rfl | rfl <;> rfl) (Nat.le_of_ble_eq_true rfl) (Nat.le_of_ble_eq_true rfl) dX6_init_67 (fun qHI H hP hD hS => ?_)
    have hP : va_P D vwCl [(h0, .inr (4, [.ref p1, .ref qCF, .ref qCT, .ref qRD, .null, .null, .null])), (p1, .inl (y 1, 6, .inr (.inl pl))), (qCF, .inr (2, [.ref u2.1, .ref u2.2, .int 0])), (u2.1, .inl (y 0, 40, .inl (fun _ => 0))), (u2.2, .inl (y 1, 40, .inr (.inl (fun _ => 0)))), (qCT, .inr (1, [.ref u1, .int 0])), (u1, .inl (y 2, 80, .inl (fun _ => 0))), (qRD, .inr (0, [.int 0, .int 0, .int 0, .int 0, .int 0, .int 0])), (qHI, .inr (3, [.null, .int 0, .int 0]))] H := hP
    have hD : va_D A [(h0, .inr (4, [.ref p1, .ref qCF, .ref qCT, .ref qRD, .null, .null, .null])), (p1, .inl (y 1, 6, .inr (.inl pl))), (qCF, .inr (2, [.ref u2.1, .ref u2.2, .int 0])), (u2.1, .inl (y 0, 40, .inl (fun _ => 0))), (u2.2, .inl (y 1, 40, .inr (.inl (fun _ => 0)))), (qCT, .inr (1, [.ref u1, .int 0])), (u1, .inl (y 2, 80, .inl (fun _ => 0))), (qRD, .inr (0, [.int 0, .int 0, .int 0, .int 0, .int 0, .int 0])), (qHI, .inr (3, [.null, .int 0, .int 0]))] := hD
    refine lv_dup hx hb dX6_init_70 rfl ?_
    obtain ⟨hpre, hPc⟩ := px_of (av := [.ref qHI]) hK hP hD [8] (wc := [(qHI, .inr (3, [.null, .int 0, .int 0]))]) rfl rfl
    refine cRun_v (va_runIN (As := []) (rest := [.ref qHI, .ref h0]) ⟨hx, hb, hml, hown, hts⟩ (c_X4_init l D y _ qHI) ⟨va_cnB 0 hts gX6_init_X4_init_n38 rfl rfl rfl hex.2.2.2 (hts (.initialized RX4) (by decide +kernel)) hd_X4_init ⟨Nat.le_of_ble_eq_true rfl, Nat.le_of_ble_eq_true rfl⟩, rfl, (hts (.instanceMethod yX4_init) (by decide +kernel))⟩ ⟨pxp_blind (fun _ _ _ _ h => h), fun U hU hW => ⟨rfl, (hpre U hU hW).2, trivial⟩⟩ rfl rfl hl.1 rfl (lv_room (Nat.le_of_ble_eq_true rfl)) dX6_init_71 ⟨Nat.le_of_ble_eq_true rfl, Nat.le_of_ble_eq_true rfl⟩) hP hD hS hA [8] [0, 1, 2, 3, 4, 5, 6, 7] rfl rfl rfl (by decide) (fun u4 H locs _ hP hD hS => ?_)
    have hP : va_P D vwCl [(h0, .inr (4, [.ref p1, .ref qCF, .ref qCT, .ref qRD, .null, .null, .null])), (p1, .inl (y 1, 6, .inr (.inl pl))), (qCF, .inr (2, [.ref u2.1, .ref u2.2, .int 0])), (u2.1, .inl (y 0, 40, .inl (fun _ => 0))), (u2.2, .inl (y 1, 40, .inr (.inl (fun _ => 0)))), (qCT, .inr (1, [.ref u1, .int 0])), (u1, .inl (y 2, 80, .inl (fun _ => 0))), (qRD, .inr (0, [.int 0, .int 0, .int 0, .int 0, .int 0, .int 0])), (qHI, .inr (3, [.ref u4, .int 0, .int 0])), (u4, .inl (y 1, 36, .inr (.inl (fun _ => 0))))] H := hP
    have hD : va_D A [(h0, .inr (4, [.ref p1, .ref qCF, .ref qCT, .ref qRD, .null, .null, .null])), (p1, .inl (y 1, 6, .inr (.inl pl))), (qCF, .inr (2, [.ref u2.1, .ref u2.2, .int 0])), (u2.1, .inl (y 0, 40, .inl (fun _ => 0))), (u2.2, .inl (y 1, 40, .inr (.inl (fun _ => 0)))), (qCT, .inr (1, [.ref u1, .int 0])), (u1, .inl (y 2, 80, .inl (fun _ => 0))), (qRD, .inr (0, [.int 0, .int 0, .int 0, .int 0, .int 0, .int 0])), (qHI, .inr (3, [.ref u4, .int 0, .int 0])), (u4, .inl (y 1, 36, .inr (.inl (fun _ => 0))))] := hD
    refine va_putF (D := D) (ci := 4) (v := .ref qHI) (ty := .object "SliceShares$History") (C := RX6) (T := TX6) (N := 7) hx hb hts hinRX6 tyX6 tyX6_ok nmX6 hown hK hP hD hS 0 rfl rfl 4 (by decide) (hts (.fieldLink RX6 39 "SliceShares" "history" "LSliceShares$History;") (by decide +kernel)) (fun _ h9 => h9) rfl hin rfl (by decide +kernel) rfl rfl (Nat.le_of_ble_eq_true rfl) dX6_init_74 (fun H locs hP hD hS => ?_)
    have hP : va_P D vwCl [(h0, .inr (4, [.ref p1, .ref qCF, .ref qCT, .ref qRD, .ref qHI, .null, .null])), (p1, .inl (y 1, 6, .inr (.inl pl))), (qCF, .inr (2, [.ref u2.1, .ref u2.2, .int 0])), (u2.1, .inl (y 0, 40, .inl (fun _ => 0))), (u2.2, .inl (y 1, 40, .inr (.inl (fun _ => 0)))), (qCT, .inr (1, [.ref u1, .int 0])), (u1, .inl (y 2, 80, .inl (fun _ => 0))), (qRD, .inr (0, [.int 0, .int 0, .int 0, .int 0, .int 0, .int 0])), (qHI, .inr (3, [.ref u4, .int 0, .int 0])), (u4, .inl (y 1, 36, .inr (.inl (fun _ => 0))))] H := hP
    have hD : va_D A [(h0, .inr (4, [.ref p1, .ref qCF, .ref qCT, .ref qRD, .ref qHI, .null, .null])), (p1, .inl (y 1, 6, .inr (.inl pl))), (qCF, .inr (2, [.ref u2.1, .ref u2.2, .int 0])), (u2.1, .inl (y 0, 40, .inl (fun _ => 0))), (u2.2, .inl (y 1, 40, .inr (.inl (fun _ => 0)))), (qCT, .inr (1, [.ref u1, .int 0])), (u1, .inl (y 2, 80, .inl (fun _ => 0))), (qRD, .inr (0, [.int 0, .int 0, .int 0, .int 0, .int 0, .int 0])), (qHI, .inr (3, [.ref u4, .int 0, .int 0])), (u4, .inl (y 1, 36, .inr (.inl (fun _ => 0))))] := hD
    refine lv_aload_n hx hb dX6_init_77 rfl (lv_at hl 0 rfl) ?_
    refine lv_bipush (v := (12 : Int32)) hx hb dX6_init_78 (by decide) ?_
    refine va_newa (atype := .long) hx hb (hts (.arrayClass .long) (by decide +kernel)) (ty := .long) rfl hK hP hD hS hA (a0 := (12, .inr (.inl (fun _ => 0)))) (fun _ => rfl) (by decide) rfl (Nat.le_of_ble_eq_true rfl) (Nat.le_of_ble_eq_true rfl) (Nat.le_of_ble_eq_true rfl) dX6_init_80 (fun p10 cA H hK2 hP hD hS => ?_)
    obtain rfl : cA = y 1 := Option.some.inj ((hK2.2 4 _ rfl).2.symm.trans (hK.2 1 _ rfl).2)
    clear hK2
    have hP : va_P D vwCl [(h0, .inr (4, [.ref p1, .ref qCF, .ref qCT, .ref qRD, .ref qHI, .null, .null])), (p1, .inl (y 1, 6, .inr (.inl pl))), (qCF, .inr (2, [.ref u2.1, .ref u2.2, .int 0])), (u2.1, .inl (y 0, 40, .inl (fun _ => 0))), (u2.2, .inl (y 1, 40, .inr (.inl (fun _ => 0)))), (qCT, .inr (1, [.ref u1, .int 0])), (u1, .inl (y 2, 80, .inl (fun _ => 0))), (qRD, .inr (0, [.int 0, .int 0, .int 0, .int 0, .int 0, .int 0])), (qHI, .inr (3, [.ref u4, .int 0, .int 0])), (u4, .inl (y 1, 36, .inr (.inl (fun _ => 0)))), (p10, .inl (y 1, 12, .inr (.inl (fun _ => 0))))] H := hP
    have hD : va_D A [(h0, .inr (4, [.ref p1, .ref qCF, .ref qCT, .ref qRD, .ref qHI, .null, .null])), (p1, .inl (y 1, 6, .inr (.inl pl))), (qCF, .inr (2, [.ref u2.1, .ref u2.2, .int 0])), (u2.1, .inl (y 0, 40, .inl (fun _ => 0))), (u2.2, .inl (y 1, 40, .inr (.inl (fun _ => 0)))), (qCT, .inr (1, [.ref u1, .int 0])), (u1, .inl (y 2, 80, .inl (fun _ => 0))), (qRD, .inr (0, [.int 0, .int 0, .int 0, .int 0, .int 0, .int 0])), (qHI, .inr (3, [.ref u4, .int 0, .int 0])), (u4, .inl (y 1, 36, .inr (.inl (fun _ => 0)))), (p10, .inl (y 1, 12, .inr (.inl (fun _ => 0))))] := hD
    refine va_putF (D := D) (ci := 4) (v := .ref p10) (ty := .array .long) (C := RX6) (T := TX6) (N := 7) hx hb hts hinRX6 tyX6 tyX6_ok nmX6 hown hK hP hD hS 0 rfl rfl 5 (by decide) (hts (.fieldLink RX6 43 "SliceShares" "slots" "[J") (by decide +kernel)) (fun _ h9 => h9) rfl hin rfl (by decide +kernel) rfl rfl (Nat.le_of_ble_eq_true rfl) dX6_init_82 (fun H locs hP hD hS => ?_)
    have hP : va_P D vwCl [(h0, .inr (4, [.ref p1, .ref qCF, .ref qCT, .ref qRD, .ref qHI, .ref p10, .null])), (p1, .inl (y 1, 6, .inr (.inl pl))), (qCF, .inr (2, [.ref u2.1, .ref u2.2, .int 0])), (u2.1, .inl (y 0, 40, .inl (fun _ => 0))), (u2.2, .inl (y 1, 40, .inr (.inl (fun _ => 0)))), (qCT, .inr (1, [.ref u1, .int 0])), (u1, .inl (y 2, 80, .inl (fun _ => 0))), (qRD, .inr (0, [.int 0, .int 0, .int 0, .int 0, .int 0, .int 0])), (qHI, .inr (3, [.ref u4, .int 0, .int 0])), (u4, .inl (y 1, 36, .inr (.inl (fun _ => 0)))), (p10, .inl (y 1, 12, .inr (.inl (fun _ => 0))))] H := hP
    have hD : va_D A [(h0, .inr (4, [.ref p1, .ref qCF, .ref qCT, .ref qRD, .ref qHI, .ref p10, .null])), (p1, .inl (y 1, 6, .inr (.inl pl))), (qCF, .inr (2, [.ref u2.1, .ref u2.2, .int 0])), (u2.1, .inl (y 0, 40, .inl (fun _ => 0))), (u2.2, .inl (y 1, 40, .inr (.inl (fun _ => 0)))), (qCT, .inr (1, [.ref u1, .int 0])), (u1, .inl (y 2, 80, .inl (fun _ => 0))), (qRD, .inr (0, [.int 0, .int 0, .int 0, .int 0, .int 0, .int 0])), (qHI, .inr (3, [.ref u4, .int 0, .int 0])), (u4, .inl (y 1, 36, .inr (.inl (fun _ => 0)))), (p10, .inl (y 1, 12, .inr (.inl (fun _ => 0))))] := hD
    refine lv_aload_n hx hb dX6_init_85 rfl (lv_at hl 0 rfl) ?_
    refine lv_iconst (v := (2 : Int32)) hx hb dX6_init_86 (by decide) ?_
    refine va_newa (atype := .boolean) hx hb (hts (.arrayClass .boolean) (by decide +kernel)) (ty := .boolean) rfl hK hP hD hS hA (a0 := (2, .inl (fun _ => 0))) (fun _ => rfl) (by decide) rfl (Nat.le_of_ble_eq_true rfl) (Nat.le_of_ble_eq_true rfl) (Nat.le_of_ble_eq_true rfl) dX6_init_87 (fun p11 cA H hK2 hP hD hS => ?_)
    obtain rfl : cA = y 3 := Option.some.inj ((hK2.2 4 _ rfl).2.symm.trans (hK.2 3 _ rfl).2)
    clear hK2
    have hP : va_P D vwCl [(h0, .inr (4, [.ref p1, .ref qCF, .ref qCT, .ref qRD, .ref qHI, .ref p10, .null])), (p1, .inl (y 1, 6, .inr (.inl pl))), (qCF, .inr (2, [.ref u2.1, .ref u2.2, .int 0])), (u2.1, .inl (y 0, 40, .inl (fun _ => 0))), (u2.2, .inl (y 1, 40, .inr (.inl (fun _ => 0)))), (qCT, .inr (1, [.ref u1, .int 0])), (u1, .inl (y 2, 80, .inl (fun _ => 0))), (qRD, .inr (0, [.int 0, .int 0, .int 0, .int 0, .int 0, .int 0])), (qHI, .inr (3, [.ref u4, .int 0, .int 0])), (u4, .inl (y 1, 36, .inr (.inl (fun _ => 0)))), (p10, .inl (y 1, 12, .inr (.inl (fun _ => 0)))), (p11, .inl (y 3, 2, .inl (fun _ => 0)))] H := hP
    have hD : va_D A [(h0, .inr (4, [.ref p1, .ref qCF, .ref qCT, .ref qRD, .ref qHI, .ref p10, .null])), (p1, .inl (y 1, 6, .inr (.inl pl))), (qCF, .inr (2, [.ref u2.1, .ref u2.2, .int 0])), (u2.1, .inl (y 0, 40, .inl (fun _ => 0))), (u2.2, .inl (y 1, 40, .inr (.inl (fun _ => 0)))), (qCT, .inr (1, [.ref u1, .int 0])), (u1, .inl (y 2, 80, .inl (fun _ => 0))), (qRD, .inr (0, [.int 0, .int 0, .int 0, .int 0, .int 0, .int 0])), (qHI, .inr (3, [.ref u4, .int 0, .int 0])), (u4, .inl (y 1, 36, .inr (.inl (fun _ => 0)))), (p10, .inl (y 1, 12, .inr (.inl (fun _ => 0)))), (p11, .inl (y 3, 2, .inl (fun _ => 0)))] := hD
    refine va_putF (D := D) (ci := 4) (v := .ref p11) (ty := .array .boolean) (C := RX6) (T := TX6) (N := 7) hx hb hts hinRX6 tyX6 tyX6_ok nmX6 hown hK hP hD hS 0 rfl rfl 6 (by decide) (hts (.fieldLink RX6 46 "SliceShares" "slotFilled" "[Z") (by decide +kernel)) (fun _ h9 => h9) rfl hin rfl (by decide +kernel) rfl rfl (Nat.le_of_ble_eq_true rfl) dX6_init_89 (fun H locs hP hD hS => ?_)
    have hP : va_P D vwCl [(h0, .inr (4, [.ref p1, .ref qCF, .ref qCT, .ref qRD, .ref qHI, .ref p10, .ref p11])), (p1, .inl (y 1, 6, .inr (.inl pl))), (qCF, .inr (2, [.ref u2.1, .ref u2.2, .int 0])), (u2.1, .inl (y 0, 40, .inl (fun _ => 0))), (u2.2, .inl (y 1, 40, .inr (.inl (fun _ => 0)))), (qCT, .inr (1, [.ref u1, .int 0])), (u1, .inl (y 2, 80, .inl (fun _ => 0))), (qRD, .inr (0, [.int 0, .int 0, .int 0, .int 0, .int 0, .int 0])), (qHI, .inr (3, [.ref u4, .int 0, .int 0])), (u4, .inl (y 1, 36, .inr (.inl (fun _ => 0)))), (p10, .inl (y 1, 12, .inr (.inl (fun _ => 0)))), (p11, .inl (y 3, 2, .inl (fun _ => 0)))] H := hP
    have hD : va_D A [(h0, .inr (4, [.ref p1, .ref qCF, .ref qCT, .ref qRD, .ref qHI, .ref p10, .ref p11])), (p1, .inl (y 1, 6, .inr (.inl pl))), (qCF, .inr (2, [.ref u2.1, .ref u2.2, .int 0])), (u2.1, .inl (y 0, 40, .inl (fun _ => 0))), (u2.2, .inl (y 1, 40, .inr (.inl (fun _ => 0)))), (qCT, .inr (1, [.ref u1, .int 0])), (u1, .inl (y 2, 80, .inl (fun _ => 0))), (qRD, .inr (0, [.int 0, .int 0, .int 0, .int 0, .int 0, .int 0])), (qHI, .inr (3, [.ref u4, .int 0, .int 0])), (u4, .inl (y 1, 36, .inr (.inl (fun _ => 0)))), (p10, .inl (y 1, 12, .inr (.inl (fun _ => 0)))), (p11, .inl (y 3, 2, .inl (fun _ => 0)))] := hD
    exact hE (fun i => if i = 0 then h0 else if i = 1 then p1 else if i = 2 then qCF else if i = 3 then u2.1 else if i = 4 then u2.2 else if i = 5 then qCT else if i = 6 then u1 else if i = 7 then qRD else if i = 8 then qHI else if i = 9 then u4 else if i = 10 then p10 else p11) _ _ _ _ rfl dX6_init_92 hP hD hS
  have LP : ∀ (n : Nat) (x : Int32) (f : Nat → Int64) (H : Heap) (locs : List Loc) (ls : Array Slot), L_X6_init n x f = some pl → va_P D vwCl [(h0, .inr (4, [.ref p1, .null, .null, .null, .null, .null, .null])), (p1, .inl (y 1, 6, .inr (.inl f)))] H → va_D A [(h0, .inr (4, [.ref p1, .null, .null, .null, .null, .null, .null])), (p1, .inl (y 1, 6, .inr (.inl f)))] → va_S A s.heap H locs → lv_has ls 2 [(1, .int x), (0, .ref h0)] → W p l e rm_X6_init s m args below meth c H locs (0 + 1) (0 + 6) Q (F0 m 14 ls []) := by
    intro n
    induction n with
    | zero => intro x f H locs ls h hP hD hS hl; exact fN h
    | succ n ih =>
      intro x f H locs ls h hP hD hS hl
      replace h := (L_X6_init_s n x f).symm.trans h
      refine lv_iload_n hx hb dX6_init_14 rfl (lv_at hl 0 rfl) ?_
      refine lv_bipush (v := (6 : Int32)) hx hb dX6_init_15 (by decide) ?_
      refine lv_icmp_ge (tgt := 33) hx hb dX6_init_17 (by decide) (fun c1 => ?_) (fun c1 => ?_)
      · replace h := fT c1 h
        cases h
        exact J _ _ _ hP hD hS (lv_sub hl [1] rfl)
      · replace h := fF c1 h
        refine lv_aload_n hx hb dX6_init_20 rfl (lv_at hl 1 rfl) ?_
        refine va_get (D := D) (ci := 4) (C := RX6) (T := TX6) (N := 7) hx hb hts hinRX6 hown hK hP 0 rfl rfl 0 (by decide) (hts (.fieldLink RX6 9 "SliceShares" "plates" "[J") (by decide +kernel)) (fun _ h9 => h9) rfl dX6_init_21 ?_
        refine lv_iload_n hx hb dX6_init_24 rfl (lv_at hl 0 rfl) ?_
        refine lv_lconst (v := (1 : Int64)) hx hb dX6_init_25 rfl ?_
        obtain ⟨g1, h⟩ := fG h
        refine va_last hx hb hK hP hD hS 1 1 rfl rfl g1 dX6_init_26 (fun H locs hP hD hS => ?_)
        have hP : va_P D vwCl [(h0, .inr (4, [.ref p1, .null, .null, .null, .null, .null, .null])), (p1, .inl (y 1, 6, .inr (.inl (vp_updL f x.toNatClampNeg (1 : Int64)))))] H := hP
        have hD : va_D A [(h0, .inr (4, [.ref p1, .null, .null, .null, .null, .null, .null])), (p1, .inl (y 1, 6, .inr (.inl (vp_updL f x.toNatClampNeg (1 : Int64)))))] := hD
        refine lv_iinc (v := x + (1 : Int32)) (lv' := [(1, .int (x + (1 : Int32))), (0, .ref h0)]) hx hb dX6_init_27 hl (k := 0) rfl rfl (by decide) rfl (fun ls hl => ?_)
        refine lv_goto (tgt := 14) hx hb dX6_init_30 (by decide) ?_
        exact ih _ _ _ _ _ h hP hD hS hl
  exact LP FU (0 : Int32) (fun _ => 0) _ _ _ h hP hD hS hl
