/-! the law's own reader of the script -/
section XC
variable {p : Program} {l : Launch} {e : Env} {R : Room} {s : State} {m : MethodId} {args : Array Value} {below : List Frame} {meth : Method} {c : Code} {H : Heap} {locs : List Loc} {cells slots : Nat} {Q : State → Prop}
variable {cc : ByteArray} {pc : Nat} {ls : Array Slot} {rest st0 : List Value} {D : va_G} {y : Nat → ClassId} {A : Nat → Prop} {ws : va_W}
variable {yy : MethodName} {bytes : ByteArray} {maxL nL n index : Nat} {ret : Option FieldType} {wo : List Cond} {rm : Room} {Ts : List Cond} {own : String} {As : List Value} {b L : Nat} {xs : Nat → Int32}
def cv (xs : Nat → Int32) (L j : Nat) : Int32 := if j < L then xs j else ((7919 : Int32) * (nI j + (3 : Int32))) * (nI j + (11 : Int32))
def pxs (D : va_G) (y : Nat → ClassId) (sz b L : Nat) (xs : Nat → Int32) : State → Prop := fun U => px D y sz [] U ∧ va_X b L xs U U.heap ∧ b < sz
theorem pxs_blind {sz : Nat} {av : List Value} : FrameBlind (va_Pc av (pxs D y sz b L xs)) := fun a U g mk q => by
  obtain ⟨q0, q1, q2, q3⟩ := q
  exact ⟨q0, (px_blind (av := av) a U g mk ⟨q0, q1⟩).2, va_X.moved (u := U) (U := U.calling g mk a) (Vm.Alike.refl U.vm) q2, q3⟩
/-- a call that reads the script -/
theorem cX_i {v : Int32} (S : CallFix p m c cc nL s args Ts own) (hM : Met l yy wo rm (va_Pc As (pxs D y H.size b L xs)) (Qri D y H.size [] [] v) 0 0 (va_A [] H.size)) (cw : CallB R s args own index yy bytes maxL ret wo rm 0 0 n ∧ (Cond.static yy).before args s = true) (hK : va_K D vwCl (TY y) s) (hP : va_P D vwCl ws H) (hD : va_D A ws) (hS : va_S A s.heap H locs) (hA : ∀ q, s.heap.size ≤ q → A q) (hX : va_X b L xs s s.heap) (hbl : b < s.heap.size) (hbA : ¬ A b)
    (hlen : As.length = n) (hsz : ls.size = nL) (hst : st0 = As.reverse ++ rest) (hW : (rest.map fun v => v.category).sum ≤ 8) (hdg : decode cc pc = .ok (.invokestatic index, 3)) (hf : cells ≤ R.cells ∧ slots ≤ R.slots)
    (kk : ∀ (H1 : Heap) (locs1 : List Loc), va_P D vwCl ws H1 → va_D A ws → va_S A s.heap H1 locs1 → W p l e R s m args below meth c H1 locs1 cells slots Q (F0 m (pc + 3) ls (.int v :: rest))) : W p l e R s m args below meth c H locs cells slots Q (F0 m pc ls st0) := by
  have hF : ∀ q, va_A [] H.size q → A q := fun q h => by
    rcases h with ⟨k, e, h⟩ | h
    · simp at h
    · exact hA q (Nat.le_trans hS.1 h)
  have hpre : ∀ U : State, U.heap = H → s.WarmedH U.vm → va_Pc As (pxs D y H.size b L xs) As.toArray U := fun U hU hW => ⟨rfl, ⟨by rw [hU], fun k q h => by simp at h, va_K.moved hW.alike hK, ⟨fun i j p q h => by simp at h, fun k q h => by simp at h⟩⟩, by rw [hU]; exact va_X.moved hW.alike (hX.kept (hS.2.1 b hbl hbA)), Nat.lt_of_lt_of_le hbl hS.1⟩
  refine va_calli (va_runS (g := F0 m pc ls st0) (rest := rest) S hM cw ⟨pxs_blind, hpre⟩ rfl hlen hsz hst (lv_room hW) hdg hf) hS (fun q _ h => hF q h) hF (fun r u t H1 locs1 ht hvm hw hB hz hk hS1 => ?_)
  subst hw
  refine kk H1 locs1 (hP.kept (fun k q hq => hk q.1 ((hP k q hq).lt) (fun z => ?_))) hD hS1
  rcases z with ⟨k, e, h⟩ | h
  · simp at h
  · exact absurd h (Nat.not_le.mpr (hP k q hq).lt)
/-- the head of a method that gets more than its world -/
theorem hd_s {y' : MethodName} {wo' : List Cond} {sz : Nat} {v : Int32} {Pex : State → Prop} (hy : plainName y'.cls = true) (hw : wo = Cond.code y' cc maxL (some .int) :: wo') (hlen : (lg_sl As).length ≤ maxL)
    (body : ∀ (p : Program) (e : Env) (s : State) (m : MethodId) (args : Array Value) (below : List Frame) (meth : Method) (c : Code) (A : Nat → Prop) (Q : State → Prop) (H : Heap) (locs : List Loc) (ls : Array Slot), p.tables.exec = Jvm.exec → c.code = cc → c.maxLocals = maxL → (∀ q, s.heap.size ≤ q → A q) → va_P D vwCl [] H → va_D A [] → va_K D vwCl (TY y) s → va_S A s.heap H locs → lv_has ls maxL (lv_args 0 As) → Pex s → s.heap.size = sz → A = va_A [] s.heap.size → s.heap = H →
      (∀ (H : Heap) (locs : List Loc) (ls : Array Slot) (pc : Nat), decode cc pc = .ok (.ireturn, 1) → va_P D vwCl [] H → va_D A [] → va_S A s.heap H locs → W p l e rm s m args below meth c H locs 0 0 Q (F0 m pc ls [.int v])) →
      W p l e rm s m args below meth c H locs 0 0 Q (F0 m 0 ls [])) : Met l y' wo rm (va_Pc As (fun U => px D y sz [] U ∧ Pex U)) (Qri D y sz [] [] v) 0 0 (va_A [] sz) := by
  refine Met.ofW (cc := cc) (maxL := maxL) (ret := (some .int)) hy hw ?_
  intro p e s m args below meth c s₁ B hml hv
  obtain ⟨rfl, ⟨hsz, hP, hK, hD0⟩, hex⟩ := hv
  subst hsz
  have hD := hD0.self (sz := s.heap.size)
  have hl := lv_entry As (n := maxL) hlen
  rw [lg_entry_eq]
  refine body p e s m _ below meth c (va_A [] s.heap.size) _ s.heap [] _ B.exec B.bytes hml (fun q h => Or.inr h) hP hD hK va_S.rf hl hex rfl rfl rfl ?_
  intro H locs ls pc hdg hP1 hD1 hS
  exact W.iret (v := v) B.exec B.bytes B.returns (fun t ht hW => ⟨⟨v, (), rfl, rfl, by rw [ht]; exact hP1, va_K.moved hW.alike hK, hD1⟩, hS.F ht⟩) hS.2.2 hdg B.notSynchronized
end XC
abbrev rm_L_cell : Room := { frames := 0, cells := 0, slots := 0, locals := 0 }
theorem hd_L_cell : yL_cell.cls ≠ "java/lang/invoke/MethodHandle" ∧ yL_cell.cls ≠ "java/lang/invoke/VarHandle" ∧ (parseMethodDescriptor yL_cell.desc).map (fun d => d.parameters.length) = some 2 := by decide +kernel
set_option maxHeartbeats 0 in
theorem c_L_cell (l : Launch) (D : va_G) (y : Nat → ClassId) (sz b L : Nat) (xs : Nat → Int32) (hL : L ≤ 260) (j : Nat) (hj : j < 1000) : Met l yL_cell wsL_cell rm_L_cell (va_Pc [.ref b, .int (nI j)] (pxs D y sz b L xs)) (Qri D y sz [] [] (cv xs L j)) 0 0 (va_A [] sz) := by
  refine hd_s (cc := cL_cell) (maxL := 2) (Pex := fun U => va_X b L xs U U.heap ∧ b < sz) rfl rfl (Nat.le_of_ble_eq_true rfl) ?_
  intro p e s m args below meth c A Q H locs ls hx hb hml hA hP hD hK hS hl hex hsz hAe hsH hE
  obtain ⟨hX, hbl⟩ := hex
  rw [← hsz] at hbl
  have hbA : ¬ A b := fun z => by
    rw [hAe] at z
    rcases z with ⟨k, e, h⟩ | h
    · simp at h
    · exact absurd h (Nat.not_le.mpr hbl)
  have hl : lv_has ls 2 [(0, .ref b), (1, .int (nI j))] := hl
  refine lv_iload_n hx hb dL_cell_0 rfl (lv_at hl 1 rfl) ?_
  refine lv_aload_n hx hb dL_cell_1 rfl (lv_at hl 0 rfl) ?_
  refine va_slen hx hb hX hbl hbA hS dL_cell_2 ?_
  refine lv_icmp_ge (tgt := 12) hx hb dL_cell_3 (by decide) (fun hc => ?_) (fun hc => ?_)
  · have hc2 : ¬ j < L := by
      rw [show Int32.ofNat L = nI L from rfl, nI_leI (by omega) (by omega)] at hc
      omega
    refine lv_sipush (v := (7919 : Int32)) hx hb dL_cell_12 (by decide) ?_
    refine lv_iload_n hx hb dL_cell_15 rfl (lv_at hl 1 rfl) ?_
    refine lv_iconst (v := (3 : Int32)) hx hb dL_cell_16 (by decide) ?_
    refine lv_iadd hx hb dL_cell_17 ?_
    refine lv_imul hx hb dL_cell_18 ?_
    refine lv_iload_n hx hb dL_cell_19 rfl (lv_at hl 1 rfl) ?_
    refine lv_bipush (v := (11 : Int32)) hx hb dL_cell_20 (by decide) ?_
    refine lv_iadd hx hb dL_cell_22 ?_
    refine lv_imul hx hb dL_cell_23 ?_
    refine eqi (v := cv xs L j) (by unfold cv; rw [if_neg hc2]) ?_
    exact hE _ _ _ _ dL_cell_24 hP hD hS
  · have hc2 : j < L := by
      rw [show Int32.ofNat L = nI L from rfl, nI_leI (by omega) (by omega)] at hc
      omega
    refine lv_aload_n hx hb dL_cell_6 rfl (lv_at hl 0 rfl) ?_
    refine lv_iload_n hx hb dL_cell_7 rfl (lv_at hl 1 rfl) ?_
    refine va_sld hx hb hX hbl hbA hS (pk_in j L (by omega) rfl (by omega)) dL_cell_8 ?_
    refine lv_goto (tgt := 24) hx hb dL_cell_9 (by decide) ?_
    refine eqi (v := cv xs L j) (by unfold cv; rw [if_pos hc2, show (nI j).toNatClampNeg = j from nI_clamp (by omega)]) ?_
    exact hE _ _ _ _ dL_cell_24 hP hD hS
