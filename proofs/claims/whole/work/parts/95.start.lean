/-! the start -/
theorem st_str {s : State} {args : Array Value} {own tx : String} {k : Nat} (h : (Cond.stringRef own k tx).before args s = true) : ∃ a, vk_R own k tx a s := by
  have hcur : ∃ cur, s.vm.findClass own = some cur := by
    have h1 := h
    simp only [Cond.before, Cond.holds, Cond.value] at h1
    cases hc : s.vm.findClass own with
    | none => simp [hc] at h1
    | some cur => exact ⟨cur, rfl⟩
  obtain ⟨cur, hc⟩ := hcur
  obtain ⟨-, -, -, a, -, -, -, -, -, hev⟩ := Cond.stringRef_spec hc h
  exact ⟨a, vk_R.of h hev⟩
theorem st_E {s : State} {args : Array Value} {A : Nat → Prop} (hts0 : ∀ w ∈ lw_tbl, w.before args s = true) (hgv : (Jvm.Cond.and given_1 narrow_1).before args s = true) (hA : ∀ a : Nat, a < s.heap.size → ¬ A a) : EXC A s s.heap := by
  have hs := flat_of_before _ hgv
  have e1 : exn 1 = "java/lang/IndexOutOfBoundsException" := by decide +kernel
  have k1 : va_Nw (.castable "java/lang/IndexOutOfBoundsException" "java/lang/IndexOutOfBoundsException") s := va_Nw.of rfl (hts0 (.castable "java/lang/IndexOutOfBoundsException" "java/lang/IndexOutOfBoundsException") (List.mem_of_getElem? (i := 292) (by decide +kernel)))
  have e2 : exn 2 = "java/lang/IllegalArgumentException" := by decide +kernel
  have k2 : va_Nw (.castable "java/lang/IllegalArgumentException" "java/lang/IllegalArgumentException") s := va_Nw.of rfl (hts0 (.castable "java/lang/IllegalArgumentException" "java/lang/IllegalArgumentException") (List.mem_of_getElem? (i := 361) (by decide +kernel)))
  have e3 : exn 3 = "java/lang/IllegalStateException" := by decide +kernel
  have k3 : va_Nw (.castable "java/lang/IllegalStateException" "java/lang/IllegalStateException") s := va_Nw.of rfl (hts0 (.castable "java/lang/IllegalStateException" "java/lang/IllegalStateException") (List.mem_of_getElem? (i := 422) (by decide +kernel)))
  have hq : ∀ q ∈ strs, ∃ a, vk_R RX6 q.1 q.2 a s := List.forall_mem_cons.mpr ⟨st_str (hts0 (.stringRef RX6 57 "the numerator is out of range") (List.mem_of_getElem? (i := 368) (by decide +kernel))), List.forall_mem_cons.mpr ⟨st_str (hts0 (.stringRef RX6 62 "the denominator is out of range") (List.mem_of_getElem? (i := 375) (by decide +kernel))), List.forall_mem_cons.mpr ⟨st_str (hts0 (.stringRef RX6 94 "the number of guests is out of range") (List.mem_of_getElem? (i := 483) (by decide +kernel))), List.forall_mem_cons.mpr ⟨st_str (hts0 (.stringRef RX6 106 "there is no such place") (List.mem_of_getElem? (i := 554) (by decide +kernel))), List.forall_mem_cons.mpr ⟨st_str (hts0 (.stringRef RX6 158 "the unit is out of range") (List.mem_of_getElem? (i := 664) (by decide +kernel))), List.forall_mem_cons.mpr ⟨st_str (hts0 (.stringRef RX6 171 "these are no characters of a text") (List.mem_of_getElem? (i := 702) (by decide +kernel))), List.forall_mem_cons.mpr ⟨st_str (hts0 (.stringRef RX6 178 "the text would be too long") (List.mem_of_getElem? (i := 707) (by decide +kernel))), List.forall_mem_cons.mpr ⟨st_str (hts0 (.stringRef RX6 209 "the text has an error") (List.mem_of_getElem? (i := 720) (by decide +kernel))), List.forall_mem_cons.mpr ⟨st_str (hts0 (.stringRef RX6 219 "no state is recorded") (List.mem_of_getElem? (i := 756) (by decide +kernel))), List.forall_mem_cons.mpr ⟨st_str (hts0 (.stringRef RX6 236 "nothing was saved in the slot") (List.mem_of_getElem? (i := 784) (by decide +kernel))), List.forall_mem_cons.mpr ⟨st_str (hts0 (.stringRef RX6 241 "there is no such plate") (List.mem_of_getElem? (i := 331) (by decide +kernel))), List.forall_mem_cons.mpr ⟨st_str (hts0 (.stringRef RX6 243 "the plate is 0") (List.mem_of_getElem? (i := 474) (by decide +kernel))), List.forall_mem_cons.mpr ⟨st_str (hts0 (.stringRef RX6 245 "the plate holds 1 or more") (List.mem_of_getElem? (i := 646) (by decide +kernel))), List.forall_mem_cons.mpr ⟨st_str (hts0 (.stringRef RX6 247 "the greatest denominator is out of range") (List.mem_of_getElem? (i := 498) (by decide +kernel))), List.forall_mem_cons.mpr ⟨st_str (hts0 (.stringRef RX6 249 "there is no such slot") (List.mem_of_getElem? (i := 771) (by decide +kernel))), List.forall_mem_cons.mpr ⟨st_str (hts0 (.stringRef RX6 251 "the fraction is not possible") (List.mem_of_getElem? (i := 429) (by decide +kernel))), List.forall_mem_cons.mpr ⟨st_str (hts0 (.stringRef RX6 253 "there is no such term") (List.mem_of_getElem? (i := 581) (by decide +kernel))), fun _ h => absurd h List.not_mem_nil⟩⟩⟩⟩⟩⟩⟩⟩⟩⟩⟩⟩⟩⟩⟩⟩⟩
  have hd : ∀ w ∈ decls, w.before args s = true := List.forall_mem_cons.mpr ⟨(hts0 (.declares (Bundle.initS "java/lang/RuntimeException")) (List.mem_of_getElem? (i := 294) (by decide +kernel))), List.forall_mem_cons.mpr ⟨(hts0 (.declares (Bundle.initS "java/lang/Exception")) (List.mem_of_getElem? (i := 296) (by decide +kernel))), List.forall_mem_cons.mpr ⟨(hts0 (.declares (Bundle.initS "java/lang/Throwable")) (List.mem_of_getElem? (i := 298) (by decide +kernel))), fun _ h => absurd h List.not_mem_nil⟩⟩⟩
  have z1 : vx_Zq Bundle.tN "UNASSIGNED_STACK" Bundle.steD A s s.heap := vx_Zqof (hts0 (.laysStatic Bundle.tN "UNASSIGNED_STACK" Bundle.steD) (List.mem_of_getElem? (i := 317) (by decide +kernel))) (hts0 (.initialized Bundle.tN) (List.mem_of_getElem? (i := 58) (by decide +kernel))) (hs _ (by decide +kernel)) hA
  have z2 : vx_Zq Bundle.tN "SUPPRESSED_SENTINEL" Bundle.listD A s s.heap := vx_Zqof (hts0 (.laysStatic Bundle.tN "SUPPRESSED_SENTINEL" Bundle.listD) (List.mem_of_getElem? (i := 319) (by decide +kernel))) (hts0 (.initialized Bundle.tN) (List.mem_of_getElem? (i := 58) (by decide +kernel))) (hs _ (by decide +kernel)) hA
  have n1 : va_Nc "java/lang/IllegalArgumentException" "java/lang/IndexOutOfBoundsException" s := va_Nc.of (hs (Cond.not (.castable "java/lang/IllegalArgumentException" "java/lang/IndexOutOfBoundsException")) (by decide +kernel))
  have n2 : va_Nc "java/lang/IllegalStateException" "java/lang/IndexOutOfBoundsException" s := va_Nc.of (hs (Cond.not (.castable "java/lang/IllegalStateException" "java/lang/IndexOutOfBoundsException")) (by decide +kernel))
  have n3 : va_Nc "java/lang/IllegalStateException" "java/lang/IllegalArgumentException" s := va_Nc.of (hs (Cond.not (.castable "java/lang/IllegalStateException" "java/lang/IllegalArgumentException")) (by decide +kernel))
  refine ⟨z1, z2, hq, ?_, fun x hx => va_Nw.of rfl (hd _ hx), by rw [e2, e1]; exact n1, by rw [e3, e1]; exact n2, by rw [e3, e2]; exact n3⟩
  intro k
  by_cases h1 : k = 1
  · rw [h1, e1]; exact k1
  · by_cases h2 : k = 2
    · rw [h2, e2]; exact k2
    · rw [show exn k = "java/lang/IllegalStateException" from (if_neg h1).trans (if_neg h2)]; exact k3
/-! THE CLAIM OUT OF ONE WALK OF THE LAW'S BODY. Your part is whole_start (and what it stands on); all else here is the same for every law, but numbers. -/
def R_law : String := "SliceSharesLaw"
def lw_P (b : Addr) (xs : List Int32) (args : Array Value) (s : State) : Prop := args = #[.ref b] ∧ s.IntsAt b xs ∧ xs.length ≤ 2048 ∧ (Jvm.Cond.and given_1 narrow_1).before args s = true
def lw_Q (_ : Array Value) (s : State) (o : Outcome) (t : State) : Prop := o = .returned (some (.int 1)) ∧ Framed s o t [] 1063 8907
def lw_Z (below : List Frame) (a : Array Value) (s : State) : State → Prop := fun t => ∃ o, t.status = .running ∧ Ended t below o ∧ lw_Q a s o t
/-- the law's own end, with 1 on the stack, nothing written that was there before, its room as the claim has it -/
theorem lw_ret {p : Program} {l : Launch} {e : Env} {s : State} {m : MethodId} {below : List Frame} {meth : Method} {c : Code} {b : Nat} (hx : p.tables.exec = Jvm.exec) (hb : c.code = code) (hr : meth.sig.returnType = ret) (hlocks : meth.locks = false) {pc : Nat} {H : Heap} {ls : Array Slot} (hdg : decode code pc = .ok (.ireturn, 1)) : W p l e room_1 s m #[Value.ref b] below meth c H [] 1063 8907 (lw_Z below #[Value.ref b] s) (F0 m pc ls [.int 1]) := by
  intro T hT X
  obtain ⟨fs, hret, hrun, hended, hW, hframe⟩ := X.leave (v := some (.int 1)) (hlocks := hlocks) (fun h => by rw [hr] at h; cases h)
  have hmeth' : T.vm.method? m = some meth := X.method'
  refine ⟨T.setFrames fs, ?_, .returned (some (.int 1)), hrun, hended, rfl, ⟨_, rfl⟩, hW, hframe⟩
  jvm_step X.here [X.here.top, hx, hb, hdg, hmeth', hr, ret, narrow_b1]
  (try refine ⟨rfl, ?_⟩); (try refine ⟨rfl, ?_⟩)
  first | (intro acts; rw [hret _ acts rfl rfl rfl]) | rw [hret _ _ rfl rfl rfl]
  exact Steps.refl _
/-- what holds at the law's entry: the machine, the code, the tables' words (any of lw_tbl by 'hts w (by decide +kernel)'), the script of L ints xs at the cell b, what the Statement gives of the start (any of its parts by flat_of_before) -/
def lw_At (p : Program) (s : State) (m : MethodId) (meth : Method) (c : Code) (b L : Nat) (xs : Nat → Int32) : Prop :=
  p.tables.exec = Jvm.exec ∧ c.code = code ∧ meth.sig.returnType = ret ∧ c.maxLocals = 7 ∧ s.vm.findClass R_law = some m.cls ∧ (∀ w ∈ lw_tbl, w.before #[Value.ref b] s = true) ∧ va_X b L xs s s.heap ∧ b < s.heap.size ∧ meth.locks = false ∧ (Jvm.Cond.and given_1 narrow_1).before #[Value.ref b] s = true
-- ===== YOUR PART BEGINS =====
set_option maxHeartbeats 0 in
set_option maxRecDepth 100000 in
theorem whole_start {p : Program} {e : Env} {s : State} {m : MethodId} {below : List Frame} {meth : Method} {c : Code} (l : Launch) (hflags : l.flags = flags0) {b L : Nat} {xs : Nat → Int32} (hL : L ≤ 2048) (C0 : lw_At p s m meth c b L xs) : W p l e room_1 s m #[Value.ref b] below meth c s.heap [] 0 0 (lw_Z below #[Value.ref b] s) (entryFrame m ([Value.ref b] : List Value).toArray 7) := by
  obtain ⟨hx, hb, hr, hml, hown0, hts0, hX, hbl, hlocks, hgv⟩ := id C0
  have hown : s.vm.findClass RL = some m.cls := hown0
  have hfl : l.stackTraces = false := by
    show (!l.flags.contains noTraceFlag) = false
    rw [hflags]
    decide +kernel
  have hts : ∀ w ∈ wsL_law, w.before #[Value.ref b] s = true := fun w h => hts0 w (wsL_law_in w h)
  have hA : ∀ q : Nat, s.heap.size ≤ q → (fun q : Nat => s.heap.size ≤ q) q := fun _ h => h
  have hbA : ¬ (fun q : Nat => s.heap.size ≤ q) b := Nat.not_le.mpr hbl
  have hEX : EXC (fun q : Nat => s.heap.size ≤ q) s s.heap := st_E hts0 hgv (fun a h => Nat.not_le.mpr h)
  obtain ⟨D, y, hK⟩ := st_K hts ⟨(hts0 (.arrayClass .int) (List.mem_of_getElem? (i := 93) (by decide +kernel))), (hts0 (.arrayClass .long) (List.mem_of_getElem? (i := 92) (by decide +kernel))), (hts0 (.arrayClass .char) (List.mem_of_getElem? (i := 107) (by decide +kernel))), (hts0 (.arrayClass .boolean) (List.mem_of_getElem? (i := 171) (by decide +kernel)))⟩ ⟨(hts0 (.instantiable RX0 6) (List.mem_of_getElem? (i := 109) (by decide +kernel))), (hts0 (.instantiable RX1 2) (List.mem_of_getElem? (i := 95) (by decide +kernel))), (hts0 (.instantiable RX2 3) (List.mem_of_getElem? (i := 77) (by decide +kernel))), (hts0 (.instantiable RX4 3) (List.mem_of_getElem? (i := 134) (by decide +kernel))), (hts0 (.instantiable RX6 7) (List.mem_of_getElem? (i := 69) (by decide +kernel))), (hts0 (.instantiable RX7 21) (List.mem_of_getElem? (i := 786) (by decide +kernel)))⟩
  have hNW : NW s := ⟨va_Nw.of rfl (hts0 (.methodLinkNest RX6 17 yX2_init RX6) (List.mem_of_getElem? (i := 78) (by decide +kernel))), va_Nw.of rfl (hts0 (.methodLinkNest RX6 24 yX1_init RX6) (List.mem_of_getElem? (i := 96) (by decide +kernel))), va_Nw.of rfl (hts0 (.methodLinkNest RX6 31 yX0_init RX6) (List.mem_of_getElem? (i := 110) (by decide +kernel))), va_Nw.of rfl (hts0 (.methodLinkNest RX6 38 yX4_init RX6) (List.mem_of_getElem? (i := 135) (by decide +kernel)))⟩
  obtain ⟨pl, ms, e6, e7, hrel⟩ := rel_0
  have hS : va_S (fun q : Nat => s.heap.size ≤ q) s.heap s.heap [] := va_S.rf
  have hP : va_P D vwCl [] s.heap := fun k q h => by simp at h
  have hD : va_D (fun q : Nat => s.heap.size ≤ q) [] := ⟨fun i j p q h => by simp at h, fun k q h => by simp at h⟩
  have hl := lv_entry ([.ref b]) (n := 7) (Nat.le_of_ble_eq_true rfl)
  rw [lg_entry_eq]
  generalize (lg_sl ([.ref b]) ++ List.replicate (7 - (lg_sl ([.ref b])).length) Slot.unset).toArray = ls at hl ⊢
  have hl : lv_has ls 7 [(0, .ref b)] := hl
  refine va_new (ci := 4) (fs := [.null, .null, .null, .null, .null, .null, .null]) (C := RX6) (T := TX6) (N := 7) hx hb hts inlX6 tyX6 tyX6_ok hown (hts0 (.classLink RL 8 RX6) (List.mem_of_getElem? (i := 68) (by decide +kernel))) (hts0 (.instantiable RX6 7) (List.mem_of_getElem? (i := 69) (by decide +kernel))) (hts0 (.initialized RX6) (List.mem_of_getElem? (i := 52) (by decide +kernel))) hK hP hD hS hA rfl (fun j hj => by rcases (show j = 0 ∨ j = 1 ∨ j = 2 ∨ j = 3 ∨ j = 4 ∨ j = 5 ∨ j = 6 by omega) with rfl | rfl | rfl | rfl | rfl | rfl | rfl <;> rfl) (Nat.le_of_ble_eq_true rfl) (Nat.le_of_ble_eq_true rfl) dL_law_0 (fun q6 H hP hD hS => ?_)
  have hP : va_P D vwCl ([(q6, .inr (4, [.null, .null, .null, .null, .null, .null, .null]))]) H := hP
  have hD : va_D (fun q : Nat => s.heap.size ≤ q) ([(q6, .inr (4, [.null, .null, .null, .null, .null, .null, .null]))]) := hD
  refine lv_dup hx hb dL_law_3 rfl ?_
  obtain ⟨hpre, hPc⟩ := px_of (av := [.ref q6]) hK hP hD [0] (wc := [(q6, .inr (4, [.null, .null, .null, .null, .null, .null, .null]))]) rfl rfl
  refine cRun_v (va_runI (As := []) (rest := [.ref q6]) ⟨hx, hb, hml, hown, hts⟩ (c_X6_init l D y _ q6 pl e6) (cwI 0 hts gL_law_X6_init rfl rfl rfl (hts0 (.initialized RX6) (List.mem_of_getElem? (i := 52) (by decide +kernel))) (hts0 (.methodLink RL 109 yX6_init) (List.mem_of_getElem? (i := 70) (by decide +kernel))) (hts0 (.instanceMethod yX6_init) (List.mem_of_getElem? (i := 71) (by decide +kernel))) rfl hd_X6_init ⟨Nat.le_of_ble_eq_true rfl, Nat.le_of_ble_eq_true rfl⟩) ⟨pxp_blind (fun U g mk a h => NW.to (U := U.calling g mk a) h (State.WarmedH.refl U)), fun U hU hW => ⟨rfl, (hpre U hU hW).2, hNW.to hW⟩⟩ rfl rfl hl.1 rfl (lv_room (Nat.le_of_ble_eq_true rfl)) dL_law_4 ⟨Nat.le_of_ble_eq_true rfl, Nat.le_of_ble_eq_true rfl⟩) hP hD hS hA [0] [] rfl rfl rfl (by decide) (fun o H locs o0 hP hD hS => ?_)
  have hP : va_P D vwCl (XW o y pl (fun _ => 0) (fun _ => 0) 0 (fun _ => 0) 0 0 0 0 0 0 0 (fun _ => 0) 0 0 (fun _ => 0) (fun _ => 0)) H := hP
  have hD : va_D (fun q : Nat => s.heap.size ≤ q) (XW o y pl (fun _ => 0) (fun _ => 0) 0 (fun _ => 0) 0 0 0 0 0 0 0 (fun _ => 0) 0 0 (fun _ => 0) (fun _ => 0)) := hD
  subst o0
  refine lv_astore_n (lv' := [(1, .ref (o 0)), (0, .ref b)]) hx hb dL_law_7 rfl hl (by decide) rfl (fun ls hl => ?_)
  refine va_new (ci := 5) (fs := [.int 0, .null, .null, .int 0, .null, .null, .null, .int 0, .int 0, .int 0, .null, .int 0, .long 0, .long 0, .null, .int 0, .int 0, .int 0, .null, .int 0, .int 0]) (C := RX7) (T := TX7) (N := 21) hx hb hts inlX7 tyX7 tyX7_ok hown (hts0 (.classLink RL 110 RX7) (List.mem_of_getElem? (i := 785) (by decide +kernel))) (hts0 (.instantiable RX7 21) (List.mem_of_getElem? (i := 786) (by decide +kernel))) (hts0 (.initialized RX7) (List.mem_of_getElem? (i := 57) (by decide +kernel))) hK hP hD hS hA rfl (fun j hj => by rcases (show j = 0 ∨ j = 1 ∨ j = 2 ∨ j = 3 ∨ j = 4 ∨ j = 5 ∨ j = 6 ∨ j = 7 ∨ j = 8 ∨ j = 9 ∨ j = 10 ∨ j = 11 ∨ j = 12 ∨ j = 13 ∨ j = 14 ∨ j = 15 ∨ j = 16 ∨ j = 17 ∨ j = 18 ∨ j = 19 ∨ j = 20 by omega) with rfl | rfl | rfl | rfl | rfl | rfl | rfl | rfl | rfl | rfl | rfl | rfl | rfl | rfl | rfl | rfl | rfl | rfl | rfl | rfl | rfl <;> rfl) (Nat.le_of_ble_eq_true rfl) (Nat.le_of_ble_eq_true rfl) dL_law_8 (fun q7 H hP hD hS => ?_)
  have hP : va_P D vwCl ([(o 0, .inr (4, [.ref (o 1), .ref (o 2), .ref (o 5), .ref (o 7), .ref (o 8), .ref (o 10), .ref (o 11)])), (o 1, .inl (y 1, 6, .inr (.inl pl))), (o 2, .inr (2, [.ref (o 3), .ref (o 4), .int 0])), (o 3, .inl (y 0, 40, .inl (fun _ => 0))), (o 4, .inl (y 1, 40, .inr (.inl (fun _ => 0)))), (o 5, .inr (1, [.ref (o 6), .int 0])), (o 6, .inl (y 2, 80, .inl (fun _ => 0))), (o 7, .inr (0, [.int 0, .int 0, .int 0, .int 0, .int 0, .int 0])), (o 8, .inr (3, [.ref (o 9), .int 0, .int 0])), (o 9, .inl (y 1, 36, .inr (.inl (fun _ => 0)))), (o 10, .inl (y 1, 12, .inr (.inl (fun _ => 0)))), (o 11, .inl (y 3, 2, .inl (fun _ => 0))), (q7, .inr (5, [.int 0, .null, .null, .int 0, .null, .null, .null, .int 0, .int 0, .int 0, .null, .int 0, .long 0, .long 0, .null, .int 0, .int 0, .int 0, .null, .int 0, .int 0]))]) H := hP
  have hD : va_D (fun q : Nat => s.heap.size ≤ q) ([(o 0, .inr (4, [.ref (o 1), .ref (o 2), .ref (o 5), .ref (o 7), .ref (o 8), .ref (o 10), .ref (o 11)])), (o 1, .inl (y 1, 6, .inr (.inl pl))), (o 2, .inr (2, [.ref (o 3), .ref (o 4), .int 0])), (o 3, .inl (y 0, 40, .inl (fun _ => 0))), (o 4, .inl (y 1, 40, .inr (.inl (fun _ => 0)))), (o 5, .inr (1, [.ref (o 6), .int 0])), (o 6, .inl (y 2, 80, .inl (fun _ => 0))), (o 7, .inr (0, [.int 0, .int 0, .int 0, .int 0, .int 0, .int 0])), (o 8, .inr (3, [.ref (o 9), .int 0, .int 0])), (o 9, .inl (y 1, 36, .inr (.inl (fun _ => 0)))), (o 10, .inl (y 1, 12, .inr (.inl (fun _ => 0)))), (o 11, .inl (y 3, 2, .inl (fun _ => 0))), (q7, .inr (5, [.int 0, .null, .null, .int 0, .null, .null, .null, .int 0, .int 0, .int 0, .null, .int 0, .long 0, .long 0, .null, .int 0, .int 0, .int 0, .null, .int 0, .int 0]))]) := hD
  refine lv_dup hx hb dL_law_11 rfl ?_
  obtain ⟨hpre, hPc⟩ := px_of (av := [.ref q7]) hK hP hD [12] (wc := [(q7, .inr (5, [.int 0, .null, .null, .int 0, .null, .null, .null, .int 0, .int 0, .int 0, .null, .int 0, .long 0, .long 0, .null, .int 0, .int 0, .int 0, .null, .int 0, .int 0]))]) rfl rfl
  refine cRun_v (va_runI (As := []) (rest := [.ref q7]) ⟨hx, hb, hml, hown, hts⟩ (c_X7_init l D y _ q7 ms e7) (cwI 0 hts gL_law_X7_init rfl rfl rfl (hts0 (.initialized RX7) (List.mem_of_getElem? (i := 57) (by decide +kernel))) (hts0 (.methodLink RL 112 yX7_init) (List.mem_of_getElem? (i := 787) (by decide +kernel))) (hts0 (.instanceMethod yX7_init) (List.mem_of_getElem? (i := 788) (by decide +kernel))) rfl hd_X7_init ⟨Nat.le_of_ble_eq_true rfl, Nat.le_of_ble_eq_true rfl⟩) ⟨pxp_blind (fun _ _ _ _ h => h), fun U hU hW => ⟨rfl, (hpre U hU hW).2, trivial⟩⟩ rfl rfl hl.1 rfl (lv_room (Nat.le_of_ble_eq_true rfl)) dL_law_12 ⟨Nat.le_of_ble_eq_true rfl, Nat.le_of_ble_eq_true rfl⟩) hP hD hS hA [12] [0, 1, 2, 3, 4, 5, 6, 7, 8, 9, 10, 11] rfl rfl rfl (by decide) (fun w H locs w0 hP hD hS => ?_)
  subst w0
  have hP : va_P D vwCl ([(o 0, .inr (4, [.ref (o 1), .ref (o 2), .ref (o 5), .ref (o 7), .ref (o 8), .ref (o 10), .ref (o 11)])), (o 1, .inl (y 1, 6, .inr (.inl pl))), (o 2, .inr (2, [.ref (o 3), .ref (o 4), .int 0])), (o 3, .inl (y 0, 40, .inl (fun _ => 0))), (o 4, .inl (y 1, 40, .inr (.inl (fun _ => 0)))), (o 5, .inr (1, [.ref (o 6), .int 0])), (o 6, .inl (y 2, 80, .inl (fun _ => 0))), (o 7, .inr (0, [.int 0, .int 0, .int 0, .int 0, .int 0, .int 0])), (o 8, .inr (3, [.ref (o 9), .int 0, .int 0])), (o 9, .inl (y 1, 36, .inr (.inl (fun _ => 0)))), (o 10, .inl (y 1, 12, .inr (.inl (fun _ => 0)))), (o 11, .inl (y 3, 2, .inl (fun _ => 0))), (w 0, .inr (5, [.int 0, .ref (w 1), .ref (w 2), .int 0, .ref (w 3), .ref (w 4), .ref (w 5), .int 0, .int 0, .int 0, .ref (w 6), .int 0, .long 0, .long 0, .ref (w 7), .int 0, .int 0, .int 0, .ref (w 8), .int 0, .int 0])), (w 1, .inl (y 0, 12, .inl ms)), (w 2, .inl (y 0, 72, .inl (fun _ => 0))), (w 3, .inl (y 0, 24, .inl (fun _ => 0))), (w 4, .inl (y 3, 2, .inl (fun _ => 0))), (w 5, .inl (y 0, 80, .inl (fun _ => 0))), (w 6, .inl (y 0, 84, .inl (fun _ => 0))), (w 7, .inl (y 0, 40, .inl (fun _ => 0))), (w 8, .inl (y 0, 40, .inl (fun _ => 0)))]) H := hP
  have hD : va_D (fun q : Nat => s.heap.size ≤ q) ([(o 0, .inr (4, [.ref (o 1), .ref (o 2), .ref (o 5), .ref (o 7), .ref (o 8), .ref (o 10), .ref (o 11)])), (o 1, .inl (y 1, 6, .inr (.inl pl))), (o 2, .inr (2, [.ref (o 3), .ref (o 4), .int 0])), (o 3, .inl (y 0, 40, .inl (fun _ => 0))), (o 4, .inl (y 1, 40, .inr (.inl (fun _ => 0)))), (o 5, .inr (1, [.ref (o 6), .int 0])), (o 6, .inl (y 2, 80, .inl (fun _ => 0))), (o 7, .inr (0, [.int 0, .int 0, .int 0, .int 0, .int 0, .int 0])), (o 8, .inr (3, [.ref (o 9), .int 0, .int 0])), (o 9, .inl (y 1, 36, .inr (.inl (fun _ => 0)))), (o 10, .inl (y 1, 12, .inr (.inl (fun _ => 0)))), (o 11, .inl (y 3, 2, .inl (fun _ => 0))), (w 0, .inr (5, [.int 0, .ref (w 1), .ref (w 2), .int 0, .ref (w 3), .ref (w 4), .ref (w 5), .int 0, .int 0, .int 0, .ref (w 6), .int 0, .long 0, .long 0, .ref (w 7), .int 0, .int 0, .int 0, .ref (w 8), .int 0, .int 0])), (w 1, .inl (y 0, 12, .inl ms)), (w 2, .inl (y 0, 72, .inl (fun _ => 0))), (w 3, .inl (y 0, 24, .inl (fun _ => 0))), (w 4, .inl (y 3, 2, .inl (fun _ => 0))), (w 5, .inl (y 0, 80, .inl (fun _ => 0))), (w 6, .inl (y 0, 84, .inl (fun _ => 0))), (w 7, .inl (y 0, 40, .inl (fun _ => 0))), (w 8, .inl (y 0, 40, .inl (fun _ => 0)))]) := hD
  refine lv_astore_n (lv' := [(2, .ref (w 0)), (1, .ref (o 0)), (0, .ref b)]) hx hb dL_law_15 rfl hl (by decide) rfl (fun ls hl => ?_)
  refine lv_iconst (v := (1 : Int32)) hx hb dL_law_16 (by decide) ?_
  refine va_newa (atype := .long) hx hb (hts0 (.arrayClass .long) (List.mem_of_getElem? (i := 92) (by decide +kernel))) (ty := .long) rfl hK hP hD hS hA (a0 := (1, .inr (.inl (fun _ => 0)))) (fun _ => rfl) (by decide) rfl (Nat.le_of_ble_eq_true rfl) (Nat.le_of_ble_eq_true rfl) (Nat.le_of_ble_eq_true rfl) dL_law_17 (fun v cA H hK2 hP hD hS => ?_)
  obtain rfl : cA = y 1 := Option.some.inj ((hK2.2 4 _ rfl).2.symm.trans (hK.2 1 _ rfl).2)
  clear hK2
  have hP : va_P D vwCl (LW o w v y pl (fun _ => 0) (fun _ => 0) 0 (fun _ => 0) 0 0 0 0 0 0 0 (fun _ => 0) 0 0 (fun _ => 0) (fun _ => 0) 0 ms (fun _ => 0) 0 (fun _ => 0) (fun _ => 0) (fun _ => 0) 0 0 0 (fun _ => 0) 0 0 0 (fun _ => 0) 0 0 0 (fun _ => 0) 0 0 (fun _ => 0)) H := hP
  have hD : va_D (fun q : Nat => s.heap.size ≤ q) (LW o w v y pl (fun _ => 0) (fun _ => 0) 0 (fun _ => 0) 0 0 0 0 0 0 0 (fun _ => 0) 0 0 (fun _ => 0) (fun _ => 0) 0 ms (fun _ => 0) 0 (fun _ => 0) (fun _ => 0) (fun _ => 0) 0 0 0 (fun _ => 0) 0 0 0 (fun _ => 0) 0 0 0 (fun _ => 0) 0 0 (fun _ => 0)) := hD
  refine lv_astore_n (lv' := [(3, .ref v), (2, .ref (w 0)), (1, .ref (o 0)), (0, .ref b)]) hx hb dL_law_19 rfl hl (by decide) rfl (fun ls hl => ?_)
  refine lv_iconst (v := (0 : Int32)) hx hb dL_law_20 (by decide) ?_
  refine lv_istore (lv' := [(4, .int 0), (3, .ref v), (2, .ref (w 0)), (1, .ref (o 0)), (0, .ref b)]) hx hb dL_law_21 hl (by decide) rfl (fun ls hl => ?_)
  refine law_loop (D := D) (o := o) (w := w) (v := v) (y := y) (A := (fun q : Nat => s.heap.size ≤ q)) hfl hx hb hml hown hts hA hK hEX hX hbl hbA hL ?_ 512 0 _ _ _ _ _ _ _ _ _ _ _ _ _ _ _ _ _ _ _ _ _ _ _ _ _ _ _ _ _ _ _ _ _ _ _ _ _ _ _ H _ ls _ _ (by omega) (by omega) (by omega) (by omega) hrel hP hD hS (lv_sub hl [4, 3, 2, 1, 0] rfl)
  intro pl' te be cn ch le rE rL rP rF rS rD hs ho hc sl fi th ms' mst smn msl mhs mtx mle mat mwl mrd mrm mtp mbt mtm mtn mnt mnb mun mum mau ou H locs ls cells slots x4 bc bs hP hD hS hl
  refine va_forget (fun q h => hS.2.2 q h) ?_
  refine W.widen bc bs ?_
  refine lv_iconst (v := (1 : Int32)) hx hb dL_law_2115 (by decide) ?_
  exact lw_ret hx hb hr hlocks dL_law_2116
set_option maxHeartbeats 4000000 in
theorem lw_walk (l : Launch) (hflags : l.flags = flags0) (b : Addr) (xs : List Int32) : MetFree l x (headSpec (Jvm.Cond.code x code maxLocals ret :: tables_1) room_1) (lw_P b xs) (fun _ _ _ _ _ => True) lw_Q := by
  refine MetFree.of_bodyS (code := code) (maxLocals := maxLocals) (ret := ret) (by decide) ?_ ?_
  · intro args s m h hn
    obtain ⟨meth, c, h1, h2, h3, h4, h5, h6, -, -⟩ := Cond.code_spec hn (atoms_spec (ws := Jvm.Cond.code x code maxLocals ret :: tables_1) h _ List.mem_cons_self)
    exact ⟨meth, c, h1, h2, h3, h4, h5, h6⟩
  · intro p e s m args below meth c s₁ B hml0 hP _
    obtain ⟨rfl, hx, hbd, hgv⟩ := hP
    obtain ⟨scr, harrAt, hlist, hof, hsmall⟩ := hx
    obtain ⟨hcb, hkn, -, -⟩ := State.arrayAt?_spec harrAt
    have hown : s.vm.findClass R_law = some m.cls := findClass_of_methodNamed B.named
    have hts0 : ∀ c ∈ (Jvm.Cond.code x code maxLocals ret :: tables_1), c.before #[Value.ref b] s = true := atoms_spec (ws := Jvm.Cond.code x code maxLocals ret :: tables_1) B.pre
    have hts : ∀ w ∈ lw_tbl, w.before #[Value.ref b] s = true := k2_hts_sels lw_privs (fun w hw => hts0 w (List.mem_cons_of_mem _ hw)) lw_privs_ok
    have hml : c.maxLocals = 7 := B.maxLocals_eq (hts0 _ List.mem_cons_self)
    have X₀ : Stand p l e room_1 s m #[Value.ref b] below meth c s₁ [] 0 0 := Stand.of_body B
    have hh0 : s₁.heap = s.heap := by rw [B.state]; rfl
    have hsz : scr.slots.size = xs.length := by rw [← Array.length_toList, hlist, List.length_map]
    have hval : ∀ j : Nat, j < xs.length → scr.slots[j]? = some (.int (xs.getD j 0)) := fun j hj => by
      rw [← Array.getElem?_toList, hlist]
      simp [hj]
    have hbl : b < s.heap.size := (Array.getElem?_eq_some_iff.mp hcb).1
    have hX : va_X b xs.length (fun j => xs.getD j 0) s s.heap := ⟨scr, hcb, hof, hkn, hsz, hval⟩
    have K : W p l e room_1 s m #[Value.ref b] below meth c s₁.heap [] 0 0 (lw_Z below #[Value.ref b] s) (entryFrame m ([Value.ref b] : List Value).toArray 7) := by
      rw [hh0]
      exact whole_start l hflags hbd ⟨B.exec, B.bytes, B.returns, hml, hown, hts, hX, hbl, B.notSynchronized, hgv⟩
    obtain ⟨t, a1, o, b1, b2, b3⟩ := K s₁ rfl X₀
    exact ⟨t, o, a1, b1, b2, b3⟩
theorem lw_pre_spec {args : Array Value} {s : State} (h : (Jvm.Cond.and given_1 narrow_1).before args s = true) (hr : rest_1_c.before args s = true) : ∃ (b : Addr) (xs : List Int32), lw_P b xs args s := by
  have hs := flat_of_before _ h
  have hq := flat_of_before _ hr
  have hc : (Cond.count 1).before args s = true := hs _ (by decide +kernel)
  have harr : (Cond.arrayOf (.arg 0) .int).before args s = true := hs _ (by decide +kernel)
  have hle : (Cond.le (.length (.arg 0)) (.int 2048)).before args s = true := hs _ (by decide +kernel)
  have hlen : (Cond.isInt (.length (.arg 0))).before args s = true := hq _ (by decide +kernel)
  have hall : (Cond.all (.arg 0) (.isInt (.elem (.arg 0) (.index 0)))).before args s = true := hq _ (by decide +kernel)
  obtain ⟨b, xs, hb, hx⟩ := State.ints_of_pre rfl harr hlen hall
  have hsm : xs.length < 2 ^ 31 := hx.choose_spec.2.2.2
  have hev : (Term.length (.arg 0)).eval args s none [] s = some (.int xs.length.toInt32) := hx.length_eval hb
  have hv := Cond.le_ints hev (show (Term.int 2048).eval args s none [] s = some (.int 2048) from rfl)
  have hd : xs.length.toInt32 ≤ 2048 := by
    simpa [Cond.before, Cond.holds, hv] using hle
  have hN : xs.length ≤ 2048 := (Int32.ofNat_le_ofNat hsm (by decide)).mp (show Int32.ofNat xs.length ≤ Int32.ofNat 2048 from hd)
  exact ⟨b, xs, Cond.one_arg hc (show args[0]? = some (.ref b) from hb), hx, hN, h⟩
theorem lw_comes (l : Launch) (hflags : l.flags = flags0) : Comes l x (Jvm.Cond.code x code maxLocals ret :: tables_1) room_1 (fun tb e args s => Calls_1 tb e args s ∧ rest_1 tb e args s ∧ Pre_1 tb e args s)
    (fun _ _ args s o t => lw_Q args s o t) := by
  intro p e ha hc hk s m args below hf hfit hheap happ hpre
  obtain ⟨b, xs, hP⟩ := lw_pre_spec hpre.2.2 hpre.2.1
  obtain ⟨k, o, h1, h2, h3, hQ⟩ := lw_walk l hflags b xs p e ha hc hk s m args below hf ((Spec.applies_iff_loose hf).mp happ).1 hP trivial
  exact ⟨k, o, h1, h2, h3, hQ⟩
theorem lw_frame {s t : State} {o : Outcome} {args : Array Value} (h : Framed s o t [] 1063 8907) :
    Framed s o t (fieldLocs frame_1_writes args s ++ arrayLocs frame_1_arrays args s ++ staticLocs frame_1_statics s) 1063 8907 := h
theorem lw_limb (L : Cond) (hL : ∀ (args : Array Value) (s t : State), L.after args s (.returned (some (.int 1))) t = true) :
    ArmFor flags0 classFile x code maxLocals ret World_1 tables_1 room_1 Calls_1 rest_1 Pre_1
      (fun tb e a s o t => postC L tb e a s o t ∧ Framed s o t (fieldLocs frame_1_writes a s ++ arrayLocs frame_1_arrays a s ++ staticLocs frame_1_statics s) 1063 8907) := by
  intro l hflags _ _ p e ha hc hk s m args below hf hfit hheap happ hpre
  obtain ⟨k, o, h1, h2, h3, rfl, hF⟩ := lw_comes l hflags p e ha hc hk s m args below hf hfit hheap happ hpre
  exact ⟨k, _, h1, h2, h3, hL args s _, lw_frame hF⟩
theorem i_vc : Claimed_1_1 ∧ Claimed_1_2 := ⟨lw_limb limb_1_1 (fun args s t => by simp [limb_1_1, Cond.after, Cond.holds, Cond.value]), lw_limb limb_1_2 (fun args s t => Cond.after_iff.mpr (by
  first | (rw [show limb_1_2 = Cond.eq .result (.int 1) from rfl, Cond.eq_ints (x := 1) (y := 1) rfl rfl]; simp; done) | (simp [limb_1_2, Cond.value, Term.eval]; done)))⟩
