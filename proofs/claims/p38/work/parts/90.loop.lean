/-! the law's loop -/
set_option maxHeartbeats 0 in
theorem law_loop {p : Program} {l : Launch} {e : Env} {s : State} {m : MethodId} {args : Array Value} {below : List Frame} {meth : Method} {c : Code} {Q : State → Prop} {D : va_G} {o : Nat → Nat} {y : Nat → ClassId} {A : Nat → Prop} {b L : Nat} {xs : Nat → Int32} {cells slots : Nat} (hL : L ≤ 260) (hx : p.tables.exec = Jvm.exec) (hb : c.code = code) (hml : c.maxLocals = 12) (hown : s.vm.findClass RL = some m.cls) (hts : ∀ w ∈ wsL_law, w.before args s = true) (hA : ∀ q, s.heap.size ≤ q → A q) (hK : va_K D vwCl (TY y) s) (hX : va_X b L xs s s.heap) (hbl : b < s.heap.size) (hbA : ¬ A b) (bcl : cells ≤ 153) (bsl : slots ≤ 1343)
    (kend : ∀ (pl : Nat → Int64) (te : Nat → Int32) (be : Nat → Int64) (cn : Int32) (ch : Nat → Int32) (le : Int32) (rE : Int32) (rL : Int32) (rP : Int32) (rF : Int32) (rS : Int32) (rD : Int32) (hs : Nat → Int64) (ho : Int32) (hc : Int32) (sl : Nat → Int64) (fi : Nat → Int32) (H : Heap) (locs : List Loc) (ls : Array Slot), va_P D vwCl (XW o y pl te be cn ch le rE rL rP rF rS rD hs ho hc sl fi) H → va_D A (XW o y pl te be cn ch le rE rL rP rF rS rD hs ho hc sl fi) → va_S A s.heap H locs → W p l e room_1 s m args below meth c H locs cells slots Q (F0 m 291 ls [])) :
    ∀ (k t : Nat) (pl : Nat → Int64) (te : Nat → Int32) (be : Nat → Int64) (cn : Int32) (ch : Nat → Int32) (le : Int32) (rE : Int32) (rL : Int32) (rP : Int32) (rF : Int32) (rS : Int32) (rD : Int32) (hs : Nat → Int64) (ho : Int32) (hc : Int32) (sl : Nat → Int64) (fi : Nat → Int32) (H : Heap) (locs : List Loc) (ls : Array Slot), t + k = 36 → (∃ N E, PX pl N E) → (∃ k' t' : Nat, k' ≤ 6 ∧ t' < 6 ∧ hc = nI k' ∧ ho = nI t') → va_P D vwCl (XW o y pl te be cn ch le rE rL rP rF rS rD hs ho hc sl fi) H → va_D A (XW o y pl te be cn ch le rE rL rP rF rS rD hs ho hc sl fi) → va_S A s.heap H locs → lv_has ls 12 [(0, .ref b), (1, .ref (o 0)), (2, .int (nI t))] → W p l e room_1 s m args below meth c H locs cells slots Q (F0 m 77 ls []) := by
  intro k
  induction k with
  | zero =>
    intro t pl te be cn ch le rE rL rP rF rS rD hs ho hc sl fi H locs ls ht hp hr hP hD hS hl
    refine lv_iload_n hx hb dL_law_77 rfl (lv_at hl 2 rfl) ?_
    refine lv_bipush (v := (36 : Int32)) hx hb dL_law_78 (by decide) ?_
    refine lv_icmp_ge (tgt := 291) hx hb dL_law_80 (by decide) (fun h9 => ?_) (fun h9 => ?_)
    · exact kend _ _ _ _ _ _ _ _ _ _ _ _ _ _ _ _ _ H locs ls hP hD hS
    · exact absurd (show (36 : Int32) ≤ nI t from by show nI 36 ≤ nI t; rw [nI_leI (by omega) (by omega)]; omega) h9
  | succ k ih =>
    intro t pl te be cn ch le rE rL rP rF rS rD hs ho hc sl fi H locs ls ht hp hr hP hD hS hl
    refine lv_iload_n hx hb dL_law_77 rfl (lv_at hl 2 rfl) ?_
    refine lv_bipush (v := (36 : Int32)) hx hb dL_law_78 (by decide) ?_
    refine lv_icmp_ge (tgt := 291) hx hb dL_law_80 (by decide) (fun h9 => ?_) (fun h9 => ?_)
    · exact absurd h9 (show ¬ (36 : Int32) ≤ nI t from by show ¬ nI 36 ≤ nI t; rw [nI_leI (by omega) (by omega)]; omega)
    · have e2 : (2 : Int32) * nI t = nI (2 * t) := pk_mul 2 t
      refine lv_aload_n hx hb dL_law_83 rfl (lv_at hl 0 rfl) ?_
      refine lv_iconst (v := (2 : Int32)) hx hb dL_law_84 (by decide) ?_
      refine lv_iload_n hx hb dL_law_85 rfl (lv_at hl 2 rfl) ?_
      refine lv_imul hx hb dL_law_86 ?_
      refine eqi e2 ?_
      refine cX_i (As := [.ref b, .int (nI (2 * t))]) (rest := []) ⟨hx, hb, hml, hown, hts⟩ (c_L_cell l D y _ b L xs hL (2 * t) (by omega)) (va_cwS 2 hts gL_law_L_cell rfl rfl rfl hd_L_cell ⟨Nat.le_of_ble_eq_true rfl, Nat.le_of_ble_eq_true rfl⟩) hK hP hD hS hA hX hbl hbA rfl hl.1 rfl (Nat.le_of_ble_eq_true rfl) dL_law_87 ⟨bcl, bsl⟩ (fun H locs hP hD hS => ?_)
      refine lv_istore_n (lv' := [(3, .int (cv xs L (2 * t))), (0, .ref b), (1, .ref (o 0)), (2, .int (nI t))]) hx hb dL_law_90 rfl hl (by decide) rfl (fun ls hl => ?_)
      obtain ⟨N, E, hp⟩ := hp
      obtain ⟨k0, t0, hk0, ht0, rfl, rfl⟩ := hr
      obtain ⟨v3, v4, pl1, te1, be1, cn1, hs1, ho1, hc1, eB, hp1, hr1⟩ := turn_b hp (te := te) (be := be) (hs := hs) (cn := cn) (x2 := nI t) (a1 := cv xs L (2 * t)) (a2 := cv xs L (2 * t + 1)) hk0 ht0
      refine cs_B hL hx hb hml hown hts hA hK hX hbl hbA bcl bsl (j2 := 2 * t + 1) (by omega) (by rw [e2]; exact nI_1 _) rfl _ _ _ _ _ _ _ _ _ _ _ _ _ _ _ _ _ _ _ _ _ _ _ _ _ _ eB hP hD hS (lv_sub hl [1, 2, 3, 0] rfl) (fun H locs ls hP hD hS hl => ?_)
      obtain ⟨N1, E1, hp1⟩ := hp1
      obtain ⟨te2, be2, cn2, eC⟩ := turn_c hp1 te1 be1 cn1 v3 v4
      refine cs_C hL hx hb hml hown hts hA hK hX hbl hbA bcl bsl _ _ _ _ _ _ _ _ _ _ _ _ _ _ _ _ _ _ _ _ eC hP hD hS (lv_sub hl [0, 1, 2, 3, 4] rfl) (fun H locs ls hP hD hS hl => ?_)
      refine lv_iinc (v := nI (t + 1)) (lv' := [(2, .int (nI (t + 1))), (0, .ref b), (1, .ref (o 0))]) hx hb dL_law_285 hl (k := 2) rfl (nI_1 t) (by decide) rfl (fun ls hl => ?_)
      refine lv_goto (tgt := 77) hx hb dL_law_288 (by decide) ?_
      exact ih (t + 1) _ _ _ _ _ _ _ _ _ _ _ _ _ _ _ _ _ H locs ls (by omega) ⟨N1, E1, hp1⟩ hr1 hP hD hS (lv_sub hl [1, 2, 0] rfl)
