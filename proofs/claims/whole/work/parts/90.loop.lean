/-! the law's loop -/
set_option maxHeartbeats 0 in
theorem law_at {p : Program} {l : Launch} {e : Env} {s : State} {m : MethodId} {args : Array Value} {below : List Frame} {meth : Method} {c : Code} {Q : State → Prop} {D : va_G} {o w : Nat → Nat} {v : Nat} {y : Nat → ClassId} {A : Nat → Prop} {b L : Nat} {xs : Nat → Int32} {x4 a1 a2 a3 : Int32} (hfl : l.stackTraces = false) (hx : p.tables.exec = Jvm.exec) (hb : c.code = code) (hml : c.maxLocals = 7) (hown : s.vm.findClass RL = some m.cls) (hts : ∀ w ∈ wsL_law, w.before args s = true) (hA : ∀ q, s.heap.size ≤ q → A q) (hK : va_K D vwCl (TY y) s) (hEX : EXC A s s.heap) (hX : va_X b L xs s s.heap) (hbl : b < s.heap.size) (hbA : ¬ A b) (hi1 : vp_in (x4 + (1 : Int32)) L) (hi2 : vp_in (x4 + (2 : Int32)) L) (hi3 : vp_in (x4 + (3 : Int32)) L) (ha1 : xs (x4 + (1 : Int32)).toNatClampNeg = a1) (ha2 : xs (x4 + (2 : Int32)).toNatClampNeg = a2) (ha3 : xs (x4 + (3 : Int32)).toNatClampNeg = a3) {pl : Nat → Int64} {te : Nat → Int32} {be : Nat → Int64} {cn : Int32} {ch : Nat → Int32} {le : Int32} {rE : Int32} {rL : Int32} {rP : Int32} {rF : Int32} {rS : Int32} {rD : Int32} {hs : Nat → Int64} {ho : Int32} {hc : Int32} {sl : Nat → Int64} {fi : Nat → Int32} {th : Int32} {ms : Nat → Int32} {mst : Nat → Int32} {smn : Int32} {msl : Nat → Int32} {mhs : Nat → Int32} {mtx : Nat → Int32} {mle : Int32} {mat : Int32} {mwl : Int32} {mrd : Nat → Int32} {mrm : Int32} {mtp : Int64} {mbt : Int64} {mtm : Nat → Int32} {mtn : Int32} {mnt : Int32} {mnb : Int32} {mun : Nat → Int32} {mum : Int32} {mau : Int32} {ou : Nat → Int64} {H : Heap} {locs : List Loc} {ls : Array Slot} {cells slots : Nat} {op : Int32} (hr : REL pl ch le hs ho hc sl fi ms mst smn msl mhs mtx mle) (hP : va_P D vwCl (LW o w v y pl te be cn ch le rE rL rP rF rS rD hs ho hc sl fi th ms mst smn msl mhs mtx mle mat mwl mrd mrm mtp mbt mtm mtn mnt mnb mun mum mau ou) H) (hD : va_D A (LW o w v y pl te be cn ch le rE rL rP rF rS rD hs ho hc sl fi th ms mst smn msl mhs mtx mle mat mwl mrd mrm mtp mbt mtm mtn mnt mnb mun mum mau ou)) (hS : va_S A s.heap H locs) (hl : lv_has ls 7 [(0, .ref b), (1, .ref (o 0)), (2, .ref (w 0)), (3, .ref v), (4, .int x4)]) (bcl : cells + 1 ≤ 1063) (bsl : slots + 6 ≤ 8907)
    (kk : ∀ (pl : Nat → Int64) (te : Nat → Int32) (be : Nat → Int64) (cn : Int32) (ch : Nat → Int32) (le : Int32) (rE : Int32) (rL : Int32) (rP : Int32) (rF : Int32) (rS : Int32) (rD : Int32) (hs : Nat → Int64) (ho : Int32) (hc : Int32) (sl : Nat → Int64) (fi : Nat → Int32) (th : Int32) (ms : Nat → Int32) (mst : Nat → Int32) (smn : Int32) (msl : Nat → Int32) (mhs : Nat → Int32) (mtx : Nat → Int32) (mle : Int32) (mat : Int32) (mwl : Int32) (mrd : Nat → Int32) (mrm : Int32) (mtp : Int64) (mbt : Int64) (mtm : Nat → Int32) (mtn : Int32) (mnt : Int32) (mnb : Int32) (mun : Nat → Int32) (mum : Int32) (mau : Int32) (ou : Nat → Int64) (H : Heap) (locs : List Loc) (ls : Array Slot) (cells1 slots1 : Nat), cells1 ≤ cells + 1 → slots1 ≤ slots + 6 → REL pl ch le hs ho hc sl fi ms mst smn msl mhs mtx mle → va_P D vwCl (LW o w v y pl te be cn ch le rE rL rP rF rS rD hs ho hc sl fi th ms mst smn msl mhs mtx mle mat mwl mrd mrm mtp mbt mtm mtn mnt mnb mun mum mau ou) H → va_D A (LW o w v y pl te be cn ch le rE rL rP rF rS rD hs ho hc sl fi th ms mst smn msl mhs mtx mle mat mwl mrd mrm mtp mbt mtm mtn mnt mnb mun mum mau ou) → va_S A s.heap H locs → lv_has ls 7 [(0, .ref b), (1, .ref (o 0)), (2, .ref (w 0)), (3, .ref v), (4, .int x4)] → W p l e room_1 s m args below meth c H locs cells1 slots1 Q (F0 m 2109 ls [])) : W p l e room_1 s m args below meth c H locs cells slots Q (F0 m 39 ls [.int op]) := by
  by_cases c0 : op = (0 : Int32)
  · refine lv_tableIn (off := 153) (tgt := 192) hx hb dL_law_39 (by rw [c0]; decide) (by rw [c0]; decide) (by rw [c0]; rfl) (by decide) ?_
    obtain ⟨q0, q1, q2, q3, q4, q5, q6, q7, q8, q9, q10, e, hr2⟩ := mG_0 hr a1 a2 a3
    exact cs_0 hfl hx hb hml hown hts hA hK hEX hX hbl hbA hi1 hi2 hi3 ha1 ha2 ha3 _ _ _ _ _ _ _ _ _ _ _ _ _ _ _ _ _ _ _ _ _ _ _ _ _ _ _ _ _ _ _ _ _ _ _ _ _ _ _ q0 q1 q2 q3 q4 q5 q6 q7 q8 q9 q10 e hP hD hS hl bcl bsl (fun H locs ls hP hD hS hl => kk _ _ _ _ _ _ _ _ _ _ _ _ _ _ _ _ _ _ _ _ _ _ _ _ _ _ _ _ _ _ _ _ _ _ _ _ _ _ _ H locs ls _ _ (Nat.le_refl _) (Nat.le_refl _) hr2 hP hD hS hl)
  by_cases c1 : op = (1 : Int32)
  · refine lv_tableIn (off := 233) (tgt := 272) hx hb dL_law_39 (by rw [c1]; decide) (by rw [c1]; decide) (by rw [c1]; rfl) (by decide) ?_
    obtain ⟨q0, q1, q2, q3, q4, q5, q6, q7, q8, q9, q10, e, hr2⟩ := mG_1 hr a1 a2 a3
    exact cs_1 hfl hx hb hml hown hts hA hK hEX hX hbl hbA hi1 hi2 hi3 ha1 ha2 ha3 _ _ _ _ _ _ _ _ _ _ _ _ _ _ _ _ _ _ _ _ _ _ _ _ _ _ _ _ _ _ _ _ _ _ _ _ _ _ _ q0 q1 q2 q3 q4 q5 q6 q7 q8 q9 q10 e hP hD hS hl bcl bsl (fun H locs ls hP hD hS hl => kk _ _ _ _ _ _ _ _ _ _ _ _ _ _ _ _ _ _ _ _ _ _ _ _ _ _ _ _ _ _ _ _ _ _ _ _ _ _ _ H locs ls _ _ (Nat.le_refl _) (Nat.le_refl _) hr2 hP hD hS hl)
  by_cases c2 : op = (2 : Int32)
  · refine lv_tableIn (off := 301) (tgt := 340) hx hb dL_law_39 (by rw [c2]; decide) (by rw [c2]; decide) (by rw [c2]; rfl) (by decide) ?_
    obtain ⟨q0, q1, q2, q3, q4, q5, q6, q7, q8, q9, q10, e, hr2⟩ := mG_2 hr a1 a2 a3
    exact cs_2 hfl hx hb hml hown hts hA hK hEX hX hbl hbA hi1 hi2 hi3 ha1 ha2 ha3 _ _ _ _ _ _ _ _ _ _ _ _ _ _ _ _ _ _ _ _ _ _ _ _ _ _ _ _ _ _ _ _ _ _ _ _ _ _ _ q0 q1 q2 q3 q4 q5 q6 q7 q8 q9 q10 e hP hD hS hl bcl bsl (fun H locs ls hP hD hS hl => kk _ _ _ _ _ _ _ _ _ _ _ _ _ _ _ _ _ _ _ _ _ _ _ _ _ _ _ _ _ _ _ _ _ _ _ _ _ _ _ H locs ls _ _ (Nat.le_refl _) (Nat.le_refl _) hr2 hP hD hS hl)
  by_cases c3 : op = (3 : Int32)
  · refine lv_tableIn (off := 369) (tgt := 408) hx hb dL_law_39 (by rw [c3]; decide) (by rw [c3]; decide) (by rw [c3]; rfl) (by decide) ?_
    obtain ⟨q0, q1, q2, q3, q4, q5, q6, q7, q8, q9, q10, e, hr2⟩ := mG_3 hr a1 a2 a3
    exact cs_3 hfl hx hb hml hown hts hA hK hEX hX hbl hbA hi1 hi2 hi3 ha1 ha2 ha3 _ _ _ _ _ _ _ _ _ _ _ _ _ _ _ _ _ _ _ _ _ _ _ _ _ _ _ _ _ _ _ _ _ _ _ _ _ _ _ q0 q1 q2 q3 q4 q5 q6 q7 q8 q9 q10 e hP hD hS hl bcl bsl (fun H locs ls hP hD hS hl => kk _ _ _ _ _ _ _ _ _ _ _ _ _ _ _ _ _ _ _ _ _ _ _ _ _ _ _ _ _ _ _ _ _ _ _ _ _ _ _ H locs ls _ _ (Nat.le_refl _) (Nat.le_refl _) hr2 hP hD hS hl)
  by_cases c4 : op = (4 : Int32)
  · refine lv_tableIn (off := 437) (tgt := 476) hx hb dL_law_39 (by rw [c4]; decide) (by rw [c4]; decide) (by rw [c4]; rfl) (by decide) ?_
    obtain ⟨q0, q1, q2, q3, q4, q5, q6, q7, q8, e, hr2⟩ := mG_4 hr a1 a2 a3
    exact cs_4 hfl hx hb hml hown hts hA hK hEX hX hbl hbA hi1 hi2 hi3 ha1 ha2 ha3 _ _ _ _ _ _ _ _ _ _ _ _ _ _ _ _ _ _ _ _ _ _ _ _ _ _ _ _ _ _ _ _ _ _ _ _ _ _ _ q0 q1 q2 q3 q4 q5 q6 q7 q8 e hP hD hS hl bcl bsl (fun H locs ls hP hD hS hl => kk _ _ _ _ _ _ _ _ _ _ _ _ _ _ _ _ _ _ _ _ _ _ _ _ _ _ _ _ _ _ _ _ _ _ _ _ _ _ _ H locs ls _ _ (Nat.le_refl _) (Nat.le_refl _) hr2 hP hD hS hl)
  by_cases c5 : op = (5 : Int32)
  · refine lv_tableIn (off := 512) (tgt := 551) hx hb dL_law_39 (by rw [c5]; decide) (by rw [c5]; decide) (by rw [c5]; rfl) (by decide) ?_
    obtain ⟨q0, q1, q2, q3, q4, q5, q6, q7, q8, q9, q10, e, hr2⟩ := mG_5 hr a1 a2 a3
    exact cs_5 hfl hx hb hml hown hts hA hK hEX hX hbl hbA hi1 hi2 hi3 ha1 ha2 ha3 _ _ _ _ _ _ _ _ _ _ _ _ _ _ _ _ _ _ _ _ _ _ _ _ _ _ _ _ _ _ _ _ _ _ _ _ _ _ _ q0 q1 q2 q3 q4 q5 q6 q7 q8 q9 q10 e hP hD hS hl bcl bsl (fun H locs ls hP hD hS hl => kk _ _ _ _ _ _ _ _ _ _ _ _ _ _ _ _ _ _ _ _ _ _ _ _ _ _ _ _ _ _ _ _ _ _ _ _ _ _ _ H locs ls _ _ (Nat.le_refl _) (Nat.le_refl _) hr2 hP hD hS hl)
  by_cases c6 : op = (6 : Int32)
  · refine lv_tableIn (off := 568) (tgt := 607) hx hb dL_law_39 (by rw [c6]; decide) (by rw [c6]; decide) (by rw [c6]; rfl) (by decide) ?_
    obtain ⟨q0, q1, q2, q3, q4, q5, q6, q7, q8, q9, q10, e, hr2⟩ := mG_6 hr a1 a2 a3
    exact cs_6 hfl hx hb hml hown hts hA hK hEX hX hbl hbA hi1 hi2 hi3 ha1 ha2 ha3 _ _ _ _ _ _ _ _ _ _ _ _ _ _ _ _ _ _ _ _ _ _ _ _ _ _ _ _ _ _ _ _ _ _ _ _ _ _ _ q0 q1 q2 q3 q4 q5 q6 q7 q8 q9 q10 e hP hD hS hl bcl bsl (fun H locs ls hP hD hS hl => kk _ _ _ _ _ _ _ _ _ _ _ _ _ _ _ _ _ _ _ _ _ _ _ _ _ _ _ _ _ _ _ _ _ _ _ _ _ _ _ H locs ls _ _ (Nat.le_refl _) (Nat.le_refl _) hr2 hP hD hS hl)
  by_cases c7 : op = (7 : Int32)
  · refine lv_tableIn (off := 636) (tgt := 675) hx hb dL_law_39 (by rw [c7]; decide) (by rw [c7]; decide) (by rw [c7]; rfl) (by decide) ?_
    obtain ⟨q0, q1, q2, q3, q4, q5, q6, q7, q8, q9, q10, q11, q12, q13, q14, q15, e, hr2⟩ := mG_7 hr a1 a2 a3
    exact cs_7 hfl hx hb hml hown hts hA hK hEX hX hbl hbA hi1 hi2 hi3 ha1 ha2 ha3 _ _ _ _ _ _ _ _ _ _ _ _ _ _ _ _ _ _ _ _ _ _ _ _ _ _ _ _ _ _ _ _ _ _ _ _ _ _ _ q0 q1 q2 q3 q4 q5 q6 q7 q8 q9 q10 q11 q12 q13 q14 q15 e hP hD hS hl bcl bsl (fun H locs ls hP hD hS hl => kk _ _ _ _ _ _ _ _ _ _ _ _ _ _ _ _ _ _ _ _ _ _ _ _ _ _ _ _ _ _ _ _ _ _ _ _ _ _ _ H locs ls _ _ (Nat.le_refl _) (Nat.le_refl _) hr2 hP hD hS hl)
  by_cases c8 : op = (8 : Int32)
  · refine lv_tableIn (off := 704) (tgt := 743) hx hb dL_law_39 (by rw [c8]; decide) (by rw [c8]; decide) (by rw [c8]; rfl) (by decide) ?_
    obtain ⟨q0, q1, e⟩ := mG_8 hr a1 a2 a3
    exact cs_8 hfl hx hb hml hown hts hA hK hEX hX hbl hbA hi1 hi2 hi3 ha1 ha2 ha3 _ _ _ _ _ _ _ _ _ _ _ _ _ _ _ _ _ _ _ _ _ _ _ _ _ _ _ _ _ _ _ _ _ _ _ _ _ _ _ q0 q1 e hP hD hS hl bcl bsl (fun H locs ls hP hD hS hl => kk _ _ _ _ _ _ _ _ _ _ _ _ _ _ _ _ _ _ _ _ _ _ _ _ _ _ _ _ _ _ _ _ _ _ _ _ _ _ _ H locs ls _ _ (Nat.le_refl _) (Nat.le_refl _) hr hP hD hS hl)
  by_cases c9 : op = (9 : Int32)
  · refine lv_tableIn (off := 760) (tgt := 799) hx hb dL_law_39 (by rw [c9]; decide) (by rw [c9]; decide) (by rw [c9]; rfl) (by decide) ?_
    obtain ⟨q0, q1, e⟩ := mG_9 hr a1 a2 a3
    exact cs_9 hfl hx hb hml hown hts hA hK hEX hX hbl hbA hi1 hi2 hi3 ha1 ha2 ha3 _ _ _ _ _ _ _ _ _ _ _ _ _ _ _ _ _ _ _ _ _ _ _ _ _ _ _ _ _ _ _ _ _ _ _ _ _ _ _ q0 q1 e hP hD hS hl bcl bsl (fun H locs ls hP hD hS hl => kk _ _ _ _ _ _ _ _ _ _ _ _ _ _ _ _ _ _ _ _ _ _ _ _ _ _ _ _ _ _ _ _ _ _ _ _ _ _ _ H locs ls _ _ (Nat.le_refl _) (Nat.le_refl _) hr hP hD hS hl)
  by_cases c10 : op = (10 : Int32)
  · refine lv_tableIn (off := 816) (tgt := 855) hx hb dL_law_39 (by rw [c10]; decide) (by rw [c10]; decide) (by rw [c10]; rfl) (by decide) ?_
    obtain ⟨q0, q1, e⟩ := mG_10 hr a1 a2 a3
    exact cs_10 hfl hx hb hml hown hts hA hK hEX hX hbl hbA hi1 hi2 hi3 ha1 ha2 ha3 _ _ _ _ _ _ _ _ _ _ _ _ _ _ _ _ _ _ _ _ _ _ _ _ _ _ _ _ _ _ _ _ _ _ _ _ _ _ _ q0 q1 e hP hD hS hl bcl bsl (fun H locs ls hP hD hS hl => kk _ _ _ _ _ _ _ _ _ _ _ _ _ _ _ _ _ _ _ _ _ _ _ _ _ _ _ _ _ _ _ _ _ _ _ _ _ _ _ H locs ls _ _ (Nat.le_refl _) (Nat.le_refl _) hr hP hD hS hl)
  by_cases c11 : op = (11 : Int32)
  · refine lv_tableIn (off := 884) (tgt := 923) hx hb dL_law_39 (by rw [c11]; decide) (by rw [c11]; decide) (by rw [c11]; rfl) (by decide) ?_
    obtain ⟨q0, q1, e⟩ := mG_11 hr a1 a2 a3
    exact cs_11 hfl hx hb hml hown hts hA hK hEX hX hbl hbA hi1 hi2 hi3 ha1 ha2 ha3 _ _ _ _ _ _ _ _ _ _ _ _ _ _ _ _ _ _ _ _ _ _ _ _ _ _ _ _ _ _ _ _ _ _ _ _ _ _ _ q0 q1 e hP hD hS hl bcl bsl (fun H locs ls hP hD hS hl => kk _ _ _ _ _ _ _ _ _ _ _ _ _ _ _ _ _ _ _ _ _ _ _ _ _ _ _ _ _ _ _ _ _ _ _ _ _ _ _ H locs ls _ _ (Nat.le_refl _) (Nat.le_refl _) hr hP hD hS hl)
  by_cases c12 : op = (12 : Int32)
  · refine lv_tableIn (off := 940) (tgt := 979) hx hb dL_law_39 (by rw [c12]; decide) (by rw [c12]; decide) (by rw [c12]; rfl) (by decide) ?_
    obtain ⟨q0, e⟩ := mG_12 hr a1 a2 a3
    exact cs_12 hfl hx hb hml hown hts hA hK hEX hX hbl hbA hi1 hi2 hi3 ha1 ha2 ha3 _ _ _ _ _ _ _ _ _ _ _ _ _ _ _ _ _ _ _ _ _ _ _ _ _ _ _ _ _ _ _ _ _ _ _ _ _ _ _ q0 e hP hD hS hl bcl bsl (fun H locs ls hP hD hS hl => kk _ _ _ _ _ _ _ _ _ _ _ _ _ _ _ _ _ _ _ _ _ _ _ _ _ _ _ _ _ _ _ _ _ _ _ _ _ _ _ H locs ls _ _ (Nat.le_refl _) (Nat.le_refl _) hr hP hD hS hl)
  by_cases c13 : op = (13 : Int32)
  · refine lv_tableIn (off := 954) (tgt := 993) hx hb dL_law_39 (by rw [c13]; decide) (by rw [c13]; decide) (by rw [c13]; rfl) (by decide) ?_
    obtain ⟨q0, e⟩ := mG_13 hr a1 a2 a3
    exact cs_13 hfl hx hb hml hown hts hA hK hEX hX hbl hbA hi1 hi2 hi3 ha1 ha2 ha3 _ _ _ _ _ _ _ _ _ _ _ _ _ _ _ _ _ _ _ _ _ _ _ _ _ _ _ _ _ _ _ _ _ _ _ _ _ _ _ q0 e hP hD hS hl bcl bsl (fun H locs ls hP hD hS hl => kk _ _ _ _ _ _ _ _ _ _ _ _ _ _ _ _ _ _ _ _ _ _ _ _ _ _ _ _ _ _ _ _ _ _ _ _ _ _ _ H locs ls _ _ (Nat.le_refl _) (Nat.le_refl _) hr hP hD hS hl)
  by_cases c14 : op = (14 : Int32)
  · refine lv_tableIn (off := 967) (tgt := 1006) hx hb dL_law_39 (by rw [c14]; decide) (by rw [c14]; decide) (by rw [c14]; rfl) (by decide) ?_
    obtain ⟨q0, q1, q2, q3, q4, q5, q6, e⟩ := mG_14 hr a1 a2 a3
    exact cs_14 hfl hx hb hml hown hts hA hK hEX hX hbl hbA hi1 hi2 hi3 ha1 ha2 ha3 _ _ _ _ _ _ _ _ _ _ _ _ _ _ _ _ _ _ _ _ _ _ _ _ _ _ _ _ _ _ _ _ _ _ _ _ _ _ _ q0 q1 q2 q3 q4 q5 q6 e hP hD hS hl bcl bsl (fun H locs ls hP hD hS hl => kk _ _ _ _ _ _ _ _ _ _ _ _ _ _ _ _ _ _ _ _ _ _ _ _ _ _ _ _ _ _ _ _ _ _ _ _ _ _ _ H locs ls _ _ (Nat.le_refl _) (Nat.le_refl _) hr hP hD hS hl)
  by_cases c15 : op = (15 : Int32)
  · refine lv_tableIn (off := 1023) (tgt := 1062) hx hb dL_law_39 (by rw [c15]; decide) (by rw [c15]; decide) (by rw [c15]; rfl) (by decide) ?_
    obtain ⟨q0, q1, q2, q3, q4, q5, q6, e⟩ := mG_15 hr a1 a2 a3
    exact cs_15 hfl hx hb hml hown hts hA hK hEX hX hbl hbA hi1 hi2 hi3 ha1 ha2 ha3 _ _ _ _ _ _ _ _ _ _ _ _ _ _ _ _ _ _ _ _ _ _ _ _ _ _ _ _ _ _ _ _ _ _ _ _ _ _ _ q0 q1 q2 q3 q4 q5 q6 e hP hD hS hl bcl bsl (fun H locs ls hP hD hS hl => kk _ _ _ _ _ _ _ _ _ _ _ _ _ _ _ _ _ _ _ _ _ _ _ _ _ _ _ _ _ _ _ _ _ _ _ _ _ _ _ H locs ls _ _ (Nat.le_refl _) (Nat.le_refl _) hr hP hD hS hl)
  by_cases c16 : op = (16 : Int32)
  · refine lv_tableIn (off := 1091) (tgt := 1130) hx hb dL_law_39 (by rw [c16]; decide) (by rw [c16]; decide) (by rw [c16]; rfl) (by decide) ?_
    obtain ⟨q0, q1, q2, q3, q4, q5, q6, q7, q8, e⟩ := mG_16 hr a1 a2 a3
    exact cs_16 hfl hx hb hml hown hts hA hK hEX hX hbl hbA hi1 hi2 hi3 ha1 ha2 ha3 _ _ _ _ _ _ _ _ _ _ _ _ _ _ _ _ _ _ _ _ _ _ _ _ _ _ _ _ _ _ _ _ _ _ _ _ _ _ _ q0 q1 q2 q3 q4 q5 q6 q7 q8 e hP hD hS hl bcl bsl (fun H locs ls hP hD hS hl => kk _ _ _ _ _ _ _ _ _ _ _ _ _ _ _ _ _ _ _ _ _ _ _ _ _ _ _ _ _ _ _ _ _ _ _ _ _ _ _ H locs ls _ _ (Nat.le_refl _) (Nat.le_refl _) hr hP hD hS hl)
  by_cases c17 : op = (17 : Int32)
  · refine lv_tableIn (off := 1159) (tgt := 1198) hx hb dL_law_39 (by rw [c17]; decide) (by rw [c17]; decide) (by rw [c17]; rfl) (by decide) ?_
    obtain ⟨q0, q1, q2, q3, q4, q5, q6, q7, q8, e⟩ := mG_17 hr a1 a2 a3
    exact cs_17 hfl hx hb hml hown hts hA hK hEX hX hbl hbA hi1 hi2 hi3 ha1 ha2 ha3 _ _ _ _ _ _ _ _ _ _ _ _ _ _ _ _ _ _ _ _ _ _ _ _ _ _ _ _ _ _ _ _ _ _ _ _ _ _ _ q0 q1 q2 q3 q4 q5 q6 q7 q8 e hP hD hS hl bcl bsl (fun H locs ls hP hD hS hl => kk _ _ _ _ _ _ _ _ _ _ _ _ _ _ _ _ _ _ _ _ _ _ _ _ _ _ _ _ _ _ _ _ _ _ _ _ _ _ _ H locs ls _ _ (Nat.le_refl _) (Nat.le_refl _) hr hP hD hS hl)
  by_cases c18 : op = (18 : Int32)
  · refine lv_tableIn (off := 1227) (tgt := 1266) hx hb dL_law_39 (by rw [c18]; decide) (by rw [c18]; decide) (by rw [c18]; rfl) (by decide) ?_
    obtain ⟨q0, q1, q2, q3, q4, q5, q6, e⟩ := mG_18 hr a1 a2 a3
    exact cs_18 hfl hx hb hml hown hts hA hK hEX hX hbl hbA hi1 hi2 hi3 ha1 ha2 ha3 _ _ _ _ _ _ _ _ _ _ _ _ _ _ _ _ _ _ _ _ _ _ _ _ _ _ _ _ _ _ _ _ _ _ _ _ _ _ _ q0 q1 q2 q3 q4 q5 q6 e hP hD hS hl bcl bsl (fun H locs ls hP hD hS hl => kk _ _ _ _ _ _ _ _ _ _ _ _ _ _ _ _ _ _ _ _ _ _ _ _ _ _ _ _ _ _ _ _ _ _ _ _ _ _ _ H locs ls _ _ (Nat.le_refl _) (Nat.le_refl _) hr hP hD hS hl)
  by_cases c19 : op = (19 : Int32)
  · refine lv_tableIn (off := 1295) (tgt := 1334) hx hb dL_law_39 (by rw [c19]; decide) (by rw [c19]; decide) (by rw [c19]; rfl) (by decide) ?_
    obtain ⟨q0, q1, q2, q3, e⟩ := mG_19 hr a1 a2 a3
    exact cs_19 hfl hx hb hml hown hts hA hK hEX hX hbl hbA hi1 hi2 hi3 ha1 ha2 ha3 _ _ _ _ _ _ _ _ _ _ _ _ _ _ _ _ _ _ _ _ _ _ _ _ _ _ _ _ _ _ _ _ _ _ _ _ _ _ _ q0 q1 q2 q3 e hP hD hS hl bcl bsl (fun H locs ls hP hD hS hl => kk _ _ _ _ _ _ _ _ _ _ _ _ _ _ _ _ _ _ _ _ _ _ _ _ _ _ _ _ _ _ _ _ _ _ _ _ _ _ _ H locs ls _ _ (Nat.le_refl _) (Nat.le_refl _) hr hP hD hS hl)
  by_cases c20 : op = (20 : Int32)
  · refine lv_tableIn (off := 1363) (tgt := 1402) hx hb dL_law_39 (by rw [c20]; decide) (by rw [c20]; decide) (by rw [c20]; rfl) (by decide) ?_
    obtain ⟨q0, q1, q2, q3, q4, q5, q6, e⟩ := mG_20 hr a1 a2 a3
    exact cs_20 hfl hx hb hml hown hts hA hK hEX hX hbl hbA hi1 hi2 hi3 ha1 ha2 ha3 _ _ _ _ _ _ _ _ _ _ _ _ _ _ _ _ _ _ _ _ _ _ _ _ _ _ _ _ _ _ _ _ _ _ _ _ _ _ _ q0 q1 q2 q3 q4 q5 q6 e hP hD hS hl bcl bsl (fun H locs ls hP hD hS hl => kk _ _ _ _ _ _ _ _ _ _ _ _ _ _ _ _ _ _ _ _ _ _ _ _ _ _ _ _ _ _ _ _ _ _ _ _ _ _ _ H locs ls _ _ (Nat.le_refl _) (Nat.le_refl _) hr hP hD hS hl)
  by_cases c21 : op = (21 : Int32)
  · refine lv_tableIn (off := 1431) (tgt := 1470) hx hb dL_law_39 (by rw [c21]; decide) (by rw [c21]; decide) (by rw [c21]; rfl) (by decide) ?_
    obtain ⟨q0, q1, q2, q3, q4, e⟩ := mG_21 hr a1 a2 a3
    exact cs_21 hfl hx hb hml hown hts hA hK hEX hX hbl hbA hi1 hi2 hi3 ha1 ha2 ha3 _ _ _ _ _ _ _ _ _ _ _ _ _ _ _ _ _ _ _ _ _ _ _ _ _ _ _ _ _ _ _ _ _ _ _ _ _ _ _ q0 q1 q2 q3 q4 e hP hD hS hl bcl bsl (fun H locs ls hP hD hS hl => kk _ _ _ _ _ _ _ _ _ _ _ _ _ _ _ _ _ _ _ _ _ _ _ _ _ _ _ _ _ _ _ _ _ _ _ _ _ _ _ H locs ls _ _ (Nat.le_refl _) (Nat.le_refl _) hr hP hD hS hl)
  by_cases c22 : op = (22 : Int32)
  · refine lv_tableIn (off := 1487) (tgt := 1526) hx hb dL_law_39 (by rw [c22]; decide) (by rw [c22]; decide) (by rw [c22]; rfl) (by decide) ?_
    obtain ⟨q0, q1, q2, q3, q4, e⟩ := mG_22 hr a1 a2 a3
    exact cs_22 hfl hx hb hml hown hts hA hK hEX hX hbl hbA hi1 hi2 hi3 ha1 ha2 ha3 _ _ _ _ _ _ _ _ _ _ _ _ _ _ _ _ _ _ _ _ _ _ _ _ _ _ _ _ _ _ _ _ _ _ _ _ _ _ _ q0 q1 q2 q3 q4 e hP hD hS hl bcl bsl (fun H locs ls hP hD hS hl => kk _ _ _ _ _ _ _ _ _ _ _ _ _ _ _ _ _ _ _ _ _ _ _ _ _ _ _ _ _ _ _ _ _ _ _ _ _ _ _ H locs ls _ _ (Nat.le_refl _) (Nat.le_refl _) hr hP hD hS hl)
  by_cases c23 : op = (23 : Int32)
  · refine lv_tableIn (off := 1555) (tgt := 1594) hx hb dL_law_39 (by rw [c23]; decide) (by rw [c23]; decide) (by rw [c23]; rfl) (by decide) ?_
    obtain ⟨q0, q1, q2, q3, q4, q5, q6, e⟩ := mG_23 hr a1 a2 a3
    exact cs_23 hfl hx hb hml hown hts hA hK hEX hX hbl hbA hi1 hi2 hi3 ha1 ha2 ha3 _ _ _ _ _ _ _ _ _ _ _ _ _ _ _ _ _ _ _ _ _ _ _ _ _ _ _ _ _ _ _ _ _ _ _ _ _ _ _ q0 q1 q2 q3 q4 q5 q6 e hP hD hS hl bcl bsl (fun H locs ls hP hD hS hl => kk _ _ _ _ _ _ _ _ _ _ _ _ _ _ _ _ _ _ _ _ _ _ _ _ _ _ _ _ _ _ _ _ _ _ _ _ _ _ _ H locs ls _ _ (Nat.le_refl _) (Nat.le_refl _) hr hP hD hS hl)
  by_cases c24 : op = (24 : Int32)
  · refine lv_tableIn (off := 1611) (tgt := 1650) hx hb dL_law_39 (by rw [c24]; decide) (by rw [c24]; decide) (by rw [c24]; rfl) (by decide) ?_
    obtain ⟨q0, q1, q2, q3, q4, q5, q6, e⟩ := mG_24 hr a1 a2 a3
    exact cs_24 hfl hx hb hml hown hts hA hK hEX hX hbl hbA hi1 hi2 hi3 ha1 ha2 ha3 _ _ _ _ _ _ _ _ _ _ _ _ _ _ _ _ _ _ _ _ _ _ _ _ _ _ _ _ _ _ _ _ _ _ _ _ _ _ _ q0 q1 q2 q3 q4 q5 q6 e hP hD hS hl bcl bsl (fun H locs ls hP hD hS hl => kk _ _ _ _ _ _ _ _ _ _ _ _ _ _ _ _ _ _ _ _ _ _ _ _ _ _ _ _ _ _ _ _ _ _ _ _ _ _ _ H locs ls _ _ (Nat.le_refl _) (Nat.le_refl _) hr hP hD hS hl)
  by_cases c25 : op = (25 : Int32)
  · refine lv_tableIn (off := 1667) (tgt := 1706) hx hb dL_law_39 (by rw [c25]; decide) (by rw [c25]; decide) (by rw [c25]; rfl) (by decide) ?_
    obtain ⟨q0, q1, e⟩ := mG_25 hr a1 a2 a3
    exact cs_25 hfl hx hb hml hown hts hA hK hEX hX hbl hbA hi1 hi2 hi3 ha1 ha2 ha3 _ _ _ _ _ _ _ _ _ _ _ _ _ _ _ _ _ _ _ _ _ _ _ _ _ _ _ _ _ _ _ _ _ _ _ _ _ _ _ q0 q1 e hP hD hS hl bcl bsl (fun H locs ls hP hD hS hl => kk _ _ _ _ _ _ _ _ _ _ _ _ _ _ _ _ _ _ _ _ _ _ _ _ _ _ _ _ _ _ _ _ _ _ _ _ _ _ _ H locs ls _ _ (Nat.le_refl _) (Nat.le_refl _) hr hP hD hS hl)
  by_cases c26 : op = (26 : Int32)
  · refine lv_tableIn (off := 1730) (tgt := 1769) hx hb dL_law_39 (by rw [c26]; decide) (by rw [c26]; decide) (by rw [c26]; rfl) (by decide) ?_
    obtain ⟨q0, q1, q2, q3, q4, q5, e, hr2⟩ := mG_26 hr a1 a2 a3
    exact cs_26 hfl hx hb hml hown hts hA hK hEX hX hbl hbA hi1 hi2 hi3 ha1 ha2 ha3 _ _ _ _ _ _ _ _ _ _ _ _ _ _ _ _ _ _ _ _ _ _ _ _ _ _ _ _ _ _ _ _ _ _ _ _ _ _ _ q0 q1 q2 q3 q4 q5 e hP hD hS hl bcl bsl (fun H locs ls hP hD hS hl => kk _ _ _ _ _ _ _ _ _ _ _ _ _ _ _ _ _ _ _ _ _ _ _ _ _ _ _ _ _ _ _ _ _ _ _ _ _ _ _ H locs ls _ _ (Nat.le_refl _) (Nat.le_refl _) hr2 hP hD hS hl)
  by_cases c27 : op = (27 : Int32)
  · refine lv_tableIn (off := 1818) (tgt := 1857) hx hb dL_law_39 (by rw [c27]; decide) (by rw [c27]; decide) (by rw [c27]; rfl) (by decide) ?_
    obtain ⟨q0, q1, q2, e, hr2⟩ := mG_27 hr a1 a2 a3
    exact cs_27 hfl hx hb hml hown hts hA hK hEX hX hbl hbA hi1 hi2 hi3 ha1 ha2 ha3 _ _ _ _ _ _ _ _ _ _ _ _ _ _ _ _ _ _ _ _ _ _ _ _ _ _ _ _ _ _ _ _ _ _ _ _ _ _ _ q0 q1 q2 e hP hD hS hl bcl bsl (fun H locs ls hP hD hS hl => kk _ _ _ _ _ _ _ _ _ _ _ _ _ _ _ _ _ _ _ _ _ _ _ _ _ _ _ _ _ _ _ _ _ _ _ _ _ _ _ H locs ls _ _ (Nat.le_refl _) (Nat.le_refl _) hr2 hP hD hS hl)
  by_cases c28 : op = (28 : Int32)
  · refine lv_tableIn (off := 1831) (tgt := 1870) hx hb dL_law_39 (by rw [c28]; decide) (by rw [c28]; decide) (by rw [c28]; rfl) (by decide) ?_
    obtain ⟨q0, e⟩ := mG_28 hr a1 a2 a3
    exact cs_28 hfl hx hb hml hown hts hA hK hEX hX hbl hbA hi1 hi2 hi3 ha1 ha2 ha3 _ _ _ _ _ _ _ _ _ _ _ _ _ _ _ _ _ _ _ _ _ _ _ _ _ _ _ _ _ _ _ _ _ _ _ _ _ _ _ q0 e hP hD hS hl bcl bsl (fun H locs ls hP hD hS hl => kk _ _ _ _ _ _ _ _ _ _ _ _ _ _ _ _ _ _ _ _ _ _ _ _ _ _ _ _ _ _ _ _ _ _ _ _ _ _ _ H locs ls _ _ (Nat.le_refl _) (Nat.le_refl _) hr hP hD hS hl)
  by_cases c29 : op = (29 : Int32)
  · refine lv_tableIn (off := 1844) (tgt := 1883) hx hb dL_law_39 (by rw [c29]; decide) (by rw [c29]; decide) (by rw [c29]; rfl) (by decide) ?_
    obtain ⟨q0, q1, q2, q3, q4, q5, q6, q7, q8, q9, q10, e⟩ := mG_29 hr a1 a2 a3
    exact cs_29 hfl hx hb hml hown hts hA hK hEX hX hbl hbA hi1 hi2 hi3 ha1 ha2 ha3 _ _ _ _ _ _ _ _ _ _ _ _ _ _ _ _ _ _ _ _ _ _ _ _ _ _ _ _ _ _ _ _ _ _ _ _ _ _ _ q0 q1 q2 q3 q4 q5 q6 q7 q8 q9 q10 e hP hD hS hl bcl bsl (fun H locs ls hP hD hS hl => kk _ _ _ _ _ _ _ _ _ _ _ _ _ _ _ _ _ _ _ _ _ _ _ _ _ _ _ _ _ _ _ _ _ _ _ _ _ _ _ H locs ls _ _ (Nat.le_refl _) (Nat.le_refl _) hr hP hD hS hl)
  by_cases c30 : op = (30 : Int32)
  · refine lv_tableIn (off := 1857) (tgt := 1896) hx hb dL_law_39 (by rw [c30]; decide) (by rw [c30]; decide) (by rw [c30]; rfl) (by decide) ?_
    obtain ⟨q0, q1, q2, q3, q4, q5, q6, q7, q8, q9, q10, q11, q12, q13, q14, q15, q16, q17, q18, q19, q20, q21, q22, e, hr2⟩ := mG_30 hr a1 a2 a3
    exact cs_30 hfl hx hb hml hown hts hA hK hEX hX hbl hbA hi1 hi2 hi3 ha1 ha2 ha3 _ _ _ _ _ _ _ _ _ _ _ _ _ _ _ _ _ _ _ _ _ _ _ _ _ _ _ _ _ _ _ _ _ _ _ _ _ _ _ q0 q1 q2 q3 q4 q5 q6 q7 q8 q9 q10 q11 q12 q13 q14 q15 q16 q17 q18 q19 q20 q21 q22 e hP hD hS hl bcl bsl (fun H locs ls hP hD hS hl => kk _ _ _ _ _ _ _ _ _ _ _ _ _ _ _ _ _ _ _ _ _ _ _ _ _ _ _ _ _ _ _ _ _ _ _ _ _ _ _ H locs ls _ _ (Nat.le_refl _) (Nat.le_refl _) hr2 hP hD hS hl)
  by_cases c31 : op = (31 : Int32)
  · refine lv_tableIn (off := 1901) (tgt := 1940) hx hb dL_law_39 (by rw [c31]; decide) (by rw [c31]; decide) (by rw [c31]; rfl) (by decide) ?_
    obtain ⟨q0, q1, q2, q3, q4, q5, e, hr2⟩ := mG_31 hr a1 a2 a3
    exact cs_31 hfl hx hb hml hown hts hA hK hEX hX hbl hbA hi1 hi2 hi3 ha1 ha2 ha3 _ _ _ _ _ _ _ _ _ _ _ _ _ _ _ _ _ _ _ _ _ _ _ _ _ _ _ _ _ _ _ _ _ _ _ _ _ _ _ q0 q1 q2 q3 q4 q5 e hP hD hS hl bcl bsl (fun H locs ls hP hD hS hl => kk _ _ _ _ _ _ _ _ _ _ _ _ _ _ _ _ _ _ _ _ _ _ _ _ _ _ _ _ _ _ _ _ _ _ _ _ _ _ _ H locs ls _ _ (Nat.le_refl _) (Nat.le_refl _) hr2 hP hD hS hl)
  by_cases c32 : op = (32 : Int32)
  · refine lv_tableIn (off := 1945) (tgt := 1984) hx hb dL_law_39 (by rw [c32]; decide) (by rw [c32]; decide) (by rw [c32]; rfl) (by decide) ?_
    obtain ⟨q0, e⟩ := mG_32 hr a1 a2 a3
    exact cs_32 hfl hx hb hml hown hts hA hK hEX hX hbl hbA hi1 hi2 hi3 ha1 ha2 ha3 _ _ _ _ _ _ _ _ _ _ _ _ _ _ _ _ _ _ _ _ _ _ _ _ _ _ _ _ _ _ _ _ _ _ _ _ _ _ _ q0 e hP hD hS hl bcl bsl (fun H locs ls hP hD hS hl => kk _ _ _ _ _ _ _ _ _ _ _ _ _ _ _ _ _ _ _ _ _ _ _ _ _ _ _ _ _ _ _ _ _ _ _ _ _ _ _ H locs ls _ _ (Nat.le_refl _) (Nat.le_refl _) hr hP hD hS hl)
  by_cases c33 : op = (33 : Int32)
  · refine lv_tableIn (off := 1958) (tgt := 1997) hx hb dL_law_39 (by rw [c33]; decide) (by rw [c33]; decide) (by rw [c33]; rfl) (by decide) ?_
    obtain ⟨q0, q1, q2, q3, q4, q5, e, hr2⟩ := mG_33 hr a1 a2 a3
    exact cs_33 hfl hx hb hml hown hts hA hK hEX hX hbl hbA hi1 hi2 hi3 ha1 ha2 ha3 _ _ _ _ _ _ _ _ _ _ _ _ _ _ _ _ _ _ _ _ _ _ _ _ _ _ _ _ _ _ _ _ _ _ _ _ _ _ _ q0 q1 q2 q3 q4 q5 e hP hD hS hl bcl bsl (fun H locs ls hP hD hS hl => kk _ _ _ _ _ _ _ _ _ _ _ _ _ _ _ _ _ _ _ _ _ _ _ _ _ _ _ _ _ _ _ _ _ _ _ _ _ _ _ H locs ls _ _ (Nat.le_refl _) (Nat.le_refl _) hr2 hP hD hS hl)
  by_cases c34 : op = (34 : Int32)
  · refine lv_tableIn (off := 2014) (tgt := 2053) hx hb dL_law_39 (by rw [c34]; decide) (by rw [c34]; decide) (by rw [c34]; rfl) (by decide) ?_
    obtain ⟨q0, q1, q2, q3, q4, q5, q6, q7, q8, e, hr2⟩ := mG_34 hr a1 a2 a3
    exact cs_34 hfl hx hb hml hown hts hA hK hEX hX hbl hbA hi1 hi2 hi3 ha1 ha2 ha3 _ _ _ _ _ _ _ _ _ _ _ _ _ _ _ _ _ _ _ _ _ _ _ _ _ _ _ _ _ _ _ _ _ _ _ _ _ _ _ q0 q1 q2 q3 q4 q5 q6 q7 q8 e hP hD hS hl bcl bsl (fun H locs ls hP hD hS hl => kk _ _ _ _ _ _ _ _ _ _ _ _ _ _ _ _ _ _ _ _ _ _ _ _ _ _ _ _ _ _ _ _ _ _ _ _ _ _ _ H locs ls _ _ (Nat.le_refl _) (Nat.le_refl _) hr2 hP hD hS hl)
  refine lv_tableOut (tgt := 2109) hx hb dL_law_39 (by have t0 := lv_neT c0 (show (0 : Int32).toInt = 0 from by decide); have t1 := lv_neT c1 (show (1 : Int32).toInt = 1 from by decide); have t2 := lv_neT c2 (show (2 : Int32).toInt = 2 from by decide); have t3 := lv_neT c3 (show (3 : Int32).toInt = 3 from by decide); have t4 := lv_neT c4 (show (4 : Int32).toInt = 4 from by decide); have t5 := lv_neT c5 (show (5 : Int32).toInt = 5 from by decide); have t6 := lv_neT c6 (show (6 : Int32).toInt = 6 from by decide); have t7 := lv_neT c7 (show (7 : Int32).toInt = 7 from by decide); have t8 := lv_neT c8 (show (8 : Int32).toInt = 8 from by decide); have t9 := lv_neT c9 (show (9 : Int32).toInt = 9 from by decide); have t10 := lv_neT c10 (show (10 : Int32).toInt = 10 from by decide); have t11 := lv_neT c11 (show (11 : Int32).toInt = 11 from by decide); have t12 := lv_neT c12 (show (12 : Int32).toInt = 12 from by decide); have t13 := lv_neT c13 (show (13 : Int32).toInt = 13 from by decide); have t14 := lv_neT c14 (show (14 : Int32).toInt = 14 from by decide); have t15 := lv_neT c15 (show (15 : Int32).toInt = 15 from by decide); have t16 := lv_neT c16 (show (16 : Int32).toInt = 16 from by decide); have t17 := lv_neT c17 (show (17 : Int32).toInt = 17 from by decide); have t18 := lv_neT c18 (show (18 : Int32).toInt = 18 from by decide); have t19 := lv_neT c19 (show (19 : Int32).toInt = 19 from by decide); have t20 := lv_neT c20 (show (20 : Int32).toInt = 20 from by decide); have t21 := lv_neT c21 (show (21 : Int32).toInt = 21 from by decide); have t22 := lv_neT c22 (show (22 : Int32).toInt = 22 from by decide); have t23 := lv_neT c23 (show (23 : Int32).toInt = 23 from by decide); have t24 := lv_neT c24 (show (24 : Int32).toInt = 24 from by decide); have t25 := lv_neT c25 (show (25 : Int32).toInt = 25 from by decide); have t26 := lv_neT c26 (show (26 : Int32).toInt = 26 from by decide); have t27 := lv_neT c27 (show (27 : Int32).toInt = 27 from by decide); have t28 := lv_neT c28 (show (28 : Int32).toInt = 28 from by decide); have t29 := lv_neT c29 (show (29 : Int32).toInt = 29 from by decide); have t30 := lv_neT c30 (show (30 : Int32).toInt = 30 from by decide); have t31 := lv_neT c31 (show (31 : Int32).toInt = 31 from by decide); have t32 := lv_neT c32 (show (32 : Int32).toInt = 32 from by decide); have t33 := lv_neT c33 (show (33 : Int32).toInt = 33 from by decide); have t34 := lv_neT c34 (show (34 : Int32).toInt = 34 from by decide); omega) (by decide) ?_
  exact kk _ _ _ _ _ _ _ _ _ _ _ _ _ _ _ _ _ _ _ _ _ _ _ _ _ _ _ _ _ _ _ _ _ _ _ _ _ _ _ H locs ls _ _ (Nat.le_succ _) (Nat.le_add_right _ 6) hr hP hD hS hl
