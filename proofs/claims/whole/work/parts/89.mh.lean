/-! runText -/
section
variable {ch mtx : Nat → Int32} {n : Nat} {t : Nat → Nat} {mrd : Nat → Int32}
theorem one_x {pl : Nat → Int64} {ms : Nat → Int32} {N E : Nat → Nat} {mtp mbt : Int64} (hPL : PL pl ms N E) {m L P F S : Nat} (hm : m ≤ 19) (a3 : mrd (4 * m) = nI L) (a4 : mrd (4 * m + 1) = nI P) (a5 : P < 10) (a6 : (L = 115 ∧ mrd (4 * m + 2) = nI F ∧ mrd (4 * m + 3) = nI S ∧ F < 10000 ∧ S < 10000) ∨ ((L = 43 ∨ L = 45 ∨ L = 42 ∨ L = 99) ∧ S < 10 ∧ mrd (4 * m + 2) = nI S)) : EXO pl ms mrd m (F_X6_execute pl (nI L) (nI P) (nI F) (nI S)) (F_X7_can ms mrd mtp mbt (nI (4 * m))) := by
  rcases a6 with ⟨rfl, b1, b2, b3, b4⟩ | ⟨b1, b2, b3⟩
  · exact exs_p hPL hm a3 a4 b1 b2 a5 b3 b4
  · exact exo_p hPL hm b1 a3 a4 b3 a5 b2
theorem rm_e {f m M : Nat} {ms : Nat → Int32} {mtp mbt : Int64} (hm : m ≤ 19) (hM : m < M) (hM2 : M ≤ 20) : L_X7_runText_29 (f + 1) (nI m) ms mrd (nI M) mtp mbt = bd3 (F_X7_can ms mrd mtp mbt (nI (4 * m))) (fun r a b => if r = (0 : Int32) then some (nI m, ms, a, b) else bd1 (ACT ms mrd m a b) (fun ms29 => L_X7_runText_29 f (nI (m + 1)) ms29 mrd (nI M) a b)) := by
  have e0 : (4 : Int32) * nI m = nI (4 * m) := pk_mul 4 m
  have e1 : nI (4 * m) + (1 : Int32) = nI (4 * m + 1) := nI_add (4 * m) 1
  have e2 : nI (4 * m) + (2 : Int32) = nI (4 * m + 2) := nI_add (4 * m) 2
  rw [L_X7_runText_29_s, if_neg (show ¬ nI M ≤ nI m by rw [nI_leI (by omega) (by omega)]; omega), e0, e1, e2, show nI m + (1 : Int32) = nI (m + 1) from nI_1 m]
  unfold ACT
  simp only [inb (show 4 * m < 84 by omega) (show 84 < 2147483648 by omega), inb (show 4 * m + 1 < 84 by omega) (show 84 < 2147483648 by omega), inb (show 4 * m + 2 < 84 by omega) (show 84 < 2147483648 by omega)]
  simp only [cl_nI (show 4 * m < 2147483648 by omega), cl_nI (show 4 * m + 1 < 2147483648 by omega), cl_nI (show 4 * m + 2 < 2147483648 by omega)]
/-- the class's loop over the commands, and what stands behind it -/
def EX (ch : Nat → Int32) (n f : Nat) (x3 : Int32) (i : Nat) (pl : Nat → Int64) (s : St) : Option (Int32 × (Nat → Int64) × St) := bd9 (L_X6_executeCommands_11 f x3 (nI i) pl ch (nI n) s.1 s.2.1 s.2.2.1 s.2.2.2.1 s.2.2.2.2.1 s.2.2.2.2.2) (fun (t12 : Nat) (v13 : Int32) (pl14 : Nat → Int64) (rE15 : Int32) (rL16 : Int32) (rP17 : Int32) (rF18 : Int32) (rS19 : Int32) (rD20 : Int32) => if t12 = 0 then (some (v13, pl14, rE15, rL16, rP17, rF18, rS19, rD20)) else (bd2 (F_X6_execute pl14 rL16 rP17 rF18 rS19) (fun (r24 : Int32) (pl25 : Nat → Int64) => some ((if r24 = (0 : Int32) then v13 else (v13 + (1 : Int32))), pl25, rE15, rL16, rP17, rF18, rS19, rD20))))
theorem run_e (h : TXT ch mtx n t) : ∀ (c m i F F2 : Nat) (pl : Nat → Int64) (ms : Nat → Int32) (mtp mbt : Int64) (L0 P0 F0 S0 D0 : Int32), (∃ N E, PL pl ms N E) → GD t n mrd c m i → m + c ≤ 20 → i ≤ n → 2 * (n - i) + 5 < F → c < F2 → ∃ (v : Int32) (pl' : Nat → Int64) (ms' : Nat → Int32) (mtp' mbt' : Int64) (s' : St), EX ch n F (nI m) i pl (0, L0, P0, F0, S0, D0) = some (v, pl', s') ∧ L_X7_runText_29 F2 (nI m) ms mrd (nI (m + c)) mtp mbt = some (v, ms', mtp', mbt') ∧ ∃ N E, PL pl' ms' N E := by
  have h80 := h.1
  intro c
  induction c with
  | zero =>
    intro m i F F2 pl ms mtp mbt L0 P0 F0 S0 D0 _ hg
    exact hg.elim
  | succ c ih =>
    intro m i F F2 pl ms mtp mbt L0 P0 F0 S0 D0 hPL hg hm hi hF hF2
    obtain ⟨N, E0, hPL⟩ := hPL
    obtain ⟨i', ⟨L, P, Fn, S, E, D, a1, a2, a3, a4, a5, a6, a7, a8, a9⟩, hend⟩ := hg
    obtain ⟨f, rfl⟩ : ∃ f, F = (f + 1) + (i' - i) := ⟨F - (i' - i) - 1, by omega⟩
    obtain ⟨F2, rfl⟩ : ∃ k, F2 = k + 1 := ⟨F2 - 1, by omega⟩
    have hx := one_x (mtp := mtp) (mbt := mbt) hPL (show m ≤ 19 by omega) a3 a4 a5 a6
    have er := ex_run h (pl := pl) (i' - i) i (f + 1) (nI m) _ _ (a7 L0 P0 F0 S0 D0) (by omega)
    rw [show i + (i' - i) = i' from by omega] at er
    have er2 : EX ch n ((f + 1) + (i' - i)) (nI m) i pl (0, L0, P0, F0, S0, D0) = EX ch n (f + 1) (nI m) i' pl (E, nI L, nI P, nI Fn, nI S, D) := by
      unfold EX
      rw [er]
    rw [er2, rm_e (by omega) (by omega) (by omega)]
    rcases hend with ⟨z, hn⟩ | ⟨hlt, h59, hg⟩
    · subst z
      subst hn
      have ee : EX ch i' (f + 1) (nI m) i' pl (E, nI L, nI P, nI Fn, nI S, D) = bd2 (F_X6_execute pl (nI L) (nI P) (nI Fn) (nI S)) (fun (r24 : Int32) (pl25 : Nat → Int64) => some ((if r24 = (0 : Int32) then nI m else (nI m + (1 : Int32))), pl25, E, nI L, nI P, nI Fn, nI S, D)) := by
        unfold EX
        rw [L_X6_executeCommands_11_s, if_pos (show F_X1_length (nI i') ≤ nI i' from Int32.le_refl _), bd9_s, if_neg (by decide)]
      rw [ee]
      rcases hx with ⟨e1, mtp', mbt', e2⟩ | ⟨pl', ms', mtp', mbt', e1, e2, e3, e4⟩
      · rw [e1, bd2_s, e2, bd3_s, if_pos rfl, if_pos rfl]
        exact ⟨_, _, _, _, _, _, rfl, rfl, _, _, hPL⟩
      · rw [e1, bd2_s, e2, bd3_s, if_neg n10, if_neg n10, e3, bd1_s]
        obtain ⟨F2, rfl⟩ : ∃ k, F2 = k + 1 := ⟨F2 - 1, by omega⟩
        rw [L_X7_runText_29_s, if_pos (show nI (m + (0 + 1)) ≤ nI (m + 1) from Int32.le_refl _), show nI m + (1 : Int32) = nI (m + 1) from nI_1 m]
        exact ⟨_, _, _, _, _, _, rfl, rfl, e4⟩
    · have ac := a9 hlt
      rw [if_pos h59] at ac
      have ac' : F_X0_accept E (nI L) (nI P) (nI Fn) (nI S) D (nI (t i')) = some (1, 0, nI L, nI P, nI Fn, nI S, D) := ac
      have ee : EX ch n (f + 1) (nI m) i' pl (E, nI L, nI P, nI Fn, nI S, D) = bd9 (bd2 (F_X6_execute pl (nI L) (nI P) (nI Fn) (nI S)) (fun (r45 : Int32) (pl46 : Nat → Int64) => if r45 = (0 : Int32) then (some (0, nI m, pl46, E, nI L, nI P, nI Fn, nI S, D)) else (L_X6_executeCommands_11 f (nI (m + 1)) (nI (i' + 1)) pl46 ch (nI n) 0 (nI L) (nI P) (nI Fn) (nI S) D))) (fun (t12 : Nat) (v13 : Int32) (pl14 : Nat → Int64) (rE15 : Int32) (rL16 : Int32) (rP17 : Int32) (rF18 : Int32) (rS19 : Int32) (rD20 : Int32) => if t12 = 0 then (some (v13, pl14, rE15, rL16, rP17, rF18, rS19, rD20)) else (bd2 (F_X6_execute pl14 rL16 rP17 rF18 rS19) (fun (r24 : Int32) (pl25 : Nat → Int64) => some ((if r24 = (0 : Int32) then v13 else (v13 + (1 : Int32))), pl25, rE15, rL16, rP17, rF18, rS19, rD20)))) := by
        unfold EX
        rw [L_X6_executeCommands_11_s, if_neg (show ¬ F_X1_length (nI n) ≤ nI i' by unfold F_X1_length; rw [nI_leI (by omega) (by omega)]; omega), chr_e h hlt, bd1_s, if_pos (show nI (t i') = (59 : Int32) by rw [h59]; rfl), show nI i' + (1 : Int32) = nI (i' + 1) from nI_1 i', show nI m + (1 : Int32) = nI (m + 1) from nI_1 m]
        simp only [bd1_s, ac', bd7_s]
      rw [ee]
      rcases hx with ⟨e1, mtp', mbt', e2⟩ | ⟨pl', ms', mtp', mbt', e1, e2, e3, e4⟩
      · rw [e1, bd2_s, if_pos rfl, bd9_s, if_pos rfl, e2, bd3_s, if_pos rfl]
        exact ⟨_, _, _, _, _, _, rfl, rfl, _, _, hPL⟩
      · rw [e1, bd2_s, if_neg n10, e2, bd3_s, if_neg n10, e3, bd1_s]
        rw [show m + (c + 1) = m + 1 + c from by omega]
        exact ih (m + 1) (i' + 1) f F2 pl' ms' mtp' mbt' (nI L) (nI P) (nI Fn) (nI S) D e4 hg (by omega) (by omega) (by omega) (by omega)
theorem m1_e {x : Nat} (hx : x ≤ 80) : ¬ nI x = (-1 : Int32) := by
  intro z
  have e := congrArg Int32.toInt z
  rw [nI_toInt (by omega), show (-1 : Int32).toInt = -1 from by decide] at e
  omega
end
