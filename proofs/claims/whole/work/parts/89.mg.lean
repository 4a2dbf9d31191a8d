/-! the other commands executed -/
section
variable {pl : Nat → Int64} {ms mrd : Nat → Int32} {N E : Nat → Nat} {mtp mbt : Int64}
theorem exo_p (hPL : PL pl ms N E) {m L P F S : Nat} (hm : m ≤ 19) (hL : L = 43 ∨ L = 45 ∨ L = 42 ∨ L = 99) (m0 : mrd (4 * m) = nI L) (m1 : mrd (4 * m + 1) = nI P) (m2 : mrd (4 * m + 2) = nI S) (hP : P < 10) (hS : S < 10) : EXO pl ms mrd m (F_X6_execute pl (nI L) (nI P) (nI F) (nI S)) (F_X7_can ms mrd mtp mbt (nI (4 * m))) := by
  rw [can_e hm, m0, m1, m2]
  unfold F_X6_execute F_X0_letter F_X0_plate F_X0_first F_X0_second can2
  have h115 : ¬ nI L = (115 : Int32) := by rcases hL with rfl | rfl | rfl | rfl <;> decide
  rw [if_neg h115, if_neg h115]
  have fz1' : ∀ (r : Int32) (pl9 : Nat → Int64), (r = 0 ∨ r = 1) → (if ¬ (r = 0 ∨ r = 1) then none else some (r, pl9)) = some (r, pl9) := fun r pl9 h => by rw [if_neg (Classical.not_not.mpr h)]
  rcases plate_cases (nI P) with ⟨p, hp, ep, x1, y1⟩ | ⟨x1, y1⟩
  · rw [ep] at m1 x1 y1 ⊢
    rcases plate_cases (nI S) with ⟨q, hq, eq, x2, y2⟩ | ⟨x2, y2⟩
    · rw [eq] at m2 x2 y2 ⊢
      obtain ⟨pa, pb, pc, pd⟩ := hPL p hp
      obtain ⟨qa, qb, qc, qd⟩ := hPL q hq
      rw [x1, if_neg n10, x2, if_neg n10, ap_ok y1 y2]
      rcases hL with rfl | rfl | rfl | rfl
      · -- add
        rw [if_neg (show ¬ nI 43 = (42 : Int32) by decide), if_pos (show nI 43 = (43 : Int32) from rfl), if_neg (show ¬ nI 43 = (42 : Int32) by decide), if_pos (show nI 43 = (43 : Int32) from rfl), if_neg n10, inb hp (by omega), inb hq (by omega), cl_nI (by omega), cl_nI (by omega), pa, qa, X_sum pd qd, bd1_s, M_sum hPL hp hq, bd3_s]
        rcases pip hPL hp (n := N p * E q + N q * E p) (d := E p * E q) (Nat.mul_pos pd.1 qd.1) with ⟨l1, l2⟩ | ⟨l1, pl', ms', r, l2, l3, l4⟩
        · left
          rw [l2, bd2_s, fz1' _ _ (Or.inl rfl), l1, if_pos rfl]
          exact ⟨rfl, _, _, rfl⟩
        · right
          rw [l2, bd2_s, fz1' _ _ (Or.inr rfl), l1, if_neg n10]
          refine ⟨pl', ms', _, _, rfl, rfl, ?_, l4⟩
          unfold ACT
          rw [m0, if_neg (by decide), m1, l3, bd2_s]
      · -- takeAway
        rw [if_neg (show ¬ nI 45 = (42 : Int32) by decide), if_neg (show ¬ nI 45 = (43 : Int32) by decide), if_neg (show ¬ nI 45 = (44 : Int32) by decide), if_pos (show nI 45 = (45 : Int32) from rfl), if_neg (show ¬ nI 45 = (42 : Int32) by decide), if_neg (show ¬ nI 45 = (43 : Int32) by decide), if_pos (show nI 45 = (45 : Int32) from rfl), if_neg n10, inb hp (by omega), inb hq (by omega), cl_nI (by omega), cl_nI (by omega), pa, qa, X_diff pd qd, bd1_s, hold_e hPL hp hq, bd1_s]
        unfold cmpz
        by_cases c : N p * E q < N q * E p
        · rw [if_pos c, if_pos c, if_pos (show (-1 : Int32) < 0 by decide)]
          left
          unfold F_X6_putIfPossible
          rw [if_pos rfl, bd2_s, fz1' _ _ (Or.inl rfl)]
          exact ⟨rfl, _, _, rfl⟩
        · rw [if_neg c, if_neg c, if_neg (show ¬ (if N p * E q = N q * E p then (0 : Int32) else 1) < 0 by split <;> decide), M_diff hPL hp hq (by omega), bd3_s]
          rcases pip hPL hp (n := N p * E q - N q * E p) (d := E p * E q) (Nat.mul_pos pd.1 qd.1) with ⟨l1, l2⟩ | ⟨l1, pl', ms', r, l2, l3, l4⟩
          · left
            rw [l2, bd2_s, fz1' _ _ (Or.inl rfl), l1, if_pos rfl]
            exact ⟨rfl, _, _, rfl⟩
          · right
            rw [l2, bd2_s, fz1' _ _ (Or.inr rfl), l1, if_neg n10]
            refine ⟨pl', ms', _, _, rfl, rfl, ?_, l4⟩
            unfold ACT
            rw [m0, if_neg (by decide), m1, l3, bd2_s]
      · -- multiply
        rw [if_pos (show nI 42 = (42 : Int32) from rfl), if_pos (show nI 42 = (42 : Int32) from rfl), if_neg n10, inb hp (by omega), inb hq (by omega), cl_nI (by omega), cl_nI (by omega), pa, qa, X_prod pd qd, bd1_s, M_prod hPL hp hq, bd3_s]
        rcases pip hPL hp (n := N p * N q) (d := E p * E q) (Nat.mul_pos pd.1 qd.1) with ⟨l1, l2⟩ | ⟨l1, pl', ms', r, l2, l3, l4⟩
        · left
          rw [l2, bd2_s, fz1' _ _ (Or.inl rfl), l1, if_pos rfl]
          exact ⟨rfl, _, _, rfl⟩
        · right
          rw [l2, bd2_s, fz1' _ _ (Or.inr rfl), l1, if_neg n10]
          refine ⟨pl', ms', _, _, rfl, rfl, ?_, l4⟩
          unfold ACT
          rw [m0, if_neg (by decide), m1, l3, bd2_s]
      · -- copyTo
        rw [if_neg (show ¬ nI 99 = (42 : Int32) by decide), if_neg (show ¬ nI 99 = (43 : Int32) by decide), if_neg (show ¬ nI 99 = (44 : Int32) by decide), if_neg (show ¬ nI 99 = (45 : Int32) by decide), if_neg (show ¬ nI 99 = (42 : Int32) by decide), if_neg (show ¬ nI 99 = (43 : Int32) by decide), if_neg (show ¬ nI 99 = (45 : Int32) by decide), inb hp (by omega), cl_nI (by omega), pa]
        right
        have r1 := pd.2.1
        have r2 := pd.2.2.1
        have hput : F_X6_putIfPossible pl (nI q) (fz (N p) (E p)) = some (1, vp_updL pl q (fz (N p) (E p))) := by
          unfold F_X6_putIfPossible
          rw [if_neg (fz_ne r2 r1), inb hq (by omega), cl_nI (by omega)]
        rw [hput, bd2_s, fz1' _ _ (Or.inr rfl)]
        refine ⟨_, _, _, _, rfl, rfl, ?_, _, _, pl_put hPL hq pd⟩
        unfold ACT F_X7_copies
        rw [m0, if_pos (show nI 99 = (99 : Int32) from rfl), m1, m2, hold_e hPL hp hq, bd1_s, ab_e hp, bd1_s, e2p1, e2p, inb (by omega) (by omega), cl_nI (by omega), be_e hp, bd1_s, inb (by omega) (by omega), cl_nI (by omega), pk_un (by omega), pb, pc, bd2_s]
    · left
      rw [x1, if_neg n10, x2, if_pos rfl, ap_no2 y1 y2]
      refine ⟨rfl, mtp, mbt, ?_⟩
      rw [if_pos (show (0 : Int32) = 0 from rfl), if_pos (show (0 : Int32) = 0 from rfl), if_pos (show (0 : Int32) = 0 from rfl), ite_self, ite_self, ite_self]
  · left
    rw [x1, if_pos rfl, ap_no1 y1]
    refine ⟨rfl, mtp, mbt, ?_⟩
    rw [if_pos (show (0 : Int32) = 0 from rfl), if_pos (show (0 : Int32) = 0 from rfl), if_pos (show (0 : Int32) = 0 from rfl), ite_self, ite_self, ite_self]
end
