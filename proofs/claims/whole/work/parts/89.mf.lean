/-! one command executed -/
section
variable {pl : Nat → Int64} {ms mrd : Nat → Int32} {N E : Nat → Nat} {mtp mbt : Int64}
theorem pip (hPL : PL pl ms N E) {p n d : Nat} (hp : p < 6) (hd : 1 ≤ d) : (lowb n d = 0 ∧ F_X6_putIfPossible pl (nI p) (lowv n d) = some (0, pl)) ∨ (lowb n d = 1 ∧ ∃ pl' ms' r, F_X6_putIfPossible pl (nI p) (lowv n d) = some (1, pl') ∧ F_X7_puts ms (lN (n / Nat.gcd n d)) (lN (d / Nat.gcd n d)) (nI p) = some (r, ms') ∧ ∃ N' E', PL pl' ms' N' E') := by
  unfold lowb lowv F_X6_putIfPossible
  by_cases c : n / Nat.gcd n d ≤ 1000000 ∧ d / Nat.gcd n d ≤ 1000000
  · right
    have hf := fr_low hd c
    rw [if_pos c, if_pos c, if_neg (fz_ne c.1 c.2), inb hp (by omega), cl_nI (by omega)]
    exact ⟨rfl, _, _, _, rfl, pu_e hp, _, _, pl_put hPL hp hf⟩
  · left
    rw [if_neg c, if_neg c, if_pos rfl]
    exact ⟨rfl, rfl⟩
/-- the model's act of a command that can be -/
def ACT (ms mrd : Nat → Int32) (m : Nat) (mtp mbt : Int64) : Option (Nat → Int32) := if mrd (4 * m) = (99 : Int32) then (bd2 (F_X7_copies ms (mrd (4 * m + 1)) (mrd (4 * m + 2))) (fun (r39 : Int32) (ms40 : Nat → Int32) => some ms40)) else (bd2 (F_X7_puts ms mtp mbt (mrd (4 * m + 1))) (fun (r34 : Int32) (ms35 : Nat → Int32) => some ms35))
def EXO (pl : Nat → Int64) (ms mrd : Nat → Int32) (m : Nat) (X : Option (Int32 × (Nat → Int64))) (C : Option (Int32 × Int64 × Int64)) : Prop :=
  (X = some (0, pl) ∧ ∃ mtp' mbt', C = some (0, mtp', mbt')) ∨ (∃ pl' ms' mtp' mbt', X = some (1, pl') ∧ C = some (1, mtp', mbt') ∧ ACT ms mrd m mtp' mbt' = some ms' ∧ ∃ N' E', PL pl' ms' N' E')
/-- the model's condition, its places read -/
def can2 (ms : Nat → Int32) (mtp mbt : Int64) (l p x y : Int32) : Option (Int32 × Int64 × Int64) :=
  if l = (42 : Int32) then (if (F_X7_arePlates p x) = (0 : Int32) then (some ((0 : Int32), mtp, mbt)) else (bd3 (F_X7_makesProduct ms mtp mbt p x) (fun (r6 : Int32) (mtp7 : Int64) (mbt8 : Int64) => some ((if r6 = (0 : Int32) then (0 : Int32) else (1 : Int32)), mtp7, mbt8)))) else (if l = (43 : Int32) then (if (F_X7_arePlates p x) = (0 : Int32) then (some ((0 : Int32), mtp, mbt)) else (bd3 (F_X7_makesSum ms mtp mbt p x (1 : Int32)) (fun (r15 : Int32) (mtp16 : Int64) (mbt17 : Int64) => some ((if r15 = (0 : Int32) then (0 : Int32) else (1 : Int32)), mtp16, mbt17)))) else (if l = (45 : Int32) then (if (F_X7_arePlates p x) = (0 : Int32) then (some ((0 : Int32), mtp, mbt)) else (bd1 (F_X7_holds ms p x) (fun (r24 : Int32) => if r24 < (0 : Int32) then (some ((0 : Int32), mtp, mbt)) else (bd3 (F_X7_makesSum ms mtp mbt p x (-1 : Int32)) (fun (r27 : Int32) (mtp28 : Int64) (mbt29 : Int64) => some ((if r27 = (0 : Int32) then (0 : Int32) else (1 : Int32)), mtp28, mbt29)))))) else (if l = (115 : Int32) then (if (F_X7_isPlate p) = (0 : Int32) then (some ((0 : Int32), mtp, mbt)) else (if (F_X7_isBottom y) = (0 : Int32) then (some ((0 : Int32), mtp, mbt)) else (bd3 (F_X7_makes mtp mbt x.toInt64 y.toInt64) (fun (r38 : Int32) (mtp39 : Int64) (mbt40 : Int64) => some ((if r38 = (0 : Int32) then (0 : Int32) else (1 : Int32)), mtp39, mbt40))))) else (some ((F_X7_arePlates p x), mtp, mbt)))))
theorem can_e {m : Nat} (hm : m ≤ 19) : F_X7_can ms mrd mtp mbt (nI (4 * m)) = can2 ms mtp mbt (mrd (4 * m)) (mrd (4 * m + 1)) (mrd (4 * m + 2)) (mrd (4 * m + 3)) := by
  have e1 : nI (4 * m) + (1 : Int32) = nI (4 * m + 1) := nI_add (4 * m) 1
  have e2 : nI (4 * m) + (2 : Int32) = nI (4 * m + 2) := nI_add (4 * m) 2
  have e3 : nI (4 * m) + (3 : Int32) = nI (4 * m + 3) := nI_add (4 * m) 3
  unfold F_X7_can can2
  rw [e1, e2, e3]
  simp only [inb (show 4 * m < 84 by omega) (show 84 < 2147483648 by omega), inb (show 4 * m + 1 < 84 by omega) (show 84 < 2147483648 by omega), inb (show 4 * m + 2 < 84 by omega) (show 84 < 2147483648 by omega), inb (show 4 * m + 3 < 84 by omega) (show 84 < 2147483648 by omega)]
  simp only [cl_nI (show 4 * m < 2147483648 by omega), cl_nI (show 4 * m + 1 < 2147483648 by omega), cl_nI (show 4 * m + 2 < 2147483648 by omega), cl_nI (show 4 * m + 3 < 2147483648 by omega)]
theorem inl_0 {n : Nat} (hn : n < 100000) : F_X3_inLowestTerms (lN n) (lN 0) = some (-1) := by
  unfold F_X3_inLowestTerms
  rw [if_neg (show ¬ lN n < (0 : Int64) from by show ¬ lN n < lN 0; rw [pk_lLT (by omega) (by omega)]; omega), if_neg (show ¬ (1 : Int64) ≤ lN 0 from by show ¬ lN 1 ≤ lN 0; rw [pk_lLE (by omega) (by omega)]; omega)]
theorem exs_p (hPL : PL pl ms N E) {m P F S : Nat} (hm : m ≤ 19) (m0 : mrd (4 * m) = nI 115) (m1 : mrd (4 * m + 1) = nI P) (m2 : mrd (4 * m + 2) = nI F) (m3 : mrd (4 * m + 3) = nI S) (hP : P < 10) (hF : F < 10000) (hS : S < 10000) : EXO pl ms mrd m (F_X6_execute pl (nI 115) (nI P) (nI F) (nI S)) (F_X7_can ms mrd mtp mbt (nI (4 * m))) := by
  rw [can_e hm, m0, m1, m2, m3]
  unfold F_X6_execute F_X0_letter F_X0_plate F_X0_first F_X0_second can2
  rw [if_pos (show nI 115 = (115 : Int32) from rfl), if_neg (show ¬ nI 115 = (42 : Int32) by decide), if_neg (show ¬ nI 115 = (43 : Int32) by decide), if_neg (show ¬ nI 115 = (45 : Int32) by decide), if_pos (show nI 115 = (115 : Int32) from rfl), nI_l (by omega), nI_l (by omega)]
  have hb : F_X7_isBottom (nI S) = if 1 ≤ S ∧ S ≤ 1000000 then 1 else 0 := in_n (lo := 1) (hi := 1000000) (by omega) (by omega) (by omega)
  by_cases s0 : S = 0
  · subst s0
    rw [inl_0 (by omega), bd1_s, hb, if_neg (show ¬ (1 ≤ 0 ∧ 0 ≤ 1000000) by omega)]
    left
    rcases plate_cases (nI P) with ⟨p, hp, e, x1, y1⟩ | ⟨x1, y1⟩
    · rw [x1, if_neg n10, y1, if_neg n10, if_pos rfl]
      unfold F_X6_putIfPossible
      rw [if_pos rfl, bd2_s, if_pos rfl]
      exact ⟨rfl, _, _, rfl⟩
    · rw [x1, if_pos rfl, y1, if_pos rfl]
      exact ⟨rfl, _, _, rfl⟩
  · rw [low_v (by omega) (by omega) (by omega), bd1_s, hb, if_pos (show 1 ≤ S ∧ S ≤ 1000000 by omega), if_neg n10, mk_b (by omega) (by omega) (by omega), bd3_s]
    rcases plate_cases (nI P) with ⟨p, hp, e, x1, y1⟩ | ⟨x1, y1⟩
    · rw [x1, if_neg n10, y1, if_neg n10]
      rw [e] at m1 ⊢
      rcases pip hPL hp (n := F) (d := S) (by omega) with ⟨l1, l2⟩ | ⟨l1, pl', ms', r, l2, l3, l4⟩
      · left
        rw [l2, bd2_s, l1, if_pos rfl]
        exact ⟨rfl, _, _, rfl⟩
      · right
        rw [l2, bd2_s, l1, if_neg n10]
        refine ⟨pl', ms', _, _, rfl, rfl, ?_, l4⟩
        unfold ACT
        rw [m0, if_neg (by decide), m1, l3, bd2_s]
    · left
      rw [x1, if_pos rfl, y1, if_pos rfl]
      exact ⟨rfl, _, _, rfl⟩
end
