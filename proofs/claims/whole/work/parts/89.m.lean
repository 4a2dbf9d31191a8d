/-! numbers of the text; the reader's signs -/
section
variable {ch mtx : Nat → Int32} {n : Nat} {t : Nat → Nat}
/-- k digits read, the number x -/
def IV (k x : Nat) : Prop := 1 ≤ k ∧ k ≤ 4 ∧ ((x = 0 ∧ k = 1) ∨ (k = 1 ∧ 1 ≤ x ∧ x < 10) ∨ (k = 2 ∧ 10 ≤ x ∧ x < 100) ∨ (k = 3 ∧ 100 ≤ x ∧ x < 1000) ∨ (k = 4 ∧ 1000 ≤ x ∧ x < 10000))
theorem nul_e (h : TXT ch mtx n t) : ∀ (m k i f x : Nat), k + m = 4 → m < f → i ≤ n → IV k x → ∃ x' q, L_X7_number_9 f (nI x) mtx (nI n) (nI i) 1 = some (nI x', nI (i + q)) ∧ i + q ≤ n ∧ IV (k + q) x' ∧ ¬ fol (k + q) x' (sg t n (i + q)) ∧ (∀ L P S : Int32, Run t q i (3, L, P, nI x, S, nI k) (3, L, P, nI x', S, nI (k + q))) ∧ (∀ L P F : Int32, Run t q i (4, L, P, F, nI x, nI k) (4, L, P, F, nI x', nI (k + q))) := by
  intro m
  induction m with
  | zero =>
    intro k i f x hk hf hi hx
    obtain ⟨f, rfl⟩ : ∃ k, f = k + 1 := ⟨f - 1, by omega⟩
    have e : k = 4 := by omega
    subst e
    unfold IV at hx
    refine ⟨x, 0, ?_, by omega, hx, by unfold fol; omega, fun L P S => rfl, fun L P F => rfl⟩
    rw [L_X7_number_9_s, if_neg n10, if_neg (show ¬ nI x ≤ (0 : Int32) from by show ¬ nI x ≤ nI 0; rw [nI_leI (by omega) (by omega)]; omega), if_pos (show (1000 : Int32) ≤ nI x from by show nI 1000 ≤ nI x; rw [nI_leI (by omega) (by omega)]; omega), Nat.add_zero]
  | succ m ih =>
    intro k i f x hk hf hi hx
    obtain ⟨f, rfl⟩ : ∃ k, f = k + 1 := ⟨f - 1, by omega⟩
    have hx' := hx
    unfold IV at hx'
    have sb := sg_b h i
    rw [L_X7_number_9_s, if_neg n10]
    by_cases c0 : x = 0
    · subst c0
      refine ⟨0, 0, ?_, by omega, hx, by unfold fol; omega, fun L P S => rfl, fun L P F => rfl⟩
      rw [if_pos (show nI 0 ≤ (0 : Int32) by decide), Nat.add_zero]
    · rw [if_neg (show ¬ nI x ≤ (0 : Int32) from by show ¬ nI x ≤ nI 0; rw [nI_leI (by omega) (by omega)]; omega), if_neg (show ¬ (1000 : Int32) ≤ nI x from by show ¬ nI 1000 ≤ nI x; rw [nI_leI (by omega) (by omega)]; omega), sg_e h i hi, bd1_s, show (48 : Int32) = nI 48 from rfl, show (57 : Int32) = nI 57 from rfl, in_n (by omega) (by omega) (by omega)]
      by_cases c : 48 ≤ sg t n i ∧ sg t n i ≤ 57
      · obtain ⟨g1, g2⟩ := sb.2 (by omega)
        have hf2 : fol k x (t i) := by unfold fol; omega
        have e1 : (10 : Int32) * nI x + nI (sg t n i) - nI 48 = nI (x * 10 + (t i - 48)) := by
          rw [show (10 : Int32) = nI 10 from rfl, pk_mul, nI_add, pk_sub (by omega), g2]
          congr 1
          omega
        rw [if_pos c, if_neg n10, bd1_s, e1, show nI i + (1 : Int32) = nI (i + 1) from nI_1 i]
        obtain ⟨x', q, a1, a2, a3, a4, a5, a6⟩ := ih (k + 1) (i + 1) f (x * 10 + (t i - 48)) (by omega) (by omega) (by omega) (by unfold IV; omega)
        refine ⟨x', 1 + q, ?_, by omega, ?_, ?_, fun L P S => ?_, fun L P F => ?_⟩
        · rw [a1, show i + 1 + q = i + (1 + q) from by omega]
        · rw [show k + (1 + q) = k + 1 + q from by omega]; exact a3
        · rw [show k + (1 + q) = k + 1 + q from by omega, show i + (1 + q) = i + 1 + q from by omega]; exact a4
        · rw [show k + (1 + q) = k + 1 + q from by omega]
          exact run_a 1 q i _ _ _ (dig3 (by omega) (by omega) (by omega) hf2) (a5 L P S)
        · rw [show k + (1 + q) = k + 1 + q from by omega]
          exact run_a 1 q i _ _ _ (dig4 (by omega) (by omega) (by omega) hf2) (a6 L P F)
      · rw [if_neg c, if_pos rfl]
        refine ⟨x, 0, by rw [Nat.add_zero], by omega, hx, ?_, fun L P S => rfl, fun L P F => rfl⟩
        intro z
        unfold fol at z
        rw [Nat.add_zero] at z
        omega
theorem num_e (h : TXT ch mtx n t) {i : Nat} (hi : i ≤ n) : (∃ x q, 1 ≤ q ∧ q ≤ 4 ∧ x < 10000 ∧ F_X7_number mtx (nI n) (nI i) 1 = some (nI x, nI (i + q), 1) ∧ i + q ≤ n ∧ ¬ fol q x (sg t n (i + q)) ∧ (∀ L P S : Int32, Run t q i (3, L, P, 0, S, 0) (3, L, P, nI x, S, nI q)) ∧ (∀ L P F : Int32, Run t q i (4, L, P, F, 0, 0) (4, L, P, F, nI x, nI q))) ∨ (¬ (48 ≤ sg t n i ∧ sg t n i ≤ 57) ∧ ∃ v, F_X7_number mtx (nI n) (nI i) 1 = some (v, nI i, 0)) := by
  unfold F_X7_number
  have sb := sg_b h i
  rw [show (48 : Int32) = nI 48 from rfl, show (57 : Int32) = nI 57 from rfl, tk_1 h hi (by omega) (by omega) (by omega)]
  by_cases c : 48 ≤ sg t n i ∧ sg t n i ≤ 57
  · left
    obtain ⟨g1, g2⟩ := sb.2 (by omega)
    have hf2 : fol 0 0 (t i) := by unfold fol; omega
    obtain ⟨x', q, a1, a2, a3, a4, a5, a6⟩ := nul_e h 3 1 (i + 1) FU (t i - 48) (by omega) (by rw [FU_eq]; omega) (by omega) (by unfold IV; omega)
    have e1 : nI (sg t n i) - (48 : Int32) = nI (t i - 48) := by
      rw [show (48 : Int32) = nI 48 from rfl, pk_sub (by omega), g2]
    have a3' := a3
    unfold IV at a3'
    rw [if_pos c, bd3_s, e1, a1, bd2_s]
    refine ⟨x', 1 + q, by omega, by omega, by omega, by rw [show i + 1 + q = i + (1 + q) from by omega], by omega, ?_, fun L P S => ?_, fun L P F => ?_⟩
    · rw [show i + (1 + q) = i + 1 + q from by omega]; exact a4
    · have d := dig3 (t := t) (L := L) (P := P) (S := S) (i := i) (k := 0) (x := 0) (by omega) (by omega) (by omega) hf2
      rw [Nat.zero_mul, Nat.zero_add] at d
      exact run_a 1 q i _ _ _ d (a5 L P S)
    · have d := dig4 (t := t) (L := L) (P := P) (F := F) (i := i) (k := 0) (x := 0) (by omega) (by omega) (by omega) hf2
      rw [Nat.zero_mul, Nat.zero_add] at d
      exact run_a 1 q i _ _ _ d (a6 L P F)
  · right
    refine ⟨c, nI (sg t n i) - nI 48, ?_⟩
    rw [if_neg c, show (48 : Int32) = nI 48 from rfl, bd3_s, FU_eq, show (4000 : Nat) = 3999 + 1 from rfl, L_X7_number_9_s, if_pos rfl, bd2_s]
theorem num_0 (h : TXT ch mtx n t) {i : Nat} (hi : i ≤ n) : ∃ v, F_X7_number mtx (nI n) (nI i) 0 = some (v, nI i, 0) := by
  unfold F_X7_number
  rw [tk_0 h hi, bd3_s, FU_eq, show (4000 : Nat) = 3999 + 1 from rfl, L_X7_number_9_s, if_pos rfl, bd2_s]
  exact ⟨_, rfl⟩
/-- the letters -/
def LT5 (c : Nat) : Prop := c = 115 ∨ c = 43 ∨ c = 45 ∨ c = 42 ∨ c = 99
theorem acc0y {L P F S D : Int32} {c : Nat} (h : LT5 c) : acc (0, L, P, F, S, D) (nI c) = some (1, 1, nI c, P, 0, 0, 0) := by
  rcases h with rfl | rfl | rfl | rfl | rfl <;> rfl
theorem acc0n {L P F S D : Int32} {c : Nat} (hc : c ≤ 126) (h : ¬ LT5 c) : acc (0, L, P, F, S, D) (nI c) = some (0, 0, L, P, F, S, D) := by
  unfold LT5 at h
  have e : acc (0, L, P, F, S, D) (nI c) = bd6 (F_X0_acceptLetter 0 L F S D (nI c)) (fun r e l f s d => if ¬ (r = 0 ∨ r = 1) then none else some (r, e, l, P, f, s, d)) := rfl
  rw [e]
  unfold F_X0_acceptLetter
  rw [if_neg (show ¬ nI c = (115 : Int32) from by show ¬ nI c = nI 115; rw [nI_eq (by omega) (by omega)]; omega), if_neg (show ¬ nI c = (43 : Int32) from by show ¬ nI c = nI 43; rw [nI_eq (by omega) (by omega)]; omega), if_neg (show ¬ nI c = (45 : Int32) from by show ¬ nI c = nI 45; rw [nI_eq (by omega) (by omega)]; omega), if_neg (show ¬ nI c = (42 : Int32) from by show ¬ nI c = nI 42; rw [nI_eq (by omega) (by omega)]; omega), if_neg (show ¬ nI c = (99 : Int32) from by show ¬ nI c = nI 99; rw [nI_eq (by omega) (by omega)]; omega), bd6_s, if_neg (by decide)]
theorem acc1 {L P F S D : Int32} {c : Nat} (hc : c ≤ 126) : acc (1, L, P, F, S, D) (nI c) = if 48 ≤ c ∧ c ≤ 57 then some (1, 2, L, nI (c - 48), F, S, D) else some (0, 1, L, P, F, S, D) := by
  have e : acc (1, L, P, F, S, D) (nI c) = bd3 (F_X0_acceptPlate 1 P (nI c)) (fun r e q => if ¬ (r = 0 ∨ r = 1) then none else some (r, e, L, q, F, S, D)) := rfl
  rw [e]
  unfold F_X0_acceptPlate
  rw [dig_e hc]
  by_cases z : 48 ≤ c ∧ c ≤ 57
  · rw [if_pos z, if_neg n10, bd3_s, if_neg (by decide), if_pos z, show (48 : Int32) = nI 48 from rfl, pk_sub z.1]
  · rw [if_neg z, if_pos rfl, bd3_s, if_neg (by decide), if_neg z]
theorem acc5 {L P F S D : Int32} {c : Nat} (hc : c ≤ 126) : acc (5, L, P, F, S, D) (nI c) = if 48 ≤ c ∧ c ≤ 57 then some (1, 6, L, P, F, nI (c - 48), D) else some (0, 5, L, P, F, S, D) := by
  have e : acc (5, L, P, F, S, D) (nI c) = bd3 (F_X0_acceptOtherPlate 5 S (nI c)) (fun r e q => if ¬ (r = 0 ∨ r = 1) then none else some (r, e, L, P, F, q, D)) := rfl
  rw [e]
  unfold F_X0_acceptOtherPlate
  rw [dig_e hc]
  by_cases z : 48 ≤ c ∧ c ≤ 57
  · rw [if_pos z, if_neg n10, bd3_s, if_neg (by decide), if_pos z, show (48 : Int32) = nI 48 from rfl, pk_sub z.1]
  · rw [if_neg z, if_pos rfl, bd3_s, if_neg (by decide), if_neg z]
theorem acc2s {P F S D : Int32} {c : Nat} (hc : c ≤ 126) : acc (2, 115, P, F, S, D) (nI c) = if c = 61 then some (1, 3, 115, P, F, S, D) else some (0, 3, 115, P, F, S, D) := by
  have e : acc (2, 115, P, F, S, D) (nI c) = bd2 (F_X0_acceptSignBehindPlate 2 115 (nI c)) (fun r e => if ¬ (r = 0 ∨ r = 1) then none else some (r, e, 115, P, F, S, D)) := rfl
  rw [e]
  unfold F_X0_acceptSignBehindPlate
  rw [if_pos rfl]
  by_cases z : c = 61
  · subst z; rfl
  · rw [if_neg (show ¬ nI c = (61 : Int32) from by show ¬ nI c = nI 61; rw [nI_eq (by omega) (by omega)]; omega), bd2_s, if_neg (by decide), if_neg z]
theorem acc2o {L P F S D : Int32} {c : Nat} (hL : ¬ L = 115) (hc : c ≤ 126) : acc (2, L, P, F, S, D) (nI c) = if c = 44 then some (1, 5, L, P, F, S, D) else some (0, 5, L, P, F, S, D) := by
  have e : acc (2, L, P, F, S, D) (nI c) = bd2 (F_X0_acceptSignBehindPlate 2 L (nI c)) (fun r e => if ¬ (r = 0 ∨ r = 1) then none else some (r, e, L, P, F, S, D)) := rfl
  rw [e]
  unfold F_X0_acceptSignBehindPlate
  rw [if_neg hL]
  by_cases z : c = 44
  · subst z; rfl
  · rw [if_neg (show ¬ nI c = (44 : Int32) from by show ¬ nI c = nI 44; rw [nI_eq (by omega) (by omega)]; omega), bd2_s, if_neg (by decide), if_neg z]
theorem acc3n {L P S : Int32} {x k c : Nat} (hk : k < 100) (hx : x < 100000) (hc : c ≤ 126) (hf : ¬ fol k x c) : acc (3, L, P, nI x, S, nI k) (nI c) = if c = 47 ∧ 1 ≤ k then some (1, 4, L, P, nI x, S, 0) else some (0, 3, L, P, nI x, S, nI k) := by
  rw [acc3]
  unfold F_X0_acceptFirstNumber
  rw [(fol_e hk hx hc).2 hf, if_pos rfl]
  by_cases z : c = 47
  · subst z
    rw [if_pos (show nI 47 = (47 : Int32) from rfl)]
    by_cases k0 : k = 0
    · subst k0
      rw [if_pos (show nI 0 = (0 : Int32) from rfl), bd4_s, if_neg (by decide), if_neg (by omega)]
    · rw [if_neg (show ¬ nI k = (0 : Int32) from by show ¬ nI k = nI 0; rw [nI_eq (by omega) (by omega)]; omega), bd4_s, if_neg (by decide), if_pos (by omega)]
  · rw [if_neg (show ¬ nI c = (47 : Int32) from by show ¬ nI c = nI 47; rw [nI_eq (by omega) (by omega)]; omega), bd4_s, if_neg (by decide), if_neg (by omega)]
theorem acc4n {L P F : Int32} {x k c : Nat} (hk : k < 100) (hx : x < 100000) (hc : c ≤ 126) (hf : ¬ fol k x c) : acc (4, L, P, F, nI x, nI k) (nI c) = if 1 ≤ k then (if c = 59 then some (1, 0, L, P, F, nI x, nI k) else some (0, 0, L, P, F, nI x, nI k)) else some (0, 4, L, P, F, nI x, nI k) := by
  rw [acc4]
  unfold F_X0_acceptSecondNumber F_X0_acceptEnd
  rw [(fol_e hk hx hc).2 hf, if_pos rfl]
  by_cases k0 : k = 0
  · subst k0
    rw [if_pos (show nI 0 ≤ (0 : Int32) by decide), bd4_s, if_neg (by decide), if_neg (by omega)]
  · rw [if_neg (show ¬ nI k ≤ (0 : Int32) from by show ¬ nI k ≤ nI 0; rw [nI_leI (by omega) (by omega)]; omega), if_pos (show 1 ≤ k by omega), bd2_s]
    by_cases z : c = 59
    · subst z; rfl
    · rw [if_neg (show ¬ nI c = (59 : Int32) from by show ¬ nI c = nI 59; rw [nI_eq (by omega) (by omega)]; omega), if_pos rfl, bd4_s, if_neg (by decide), if_neg z]
theorem acc6 {L P F S D : Int32} {c : Nat} (hc : c ≤ 126) : acc (6, L, P, F, S, D) (nI c) = if c = 59 then some (1, 0, L, P, F, S, D) else some (0, 0, L, P, F, S, D) := by
  have e : acc (6, L, P, F, S, D) (nI c) = bd2 (F_X0_acceptEnd 6 (nI c)) (fun r e => if ¬ (r = 0 ∨ r = 1) then none else some (r, e, L, P, F, S, D)) := rfl
  rw [e]
  unfold F_X0_acceptEnd
  by_cases z : c = 59
  · subst z; rfl
  · rw [if_neg (show ¬ nI c = (59 : Int32) from by show ¬ nI c = nI 59; rw [nI_eq (by omega) (by omega)]; omega), bd2_s, if_neg (by decide), if_neg z]
end
