/-! p38: the start -/
theorem ini6 : ∀ (m x f : Nat) (g : Nat → Int64), x + m = 6 → m < f → ∃ pl, L_X6_init f (nI x) g = some pl ∧ ∀ p, pl p = if x ≤ p ∧ p < 6 then fz 0 1 else g p := by
  intro m
  induction m with
  | zero =>
    intro x f g hx hf
    obtain ⟨f, rfl⟩ : ∃ k, f = k + 1 := ⟨f - 1, by omega⟩
    have e : x = 6 := by omega
    subst e
    exact ⟨g, by rw [L_X6_init_s, if_pos (show (6 : Int32) ≤ nI 6 from by show nI 6 ≤ nI 6; rw [nI_leI (by omega) (by omega)]; omega)], fun p => by rw [if_neg (by omega)]⟩
  | succ m ih =>
    intro x f g hx hf
    obtain ⟨f, rfl⟩ : ∃ k, f = k + 1 := ⟨f - 1, by omega⟩
    obtain ⟨pl, h1, h2⟩ := ih (x + 1) f (vp_updL g x (1 : Int64)) (by omega) (by omega)
    refine ⟨pl, ?_, fun p => ?_⟩
    · rw [L_X6_init_s, if_neg (show ¬ (6 : Int32) ≤ nI x from by show ¬ nI 6 ≤ nI x; rw [nI_leI (by omega) (by omega)]; omega), inb (by omega) (by omega), cl_nI (by omega), show nI x + (1 : Int32) = nI (x + 1) from nI_1 x]
      exact h1
    · rw [h2 p]
      by_cases c : p = x
      · subst c; rw [if_neg (by omega), pk_uLs, if_pos (by omega)]; rfl
      · rw [pk_uLn c]
        by_cases c2 : x + 1 ≤ p ∧ p < 6
        · rw [if_pos c2, if_pos (by omega)]
        · rw [if_neg c2, if_neg (by omega)]
theorem one_p {pl : Nat → Int64} (h : ∀ p, p < 6 → pl p = fz 0 1) : PX pl (fun _ => 0) (fun _ => 1) := fun p hp => ⟨h p hp, Nat.le_refl 1, (by decide : 1 ≤ 1000000), (by decide : 0 ≤ 1000000), Nat.gcd_one_right 0⟩
section
variable {pl : Nat → Int64}
theorem dif_0 (h : ∀ p, p < 6 → pl p = fz 0 1) : F_X6_differentFractions pl = some 1 := by
  have e0 : L_X6_differentFractions_4 FU (0 : Int32) (0 : Int32) pl = L_X6_differentFractions_4 3999 (nI 1) (nI 1) pl := by
    rw [FU_eq, show (4000 : Nat) = 3999 + 1 from rfl, L_X6_differentFractions_4_s, if_neg (by decide), show F_X6_isOnLowerPlate pl (0 : Int32) = some 0 from onl_0 pl, bd1_s, if_pos rfl]
    rfl
  have o1 : ∀ p, 1 ≤ p → p < 6 → F_X6_isOnLowerPlate pl (nI p) = some 1 := fun p p1 p6 => by
    unfold F_X6_isOnLowerPlate
    have e : L_X6_isOnLowerPlate_2 FU (nI p) (nI 0) pl = some 0 := by
      rw [FU_eq, show (4000 : Nat) = 3999 + 1 from rfl, L_X6_isOnLowerPlate_2_s, if_neg (show ¬ nI p ≤ nI 0 by rw [nI_leI (by omega) (by omega)]; omega), inb (by omega) (by omega), inb p6 (by omega), cl_nI (by omega), cl_nI (by omega), if_pos (by rw [h 0 (by omega), h p p6])]
    rw [show L_X6_isOnLowerPlate_2 FU (nI p) (0 : Int32) pl = some 0 from e, bd1_s, if_pos rfl]
  have lp : ∀ (m x f : Nat), 1 ≤ x → x + m = 6 → m < f → L_X6_differentFractions_4 f (nI 1) (nI x) pl = some (nI 1) := by
    intro m
    induction m with
    | zero =>
      intro x f h1 hx hf
      obtain ⟨f, rfl⟩ : ∃ k, f = k + 1 := ⟨f - 1, by omega⟩
      have e : x = 6 := by omega
      subst e
      rw [L_X6_differentFractions_4_s, if_pos (show (6 : Int32) ≤ nI 6 from by show nI 6 ≤ nI 6; rw [nI_leI (by omega) (by omega)]; omega)]
    | succ m ih =>
      intro x f h1 hx hf
      obtain ⟨f, rfl⟩ : ∃ k, f = k + 1 := ⟨f - 1, by omega⟩
      rw [L_X6_differentFractions_4_s, if_neg (show ¬ (6 : Int32) ≤ nI x from by show ¬ nI 6 ≤ nI x; rw [nI_leI (by omega) (by omega)]; omega), o1 x h1 (by omega), bd1_s, if_neg n10, show nI x + (1 : Int32) = nI (x + 1) from nI_1 x]
      exact ih (x + 1) f (by omega) (by omega) (by omega)
  unfold F_X6_differentFractions
  rw [e0, lp 5 1 3999 (by omega) (by omega) (by omega), bd1_s]
  rfl
theorem parts_0 (h : ∀ p, p < 6 → pl p = fz 0 1) : F_X6_commonParts pl = some 1 := by
  have lp : ∀ (m x f : Nat), x + m = 6 → m < f → L_X6_commonParts_4 f (lN 1) (nI x) pl = some (1, lN 1) := by
    intro m
    induction m with
    | zero =>
      intro x f hx hf
      obtain ⟨f, rfl⟩ : ∃ k, f = k + 1 := ⟨f - 1, by omega⟩
      have e : x = 6 := by omega
      subst e
      rw [L_X6_commonParts_4_s, if_pos (show (6 : Int32) ≤ nI 6 from by show nI 6 ≤ nI 6; rw [nI_leI (by omega) (by omega)]; omega)]
    | succ m ih =>
      intro x f hx hf
      obtain ⟨f, rfl⟩ : ∃ k, f = k + 1 := ⟨f - 1, by omega⟩
      rw [L_X6_commonParts_4_s, if_neg (show ¬ (6 : Int32) ≤ nI x from by show ¬ nI 6 ≤ nI x; rw [nI_leI (by omega) (by omega)]; omega), inb (by omega) (by omega), cl_nI (by omega), h x (by omega), den_fz (by omega) (by omega) (by omega), cd_e (by omega) (by omega), bd1_s, show max 1 (Nat.gcd 1 1) = 1 from rfl, if_neg (show ¬ lN 1 = (0 : Int64) by decide), show (1000000000000000 : Int64) = lN 1000000000000000 from rfl, pk_lDiv (by omega) (by omega) (by omega), pk_lDiv (by omega) (by omega) (by omega), if_pos ((pk_lLE (by omega) (by omega)).mpr (by omega)), lN_mul, show 1 / 1 * 1 = 1 from rfl, show nI x + (1 : Int32) = nI (x + 1) from nI_1 x]
      exact ih (x + 1) f (by omega) (by omega)
  unfold F_X6_commonParts
  rw [show L_X6_commonParts_4 FU (1 : Int64) (0 : Int32) pl = some (1, lN 1) from lp 6 0 FU (by omega) (by rw [FU_eq]; omega), bd2_s, if_neg (by decide)]
  rfl
theorem term_0 (h : ∀ p, p < 6 → pl p = fz 0 1) (te : Nat → Int32) (be : Nat → Int64) (cn : Int32) : ∃ te' be', F_X6_termCount pl te be cn (3 : Int32) = some (0, 1, te', be', 1) := by
  have fr : Fr 0 1 := ⟨by omega, by omega, by omega, Nat.gcd_one_right 0⟩
  obtain ⟨te', be', r1, -⟩ := exp_e (n := 0) (d := 1) (K := 1) fr (by omega) (by omega) rfl (fun j hj => by
      have e : j = 0 := by omega
      subst e; exact Nat.lt_succ_self 0) (fun j hj => by
      have e : j = 0 := by omega
      subst e; exact ⟨by decide, by decide, by decide, by decide⟩) (fun j hj => by
      have e : j = 0 ∨ j = 1 := by omega
      rcases e with rfl | rfl <;> decide) 1 0 FU te be (by omega) (by rw [FU_eq]; omega) (fun j hj => by omega)
  refine ⟨te', be', ?_⟩
  have e2 : F_X6_termCount pl te be cn (nI 3) = some (0, 1, te', be', 1) := by
    unfold F_X6_termCount F_X2_count F_X2_expand
    rw [rq_e (by omega), bd1_s, if_pos rfl, inb (by omega) (by omega), cl_nI (by omega), h 3 (by omega), num_fz (by omega) (by omega), den_fz (by omega) (by omega) (by omega), show L_X2_expand_19 FU (lN 0) (lN 1) (0 : Int32) te be (0 : Int32) = some (te', be', nI 1) from r1, bd3_s, bd3_s]
    rfl
  exact e2
theorem unit_0 (h : ∀ p, p < 6 → pl p = fz 0 1) : F_X6_unitCount pl (2 : Int32) = some (0, 0) := by
  have fr : Fr 0 1 := ⟨by omega, by omega, by omega, Nat.gcd_one_right 0⟩
  have h11 : Fr 1 1 := ⟨by omega, by omega, by omega, rfl⟩
  have u0 : F_X5_unit (fz 0 1) (0 : Int32) = some 0 := by
    unfold F_X5_unit
    rw [FU_eq, show (4000 : Nat) = 3999 + 1 from rfl, L_X5_unit_14_s, if_neg (by decide), num_fz (by omega) (by omega), if_pos (show lN 0 ≤ (0 : Int64) by decide), bd2_s, if_neg (by decide), if_neg (by decide), if_neg (by decide)]
  have e2 : F_X6_unitCount pl (nI 2) = some (0, 0) := by
    have e3 : F_X6_requireLessThanOne pl (nI 2) = some 0 := by
      unfold F_X6_requireLessThanOne
      rw [inb (by omega) (by omega), cl_nI (by omega), h 2 (by omega), show (1048577 : Int64) = fz 1 1 from rfl, ord_e fr h11, if_pos (show cmpz 0 1 1 1 < (0 : Int32) by decide)]
    unfold F_X6_unitCount F_X5_count
    rw [rq_e (by omega), bd1_s, if_pos rfl, e3, bd1_s, if_pos rfl, inb (by omega) (by omega), cl_nI (by omega), h 2 (by omega), u0, bd1_s, FU_eq, show (4000 : Nat) = 3999 + 1 from rfl, L_X5_count_8_s, if_neg (by decide), if_pos (by decide), bd2_s, if_pos rfl, bd1_s]
  exact e2
theorem text_0 : ∃ a b c d e f, F_X6_textError (fun _ => 0) 0 0 0 0 0 0 0 = some (0, a, b, c, d, e, f) := by
  unfold F_X6_textError F_X0_begin F_X1_length
  rw [bd1_s, FU_eq, show (4000 : Nat) = 3999 + 1 from rfl, L_X6_textError_9_s]
  unfold F_X1_length
  rw [if_pos (Int32.le_refl _), bd8_s, if_neg (by decide)]
  exact ⟨_, _, _, _, _, _, rfl⟩
theorem start_a (h : ∀ p, p < 6 → pl p = fz 0 1) : ∃ z te be cn a b c d e f, G_A pl (fun _ => 0) (fun _ => 0) 0 (fun _ => 0) 0 0 0 0 0 0 0 0 = some (z, te, be, cn, a, b, c, d, e, f) ∧ z = nI 0 := by
  obtain ⟨te, be, e1⟩ := term_0 h (fun _ => 0) (fun _ => 0) 0
  obtain ⟨a, b, c, d, e, f, e2⟩ := text_0
  have hx := one_p h
  refine ⟨0, te, be, 1, a, b, c, d, e, f, ?_, rfl⟩
  unfold G_A
  rw [if_pos (show F_X6_undoCount 0 = (0 : Int32) from rfl), show F_X6_numeratorOf pl (0 : Int32) = some (0, 0) from num_x hx (p := 0) (by omega), bd2_s, if_pos rfl, if_pos rfl, show F_X6_denominatorOf pl (5 : Int32) = some (0, 1) from den_x hx (p := 5) (by omega), bd2_s, if_pos rfl, if_pos rfl, dif_0 h, bd1_s, if_pos rfl, parts_0 h, bd1_s, if_pos rfl, e1, bd5_s, if_pos rfl, if_pos rfl, unit_0 h, bd2_s, if_pos rfl, if_pos rfl, e2, bd7_s, if_pos rfl]
end
