/-! p38: common, commonParts, differentFractions, beginsRight, the terms -/
theorem com_l : ∀ (k n a b : Nat), b < 2 ^ k → a < 2 ^ 31 → b < 2 ^ 31 → 2 * k + 1 ≤ n → L_L_common_4 n (nI a) (nI b) = some (nI (Nat.gcd a b)) := by
  intro k
  induction k with
  | zero =>
    intro n a b hb ha hb2 hn
    have hb0 : b = 0 := by simp at hb; omega
    subst hb0
    obtain ⟨n', rfl⟩ : ∃ n', n = n' + 1 := ⟨n - 1, by omega⟩
    rw [L_L_common_4_s, if_pos (show nI 0 ≤ (0 : Int32) from by show nI 0 ≤ nI 0; rw [nI_leI (by omega) (by omega)]; omega), Nat.gcd_zero_right]
  | succ k ih =>
    intro n a b hb ha hb2 hn
    obtain ⟨n', rfl⟩ : ∃ n', n = n' + 1 := ⟨n - 1, by omega⟩
    rw [L_L_common_4_s]
    by_cases h0 : b = 0
    · subst h0
      rw [if_pos (show nI 0 ≤ (0 : Int32) from by show nI 0 ≤ nI 0; rw [nI_leI (by omega) (by omega)]; omega), Nat.gcd_zero_right]
    · rw [if_neg (show ¬ nI b ≤ (0 : Int32) from by show ¬ nI b ≤ nI 0; rw [nI_leI (by omega) (by omega)]; omega), if_neg (show ¬ nI b = (0 : Int32) from by show ¬ nI b = nI 0; rw [nI_eq (by omega) (by omega)]; omega), pk_rem (by omega) (by omega) (by omega)]
      have hr : a % b < b := Nat.mod_lt _ (by omega)
      obtain ⟨n2, rfl⟩ : ∃ n2, n' = n2 + 1 := ⟨n' - 1, by omega⟩
      rw [L_L_common_4_s]
      by_cases h1 : a % b = 0
      · rw [h1, if_pos (show nI 0 ≤ (0 : Int32) from by show nI 0 ≤ nI 0; rw [nI_leI (by omega) (by omega)]; omega), Nat.gcd_comm, Nat.gcd_rec, h1, Nat.gcd_zero_left]
      · rw [if_neg (show ¬ nI (a % b) ≤ (0 : Int32) from by show ¬ nI (a % b) ≤ nI 0; rw [nI_leI (by omega) (by omega)]; omega), if_neg (show ¬ nI (a % b) = (0 : Int32) from by show ¬ nI (a % b) = nI 0; rw [nI_eq (by omega) (by omega)]; omega), pk_rem (by omega) (by omega) (by omega)]
        have h2 := mod2 (show 0 < a % b by omega) hr
        have hp : 2 ^ (k + 1) = 2 * 2 ^ k := by rw [Nat.pow_succ]; omega
        rw [ih n2 (a % b) (b % (a % b)) (by omega) (by omega) (by omega) (by omega)]
        rw [Nat.gcd_comm a b, Nat.gcd_rec b a, Nat.gcd_rec (a % b) b, Nat.gcd_comm (b % (a % b))]
theorem com_x {a b : Nat} (ha : a < 2 ^ 31) (hb : b < 2 ^ 31) : F_L_common (nI a) (nI b) = some (nI (Nat.gcd a b)) := by
  unfold F_L_common
  rw [com_l 31 FU a b hb ha hb (by rw [FU_eq]; omega), bd1_s]
section
variable {pl : Nat → Int64} {N E : Nat → Nat}
theorem parts_l (h : PX pl N E) : ∀ (m x f a : Nat), x + m = 6 → m < f → 1 ≤ a → a ≤ 1000000000000000 → (∃ w, L_X6_commonParts_4 f (lN a) (nI x) pl = some (0, w)) ∨ ∃ v, 1 ≤ v ∧ v ≤ 1000000000000000 ∧ a ∣ v ∧ (∀ j, x ≤ j → j < 6 → E j ∣ v) ∧ L_X6_commonParts_4 f (lN a) (nI x) pl = some (1, lN v) := by
  intro m
  induction m with
  | zero =>
    intro x f a hx hf ha1 ha2
    obtain ⟨f, rfl⟩ : ∃ k, f = k + 1 := ⟨f - 1, by omega⟩
    have hx6 : x = 6 := by omega
    subst hx6
    exact Or.inr ⟨a, ha1, ha2, Nat.dvd_refl a, fun j h1 h2 => by omega, by rw [L_X6_commonParts_4_s, if_pos (show (6 : Int32) ≤ nI 6 from by show nI 6 ≤ nI 6; rw [nI_leI (by omega) (by omega)]; omega)]⟩
  | succ m ih =>
    intro x f a hx hf ha1 ha2
    obtain ⟨f, rfl⟩ : ∃ k, f = k + 1 := ⟨f - 1, by omega⟩
    obtain ⟨pa, f1, f2, f3, f4⟩ := h x (by omega)
    have g0 : 0 < Nat.gcd a (E x) := gpos f1
    have gd : Nat.gcd a (E x) ∣ E x := Nat.gcd_dvd_right _ _
    have ga : Nat.gcd a (E x) ∣ a := Nat.gcd_dvd_left _ _
    have gl := gle (n := a) f1
    have d0 : 0 < E x / Nat.gcd a (E x) := Nat.div_pos gl g0
    have d1 : E x / Nat.gcd a (E x) ≤ E x := Nat.div_le_self _ _
    have a1 : a / Nat.gcd a (E x) ≤ a := Nat.div_le_self _ _
    have em : max 1 (Nat.gcd a (E x)) = Nat.gcd a (E x) := by omega
    have le : a / Nat.gcd a (E x) * E x = a * (E x / Nat.gcd a (E x)) := lcm_e g0 ga gd
    rw [L_X6_commonParts_4_s, if_neg (show ¬ (6 : Int32) ≤ nI x from by show ¬ nI 6 ≤ nI x; rw [nI_leI (by omega) (by omega)]; omega), inb (by omega) (by omega), cl_nI (by omega), pa, den_fz (by omega) f1 (by omega), cd_e (by omega) (by omega), bd1_s, em, if_neg (show ¬ lN (Nat.gcd a (E x)) = (0 : Int64) from by show ¬ lN (Nat.gcd a (E x)) = lN 0; rw [pk_lEQ (by omega) (by omega)]; omega), if_neg (show ¬ lN (E x) = (0 : Int64) from by show ¬ lN (E x) = lN 0; rw [pk_lEQ (by omega) (by omega)]; omega), pk_lDiv (by omega) g0 (by omega), show (1000000000000000 : Int64) = lN 1000000000000000 from rfl, pk_lDiv (by omega) f1 (by omega), lN_mul, show nI x + (1 : Int32) = nI (x + 1) from nI_1 x]
    have q1 : 1000000000000000 / E x ≤ 1000000000000000 := Nat.div_le_self _ _
    by_cases c : a / Nat.gcd a (E x) * E x ≤ 1000000000000000
    · have c1 : a / Nat.gcd a (E x) ≤ 1000000000000000 / E x := by rw [Nat.le_div_iff_mul_le f1]; exact c
      rw [if_pos ((pk_lLE (by omega) (by omega)).mpr c1)]
      have p0 : 1 ≤ a / Nat.gcd a (E x) * E x := by rw [le]; exact Nat.mul_pos ha1 d0
      rcases ih (x + 1) f _ (by omega) (by omega) p0 c with ⟨w, e⟩ | ⟨v, v1, v2, v3, v4, e⟩
      · exact Or.inl ⟨w, e⟩
      · refine Or.inr ⟨v, v1, v2, ?_, fun j j1 j2 => ?_, e⟩
        · refine Nat.dvd_trans ?_ v3
          rw [le]; exact Nat.dvd_mul_right _ _
        · by_cases z : j = x
          · subst z; exact Nat.dvd_trans (Nat.dvd_mul_left _ _) v3
          · exact v4 j (by omega) j2
    · have c1 : ¬ a / Nat.gcd a (E x) ≤ 1000000000000000 / E x := by rw [Nat.le_div_iff_mul_le f1]; exact c
      rw [if_neg (fun z => c1 ((pk_lLE (by omega) (by omega)).mp z))]
      exact Or.inl ⟨_, rfl⟩
theorem parts_x (h : PX pl N E) : F_X6_commonParts pl = some (-1) ∨ ∃ v, 1 ≤ v ∧ v ≤ 1000000000000000 ∧ (∀ j, j < 6 → E j ∣ v) ∧ F_X6_commonParts pl = some (lN v) := by
  unfold F_X6_commonParts
  rcases parts_l h 6 0 FU 1 (by omega) (by rw [FU_eq]; omega) (by omega) (by omega) with ⟨w, e⟩ | ⟨v, v1, v2, v3, v4, e⟩
  · left
    rw [show L_X6_commonParts_4 FU (1 : Int64) (0 : Int32) pl = some (0, w) from e, bd2_s, if_pos rfl]
  · right
    refine ⟨v, v1, v2, fun j hj => v4 j (by omega) hj, ?_⟩
    rw [show L_X6_commonParts_4 FU (1 : Int64) (0 : Int32) pl = some (1, lN v) from e, bd2_s, if_neg (by decide)]
theorem onl_l (h : PX pl N E) {p : Nat} (hp : p < 6) : ∀ (m x f : Nat), x + m = p → m < f → L_X6_isOnLowerPlate_2 f (nI p) (nI x) pl = some 1 ∨ L_X6_isOnLowerPlate_2 f (nI p) (nI x) pl = some 0 := by
  intro m
  induction m with
  | zero =>
    intro x f hx hf
    obtain ⟨f, rfl⟩ : ∃ k, f = k + 1 := ⟨f - 1, by omega⟩
    have hxp : x = p := by omega
    subst hxp
    left
    rw [L_X6_isOnLowerPlate_2_s, if_pos (Int32.le_refl _)]
  | succ m ih =>
    intro x f hx hf
    obtain ⟨f, rfl⟩ : ∃ k, f = k + 1 := ⟨f - 1, by omega⟩
    rw [L_X6_isOnLowerPlate_2_s, if_neg (show ¬ nI p ≤ nI x by rw [nI_leI (by omega) (by omega)]; omega), inb (by omega) (by omega), inb hp (by omega), cl_nI (by omega), cl_nI (by omega), show nI x + (1 : Int32) = nI (x + 1) from nI_1 x]
    by_cases c : pl x = pl p
    · rw [if_pos c]; exact Or.inr rfl
    · rw [if_neg c]; exact ih (x + 1) f (by omega) (by omega)
theorem onl_x (h : PX pl N E) {p : Nat} (hp : p < 6) : F_X6_isOnLowerPlate pl (nI p) = some 0 ∨ F_X6_isOnLowerPlate pl (nI p) = some 1 := by
  unfold F_X6_isOnLowerPlate
  rcases onl_l h hp p 0 FU (by omega) (by rw [FU_eq]; omega) with e | e
  · left; rw [show L_X6_isOnLowerPlate_2 FU (nI p) (0 : Int32) pl = some 1 from e, bd1_s, if_neg (by decide)]
  · right; rw [show L_X6_isOnLowerPlate_2 FU (nI p) (0 : Int32) pl = some 0 from e, bd1_s, if_pos rfl]
theorem dif_l (h : PX pl N E) : ∀ (m x f c : Nat), x + m = 6 → m < f → ∃ c', c ≤ c' ∧ c' ≤ c + m ∧ L_X6_differentFractions_4 f (nI c) (nI x) pl = some (nI c') := by
  intro m
  induction m with
  | zero =>
    intro x f c hx hf
    obtain ⟨f, rfl⟩ : ∃ k, f = k + 1 := ⟨f - 1, by omega⟩
    have e : x = 6 := by omega
    subst e
    exact ⟨c, by omega, by omega, by rw [L_X6_differentFractions_4_s, if_pos (show (6 : Int32) ≤ nI 6 from by show nI 6 ≤ nI 6; rw [nI_leI (by omega) (by omega)]; omega)]⟩
  | succ m ih =>
    intro x f c hx hf
    obtain ⟨f, rfl⟩ : ∃ k, f = k + 1 := ⟨f - 1, by omega⟩
    rw [L_X6_differentFractions_4_s, if_neg (show ¬ (6 : Int32) ≤ nI x from by show ¬ nI 6 ≤ nI x; rw [nI_leI (by omega) (by omega)]; omega), show nI x + (1 : Int32) = nI (x + 1) from nI_1 x, show nI c + (1 : Int32) = nI (c + 1) from nI_1 c]
    rcases onl_x h (show x < 6 by omega) with e | e
    · rw [e, bd1_s, if_pos rfl]
      obtain ⟨c', c1, c2, e2⟩ := ih (x + 1) f (c + 1) (by omega) (by omega)
      exact ⟨c', by omega, by omega, e2⟩
    · rw [e, bd1_s, if_neg n10]
      obtain ⟨c', c1, c2, e2⟩ := ih (x + 1) f c (by omega) (by omega)
      exact ⟨c', by omega, by omega, e2⟩
theorem onl_0 (pl : Nat → Int64) : F_X6_isOnLowerPlate pl (nI 0) = some 0 := by
  unfold F_X6_isOnLowerPlate
  rw [FU_eq, show (4000 : Nat) = 3999 + 1 from rfl, L_X6_isOnLowerPlate_2_s, if_pos (show nI 0 ≤ (0 : Int32) from Int32.le_refl _), bd1_s, if_neg (by decide)]
theorem dif_x (h : PX pl N E) : ∃ c, 1 ≤ c ∧ c ≤ 6 ∧ F_X6_differentFractions pl = some (nI c) := by
  have e0 : L_X6_differentFractions_4 FU (0 : Int32) (0 : Int32) pl = L_X6_differentFractions_4 3999 (nI 1) (nI 1) pl := by
    rw [FU_eq, show (4000 : Nat) = 3999 + 1 from rfl, L_X6_differentFractions_4_s, if_neg (by decide), show F_X6_isOnLowerPlate pl (0 : Int32) = some 0 from onl_0 pl, bd1_s, if_pos rfl]
    rfl
  obtain ⟨c, c1, c2, e⟩ := dif_l h 5 1 3999 1 (by omega) (by omega)
  exact ⟨c, c1, by omega, by unfold F_X6_differentFractions; rw [e0, e, bd1_s]⟩
theorem br_x (h : PX pl N E) {p : Nat} (hp : p < 6) (hn : ¬ N p = 0) : F_X6_beginsRight pl (nI p) = some (0, if nI (N p) ≤ nI (E p) then (0 : Int32) else (1 : Int32)) := by
  obtain ⟨pa, pd⟩ := h p hp
  obtain ⟨f1, f2, f3, f4⟩ := id pd
  have h11 : Fr 1 1 := ⟨by omega, by omega, by omega, rfl⟩
  unfold F_X6_beginsRight
  rw [rnz_x h hp, if_neg hn, bd1_s, if_pos rfl, inb hp (by omega), cl_nI (by omega), pa, show (1048577 : Int64) = fz 1 1 from rfl, ord_e pd h11]
  unfold cmpz
  rw [Nat.mul_one, Nat.one_mul]
  by_cases z1 : N p < E p
  · rw [if_pos z1, if_pos (by decide), if_pos (by rw [nI_leI (by omega) (by omega)]; omega)]
  · rw [if_neg z1]
    by_cases z2 : N p = E p
    · rw [if_pos z2, if_pos (by decide), if_pos (by rw [nI_leI (by omega) (by omega)]; omega)]
    · rw [if_neg z2, if_neg (by decide), if_neg (by rw [nI_leI (by omega) (by omega)]; omega)]
/-- the last beginning is the fraction itself -/
theorem term_x (h : PX pl N E) {p : Nat} (hp : p < 6) : ∃ K, 1 ≤ K ∧ K ≤ 40 ∧ ∀ te be cn, ∃ te' be', F_X2_expand te be cn (fz (N p) (E p)) = some (te', be', nI K) ∧ be' (K - 1) = fz (N p) (E p) := by
  obtain ⟨pa, pd⟩ := h p hp
  obtain ⟨K, k1, k2, k3, kg, k4, ka, kb, k5⟩ := cf_e pd
  have k6 := rr_b pd k4
  obtain ⟨f1, f2, f3, f4⟩ := id pd
  refine ⟨K, k1, k2, fun te be cn => ?_⟩
  obtain ⟨te', be', r1, r2⟩ := exp_e pd k1 k2 k3 k4 k5 k6 K 0 FU te be (by omega) (by rw [FU_eq]; omega) (fun j hj => by omega)
  refine ⟨te', be', ?_, ?_⟩
  · unfold F_X2_expand
    rw [num_fz (by omega) (by omega), den_fz (by omega) f1 (by omega), show L_X2_expand_19 FU (lN (N p)) (lN (E p)) (0 : Int32) te be (0 : Int32) = some (te', be', nI K) from r1, bd3_s]
  · rw [(r2 (K - 1) (by omega)).2, show K - 1 + 2 = K + 1 from by omega, ka, kb]
theorem tc_x (h : PX pl N E) {p : Nat} (hp : p < 6) : ∃ K, 1 ≤ K ∧ K ≤ 40 ∧ (∀ te be cn, ∃ te' be' cn', F_X6_termCount pl te be cn (nI p) = some (0, nI K, te', be', cn')) ∧ (∀ te be cn, ∃ te' be' cn', F_X6_beginningNumerator pl te be cn (nI p) (nI K - (1 : Int32)) = some (0, nI (N p), te', be', cn')) ∧ (∀ te be cn, ∃ te' be' cn', F_X6_beginningDenominator pl te be cn (nI p) (nI K - (1 : Int32)) = some (0, nI (E p), te', be', cn')) := by
  obtain ⟨K, k1, k2, ex⟩ := term_x h hp
  obtain ⟨pa, f1, f2, f3, f4⟩ := h p hp
  have ek : nI K - (1 : Int32) = nI (K - 1) := by
    obtain ⟨k, rfl⟩ : ∃ k, K = k + 1 := ⟨K - 1, by omega⟩
    exact nI_pred k
  refine ⟨K, k1, k2, fun te be cn => ?_, fun te be cn => ?_, fun te be cn => ?_⟩
  · obtain ⟨te', be', e, -⟩ := ex te be cn
    refine ⟨te', be', nI K, ?_⟩
    unfold F_X6_termCount F_X2_count
    rw [rq_e hp, bd1_s, if_pos rfl, inb hp (by omega), cl_nI (by omega), pa, e, bd3_s]
  · obtain ⟨te', be', e, e2⟩ := ex te be cn
    refine ⟨te', be', nI K, ?_⟩
    unfold F_X6_beginningNumerator F_X6_expandToTerm F_X2_count F_X2_beginning
    rw [rq_e hp, bd1_s, if_pos rfl, inb hp (by omega), cl_nI (by omega), pa, e, bd3_s, ek, if_neg (show ¬ nI (K - 1) < (0 : Int32) from by show ¬ nI (K - 1) < nI 0; rw [nI_ltI (by omega) (by omega)]; omega), if_pos (by rw [nI_ltI (by omega) (by omega)]; omega), bd4_s, if_pos rfl, inb (by omega) (by omega), cl_nI (by omega), bd1_s, e2, num_fz (by omega) (by omega), lN_i]
  · obtain ⟨te', be', e, e2⟩ := ex te be cn
    refine ⟨te', be', nI K, ?_⟩
    unfold F_X6_beginningDenominator F_X6_expandToTerm F_X2_count F_X2_beginning
    rw [rq_e hp, bd1_s, if_pos rfl, inb hp (by omega), cl_nI (by omega), pa, e, bd3_s, ek, if_neg (show ¬ nI (K - 1) < (0 : Int32) from by show ¬ nI (K - 1) < nI 0; rw [nI_ltI (by omega) (by omega)]; omega), if_pos (by rw [nI_ltI (by omega) (by omega)]; omega), bd4_s, if_pos rfl, inb (by omega) (by omega), cl_nI (by omega), bd1_s, e2, den_fz (by omega) f1 (by omega), lN_i]
end
