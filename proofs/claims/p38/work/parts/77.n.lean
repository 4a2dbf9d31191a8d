/-! p38: holds -/
section
variable {pl : Nat → Int64} {N E : Nat → Nat}
theorem part_k (h : PX pl N E) {x : Nat} (hx : x < 6) {α : Type} {K : Option α} : bd1 (F_X6_commonParts pl) (fun (r200 : Int64) => if r200 ≤ (0 : Int64) then K else (bd1 (F_X6_commonParts pl) (fun (r203 : Int64) => if (nI (E x)).toInt64 = 0 then none else if (r203 - r203 / (nI (E x)).toInt64 * (nI (E x)).toInt64) = (0 : Int64) then K else none))) = K := by
  obtain ⟨pa, f1, f2, f3, f4⟩ := h x hx
  rcases parts_x h with e | ⟨v, v1, v2, v3, e⟩
  · rw [e, bd1_s, if_pos (by decide)]
  · have hz : v % E x = 0 := Nat.mod_eq_zero_of_dvd (v3 x hx)
    rw [e, bd1_s, if_neg (show ¬ lN v ≤ (0 : Int64) from by show ¬ lN v ≤ lN 0; rw [pk_lLE (by omega) (by omega)]; omega), bd1_s, nI_l (by omega), if_neg (show ¬ lN (E x) = (0 : Int64) from by show ¬ lN (E x) = lN 0; rw [pk_lEQ (by omega) (by omega)]; omega), pk_lRem (by omega) f1 (by omega), hz, if_pos (show lN 0 = (0 : Int64) from rfl)]
theorem hold_l (h : PX pl N E) {T : Nat → Nat} (hT : ∀ k, k < 6 → T k < 6 ∧ rk N E (T k) = k) (hP : ∀ k, k < 6 → F_X6_plateByAmount pl (nI k) = some (0, nI (T k))) (a1 a2 : Int32) : ∀ (m x f : Nat), x + m = 6 → m < f → L_L_holds_5 f a1 a2 (nI (sn T x)) (nI x) pl = some (nI (sn T 6)) := by
  have hE : ∀ p, p < 6 → 1 ≤ E p := fun p hp => (h p hp).2.1
  intro m
  induction m with
  | zero =>
    intro x f hx hf
    obtain ⟨f, rfl⟩ : ∃ k, f = k + 1 := ⟨f - 1, by omega⟩
    have e : x = 6 := by omega
    subst e
    rw [L_L_holds_5_s, if_pos (show (6 : Int32) ≤ nI 6 from by show nI 6 ≤ nI 6; rw [nI_leI (by omega) (by omega)]; omega)]
  | succ m ih =>
    intro x f hx hf
    obtain ⟨f, rfl⟩ : ∃ k, f = k + 1 := ⟨f - 1, by omega⟩
    have x6 : x < 6 := by omega
    obtain ⟨t1, t2⟩ := hT x x6
    obtain ⟨pa, f1, f2, f3, f4⟩ := h x x6
    have g1 : Nat.gcd (E x) (N x) = 1 := by rw [Nat.gcd_comm]; exact f4
    rw [L_L_holds_5_s, if_neg (show ¬ (6 : Int32) ≤ nI x from by show ¬ nI 6 ≤ nI x; rw [nI_leI (by omega) (by omega)]; omega), hP x x6, bd2_s, if_pos rfl, num_x h x6, bd2_s, if_pos rfl, den_x h x6, bd2_s, if_pos rfl, com_x (by omega) (by omega), bd1_s, g1, if_pos (show nI 1 = (1 : Int32) from rfl), if_neg (show ¬ nI (N x) < (0 : Int32) from by show ¬ nI (N x) < nI 0; rw [nI_ltI (by omega) (by omega)]; omega), if_neg (show ¬ (1000000 : Int32) < nI (N x) from by show ¬ nI 1000000 < nI (N x); rw [nI_ltI (by omega) (by omega)]; omega), if_neg (show ¬ (1000000 : Int32) < nI (E x) from by show ¬ nI 1000000 < nI (E x); rw [nI_ltI (by omega) (by omega)]; omega), cmp_x h x6 t1, bd2_s, if_pos rfl, cmp_x h t1 x6, bd2_s, if_pos rfl, if_pos (cmpz_n _ _ _ _), sh_e _ t1, i_or, show nI x + (1 : Int32) = nI (x + 1) from nI_1 x]
    by_cases c0 : x = 0
    · rw [if_pos (show nI x ≤ (0 : Int32) by rw [c0]; exact Int32.le_refl _), part_k h x6]
      exact ih (x + 1) f (by omega) (by omega)
    · have y6 : x - 1 < 6 := by omega
      obtain ⟨s1, s2⟩ := hT (x - 1) y6
      have ek : nI x - (1 : Int32) = nI (x - 1) := by
        obtain ⟨k, rfl⟩ : ∃ k, x = k + 1 := ⟨x - 1, by omega⟩
        exact nI_pred k
      have hb : bf N E (T (x - 1)) (T x) = true := by
        rcases bf_or (N := N) (E := E) (i := T (x - 1)) (j := T x) (fun z => by rw [z] at s2; omega) with z | z
        · exact z
        · have := rk_lt hE t1 s1 z
          omega
      have hc : ¬ cmpz (N (T (x - 1))) (E (T (x - 1))) (N (T x)) (E (T x)) < (0 : Int32) := by
        unfold bf at hb
        rw [decide_eq_true_eq] at hb
        unfold cmpz
        rw [if_neg (by omega)]
        split <;> decide
      rw [if_neg (show ¬ nI x ≤ (0 : Int32) from by show ¬ nI x ≤ nI 0; rw [nI_leI (by omega) (by omega)]; omega), ek, hP (x - 1) y6, bd2_s, if_pos rfl, cmp_x h s1 t1, bd2_s, if_pos rfl, if_neg hc, part_k h x6]
      exact ih (x + 1) f (by omega) (by omega)
theorem hold_s (h : PX pl N E) (a1 a2 : Int32) : L_L_holds_5 FU a1 a2 (0 : Int32) (0 : Int32) pl = some (63 : Int32) := by
  have hE : ∀ p, p < 6 → 1 ≤ E p := fun p hp => (h p hp).2.1
  obtain ⟨T, hT, hP⟩ := pba_x h
  have e := hold_l h hT hP a1 a2 6 0 FU (by omega) (by rw [FU_eq]; omega)
  rw [sn_6 (fun k hk => (hT k hk).1) (fun b hb => ⟨rk N E b, rk_6 hb, rk_inj hE (hT _ (rk_6 hb)).1 hb (hT _ (rk_6 hb)).2⟩)] at e
  exact e
theorem best_d {n d L a b : Nat} (h : Fr n d) (hL : d ≤ L) (hB : BEST n d L a b) : b = d := by
  obtain ⟨f1, f2, f3, f4⟩ := h
  refine (best_u (a' := n) (b' := d) hB ⟨f1, hL, fun a b hb hbL => ?_⟩).2
  have d0 : ds n d n d = 0 := by unfold ds; omega
  unfold nle
  rw [d0, Nat.zero_mul]
  by_cases z : ds n d a b = 0
  · right
    refine ⟨by rw [z, Nat.zero_mul], ?_⟩
    have e : n * b = a * d := by unfold ds at z; omega
    have cd : Nat.Coprime d n := by rw [Nat.Coprime, Nat.gcd_comm]; exact f4
    have dv : d ∣ b := cd.dvd_of_dvd_mul_left (show d ∣ n * b by rw [e]; exact Nat.dvd_mul_left d a)
    have dl := Nat.le_of_dvd hb dv
    by_cases z2 : d = b
    · subst z2
      right
      exact ⟨rfl, Nat.le_of_mul_le_mul_right (by omega) f1⟩
    · left; omega
  · left
    exact Nat.mul_pos (Nat.pos_of_ne_zero z) f1
theorem hold_x (h : PX pl N E) {p L : Nat} (hp : p < 6) (h1 : 1 ≤ L) (h2 : L ≤ 1000) (te : Nat → Int32) (be : Nat → Int64) (cn : Int32) : ∃ te' be' cn', F_L_holds pl te be cn (nI p) (nI L) = some (1, te', be', cn') := by
  obtain ⟨pa, f1, f2, f3, f4⟩ := h p hp
  obtain ⟨a, b, hB, ⟨b1, b2, b3, b4⟩, et, en⟩ := near_x h hp h1 h2
  have g1 : Nat.gcd b a = 1 := by rw [Nat.gcd_comm]; exact b4
  have nd : ∀ te be cn, ∃ te' be' cn', F_X6_nearestDenominator pl te be cn (nI p) (nI L) = some (0, nI b, te', be', cn') := fun te be cn => by
    obtain ⟨te', be', cn', e⟩ := en te be cn
    exact ⟨te', be', cn', by unfold F_X6_nearestDenominator; rw [e, bd5_s, if_pos rfl, den_fz (by omega) b1 (by omega), lN_i]⟩
  have nn : ∀ te be cn, ∃ te' be' cn', F_X6_nearestNumerator pl te be cn (nI p) (nI L) = some (0, nI a, te', be', cn') := fun te be cn => by
    obtain ⟨te', be', cn', e⟩ := en te be cn
    exact ⟨te', be', cn', by unfold F_X6_nearestNumerator; rw [e, bd5_s, if_pos rfl, num_fz (by omega) (by omega), lN_i]⟩
  obtain ⟨K, k1, k2, tc, bn, bd⟩ := tc_x h hp
  obtain ⟨te1, be1, cn1, e1⟩ := nd te be cn
  obtain ⟨te2, be2, cn2, e2⟩ := nn te1 be1 cn1
  obtain ⟨te3, be3, cn3, e3⟩ := tc te2 be2 cn2
  obtain ⟨te4, be4, cn4, e4⟩ := bn te3 be3 cn3
  obtain ⟨te5, be5, cn5, e5⟩ := bd te4 be4 cn4
  obtain ⟨c, c1, c2, ed⟩ := dif_x h
  refine ⟨te5, be5, cn5, ?_⟩
  have bL : b ≤ L := hB.2.1
  unfold F_L_holds
  rw [hold_s h, bd1_s, e1, bd5_s, if_pos rfl, if_pos rfl, et, bd2_s, if_pos rfl, if_pos rfl, if_neg (show ¬ nI L < nI b by rw [nI_ltI (by omega) (by omega)]; omega), den_x h hp, bd2_s, if_pos rfl]
  by_cases cE : E p ≤ L
  · have eb : b = E p := best_d ⟨f1, f2, f3, f4⟩ cE hB
    rw [if_neg (show ¬ nI L < nI (E p) by rw [nI_ltI (by omega) (by omega)]; omega), bd2_s, if_pos rfl, if_pos (by rw [eb]), e2, bd5_s, if_pos rfl, com_x (by omega) (by omega), bd1_s, g1, if_pos (show nI 1 = (1 : Int32) from rfl), e3, bd5_s, if_pos rfl, if_neg n10, e4, bd5_s, if_pos rfl, num_x h hp, bd2_s, if_pos rfl, if_pos rfl, e5, bd5_s, if_pos rfl, bd2_s, if_pos rfl, if_pos rfl, ed, bd1_s, if_neg (show ¬ nI c < (1 : Int32) from by show ¬ nI c < nI 1; rw [nI_ltI (by omega) (by omega)]; omega), bd1_s, if_neg (show ¬ (6 : Int32) < nI c from by show ¬ nI 6 < nI c; rw [nI_ltI (by omega) (by omega)]; omega), if_neg n10, bd2_s, if_pos rfl]
    by_cases z : N p = 0
    · rw [if_pos ((nz_e f3).mpr z)]
    · rw [if_neg (fun w => z ((nz_e f3).mp w)), br_x h hp z, bd2_s, if_pos rfl, bd2_s, if_pos rfl, bd2_s, if_pos rfl, if_pos rfl]
  · rw [if_pos (show nI L < nI (E p) by rw [nI_ltI (by omega) (by omega)]; omega), e2, bd5_s, if_pos rfl, com_x (by omega) (by omega), bd1_s, g1, if_pos (show nI 1 = (1 : Int32) from rfl), e3, bd5_s, if_pos rfl, if_neg n10, e4, bd5_s, if_pos rfl, num_x h hp, bd2_s, if_pos rfl, if_pos rfl, e5, bd5_s, if_pos rfl, bd2_s, if_pos rfl, if_pos rfl, ed, bd1_s, if_neg (show ¬ nI c < (1 : Int32) from by show ¬ nI c < nI 1; rw [nI_ltI (by omega) (by omega)]; omega), bd1_s, if_neg (show ¬ (6 : Int32) < nI c from by show ¬ nI 6 < nI c; rw [nI_ltI (by omega) (by omega)]; omega), if_neg n10, bd2_s, if_pos rfl]
    by_cases z : N p = 0
    · rw [if_pos ((nz_e f3).mpr z)]
    · rw [if_neg (fun w => z ((nz_e f3).mp w)), br_x h hp z, bd2_s, if_pos rfl, bd2_s, if_pos rfl, bd2_s, if_pos rfl, if_pos rfl]
/-- the second half of a turn -/
theorem turn_c (h : PX pl N E) (te : Nat → Int32) (be : Nat → Int64) (cn x3 x4 : Int32) : ∃ te' be' cn', G_C pl te be cn x3 x4 = some (te', be', cn') := by
  obtain ⟨p, hp, e1⟩ := low_x (x3 >>> ((4 : Int32) &&& 31)) (m := 6) (by omega) (by omega)
  obtain ⟨L, hL, e2⟩ := low_x (x4 >>> ((3 : Int32) &&& 31)) (m := 200) (by omega) (by omega)
  obtain ⟨te', be', cn', e3⟩ := hold_x h hp (L := L + 1) (by omega) (by omega) te be cn
  refine ⟨te', be', cn', ?_⟩
  unfold G_C
  rw [show F_L_low (x3 >>> ((4 : Int32) &&& 31)) (6 : Int32) = some (nI p) from e1, bd1_s, show F_L_low (x4 >>> ((3 : Int32) &&& 31)) (200 : Int32) = some (nI L) from e2, bd1_s, i1_e, e3, bd4_s, if_neg n10]
end
