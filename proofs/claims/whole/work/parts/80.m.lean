/-! the units -/
def sy : Nat → Nat
  | 0 => 2
  | k + 1 => sy k * (sy k - 1) + 1
theorem ce_e {a b : Nat} (ha : 1 ≤ a) (hb : 1 ≤ b) : b ≤ a * ((b + a - 1) / a) ∧ a * ((b + a - 1) / a) < b + a ∧ 1 ≤ (b + a - 1) / a := by
  have h1 := Nat.div_add_mod (b + a - 1) a
  have h2 := Nat.mod_lt (b + a - 1) (show a > 0 from ha)
  refine ⟨by omega, by omega, ?_⟩
  exact Nat.div_pos (by omega) ha
theorem ce_s {a b c : Nat} (ha : 1 ≤ a) (hb : 1 ≤ b) (hc : 1 ≤ c) : (c * b + c * a - 1) / (c * a) = (b + a - 1) / a := by
  obtain ⟨h1, h2, h3⟩ := ce_e ha hb
  generalize (b + a - 1) / a = u at *
  have m1 : c * (a * u) ≤ c * (b + a - 1) := Nat.mul_le_mul_left _ (by omega)
  have m2 : c * b ≤ c * (a * u) := Nat.mul_le_mul_left _ h1
  have m3 : c * (b + a - 1) + c = c * b + c * a := by
    rw [← Nat.mul_add, ← Nat.mul_succ]; congr 1; omega
  have m4 : 1 * 1 ≤ c * a := Nat.mul_le_mul hc ha
  apply Nat.div_eq_of_lt_le
  · rw [show u * (c * a) = c * (a * u) from by ac_rfl]; omega
  · rw [Nat.add_mul, show u * (c * a) = c * (a * u) from by ac_rfl]; omega
theorem uX {a b : Nat} (ha : 1 ≤ a) (h : b + a < 2 ^ 63) : ((lN b + lN a) - (1 : Int64)) / lN a = lN ((b + a - 1) / a) := by
  rw [lN_add, show (1 : Int64) = lN 1 from rfl, lN_sub (by omega), pk_lDiv (by omega) ha (by omega)]
/-- a fraction made less by its common divisor -/
theorem red1 {f t b : Nat} {x34 : Int64} (ht : 1 ≤ t) (ht2 : t < 2 ^ 63) (hb : 1 ≤ b) (hb2 : b < 2 ^ 63) (hf : 2 ≤ f) : L_X7_tellsUnits_111 f (lN t) (lN b) x34 (lN (Nat.gcd b t)) = some (lN (t / Nat.gcd b t), lN (b / Nat.gcd b t), x34) := by
  obtain ⟨f, rfl⟩ : ∃ k, f = k + 2 := ⟨f - 2, by omega⟩
  have g0 : 0 < Nat.gcd b t := Nat.gcd_pos_of_pos_right b ht
  have g1 : Nat.gcd b t ≤ t := Nat.gcd_le_right b ht
  rw [L_X7_tellsUnits_111_s, if_neg (show ¬ lN t ≤ (0 : Int64) from by show ¬ lN t ≤ lN 0; rw [pk_lLE (by omega) (by omega)]; omega)]
  by_cases c : Nat.gcd b t = 1
  · rw [c, if_pos (show lN 1 ≤ (1 : Int64) from by decide), Nat.div_one, Nat.div_one]
  · rw [if_neg (show ¬ lN (Nat.gcd b t) ≤ (1 : Int64) from by show ¬ lN (Nat.gcd b t) ≤ lN 1; rw [pk_lLE (by omega) (by omega)]; omega), if_neg (show ¬ lN (Nat.gcd b t) = (0 : Int64) from by show ¬ lN (Nat.gcd b t) = lN 0; rw [pk_lEQ (by omega) (by omega)]; omega), pk_lDiv (by omega) g0 (by omega), pk_lDiv (by omega) g0 (by omega)]
    have d1 : t / Nat.gcd b t ≤ t := Nat.div_le_self _ _
    have d2 : b / Nat.gcd b t ≤ b := Nat.div_le_self _ _
    have d3 : 0 < t / Nat.gcd b t := Nat.div_pos g1 g0
    have d4 : Nat.gcd (b / Nat.gcd b t) (t / Nat.gcd b t) = 1 := Nat.coprime_div_gcd_div_gcd g0
    rw [dv_e (by omega) (by omega), bd1_s, d4, L_X7_tellsUnits_111_s, if_neg (show ¬ lN (t / Nat.gcd b t) ≤ (0 : Int64) from by show ¬ lN (t / Nat.gcd b t) ≤ lN 0; rw [pk_lLE (by omega) (by omega)]; omega), if_pos (show lN 1 ≤ (1 : Int64) from by decide)]
theorem red2 {f t b : Nat} {v37 : Int64} (ht : 1 ≤ t) (ht2 : t < 2 ^ 63) (hb : 1 ≤ b) (hb2 : b < 2 ^ 63) (hf : 2 ≤ f) : L_X7_tellsUnits_155 f (lN t) v37 (lN b) (lN (Nat.gcd b t)) = some (lN (t / Nat.gcd b t), lN (b / Nat.gcd b t)) := by
  obtain ⟨f, rfl⟩ : ∃ k, f = k + 2 := ⟨f - 2, by omega⟩
  have g0 : 0 < Nat.gcd b t := Nat.gcd_pos_of_pos_right b ht
  have g1 : Nat.gcd b t ≤ t := Nat.gcd_le_right b ht
  rw [L_X7_tellsUnits_155_s, if_neg (show ¬ lN t ≤ (0 : Int64) from by show ¬ lN t ≤ lN 0; rw [pk_lLE (by omega) (by omega)]; omega)]
  by_cases c : Nat.gcd b t = 1
  · rw [c, if_pos (show lN 1 ≤ (1 : Int64) from by decide), Nat.div_one, Nat.div_one]
  · rw [if_neg (show ¬ lN (Nat.gcd b t) ≤ (1 : Int64) from by show ¬ lN (Nat.gcd b t) ≤ lN 1; rw [pk_lLE (by omega) (by omega)]; omega), if_neg (show ¬ lN (Nat.gcd b t) = (0 : Int64) from by show ¬ lN (Nat.gcd b t) = lN 0; rw [pk_lEQ (by omega) (by omega)]; omega), pk_lDiv (by omega) g0 (by omega), pk_lDiv (by omega) g0 (by omega)]
    have d1 : t / Nat.gcd b t ≤ t := Nat.div_le_self _ _
    have d2 : b / Nat.gcd b t ≤ b := Nat.div_le_self _ _
    have d3 : 0 < t / Nat.gcd b t := Nat.div_pos g1 g0
    have d4 : Nat.gcd (b / Nat.gcd b t) (t / Nat.gcd b t) = 1 := Nat.coprime_div_gcd_div_gcd g0
    rw [dv_e (by omega) (by omega), bd1_s, d4, L_X7_tellsUnits_155_s, if_neg (show ¬ lN (t / Nat.gcd b t) ≤ (0 : Int64) from by show ¬ lN (t / Nat.gcd b t) ≤ lN 0; rw [pk_lLE (by omega) (by omega)]; omega), if_pos (show lN 1 ≤ (1 : Int64) from by decide)]
theorem sy_2 : ∀ k, 2 ≤ sy k := by
  intro k
  induction k with
  | zero => exact Nat.le_refl 2
  | succ k ih =>
    show 2 ≤ sy k * (sy k - 1) + 1
    have : 2 * 1 ≤ sy k * (sy k - 1) := Nat.mul_le_mul ih (by omega)
    omega
def mg (b t u : Nat) : Nat := Nat.gcd b t * Nat.gcd u (t / Nat.gcd b t)
def ma (b t u : Nat) : Nat := t / Nat.gcd b t / Nat.gcd u (t / Nat.gcd b t)
def mb (b t u : Nat) : Nat := b / Nat.gcd b t * (u / Nat.gcd u (t / Nat.gcd b t))
/-- the model's step: what stands after a unit that is recorded -/
theorem mst_e {f a b k u t : Nat} {mun : Nat → Int32} (hk : k < 40) (ha : 1 ≤ a) (ha2 : a ≤ 1000000) (hb : 1 ≤ b) (hb2 : b ≤ 1600000000000000) (hu : u = (b + a - 1) / a) (hu2 : u ≤ 1000000000) (ht : t = a * u - b) (ht1 : 1 ≤ t) (hf : 10 ≤ f) :
    1 ≤ mg b t u ∧ mg b t u * ma b t u = t ∧ mg b t u * mb b t u = b * u ∧ 1 ≤ ma b t u ∧ 1 ≤ mb b t u ∧
      ((mb b t u ≤ 4000000000000000000 ∧ L_X7_tellsUnits_25 (f + 1) (lN a) (lN b) mun (nI k) 1 = L_X7_tellsUnits_25 f (lN (ma b t u)) (lN (mb b t u)) (upd mun k (nI u)) (nI (k + 1)) 1) ∨
       (4000000000000000000 < mb b t u ∧ L_X7_tellsUnits_25 (f + 1) (lN a) (lN b) mun (nI k) 1 = some (upd mun k (nI u), nI (k + 1), 0))) := by
  unfold mg ma mb
  obtain ⟨c1, c2, c3⟩ := ce_e ha hb
  rw [← hu] at c1 c2 c3
  have g10 : 0 < Nat.gcd b t := Nat.gcd_pos_of_pos_right b ht1
  have g1d : Nat.gcd b t ∣ t := Nat.gcd_dvd_right b t
  have g1b : Nat.gcd b t ∣ b := Nat.gcd_dvd_left b t
  have g1l : Nat.gcd b t ≤ t := Nat.gcd_le_right b ht1
  have t1 : 0 < t / Nat.gcd b t := Nat.div_pos g1l g10
  have t2 : t / Nat.gcd b t ≤ t := Nat.div_le_self _ _
  have b1 : 0 < b / Nat.gcd b t := Nat.div_pos (Nat.gcd_le_left t hb) g10
  have b2 : b / Nat.gcd b t ≤ b := Nat.div_le_self _ _
  have g20 : 0 < Nat.gcd u (t / Nat.gcd b t) := Nat.gcd_pos_of_pos_right u t1
  have g2d : Nat.gcd u (t / Nat.gcd b t) ∣ t / Nat.gcd b t := Nat.gcd_dvd_right _ _
  have g2u : Nat.gcd u (t / Nat.gcd b t) ∣ u := Nat.gcd_dvd_left _ _
  have g2l : Nat.gcd u (t / Nat.gcd b t) ≤ t / Nat.gcd b t := Nat.gcd_le_right _ t1
  have ht2 : t < a := by omega
  have A1 : 0 < t / Nat.gcd b t / Nat.gcd u (t / Nat.gcd b t) := Nat.div_pos g2l g20
  have A2 : t / Nat.gcd b t / Nat.gcd u (t / Nat.gcd b t) ≤ t / Nat.gcd b t := Nat.div_le_self _ _
  have U1 : 0 < u / Nat.gcd u (t / Nat.gcd b t) := Nat.div_pos (Nat.gcd_le_left _ c3) g20
  have U2 : u / Nat.gcd u (t / Nat.gcd b t) ≤ u := Nat.div_le_self _ _
  have q1 : 4000000000000000000 / (u / Nat.gcd u (t / Nat.gcd b t)) ≤ 4000000000000000000 := Nat.div_le_self _ _
  refine ⟨Nat.mul_pos g10 g20, ?_, ?_, A1, Nat.mul_pos b1 U1, ?_⟩
  · rw [Nat.mul_assoc, Nat.mul_div_cancel' g2d, Nat.mul_div_cancel' g1d]
  · rw [show Nat.gcd b t * Nat.gcd u (t / Nat.gcd b t) * (b / Nat.gcd b t * (u / Nat.gcd u (t / Nat.gcd b t))) = (Nat.gcd b t * (b / Nat.gcd b t)) * (Nat.gcd u (t / Nat.gcd b t) * (u / Nat.gcd u (t / Nat.gcd b t))) from by ac_rfl, Nat.mul_div_cancel' g1b, Nat.mul_div_cancel' g2u]
  · have e0 : L_X7_tellsUnits_25 (f + 1) (lN a) (lN b) mun (nI k) 1 = L_X7_tellsUnits_25 f (lN (t / Nat.gcd b t / Nat.gcd u (t / Nat.gcd b t))) (if (if 4000000000000000000 / (u / Nat.gcd u (t / Nat.gcd b t)) < b / Nat.gcd b t then (0 : Int32) else 1) = 0 then lN (b / Nat.gcd b t) else lN (b / Nat.gcd b t * (u / Nat.gcd u (t / Nat.gcd b t)))) (upd mun k (nI u)) (nI (k + 1)) (if 4000000000000000000 / (u / Nat.gcd u (t / Nat.gcd b t)) < b / Nat.gcd b t then (0 : Int32) else 1) := by
      rw [L_X7_tellsUnits_25_s, if_neg (show ¬ lN a ≤ (0 : Int64) from by show ¬ lN a ≤ lN 0; rw [pk_lLE (by omega) (by omega)]; omega), if_neg n10, if_neg (show ¬ lN a = (0 : Int64) from by show ¬ lN a = lN 0; rw [pk_lEQ (by omega) (by omega)]; omega), uX ha (by omega), ← hu, if_neg (show ¬ (1000000000 : Int64) < lN u from by show ¬ lN 1000000000 < lN u; rw [pk_lLT (by omega) (by omega)]; omega), if_neg n10, inb hk (by omega), cl_nI (by omega), lN_mul, lN_sub c1, ← ht, dv_e (by omega) (by omega), bd1_s, red1 ht1 (by omega) hb (by omega) (by rw [FU_eq]; omega), bd3_s, dv_e (by omega) (by omega), bd1_s, red2 t1 (by omega) c3 (by omega) (by rw [FU_eq]; omega), bd2_s, if_neg (show ¬ lN (t / Nat.gcd b t / Nat.gcd u (t / Nat.gcd b t)) = (0 : Int64) from by show ¬ lN (t / Nat.gcd b t / Nat.gcd u (t / Nat.gcd b t)) = lN 0; rw [pk_lEQ (by omega) (by omega)]; omega), if_neg (show ¬ lN (u / Nat.gcd u (t / Nat.gcd b t)) = (0 : Int64) from by show ¬ lN (u / Nat.gcd u (t / Nat.gcd b t)) = lN 0; rw [pk_lEQ (by omega) (by omega)]; omega), show (4000000000000000000 : Int64) = lN 4000000000000000000 from rfl, pk_lDiv (by omega) U1 (by omega), lN_i, lN_mul, if_neg (show ¬ lN (t / Nat.gcd b t / Nat.gcd u (t / Nat.gcd b t)) ≤ (0 : Int64) from by show ¬ lN (t / Nat.gcd b t / Nat.gcd u (t / Nat.gcd b t)) ≤ lN 0; rw [pk_lLE (by omega) (by omega)]; omega), show nI k + (1 : Int32) = nI (k + 1) from nI_1 k]
      by_cases c : 4000000000000000000 / (u / Nat.gcd u (t / Nat.gcd b t)) < b / Nat.gcd b t
      · rw [if_pos ((pk_lLT (by omega) (by omega)).mpr c), if_pos c, bd1_s, if_neg (by decide), bd5_s]
      · rw [if_neg (fun z => c ((pk_lLT (by omega) (by omega)).mp z)), if_neg c, bd1_s, if_neg (by decide), bd5_s]
    rw [e0]
    by_cases c : 4000000000000000000 / (u / Nat.gcd u (t / Nat.gcd b t)) < b / Nat.gcd b t
    · right
      have c' : 4000000000000000000 < b / Nat.gcd b t * (u / Nat.gcd u (t / Nat.gcd b t)) := by
        rw [Nat.div_lt_iff_lt_mul U1] at c; exact c
      refine ⟨c', ?_⟩
      rw [if_pos c, if_pos rfl]
      obtain ⟨f, rfl⟩ : ∃ k, f = k + 1 := ⟨f - 1, by omega⟩
      rw [L_X7_tellsUnits_25_s, if_neg (show ¬ lN (t / Nat.gcd b t / Nat.gcd u (t / Nat.gcd b t)) ≤ (0 : Int64) from by show ¬ lN (t / Nat.gcd b t / Nat.gcd u (t / Nat.gcd b t)) ≤ lN 0; rw [pk_lLE (by omega) (by omega)]; omega), if_pos rfl]
    · left
      have c' : ¬ 4000000000000000000 < b / Nat.gcd b t * (u / Nat.gcd u (t / Nat.gcd b t)) := by
        rw [Nat.div_lt_iff_lt_mul U1] at c; exact c
      refine ⟨by omega, ?_⟩
      rw [if_neg c, if_neg n10]
/-- a unit too great -/
theorem mtoo_e {f a b k : Nat} {mun : Nat → Int32} (ha : 1 ≤ a) (hab : b + a < 2 ^ 63) (hu : 1000000000 < (b + a - 1) / a) (hf : 2 ≤ f) : L_X7_tellsUnits_25 f (lN a) (lN b) mun (nI k) 1 = some (mun, nI k, 0) := by
  obtain ⟨f, rfl⟩ : ∃ k, f = k + 2 := ⟨f - 2, by omega⟩
  have h1 : (b + a - 1) / a ≤ b + a - 1 := Nat.div_le_self _ _
  rw [L_X7_tellsUnits_25_s, if_neg (show ¬ lN a ≤ (0 : Int64) from by show ¬ lN a ≤ lN 0; rw [pk_lLE (by omega) (by omega)]; omega), if_neg n10, if_neg (show ¬ lN a = (0 : Int64) from by show ¬ lN a = lN 0; rw [pk_lEQ (by omega) (by omega)]; omega), uX ha hab, if_pos (show (1000000000 : Int64) < lN ((b + a - 1) / a) from by show lN 1000000000 < lN ((b + a - 1) / a); rw [pk_lLT (by omega) (by omega)]; omega), if_pos rfl, bd5_s, L_X7_tellsUnits_25_s, if_neg (show ¬ lN a ≤ (0 : Int64) from by show ¬ lN a ≤ lN 0; rw [pk_lLE (by omega) (by omega)]; omega), if_pos rfl]
theorem mend_e {f k : Nat} {x6 : Int64} {mun : Nat → Int32} (hf : 1 ≤ f) : L_X7_tellsUnits_25 f (lN 0) x6 mun (nI k) 1 = some (mun, nI k, 1) := by
  obtain ⟨f, rfl⟩ : ∃ k, f = k + 1 := ⟨f - 1, by omega⟩
  rw [L_X7_tellsUnits_25_s, if_pos (show lN 0 ≤ (0 : Int64) from by decide)]
/-- the last unit -/
theorem mlast_e {f a b k u : Nat} {mun : Nat → Int32} (hk : k < 40) (ha : 1 ≤ a) (ha2 : a ≤ 1000000) (hb : 1 ≤ b) (hb2 : b ≤ 1600000000000000) (hu : u = (b + a - 1) / a) (hu2 : u ≤ 1000000000) (ht : a * u - b = 0) (hf : 10 ≤ f) : L_X7_tellsUnits_25 (f + 1) (lN a) (lN b) mun (nI k) 1 = some (upd mun k (nI u), nI (k + 1), 1) := by
  obtain ⟨c1, c2, c3⟩ := ce_e ha hb
  rw [← hu] at c1 c2 c3
  have z : ∀ (g x y : Int64), L_X7_tellsUnits_111 FU (lN 0) x y g = some (lN 0, x, y) := by
    intro g x y
    rw [FU_eq, show (4000 : Nat) = 3999 + 1 from rfl, L_X7_tellsUnits_111_s, if_pos (show lN 0 ≤ (0 : Int64) from by decide)]
  have z2 : ∀ (g x y : Int64), L_X7_tellsUnits_155 FU (lN 0) x y g = some (lN 0, y) := by
    intro g x y
    rw [FU_eq, show (4000 : Nat) = 3999 + 1 from rfl, L_X7_tellsUnits_155_s, if_pos (show lN 0 ≤ (0 : Int64) from by decide)]
  rw [L_X7_tellsUnits_25_s, if_neg (show ¬ lN a ≤ (0 : Int64) from by show ¬ lN a ≤ lN 0; rw [pk_lLE (by omega) (by omega)]; omega), if_neg n10, if_neg (show ¬ lN a = (0 : Int64) from by show ¬ lN a = lN 0; rw [pk_lEQ (by omega) (by omega)]; omega), uX ha (by omega), ← hu, if_neg (show ¬ (1000000000 : Int64) < lN u from by show ¬ lN 1000000000 < lN u; rw [pk_lLT (by omega) (by omega)]; omega), if_neg n10, inb hk (by omega), cl_nI (by omega), lN_mul, lN_sub c1, ht, dv_e (by omega) (by omega), bd1_s, z, bd3_s, dv_e (by omega) (by omega), bd1_s, z2, bd2_s, if_pos (show lN 0 = (0 : Int64) from rfl), bd1_s, if_neg (by decide), bd5_s, lN_i, show nI k + (1 : Int32) = nI (k + 1) from nI_1 k, mend_e (by omega)]
