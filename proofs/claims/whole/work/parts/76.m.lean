/-! the questions: numeratorOf, denominatorOf, compare, plateByAmount, commonParts, differentFractions -/
/-- a pair of a question: what the class and the model answer -/
def QP (X : Option (Nat × Int32)) (Mo : Option (Int32 × Int32)) (ks : List (Nat × Int32)) : Prop :=
  ∃ (k : Nat) (code r b : Int32), (k, code) ∈ ks ∧ X = some (k, r) ∧ Mo = some (b, code) ∧ (k = 0 → r = b)
section
variable {pl : Nat → Int64} {ms : Nat → Int32} {N E : Nat → Nat} {th : Int32}
theorem num_q (hPL : PL pl ms N E) (a1 : Int32) : QP (F_X6_numeratorOf pl a1) (F_X7_numeratorOf th ms a1) [(0, 0), (1, 1)] := by
  unfold F_X6_numeratorOf F_X7_numeratorOf
  rcases plate_cases a1 with ⟨p, hp, rfl, x1, y1⟩ | ⟨x1, y1⟩
  · obtain ⟨pa, pb, pc, f1, f2, f3, f4⟩ := hPL p hp
    rw [rp_ok x1, bd1_s, if_pos rfl, inb hp (by omega), cl_nI (by omega), pa, num_fz (by omega) (by omega), lN_i, y1, if_neg n10, ab_e hp, bd1_s, pb]
    exact ⟨0, 0, _, _, by simp, rfl, rfl, fun _ => rfl⟩
  · rw [rp_no x1, bd1_s, if_neg (by decide), y1, if_pos rfl]
    exact ⟨1, 1, 0, 0, by simp, rfl, rfl, fun h => absurd h (by decide)⟩
theorem den_q (hPL : PL pl ms N E) (a1 : Int32) : QP (F_X6_denominatorOf pl a1) (F_X7_denominatorOf th ms a1) [(0, 0), (1, 1)] := by
  unfold F_X6_denominatorOf F_X7_denominatorOf
  rcases plate_cases a1 with ⟨p, hp, rfl, x1, y1⟩ | ⟨x1, y1⟩
  · obtain ⟨pa, pb, pc, f1, f2, f3, f4⟩ := hPL p hp
    rw [rp_ok x1, bd1_s, if_pos rfl, inb hp (by omega), cl_nI (by omega), pa, den_fz (by omega) f1 (by omega), lN_i, y1, if_neg n10, be_e hp, bd1_s, pc]
    exact ⟨0, 0, _, _, by simp, rfl, rfl, fun _ => rfl⟩
  · rw [rp_no x1, bd1_s, if_neg (by decide), y1, if_pos rfl]
    exact ⟨1, 1, 0, 0, by simp, rfl, rfl, fun h => absurd h (by decide)⟩
theorem cmp_q (hPL : PL pl ms N E) (a1 a2 : Int32) : QP (F_X6_compare pl a1 a2) (F_X7_compare th ms a1 a2) [(0, 0), (1, 1)] := by
  unfold F_X6_compare F_X7_compare
  rcases plate_cases a1 with ⟨p, hp, rfl, x1, y1⟩ | ⟨x1, y1⟩
  · rcases plate_cases a2 with ⟨q, hq, rfl, x2, y2⟩ | ⟨x2, y2⟩
    · obtain ⟨pa, pb, pc, pd⟩ := hPL p hp
      obtain ⟨qa, qb, qc, qd⟩ := hPL q hq
      rw [rp_ok x1, bd1_s, if_pos rfl, rp_ok x2, bd1_s, if_pos rfl, inb hp (by omega), inb hq (by omega), cl_nI (by omega), cl_nI (by omega), pa, qa, ord_e pd qd, ap_ok y1 y2, if_neg n10, hold_e hPL hp hq, bd1_s]
      exact ⟨0, 0, _, _, by simp, rfl, rfl, fun _ => rfl⟩
    · rw [rp_ok x1, bd1_s, if_pos rfl, rp_no x2, bd1_s, if_neg (by decide), ap_no2 y1 y2, if_pos rfl]
      exact ⟨1, 1, 0, 0, by simp, rfl, rfl, fun h => absurd h (by decide)⟩
  · rw [rp_no x1, bd1_s, if_neg (by decide), ap_no1 y1, if_pos rfl]
    exact ⟨1, 1, 0, 0, by simp, rfl, rfl, fun h => absurd h (by decide)⟩
theorem ahead_e (hPL : PL pl ms N E) {a : Nat} (ha : a < 6) (q1 q2 : Int32) : ∀ (m x n n' : Nat) (acc : Int32), x + m = 6 → m < n → m < n' → ∃ r, L_X6_platesAhead_4 n (nI a) acc (nI x) pl = some r ∧ L_X7_ranked_16 n' q1 q2 (nI a) acc (nI x) ms = some r := by
  intro m
  induction m with
  | zero =>
    intro x n n' acc hx hn hn'
    obtain ⟨n, rfl⟩ : ∃ k, n = k + 1 := ⟨n - 1, by omega⟩
    obtain ⟨n', rfl⟩ : ∃ k, n' = k + 1 := ⟨n' - 1, by omega⟩
    have hx6 : x = 6 := by omega
    subst hx6
    exact ⟨acc, by rw [L_X6_platesAhead_4_s, if_pos (show (6 : Int32) ≤ nI 6 from by show nI 6 ≤ nI 6; rw [nI_leI (by omega) (by omega)]; omega)], by rw [L_X7_ranked_16_s, if_pos (show (6 : Int32) ≤ nI 6 from by show nI 6 ≤ nI 6; rw [nI_leI (by omega) (by omega)]; omega)]⟩
  | succ m ih =>
    intro x n n' acc hx hn hn'
    obtain ⟨n, rfl⟩ : ∃ k, n = k + 1 := ⟨n - 1, by omega⟩
    obtain ⟨n', rfl⟩ : ∃ k, n' = k + 1 := ⟨n' - 1, by omega⟩
    obtain ⟨pa, pb, pc, pd⟩ := hPL x (by omega)
    obtain ⟨qa, qb, qc, qd⟩ := hPL a ha
    rw [L_X6_platesAhead_4_s, L_X7_ranked_16_s, if_neg (show ¬ (6 : Int32) ≤ nI x from by show ¬ nI 6 ≤ nI x; rw [nI_leI (by omega) (by omega)]; omega), if_neg (show ¬ (6 : Int32) ≤ nI x from by show ¬ nI 6 ≤ nI x; rw [nI_leI (by omega) (by omega)]; omega), inb (by omega) (by omega), inb ha (by omega), cl_nI (by omega), cl_nI (by omega), pa, qa, ord_e pd qd, hold_e hPL (by omega) ha, bd1_s, show nI x + (1 : Int32) = nI (x + 1) from nI_1 x]
    generalize cmpz (N x) (E x) (N a) (E a) = c
    by_cases c1 : (0 : Int32) < c
    · rw [if_pos c1, if_pos c1, bd1_s]
      exact ih (x + 1) n n' _ (by omega) (by omega) (by omega)
    · rw [if_neg c1, if_neg c1, bd1_s]
      by_cases c2 : c = 0
      · rw [if_pos c2, if_pos c2]
        by_cases c3 : nI a ≤ nI x
        · rw [if_pos c3, if_pos c3, bd1_s, Int32.add_zero]
          exact ih (x + 1) n n' _ (by omega) (by omega) (by omega)
        · rw [if_neg c3, if_neg c3, bd1_s]
          exact ih (x + 1) n n' _ (by omega) (by omega) (by omega)
      · rw [if_neg c2, if_neg c2, bd1_s, Int32.add_zero]
        exact ih (x + 1) n n' _ (by omega) (by omega) (by omega)
theorem rank_e (hPL : PL pl ms N E) (a1 : Int32) : ∀ (m x n n' : Nat) (acc : Int32), x + m = 6 → m < n → m < n' → ∃ r, L_X6_plateByAmount_24 n a1 acc (nI x) pl = some r ∧ L_X7_ranked_4 n' a1 acc (nI x) ms = some r := by
  intro m
  induction m with
  | zero =>
    intro x n n' acc hx hn hn'
    obtain ⟨n, rfl⟩ : ∃ k, n = k + 1 := ⟨n - 1, by omega⟩
    obtain ⟨n', rfl⟩ : ∃ k, n' = k + 1 := ⟨n' - 1, by omega⟩
    have hx6 : x = 6 := by omega
    subst hx6
    exact ⟨acc, by rw [L_X6_plateByAmount_24_s, if_pos (show (6 : Int32) ≤ nI 6 from by show nI 6 ≤ nI 6; rw [nI_leI (by omega) (by omega)]; omega)], by rw [L_X7_ranked_4_s, if_pos (show (6 : Int32) ≤ nI 6 from by show nI 6 ≤ nI 6; rw [nI_leI (by omega) (by omega)]; omega)]⟩
  | succ m ih =>
    intro x n n' acc hx hn hn'
    obtain ⟨n, rfl⟩ : ∃ k, n = k + 1 := ⟨n - 1, by omega⟩
    obtain ⟨n', rfl⟩ : ∃ k, n' = k + 1 := ⟨n' - 1, by omega⟩
    obtain ⟨r, r1, r2⟩ := ahead_e hPL (show x < 6 by omega) a1 acc 6 0 FU FU 0 (by omega) (by rw [FU_eq]; omega) (by rw [FU_eq]; omega)
    have r3 : F_X6_platesAhead pl (nI x) = some r := by
      unfold F_X6_platesAhead
      rw [show L_X6_platesAhead_4 FU (nI x) (0 : Int32) (0 : Int32) pl = some r from r1, bd1_s]
    rw [L_X6_plateByAmount_24_s, L_X7_ranked_4_s, if_neg (show ¬ (6 : Int32) ≤ nI x from by show ¬ nI 6 ≤ nI x; rw [nI_leI (by omega) (by omega)]; omega), if_neg (show ¬ (6 : Int32) ≤ nI x from by show ¬ nI 6 ≤ nI x; rw [nI_leI (by omega) (by omega)]; omega), r3, bd1_s, show L_X7_ranked_16 FU a1 acc (nI x) (0 : Int32) (0 : Int32) ms = some r from r2, bd1_s, show nI x + (1 : Int32) = nI (x + 1) from nI_1 x]
    exact ih (x + 1) n n' _ (by omega) (by omega) (by omega)
theorem pba_q (hPL : PL pl ms N E) (a1 : Int32) : QP (F_X6_plateByAmount pl a1) (F_X7_plateByAmount th ms a1) [(0, 0), (1, 1)] := by
  unfold F_X6_plateByAmount F_X7_plateByAmount
  rcases plate_cases a1 with ⟨p, hp, rfl, x1, y1⟩ | ⟨x1, y1⟩
  · obtain ⟨r, r1, r2⟩ := rank_e hPL (nI p) 6 0 FU FU (-1) (by omega) (by rw [FU_eq]; omega) (by rw [FU_eq]; omega)
    have r3 : F_X7_ranked ms (nI p) = some r := by
      unfold F_X7_ranked
      rw [show L_X7_ranked_4 FU (nI p) (-1 : Int32) (0 : Int32) ms = some r from r2, bd1_s]
    rw [if_neg (show ¬ nI p < (0 : Int32) from by show ¬ nI p < nI 0; rw [nI_ltI (by omega) (by omega)]; omega), if_pos (show nI p < (6 : Int32) from by show nI p < nI 6; rw [nI_ltI (by omega) (by omega)]; omega), show L_X6_plateByAmount_24 FU (nI p) (-1 : Int32) (0 : Int32) pl = some r from r1, bd1_s, y1, if_neg n10, r3, bd1_s]
    exact ⟨0, 0, _, _, by simp, rfl, rfl, fun _ => rfl⟩
  · have hb : ¬ (¬ a1 < 0 ∧ a1 < 6) := by
      rintro ⟨h1, h2⟩
      obtain ⟨j, hj, rfl⟩ := nI_of h1
      have hj6 : j < 6 := by
        have h3 : nI j < nI 6 := h2
        rw [nI_ltI (by omega) (by omega)] at h3
        exact h3
      have h4 : ∀ i, i < 6 → ¬ F_X6_isPlate (nI i) = 0 := by decide
      exact h4 j hj6 x1
    have e : (if a1 < (0 : Int32) then (some (1, 0)) else (if a1 < (6 : Int32) then (bd1 (L_X6_plateByAmount_24 FU a1 (-1 : Int32) (0 : Int32) pl) (fun (v5 : Int32) => some (0, v5))) else (some (1, 0)))) = some ((1 : Nat), (0 : Int32)) := by
      by_cases c1 : a1 < 0
      · rw [if_pos c1]
      · rw [if_neg c1, if_neg (fun c2 => hb ⟨c1, c2⟩)]
    rw [e, y1, if_pos rfl]
    exact ⟨1, 1, 0, 0, by simp, rfl, rfl, fun h => absurd h (by decide)⟩
theorem lcm_e {a d g : Nat} (hg : 0 < g) (h1 : g ∣ a) (h2 : g ∣ d) : a / g * d = a * (d / g) := by
  obtain ⟨u, rfl⟩ := h1
  obtain ⟨v, rfl⟩ := h2
  rw [Nat.mul_div_cancel_left _ hg, Nat.mul_div_cancel_left _ hg]
  ac_rfl
theorem parts_e (hPL : PL pl ms N E) : ∀ (m x n n' a : Nat), x + m = 6 → m < n → m + 1 < n' → 1 ≤ a → a ≤ 1000000000000000 → ∃ v, (L_X6_commonParts_4 n (lN a) (nI x) pl = some (1, v) ∧ L_X7_commonParts_12 n' (lN a) 1 (nI x) ms = some (v, 1)) ∨ (L_X6_commonParts_4 n (lN a) (nI x) pl = some (0, v) ∧ L_X7_commonParts_12 n' (lN a) 1 (nI x) ms = some (v, 0)) := by
  intro m
  induction m with
  | zero =>
    intro x n n' a hx hn hn' ha1 ha2
    obtain ⟨n, rfl⟩ : ∃ k, n = k + 1 := ⟨n - 1, by omega⟩
    obtain ⟨n', rfl⟩ : ∃ k, n' = k + 1 := ⟨n' - 1, by omega⟩
    have hx6 : x = 6 := by omega
    subst hx6
    exact ⟨lN a, Or.inl ⟨by rw [L_X6_commonParts_4_s, if_pos (show (6 : Int32) ≤ nI 6 from by show nI 6 ≤ nI 6; rw [nI_leI (by omega) (by omega)]; omega)], by rw [L_X7_commonParts_12_s, if_pos (show (6 : Int32) ≤ nI 6 from by show nI 6 ≤ nI 6; rw [nI_leI (by omega) (by omega)]; omega)]⟩⟩
  | succ m ih =>
    intro x n n' a hx hn hn' ha1 ha2
    obtain ⟨n, rfl⟩ : ∃ k, n = k + 1 := ⟨n - 1, by omega⟩
    obtain ⟨n', rfl⟩ : ∃ k, n' = k + 1 := ⟨n' - 1, by omega⟩
    obtain ⟨pa, pb, pc, f1, f2, f3, f4⟩ := hPL x (by omega)
    have g0 : 0 < Nat.gcd a (E x) := gpos f1
    have gd : Nat.gcd a (E x) ∣ E x := Nat.gcd_dvd_right _ _
    have ga : Nat.gcd a (E x) ∣ a := Nat.gcd_dvd_left _ _
    have gl := gle (n := a) f1
    have d0 : 0 < E x / Nat.gcd a (E x) := Nat.div_pos gl g0
    have d1 : E x / Nat.gcd a (E x) ≤ E x := Nat.div_le_self _ _
    have a1 : a / Nat.gcd a (E x) ≤ a := Nat.div_le_self _ _
    have em : max 1 (Nat.gcd a (E x)) = Nat.gcd a (E x) := by omega
    have le : a / Nat.gcd a (E x) * E x = a * (E x / Nat.gcd a (E x)) := lcm_e g0 ga gd
    rw [L_X6_commonParts_4_s, L_X7_commonParts_12_s, if_neg (show ¬ (6 : Int32) ≤ nI x from by show ¬ nI 6 ≤ nI x; rw [nI_leI (by omega) (by omega)]; omega), if_neg (show ¬ (6 : Int32) ≤ nI x from by show ¬ nI 6 ≤ nI x; rw [nI_leI (by omega) (by omega)]; omega), inb (by omega) (by omega), cl_nI (by omega), pa, den_fz (by omega) f1 (by omega), cd_e (by omega) (by omega), bd1_s, em, if_neg (show ¬ (1 : Int32) = 0 from n10), be_e (by omega), bd1_s, bd1_s, pc, nI_l (by omega), dv_e (by omega) (by omega), bd1_s, Nat.gcd_comm (E x) a,
      if_neg (show ¬ lN (Nat.gcd a (E x)) = (0 : Int64) from by show ¬ lN (Nat.gcd a (E x)) = lN 0; rw [pk_lEQ (by omega) (by omega)]; omega), if_neg (show ¬ lN (E x) = (0 : Int64) from by show ¬ lN (E x) = lN 0; rw [pk_lEQ (by omega) (by omega)]; omega), if_neg (show ¬ lN (Nat.gcd a (E x)) = (0 : Int64) from by show ¬ lN (Nat.gcd a (E x)) = lN 0; rw [pk_lEQ (by omega) (by omega)]; omega), pk_lDiv (by omega) g0 (by omega), pk_lDiv (by omega) g0 (by omega), if_neg (show ¬ lN (E x / Nat.gcd a (E x)) = (0 : Int64) from by show ¬ lN (E x / Nat.gcd a (E x)) = lN 0; rw [pk_lEQ (by omega) (by omega)]; omega), show (1000000000000000 : Int64) = lN 1000000000000000 from rfl, pk_lDiv (by omega) f1 (by omega), pk_lDiv (by omega) d0 (by omega), lN_mul, lN_mul, le, show nI x + (1 : Int32) = nI (x + 1) from nI_1 x]
    have q1 : 1000000000000000 / E x ≤ 1000000000000000 := Nat.div_le_self _ _
    have q2 : 1000000000000000 / (E x / Nat.gcd a (E x)) ≤ 1000000000000000 := Nat.div_le_self _ _
    by_cases c : a * (E x / Nat.gcd a (E x)) ≤ 1000000000000000
    · have c1 : a / Nat.gcd a (E x) ≤ 1000000000000000 / E x := by rw [Nat.le_div_iff_mul_le f1, le]; exact c
      have c2 : a ≤ 1000000000000000 / (E x / Nat.gcd a (E x)) := by rw [Nat.le_div_iff_mul_le d0]; exact c
      rw [if_pos ((pk_lLE (by omega) (by omega)).mpr c1), if_neg (show ¬ lN (1000000000000000 / (E x / Nat.gcd a (E x))) < lN a by rw [pk_lLT (by omega) (by omega)]; omega), if_neg n10]
      exact ih (x + 1) n n' _ (by omega) (by omega) (by omega) (Nat.mul_pos ha1 d0) c
    · have c1 : ¬ a / Nat.gcd a (E x) ≤ 1000000000000000 / E x := by rw [Nat.le_div_iff_mul_le f1, le]; exact c
      have c2 : ¬ a ≤ 1000000000000000 / (E x / Nat.gcd a (E x)) := by rw [Nat.le_div_iff_mul_le d0]; exact c
      rw [if_neg (fun z => c1 ((pk_lLE (by omega) (by omega)).mp z)), if_pos (show lN (1000000000000000 / (E x / Nat.gcd a (E x))) < lN a by rw [pk_lLT (by omega) (by omega)]; omega), if_pos rfl]
      refine ⟨_, Or.inr ⟨rfl, ?_⟩⟩
      obtain ⟨n', rfl⟩ : ∃ k, n' = k + 1 := ⟨n' - 1, by omega⟩
      rw [L_X7_commonParts_12_s]
      by_cases z : (6 : Int32) ≤ nI (x + 1)
      · rw [if_pos z]
      · rw [if_neg z, if_pos rfl]
theorem part_q (hPL : PL pl ms N E) : ∃ r, F_X6_commonParts pl = some r ∧ F_X7_commonParts th ms = some (r, 0) := by
  unfold F_X6_commonParts F_X7_commonParts
  obtain ⟨v, ⟨r1, r2⟩ | ⟨r1, r2⟩⟩ := parts_e hPL 6 0 FU FU 1 (by omega) (by rw [FU_eq]; omega) (by rw [FU_eq]; omega) (by omega) (by omega)
  · rw [show L_X6_commonParts_4 FU (1 : Int64) (0 : Int32) pl = some (1, v) from r1, show L_X7_commonParts_12 FU (1 : Int64) (1 : Int32) (0 : Int32) ms = some (v, 1) from r2, bd2_s, bd2_s, if_neg (by decide), if_neg n10]
    exact ⟨v, rfl, rfl⟩
  · rw [show L_X6_commonParts_4 FU (1 : Int64) (0 : Int32) pl = some (0, v) from r1, show L_X7_commonParts_12 FU (1 : Int64) (1 : Int32) (0 : Int32) ms = some (v, 0) from r2, bd2_s, bd2_s, if_pos rfl, if_pos rfl]
    exact ⟨-1, rfl, rfl⟩
theorem df0 (x1 : Int32) {p : Nat} (hp : p < 6) : ∀ (m x n : Nat), x + m = p → m < n → L_X7_differentFractions_20 n x1 (nI p) 0 (nI x) ms = some 0 := by
  intro m
  induction m with
  | zero =>
    intro x n hx hn
    obtain ⟨n, rfl⟩ : ∃ k, n = k + 1 := ⟨n - 1, by omega⟩
    have hxp : x = p := by omega
    subst hxp
    rw [L_X7_differentFractions_20_s, if_pos (Int32.le_refl _)]
  | succ m ih =>
    intro x n hx hn
    obtain ⟨n, rfl⟩ : ∃ k, n = k + 1 := ⟨n - 1, by omega⟩
    rw [L_X7_differentFractions_20_s, if_neg (show ¬ nI p ≤ nI x by rw [nI_leI (by omega) (by omega)]; omega), if_pos rfl, bd1_s, show nI x + (1 : Int32) = nI (x + 1) from nI_1 x]
    exact ih (x + 1) n (by omega) (by omega)
theorem df_e (hPL : PL pl ms N E) (x1 : Int32) {p : Nat} (hp : p < 6) : ∀ (m x n n' : Nat), x + m = p → m < n → m < n' → (L_X6_isOnLowerPlate_2 n (nI p) (nI x) pl = some 1 ∧ L_X7_differentFractions_20 n' x1 (nI p) 1 (nI x) ms = some 1) ∨ (L_X6_isOnLowerPlate_2 n (nI p) (nI x) pl = some 0 ∧ L_X7_differentFractions_20 n' x1 (nI p) 1 (nI x) ms = some 0) := by
  intro m
  induction m with
  | zero =>
    intro x n n' hx hn hn'
    obtain ⟨n, rfl⟩ : ∃ k, n = k + 1 := ⟨n - 1, by omega⟩
    obtain ⟨n', rfl⟩ : ∃ k, n' = k + 1 := ⟨n' - 1, by omega⟩
    have hxp : x = p := by omega
    subst hxp
    left
    rw [L_X7_differentFractions_20_s, if_pos (Int32.le_refl _), L_X6_isOnLowerPlate_2_s, if_pos (Int32.le_refl _)]
    exact ⟨rfl, rfl⟩
  | succ m ih =>
    intro x n n' hx hn hn'
    obtain ⟨n, rfl⟩ : ∃ k, n = k + 1 := ⟨n - 1, by omega⟩
    obtain ⟨n', rfl⟩ : ∃ k, n' = k + 1 := ⟨n' - 1, by omega⟩
    obtain ⟨pa, pb, pc, pd⟩ := hPL x (by omega)
    obtain ⟨qa, qb, qc, qd⟩ := hPL p hp
    rw [L_X6_isOnLowerPlate_2_s, L_X7_differentFractions_20_s, if_neg (show ¬ nI p ≤ nI x by rw [nI_leI (by omega) (by omega)]; omega), if_neg (show ¬ nI p ≤ nI x by rw [nI_leI (by omega) (by omega)]; omega), inb (by omega) (by omega), inb hp (by omega), cl_nI (by omega), cl_nI (by omega), pa, qa, if_neg n10, hold_e hPL hp (by omega), bd1_s, show nI x + (1 : Int32) = nI (x + 1) from nI_1 x]
    have r1 := pd.2.1
    have r2 := pd.2.2.1
    have r3 := qd.2.1
    have r4 := qd.2.2.1
    by_cases c : N p * E x = N x * E p
    · obtain ⟨e1, e2⟩ := fr_eq qd pd c
      rw [if_pos (show fz (N x) (E x) = fz (N p) (E p) by rw [e1, e2]), if_pos (cmpz0.mpr c), bd1_s]
      exact Or.inr ⟨rfl, df0 x1 hp m (x + 1) n' (by omega) (by omega)⟩
    · rw [if_neg (show ¬ fz (N x) (E x) = fz (N p) (E p) from fun z => c (by obtain ⟨e1, e2⟩ := fz_inj (by omega) (by omega) (by omega) (by omega) z; rw [e1, e2])), if_neg (fun z => c (cmpz0.mp z)), bd1_s]
      exact ih (x + 1) n n' (by omega) (by omega) (by omega)
theorem dfs_e (hPL : PL pl ms N E) : ∀ (m x n n' : Nat) (acc : Int32), x + m = 6 → m < n → m < n' → ∃ r, L_X6_differentFractions_4 n acc (nI x) pl = some r ∧ L_X7_differentFractions_9 n' acc (nI x) ms = some r := by
  intro m
  induction m with
  | zero =>
    intro x n n' acc hx hn hn'
    obtain ⟨n, rfl⟩ : ∃ k, n = k + 1 := ⟨n - 1, by omega⟩
    obtain ⟨n', rfl⟩ : ∃ k, n' = k + 1 := ⟨n' - 1, by omega⟩
    have hx6 : x = 6 := by omega
    subst hx6
    exact ⟨acc, by rw [L_X6_differentFractions_4_s, if_pos (show (6 : Int32) ≤ nI 6 from by show nI 6 ≤ nI 6; rw [nI_leI (by omega) (by omega)]; omega)], by rw [L_X7_differentFractions_9_s, if_pos (show (6 : Int32) ≤ nI 6 from by show nI 6 ≤ nI 6; rw [nI_leI (by omega) (by omega)]; omega)]⟩
  | succ m ih =>
    intro x n n' acc hx hn hn'
    obtain ⟨n, rfl⟩ : ∃ k, n = k + 1 := ⟨n - 1, by omega⟩
    obtain ⟨n', rfl⟩ : ∃ k, n' = k + 1 := ⟨n' - 1, by omega⟩
    rw [L_X6_differentFractions_4_s, L_X7_differentFractions_9_s, if_neg (show ¬ (6 : Int32) ≤ nI x from by show ¬ nI 6 ≤ nI x; rw [nI_leI (by omega) (by omega)]; omega), if_neg (show ¬ (6 : Int32) ≤ nI x from by show ¬ nI 6 ≤ nI x; rw [nI_leI (by omega) (by omega)]; omega), show nI x + (1 : Int32) = nI (x + 1) from nI_1 x]
    unfold F_X6_isOnLowerPlate
    rcases df_e hPL acc (show x < 6 by omega) x 0 FU FU (by omega) (by rw [FU_eq]; omega) (by rw [FU_eq]; omega) with ⟨r1, r2⟩ | ⟨r1, r2⟩
    · rw [show L_X6_isOnLowerPlate_2 FU (nI x) (0 : Int32) pl = some 1 from r1, show L_X7_differentFractions_20 FU acc (nI x) (1 : Int32) (0 : Int32) ms = some 1 from r2, bd1_s, if_neg (by decide), bd1_s, if_pos rfl, bd1_s, if_neg n10]
      exact ih (x + 1) n n' _ (by omega) (by omega) (by omega)
    · rw [show L_X6_isOnLowerPlate_2 FU (nI x) (0 : Int32) pl = some 0 from r1, show L_X7_differentFractions_20 FU acc (nI x) (1 : Int32) (0 : Int32) ms = some 0 from r2, bd1_s, if_pos rfl, bd1_s, if_neg n10, bd1_s, if_pos rfl, Int32.add_zero]
      exact ih (x + 1) n n' _ (by omega) (by omega) (by omega)
theorem df_q (hPL : PL pl ms N E) : ∃ r, F_X6_differentFractions pl = some r ∧ F_X7_differentFractions th ms = some (r, 0) := by
  unfold F_X6_differentFractions F_X7_differentFractions
  obtain ⟨v, r1, r2⟩ := dfs_e hPL 6 0 FU FU 0 (by omega) (by rw [FU_eq]; omega) (by rw [FU_eq]; omega)
  rw [show L_X6_differentFractions_4 FU (0 : Int32) (0 : Int32) pl = some v from r1, show L_X7_differentFractions_9 FU (0 : Int32) (0 : Int32) ms = some v from r2, bd1_s, bd1_s]
  exact ⟨v, rfl, rfl⟩
end
section
variable {pl hs sl ou : Nat → Int64} {ho hc smn th le mle : Int32} {ch fi ms mst msl mhs mtx : Nat → Int32} {N E : Nat → Nat}
theorem mG_8 (h : REL pl ch le hs ho hc sl fi ms mst smn msl mhs mtx mle) (a1 a2 a3 : Int32) : ∃ th' ou', G_8 pl th ms ou a1 a2 a3 = some (th', ou') := by
  obtain ⟨⟨N, E, hPL⟩, -⟩ := h
  obtain ⟨k, code, r, b, hk, eX, eM, hrb⟩ := num_q (th := th) hPL a1
  simp only [List.mem_cons, List.not_mem_nil, or_false, Prod.mk.injEq] at hk
  unfold G_8 F_L_numeratorOf
  rcases hk with ⟨rfl, rfl⟩ | ⟨rfl, rfl⟩
  · have hrb := hrb rfl
    subst hrb
    exact ⟨_, _, by rw [eX, bd2_s, if_pos rfl, bd2_s, eM, bd2_s, if_pos (show F_X7_thrown 0 = 0 from rfl), if_pos rfl, if_pos ou_e]⟩
  · exact ⟨_, _, by rw [eX, bd2_s, if_neg (by decide), if_pos rfl, bd2_s, eM, bd2_s, if_pos (show F_X7_thrown 1 = 1 from rfl), if_neg n10]⟩
theorem mG_9 (h : REL pl ch le hs ho hc sl fi ms mst smn msl mhs mtx mle) (a1 a2 a3 : Int32) : ∃ th' ou', G_9 pl th ms ou a1 a2 a3 = some (th', ou') := by
  obtain ⟨⟨N, E, hPL⟩, -⟩ := h
  obtain ⟨k, code, r, b, hk, eX, eM, hrb⟩ := den_q (th := th) hPL a1
  simp only [List.mem_cons, List.not_mem_nil, or_false, Prod.mk.injEq] at hk
  unfold G_9 F_L_denominatorOf
  rcases hk with ⟨rfl, rfl⟩ | ⟨rfl, rfl⟩
  · have hrb := hrb rfl
    subst hrb
    exact ⟨_, _, by rw [eX, bd2_s, if_pos rfl, bd2_s, eM, bd2_s, if_pos (show F_X7_thrown 0 = 0 from rfl), if_pos rfl, if_pos ou_e]⟩
  · exact ⟨_, _, by rw [eX, bd2_s, if_neg (by decide), if_pos rfl, bd2_s, eM, bd2_s, if_pos (show F_X7_thrown 1 = 1 from rfl), if_neg n10]⟩
theorem mG_10 (h : REL pl ch le hs ho hc sl fi ms mst smn msl mhs mtx mle) (a1 a2 a3 : Int32) : ∃ th' ou', G_10 pl th ms ou a1 a2 a3 = some (th', ou') := by
  obtain ⟨⟨N, E, hPL⟩, -⟩ := h
  obtain ⟨k, code, r, b, hk, eX, eM, hrb⟩ := cmp_q (th := th) hPL a1 a2
  simp only [List.mem_cons, List.not_mem_nil, or_false, Prod.mk.injEq] at hk
  unfold G_10 F_L_compare
  rcases hk with ⟨rfl, rfl⟩ | ⟨rfl, rfl⟩
  · have hrb := hrb rfl
    subst hrb
    exact ⟨_, _, by rw [eX, bd2_s, if_pos rfl, bd2_s, eM, bd2_s, if_pos (show F_X7_thrown 0 = 0 from rfl), if_pos rfl, if_pos ou_e]⟩
  · exact ⟨_, _, by rw [eX, bd2_s, if_neg (by decide), if_pos rfl, bd2_s, eM, bd2_s, if_pos (show F_X7_thrown 1 = 1 from rfl), if_neg n10]⟩
theorem mG_11 (h : REL pl ch le hs ho hc sl fi ms mst smn msl mhs mtx mle) (a1 a2 a3 : Int32) : ∃ th' ou', G_11 pl th ms ou a1 a2 a3 = some (th', ou') := by
  obtain ⟨⟨N, E, hPL⟩, -⟩ := h
  obtain ⟨k, code, r, b, hk, eX, eM, hrb⟩ := pba_q (th := th) hPL a1
  simp only [List.mem_cons, List.not_mem_nil, or_false, Prod.mk.injEq] at hk
  unfold G_11 F_L_plateByAmount
  rcases hk with ⟨rfl, rfl⟩ | ⟨rfl, rfl⟩
  · have hrb := hrb rfl
    subst hrb
    exact ⟨_, _, by rw [eX, bd2_s, if_pos rfl, bd2_s, eM, bd2_s, if_pos (show F_X7_thrown 0 = 0 from rfl), if_pos rfl, if_pos ou_e]⟩
  · exact ⟨_, _, by rw [eX, bd2_s, if_neg (by decide), if_pos rfl, bd2_s, eM, bd2_s, if_pos (show F_X7_thrown 1 = 1 from rfl), if_neg n10]⟩
theorem mG_12 (h : REL pl ch le hs ho hc sl fi ms mst smn msl mhs mtx mle) (a1 a2 a3 : Int32) : ∃ th', G_12 pl th ms a1 a2 a3 = some th' := by
  obtain ⟨⟨N, E, hPL⟩, -⟩ := h
  obtain ⟨r, e1, e2⟩ := part_q (th := th) hPL
  unfold G_12
  exact ⟨_, by rw [e1, bd1_s, e2, bd2_s, if_pos rfl]⟩
theorem mG_13 (h : REL pl ch le hs ho hc sl fi ms mst smn msl mhs mtx mle) (a1 a2 a3 : Int32) : ∃ th', G_13 pl th ms a1 a2 a3 = some th' := by
  obtain ⟨⟨N, E, hPL⟩, -⟩ := h
  obtain ⟨r, e1, e2⟩ := df_q (th := th) hPL
  unfold G_13
  exact ⟨_, by rw [e1, bd1_s, e2, bd2_s, if_pos rfl]⟩
end
