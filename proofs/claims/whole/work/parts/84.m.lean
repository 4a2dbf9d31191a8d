/-! the nearest fraction: the class by continued fractions, the class by trying, the model by trying -/
section
variable {n d : Nat}
theorem bst_t {x : Nat × Nat} {a b : Nat} (h : ds n d x.1 x.2 * b = ds n d a b * x.2 → (x.2 < b ∨ (x.2 = b ∧ x.1 ≤ a))) : nle n d (bst n d x a b).1 (bst n d x a b).2 x.1 x.2 ∧ nle n d (bst n d x a b).1 (bst n d x a b).2 a b := by
  unfold bst
  by_cases c : ds n d x.1 x.2 * b ≤ ds n d a b * x.2
  · rw [if_pos c]
    refine ⟨nle_r, ?_⟩
    unfold nle
    omega
  · rw [if_neg c]
    refine ⟨?_, nle_r⟩
    left
    show ds n d a b * x.2 < ds n d x.1 x.2 * b
    omega
theorem cfb {K L v m : Nat} (hd : 1 ≤ d) (k4 : ∀ j, j < K → 0 < rr n d (j + 1)) (hv : v + 1 < K) (hL : aq n d (v + 2) ≤ L) (hL2 : L < aq n d (v + 3)) (hm : m = (L - aq n d (v + 1)) / aq n d (v + 2)) : m ≤ L ∧ 1 ≤ m * aq n d (v + 2) + aq n d (v + 1) ∧ m * aq n d (v + 2) + aq n d (v + 1) ≤ L ∧ BEST n d L (bst n d (ap n d (v + 2), aq n d (v + 2)) (m * ap n d (v + 2) + ap n d (v + 1)) (m * aq n d (v + 2) + aq n d (v + 1))).1 (bst n d (ap n d (v + 2), aq n d (v + 2)) (m * ap n d (v + 2) + ap n d (v + 1)) (m * aq n d (v + 2) + aq n d (v + 1))).2 := by
  have q1 : 1 ≤ aq n d (v + 2) := aq_1 k4 v (by omega)
  have q01 : aq n d (v + 1) ≤ aq n d (v + 2) ∧ (1 ≤ v → 1 ≤ aq n d (v + 1)) := by
    by_cases c : v = 0
    · subst c
      exact ⟨by show 0 ≤ _; exact Nat.zero_le _, fun h => by omega⟩
    · obtain ⟨u, rfl⟩ : ∃ u, v = u + 1 := ⟨v - 1, by omega⟩
      exact ⟨aq_m k4 (by omega), fun _ => aq_1 k4 u (by omega)⟩
  have e3 : aq n d (v + 3) = tt n d (v + 1) * aq n d (v + 2) + aq n d (v + 1) := rfl
  have er2 := er_e (n := n) (d := d) (v + 2)
  have er1 := er_e (n := n) (d := d) (v + 1)
  have de1 := de_e (n := n) (d := d) (v + 1)
  have D00 : rr n d (v + 1) = tt n d (v + 1) * rr n d (v + 2) + rr n d (v + 3) := rr_t (v + 1)
  have D1p : 0 < rr n d (v + 2) := k4 (v + 1) hv
  have D01 : rr n d (v + 2) < rr n d (v + 1) := rr_lt (k4 v (by omega))
  have de1' : ((v + 1) % 2 = 0 → ap n d (v + 2) * aq n d (v + 1) = ap n d (v + 1) * aq n d (v + 2) + 1) ∧ ((v + 1) % 2 = 1 → ap n d (v + 1) * aq n d (v + 2) = ap n d (v + 2) * aq n d (v + 1) + 1) := de1
  clear de1
  generalize ap n d (v + 2) = p at *
  generalize ap n d (v + 1) = p0 at *
  generalize hq2 : aq n d (v + 2) = q at *
  generalize hq1 : aq n d (v + 1) = q0 at *
  generalize rr n d (v + 2) = D1 at *
  generalize rr n d (v + 1) = D0 at *
  -- m
  have m1 := Nat.div_add_mod (L - q0) q
  have m2 := Nat.mod_lt (L - q0) (show q > 0 from q1)
  rw [← hm, Nat.mul_comm] at m1
  have mt : m + 1 ≤ tt n d (v + 1) := by
    have : m * q < tt n d (v + 1) * q := by omega
    exact Nat.lt_of_mul_lt_mul_right this
  have mq : m * 1 ≤ m * q := Nat.mul_le_mul_left _ q1
  have D2a : m * D1 + D1 ≤ tt n d (v + 1) * D1 := by
    have := Nat.mul_le_mul_right D1 mt
    rw [Nat.succ_mul] at this
    exact this
  obtain ⟨D2, hD2⟩ : ∃ D2, D2 + m * D1 = D0 := ⟨D0 - m * D1, by omega⟩
  have D21 : D1 ≤ D2 := by omega
  have qrL : m * q + q0 ≤ L := by omega
  have qrL2 : L < q + (m * q + q0) := by omega
  have qr1 : 1 ≤ m * q + q0 := by
    by_cases c : v = 0
    · subst c
      have z0 : q0 = 0 := hq1.symm
      subst z0
      have zq : q = 1 := hq2.symm
      subst zq
      omega
    · have := q01.2 (by omega)
      omega
  have f1 : d * (m * p + p0) = m * (d * p) + d * p0 := by rw [Nat.mul_add]; congr 1; ac_rfl
  have f2 : n * (m * q + q0) = m * (n * q) + n * q0 := by rw [Nat.mul_add]; congr 1; ac_rfl
  have f3 : (m * p + p0) * q = m * (p * q) + p0 * q := by rw [Nat.add_mul]; congr 1; ac_rfl
  have f4 : p * (m * q + q0) = m * (p * q) + p * q0 := by rw [Nat.mul_add]; congr 1; ac_rfl
  -- the sign
  obtain ⟨s, hs, i1, i2, i3⟩ : ∃ s : Int, (s = 1 ∨ s = -1) ∧ (n : Int) * q - d * p = s * D1 ∧ (d : Int) * ((m * p + p0 : Nat) : Int) - n * ((m * q + q0 : Nat) : Int) = s * D2 ∧ ((m * p + p0 : Nat) : Int) * q - p * ((m * q + q0 : Nat) : Int) = s := by
    rcases Nat.mod_two_eq_zero_or_one v with c | c
    · have a1 := er2.1 (by omega)
      have a2 := er1.2 (by omega)
      have a3 := de1'.2 (by omega)
      refine ⟨1, Or.inl rfl, ?_, ?_, ?_⟩
      · rw [Int.one_mul]
        have : ((n * q : Nat) : Int) = ((d * p + D1 : Nat) : Int) := by rw [a1]
        push_cast at this
        omega
      · have b1 : d * (m * p + p0) = n * (m * q + q0) + D2 := by
          rw [f1, f2, a1, Nat.mul_add]; omega
        generalize m * p + p0 = X at b1 ⊢
        generalize m * q + q0 = Y at b1 ⊢
        have e1 := Int.natCast_mul d X
        have e2 := Int.natCast_mul n Y
        have e3 := Int.natCast_mul X q
        have e4 := Int.natCast_mul p Y
        omega
      · have b1 : (m * p + p0) * q = p * (m * q + q0) + 1 := by omega
        generalize m * p + p0 = X at b1 ⊢
        generalize m * q + q0 = Y at b1 ⊢
        have e1 := Int.natCast_mul d X
        have e2 := Int.natCast_mul n Y
        have e3 := Int.natCast_mul X q
        have e4 := Int.natCast_mul p Y
        omega
    · have a1 := er2.2 (by omega)
      have a2 := er1.1 (by omega)
      have a3 := de1'.1 (by omega)
      refine ⟨-1, Or.inr rfl, ?_, ?_, ?_⟩
      · have : ((d * p : Nat) : Int) = ((n * q + D1 : Nat) : Int) := by rw [a1]
        push_cast at this
        omega
      · have b1 : n * (m * q + q0) = d * (m * p + p0) + D2 := by
          rw [f1, f2, a1, Nat.mul_add]; omega
        generalize m * p + p0 = X at b1 ⊢
        generalize m * q + q0 = Y at b1 ⊢
        have e1 := Int.natCast_mul d X
        have e2 := Int.natCast_mul n Y
        have e3 := Int.natCast_mul X q
        have e4 := Int.natCast_mul p Y
        omega
      · have b1 : p * (m * q + q0) = (m * p + p0) * q + 1 := by omega
        generalize m * p + p0 = X at b1 ⊢
        generalize m * q + q0 = Y at b1 ⊢
        have e1 := Int.natCast_mul d X
        have e2 := Int.natCast_mul n Y
        have e3 := Int.natCast_mul X q
        have e4 := Int.natCast_mul p Y
        omega
  generalize hpr : m * p + p0 = pr at *
  generalize hqr : m * q + q0 = qr at *
  -- distances
  have dsI : ∀ a b Z : Nat, ((n : Int) * b - a * d = s * (Z : Int)) → ds n d a b = Z := by
    intro a b Z h
    have e1 : ((n * b : Nat) : Int) = (n : Int) * b := Int.natCast_mul n b
    have e2 : ((a * d : Nat) : Int) = (a : Int) * d := Int.natCast_mul a d
    unfold ds
    rcases hs with rfl | rfl <;> omega
  have dp : ds n d p q = D1 := dsI p q D1 (by rw [Int.mul_comm (p : Int)]; exact i1)
  have dr : ds n d pr qr = D2 := by
    have e1 : ((n * qr : Nat) : Int) = (n : Int) * qr := Int.natCast_mul n qr
    have e2 : ((pr * d : Nat) : Int) = (d : Int) * pr := by rw [Int.natCast_mul, Int.mul_comm]
    unfold ds
    rcases hs with rfl | rfl <;> omega
  have dd : q * D2 + qr * D1 = d := by
    have h := (latI (n := (n : Int)) (d := (d : Int)) (p := (p : Int)) (q := (q : Int)) (pr := (pr : Int)) (qr := (qr : Int)) (D1 := (D1 : Int)) (D2 := (D2 : Int)) (a := 0) (b := 0) hs i1 i2 i3).2.2.2
    exact_mod_cast h
  -- every fraction
  have all : ∀ a b : Nat, 1 ≤ b → b ≤ L → nle n d p q a b ∨ nle n d pr qr a b := by
    intro a b hb hbL
    obtain ⟨l1, l2, l3, -⟩ := latI (n := (n : Int)) (d := (d : Int)) (p := (p : Int)) (q := (q : Int)) (pr := (pr : Int)) (qr := (qr : Int)) (D1 := (D1 : Int)) (D2 := (D2 : Int)) (a := (a : Int)) (b := (b : Int)) hs i1 i2 i3
    generalize s * ((b : Int) * pr - a * qr) = Y at *
    generalize s * ((a : Int) * q - b * p) = X at *
    by_cases cX : X ≤ 0
    · left
      have hY : 0 ≤ Y := by
        apply Classical.byContradiction
        intro z
        have z1 : (q : Int) * Y ≤ 0 := Int.mul_nonpos_of_nonneg_of_nonpos (by omega) (by omega)
        have z2 : (qr : Int) * X ≤ 0 := Int.mul_nonpos_of_nonneg_of_nonpos (by omega) cX
        omega
      obtain ⟨y, rfl⟩ := Int.eq_ofNat_of_zero_le hY
      obtain ⟨x, hx⟩ := Int.eq_ofNat_of_zero_le (show 0 ≤ -X by omega)
      have hX : X = -(x : Int) := by omega
      subst hX
      unfold nle
      rw [dp]
      apply lat1 (pr := pr) (qr := qr) (D2 := D2) (x := x) (y := y) _ _ _ hb q1 (by omega)
      · have : (b : Int) + qr * x = q * y := by rw [Int.mul_neg] at l1; omega
        exact_mod_cast this
      · have : (a : Int) + pr * x = p * y := by rw [Int.mul_neg] at l2; omega
        exact_mod_cast this
      · apply dsI
        rw [l3]
        push_cast
        congr 1
        rw [Int.neg_mul, Int.sub_neg]
    · right
      have hY : Y ≤ 0 := by
        apply Classical.byContradiction
        intro z
        have z1 : (q : Int) * 1 ≤ q * Y := Int.mul_le_mul_of_nonneg_left (by omega) (by omega)
        have z2 : (qr : Int) * 1 ≤ qr * X := Int.mul_le_mul_of_nonneg_left (by omega) (by omega)
        omega
      obtain ⟨x, rfl⟩ := Int.eq_ofNat_of_zero_le (show 0 ≤ X by omega)
      obtain ⟨y, hy⟩ := Int.eq_ofNat_of_zero_le (show 0 ≤ -Y by omega)
      have hY2 : Y = -(y : Int) := by omega
      subst hY2
      unfold nle
      rw [dr]
      apply lat1 (pr := p) (qr := q) (D2 := D1) (x := y) (y := x) _ _ _ hb qr1 (by rw [Nat.add_comm]; omega)
      · have : (b : Int) + q * y = qr * x := by rw [Int.mul_neg] at l1; omega
        exact_mod_cast this
      · have : (a : Int) + p * y = pr * x := by rw [Int.mul_neg] at l2; omega
        exact_mod_cast this
      · have e1 : ((n * b : Nat) : Int) = (n : Int) * b := Int.natCast_mul n b
        have e2 : ((a * d : Nat) : Int) = (a : Int) * d := Int.natCast_mul a d
        have e3 : -(y : Int) * D1 = -((y * D1 : Nat) : Int) := by rw [Int.neg_mul, Int.natCast_mul]
        have e4 : (x : Int) * D2 = ((x * D2 : Nat) : Int) := (Int.natCast_mul x D2).symm
        rw [e3, e4] at l3
        unfold ds
        rcases hs with rfl | rfl <;> omega
  -- the tie
  have tie : ds n d p q * qr = ds n d pr qr * q → (q < qr ∨ (q = qr ∧ p ≤ pr)) := by
    rw [dp, dr]
    intro h
    have z1 : D1 * q ≤ D2 * q := Nat.mul_le_mul_right _ D21
    have z2 : q ≤ qr := Nat.le_of_mul_le_mul_left (by omega : D1 * q ≤ D1 * qr) D1p
    by_cases c : q = qr
    · right
      refine ⟨c, ?_⟩
      have e1 : ((pr * q : Nat) : Int) = (pr : Int) * q := Int.natCast_mul pr q
      have e2 : ((p * qr : Nat) : Int) = (p : Int) * qr := Int.natCast_mul p qr
      apply Classical.byContradiction
      intro hlt
      have z3 : (pr + 1) * q ≤ p * q := Nat.mul_le_mul_right _ (by omega)
      rw [Nat.succ_mul] at z3
      have z4 : p * q = p * qr := by rw [← c]
      rcases hs with rfl | rfl
      · omega
      · have zq : q = 1 := by omega
        have D12 : D1 = D2 := by
          have : D1 * q = D2 * q := by rw [← h, ← c]
          exact Nat.eq_of_mul_eq_mul_right q1 this
        by_cases cv : v = 0
        · subst cv
          have a1 := er2.1 rfl
          have e5 : ((n * q : Nat) : Int) = (n : Int) * q := Int.natCast_mul n q
          have e6 : ((d * p : Nat) : Int) = (d : Int) * p := Int.natCast_mul d p
          omega
        · have q02 := q01.2 (by omega)
          have m0 : m = 0 := by
            rw [zq, Nat.mul_one] at hqr
            omega
          subst m0
          omega
    · left; omega
  refine ⟨by omega, qr1, qrL, ?_⟩
  obtain ⟨b1, b2⟩ := bst_t (n := n) (d := d) (x := (p, q)) (a := pr) (b := qr) tie
  have hz : 1 ≤ (bst n d (p, q) pr qr).2 ∧ (bst n d (p, q) pr qr).2 ≤ L := by
    rcases bst_c (n := n) (d := d) (p, q) pr qr with e | e
    · rw [e]; exact ⟨q1, hL⟩
    · rw [e]; exact ⟨qr1, qrL⟩
  refine ⟨hz.1, hz.2, fun a b hb hbL => ?_⟩
  rcases all a b hb hbL with h | h
  · exact nle_t hz.1 q1 hb b1 h
  · exact nle_t hz.1 qr1 hb b2 h
end
