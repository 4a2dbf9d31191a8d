/-! the nearest fraction: orders and the lattice -/
def ds (n d a b : Nat) : Nat := (n * b - a * d) + (a * d - n * b)
/-- a / b comes no later than a' / b' -/
def nle (n d a b a' b' : Nat) : Prop := ds n d a b * b' < ds n d a' b' * b ∨ (ds n d a b * b' = ds n d a' b' * b ∧ (b < b' ∨ (b = b' ∧ a ≤ a')))
def BEST (n d L a b : Nat) : Prop := 1 ≤ b ∧ b ≤ L ∧ ∀ a' b', 1 ≤ b' → b' ≤ L → nle n d a b a' b'
section
variable {n d : Nat}
theorem nle_r {a b : Nat} : nle n d a b a b := Or.inr ⟨rfl, Or.inr ⟨rfl, Nat.le_refl _⟩⟩
theorem nle_t {a b a' b' a'' b'' : Nat} (h1 : 1 ≤ b) (h2 : 1 ≤ b') (h3 : 1 ≤ b'') (x : nle n d a b a' b') (y : nle n d a' b' a'' b'') : nle n d a b a'' b'' := by
  unfold nle at *
  generalize ds n d a b = e at *
  generalize ds n d a' b' = e' at *
  generalize ds n d a'' b'' = e'' at *
  -- e / b ≤ e' / b' ≤ e'' / b''
  have m : ∀ u v w : Nat, u * v * w = u * w * v := fun u v w => by ac_rfl
  rcases x with x | ⟨x, x2⟩
  · left
    have y' : e' * b'' ≤ e'' * b' := by rcases y with y | ⟨y, -⟩ <;> omega
    have s1 : e * b' * b'' < e' * b * b'' := Nat.mul_lt_mul_of_pos_right x h3
    have s2 : e' * b'' * b ≤ e'' * b' * b := Nat.mul_le_mul_right _ y'
    have s3 : e * b'' * b' < e'' * b * b' := by rw [m e b'' b', m e'' b b']; rw [m e' b b''] at s1; omega
    exact Nat.lt_of_mul_lt_mul_right s3
  · rcases y with y | ⟨y, y2⟩
    · left
      have s1 : e * b' * b'' = e' * b * b'' := by rw [x]
      have s2 : e' * b'' * b < e'' * b' * b := Nat.mul_lt_mul_of_pos_right y h1
      have s3 : e * b'' * b' < e'' * b * b' := by rw [m e b'' b', m e'' b b']; rw [m e' b b''] at s1; omega
      exact Nat.lt_of_mul_lt_mul_right s3
    · right
      have s1 : e * b' * b'' = e' * b * b'' := by rw [x]
      have s2 : e' * b'' * b = e'' * b' * b := by rw [y]
      have s3 : e * b'' * b' = e'' * b * b' := by rw [m e b'' b', m e'' b b']; rw [m e' b b''] at s1; omega
      exact ⟨Nat.eq_of_mul_eq_mul_right h2 s3, by omega⟩
theorem best_u {L a b a' b' : Nat} (h : BEST n d L a b) (h' : BEST n d L a' b') : a = a' ∧ b = b' := by
  obtain ⟨h1, h2, h3⟩ := h
  obtain ⟨k1, k2, k3⟩ := h'
  have x := h3 a' b' k1 k2
  have y := k3 a b h1 h2
  unfold nle at x y
  omega
/-- one candidate more -/
def bst (n d : Nat) (x : Nat × Nat) (a b : Nat) : Nat × Nat := if ds n d x.1 x.2 * b ≤ ds n d a b * x.2 then x else (a, b)
theorem bst_l {x : Nat × Nat} {a b : Nat} (h : x.2 < b ∨ (x.2 = b ∧ x.1 ≤ a)) : nle n d (bst n d x a b).1 (bst n d x a b).2 x.1 x.2 ∧ nle n d (bst n d x a b).1 (bst n d x a b).2 a b := by
  unfold bst
  by_cases c : ds n d x.1 x.2 * b ≤ ds n d a b * x.2
  · rw [if_pos c]
    refine ⟨nle_r, ?_⟩
    unfold nle
    omega
  · rw [if_neg c]
    refine ⟨?_, nle_r⟩
    left
    show ds n d a b * x.2 < ds n d x.1 x.2 * b
    omega
theorem bst_c (x : Nat × Nat) (a b : Nat) : bst n d x a b = x ∨ bst n d x a b = (a, b) := by
  unfold bst
  by_cases c : ds n d x.1 x.2 * b ≤ ds n d a b * x.2
  · rw [if_pos c]; exact Or.inl rfl
  · rw [if_neg c]; exact Or.inr rfl
def tr (n d : Nat) : Nat → Nat × Nat
  | 0 => (0, 1)
  | k + 1 => bst n d (bst n d (tr n d k) (n * (k + 1) / d) (k + 1)) (n * (k + 1) / d + 1) (k + 1)
theorem dsd {a b f : Nat} (hd : 1 ≤ d) (hf : f = n * b / d) : (a ≤ f → nle n d f b a b) ∧ (f + 1 ≤ a → nle n d (f + 1) b a b) := by
  have e1 := Nat.div_add_mod (n * b) d
  have e2 := Nat.mod_lt (n * b) (show d > 0 from hd)
  rw [← hf] at e1
  rw [Nat.mul_comm] at e1
  have z : ∀ u v : Nat, u ≤ v → u * d ≤ v * d := fun u v h => Nat.mul_le_mul_right _ h
  have e3 : (f + 1) * d = f * d + d := Nat.succ_mul f d
  constructor
  · intro h
    have z1 := z a f h
    by_cases c : a = f
    · subst c; exact nle_r
    · left
      have z2 := z (a + 1) f (by omega)
      have e4 : (a + 1) * d = a * d + d := Nat.succ_mul a d
      by_cases b0 : b = 0
      · subst b0
        exfalso
        rw [Nat.mul_zero, Nat.zero_div] at hf
        omega
      · have : ds n d f b < ds n d a b := by unfold ds; omega
        exact Nat.mul_lt_mul_of_pos_right this (by omega)
  · intro h
    have z1 := z (f + 1) a h
    by_cases c : a = f + 1
    · subst c; exact nle_r
    · by_cases b0 : b = 0
      · subst b0
        right
        rw [Nat.mul_zero, Nat.mul_zero]
        exact ⟨rfl, Or.inr ⟨rfl, h⟩⟩
      · left
        have z2 := z (f + 1 + 1) a (by omega)
        have e4 : (f + 1 + 1) * d = (f + 1) * d + d := Nat.succ_mul (f + 1) d
        have : ds n d (f + 1) b < ds n d a b := by unfold ds; omega
        exact Nat.mul_lt_mul_of_pos_right this (by omega)
theorem tr_b (hd : 1 ≤ d) : ∀ k, 1 ≤ (tr n d k).2 ∧ (1 ≤ k → BEST n d k (tr n d k).1 (tr n d k).2) := by
  intro k
  induction k with
  | zero => exact ⟨Nat.le_refl 1, fun h => by omega⟩
  | succ k ih =>
    obtain ⟨i1, i2⟩ := ih
    have hx : (tr n d k).2 < k + 1 ∨ ((tr n d k).2 = k + 1 ∧ (tr n d k).1 ≤ n * (k + 1) / d) := by
      by_cases c : k = 0
      · subst c; right; exact ⟨rfl, Nat.zero_le _⟩
      · left; have := (i2 (by omega)).2.1; omega
    obtain ⟨a1, a2⟩ := bst_l (n := n) (d := d) hx
    have hy : (bst n d (tr n d k) (n * (k + 1) / d) (k + 1)).2 < k + 1 ∨ ((bst n d (tr n d k) (n * (k + 1) / d) (k + 1)).2 = k + 1 ∧ (bst n d (tr n d k) (n * (k + 1) / d) (k + 1)).1 ≤ n * (k + 1) / d + 1) := by
      rcases bst_c (n := n) (d := d) (tr n d k) (n * (k + 1) / d) (k + 1) with e | e
      · rw [e]; omega
      · rw [e]; right; exact ⟨rfl, Nat.le_succ _⟩
    obtain ⟨b1, b2⟩ := bst_l (n := n) (d := d) hy
    have p1 : 1 ≤ (bst n d (tr n d k) (n * (k + 1) / d) (k + 1)).2 ∧ (bst n d (tr n d k) (n * (k + 1) / d) (k + 1)).2 ≤ k + 1 := by
      rcases bst_c (n := n) (d := d) (tr n d k) (n * (k + 1) / d) (k + 1) with e | e
      · rw [e]; omega
      · rw [e]; exact ⟨by show 1 ≤ k + 1; omega, Nat.le_refl _⟩
    have p2 : 1 ≤ (tr n d (k + 1)).2 ∧ (tr n d (k + 1)).2 ≤ k + 1 := by
      show 1 ≤ (bst n d (bst n d (tr n d k) (n * (k + 1) / d) (k + 1)) (n * (k + 1) / d + 1) (k + 1)).2 ∧ (bst n d (bst n d (tr n d k) (n * (k + 1) / d) (k + 1)) (n * (k + 1) / d + 1) (k + 1)).2 ≤ k + 1
      rcases bst_c (n := n) (d := d) (bst n d (tr n d k) (n * (k + 1) / d) (k + 1)) (n * (k + 1) / d + 1) (k + 1) with e | e
      · rw [e]; exact p1
      · rw [e]; exact ⟨by show 1 ≤ k + 1; omega, Nat.le_refl _⟩
    refine ⟨p2.1, fun _ => ⟨p2.1, p2.2, fun a' b' h1 h2 => ?_⟩⟩
    have q2 : nle n d (tr n d (k + 1)).1 (tr n d (k + 1)).2 (n * (k + 1) / d + 1) (k + 1) := b2
    have q1 : nle n d (tr n d (k + 1)).1 (tr n d (k + 1)).2 (n * (k + 1) / d) (k + 1) := nle_t p2.1 p1.1 (by omega) b1 a2
    have q0 : nle n d (tr n d (k + 1)).1 (tr n d (k + 1)).2 (tr n d k).1 (tr n d k).2 := nle_t p2.1 p1.1 i1 b1 a1
    by_cases c : b' = k + 1
    · subst c
      obtain ⟨f1, f2⟩ := dsd (n := n) (d := d) (a := a') (b := k + 1) hd rfl
      by_cases c2 : a' ≤ n * (k + 1) / d
      · exact nle_t p2.1 (by omega) (by omega) q1 (f1 c2)
      · exact nle_t p2.1 (by omega) (by omega) q2 (f2 (by omega))
    · exact nle_t p2.1 i1 h1 q0 ((i2 (by omega)).2.2 a' b' h1 (by omega))
/-- one side of the lattice -/
theorem lat1 {p q D1 pr qr D2 x y a b E : Nat} (h1 : b + qr * x = q * y) (h2 : a + pr * x = p * y) (h3 : E = y * D1 + x * D2) (hb : 1 ≤ b) (hq : 1 ≤ q) (hp : 0 < q * D2 + qr * D1) : D1 * b < E * q ∨ (D1 * b = E * q ∧ (q < b ∨ (q = b ∧ p ≤ a))) := by
  have e : E * q = D1 * b + x * (q * D2 + qr * D1) := by
    rw [h3, Nat.add_mul, show y * D1 * q = D1 * (q * y) from by ac_rfl, ← h1, Nat.mul_add, Nat.mul_add, show x * D2 * q = x * (q * D2) from by ac_rfl, show D1 * (qr * x) = x * (qr * D1) from by ac_rfl]
    omega
  by_cases c : x = 0
  · right
    subst c
    rw [Nat.zero_mul, Nat.add_zero] at e
    rw [Nat.mul_zero, Nat.add_zero] at h1 h2
    refine ⟨e.symm, ?_⟩
    by_cases y1 : y = 1
    · subst y1
      rw [Nat.mul_one] at h1 h2
      right
      omega
    · left
      have y2 : 2 ≤ y := by
        apply Classical.byContradiction
        intro z
        have : y = 0 := by omega
        subst this
        omega
      have := Nat.mul_le_mul_left q y2
      omega
  · left
    have : 1 * (q * D2 + qr * D1) ≤ x * (q * D2 + qr * D1) := Nat.mul_le_mul_right _ (by omega)
    omega
/-- integers of the lattice -/
theorem latI {n d p q pr qr D1 D2 a b s : Int} (hs : s = 1 ∨ s = -1) (h1 : n * q - d * p = s * D1) (h2 : d * pr - n * qr = s * D2) (h3 : pr * q - p * qr = s) :
    b = q * (s * (b * pr - a * qr)) + qr * (s * (a * q - b * p)) ∧ a = p * (s * (b * pr - a * qr)) + pr * (s * (a * q - b * p)) ∧ n * b - a * d = s * ((s * (b * pr - a * qr)) * D1 - (s * (a * q - b * p)) * D2) ∧ q * D2 + qr * D1 = d := by
  rcases hs with rfl | rfl <;> refine ⟨?_, ?_, ?_, ?_⟩ <;> grind
end
/-! the nearest fraction: the class by continued fractions, the class by trying, the model by trying -/
section
variable {n d : Nat}
theorem bst_t {x : Nat × Nat} {a b : Nat} (h : ds n d x.1 x.2 * b = ds n d a b * x.2 → (x.2 < b ∨ (x.2 = b ∧ x.1 ≤ a))) : nle n d (bst n d x a b).1 (bst n d x a b).2 x.1 x.2 ∧ nle n d (bst n d x a b).1 (bst n d x a b).2 a b := by
  unfold bst
  by_cases c : ds n d x.1 x.2 * b ≤ ds n d a b * x.2
  · rw [if_pos c]
    refine ⟨nle_r, ?_⟩
    unfold nle
    omega
  · rw [if_neg c]
    refine ⟨?_, nle_r⟩
    left
    show ds n d a b * x.2 < ds n d x.1 x.2 * b
    omega
theorem cfb {K L v m : Nat} (hd : 1 ≤ d) (k4 : ∀ j, j < K → 0 < rr n d (j + 1)) (hv : v + 1 < K) (hL : aq n d (v + 2) ≤ L) (hL2 : L < aq n d (v + 3)) (hm : m = (L - aq n d (v + 1)) / aq n d (v + 2)) : m ≤ L ∧ 1 ≤ m * aq n d (v + 2) + aq n d (v + 1) ∧ m * aq n d (v + 2) + aq n d (v + 1) ≤ L ∧ BEST n d L (bst n d (ap n d (v + 2), aq n d (v + 2)) (m * ap n d (v + 2) + ap n d (v + 1)) (m * aq n d (v + 2) + aq n d (v + 1))).1 (bst n d (ap n d (v + 2), aq n d (v + 2)) (m * ap n d (v + 2) + ap n d (v + 1)) (m * aq n d (v + 2) + aq n d (v + 1))).2 := by
  have q1 : 1 ≤ aq n d (v + 2) := aq_1 k4 v (by omega)
  have q01 : aq n d (v + 1) ≤ aq n d (v + 2) ∧ (1 ≤ v → 1 ≤ aq n d (v + 1)) := by
    by_cases c : v = 0
    · subst c
      exact ⟨by show 0 ≤ _; exact Nat.zero_le _, fun h => by omega⟩
    · obtain ⟨u, rfl⟩ : ∃ u, v = u + 1 := ⟨v - 1, by omega⟩
      exact ⟨aq_m k4 (by omega), fun _ => aq_1 k4 u (by omega)⟩
  have e3 : aq n d (v + 3) = tt n d (v + 1) * aq n d (v + 2) + aq n d (v + 1) := rfl
  have er2 := er_e (n := n) (d := d) (v + 2)
  have er1 := er_e (n := n) (d := d) (v + 1)
  have de1 := de_e (n := n) (d := d) (v + 1)
  have D00 : rr n d (v + 1) = tt n d (v + 1) * rr n d (v + 2) + rr n d (v + 3) := rr_t (v + 1)
  have D1p : 0 < rr n d (v + 2) := k4 (v + 1) hv
  have D01 : rr n d (v + 2) < rr n d (v + 1) := rr_lt (k4 v (by omega))
  have de1' : ((v + 1) % 2 = 0 → ap n d (v + 2) * aq n d (v + 1) = ap n d (v + 1) * aq n d (v + 2) + 1) ∧ ((v + 1) % 2 = 1 → ap n d (v + 1) * aq n d (v + 2) = ap n d (v + 2) * aq n d (v + 1) + 1) := de1
  clear de1
  generalize ap n d (v + 2) = p at *
  generalize ap n d (v + 1) = p0 at *
  generalize hq2 : aq n d (v + 2) = q at *
  generalize hq1 : aq n d (v + 1) = q0 at *
  generalize rr n d (v + 2) = D1 at *
  generalize rr n d (v + 1) = D0 at *
  -- m
  have m1 := Nat.div_add_mod (L - q0) q
  have m2 := Nat.mod_lt (L - q0) (show q > 0 from q1)
  rw [← hm, Nat.mul_comm] at m1
  have mt : m + 1 ≤ tt n d (v + 1) := by
    have : m * q < tt n d (v + 1) * q := by omega
    exact Nat.lt_of_mul_lt_mul_right this
  have mq : m * 1 ≤ m * q := Nat.mul_le_mul_left _ q1
  have D2a : m * D1 + D1 ≤ tt n d (v + 1) * D1 := by
    have := Nat.mul_le_mul_right D1 mt
    rw [Nat.succ_mul] at this
    exact this
  obtain ⟨D2, hD2⟩ : ∃ D2, D2 + m * D1 = D0 := ⟨D0 - m * D1, by omega⟩
  have D21 : D1 ≤ D2 := by omega
  have qrL : m * q + q0 ≤ L := by omega
  have qrL2 : L < q + (m * q + q0) := by omega
  have qr1 : 1 ≤ m * q + q0 := by
    by_cases c : v = 0
    · subst c
      have z0 : q0 = 0 := hq1.symm
      subst z0
      have zq : q = 1 := hq2.symm
      subst zq
      omega
    · have := q01.2 (by omega)
      omega
  have f1 : d * (m * p + p0) = m * (d * p) + d * p0 := by rw [Nat.mul_add]; congr 1; ac_rfl
  have f2 : n * (m * q + q0) = m * (n * q) + n * q0 := by rw [Nat.mul_add]; congr 1; ac_rfl
  have f3 : (m * p + p0) * q = m * (p * q) + p0 * q := by rw [Nat.add_mul]; congr 1; ac_rfl
  have f4 : p * (m * q + q0) = m * (p * q) + p * q0 := by rw [Nat.mul_add]; congr 1; ac_rfl
  -- the sign
  obtain ⟨s, hs, i1, i2, i3⟩ : ∃ s : Int, (s = 1 ∨ s = -1) ∧ (n : Int) * q - d * p = s * D1 ∧ (d : Int) * ((m * p + p0 : Nat) : Int) - n * ((m * q + q0 : Nat) : Int) = s * D2 ∧ ((m * p + p0 : Nat) : Int) * q - p * ((m * q + q0 : Nat) : Int) = s := by
    rcases Nat.mod_two_eq_zero_or_one v with c | c
    · have a1 := er2.1 (by omega)
      have a2 := er1.2 (by omega)
      have a3 := de1'.2 (by omega)
      refine ⟨1, Or.inl rfl, ?_, ?_, ?_⟩
      · rw [Int.one_mul]
        have : ((n * q : Nat) : Int) = ((d * p + D1 : Nat) : Int) := by rw [a1]
        push_cast at this
        omega
      · have b1 : d * (m * p + p0) = n * (m * q + q0) + D2 := by
          rw [f1, f2, a1, Nat.mul_add]; omega
        generalize m * p + p0 = X at b1 ⊢
        generalize m * q + q0 = Y at b1 ⊢
        have e1 := Int.natCast_mul d X
        have e2 := Int.natCast_mul n Y
        have e3 := Int.natCast_mul X q
        have e4 := Int.natCast_mul p Y
        omega
      · have b1 : (m * p + p0) * q = p * (m * q + q0) + 1 := by omega
        generalize m * p + p0 = X at b1 ⊢
        generalize m * q + q0 = Y at b1 ⊢
        have e1 := Int.natCast_mul d X
        have e2 := Int.natCast_mul n Y
        have e3 := Int.natCast_mul X q
        have e4 := Int.natCast_mul p Y
        omega
    · have a1 := er2.2 (by omega)
      have a2 := er1.1 (by omega)
      have a3 := de1'.1 (by omega)
      refine ⟨-1, Or.inr rfl, ?_, ?_, ?_⟩
      · have : ((d * p : Nat) : Int) = ((n * q + D1 : Nat) : Int) := by rw [a1]
        push_cast at this
        omega
      · have b1 : n * (m * q + q0) = d * (m * p + p0) + D2 := by
          rw [f1, f2, a1, Nat.mul_add]; omega
        generalize m * p + p0 = X at b1 ⊢
        generalize m * q + q0 = Y at b1 ⊢
        have e1 := Int.natCast_mul d X
        have e2 := Int.natCast_mul n Y
        have e3 := Int.natCast_mul X q
        have e4 := Int.natCast_mul p Y
        omega
      · have b1 : p * (m * q + q0) = (m * p + p0) * q + 1 := by omega
        generalize m * p + p0 = X at b1 ⊢
        generalize m * q + q0 = Y at b1 ⊢
        have e1 := Int.natCast_mul d X
        have e2 := Int.natCast_mul n Y
        have e3 := Int.natCast_mul X q
        have e4 := Int.natCast_mul p Y
        omega
  generalize hpr : m * p + p0 = pr at *
  generalize hqr : m * q + q0 = qr at *
  -- distances
  have dsI : ∀ a b Z : Nat, ((n : Int) * b - a * d = s * (Z : Int)) → ds n d a b = Z := by
    intro a b Z h
    have e1 : ((n * b : Nat) : Int) = (n : Int) * b := Int.natCast_mul n b
    have e2 : ((a * d : Nat) : Int) = (a : Int) * d := Int.natCast_mul a d
    unfold ds
    rcases hs with rfl | rfl <;> omega
  have dp : ds n d p q = D1 := dsI p q D1 (by rw [Int.mul_comm (p : Int)]; exact i1)
  have dr : ds n d pr qr = D2 := by
    have e1 : ((n * qr : Nat) : Int) = (n : Int) * qr := Int.natCast_mul n qr
    have e2 : ((pr * d : Nat) : Int) = (d : Int) * pr := by rw [Int.natCast_mul, Int.mul_comm]
    unfold ds
    rcases hs with rfl | rfl <;> omega
  have dd : q * D2 + qr * D1 = d := by
    have h := (latI (n := (n : Int)) (d := (d : Int)) (p := (p : Int)) (q := (q : Int)) (pr := (pr : Int)) (qr := (qr : Int)) (D1 := (D1 : Int)) (D2 := (D2 : Int)) (a := 0) (b := 0) hs i1 i2 i3).2.2.2
    exact_mod_cast h
  -- every fraction
  have all : ∀ a b : Nat, 1 ≤ b → b ≤ L → nle n d p q a b ∨ nle n d pr qr a b := by
    intro a b hb hbL
    obtain ⟨l1, l2, l3, -⟩ := latI (n := (n : Int)) (d := (d : Int)) (p := (p : Int)) (q := (q : Int)) (pr := (pr : Int)) (qr := (qr : Int)) (D1 := (D1 : Int)) (D2 := (D2 : Int)) (a := (a : Int)) (b := (b : Int)) hs i1 i2 i3
    generalize s * ((b : Int) * pr - a * qr) = Y at *
    generalize s * ((a : Int) * q - b * p) = X at *
    by_cases cX : X ≤ 0
    · left
      have hY : 0 ≤ Y := by
        apply Classical.byContradiction
        intro z
        have z1 : (q : Int) * Y ≤ 0 := Int.mul_nonpos_of_nonneg_of_nonpos (by omega) (by omega)
        have z2 : (qr : Int) * X ≤ 0 := Int.mul_nonpos_of_nonneg_of_nonpos (by omega) cX
        omega
      obtain ⟨y, rfl⟩ := Int.eq_ofNat_of_zero_le hY
      obtain ⟨x, hx⟩ := Int.eq_ofNat_of_zero_le (show 0 ≤ -X by omega)
      have hX : X = -(x : Int) := by omega
      subst hX
      unfold nle
      rw [dp]
      apply lat1 (pr := pr) (qr := qr) (D2 := D2) (x := x) (y := y) _ _ _ hb q1 (by omega)
      · have : (b : Int) + qr * x = q * y := by rw [Int.mul_neg] at l1; omega
        exact_mod_cast this
      · have : (a : Int) + pr * x = p * y := by rw [Int.mul_neg] at l2; omega
        exact_mod_cast this
      · apply dsI
        rw [l3]
        push_cast
        congr 1
        rw [Int.neg_mul, Int.sub_neg]
    · right
      have hY : Y ≤ 0 := by
        apply Classical.byContradiction
        intro z
        have z1 : (q : Int) * 1 ≤ q * Y := Int.mul_le_mul_of_nonneg_left (by omega) (by omega)
        have z2 : (qr : Int) * 1 ≤ qr * X := Int.mul_le_mul_of_nonneg_left (by omega) (by omega)
        omega
      obtain ⟨x, rfl⟩ := Int.eq_ofNat_of_zero_le (show 0 ≤ X by omega)
      obtain ⟨y, hy⟩ := Int.eq_ofNat_of_zero_le (show 0 ≤ -Y by omega)
      have hY2 : Y = -(y : Int) := by omega
      subst hY2
      unfold nle
      rw [dr]
      apply lat1 (pr := p) (qr := q) (D2 := D1) (x := y) (y := x) _ _ _ hb qr1 (by rw [Nat.add_comm]; omega)
      · have : (b : Int) + q * y = qr * x := by rw [Int.mul_neg] at l1; omega
        exact_mod_cast this
      · have : (a : Int) + p * y = pr * x := by rw [Int.mul_neg] at l2; omega
        exact_mod_cast this
      · have e1 : ((n * b : Nat) : Int) = (n : Int) * b := Int.natCast_mul n b
        have e2 : ((a * d : Nat) : Int) = (a : Int) * d := Int.natCast_mul a d
        have e3 : -(y : Int) * D1 = -((y * D1 : Nat) : Int) := by rw [Int.neg_mul, Int.natCast_mul]
        have e4 : (x : Int) * D2 = ((x * D2 : Nat) : Int) := (Int.natCast_mul x D2).symm
        rw [e3, e4] at l3
        unfold ds
        rcases hs with rfl | rfl <;> omega
  -- the tie
  have tie : ds n d p q * qr = ds n d pr qr * q → (q < qr ∨ (q = qr ∧ p ≤ pr)) := by
    rw [dp, dr]
    intro h
    have z1 : D1 * q ≤ D2 * q := Nat.mul_le_mul_right _ D21
    have z2 : q ≤ qr := Nat.le_of_mul_le_mul_left (by omega : D1 * q ≤ D1 * qr) D1p
    by_cases c : q = qr
    · right
      refine ⟨c, ?_⟩
      have e1 : ((pr * q : Nat) : Int) = (pr : Int) * q := Int.natCast_mul pr q
      have e2 : ((p * qr : Nat) : Int) = (p : Int) * qr := Int.natCast_mul p qr
      apply Classical.byContradiction
      intro hlt
      have z3 : (pr + 1) * q ≤ p * q := Nat.mul_le_mul_right _ (by omega)
      rw [Nat.succ_mul] at z3
      have z4 : p * q = p * qr := by rw [← c]
      rcases hs with rfl | rfl
      · omega
      · have zq : q = 1 := by omega
        have D12 : D1 = D2 := by
          have : D1 * q = D2 * q := by rw [← h, ← c]
          exact Nat.eq_of_mul_eq_mul_right q1 this
        by_cases cv : v = 0
        · subst cv
          have a1 := er2.1 rfl
          have e5 : ((n * q : Nat) : Int) = (n : Int) * q := Int.natCast_mul n q
          have e6 : ((d * p : Nat) : Int) = (d : Int) * p := Int.natCast_mul d p
          omega
        · have q02 := q01.2 (by omega)
          have m0 : m = 0 := by
            rw [zq, Nat.mul_one] at hqr
            omega
          subst m0
          omega
    · left; omega
  refine ⟨by omega, qr1, qrL, ?_⟩
  obtain ⟨b1, b2⟩ := bst_t (n := n) (d := d) (x := (p, q)) (a := pr) (b := qr) tie
  have hz : 1 ≤ (bst n d (p, q) pr qr).2 ∧ (bst n d (p, q) pr qr).2 ≤ L := by
    rcases bst_c (n := n) (d := d) (p, q) pr qr with e | e
    · rw [e]; exact ⟨q1, hL⟩
    · rw [e]; exact ⟨qr1, qrL⟩
  refine ⟨hz.1, hz.2, fun a b hb hbL => ?_⟩
  rcases all a b hb hbL with h | h
  · exact nle_t hz.1 q1 hb b1 h
  · exact nle_t hz.1 qr1 hb b2 h
end
