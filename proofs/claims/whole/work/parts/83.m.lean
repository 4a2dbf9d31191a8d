/-! the nearest fraction: orders and the lattice -/
def ds (n d a b : Nat) : Nat := (n * b - a * d) + (a * d - n * b)
/-- a / b comes no later than a' / b' -/
def nle (n d a b a' b' : Nat) : Prop := ds n d a b * b' < ds n d a' b' * b ∨ (ds n d a b * b' = ds n d a' b' * b ∧ (b < b' ∨ (b = b' ∧ a ≤ a')))
def BEST (n d L a b : Nat) : Prop := 1 ≤ b ∧ b ≤ L ∧ ∀ a' b', 1 ≤ b' → b' ≤ L → nle n d a b a' b'
section
variable {n d : Nat}
theorem nle_r {a b : Nat} : nle n d a b a b := Or.inr ⟨rfl, Or.inr ⟨rfl, Nat.le_refl _⟩⟩
theorem nle_t {a b a' b' a'' b'' : Nat} (h1 : 1 ≤ b) (h2 : 1 ≤ b') (h3 : 1 ≤ b'') (x : nle n d a b a' b') (y : nle n d a' b' a'' b'') : nle n d a b a'' b'' := by
  unfold nle at *
  generalize ds n d a b = e at *
  generalize ds n d a' b' = e' at *
  generalize ds n d a'' b'' = e'' at *
  -- e / b ≤ e' / b' ≤ e'' / b''
  have m : ∀ u v w : Nat, u * v * w = u * w * v := fun u v w => by ac_rfl
  rcases x with x | ⟨x, x2⟩
  · left
    have y' : e' * b'' ≤ e'' * b' := by rcases y with y | ⟨y, -⟩ <;> omega
    have s1 : e * b' * b'' < e' * b * b'' := Nat.mul_lt_mul_of_pos_right x h3
    have s2 : e' * b'' * b ≤ e'' * b' * b := Nat.mul_le_mul_right _ y'
    have s3 : e * b'' * b' < e'' * b * b' := by rw [m e b'' b', m e'' b b']; rw [m e' b b''] at s1; omega
    exact Nat.lt_of_mul_lt_mul_right s3
  · rcases y with y | ⟨y, y2⟩
    · left
      have s1 : e * b' * b'' = e' * b * b'' := by rw [x]
      have s2 : e' * b'' * b < e'' * b' * b := Nat.mul_lt_mul_of_pos_right y h1
      have s3 : e * b'' * b' < e'' * b * b' := by rw [m e b'' b', m e'' b b']; rw [m e' b b''] at s1; omega
      exact Nat.lt_of_mul_lt_mul_right s3
    · right
      have s1 : e * b' * b'' = e' * b * b'' := by rw [x]
      have s2 : e' * b'' * b = e'' * b' * b := by rw [y]
      have s3 : e * b'' * b' = e'' * b * b' := by rw [m e b'' b', m e'' b b']; rw [m e' b b''] at s1; omega
      exact ⟨Nat.eq_of_mul_eq_mul_right h2 s3, by omega⟩
theorem best_u {L a b a' b' : Nat} (h : BEST n d L a b) (h' : BEST n d L a' b') : a = a' ∧ b = b' := by
  obtain ⟨h1, h2, h3⟩ := h
  obtain ⟨k1, k2, k3⟩ := h'
  have x := h3 a' b' k1 k2
  have y := k3 a b h1 h2
  unfold nle at x y
  omega
/-- one candidate more -/
def bst (n d : Nat) (x : Nat × Nat) (a b : Nat) : Nat × Nat := if ds n d x.1 x.2 * b ≤ ds n d a b * x.2 then x else (a, b)
theorem bst_l {x : Nat × Nat} {a b : Nat} (h : x.2 < b ∨ (x.2 = b ∧ x.1 ≤ a)) : nle n d (bst n d x a b).1 (bst n d x a b).2 x.1 x.2 ∧ nle n d (bst n d x a b).1 (bst n d x a b).2 a b := by
  unfold bst
  by_cases c : ds n d x.1 x.2 * b ≤ ds n d a b * x.2
  · rw [if_pos c]
    refine ⟨nle_r, ?_⟩
    unfold nle
    omega
  · rw [if_neg c]
    refine ⟨?_, nle_r⟩
    left
    show ds n d a b * x.2 < ds n d x.1 x.2 * b
    omega
theorem bst_c (x : Nat × Nat) (a b : Nat) : bst n d x a b = x ∨ bst n d x a b = (a, b) := by
  unfold bst
  by_cases c : ds n d x.1 x.2 * b ≤ ds n d a b * x.2
  · rw [if_pos c]; exact Or.inl rfl
  · rw [if_neg c]; exact Or.inr rfl
def tr (n d : Nat) : Nat → Nat × Nat
  | 0 => (0, 1)
  | k + 1 => bst n d (bst n d (tr n d k) (n * (k + 1) / d) (k + 1)) (n * (k + 1) / d + 1) (k + 1)
theorem dsd {a b f : Nat} (hd : 1 ≤ d) (hf : f = n * b / d) : (a ≤ f → nle n d f b a b) ∧ (f + 1 ≤ a → nle n d (f + 1) b a b) := by
  have e1 := Nat.div_add_mod (n * b) d
  have e2 := Nat.mod_lt (n * b) (show d > 0 from hd)
  rw [← hf] at e1
  rw [Nat.mul_comm] at e1
  have z : ∀ u v : Nat, u ≤ v → u * d ≤ v * d := fun u v h => Nat.mul_le_mul_right _ h
  have e3 : (f + 1) * d = f * d + d := Nat.succ_mul f d
  constructor
  · intro h
    have z1 := z a f h
    by_cases c : a = f
    · subst c; exact nle_r
    · left
      have z2 := z (a + 1) f (by omega)
      have e4 : (a + 1) * d = a * d + d := Nat.succ_mul a d
      by_cases b0 : b = 0
      · subst b0
        exfalso
        rw [Nat.mul_zero, Nat.zero_div] at hf
        omega
      · have : ds n d f b < ds n d a b := by unfold ds; omega
        exact Nat.mul_lt_mul_of_pos_right this (by omega)
  · intro h
    have z1 := z (f + 1) a h
    by_cases c : a = f + 1
    · subst c; exact nle_r
    · by_cases b0 : b = 0
      · subst b0
        right
        rw [Nat.mul_zero, Nat.mul_zero]
        exact ⟨rfl, Or.inr ⟨rfl, h⟩⟩
      · left
        have z2 := z (f + 1 + 1) a (by omega)
        have e4 : (f + 1 + 1) * d = (f + 1) * d + d := Nat.succ_mul (f + 1) d
        have : ds n d (f + 1) b < ds n d a b := by unfold ds; omega
        exact Nat.mul_lt_mul_of_pos_right this (by omega)
theorem tr_b (hd : 1 ≤ d) : ∀ k, 1 ≤ (tr n d k).2 ∧ (1 ≤ k → BEST n d k (tr n d k).1 (tr n d k).2) := by
  intro k
  induction k with
  | zero => exact ⟨Nat.le_refl 1, fun h => by omega⟩
  | succ k ih =>
    obtain ⟨i1, i2⟩ := ih
    have hx : (tr n d k).2 < k + 1 ∨ ((tr n d k).2 = k + 1 ∧ (tr n d k).1 ≤ n * (k + 1) / d) := by
      by_cases c : k = 0
      · subst c; right; exact ⟨rfl, Nat.zero_le _⟩
      · left; have := (i2 (by omega)).2.1; omega
    obtain ⟨a1, a2⟩ := bst_l (n := n) (d := d) hx
    have hy : (bst n d (tr n d k) (n * (k + 1) / d) (k + 1)).2 < k + 1 ∨ ((bst n d (tr n d k) (n * (k + 1) / d) (k + 1)).2 = k + 1 ∧ (bst n d (tr n d k) (n * (k + 1) / d) (k + 1)).1 ≤ n * (k + 1) / d + 1) := by
      rcases bst_c (n := n) (d := d) (tr n d k) (n * (k + 1) / d) (k + 1) with e | e
      · rw [e]; omega
      · rw [e]; right; exact ⟨rfl, Nat.le_succ _⟩
    obtain ⟨b1, b2⟩ := bst_l (n := n) (d := d) hy
    have p1 : 1 ≤ (bst n d (tr n d k) (n * (k + 1) / d) (k + 1)).2 ∧ (bst n d (tr n d k) (n * (k + 1) / d) (k + 1)).2 ≤ k + 1 := by
      rcases bst_c (n := n) (d := d) (tr n d k) (n * (k + 1) / d) (k + 1) with e | e
      · rw [e]; omega
      · rw [e]; exact ⟨by show 1 ≤ k + 1; omega, Nat.le_refl _⟩
    have p2 : 1 ≤ (tr n d (k + 1)).2 ∧ (tr n d (k + 1)).2 ≤ k + 1 := by
      show 1 ≤ (bst n d (bst n d (tr n d k) (n * (k + 1) / d) (k + 1)) (n * (k + 1) / d + 1) (k + 1)).2 ∧ (bst n d (bst n d (tr n d k) (n * (k + 1) / d) (k + 1)) (n * (k + 1) / d + 1) (k + 1)).2 ≤ k + 1
      rcases bst_c (n := n) (d := d) (bst n d (tr n d k) (n * (k + 1) / d) (k + 1)) (n * (k + 1) / d + 1) (k + 1) with e | e
      · rw [e]; exact p1
      · rw [e]; exact ⟨by show 1 ≤ k + 1; omega, Nat.le_refl _⟩
    refine ⟨p2.1, fun _ => ⟨p2.1, p2.2, fun a' b' h1 h2 => ?_⟩⟩
    have q2 : nle n d (tr n d (k + 1)).1 (tr n d (k + 1)).2 (n * (k + 1) / d + 1) (k + 1) := b2
    have q1 : nle n d (tr n d (k + 1)).1 (tr n d (k + 1)).2 (n * (k + 1) / d) (k + 1) := nle_t p2.1 p1.1 (by omega) b1 a2
    have q0 : nle n d (tr n d (k + 1)).1 (tr n d (k + 1)).2 (tr n d k).1 (tr n d k).2 := nle_t p2.1 p1.1 i1 b1 a1
    by_cases c : b' = k + 1
    · subst c
      obtain ⟨f1, f2⟩ := dsd (n := n) (d := d) (a := a') (b := k + 1) hd rfl
      by_cases c2 : a' ≤ n * (k + 1) / d
      · exact nle_t p2.1 (by omega) (by omega) q1 (f1 c2)
      · exact nle_t p2.1 (by omega) (by omega) q2 (f2 (by omega))
    · exact nle_t p2.1 i1 h1 q0 ((i2 (by omega)).2.2 a' b' h1 (by omega))
/-- one side of the lattice -/
theorem lat1 {p q D1 pr qr D2 x y a b E : Nat} (h1 : b + qr * x = q * y) (h2 : a + pr * x = p * y) (h3 : E = y * D1 + x * D2) (hb : 1 ≤ b) (hq : 1 ≤ q) (hp : 0 < q * D2 + qr * D1) : D1 * b < E * q ∨ (D1 * b = E * q ∧ (q < b ∨ (q = b ∧ p ≤ a))) := by
  have e : E * q = D1 * b + x * (q * D2 + qr * D1) := by
    rw [h3, Nat.add_mul, show y * D1 * q = D1 * (q * y) from by ac_rfl, ← h1, Nat.mul_add, Nat.mul_add, show x * D2 * q = x * (q * D2) from by ac_rfl, show D1 * (qr * x) = x * (qr * D1) from by ac_rfl]
    omega
  by_cases c : x = 0
  · right
    subst c
    rw [Nat.zero_mul, Nat.add_zero] at e
    rw [Nat.mul_zero, Nat.add_zero] at h1 h2
    refine ⟨e.symm, ?_⟩
    by_cases y1 : y = 1
    · subst y1
      rw [Nat.mul_one] at h1 h2
      right
      omega
    · left
      have y2 : 2 ≤ y := by
        apply Classical.byContradiction
        intro z
        have : y = 0 := by omega
        subst this
        omega
      have := Nat.mul_le_mul_left q y2
      omega
  · left
    have : 1 * (q * D2 + qr * D1) ≤ x * (q * D2 + qr * D1) := Nat.mul_le_mul_right _ (by omega)
    omega
/-- integers of the lattice -/
theorem latI {n d p q pr qr D1 D2 a b s : Int} (hs : s = 1 ∨ s = -1) (h1 : n * q - d * p = s * D1) (h2 : d * pr - n * qr = s * D2) (h3 : pr * q - p * qr = s) :
    b = q * (s * (b * pr - a * qr)) + qr * (s * (a * q - b * p)) ∧ a = p * (s * (b * pr - a * qr)) + pr * (s * (a * q - b * p)) ∧ n * b - a * d = s * ((s * (b * pr - a * qr)) * D1 - (s * (a * q - b * p)) * D2) ∧ q * D2 + qr * D1 = d := by
  rcases hs with rfl | rfl <;> refine ⟨?_, ?_, ?_, ?_⟩ <;> grind
end
