/-! continued fractions -/
def rr (n d : Nat) : Nat → Nat
  | 0 => n
  | 1 => d
  | i + 2 => rr n d i % rr n d (i + 1)
def tt (n d i : Nat) : Nat := rr n d i / rr n d (i + 1)
def ap (n d : Nat) : Nat → Nat
  | 0 => 0
  | 1 => 1
  | i + 2 => tt n d i * ap n d (i + 1) + ap n d i
def aq (n d : Nat) : Nat → Nat
  | 0 => 1
  | 1 => 0
  | i + 2 => tt n d i * aq n d (i + 1) + aq n d i
section
variable {n d : Nat}
theorem rr_2 (i : Nat) : rr n d (i + 2) = rr n d i % rr n d (i + 1) := rfl
theorem ap_2 (i : Nat) : ap n d (i + 2) = tt n d i * ap n d (i + 1) + ap n d i := rfl
theorem aq_2 (i : Nat) : aq n d (i + 2) = tt n d i * aq n d (i + 1) + aq n d i := rfl
theorem rr_t (i : Nat) : rr n d i = tt n d i * rr n d (i + 1) + rr n d (i + 2) := by
  rw [rr_2, tt, Nat.mul_comm]
  exact (Nat.div_add_mod _ _).symm
theorem rr_lt {i : Nat} (h : 0 < rr n d (i + 1)) : rr n d (i + 2) < rr n d (i + 1) := Nat.mod_lt _ h
theorem rr_K (hd : 1 ≤ d) (hd2 : d ≤ 1000000) : ∃ K, 1 ≤ K ∧ K ≤ 40 ∧ rr n d (K + 1) = 0 ∧ ∀ j, j < K → 0 < rr n d (j + 1) := by
  have hh : ∀ k, (∀ j, j < 2 * k → 0 < rr n d (j + 1)) → rr n d (2 * k + 1) * 2 ^ k ≤ d := by
    intro k
    induction k with
    | zero => intro _; show rr n d 1 * 1 ≤ d; rw [Nat.mul_one]; exact Nat.le_refl d
    | succ k ih =>
      intro hj
      have h1 := ih (fun j hj2 => hj j (by omega))
      have h2 := hj (2 * k) (by omega)
      have h3 := hj (2 * k + 1) (by omega)
      have h4 := rr_lt (n := n) (d := d) h2
      have h5 : 2 * rr n d (2 * k + 3) < rr n d (2 * k + 1) := mod2 h3 h4
      have h6 : rr n d (2 * (k + 1) + 1) * 2 ^ (k + 1) ≤ rr n d (2 * k + 1) * 2 ^ k := by
        rw [show 2 * (k + 1) + 1 = 2 * k + 3 from by omega, Nat.pow_succ, show rr n d (2 * k + 3) * (2 ^ k * 2) = 2 * rr n d (2 * k + 3) * 2 ^ k from by ac_rfl]
        exact Nat.mul_le_mul_right _ (by omega)
      omega
  have he : ∃ k, rr n d (k + 1) = 0 := by
    apply Classical.byContradiction
    intro hne
    have hj : ∀ j, 0 < rr n d (j + 1) := fun j => Nat.pos_of_ne_zero (fun z => hne ⟨j, z⟩)
    have h1 := hh 20 (fun j _ => hj j)
    have h2 := hj (2 * 20)
    have h3 : 1 * 2 ^ 20 ≤ rr n d (2 * 20 + 1) * 2 ^ 20 := Nat.mul_le_mul_right _ h2
    omega
  obtain ⟨K, hK, hl⟩ := pk_least (fun k => rr n d (k + 1) = 0) he
  have hp : ∀ j, j < K → 0 < rr n d (j + 1) := fun j hj => Nat.pos_of_ne_zero (hl j hj)
  refine ⟨K, ?_, ?_, hK, hp⟩
  · apply Nat.pos_of_ne_zero
    intro z
    subst z
    have h1 : d = 0 := hK
    omega
  · apply Classical.byContradiction
    intro hc
    have h1 := hh 20 (fun j hj => hp j (by omega))
    have h2 := hp (2 * 20) (by omega)
    have h3 : 1 * 2 ^ 20 ≤ rr n d (2 * 20 + 1) * 2 ^ 20 := Nat.mul_le_mul_right _ h2
    omega
theorem ap_n : ∀ i, n = ap n d (i + 1) * rr n d i + ap n d i * rr n d (i + 1) := by
  intro i
  induction i with
  | zero => show n = 1 * n + 0 * d; omega
  | succ i ih =>
    have h1 := rr_t (n := n) (d := d) i
    rw [ap_2, Nat.add_mul]
    have h2 : ap n d (i + 1) * rr n d i = ap n d (i + 1) * (tt n d i * rr n d (i + 1)) + ap n d (i + 1) * rr n d (i + 2) := by rw [← Nat.mul_add, ← h1]
    have h3 : tt n d i * ap n d (i + 1) * rr n d (i + 1) = ap n d (i + 1) * (tt n d i * rr n d (i + 1)) := by ac_rfl
    have h4 : rr n d (i + 1 + 1) = rr n d (i + 2) := rfl
    rw [h4]
    omega
theorem aq_d : ∀ i, d = aq n d (i + 1) * rr n d i + aq n d i * rr n d (i + 1) := by
  intro i
  induction i with
  | zero => show d = 0 * n + 1 * d; omega
  | succ i ih =>
    have h1 := rr_t (n := n) (d := d) i
    rw [aq_2, Nat.add_mul]
    have h2 : aq n d (i + 1) * rr n d i = aq n d (i + 1) * (tt n d i * rr n d (i + 1)) + aq n d (i + 1) * rr n d (i + 2) := by rw [← Nat.mul_add, ← h1]
    have h3 : tt n d i * aq n d (i + 1) * rr n d (i + 1) = aq n d (i + 1) * (tt n d i * rr n d (i + 1)) := by ac_rfl
    have h4 : rr n d (i + 1 + 1) = rr n d (i + 2) := rfl
    rw [h4]
    omega
theorem rr_g : ∀ i, Nat.gcd (rr n d i) (rr n d (i + 1)) = Nat.gcd n d := by
  intro i
  induction i with
  | zero => rfl
  | succ i ih => rw [← ih, show rr n d (i + 1 + 1) = rr n d i % rr n d (i + 1) from rfl, Nat.gcd_comm (rr n d i), Nat.gcd_rec (rr n d (i + 1)) (rr n d i), Nat.gcd_comm]
/-- the signs go by turns -/
theorem er_e : ∀ i, (i % 2 = 0 → n * aq n d i = d * ap n d i + rr n d i) ∧ (i % 2 = 1 → d * ap n d i = n * aq n d i + rr n d i) := by
  have hs : ∀ i, ((i % 2 = 0 → n * aq n d i = d * ap n d i + rr n d i) ∧ (i % 2 = 1 → d * ap n d i = n * aq n d i + rr n d i)) ∧ (((i + 1) % 2 = 0 → n * aq n d (i + 1) = d * ap n d (i + 1) + rr n d (i + 1)) ∧ ((i + 1) % 2 = 1 → d * ap n d (i + 1) = n * aq n d (i + 1) + rr n d (i + 1))) := by
    intro i
    induction i with
    | zero => exact ⟨⟨fun _ => by show n * 1 = d * 0 + n; omega, fun h => by omega⟩, ⟨fun h => by omega, fun _ => by show d * 1 = n * 0 + d; omega⟩⟩
    | succ i ih =>
      obtain ⟨⟨a1, a2⟩, ⟨b1, b2⟩⟩ := ih
      refine ⟨⟨b1, b2⟩, ?_⟩
      have h1 := rr_t (n := n) (d := d) i
      have e1 : n * aq n d (i + 1 + 1) = tt n d i * (n * aq n d (i + 1)) + n * aq n d i := by rw [aq_2, Nat.mul_add]; congr 1; ac_rfl
      have e2 : d * ap n d (i + 1 + 1) = tt n d i * (d * ap n d (i + 1)) + d * ap n d i := by rw [ap_2, Nat.mul_add]; congr 1; ac_rfl
      have e3 : rr n d (i + 1 + 1) = rr n d (i + 2) := rfl
      rw [e1, e2, e3]
      constructor
      · intro hp
        have c1 := a1 (by omega)
        have c2 := b2 (by omega)
        rw [c2, Nat.mul_add]
        omega
      · intro hp
        have c1 := a2 (by omega)
        have c2 := b1 (by omega)
        rw [c2, Nat.mul_add]
        omega
  exact fun i => (hs i).1
theorem de_e : ∀ i, (i % 2 = 0 → ap n d (i + 1) * aq n d i = ap n d i * aq n d (i + 1) + 1) ∧ (i % 2 = 1 → ap n d i * aq n d (i + 1) = ap n d (i + 1) * aq n d i + 1) := by
  intro i
  induction i with
  | zero => exact ⟨fun _ => rfl, fun h => by omega⟩
  | succ i ih =>
    obtain ⟨a1, a2⟩ := ih
    have e1 : ap n d (i + 1 + 1) * aq n d (i + 1) = tt n d i * (ap n d (i + 1) * aq n d (i + 1)) + ap n d i * aq n d (i + 1) := by rw [ap_2, Nat.add_mul]; congr 1; ac_rfl
    have e2 : ap n d (i + 1) * aq n d (i + 1 + 1) = tt n d i * (ap n d (i + 1) * aq n d (i + 1)) + ap n d (i + 1) * aq n d i := by rw [aq_2, Nat.mul_add]; congr 1; ac_rfl
    rw [e1, e2]
    constructor
    · intro hp
      have := a2 (by omega)
      omega
    · intro hp
      have := a1 (by omega)
      omega
theorem tt_1 {K : Nat} (hk : ∀ j, j < K → 0 < rr n d (j + 1)) {j : Nat} (h0 : 0 < j) (hj : j < K) : 1 ≤ tt n d j := by
  obtain ⟨i, rfl⟩ : ∃ i, j = i + 1 := ⟨j - 1, by omega⟩
  have a := rr_lt (n := n) (d := d) (hk i (by omega))
  exact Nat.div_pos (Nat.le_of_lt a) (hk (i + 1) hj)
theorem aq_m {K : Nat} (hk : ∀ j, j < K → 0 < rr n d (j + 1)) {j : Nat} (hj : j + 1 < K) : aq n d (j + 2) ≤ aq n d (j + 3) := by
  have a := tt_1 hk (show 0 < j + 1 by omega) hj
  rw [aq_2 (j + 1)]
  have b : 1 * aq n d (j + 2) ≤ tt n d (j + 1) * aq n d (j + 2) := Nat.mul_le_mul_right _ a
  have c : aq n d (j + 1 + 1) = aq n d (j + 2) := rfl
  rw [c]
  omega
theorem aq_1 {K : Nat} (hk : ∀ j, j < K → 0 < rr n d (j + 1)) : ∀ j, j < K → 1 ≤ aq n d (j + 2) := by
  intro j
  induction j with
  | zero => intro _; show 1 ≤ tt n d 0 * 0 + 1; omega
  | succ j ih =>
    intro hj
    have a := ih (by omega)
    have b := aq_m hk hj
    exact Nat.le_trans a b
/-- the numbers of one expansion -/
theorem cf_e (h : Fr n d) : ∃ K, 1 ≤ K ∧ K ≤ 40 ∧ rr n d (K + 1) = 0 ∧ rr n d K = 1 ∧ (∀ j, j < K → 0 < rr n d (j + 1)) ∧ ap n d (K + 1) = n ∧ aq n d (K + 1) = d ∧ (∀ j, j < K → ap n d (j + 2) ≤ n ∧ aq n d (j + 2) ≤ d ∧ 1 ≤ aq n d (j + 2) ∧ tt n d j ≤ 1000000) := by
  obtain ⟨h1, h2, h3, h4⟩ := h
  obtain ⟨K, k1, k2, k3, k4⟩ := rr_K (n := n) h1 h2
  have g := rr_g (n := n) (d := d) K
  rw [k3, Nat.gcd_zero_right, h4] at g
  have en := ap_n (n := n) (d := d) K
  have ed := aq_d (n := n) (d := d) K
  rw [k3, g] at en ed
  refine ⟨K, k1, k2, k3, g, k4, by omega, by omega, fun j hj => ?_⟩
  have p := k4 j hj
  have e1 : n = ap n d (j + 2) * rr n d (j + 1) + ap n d (j + 1) * rr n d (j + 2) := ap_n (j + 1)
  have e2 : d = aq n d (j + 2) * rr n d (j + 1) + aq n d (j + 1) * rr n d (j + 2) := aq_d (j + 1)
  have m1 : ap n d (j + 2) * 1 ≤ ap n d (j + 2) * rr n d (j + 1) := Nat.mul_le_mul_left _ p
  have m2 : aq n d (j + 2) * 1 ≤ aq n d (j + 2) * rr n d (j + 1) := Nat.mul_le_mul_left _ p
  refine ⟨?_, ?_, ?_, ?_⟩
  · omega
  · omega
  · exact aq_1 k4 j hj
  · have : tt n d j ≤ rr n d j := Nat.div_le_self _ _
    have hr : ∀ i, i < K + 1 → rr n d i ≤ 1000000 := by
      intro i
      induction i using Nat.strongRecOn with
      | _ i ih =>
        intro hi
        match i, ih, hi with
        | 0, _, _ => exact h3
        | 1, _, _ => exact h2
        | i + 2, ih, hi =>
          have a := ih (i + 1) (by omega) (by omega)
          have b := rr_lt (n := n) (d := d) (k4 i (by omega))
          omega
    have := hr j (by omega)
    omega
end
section
variable {n d : Nat}
theorem t_i {x y : Nat} (hx : x ≤ 1000000) (hy : 0 < y) (hy2 : y ≤ 1000000) : (lN x / lN y).toInt32 = nI (x / y) := by
  rw [pk_lDiv (by omega) hy (by omega), lN_i]
theorem nb_e {be : Nat → Int64} {i m : Nat} (hi : i < 40) (hb : ∀ j, j < i → be j = fz (ap n d (j + 2)) (aq n d (j + 2)) ∧ ap n d (j + 2) ≤ 1000000 ∧ 1 ≤ aq n d (j + 2) ∧ aq n d (j + 2) ≤ 1000000) (h1 : m * ap n d (i + 1) + ap n d i < 2199023255552) (h2 : m * aq n d (i + 1) + aq n d i < 1048576) : F_X2_nextBeginning be (nI i) (lN m) = some (fz (m * ap n d (i + 1) + ap n d i) (m * aq n d (i + 1) + aq n d i)) := by
  unfold F_X2_nextBeginning
  by_cases c0 : i = 0
  · subst c0
    have e1 : m * ap n d (0 + 1) + ap n d 0 = m := by show m * 1 + 0 = m; omega
    have e2 : m * aq n d (0 + 1) + aq n d 0 = 1 := by show m * 0 + 1 = 1; omega
    rw [e1] at h1
    rw [if_neg (show ¬ (1 : Int32) ≤ nI 0 from by show ¬ nI 1 ≤ nI 0; rw [nI_leI (by omega) (by omega)]; omega), e1, e2, show (1 : Int64) = lN 1 from rfl, pair_fz h1 (by omega)]
  · obtain ⟨j, rfl⟩ : ∃ j, i = j + 1 := ⟨i - 1, by omega⟩
    obtain ⟨b1, b2, b3, b4⟩ := hb j (by omega)
    have ej : nI (j + 1) - (1 : Int32) = nI j := nI_pred j
    rw [if_pos (show (1 : Int32) ≤ nI (j + 1) from by show nI 1 ≤ nI (j + 1); rw [nI_leI (by omega) (by omega)]; omega), ej, inb (by omega) (by omega), cl_nI (by omega), b1, num_fz (by omega) (by omega), den_fz (by omega) b3 (by omega), lN_mul, lN_mul]
    by_cases c1 : j = 0
    · subst c1
      rw [if_pos (show nI (0 + 1) = (1 : Int32) from rfl), show (1 : Int64) = lN 1 from rfl, lN_add]
      exact congrArg some (pair_fz (n := m * ap n d (0 + 2) + 1) (d := m * aq n d (0 + 2)) h1 h2)
    · obtain ⟨k, rfl⟩ : ∃ k, j = k + 1 := ⟨j - 1, by omega⟩
      obtain ⟨c1, c2, c3, c4⟩ := hb k (by omega)
      have ek : nI (k + 1 + 1) - (2 : Int32) = nI k := by
        rw [show (2 : Int32) = nI 2 from rfl, pk_sub (by omega)]; congr 1
      rw [if_neg (show ¬ nI (k + 1 + 1) = (1 : Int32) from by show ¬ nI (k + 1 + 1) = nI 1; rw [nI_eq (by omega) (by omega)]; omega), ek, inb (by omega) (by omega), cl_nI (by omega), c1, num_fz (by omega) (by omega), den_fz (by omega) c3 (by omega), lN_add, lN_add]
      have e1 : ap n d (k + 1 + 1) = ap n d (k + 2) := rfl
      have e2 : aq n d (k + 1 + 1) = aq n d (k + 2) := rfl
      rw [e1] at h1 ⊢
      rw [e2] at h2 ⊢
      rw [pair_fz h1 h2]
def CFR (n d K : Nat) (te : Nat → Int32) (be : Nat → Int64) (mtm : Nat → Int32) : Prop := (∀ j, j < K → te j = nI (tt n d j) ∧ mtm j = nI (tt n d j) ∧ be j = fz (ap n d (j + 2)) (aq n d (j + 2)))
theorem exp_e (h : Fr n d) {K : Nat} (k1 : 1 ≤ K) (k2 : K ≤ 40) (k3 : rr n d (K + 1) = 0) (k4 : ∀ j, j < K → 0 < rr n d (j + 1)) (k5 : ∀ j, j < K → ap n d (j + 2) ≤ n ∧ aq n d (j + 2) ≤ d ∧ 1 ≤ aq n d (j + 2) ∧ tt n d j ≤ 1000000) (k6 : ∀ j, j < K + 1 → rr n d j ≤ 1000000) :
    ∀ (m i f : Nat) (te : Nat → Int32) (be : Nat → Int64), i + m = K → m < f → (∀ j, j < i → te j = nI (tt n d j) ∧ be j = fz (ap n d (j + 2)) (aq n d (j + 2))) → ∃ te' be', L_X2_expand_19 f (lN (rr n d i)) (lN (rr n d (i + 1))) (nI i) te be (nI i) = some (te', be', nI K) ∧ ∀ j, j < K → te' j = nI (tt n d j) ∧ be' j = fz (ap n d (j + 2)) (aq n d (j + 2)) := by
  obtain ⟨h1, h2, h3, h4⟩ := h
  intro m
  induction m with
  | zero =>
    intro i f te be hi hf hb
    obtain ⟨f, rfl⟩ : ∃ k, f = k + 1 := ⟨f - 1, by omega⟩
    have e : i = K := by omega
    subst e
    refine ⟨te, be, ?_, hb⟩
    rw [L_X2_expand_19_s, k3, if_pos (show lN 0 = (0 : Int64) from rfl), ite_self]
  | succ m ih =>
    intro i f te be hi hf hb
    obtain ⟨f, rfl⟩ : ∃ k, f = k + 1 := ⟨f - 1, by omega⟩
    have p := k4 i (by omega)
    have q := k6 i (by omega)
    have q2 := k6 (i + 1) (by omega)
    obtain ⟨c1, c2, c3, c4⟩ := k5 i (by omega)
    have e1 : ap n d (i + 2) = tt n d i * ap n d (i + 1) + ap n d i := rfl
    have e2 : aq n d (i + 2) = tt n d i * aq n d (i + 1) + aq n d i := rfl
    have nb := nb_e (n := n) (d := d) (be := be) (i := i) (m := tt n d i) (by omega) (fun j hj => by
      obtain ⟨u1, u2, u3, u4⟩ := k5 j (by omega)
      exact ⟨(hb j hj).2, by omega, u3, by omega⟩) (by omega) (by omega)
    rw [L_X2_expand_19_s, if_neg (show ¬ (40 : Int32) ≤ nI i from by show ¬ nI 40 ≤ nI i; rw [nI_leI (by omega) (by omega)]; omega), if_neg (show ¬ lN (rr n d (i + 1)) = (0 : Int64) from by show ¬ lN (rr n d (i + 1)) = lN 0; rw [pk_lEQ (by omega) (by omega)]; omega), if_neg (show ¬ lN (rr n d (i + 1)) = (0 : Int64) from by show ¬ lN (rr n d (i + 1)) = lN 0; rw [pk_lEQ (by omega) (by omega)]; omega), inb (by omega) (by omega), cl_nI (by omega), t_i q p q2, pk_us, nI_l (show rr n d i / rr n d (i + 1) < 2 ^ 31 from (by have : tt n d i ≤ 1000000 := c4; unfold tt at this; omega)), show rr n d i / rr n d (i + 1) = tt n d i from rfl, nb, bd1_s, pk_lRem (by omega) p (by omega), ← rr_2, ← e1, ← e2, show nI i + (1 : Int32) = nI (i + 1) from nI_1 i]
    exact ih (i + 1) f _ _ (by omega) (by omega) (fun j hj => by
      by_cases c : j = i
      · subst c; exact ⟨pk_us, pk_uLs⟩
      · rw [pk_un c, pk_uLn c]; exact hb j (by omega))
theorem rr_b (h : Fr n d) {K : Nat} (k4 : ∀ j, j < K → 0 < rr n d (j + 1)) : ∀ i, i < K + 1 → rr n d i ≤ 1000000 := by
  obtain ⟨h1, h2, h3, h4⟩ := h
  intro i
  induction i using Nat.strongRecOn with
  | _ i ih =>
    intro hi
    match i, ih, hi with
    | 0, _, _ => exact h3
    | 1, _, _ => exact h2
    | i + 2, ih, hi =>
      have a := ih (i + 1) (by omega) (by omega)
      have b := rr_lt (n := n) (d := d) (k4 i (by omega))
      omega
end
