/-! p38: the order of the plates -/
def cntb (P : Nat → Bool) : Nat → Nat → Nat
  | 0, _ => 0
  | m + 1, x => (if P x then 1 else 0) + cntb P m (x + 1)
theorem cntb_t : ∀ (m x : Nat), cntb (fun _ => true) m x = m := by
  intro m
  induction m with
  | zero => intro x; rfl
  | succ m ih => intro x; show (if true = true then 1 else 0) + cntb (fun _ => true) m (x + 1) = m + 1; rw [ih, if_pos rfl]; omega
theorem cntb_m {P Q : Nat → Bool} : ∀ (m x : Nat), (∀ j, x ≤ j → j < x + m → P j = true → Q j = true) → cntb P m x ≤ cntb Q m x := by
  intro m
  induction m with
  | zero => intro x h; exact Nat.le_refl _
  | succ m ih =>
    intro x h
    have a := ih (x + 1) (fun j h1 h2 => h j (by omega) (by omega))
    have b := h x (by omega) (by omega)
    show (if P x then 1 else 0) + cntb P m (x + 1) ≤ (if Q x then 1 else 0) + cntb Q m (x + 1)
    by_cases c : P x = true
    · rw [if_pos c, if_pos (b c)]; omega
    · rw [if_neg c]; omega
theorem cntb_l {P Q : Nat → Bool} : ∀ (m x i : Nat), (∀ j, x ≤ j → j < x + m → P j = true → Q j = true) → x ≤ i → i < x + m → P i = false → Q i = true → cntb P m x < cntb Q m x := by
  intro m
  induction m with
  | zero => intro x i h h1 h2; omega
  | succ m ih =>
    intro x i h h1 h2 h3 h4
    have b := h x (by omega) (by omega)
    show (if P x then 1 else 0) + cntb P m (x + 1) < (if Q x then 1 else 0) + cntb Q m (x + 1)
    by_cases z : x = i
    · subst z
      have a := cntb_m (P := P) (Q := Q) m (x + 1) (fun j h1 h2 => h j (by omega) (by omega))
      rw [if_pos h4, h3, if_neg (by decide)]; omega
    · have a := ih (x + 1) i (fun j h1 h2 => h j (by omega) (by omega)) (by omega) (by omega) h3 h4
      by_cases c : P x = true
      · rw [if_pos c, if_pos (b c)]; omega
      · rw [if_neg c]; omega
theorem pig : ∀ (n : Nat) (f : Nat → Nat), (∀ i, i < n → f i < n) → (∀ i j, i < n → j < n → f i = f j → i = j) → ∀ k, k < n → ∃ i, i < n ∧ f i = k := by
  intro n
  induction n with
  | zero => intro f _ _ k hk; omega
  | succ n ih =>
    intro f h1 h2 k hk
    have g := ih (fun i => if f i = n then f n else f i) (fun i hi => by
      show (if f i = n then f n else f i) < n
      by_cases c : f i = n
      · rw [if_pos c]
        have a := h1 n (by omega)
        have b : f n ≠ n := fun z => by have := h2 i n (by omega) (by omega) (by rw [c, z]); omega
        omega
      · rw [if_neg c]; have := h1 i (by omega); omega) (fun i j hi hj e => by
      have e : (if f i = n then f n else f i) = (if f j = n then f n else f j) := e
      by_cases c : f i = n
      · by_cases c2 : f j = n
        · exact h2 i j (by omega) (by omega) (by rw [c, c2])
        · rw [if_pos c, if_neg c2] at e
          have := h2 n j (by omega) (by omega) e; omega
      · by_cases c2 : f j = n
        · rw [if_neg c, if_pos c2] at e
          have := h2 i n (by omega) (by omega) e; omega
        · rw [if_neg c, if_neg c2] at e
          exact h2 i j (by omega) (by omega) e)
    by_cases c0 : f n = k
    · exact ⟨n, by omega, c0⟩
    · by_cases ck : k = n
      · subst ck
        obtain ⟨i, hi, e⟩ := g (f k) (by have := h1 k (by omega); omega)
        have e : (if f i = k then f k else f i) = f k := e
        by_cases c : f i = k
        · exact ⟨i, by omega, c⟩
        · rw [if_neg c] at e
          have := h2 i k (by omega) (by omega) e; omega
      · obtain ⟨i, hi, e⟩ := g k (by omega)
        have e : (if f i = n then f n else f i) = k := e
        by_cases c : f i = n
        · rw [if_pos c] at e; exact absurd e c0
        · rw [if_neg c] at e; exact ⟨i, by omega, e⟩
section
variable {N E : Nat → Nat}
def bf (N E : Nat → Nat) (i x : Nat) : Bool := decide (N x * E i < N i * E x ∨ (N x * E i = N i * E x ∧ i < x))
theorem le_t {a b c : Nat} (hb : 1 ≤ E b) (h1 : N b * E a ≤ N a * E b) (h2 : N c * E b ≤ N b * E c) : N c * E a ≤ N a * E c := by
  have m : ∀ u v w : Nat, u * v * w = u * w * v := fun u v w => by ac_rfl
  have s1 : N b * E a * E c ≤ N a * E b * E c := Nat.mul_le_mul_right _ h1
  have s2 : N c * E b * E a ≤ N b * E c * E a := Nat.mul_le_mul_right _ h2
  have s3 : N c * E a * E b ≤ N a * E c * E b := by rw [m (N c) (E a), m (N a) (E c)]; rw [m (N b) (E a)] at s1; omega
  exact Nat.le_of_mul_le_mul_right s3 hb
theorem bf_t (hE : ∀ p, p < 6 → 1 ≤ E p) {i j k : Nat} (hi : i < 6) (hj : j < 6) (hk : k < 6) (h1 : bf N E i j = true) (h2 : bf N E j k = true) : bf N E i k = true := by
  unfold bf at *
  rw [decide_eq_true_eq] at *
  have a : N k * E i ≤ N i * E k := le_t (hE j hj) (by omega) (by omega)
  by_cases c : N k * E i < N i * E k
  · exact Or.inl c
  · have b1 : N i * E j ≤ N j * E i := le_t (a := j) (b := k) (c := i) (hE k hk) (by omega) (by omega)
    have b2 : N j * E k ≤ N k * E j := le_t (a := k) (b := i) (c := j) (hE i hi) (by omega) (by omega)
    right
    omega
theorem bf_0 (i : Nat) : bf N E i i = false := by
  unfold bf
  rw [decide_eq_false_iff_not]
  omega
theorem bf_or {i j : Nat} (h : i ≠ j) : bf N E i j = true ∨ bf N E j i = true := by
  unfold bf
  rw [decide_eq_true_eq, decide_eq_true_eq]
  omega
def rk (N E : Nat → Nat) (a : Nat) : Nat := cntb (fun j => bf N E j a) 6 0
theorem rk_6 {a : Nat} (ha : a < 6) : rk N E a < 6 := by
  have h := cntb_l (P := fun j => bf N E j a) (Q := fun _ => true) 6 0 a (fun _ _ _ _ => rfl) (by omega) (by omega) (bf_0 a) rfl
  rw [cntb_t] at h
  exact h
theorem rk_lt (hE : ∀ p, p < 6 → 1 ≤ E p) {a b : Nat} (ha : a < 6) (hb : b < 6) (h : bf N E a b = true) : rk N E a < rk N E b :=
  cntb_l (P := fun j => bf N E j a) (Q := fun j => bf N E j b) 6 0 a (fun j _ hj h1 => bf_t hE (by omega) ha hb h1 h) (by omega) (by omega) (bf_0 a) h
theorem rk_inj (hE : ∀ p, p < 6 → 1 ≤ E p) {a b : Nat} (ha : a < 6) (hb : b < 6) (h : rk N E a = rk N E b) : a = b := by
  apply Classical.byContradiction
  intro c
  rcases bf_or (N := N) (E := E) c with z | z
  · have := rk_lt hE ha hb z; omega
  · have := rk_lt hE hb ha z; omega
end
section
variable {pl : Nat → Int64} {N E : Nat → Nat}
theorem ahead_l (h : PX pl N E) {a : Nat} (ha : a < 6) : ∀ (m i f c : Nat), i + m = 6 → m < f → L_X6_platesAhead_4 f (nI a) (nI c) (nI i) pl = some (nI (c + cntb (fun j => bf N E j a) m i)) := by
  intro m
  induction m with
  | zero =>
    intro i f c hi hf
    obtain ⟨f, rfl⟩ : ∃ k, f = k + 1 := ⟨f - 1, by omega⟩
    have e : i = 6 := by omega
    subst e
    rw [L_X6_platesAhead_4_s, if_pos (show (6 : Int32) ≤ nI 6 from by show nI 6 ≤ nI 6; rw [nI_leI (by omega) (by omega)]; omega)]
    rfl
  | succ m ih =>
    intro i f c hi hf
    obtain ⟨f, rfl⟩ : ∃ k, f = k + 1 := ⟨f - 1, by omega⟩
    obtain ⟨pa, pd⟩ := h i (by omega)
    obtain ⟨qa, qd⟩ := h a ha
    rw [L_X6_platesAhead_4_s, if_neg (show ¬ (6 : Int32) ≤ nI i from by show ¬ nI 6 ≤ nI i; rw [nI_leI (by omega) (by omega)]; omega), inb (by omega) (by omega), inb ha (by omega), cl_nI (by omega), cl_nI (by omega), pa, qa, ord_e pd qd, show nI i + (1 : Int32) = nI (i + 1) from nI_1 i]
    have st : (if (0 : Int32) < cmpz (N i) (E i) (N a) (E a) then nI c + (1 : Int32) else (if cmpz (N i) (E i) (N a) (E a) = (0 : Int32) then (if nI a ≤ nI i then nI c else nI c + (1 : Int32)) else nI c)) = nI (c + (if bf N E i a = true then 1 else 0)) := by
      have hb : bf N E i a = true ↔ (N a * E i < N i * E a ∨ (N a * E i = N i * E a ∧ i < a)) := by unfold bf; rw [decide_eq_true_eq]
      unfold cmpz
      by_cases c1 : N i * E a < N a * E i
      · rw [if_pos c1, if_neg (by decide), if_neg (by decide), if_neg (fun z => by have := hb.mp z; omega)]; rfl
      · rw [if_neg c1]
        by_cases c2 : N i * E a = N a * E i
        · rw [if_pos c2, if_neg (by decide), if_pos rfl]
          by_cases c3 : a ≤ i
          · rw [if_pos (by rw [nI_leI (by omega) (by omega)]; exact c3), if_neg (fun z => by have := hb.mp z; omega)]; rfl
          · rw [if_neg (by rw [nI_leI (by omega) (by omega)]; exact c3), if_pos (hb.mpr (by omega))]; exact nI_1 c
        · rw [if_neg c2, if_pos (by decide), if_pos (hb.mpr (by omega))]; exact nI_1 c
    rw [st, ih (i + 1) f _ (by omega) (by omega)]
    show some (nI (c + (if bf N E i a = true then 1 else 0) + cntb (fun j => bf N E j a) m (i + 1))) = some (nI (c + ((if bf N E i a = true then 1 else 0) + cntb (fun j => bf N E j a) m (i + 1))))
    rw [Nat.add_assoc]
theorem ahead_x (h : PX pl N E) {a : Nat} (ha : a < 6) : F_X6_platesAhead pl (nI a) = some (nI (rk N E a)) := by
  unfold F_X6_platesAhead
  have e := ahead_l h ha 6 0 FU 0 (by omega) (by rw [FU_eq]; omega)
  rw [Nat.zero_add] at e
  rw [show L_X6_platesAhead_4 FU (nI a) (0 : Int32) (0 : Int32) pl = some (nI (rk N E a)) from e, bd1_s]
theorem pba_t (h : PX pl N E) {k : Nat} (hk : k < 6) : ∀ (m x f : Nat) (acc : Int32), x + m = 6 → m < f → (∀ y, x ≤ y → y < 6 → rk N E y ≠ k) → L_X6_plateByAmount_24 f (nI k) acc (nI x) pl = some acc := by
  intro m
  induction m with
  | zero =>
    intro x f acc hx hf hy
    obtain ⟨f, rfl⟩ : ∃ k, f = k + 1 := ⟨f - 1, by omega⟩
    have e : x = 6 := by omega
    subst e
    rw [L_X6_plateByAmount_24_s, if_pos (show (6 : Int32) ≤ nI 6 from by show nI 6 ≤ nI 6; rw [nI_leI (by omega) (by omega)]; omega)]
  | succ m ih =>
    intro x f acc hx hf hy
    obtain ⟨f, rfl⟩ : ∃ k, f = k + 1 := ⟨f - 1, by omega⟩
    have r6 := rk_6 (N := N) (E := E) (show x < 6 by omega)
    rw [L_X6_plateByAmount_24_s, if_neg (show ¬ (6 : Int32) ≤ nI x from by show ¬ nI 6 ≤ nI x; rw [nI_leI (by omega) (by omega)]; omega), ahead_x h (by omega), bd1_s, if_neg (by rw [nI_eq (by omega) (by omega)]; exact hy x (by omega) (by omega)), show nI x + (1 : Int32) = nI (x + 1) from nI_1 x]
    exact ih (x + 1) f acc (by omega) (by omega) (fun y h1 h2 => hy y (by omega) h2)
theorem pba_l (h : PX pl N E) {k y : Nat} (hk : k < 6) (hy : y < 6) (hr : rk N E y = k) : ∀ (m x f : Nat) (acc : Int32), x + m = 6 → m < f → x ≤ y → L_X6_plateByAmount_24 f (nI k) acc (nI x) pl = some (nI y) := by
  have hE : ∀ p, p < 6 → 1 ≤ E p := fun p hp => (h p hp).2.1
  intro m
  induction m with
  | zero => intro x f acc hx hf hxy; omega
  | succ m ih =>
    intro x f acc hx hf hxy
    obtain ⟨f, rfl⟩ : ∃ k, f = k + 1 := ⟨f - 1, by omega⟩
    have r6 := rk_6 (N := N) (E := E) (show x < 6 by omega)
    rw [L_X6_plateByAmount_24_s, if_neg (show ¬ (6 : Int32) ≤ nI x from by show ¬ nI 6 ≤ nI x; rw [nI_leI (by omega) (by omega)]; omega), ahead_x h (by omega), bd1_s, show nI x + (1 : Int32) = nI (x + 1) from nI_1 x]
    by_cases c : x = y
    · subst c
      rw [hr, if_pos rfl]
      exact pba_t h hk m (x + 1) f _ (by omega) (by omega) (fun z h1 h2 h3 => by have := rk_inj hE h2 hy (by rw [h3, hr]); omega)
    · rw [if_neg (by rw [nI_eq (by omega) (by omega)]; intro z; exact c (rk_inj hE (by omega) hy (by rw [z, hr])))]
      exact ih (x + 1) f acc (by omega) (by omega) (by omega)
/-- the plates in their order -/
theorem pba_x (h : PX pl N E) : ∃ T : Nat → Nat, (∀ k, k < 6 → T k < 6 ∧ rk N E (T k) = k) ∧ ∀ k, k < 6 → F_X6_plateByAmount pl (nI k) = some (0, nI (T k)) := by
  have hE : ∀ p, p < 6 → 1 ≤ E p := fun p hp => (h p hp).2.1
  have pg := pig 6 (rk N E) (fun i hi => rk_6 hi) (fun i j hi hj e => rk_inj hE hi hj e)
  refine ⟨fun k => if hk : k < 6 then Classical.choose (pg k hk) else 0, fun k hk => ?_, fun k hk => ?_⟩
  · dsimp only
    rw [dif_pos hk]
    exact Classical.choose_spec (pg k hk)
  · dsimp only
    rw [dif_pos hk]
    obtain ⟨s1, s2⟩ := Classical.choose_spec (pg k hk)
    unfold F_X6_plateByAmount
    rw [if_neg (show ¬ nI k < (0 : Int32) from by show ¬ nI k < nI 0; rw [nI_ltI (by omega) (by omega)]; omega), if_pos (show nI k < (6 : Int32) from by show nI k < nI 6; rw [nI_ltI (by omega) (by omega)]; omega), show L_X6_plateByAmount_24 FU (nI k) (-1 : Int32) (0 : Int32) pl = some (nI (Classical.choose (pg k hk))) from pba_l h hk s1 s2 6 0 FU (-1) (by omega) (by rw [FU_eq]; omega) (by omega), bd1_s]
end
/-- what was seen -/
def sn (T : Nat → Nat) : Nat → Nat
  | 0 => 0
  | k + 1 => sn T k ||| 2 ^ T k
theorem sn_b (T : Nat → Nat) (b : Nat) : ∀ k, (sn T k).testBit b = true ↔ ∃ j, j < k ∧ T j = b := by
  intro k
  induction k with
  | zero =>
    constructor
    · intro h; rw [sn, Nat.zero_testBit] at h; cases h
    · rintro ⟨j, h, -⟩; omega
  | succ k ih =>
    rw [sn, Nat.testBit_or, Bool.or_eq_true, ih, Nat.testBit_two_pow, decide_eq_true_eq]
    constructor
    · rintro (⟨j, h1, h2⟩ | h)
      · exact ⟨j, by omega, h2⟩
      · exact ⟨k, by omega, h⟩
    · rintro ⟨j, h1, h2⟩
      by_cases c : j = k
      · subst c; exact Or.inr h2
      · exact Or.inl ⟨j, by omega, h2⟩
theorem sn_6 {T : Nat → Nat} (h1 : ∀ k, k < 6 → T k < 6) (h2 : ∀ b, b < 6 → ∃ j, j < 6 ∧ T j = b) : sn T 6 = 63 := by
  apply Nat.eq_of_testBit_eq
  intro b
  have e : (63 : Nat).testBit b = decide (b < 6) := by rw [show (63 : Nat) = 2 ^ 6 - 1 from rfl, Nat.testBit_two_pow_sub_one]
  rw [e]
  by_cases c : b < 6
  · rw [decide_eq_true c]; exact (sn_b T b 6).mpr (h2 b c)
  · rw [decide_eq_false c]
    apply Bool.eq_false_iff.mpr
    intro z
    obtain ⟨j, hj, ej⟩ := (sn_b T b 6).mp z
    have := h1 j hj
    omega
theorem sh_e : ∀ t, t < 6 → ((1 : Int32) <<< (nI t &&& 31)) = nI (2 ^ t) := by decide +kernel
theorem i_or (a b : Nat) : nI a ||| nI b = nI (a ||| b) := Int32.toBitVec_inj.mp (by rw [Int32.toBitVec_or]; exact BitVec.ofNat_or.symm)
theorem cmpz_n (n d n' d' : Nat) : cmpz n d n' d' = -cmpz n' d' n d := by
  unfold cmpz
  by_cases c1 : n * d' < n' * d
  · rw [if_pos c1, if_neg (by omega), if_neg (by omega)]
  · rw [if_neg c1]
    by_cases c2 : n * d' = n' * d
    · rw [if_pos c2, if_neg (by omega), if_pos c2.symm]; rfl
    · rw [if_neg c2, if_pos (by omega)]; rfl
