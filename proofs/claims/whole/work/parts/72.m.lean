/-! the changes: set, add, takeAway, multiply, copyTo, invert, share -/
def REL (pl : Nat → Int64) (ch : Nat → Int32) (le : Int32) (hs : Nat → Int64) (ho hc : Int32) (sl : Nat → Int64) (fi : Nat → Int32) (ms mst : Nat → Int32) (smn : Int32) (msl mhs mtx : Nat → Int32) (mle : Int32) : Prop := (∃ N E, PL pl ms N E) ∧ HR hs ho hc mst smn ∧ TR ch le mtx mle ∧ SR sl fi msl mhs
def lowv (n d : Nat) : Int64 := if n / Nat.gcd n d ≤ 1000000 ∧ d / Nat.gcd n d ≤ 1000000 then fz (n / Nat.gcd n d) (d / Nat.gcd n d) else -1
def lowb (n d : Nat) : Int32 := if n / Nat.gcd n d ≤ 1000000 ∧ d / Nat.gcd n d ≤ 1000000 then 1 else 0
theorem mul12 {a b : Nat} (ha : a ≤ 1000000) (hb : b ≤ 1000000) : a * b ≤ 1000000000000 := Nat.mul_le_mul ha hb
theorem l_sub {a b : Nat} (ha : a < 2 ^ 62) (hb : b < 2 ^ 62) : (lN a - lN b).toInt = (a : Int) - b := by
  rw [Int64.toInt_sub, pk_lT (by omega), pk_lT (by omega)]
  apply Int.bmod_eq_of_le <;> omega
theorem sub_ge {a b : Nat} (ha : a < 2 ^ 62) (hb : b < 2 ^ 62) : (0 : Int64) ≤ lN a - lN b ↔ b ≤ a := by
  rw [Int64.le_iff_toInt_le, l_sub ha hb, show (0 : Int64).toInt = 0 from by decide]; omega
theorem sub_le {a b : Nat} (ha : a < 2 ^ 62) (hb : b < 2 ^ 62) : lN a - lN b ≤ (0 : Int64) ↔ a ≤ b := by
  rw [Int64.le_iff_toInt_le, l_sub ha hb, show (0 : Int64).toInt = 0 from by decide]; omega
def cmpz (n d n' d' : Nat) : Int32 := if n * d' < n' * d then -1 else if n * d' = n' * d then 0 else 1
theorem ord_e {n d n' d' : Nat} (h : Fr n d) (h' : Fr n' d') : F_X3_order (fz n d) (fz n' d') = cmpz n d n' d' := by
  obtain ⟨a1, a2, a3, a4⟩ := h
  obtain ⟨b1, b2, b3, b4⟩ := h'
  have m1 := mul12 a3 b2
  have m2 := mul12 b3 a2
  unfold F_X3_order cmpz
  rw [num_fz (by omega) (by omega), num_fz (by omega) (by omega), den_fz (by omega) a1 (by omega), den_fz (by omega) b1 (by omega), lN_mul, lN_mul]
  by_cases c1 : n * d' = n' * d
  · rw [if_pos (by rw [c1]), if_neg (by omega), if_pos c1]
  · rw [if_neg (by rw [pk_lEQ (by omega) (by omega)]; exact c1), if_neg c1]
    by_cases c2 : n * d' < n' * d
    · rw [if_neg (by rw [pk_lLE (by omega) (by omega)]; omega), if_pos c2]
    · rw [if_pos (by rw [pk_lLE (by omega) (by omega)]; omega), if_neg c2]
theorem hold_e {pl : Nat → Int64} {ms : Nat → Int32} {N E : Nat → Nat} (h : PL pl ms N E) {p q : Nat} (hp : p < 6) (hq : q < 6) : F_X7_holds ms (nI p) (nI q) = some (cmpz (N p) (E p) (N q) (E q)) := by
  obtain ⟨-, p2, p3, a1, a2, a3, a4⟩ := h p hp
  obtain ⟨-, q2, q3, b1, b2, b3, b4⟩ := h q hq
  have m1 := mul12 a3 b2
  have m2 := mul12 b3 a2
  unfold F_X7_holds cmpz
  rw [ab_e hp, bd1_s, be_e hq, bd1_s, ab_e hq, bd1_s, be_e hp, bd1_s, p2, p3, q2, q3, nI_l (by omega), nI_l (by omega), nI_l (by omega), nI_l (by omega), lN_mul, lN_mul]
  by_cases c1 : N p * E q < N q * E p
  · rw [if_neg (by rw [sub_ge (by omega) (by omega)]; omega), if_pos c1]
  · rw [if_pos (by rw [sub_ge (by omega) (by omega)]; omega), if_neg c1]
    by_cases c2 : N p * E q = N q * E p
    · rw [if_pos (by rw [sub_le (by omega) (by omega)]; omega), if_pos c2]
    · rw [if_neg (by rw [sub_le (by omega) (by omega)]; omega), if_neg c2]
/-- a pair of a change: what the class and the model come to -/
def ChP (X : Option (Nat × Int32 × (Nat → Int64) × (Nat → Int64) × Int32 × Int32)) (Mo : Option (Int32 × Int32 × (Nat → Int32) × (Nat → Int32) × Int32 × Int64 × Int64)) (ks : List (Nat × Int32)) : Prop :=
  ∃ (k : Nat) (code r b : Int32) (pl' hs' : Nat → Int64) (ho' hc' : Int32) (ms' mst' : Nat → Int32) (smn' : Int32) (mtp' mbt' : Int64), (k, code) ∈ ks ∧ X = some (k, r, pl', hs', ho', hc') ∧ Mo = some (b, code, ms', mst', smn', mtp', mbt') ∧ (k = 0 → r = b) ∧ (∃ N E, PL pl' ms' N E) ∧ HR hs' ho' hc' mst' smn'
section
variable {pl hs : Nat → Int64} {ho hc smn th : Int32} {ms mst : Nat → Int32} {N E : Nat → Nat} {mtp mbt : Int64}
/-- n / d put onto p, if it can be -/
theorem cip (hPL : PL pl ms N E) (hHR : HR hs ho hc mst smn) {p n d : Nat} (hp : p < 6) (hd : 1 ≤ d) :
    ∃ hs' ho' hc' mst' smn', F_X7_records ms mst smn = some (mst', smn') ∧ HR hs' ho' hc' mst' smn' ∧ F_X4_record pl hs ho hc = some (hs', ho', hc') ∧
      ((lowb n d = 0 ∧ F_X6_changeIfPossible pl hs ho hc (nI p) (lowv n d) = some (3, 0, pl, hs, ho, hc)) ∨
       (lowb n d = 1 ∧ ∃ n' d', Fr n' d' ∧ lowv n d = fz n' d' ∧ lN n' = lN (n / Nat.gcd n d) ∧ lN d' = lN (d / Nat.gcd n d) ∧ F_X6_change pl hs ho hc (nI p) (lowv n d) = some (nI d', vp_updL pl p (fz n' d'), hs', ho', hc') ∧ F_X6_changeIfPossible pl hs ho hc (nI p) (lowv n d) = some (0, nI d', vp_updL pl p (fz n' d'), hs', ho', hc') ∧ F_X7_puts ms (lN (n / Nat.gcd n d)) (lN (d / Nat.gcd n d)) (nI p) = some (nI d', upd (upd ms (2 * p) (nI n')) (2 * p + 1) (nI d')) ∧
          ∃ N' E', PL (vp_updL pl p (fz n' d')) (upd (upd ms (2 * p) (nI n')) (2 * p + 1) (nI d')) N' E')) := by
  obtain ⟨hs', ho', hc', mst', smn', r1, r2, r3⟩ := rec_e hPL hHR
  refine ⟨hs', ho', hc', mst', smn', r2, r3, r1, ?_⟩
  unfold lowb lowv F_X6_changeIfPossible
  by_cases c : n / Nat.gcd n d ≤ 1000000 ∧ d / Nat.gcd n d ≤ 1000000
  · right
    have hf := fr_low hd c
    rw [if_pos c, if_pos c, ch_e hp hf r1, if_neg (fz_ne c.1 c.2), bd5_s]
    exact ⟨rfl, _, _, hf, rfl, rfl, rfl, rfl, rfl, pu_e hp, _, _, pl_put hPL hp hf⟩
  · left
    rw [if_neg c, if_neg c, if_pos rfl]
    exact ⟨rfl, rfl⟩
theorem X_sum {n d n' d' : Nat} (h : Fr n d) (h' : Fr n' d') : F_X3_sum (fz n d) (fz n' d') = some (lowv (n * d' + n' * d) (d * d')) := by
  obtain ⟨a1, a2, a3, a4⟩ := h
  obtain ⟨b1, b2, b3, b4⟩ := h'
  have m1 := mul12 a3 b2
  have m2 := mul12 b3 a2
  have m3 := mul12 a2 b2
  unfold F_X3_sum lowv
  rw [num_fz (by omega) (by omega), num_fz (by omega) (by omega), den_fz (by omega) a1 (by omega), den_fz (by omega) b1 (by omega), lN_mul, lN_mul, lN_mul, lN_add, low_e (Nat.mul_pos a1 b1) (by omega) (by omega), bd1_s]
theorem X_prod {n d n' d' : Nat} (h : Fr n d) (h' : Fr n' d') : F_X3_product (fz n d) (fz n' d') = some (lowv (n * n') (d * d')) := by
  obtain ⟨a1, a2, a3, a4⟩ := h
  obtain ⟨b1, b2, b3, b4⟩ := h'
  have m1 := mul12 a3 b3
  have m3 := mul12 a2 b2
  unfold F_X3_product lowv
  rw [num_fz (by omega) (by omega), num_fz (by omega) (by omega), den_fz (by omega) a1 (by omega), den_fz (by omega) b1 (by omega), lN_mul, lN_mul, low_e (Nat.mul_pos a1 b1) (by omega) (by omega), bd1_s]
theorem X_diff {n d n' d' : Nat} (h : Fr n d) (h' : Fr n' d') : F_X3_difference (fz n d) (fz n' d') = some (if n * d' < n' * d then -1 else lowv (n * d' - n' * d) (d * d')) := by
  obtain ⟨a1, a2, a3, a4⟩ := h
  obtain ⟨b1, b2, b3, b4⟩ := h'
  have m1 := mul12 a3 b2
  have m2 := mul12 b3 a2
  have m3 := mul12 a2 b2
  unfold F_X3_difference
  rw [num_fz (by omega) (by omega), num_fz (by omega) (by omega), den_fz (by omega) a1 (by omega), den_fz (by omega) b1 (by omega), lN_mul, lN_mul, lN_mul]
  by_cases c : n * d' < n' * d
  · rw [if_pos c]
    have hlt : lN (n * d') - lN (n' * d) < (0 : Int64) := by
      rw [Int64.lt_iff_toInt_lt, l_sub (by omega) (by omega), show (0 : Int64).toInt = 0 from by decide]; omega
    unfold F_X3_inLowestTerms
    rw [if_pos hlt, bd1_s]
  · rw [if_neg c, lN_sub (by omega), low_e (Nat.mul_pos a1 b1) (by omega) (by omega), bd1_s]
    rfl
theorem M_sum (hPL : PL pl ms N E) {p q : Nat} (hp : p < 6) (hq : q < 6) : F_X7_makesSum ms mtp mbt (nI p) (nI q) 1 = some (lowb (N p * E q + N q * E p) (E p * E q), lN ((N p * E q + N q * E p) / Nat.gcd (N p * E q + N q * E p) (E p * E q)), lN ((E p * E q) / Nat.gcd (N p * E q + N q * E p) (E p * E q))) := by
  obtain ⟨-, p2, p3, a1, a2, a3, a4⟩ := hPL p hp
  obtain ⟨-, q2, q3, b1, b2, b3, b4⟩ := hPL q hq
  have m1 := mul12 a3 b2
  have m2 := mul12 b3 a2
  have m3 := mul12 a2 b2
  unfold F_X7_makesSum
  rw [ab_e hp, bd1_s, be_e hq, bd1_s, ab_e hq, bd1_s, be_e hp, bd1_s, bd1_s, bd1_s, p2, p3, q2, q3, nI_l (by omega), nI_l (by omega), nI_l (by omega), nI_l (by omega), show (1 : Int32).toInt64 = lN 1 from by decide, lN_mul, lN_mul, lN_mul, lN_mul, lN_add, Nat.one_mul, mk_e (Nat.mul_pos a1 b1) (by omega) (by omega), bd3_s]
  unfold lowb
  by_cases c : (N p * E q + N q * E p) / Nat.gcd (N p * E q + N q * E p) (E p * E q) ≤ 1000000 ∧ (E p * E q) / Nat.gcd (N p * E q + N q * E p) (E p * E q) ≤ 1000000
  · rw [if_pos c, if_neg (by decide)]
  · rw [if_neg c, if_neg (by decide)]
theorem M_diff (hPL : PL pl ms N E) {p q : Nat} (hp : p < 6) (hq : q < 6) (hle : N q * E p ≤ N p * E q) : F_X7_makesSum ms mtp mbt (nI p) (nI q) (-1) = some (lowb (N p * E q - N q * E p) (E p * E q), lN ((N p * E q - N q * E p) / Nat.gcd (N p * E q - N q * E p) (E p * E q)), lN ((E p * E q) / Nat.gcd (N p * E q - N q * E p) (E p * E q))) := by
  obtain ⟨-, p2, p3, a1, a2, a3, a4⟩ := hPL p hp
  obtain ⟨-, q2, q3, b1, b2, b3, b4⟩ := hPL q hq
  have m1 := mul12 a3 b2
  have m2 := mul12 b3 a2
  have m3 := mul12 a2 b2
  have e1 : lN (N p * E q) + (-1 : Int32).toInt64 * lN (N q) * lN (E p) = lN (N p * E q - N q * E p) := by
    rw [show (-1 : Int32).toInt64 = (-1 : Int64) from by decide, Int64.mul_assoc, lN_mul, Int64.neg_mul, Int64.one_mul, ← Int64.sub_eq_add_neg, lN_sub hle]
  unfold F_X7_makesSum
  rw [ab_e hp, bd1_s, be_e hq, bd1_s, ab_e hq, bd1_s, be_e hp, bd1_s, bd1_s, bd1_s, p2, p3, q2, q3, nI_l (by omega), nI_l (by omega), nI_l (by omega), nI_l (by omega), lN_mul, e1, lN_mul, mk_e (Nat.mul_pos a1 b1) (by omega) (by omega), bd3_s]
  unfold lowb
  by_cases c : (N p * E q - N q * E p) / Nat.gcd (N p * E q - N q * E p) (E p * E q) ≤ 1000000 ∧ (E p * E q) / Nat.gcd (N p * E q - N q * E p) (E p * E q) ≤ 1000000
  · rw [if_pos c, if_neg (by decide)]
  · rw [if_neg c, if_neg (by decide)]
theorem M_prod (hPL : PL pl ms N E) {p q : Nat} (hp : p < 6) (hq : q < 6) : F_X7_makesProduct ms mtp mbt (nI p) (nI q) = some (lowb (N p * N q) (E p * E q), lN ((N p * N q) / Nat.gcd (N p * N q) (E p * E q)), lN ((E p * E q) / Nat.gcd (N p * N q) (E p * E q))) := by
  obtain ⟨-, p2, p3, a1, a2, a3, a4⟩ := hPL p hp
  obtain ⟨-, q2, q3, b1, b2, b3, b4⟩ := hPL q hq
  have m1 := mul12 a3 b3
  have m3 := mul12 a2 b2
  unfold F_X7_makesProduct
  rw [ab_e hp, bd1_s, ab_e hq, bd1_s, be_e hp, bd1_s, be_e hq, bd1_s, p2, p3, q2, q3, nI_l (by omega), nI_l (by omega), nI_l (by omega), nI_l (by omega), lN_mul, lN_mul, mk_e (Nat.mul_pos a1 b1) (by omega) (by omega), bd3_s]
  unfold lowb
  by_cases c : (N p * N q) / Nat.gcd (N p * N q) (E p * E q) ≤ 1000000 ∧ (E p * E q) / Nat.gcd (N p * N q) (E p * E q) ≤ 1000000
  · rw [if_pos c, if_neg (by decide)]
  · rw [if_neg c, if_neg (by decide)]
theorem add_p (hPL : PL pl ms N E) (hHR : HR hs ho hc mst smn) (a1 a2 : Int32) : ChP (F_X6_add pl hs ho hc a1 a2) (F_X7_add th ms mst smn mtp mbt a1 a2) [(0, 0), (1, 1), (3, 2)] := by
  unfold F_X6_add F_X7_add
  rcases plate_cases a1 with ⟨p, hp, rfl, x1, y1⟩ | ⟨x1, y1⟩
  · rcases plate_cases a2 with ⟨q, hq, rfl, x2, y2⟩ | ⟨x2, y2⟩
    · obtain ⟨pa, pb, pc, pd⟩ := hPL p hp
      obtain ⟨qa, qb, qc, qd⟩ := hPL q hq
      rw [rp_ok x1, bd1_s, if_pos rfl, rp_ok x2, bd1_s, if_pos rfl, inb hp (by omega), inb hq (by omega), cl_nI (by omega), cl_nI (by omega), pa, qa, X_sum pd qd, bd1_s]
      rw [ap_ok y1 y2, if_neg (by decide), M_sum hPL hp hq, bd3_s]
      obtain ⟨hs', ho', hc', mst', smn', r2, r3, r1, ⟨l1, l2⟩ | ⟨l1, n', d', lf, -, -, -, l4, l5, l6, N', E', l7⟩⟩ := cip (n := N p * E q + N q * E p) (d := E p * E q) hPL hHR hp (Nat.mul_pos pd.1 qd.1)
      · rw [l2, bd6_s, if_neg (by decide), l1, if_pos rfl]
        exact ⟨3, 2, 0, 0, _, _, _, _, _, _, _, _, _, by simp, rfl, rfl, fun h => absurd h (by decide), ⟨_, _, hPL⟩, hHR⟩
      · rw [l5, bd6_s, if_pos rfl, l1, if_neg (by decide), r2, bd2_s, l6, bd2_s]
        exact ⟨0, 0, _, _, _, _, _, _, _, _, _, _, _, by simp, rfl, rfl, fun _ => rfl, ⟨N', E', l7⟩, r3⟩
    · rw [rp_ok x1, bd1_s, if_pos rfl, rp_no x2, bd1_s, if_neg (by decide), ap_no2 y1 y2, if_pos rfl]
      exact ⟨1, 1, 0, 0, _, _, _, _, _, _, _, _, _, by simp, rfl, rfl, fun h => absurd h (by decide), ⟨_, _, hPL⟩, hHR⟩
  · rw [rp_no x1, bd1_s, if_neg (by decide), ap_no1 y1, if_pos rfl]
    exact ⟨1, 1, 0, 0, _, _, _, _, _, _, _, _, _, by simp, rfl, rfl, fun h => absurd h (by decide), ⟨_, _, hPL⟩, hHR⟩
end
