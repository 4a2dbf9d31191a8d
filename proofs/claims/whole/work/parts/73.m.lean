theorem in_cases (a : Int32) (lo hi : Nat) (hlh : hi < 2147483648) (hl : lo < 2147483648) : (∃ n : Nat, lo ≤ n ∧ n ≤ hi ∧ a = nI n ∧ F_X7_in a (nI lo) (nI hi) = 1) ∨ (F_X7_in a (nI lo) (nI hi) = 0 ∧ (a < nI lo ∨ (¬ a < nI lo ∧ nI hi < a))) := by
  unfold F_X7_in
  by_cases c1 : a < nI lo
  · right; rw [if_pos c1]; exact ⟨rfl, Or.inl c1⟩
  · rw [if_neg c1]
    by_cases c2 : nI hi < a
    · right; rw [if_pos c2]; exact ⟨rfl, Or.inr ⟨c1, c2⟩⟩
    · left
      rw [if_neg c2]
      have h0 : ¬ a < 0 := by
        intro q
        rw [Int32.lt_iff_toInt_lt] at q c1
        rw [nI_toInt (by omega)] at c1
        have e0 : (0 : Int32).toInt = 0 := by decide
        omega
      obtain ⟨n, hn, rfl⟩ := nI_of h0
      rw [nI_ltI (by omega) (by omega)] at c1 c2
      exact ⟨n, by omega, by omega, rfl, rfl⟩
theorem n10 : ¬ (1 : Int32) = 0 := by decide
theorem fz1 {n d : Nat} (h : Fr n d) : fz n d = (1 : Int64) ↔ n = 0 := by
  obtain ⟨a1, a2, a3, a4⟩ := h
  show fz n d = lN 1 ↔ _
  unfold fz
  rw [pk_lEQ (by omega) (by omega)]
  constructor
  · intro q; omega
  · intro q; subst q; rw [Nat.gcd_zero_left] at a4; omega
theorem fr_eq {n d n' d' : Nat} (h : Fr n d) (h' : Fr n' d') (e : n * d' = n' * d) : n = n' ∧ d = d' := by
  obtain ⟨a1, a2, a3, a4⟩ := h
  obtain ⟨b1, b2, b3, b4⟩ := h'
  have c1 : Nat.Coprime d n := by rw [Nat.Coprime, Nat.gcd_comm]; exact a4
  have c2 : Nat.Coprime d' n' := by rw [Nat.Coprime, Nat.gcd_comm]; exact b4
  have d1 : d ∣ d' := c1.dvd_of_dvd_mul_left (show d ∣ n * d' by rw [e]; exact Nat.dvd_mul_left d n')
  have d2 : d' ∣ d := c2.dvd_of_dvd_mul_left (show d' ∣ n' * d by rw [← e]; exact Nat.dvd_mul_left d' n)
  have ed : d = d' := Nat.dvd_antisymm d1 d2
  subst ed
  exact ⟨Nat.eq_of_mul_eq_mul_right a1 e, rfl⟩
theorem cmpz0 {n d n' d' : Nat} : cmpz n d n' d' = 0 ↔ n * d' = n' * d := by
  unfold cmpz
  by_cases c1 : n * d' < n' * d
  · rw [if_pos c1]; constructor
    · intro h; exact absurd h (by decide)
    · intro h; omega
  · rw [if_neg c1]
    by_cases c2 : n * d' = n' * d
    · rw [if_pos c2]; exact ⟨fun _ => c2, fun _ => rfl⟩
    · rw [if_neg c2]; constructor
      · intro h; exact absurd h (by decide)
      · intro h; exact absurd h c2
theorem lowb_1 {n d : Nat} (hn : n ≤ 1000000) (hd : d ≤ 1000000) : lowb n d = 1 := by
  unfold lowb
  rw [if_pos ⟨Nat.le_trans (Nat.div_le_self _ _) hn, Nat.le_trans (Nat.div_le_self _ _) hd⟩]
theorem low_v {n d : Nat} (hd : 1 ≤ d) (hn : n < 2 ^ 62) (hd2 : d < 2 ^ 62) : F_X3_inLowestTerms (lN n) (lN d) = some (lowv n d) := low_e hd hn hd2
theorem mk_b {n d : Nat} {mtp mbt : Int64} (hd : 1 ≤ d) (hn : n < 2 ^ 62) (hd2 : d < 2 ^ 62) : F_X7_makes mtp mbt (lN n) (lN d) = some (lowb n d, lN (n / Nat.gcd n d), lN (d / Nat.gcd n d)) := mk_e hd hn hd2
section
variable {pl hs : Nat → Int64} {ho hc smn th : Int32} {ms mst : Nat → Int32} {N E : Nat → Nat} {mtp mbt : Int64}
theorem tak_p (hPL : PL pl ms N E) (hHR : HR hs ho hc mst smn) (a1 a2 : Int32) : ChP (F_X6_takeAway pl hs ho hc a1 a2) (F_X7_takeAway th ms mst smn mtp mbt a1 a2) [(0, 0), (1, 1), (3, 2)] := by
  unfold F_X6_takeAway F_X7_takeAway
  rcases plate_cases a1 with ⟨p, hp, rfl, x1, y1⟩ | ⟨x1, y1⟩
  · rcases plate_cases a2 with ⟨q, hq, rfl, x2, y2⟩ | ⟨x2, y2⟩
    · obtain ⟨pa, pb, pc, pd⟩ := hPL p hp
      obtain ⟨qa, qb, qc, qd⟩ := hPL q hq
      rw [rp_ok x1, bd1_s, if_pos rfl, rp_ok x2, bd1_s, if_pos rfl, inb hp (by omega), inb hq (by omega), cl_nI (by omega), cl_nI (by omega), pa, qa, X_diff pd qd, bd1_s]
      rw [ap_ok y1 y2, if_neg n10, hold_e hPL hp hq, bd1_s]
      unfold cmpz
      by_cases c : N p * E q < N q * E p
      · rw [if_pos c, if_pos c, if_pos (by decide)]
        unfold F_X6_changeIfPossible
        rw [if_pos rfl, bd6_s, if_neg (by decide)]
        exact ⟨3, 2, 0, 0, _, _, _, _, _, _, _, _, _, by simp, rfl, rfl, fun h => absurd h (by decide), ⟨_, _, hPL⟩, hHR⟩
      · rw [if_neg c, if_neg c, if_neg (show ¬ (if N p * E q = N q * E p then (0 : Int32) else 1) < 0 by split <;> decide), M_diff hPL hp hq (by omega), bd3_s]
        obtain ⟨hs', ho', hc', mst', smn', r2, r3, r1, ⟨l1, l2⟩ | ⟨l1, n', d', lf, -, -, -, l4, l5, l6, N', E', l7⟩⟩ := cip (n := N p * E q - N q * E p) (d := E p * E q) hPL hHR hp (Nat.mul_pos pd.1 qd.1)
        · rw [l2, bd6_s, if_neg (by decide), l1, if_pos rfl]
          exact ⟨3, 2, 0, 0, _, _, _, _, _, _, _, _, _, by simp, rfl, rfl, fun h => absurd h (by decide), ⟨_, _, hPL⟩, hHR⟩
        · rw [l5, bd6_s, if_pos rfl, l1, if_neg (by decide), r2, bd2_s, l6, bd2_s]
          exact ⟨0, 0, _, _, _, _, _, _, _, _, _, _, _, by simp, rfl, rfl, fun _ => rfl, ⟨N', E', l7⟩, r3⟩
    · rw [rp_ok x1, bd1_s, if_pos rfl, rp_no x2, bd1_s, if_neg (by decide), ap_no2 y1 y2, if_pos rfl]
      exact ⟨1, 1, 0, 0, _, _, _, _, _, _, _, _, _, by simp, rfl, rfl, fun h => absurd h (by decide), ⟨_, _, hPL⟩, hHR⟩
  · rw [rp_no x1, bd1_s, if_neg (by decide), ap_no1 y1, if_pos rfl]
    exact ⟨1, 1, 0, 0, _, _, _, _, _, _, _, _, _, by simp, rfl, rfl, fun h => absurd h (by decide), ⟨_, _, hPL⟩, hHR⟩
theorem mul_p (hPL : PL pl ms N E) (hHR : HR hs ho hc mst smn) (a1 a2 : Int32) : ChP (F_X6_multiply pl hs ho hc a1 a2) (F_X7_multiply th ms mst smn mtp mbt a1 a2) [(0, 0), (1, 1), (3, 2)] := by
  unfold F_X6_multiply F_X7_multiply
  rcases plate_cases a1 with ⟨p, hp, rfl, x1, y1⟩ | ⟨x1, y1⟩
  · rcases plate_cases a2 with ⟨q, hq, rfl, x2, y2⟩ | ⟨x2, y2⟩
    · obtain ⟨pa, pb, pc, pd⟩ := hPL p hp
      obtain ⟨qa, qb, qc, qd⟩ := hPL q hq
      rw [rp_ok x1, bd1_s, if_pos rfl, rp_ok x2, bd1_s, if_pos rfl, inb hp (by omega), inb hq (by omega), cl_nI (by omega), cl_nI (by omega), pa, qa, X_prod pd qd, bd1_s]
      rw [ap_ok y1 y2, if_neg n10, M_prod hPL hp hq, bd3_s]
      obtain ⟨hs', ho', hc', mst', smn', r2, r3, r1, ⟨l1, l2⟩ | ⟨l1, n', d', lf, -, -, -, l4, l5, l6, N', E', l7⟩⟩ := cip (n := N p * N q) (d := E p * E q) hPL hHR hp (Nat.mul_pos pd.1 qd.1)
      · rw [l2, bd6_s, if_neg (by decide), l1, if_pos rfl]
        exact ⟨3, 2, 0, 0, _, _, _, _, _, _, _, _, _, by simp, rfl, rfl, fun h => absurd h (by decide), ⟨_, _, hPL⟩, hHR⟩
      · rw [l5, bd6_s, if_pos rfl, l1, if_neg (by decide), r2, bd2_s, l6, bd2_s]
        exact ⟨0, 0, _, _, _, _, _, _, _, _, _, _, _, by simp, rfl, rfl, fun _ => rfl, ⟨N', E', l7⟩, r3⟩
    · rw [rp_ok x1, bd1_s, if_pos rfl, rp_no x2, bd1_s, if_neg (by decide), ap_no2 y1 y2, if_pos rfl]
      exact ⟨1, 1, 0, 0, _, _, _, _, _, _, _, _, _, by simp, rfl, rfl, fun h => absurd h (by decide), ⟨_, _, hPL⟩, hHR⟩
  · rw [rp_no x1, bd1_s, if_neg (by decide), ap_no1 y1, if_pos rfl]
    exact ⟨1, 1, 0, 0, _, _, _, _, _, _, _, _, _, by simp, rfl, rfl, fun h => absurd h (by decide), ⟨_, _, hPL⟩, hHR⟩
theorem set_p (hPL : PL pl ms N E) (hHR : HR hs ho hc mst smn) (a1 a2 a3 : Int32) : ChP (F_X6_set pl hs ho hc a1 a2 a3) (F_X7_set th ms mst smn mtp mbt a1 a2 a3) [(0, 0), (1, 1), (2, 2)] := by
  unfold F_X6_set F_X7_set
  rcases plate_cases a1 with ⟨p, hp, rfl, x1, y1⟩ | ⟨x1, y1⟩
  · rw [rp_ok x1, bd1_s, if_pos rfl, y1, if_neg n10]
    have t1 : F_X7_isTop a2 = F_X7_in a2 (nI 0) (nI 1000000) := rfl
    have t2 : F_X7_isBottom a3 = F_X7_in a3 (nI 1) (nI 1000000) := rfl
    rw [t1, t2]
    have hfail : ∀ z, ChP (some (2, 0, pl, hs, ho, hc)) (some (z, 2, ms, mst, smn, mtp, mbt)) [(0, 0), (1, 1), (2, 2)] := fun z => ⟨2, 2, 0, z, _, _, _, _, _, _, _, _, _, by simp, rfl, rfl, fun h => absurd h (by decide), ⟨_, _, hPL⟩, hHR⟩
    rcases in_cases a2 0 1000000 (by omega) (by omega) with ⟨n, n1, n2, rfl, z1⟩ | ⟨z1, z2⟩
    · rw [z1, if_neg (show ¬ nI n < (0 : Int32) from by show ¬ nI n < nI 0; rw [nI_ltI (by omega) (by omega)]; omega), if_pos (show nI n ≤ (1000000 : Int32) from by show nI n ≤ nI 1000000; rw [nI_leI (by omega) (by omega)]; omega), if_neg (show ¬ (1 : Int32) = 0 by decide)]
      rcases in_cases a3 1 1000000 (by omega) (by omega) with ⟨d, d1, d2, rfl, z3⟩ | ⟨z3, z4⟩
      · rw [z3, if_neg (show ¬ nI d < (1 : Int32) from by show ¬ nI d < nI 1; rw [nI_ltI (by omega) (by omega)]; omega), if_pos (show nI d ≤ (1000000 : Int32) from by show nI d ≤ nI 1000000; rw [nI_leI (by omega) (by omega)]; omega), if_neg (show ¬ (1 : Int32) = 0 by decide), nI_l (by omega), nI_l (by omega), low_v d1 (by omega) (by omega), bd1_s]
        obtain ⟨hs', ho', hc', mst', smn', r2, r3, r1, ⟨l1, l2⟩ | ⟨l1, n', d', lf, -, -, -, l4, l5, l6, N', E', l7⟩⟩ := cip (n := n) (d := d) hPL hHR hp d1
        · rw [lowb_1 n2 d2] at l1; exact absurd l1 (by decide)
        · rw [l4, bd5_s, r2, bd2_s, mk_b d1 (by omega) (by omega), bd3_s, l6, bd2_s]
          exact ⟨0, 0, _, _, _, _, _, _, _, _, _, _, _, by simp, rfl, rfl, fun _ => rfl, ⟨N', E', l7⟩, r3⟩
      · rw [z3, if_pos rfl]
        rcases z4 with z4 | ⟨z4, z5⟩
        · rw [if_pos (show a3 < 1 from z4)]; exact hfail _
        · rw [if_neg (show ¬ a3 < 1 from z4), if_neg (show ¬ a3 ≤ 1000000 from Int32.not_le.mpr z5)]; exact hfail _
    · rw [z1, if_pos rfl]
      rcases z2 with z4 | ⟨z4, z5⟩
      · rw [if_pos (show a2 < 0 from z4)]; exact hfail _
      · rw [if_neg (show ¬ a2 < 0 from z4), if_neg (show ¬ a2 ≤ 1000000 from Int32.not_le.mpr z5)]; exact hfail _
  · rw [rp_no x1, bd1_s, if_neg (by decide), y1, if_pos rfl]
    exact ⟨1, 1, 0, 0, _, _, _, _, _, _, _, _, _, by simp, rfl, rfl, fun h => absurd h (by decide), ⟨_, _, hPL⟩, hHR⟩
theorem rnz_e (hPL : PL pl ms N E) {p : Nat} (hp : p < 6) : F_X6_requireNotZero pl (nI p) = some (if N p = 0 then 3 else 0) := by
  obtain ⟨pa, pb, pc, pd⟩ := hPL p hp
  unfold F_X6_requireNotZero
  rw [rp_ok ((by decide +kernel : ∀ j, j < 6 → F_X6_isPlate (nI j) = 1) p hp), bd1_s, if_pos rfl, inb hp (by omega), cl_nI (by omega), pa]
  by_cases c : N p = 0
  · rw [if_pos ((fz1 pd).mpr c), if_pos c]
  · rw [if_neg (fun q => c ((fz1 pd).mp q)), if_neg c]
theorem nz_e {n : Nat} (h : n ≤ 1000000) : nI n = (0 : Int32) ↔ n = 0 := by
  show nI n = nI 0 ↔ _
  rw [nI_eq (by omega) (by omega)]
theorem inv_p (hPL : PL pl ms N E) (hHR : HR hs ho hc mst smn) (a1 : Int32) : ChP (F_X6_invert pl hs ho hc a1) (F_X7_invert th ms mst smn mtp mbt a1) [(0, 0), (1, 1), (3, 2)] := by
  unfold F_X6_invert F_X7_invert
  rcases plate_cases a1 with ⟨p, hp, rfl, x1, y1⟩ | ⟨x1, y1⟩
  · obtain ⟨pa, pb, pc, pd⟩ := hPL p hp
    rw [rnz_e hPL hp, bd1_s, y1, if_neg n10, ab_e hp, bd1_s, pb]
    by_cases c : N p = 0
    · rw [if_pos c, if_neg (by decide), if_pos ((nz_e pd.2.2.1).mpr c)]
      exact ⟨3, 2, 0, 0, _, _, _, _, _, _, _, _, _, by simp, rfl, rfl, fun h => absurd h (by decide), ⟨_, _, hPL⟩, hHR⟩
    · obtain ⟨q1, q2, q3, q4⟩ := id pd
      rw [if_neg c, if_pos rfl, if_neg (fun q => c ((nz_e q3).mp q)), inb hp (by omega), cl_nI (by omega), pa, den_fz (by omega) q1 (by omega), num_fz (by omega) (by omega), low_v (by omega) (by omega) (by omega), bd1_s]
      obtain ⟨hs', ho', hc', mst', smn', r2, r3, r1, ⟨l1, l2⟩ | ⟨l1, n', d', lf, -, -, -, l4, l5, l6, N', E', l7⟩⟩ := cip (n := E p) (d := N p) hPL hHR hp (by omega)
      · rw [lowb_1 q2 q3] at l1; exact absurd l1 (by decide)
      · rw [l4, bd5_s, r2, bd2_s, be_e hp, bd1_s, bd1_s, pc, nI_l (by omega), nI_l (by omega), mk_b (by omega) (by omega) (by omega), bd3_s, l6, bd2_s]
        exact ⟨0, 0, _, _, _, _, _, _, _, _, _, _, _, by simp, rfl, rfl, fun _ => rfl, ⟨N', E', l7⟩, r3⟩
  · have e : F_X6_requireNotZero pl a1 = some 1 := by
      unfold F_X6_requireNotZero; rw [rp_no x1, bd1_s, if_neg (by decide)]
    rw [e, bd1_s, if_neg (by decide), y1, if_pos rfl]
    exact ⟨1, 1, 0, 0, _, _, _, _, _, _, _, _, _, by simp, rfl, rfl, fun h => absurd h (by decide), ⟨_, _, hPL⟩, hHR⟩
theorem sha_p (hPL : PL pl ms N E) (hHR : HR hs ho hc mst smn) (a1 a2 : Int32) : ChP (F_X6_share pl hs ho hc a1 a2) (F_X7_share th ms mst smn mtp mbt a1 a2) [(0, 0), (1, 1), (2, 2), (3, 3)] := by
  unfold F_X6_share F_X7_share
  rcases plate_cases a1 with ⟨p, hp, rfl, x1, y1⟩ | ⟨x1, y1⟩
  · obtain ⟨pa, pb, pc, pd⟩ := hPL p hp
    obtain ⟨q1, q2, q3, q4⟩ := id pd
    rw [rp_ok x1, bd1_s, if_pos rfl, y1, if_neg n10, show F_X7_in a2 (1 : Int32) (100 : Int32) = F_X7_in a2 (nI 1) (nI 100) from rfl]
    rcases in_cases a2 1 100 (by omega) (by omega) with ⟨g, g1, g2, rfl, z1⟩ | ⟨z1, z2⟩
    · have hm : E p * g ≤ 1000000 * 100 := Nat.mul_le_mul q2 g2
      have hm2 : 1 ≤ E p * g := Nat.mul_pos q1 g1
      rw [z1, if_neg (show ¬ nI g < (1 : Int32) from by show ¬ nI g < nI 1; rw [nI_ltI (by omega) (by omega)]; omega), if_pos (show nI g ≤ (100 : Int32) from by show nI g ≤ nI 100; rw [nI_leI (by omega) (by omega)]; omega), if_neg n10, inb hp (by omega), cl_nI (by omega), pa, den_fz (by omega) q1 (by omega), num_fz (by omega) (by omega), ab_e hp, bd1_s, be_e hp, bd1_s, pb, pc, nI_l (by omega), nI_l (by omega), nI_l (by omega), lN_mul, low_v hm2 (by omega) (by omega), bd1_s, mk_b hm2 (by omega) (by omega), bd3_s]
      obtain ⟨hs', ho', hc', mst', smn', r2, r3, r1, ⟨l1, l2⟩ | ⟨l1, n', d', lf, -, -, -, l4, l5, l6, N', E', l7⟩⟩ := cip (n := N p) (d := E p * g) hPL hHR hp hm2
      · rw [l2, bd6_s, if_neg (by decide), l1, if_pos rfl]
        exact ⟨3, 3, 0, 0, _, _, _, _, _, _, _, _, _, by simp, rfl, rfl, fun h => absurd h (by decide), ⟨_, _, hPL⟩, hHR⟩
      · rw [l5, bd6_s, if_pos rfl, l1, if_neg (by decide), r2, bd2_s, l6, bd2_s]
        exact ⟨0, 0, _, _, _, _, _, _, _, _, _, _, _, by simp, rfl, rfl, fun _ => rfl, ⟨N', E', l7⟩, r3⟩
    · rw [z1, if_pos rfl]
      have hfail : ∀ z, ChP (some (2, 0, pl, hs, ho, hc)) (some (z, 2, ms, mst, smn, mtp, mbt)) [(0, 0), (1, 1), (2, 2), (3, 3)] := fun z => ⟨2, 2, 0, z, _, _, _, _, _, _, _, _, _, by simp, rfl, rfl, fun h => absurd h (by decide), ⟨_, _, hPL⟩, hHR⟩
      rcases z2 with z4 | ⟨z4, z5⟩
      · rw [if_pos (show a2 < 1 from z4)]; exact hfail _
      · rw [if_neg (show ¬ a2 < 1 from z4), if_neg (show ¬ a2 ≤ 100 from Int32.not_le.mpr z5)]; exact hfail _
  · rw [rp_no x1, bd1_s, if_neg (by decide), y1, if_pos rfl]
    exact ⟨1, 1, 0, 0, _, _, _, _, _, _, _, _, _, by simp, rfl, rfl, fun h => absurd h (by decide), ⟨_, _, hPL⟩, hHR⟩
theorem cpy_p (hPL : PL pl ms N E) (hHR : HR hs ho hc mst smn) (a1 a2 : Int32) : ∃ (k : Nat) (code r b : Int32) (pl' hs' : Nat → Int64) (ho' hc' : Int32) (ms' mst' : Nat → Int32) (smn' : Int32), (k, code) ∈ [((0 : Nat), (0 : Int32)), (1, 1)] ∧ F_X6_copyTo pl hs ho hc a1 a2 = some (k, r, pl', hs', ho', hc') ∧ F_X7_copyTo th ms mst smn a1 a2 = some (b, code, ms', mst', smn') ∧ (k = 0 → r = b) ∧ (∃ N E, PL pl' ms' N E) ∧ HR hs' ho' hc' mst' smn' := by
  unfold F_X6_copyTo F_X7_copyTo
  rcases plate_cases a1 with ⟨p, hp, rfl, x1, y1⟩ | ⟨x1, y1⟩
  · rcases plate_cases a2 with ⟨q, hq, rfl, x2, y2⟩ | ⟨x2, y2⟩
    · obtain ⟨pa, pb, pc, pd⟩ := hPL p hp
      obtain ⟨qa, qb, qc, qd⟩ := hPL q hq
      obtain ⟨hs', ho', hc', mst', smn', r1, r2, r3⟩ := rec_e hPL hHR
      rw [rp_ok x1, bd1_s, if_pos rfl, rp_ok x2, bd1_s, if_pos rfl, inb hp (by omega), inb hq (by omega), cl_nI (by omega), cl_nI (by omega), pa, qa, ch_e hq pd r1, bd5_s]
      rw [ap_ok y1 y2, if_neg n10, r2, bd2_s]
      unfold F_X7_copies
      rw [hold_e hPL hp hq, bd1_s, ab_e hp, bd1_s, e2p1, e2p, inb (by omega) (by omega), cl_nI (by omega), be_e hp, bd1_s, inb (by omega) (by omega), cl_nI (by omega), pk_un (by omega), pb, pc, bd2_s]
      have hz2 : (if cmpz (N p) (E p) (N q) (E q) = 0 then (1 : Int32) else 0) = (0 : Int32) ∨ (if cmpz (N p) (E p) (N q) (E q) = 0 then (1 : Int32) else 0) = (1 : Int32) := z01 (Or.inr rfl) (Or.inl rfl)
      rw [if_neg (Classical.not_not.mpr hz2)]
      refine ⟨0, 0, _, _, _, _, _, _, _, _, _, by simp, rfl, rfl, fun _ => ?_, ⟨_, _, pl_put hPL hq pd⟩, r3⟩
      by_cases c : N p * E q = N q * E p
      · obtain ⟨e1, e2⟩ := fr_eq pd qd c
        rw [if_pos (show fz (N q) (E q) = fz (N p) (E p) by rw [e1, e2]), if_pos (cmpz0.mpr c)]
      · rw [if_neg, if_neg (fun h => c (cmpz0.mp h))]
        intro h
        have := fz_inj (by have := qd.2.2.1; omega) (by have := qd.2.1; omega) (by have := pd.2.2.1; omega) (by have := pd.2.1; omega) h
        exact c (by rw [this.1, this.2])
    · rw [rp_ok x1, bd1_s, if_pos rfl, rp_no x2, bd1_s, if_neg (by decide), ap_no2 y1 y2, if_pos rfl]
      exact ⟨1, 1, 0, _, _, _, _, _, _, _, _, by simp, rfl, rfl, fun h => absurd h (by decide), ⟨_, _, hPL⟩, hHR⟩
  · rw [rp_no x1, bd1_s, if_neg (by decide), ap_no1 y1, if_pos rfl]
    exact ⟨1, 1, 0, _, _, _, _, _, _, _, _, by simp, rfl, rfl, fun h => absurd h (by decide), ⟨_, _, hPL⟩, hHR⟩
end
