/-! the nearest fraction: the model's loops and the law's cases 7, 18, 19, 20 -/
section
variable {pl : Nat → Int64} {ms : Nat → Int32} {N E : Nat → Nat}
theorem in_e (hPL : PL pl ms N E) {p : Nat} (hp : p < 6) {F x f a : Nat} {t b : Nat} {a2 : Int32} (hx : x ≤ 1000) (hx1 : 1 ≤ x) (ha : a < f + 2) (hf : f ≤ 1000000000) (hne : ¬ (x = 1 ∧ a = f)) (ht : t ≤ 2000000000) (hb1 : 1 ≤ b) (hb : b ≤ 1000) : L_X7_tellsNearest_34 (F + 1) (nI p) a2 (lN (ds (N p) (E p) t b)) (nI x) (lN f) (lN a) ms (nI t) (nI b) = L_X7_tellsNearest_34 F (nI p) a2 (lN (ds (N p) (E p) (bst (N p) (E p) (t, b) a x).1 (bst (N p) (E p) (t, b) a x).2)) (nI x) (lN f) (lN (a + 1)) ms (nI (bst (N p) (E p) (t, b) a x).1) (nI (bst (N p) (E p) (t, b) a x).2) := by
  obtain ⟨pa, pb, pc, f1, f2, f3, f4⟩ := hPL p hp
  obtain ⟨g1, g2, g3⟩ := ds_b (a := t) (b := b) f3 f2 ht hb
  obtain ⟨k1, k2, k3⟩ := ds_b (a := a) (b := x) f3 f2 (by omega) hx
  have m1 : ds (N p) (E p) t b * x ≤ 2000000000000000 * 1000 := Nat.mul_le_mul g3 hx
  have m2 : ds (N p) (E p) a x * b ≤ 2000000000000000 * 1000 := Nat.mul_le_mul k3 hb
  have eD : (if (0 : Int64) ≤ lN (N p * x) - lN (a * E p) then lN (N p * x) - lN (a * E p) else -(lN (N p * x) - lN (a * E p))) = lN (ds (N p) (E p) a x) := abs0 (by omega) (by omega)
  have hc : ¬ lN f + (2 : Int64) ≤ lN a := by
    rw [show (2 : Int64) = lN 2 from rfl, lN_add, pk_lLE (by omega) (by omega)]; omega
  rw [L_X7_tellsNearest_34_s, if_neg hc, ab_e hp, bd1_s, be_e hp, bd1_s, pb, pc, nI_l (show N p < 2 ^ 31 by omega), nI_l (show E p < 2 ^ 31 by omega), nI_l (show x < 2 ^ 31 by omega), nI_l (show b < 2 ^ 31 by omega), lN_mul, lN_mul, eD, lN_mul, lN_mul, lN_i, show (1 : Int64) = lN 1 from rfl, lN_add]
  have step : (if lN (ds (N p) (E p) t b * x) ≤ lN (ds (N p) (E p) a x * b) then some (lN (ds (N p) (E p) t b), nI t, nI b) else some (lN (ds (N p) (E p) a x), nI a, nI x)) = some (lN (ds (N p) (E p) (bst (N p) (E p) (t, b) a x).1 (bst (N p) (E p) (t, b) a x).2), nI (bst (N p) (E p) (t, b) a x).1, nI (bst (N p) (E p) (t, b) a x).2) := by
    unfold bst
    by_cases c : ds (N p) (E p) t b * x ≤ ds (N p) (E p) a x * b
    · rw [if_pos ((pk_lLE (by omega) (by omega)).mpr c), if_pos c]
    · rw [if_neg (fun z => c ((pk_lLE (by omega) (by omega)).mp z)), if_neg c]
  by_cases c1 : x = 1
  · have c2 : ¬ a = f := fun z => hne ⟨c1, z⟩
    rw [if_pos (show nI x = (1 : Int32) by rw [c1]; rfl), if_neg (show ¬ lN a = lN f by rw [pk_lEQ (by omega) (by omega)]; exact c2), step, bd3_s]
  · rw [if_neg (show ¬ nI x = (1 : Int32) from by show ¬ nI x = nI 1; rw [nI_eq (by omega) (by omega)]; omega), step, bd3_s]
theorem in0_e (hPL : PL pl ms N E) {p : Nat} (hp : p < 6) {F f : Nat} {a2 mnt mnb : Int32} {x16 : Int64} (hf : f ≤ 1000000000) : L_X7_tellsNearest_34 (F + 1) (nI p) a2 x16 (nI 1) (lN f) (lN f) ms mnt mnb = L_X7_tellsNearest_34 F (nI p) a2 (lN (ds (N p) (E p) f 1)) (nI 1) (lN f) (lN (f + 1)) ms (nI f) (nI 1) := by
  obtain ⟨pa, pb, pc, f1, f2, f3, f4⟩ := hPL p hp
  obtain ⟨k1, k2, k3⟩ := ds_b (a := f) (b := 1) f3 f2 (by omega) (by omega)
  have eD : (if (0 : Int64) ≤ lN (N p * 1) - lN (f * E p) then lN (N p * 1) - lN (f * E p) else -(lN (N p * 1) - lN (f * E p))) = lN (ds (N p) (E p) f 1) := abs0 (by omega) (by omega)
  have hc : ¬ lN f + (2 : Int64) ≤ lN f := by
    rw [show (2 : Int64) = lN 2 from rfl, lN_add, pk_lLE (by omega) (by omega)]; omega
  rw [L_X7_tellsNearest_34_s, if_neg hc, ab_e hp, bd1_s, be_e hp, bd1_s, pb, pc, nI_l (show N p < 2 ^ 31 by omega), nI_l (show E p < 2 ^ 31 by omega), nI_l (show 1 < 2 ^ 31 by omega), if_pos (show nI 1 = (1 : Int32) from rfl), if_pos rfl, lN_mul, lN_mul, eD, lN_i, bd3_s, show (1 : Int64) = lN 1 from rfl, lN_add]
theorem inz_e {F f : Nat} {a1 a2 x2 mnt mnb : Int32} {x16 : Int64} (hf : f ≤ 1000000000) : L_X7_tellsNearest_34 (F + 1) a1 a2 x16 x2 (lN f) (lN (f + 1 + 1)) ms mnt mnb = some (x16, mnt, mnb) := by
  rw [L_X7_tellsNearest_34_s, if_pos (show lN f + (2 : Int64) ≤ lN (f + 1 + 1) by rw [show (2 : Int64) = lN 2 from rfl, lN_add, pk_lLE (by omega) (by omega)]; omega)]
theorem tr_1 {n d : Nat} (hd : 1 ≤ d) : bst n d (tr n d 0) (n * (0 + 1) / d) (0 + 1) = (n * (0 + 1) / d, 0 + 1) := by
  have e1 := Nat.div_add_mod (n * (0 + 1)) d
  have e2 := Nat.mod_lt (n * (0 + 1)) (show d > 0 from hd)
  rcases bst_c (n := n) (d := d) (tr n d 0) (n * (0 + 1) / d) (0 + 1) with e | e
  · by_cases c : n * (0 + 1) / d = 0
    · rw [e, c]; rfl
    · exfalso
      have h : bst n d (tr n d 0) (n * (0 + 1) / d) (0 + 1) = (n * (0 + 1) / d, 0 + 1) := by
        unfold bst
        rw [if_neg]
        show ¬ ds n d 0 1 * (0 + 1) ≤ ds n d (n * (0 + 1) / d) (0 + 1) * 1
        have z : d * 1 ≤ d * (n * (0 + 1) / d) := Nat.mul_le_mul_left _ (Nat.pos_of_ne_zero c)
        rw [Nat.mul_comm d (n * (0 + 1) / d)] at z e1
        unfold ds
        omega
      rw [h] at e
      have e3 : n * (0 + 1) / d = 0 := congrArg Prod.fst e
      exact c e3
  · exact e
theorem mtr_e (hPL : PL pl ms N E) {p : Nat} (hp : p < 6) {L : Nat} (hL : L ≤ 1000) : ∀ (m k F : Nat) (x1 : Int64) (mnt mnb : Int32), k + m = L → m < F → (1 ≤ L) → (1 ≤ k → x1 = lN (ds (N p) (E p) (tr (N p) (E p) k).1 (tr (N p) (E p) k).2) ∧ mnt = nI (tr (N p) (E p) k).1 ∧ mnb = nI (tr (N p) (E p) k).2) → L_X7_tellsNearest_5 F (nI p) (nI L) x1 (nI (k + 1)) ms mnt mnb = some (nI (tr (N p) (E p) L).1, nI (tr (N p) (E p) L).2) := by
  obtain ⟨pa, pb, pc, f1, f2, f3, f4⟩ := hPL p hp
  intro m
  induction m with
  | zero =>
    intro k F x1 mnt mnb hk hF hL1 hs
    obtain ⟨F, rfl⟩ : ∃ k, F = k + 1 := ⟨F - 1, by omega⟩
    have e : k = L := by omega
    subst e
    obtain ⟨-, s2, s3⟩ := hs hL1
    rw [L_X7_tellsNearest_5_s, if_pos (show nI k < nI (k + 1) by rw [nI_ltI (by omega) (by omega)]; omega), s2, s3]
  | succ m ih =>
    intro k F x1 mnt mnb hk hF hL1 hs
    obtain ⟨F, rfl⟩ : ∃ k, F = k + 1 := ⟨F - 1, by omega⟩
    have b2 := nk_b (k := k + 1) f3 (by omega)
    have b1 := nk_b (k := k) f3 (by omega)
    have b3 : N p * (k + 1) / E p ≤ N p * (k + 1) := Nat.div_le_self _ _
    obtain ⟨t1, t2, t3⟩ := tr_n (n := N p) (d := E p) f1 k
    have r34 : L_X7_tellsNearest_34 FU (nI p) (nI L) x1 (nI (k + 1)) (lN (N p * (k + 1) / E p)) (lN (N p * (k + 1) / E p)) ms mnt mnb = some (lN (ds (N p) (E p) (tr (N p) (E p) (k + 1)).1 (tr (N p) (E p) (k + 1)).2), nI (tr (N p) (E p) (k + 1)).1, nI (tr (N p) (E p) (k + 1)).2) := by
      rw [FU_eq, show (4000 : Nat) = 3997 + 1 + 1 + 1 from rfl]
      by_cases c : k = 0
      · subst c
        rw [show nI (0 + 1) = nI 1 from rfl, in0_e hPL hp (by omega), in_e hPL hp (by omega) (by omega) (by omega) (by omega) (by omega) (by omega) (by omega) (by omega), inz_e (by omega)]
        have e : bst (N p) (E p) (N p * (0 + 1) / E p, 1) (N p * (0 + 1) / E p + 1) 1 = tr (N p) (E p) (0 + 1) := by
          show _ = bst (N p) (E p) (bst (N p) (E p) (tr (N p) (E p) 0) (N p * (0 + 1) / E p) (0 + 1)) (N p * (0 + 1) / E p + 1) (0 + 1)
          rw [tr_1 f1]
        rw [e]
      · obtain ⟨s1, s2, s3⟩ := hs (by omega)
        have t4 : (tr (N p) (E p) k).2 ≤ 1000 := by have := t3 (by omega); omega
        obtain ⟨u1, u2, u3⟩ := bst_n (n := N p) (d := E p) (x := tr (N p) (E p) k) (a := N p * (k + 1) / E p) (b := k + 1) (A := 2000000000) (by omega) t2 t4 (by omega) (by omega) (by omega)
        rw [s1, s2, s3, in_e hPL hp (by omega) (by omega) (by omega) (by omega) (by omega) (by omega) t2 t4]
        rw [in_e hPL hp (t := (bst (N p) (E p) (tr (N p) (E p) k) (N p * (k + 1) / E p) (k + 1)).1) (b := (bst (N p) (E p) (tr (N p) (E p) k) (N p * (k + 1) / E p) (k + 1)).2) (by omega) (by omega) (by omega) (by omega) (by omega) u1 u2 u3, inz_e (by omega)]
        rfl
    have dv : lN (N p) * lN (k + 1) / lN (E p) = lN (N p * (k + 1) / E p) := by rw [lN_mul, pk_lDiv (by omega) f1 (by omega)]
    rw [L_X7_tellsNearest_5_s, if_neg (show ¬ nI L < nI (k + 1) by rw [nI_ltI (by omega) (by omega)]; omega), ab_e hp, bd1_s, be_e hp, bd1_s, pb, pc, nI_l (show N p < 2 ^ 31 by omega), nI_l (show E p < 2 ^ 31 by omega), nI_l (show k + 1 < 2 ^ 31 by omega), if_neg (show ¬ lN (E p) = (0 : Int64) from by show ¬ lN (E p) = lN 0; rw [pk_lEQ (by omega) (by omega)]; omega), dv, r34, bd3_s, show nI (k + 1) + (1 : Int32) = nI (k + 1 + 1) from nI_1 _]
    exact ih (k + 1) F _ _ _ (by omega) (by omega) hL1 (fun _ => ⟨rfl, rfl, rfl⟩)
theorem best_f {n d L a b : Nat} (h : Fr n d) (hL : L ≤ 1000) (hB : BEST n d L a b) : Fr a b := by
  obtain ⟨f1, f2, f3, f4⟩ := h
  obtain ⟨b1, b2, b3⟩ := hB
  have an : a ≤ n := by
    apply Classical.byContradiction
    intro hlt
    by_cases c : b ≤ d
    · have h1 := b3 n b b1 b2
      have z1 : (n + 1) * d ≤ a * d := Nat.mul_le_mul_right _ (by omega)
      rw [Nat.succ_mul] at z1
      have z2 : n * b ≤ n * d := Nat.mul_le_mul_left _ c
      have z3 : ds n d n b < ds n d a b := by unfold ds; omega
      have z4 : ds n d n b * b < ds n d a b * b := Nat.mul_lt_mul_of_pos_right z3 b1
      unfold nle at h1
      omega
    · have h1 := b3 n d f1 (by omega)
      have d0 : ds n d n d = 0 := by unfold ds; omega
      unfold nle at h1
      rw [d0, Nat.zero_mul] at h1
      omega
  refine ⟨b1, by omega, by omega, ?_⟩
  have g0 : 0 < Nat.gcd a b := Nat.gcd_pos_of_pos_right a b1
  obtain ⟨a', ha'⟩ := Nat.gcd_dvd_left a b
  obtain ⟨b', hb'⟩ := Nat.gcd_dvd_right a b
  generalize Nat.gcd a b = g at *
  have b'1 : 1 ≤ b' := by
    apply Nat.pos_of_ne_zero
    intro z
    subst z
    omega
  apply Classical.byContradiction
  intro hg
  have b'l : 2 * b' ≤ g * b' := Nat.mul_le_mul_right _ (by omega)
  have h1 := b3 a' b' b'1 (by omega)
  have e : ds n d a b = g * ds n d a' b' := by
    unfold ds
    rw [ha', hb', show n * (g * b') = g * (n * b') from by ac_rfl, show g * a' * d = g * (a' * d) from by ac_rfl, ← Nat.mul_sub, ← Nat.mul_sub, ← Nat.mul_add]
  have e2 : ds n d a b * b' = ds n d a' b' * b := by rw [e, hb']; ac_rfl
  unfold nle at h1
  omega
theorem lim_cases (a : Int32) : (∃ L, 1 ≤ L ∧ L ≤ 1000 ∧ a = nI L ∧ F_X6_requireLimit a = some 0 ∧ F_X7_isGreatest a = 1) ∨ (F_X6_requireLimit a = some 2 ∧ F_X7_isGreatest a = 0) := by
  unfold F_X7_isGreatest F_X6_requireLimit
  rcases in_cases a 1 1000 (by omega) (by omega) with ⟨n, n1, n2, rfl, z1⟩ | ⟨z1, z2⟩
  · left
    exact ⟨n, n1, n2, rfl, by rw [if_neg (show ¬ nI n < (1 : Int32) from by show ¬ nI n < nI 1; rw [nI_ltI (by omega) (by omega)]; omega), if_pos (show nI n ≤ (1000 : Int32) from by show nI n ≤ nI 1000; rw [nI_leI (by omega) (by omega)]; omega)], z1⟩
  · right
    refine ⟨?_, z1⟩
    rcases z2 with z2 | ⟨z2, z3⟩
    · rw [if_pos (show a < 1 from z2)]
    · rw [if_neg (show ¬ a < 1 from z2), if_neg]
      rw [Int32.lt_iff_toInt_lt] at z3
      rw [Int32.le_iff_toInt_le]
      rw [nI_toInt (by omega)] at z3
      have e2 : (1000 : Int32).toInt = 1000 := by decide
      omega
variable {th cn : Int32} {te : Nat → Int32} {be : Nat → Int64} {mnt mnb : Int32}
/-- the nearest fraction, three ways, or the same error -/
theorem near_p (hPL : PL pl ms N E) (a1 a2 : Int32) :
    (∃ p a b te' be' cn', p < 6 ∧ a1 = nI p ∧ Fr a b ∧ F_X6_isPlate a1 = 1 ∧ F_X7_isPlate a1 = 1 ∧ F_X7_isGreatest a2 = 1 ∧ F_X6_requirePlate a1 = some 0 ∧ F_X6_requireLimit a2 = some 0 ∧ F_X6_nearest pl te be cn a1 a2 = some (0, fz a b, te', be', cn') ∧ F_X6_triedDenominator (pl p) a2 = some (nI b) ∧ F_X7_tellsNearest ms mnt mnb a1 a2 = some (nI a, nI b)) ∨
    (F_X6_nearest pl te be cn a1 a2 = some (1, 0, te, be, cn) ∧ F_X6_requirePlate a1 = some 1 ∧ F_X7_isPlate a1 = 0) ∨
    (F_X6_nearest pl te be cn a1 a2 = some (2, 0, te, be, cn) ∧ F_X6_requirePlate a1 = some 0 ∧ F_X6_requireLimit a2 = some 2 ∧ F_X7_isPlate a1 = 1 ∧ F_X7_isGreatest a2 = 0) := by
  unfold F_X6_nearest
  rcases plate_cases a1 with ⟨p, hp, rfl, x1, y1⟩ | ⟨x1, y1⟩
  · rcases lim_cases a2 with ⟨L, l1, l2, rfl, x2, y2⟩ | ⟨x2, y2⟩
    · left
      obtain ⟨pa, pb, pc, pd⟩ := hPL p hp
      obtain ⟨K, te', be', mtm', k1, k2, k3, kg, k4, ka, kb, k5, e1, -, cf⟩ := both_e (te := te) (be := be) (cn := cn) (mtm := te) (mtn := 0) hPL hp
      obtain ⟨a, b, hB, ha, r1⟩ := nea_e pd k1 k2 k4 ka kb k5 cf l1 l2
      have hT := (tr_b (n := N p) (d := E p) pd.1 L).2 l1
      obtain ⟨ea, eb⟩ := best_u hB hT
      refine ⟨p, a, b, te', be', nI K, hp, rfl, best_f pd l2 hB, x1, y1, y2, rp_ok x1, x2, ?_, ?_, ?_⟩
      · rw [rp_ok x1, bd1_s, if_pos rfl, x2, bd1_s, if_pos rfl, inb hp (by omega), cl_nI (by omega), pa, e1, bd3_s, r1, bd1_s]
      · rw [pa]; exact tri_e pd l1 l2 hB
      · unfold F_X7_tellsNearest
        rw [show L_X7_tellsNearest_5 FU (nI p) (nI L) (0 : Int64) (1 : Int32) ms mnt mnb = some (nI (tr (N p) (E p) L).1, nI (tr (N p) (E p) L).2) from mtr_e hPL hp l2 L 0 FU 0 mnt mnb (by omega) (by rw [FU_eq]; omega) l1 (fun h => by omega), bd2_s, ea, eb]
    · right; right
      rw [rp_ok x1, bd1_s, if_pos rfl, x2, bd1_s, if_neg (by decide)]
      exact ⟨rfl, rfl, rfl, y1, y2⟩
  · right; left
    rw [rp_no x1, bd1_s, if_neg (by decide)]
    exact ⟨rfl, rfl, y1⟩
/-- the model's answer and error -/
theorem isn_e (a1 a2 : Int32) : (F_X7_isPlate a1 = 0 → F_X7_isNear th ms mnt mnb a1 a2 = some (0, 1, mnt, mnb)) ∧ (F_X7_isPlate a1 = 1 → F_X7_isGreatest a2 = 0 → F_X7_isNear th ms mnt mnb a1 a2 = some (0, 2, mnt, mnb)) ∧ (∀ x y, F_X7_isPlate a1 = 1 → F_X7_isGreatest a2 = 1 → F_X7_tellsNearest ms mnt mnb a1 a2 = some (x, y) → F_X7_isNear th ms mnt mnb a1 a2 = some (1, 0, x, y)) := by
  refine ⟨fun h => ?_, fun h h2 => ?_, fun x y h h2 h3 => ?_⟩
  · unfold F_X7_isNear
    rw [if_pos h, if_neg (show ¬ (1 : Int32) = 0 by decide), bd2_s, if_neg (show ¬ (1 : Int32) = 0 by decide)]
  · unfold F_X7_isNear
    rw [h, h2, if_neg (show ¬ (1 : Int32) = 0 by decide), if_pos rfl, if_neg (show ¬ (2 : Int32) = 0 by decide), bd2_s, if_neg (show ¬ (2 : Int32) = 0 by decide)]
  · unfold F_X7_isNear
    rw [h, h2, if_neg (show ¬ (1 : Int32) = 0 by decide), if_neg (show ¬ (1 : Int32) = 0 by decide), if_pos rfl, h3, bd2_s, bd2_s, if_pos rfl]
def QQ (X : Option (Nat × Int32 × (Nat → Int32) × (Nat → Int64) × Int32)) (Mo : Option (Int32 × Int32 × Int32 × Int32)) (ks : List (Nat × Int32)) : Prop :=
  ∃ (k : Nat) (code r b cn' mnt' mnb' : Int32) (te' : Nat → Int32) (be' : Nat → Int64), (k, code) ∈ ks ∧ X = some (k, r, te', be', cn') ∧ Mo = some (b, code, mnt', mnb') ∧ (k = 0 → r = b)
theorem nd_q (hPL : PL pl ms N E) (a1 a2 : Int32) : QQ (F_X6_nearestDenominator pl te be cn a1 a2) (F_X7_nearestDenominator th ms mnt mnb a1 a2) [(0, 0), (1, 1), (2, 2)] := by
  unfold F_X6_nearestDenominator F_X7_nearestDenominator
  obtain ⟨i1, i2, i3⟩ := isn_e (th := th) (ms := ms) (mnt := mnt) (mnb := mnb) a1 a2
  rcases near_p (te := te) (be := be) (cn := cn) (mnt := mnt) (mnb := mnb) hPL a1 a2 with ⟨p, a, b, te', be', cn', hp, rfl, fr, z1, z2, z3, z4, z5, e1, e2, e3⟩ | ⟨e1, e2, e3⟩ | ⟨e1, e2, e3, e4, e5⟩
  · obtain ⟨f1, f2, f3, f4⟩ := fr
    rw [e1, bd5_s, if_pos rfl, den_fz (by omega) f1 (by omega), lN_i, i3 _ _ z2 z3 e3, bd4_s, if_neg n10]
    exact ⟨0, 0, _, _, _, _, _, _, _, by simp, rfl, rfl, fun _ => rfl⟩
  · rw [e1, bd5_s, if_neg (by decide), i1 e3, bd4_s, if_pos rfl]
    exact ⟨1, 1, 0, 0, _, _, _, _, _, by simp, rfl, rfl, fun h => absurd h (by decide)⟩
  · rw [e1, bd5_s, if_neg (by decide), i2 e4 e5, bd4_s, if_pos rfl]
    exact ⟨2, 2, 0, 0, _, _, _, _, _, by simp, rfl, rfl, fun h => absurd h (by decide)⟩
theorem nn_q (hPL : PL pl ms N E) (a1 a2 : Int32) : QQ (F_X6_nearestNumerator pl te be cn a1 a2) (F_X7_nearestNumerator th ms mnt mnb a1 a2) [(0, 0), (1, 1), (2, 2)] := by
  unfold F_X6_nearestNumerator F_X7_nearestNumerator
  obtain ⟨i1, i2, i3⟩ := isn_e (th := th) (ms := ms) (mnt := mnt) (mnb := mnb) a1 a2
  rcases near_p (te := te) (be := be) (cn := cn) (mnt := mnt) (mnb := mnb) hPL a1 a2 with ⟨p, a, b, te', be', cn', hp, rfl, fr, z1, z2, z3, z4, z5, e1, e2, e3⟩ | ⟨e1, e2, e3⟩ | ⟨e1, e2, e3, e4, e5⟩
  · obtain ⟨f1, f2, f3, f4⟩ := fr
    rw [e1, bd5_s, if_pos rfl, num_fz (by omega) (by omega), lN_i, i3 _ _ z2 z3 e3, bd4_s, if_neg n10]
    exact ⟨0, 0, _, _, _, _, _, _, _, by simp, rfl, rfl, fun _ => rfl⟩
  · rw [e1, bd5_s, if_neg (by decide), i1 e3, bd4_s, if_pos rfl]
    exact ⟨1, 1, 0, 0, _, _, _, _, _, by simp, rfl, rfl, fun h => absurd h (by decide)⟩
  · rw [e1, bd5_s, if_neg (by decide), i2 e4 e5, bd4_s, if_pos rfl]
    exact ⟨2, 2, 0, 0, _, _, _, _, _, by simp, rfl, rfl, fun h => absurd h (by decide)⟩
def QT (X : Option (Nat × Int32)) (Mo : Option (Int32 × Int32 × Int32 × Int32)) (ks : List (Nat × Int32)) : Prop :=
  ∃ (k : Nat) (code r b mnt' mnb' : Int32), (k, code) ∈ ks ∧ X = some (k, r) ∧ Mo = some (b, code, mnt', mnb') ∧ (k = 0 → r = b)
theorem nt_q (hPL : PL pl ms N E) (a1 a2 : Int32) : QT (F_X6_nearestByTrying pl a1 a2) (F_X7_nearestByTrying th ms mnt mnb a1 a2) [(0, 0), (1, 1), (2, 2)] := by
  unfold F_X6_nearestByTrying F_X7_nearestByTrying
  obtain ⟨i1, i2, i3⟩ := isn_e (th := th) (ms := ms) (mnt := mnt) (mnb := mnb) a1 a2
  rcases near_p (te := ms) (be := pl) (cn := 0) (mnt := mnt) (mnb := mnb) hPL a1 a2 with ⟨p, a, b, te', be', cn', hp, rfl, fr, z1, z2, z3, z4, z5, e1, e2, e3⟩ | ⟨e1, e2, e3⟩ | ⟨e1, e2, e3, e4, e5⟩
  · obtain ⟨f1, f2, f3, f4⟩ := fr
    rw [z4, bd1_s, if_pos rfl, z5, bd1_s, if_pos rfl, inb hp (by omega), cl_nI (by omega), e2, bd1_s, i3 _ _ z2 z3 e3, bd4_s, if_neg n10]
    exact ⟨0, 0, _, _, _, _, by simp, rfl, rfl, fun _ => rfl⟩
  · rw [e2, bd1_s, if_neg (by decide), i1 e3, bd4_s, if_pos rfl]
    exact ⟨1, 1, 0, 0, _, _, by simp, rfl, rfl, fun h => absurd h (by decide)⟩
  · rw [e2, bd1_s, if_pos rfl, e3, bd1_s, if_neg (by decide), i2 e4 e5, bd4_s, if_pos rfl]
    exact ⟨2, 2, 0, 0, _, _, by simp, rfl, rfl, fun h => absurd h (by decide)⟩
end
section
variable {pl hs sl ou : Nat → Int64} {ho hc smn th le mle : Int32} {ch fi ms mst msl mhs mtx : Nat → Int32} {N E : Nat → Nat} {cn mnt mnb : Int32} {te : Nat → Int32} {be : Nat → Int64} {mtp mbt : Int64}
theorem mG_18 (h : REL pl ch le hs ho hc sl fi ms mst smn msl mhs mtx mle) (a1 a2 a3 : Int32) : ∃ te' be' cn' th' mnt' mnb' ou', G_18 pl te be cn th ms mnt mnb ou a1 a2 a3 = some (te', be', cn', th', mnt', mnb', ou') := by
  obtain ⟨⟨N, E, hPL⟩, -⟩ := h
  obtain ⟨k, code, r, b, cn', mnt', mnb', te', be', hk, eX, eM, hrb⟩ := nd_q (te := te) (be := be) (cn := cn) (th := th) (mnt := mnt) (mnb := mnb) hPL a1 a2
  simp only [List.mem_cons, List.not_mem_nil, or_false, Prod.mk.injEq] at hk
  unfold G_18 F_L_nearestDenominator
  rcases hk with ⟨rfl, rfl⟩ | ⟨rfl, rfl⟩ | ⟨rfl, rfl⟩
  · have hrb := hrb rfl
    subst hrb
    exact ⟨_, _, _, _, _, _, _, by rw [eX, bd5_s, if_pos rfl, bd5_s, eM, bd4_s, if_pos (show F_X7_thrown 0 = 0 from rfl), if_pos rfl, if_pos ou_e]⟩
  · exact ⟨_, _, _, _, _, _, _, by rw [eX, bd5_s, if_neg (by decide), if_pos rfl, bd5_s, eM, bd4_s, if_pos (show F_X7_thrown 1 = 1 from rfl), if_neg (by decide)]⟩
  · exact ⟨_, _, _, _, _, _, _, by rw [eX, bd5_s, if_neg (by decide), if_neg (by decide), if_pos rfl, bd5_s, eM, bd4_s, if_pos (show F_X7_thrown 2 = 2 from rfl), if_neg (by decide)]⟩

theorem mG_20 (h : REL pl ch le hs ho hc sl fi ms mst smn msl mhs mtx mle) (a1 a2 a3 : Int32) : ∃ te' be' cn' th' mnt' mnb' ou', G_20 pl te be cn th ms mnt mnb ou a1 a2 a3 = some (te', be', cn', th', mnt', mnb', ou') := by
  obtain ⟨⟨N, E, hPL⟩, -⟩ := h
  obtain ⟨k, code, r, b, cn', mnt', mnb', te', be', hk, eX, eM, hrb⟩ := nn_q (te := te) (be := be) (cn := cn) (th := th) (mnt := mnt) (mnb := mnb) hPL a1 a2
  simp only [List.mem_cons, List.not_mem_nil, or_false, Prod.mk.injEq] at hk
  unfold G_20 F_L_nearestNumerator
  rcases hk with ⟨rfl, rfl⟩ | ⟨rfl, rfl⟩ | ⟨rfl, rfl⟩
  · have hrb := hrb rfl
    subst hrb
    exact ⟨_, _, _, _, _, _, _, by rw [eX, bd5_s, if_pos rfl, bd5_s, eM, bd4_s, if_pos (show F_X7_thrown 0 = 0 from rfl), if_pos rfl, if_pos ou_e]⟩
  · exact ⟨_, _, _, _, _, _, _, by rw [eX, bd5_s, if_neg (by decide), if_pos rfl, bd5_s, eM, bd4_s, if_pos (show F_X7_thrown 1 = 1 from rfl), if_neg (by decide)]⟩
  · exact ⟨_, _, _, _, _, _, _, by rw [eX, bd5_s, if_neg (by decide), if_neg (by decide), if_pos rfl, bd5_s, eM, bd4_s, if_pos (show F_X7_thrown 2 = 2 from rfl), if_neg (by decide)]⟩

theorem mG_19 (h : REL pl ch le hs ho hc sl fi ms mst smn msl mhs mtx mle) (a1 a2 a3 : Int32) : ∃ th' mnt' mnb' ou', G_19 pl th ms mnt mnb ou a1 a2 a3 = some (th', mnt', mnb', ou') := by
  obtain ⟨⟨N, E, hPL⟩, -⟩ := h
  obtain ⟨k, code, r, b, mnt', mnb', hk, eX, eM, hrb⟩ := nt_q (th := th) (mnt := mnt) (mnb := mnb) hPL a1 a2
  simp only [List.mem_cons, List.not_mem_nil, or_false, Prod.mk.injEq] at hk
  unfold G_19 F_L_nearestByTrying
  rcases hk with ⟨rfl, rfl⟩ | ⟨rfl, rfl⟩ | ⟨rfl, rfl⟩
  · have hrb := hrb rfl
    subst hrb
    exact ⟨_, _, _, _, by rw [eX, bd2_s, if_pos rfl, bd2_s, eM, bd4_s, if_pos (show F_X7_thrown 0 = 0 from rfl), if_pos rfl, if_pos ou_e]⟩
  · exact ⟨_, _, _, _, by rw [eX, bd2_s, if_neg (by decide), if_pos rfl, bd2_s, eM, bd4_s, if_pos (show F_X7_thrown 1 = 1 from rfl), if_neg (by decide)]⟩
  · exact ⟨_, _, _, _, by rw [eX, bd2_s, if_neg (by decide), if_neg (by decide), if_pos rfl, bd2_s, eM, bd4_s, if_pos (show F_X7_thrown 2 = 2 from rfl), if_neg (by decide)]⟩

theorem mG_7 (h : REL pl ch le hs ho hc sl fi ms mst smn msl mhs mtx mle) (a1 a2 a3 : Int32) : ∃ pl' te' be' cn' hs' ho' hc' th' ms' mst' smn' mtp' mbt' mnt' mnb' ou', G_7 pl te be cn hs ho hc th ms mst smn mtp mbt mnt mnb ou a1 a2 a3 = some (pl', te', be', cn', hs', ho', hc', th', ms', mst', smn', mtp', mbt', mnt', mnb', ou') ∧ REL pl' ch le hs' ho' hc' sl fi ms' mst' smn' msl mhs mtx mle := by
  obtain ⟨⟨N, E, hPL⟩, hHR, hT, hS⟩ := h
  unfold G_7 F_L_roundTo F_X6_roundTo F_X7_roundTo
  rcases near_p (te := te) (be := be) (cn := cn) (mnt := mnt) (mnb := mnb) hPL a1 a2 with ⟨p, a, b, te', be', cn', hp, rfl, fr, z1, z2, z3, z4, z5, e1, e2, e3⟩ | ⟨e1, e2, e3⟩ | ⟨e1, e2, e3, e4, e5⟩
  · obtain ⟨hs', ho', hc', mst', smn', r1, r2, r3⟩ := rec_e hPL hHR
    obtain ⟨f1, f2, f3, f4⟩ := id fr
    have mk := mk_b (mtp := mtp) (mbt := mbt) (n := a) (d := b) f1 (by omega) (by omega)
    rw [f4, Nat.div_one, Nat.div_one, lowb_1 f3 f2] at mk
    exact ⟨_, te', be', cn', hs', ho', hc', _, _, mst', smn', _, _, _, _, _, by rw [e1, bd5_s, if_pos rfl, ch_e hp fr r1, bd5_s, bd9_s, if_pos rfl, bd9_s, z2, if_neg n10, z3, if_neg n10, r2, bd2_s, e3, bd2_s, nI_l (by omega), nI_l (by omega), mk, bd3_s, pu_e hp, bd2_s, bd9_s, if_pos (show F_X7_thrown 0 = 0 from rfl), if_pos rfl, nI_l (show b < 2 ^ 31 by omega), if_pos ou_e], ⟨_, _, pl_put hPL hp fr⟩, r3, hT, hS⟩
  · exact ⟨pl, te, be, cn, hs, ho, hc, _, ms, mst, smn, mtp, mbt, mnt, mnb, ou, by rw [e1, bd5_s, if_neg (by decide), bd9_s, if_neg (by decide), if_pos rfl, bd9_s, e3, if_pos rfl]; rfl, ⟨N, E, hPL⟩, hHR, hT, hS⟩
  · exact ⟨pl, te, be, cn, hs, ho, hc, _, ms, mst, smn, mtp, mbt, mnt, mnb, ou, by rw [e1, bd5_s, if_neg (by decide), bd9_s, if_neg (by decide), if_neg (by decide), if_pos rfl, bd9_s, e4, if_neg n10, e5, if_pos rfl]; rfl, ⟨N, E, hPL⟩, hHR, hT, hS⟩
end
