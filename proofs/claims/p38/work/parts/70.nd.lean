/-! the nearest fraction: the loops -/
section
variable {n d : Nat}
theorem ds_b {a b : Nat} (hn : n ≤ 1000000) (hd : d ≤ 1000000) (ha : a ≤ 2000000000) (hb : b ≤ 1000) : n * b ≤ 1000000000 ∧ a * d ≤ 2000000000000000 ∧ ds n d a b ≤ 2000000000000000 := by
  have e1 : n * b ≤ 1000000 * 1000 := Nat.mul_le_mul hn hb
  have e2 : a * d ≤ 2000000000 * 1000000 := Nat.mul_le_mul ha hd
  refine ⟨by omega, by omega, ?_⟩
  unfold ds
  omega
theorem abs0 {A B : Nat} (hA : A < 2 ^ 61) (hB : B < 2 ^ 61) : (if (0 : Int64) ≤ lN A - lN B then lN A - lN B else -(lN A - lN B)) = lN ((A - B) + (B - A)) := by
  by_cases c : B ≤ A
  · rw [if_pos (by rw [sub_ge (by omega) (by omega)]; exact c), lN_sub c, show (A - B) + (B - A) = A - B from by omega]
  · rw [if_neg (by rw [sub_ge (by omega) (by omega)]; exact c), Int64.neg_sub, lN_sub (by omega), show (A - B) + (B - A) = B - A from by omega]
theorem abs1 {A B : Nat} (hA : A < 2 ^ 61) (hB : B < 2 ^ 61) : (if (0 : Int64) < lN A - lN B then lN A - lN B else -(lN A - lN B)) = lN ((A - B) + (B - A)) := by
  by_cases c : B < A
  · have h : (0 : Int64) < lN A - lN B := by
      rw [Int64.lt_iff_toInt_lt, l_sub (by omega) (by omega), show (0 : Int64).toInt = 0 from by decide]; omega
    rw [if_pos h, lN_sub (by omega), show (A - B) + (B - A) = A - B from by omega]
  · have h : ¬ (0 : Int64) < lN A - lN B := by
      rw [Int64.lt_iff_toInt_lt, l_sub (by omega) (by omega), show (0 : Int64).toInt = 0 from by decide]; omega
    rw [if_neg h, Int64.neg_sub, lN_sub (by omega), show (A - B) + (B - A) = B - A from by omega]
theorem dis_e {a b : Nat} (h : Fr n d) (ha : a ≤ 2000000000) (hb1 : 1 ≤ b) (hb : b ≤ 1000000) (hb2 : n * b ≤ 1000000000000) : F_X3_distanceTimesDenominators (fz n d) (fz a b) = lN (ds n d a b) := by
  obtain ⟨f1, f2, f3, f4⟩ := h
  have e2 : a * d ≤ 2000000000 * 1000000 := Nat.mul_le_mul ha f2
  unfold F_X3_distanceTimesDenominators
  rw [num_fz (by omega) (by omega), num_fz (by omega) (by omega), den_fz (by omega) f1 (by omega), den_fz (by omega) hb1 (by omega), lN_mul, lN_mul, abs1 (by omega) (by omega)]
  rfl
theorem nr_e {a b a' b' : Nat} (h : Fr n d) (ha : a ≤ 2000000000) (hb1 : 1 ≤ b) (hb : b ≤ 1000) (ha' : a' ≤ 2000000000) (hb1' : 1 ≤ b') (hb' : b' ≤ 1000) : F_X3_nearer (fz n d) (fz a b) (fz a' b') = fz (bst n d (a, b) a' b').1 (bst n d (a, b) a' b').2 := by
  obtain ⟨f1, f2, f3, f4⟩ := id h
  obtain ⟨g1, g2, g3⟩ := ds_b (a := a) (b := b) f3 f2 ha hb
  obtain ⟨k1, k2, k3⟩ := ds_b (a := a') (b := b') f3 f2 ha' hb'
  have m1 : ds n d a b * b' ≤ 2000000000000000 * 1000 := Nat.mul_le_mul g3 hb'
  have m2 : ds n d a' b' * b ≤ 2000000000000000 * 1000 := Nat.mul_le_mul k3 hb
  unfold F_X3_nearer bst
  rw [dis_e h ha hb1 (by omega) (by omega), dis_e h ha' hb1' (by omega) (by omega), den_fz (by omega) hb1 (by omega), den_fz (by omega) hb1' (by omega), lN_mul, lN_mul]
  by_cases c : ds n d a b * b' ≤ ds n d a' b' * b
  · rw [if_pos ((pk_lLE (by omega) (by omega)).mpr c), if_pos c]
  · rw [if_neg (fun z => c ((pk_lLE (by omega) (by omega)).mp z)), if_neg c]
/-- the numbers of the trying -/
theorem nk_b {k : Nat} (hn : n ≤ 1000000) (hk : k ≤ 1000) : n * k ≤ 1000000000 := Nat.mul_le_mul hn hk
/-- the class's way by trying: denominators alone -/
def pa (n d t : Nat) : Nat := if d - n * t % d < n * t % d then d - n * t % d else n * t % d
theorem pa_b (hd : 1 ≤ d) (b : Nat) : ∃ a, ds n d a b = pa n d b ∧ ∀ a', pa n d b < ds n d a' b ∨ (pa n d b = ds n d a' b ∧ a ≤ a') := by
  have e1 := Nat.div_add_mod (n * b) d
  have e2 := Nat.mod_lt (n * b) (show d > 0 from hd)
  rw [Nat.mul_comm] at e1
  unfold pa
  generalize n * b / d = f at *
  generalize n * b % d = r at *
  have e3 : (f + 1) * d = f * d + d := Nat.succ_mul f d
  have z : ∀ u v : Nat, u ≤ v → u * d ≤ v * d := fun u v h => Nat.mul_le_mul_right _ h
  by_cases c : d - r < r
  · rw [if_pos c]
    refine ⟨f + 1, by unfold ds; omega, fun a' => ?_⟩
    by_cases c1 : a' ≤ f
    · have z1 := z a' f c1
      left; unfold ds; omega
    · by_cases c2 : a' = f + 1
      · subst c2; right; exact ⟨by unfold ds; omega, Nat.le_refl _⟩
      · have z1 := z (f + 1 + 1) a' (by omega)
        have e4 : (f + 1 + 1) * d = (f + 1) * d + d := Nat.succ_mul (f + 1) d
        left; unfold ds; omega
  · rw [if_neg c]
    refine ⟨f, by unfold ds; omega, fun a' => ?_⟩
    by_cases c1 : a' = f
    · subst c1; right; exact ⟨by unfold ds; omega, Nat.le_refl _⟩
    · by_cases c2 : a' ≤ f
      · have z1 := z (a' + 1) f (by omega)
        have e4 : (a' + 1) * d = a' * d + d := Nat.succ_mul a' d
        left; unfold ds; omega
      · have z1 := z (f + 1) a' (by omega)
        unfold ds
        omega
theorem best_s (hd : 1 ≤ d) {k a b : Nat} (h : BEST n d k a b) : ∃ a', BEST n d (k + 1) a' (if pa n d b * (k + 1) ≤ pa n d (k + 1) * b then b else k + 1) := by
  obtain ⟨h1, h2, h3⟩ := h
  obtain ⟨a0, p1, p2⟩ := pa_b (n := n) hd b
  obtain ⟨a1, q1, q2⟩ := pa_b (n := n) hd (k + 1)
  have hab : ds n d a b = pa n d b := by
    have x := h3 a0 b h1 h2
    have y := p2 a
    unfold nle at x
    rw [p1] at x
    have w : ds n d a b ≤ pa n d b := by
      rcases x with x | ⟨x, -⟩
      · exact Nat.le_of_lt (Nat.lt_of_mul_lt_mul_right x)
      · exact Nat.le_of_eq (Nat.eq_of_mul_eq_mul_right h1 x)
    omega
  by_cases c : pa n d b * (k + 1) ≤ pa n d (k + 1) * b
  · rw [if_pos c]
    refine ⟨a, h1, by omega, fun a' b' k1 k2 => ?_⟩
    by_cases c2 : b' = k + 1
    · subst c2
      have y : pa n d (k + 1) ≤ ds n d a' (k + 1) := by have := q2 a'; omega
      have y2 : pa n d (k + 1) * b ≤ ds n d a' (k + 1) * b := Nat.mul_le_mul_right _ y
      unfold nle
      rw [hab]
      omega
    · exact h3 a' b' k1 (by omega)
  · rw [if_neg c]
    have s0 : nle n d a1 (k + 1) a b := by
      left
      rw [q1, hab]
      omega
    refine ⟨a1, by omega, Nat.le_refl _, fun a' b' k1 k2 => ?_⟩
    by_cases c2 : b' = k + 1
    · subst c2
      unfold nle
      rw [q1]
      rcases q2 a' with y | ⟨y, y2⟩
      · left; exact Nat.mul_lt_mul_of_pos_right y (by omega)
      · right; exact ⟨by rw [y], Or.inr ⟨rfl, y2⟩⟩
    · exact nle_t (by omega) h1 k1 s0 (h3 a' b' k1 (by omega))
theorem best_1 (hd : 1 ≤ d) : ∃ a, BEST n d 1 a 1 := by
  obtain ⟨a1, q1, q2⟩ := pa_b (n := n) hd 1
  refine ⟨a1, by omega, by omega, fun a' b' k1 k2 => ?_⟩
  have c2 : b' = 1 := by omega
  subst c2
  unfold nle
  rw [q1]
  rcases q2 a' with y | ⟨y, y2⟩
  · left; omega
  · right; exact ⟨by rw [y], Or.inr ⟨rfl, y2⟩⟩
theorem pa_e (h : Fr n d) {t : Nat} (ht : t ≤ 1000) : F_X3_partsApart (fz n d) (nI t) = some (lN (pa n d t)) ∧ pa n d t ≤ 1000000 := by
  obtain ⟨f1, f2, f3, f4⟩ := h
  have b2 := nk_b (k := t) f3 ht
  have e2 := Nat.mod_lt (n * t) (show d > 0 from f1)
  unfold F_X3_partsApart pa
  rw [den_fz (by omega) f1 (by omega), num_fz (by omega) (by omega), if_neg (show ¬ lN d = (0 : Int64) from by show ¬ lN d = lN 0; rw [pk_lEQ (by omega) (by omega)]; omega), nI_l (by omega), lN_mul, pk_lRem (by omega) f1 (by omega), lN_sub (by omega)]
  by_cases c : d - n * t % d < n * t % d
  · rw [if_pos ((pk_lLT (by omega) (by omega)).mpr c), if_pos c]
    exact ⟨rfl, by omega⟩
  · rw [if_neg (fun z => c ((pk_lLT (by omega) (by omega)).mp z)), if_neg c]
    exact ⟨rfl, by omega⟩
theorem tri_d (h : Fr n d) {L : Nat} (hL : L ≤ 1000) : ∀ (m k f b : Nat), k + m = L → m < f → (∃ a, BEST n d k a b) → ∃ b', L_X6_triedDenominator_5 f (fz n d) (nI L) (nI b) (nI (k + 1)) = some (nI b') ∧ ∃ a, BEST n d L a b' := by
  obtain ⟨f1, f2, f3, f4⟩ := id h
  intro m
  induction m with
  | zero =>
    intro k f b hk hf hb
    obtain ⟨f, rfl⟩ : ∃ k, f = k + 1 := ⟨f - 1, by omega⟩
    have e : k = L := by omega
    subst e
    exact ⟨b, by rw [L_X6_triedDenominator_5_s, if_pos (show nI k < nI (k + 1) by rw [nI_ltI (by omega) (by omega)]; omega)], hb⟩
  | succ m ih =>
    intro k f b hk hf hb
    obtain ⟨f, rfl⟩ : ∃ k, f = k + 1 := ⟨f - 1, by omega⟩
    obtain ⟨a, hB⟩ := hb
    have hb1 := hB.1
    have hb2 := hB.2.1
    obtain ⟨r1, r2⟩ := pa_e h (t := k + 1) (by omega)
    obtain ⟨s1, s2⟩ := pa_e h (t := b) (by omega)
    have g1 : pa n d b * (k + 1) ≤ 1000000 * 1000 := Nat.mul_le_mul s2 (by omega)
    have g2 : pa n d (k + 1) * b ≤ 1000000 * 1000 := Nat.mul_le_mul r2 (by omega)
    have st := best_s (n := n) f1 hB
    rw [L_X6_triedDenominator_5_s, if_neg (show ¬ nI L < nI (k + 1) by rw [nI_ltI (by omega) (by omega)]; omega), r1, bd1_s, s1, bd1_s, nI_l (by omega), nI_l (by omega), lN_mul, lN_mul, show nI (k + 1) + (1 : Int32) = nI (k + 1 + 1) from nI_1 _]
    by_cases c : pa n d b * (k + 1) ≤ pa n d (k + 1) * b
    · rw [if_pos ((pk_lLE (by omega) (by omega)).mpr c)]
      rw [if_pos c] at st
      exact ih (k + 1) f b (by omega) (by omega) st
    · rw [if_neg (fun z => c ((pk_lLE (by omega) (by omega)).mp z))]
      rw [if_neg c] at st
      exact ih (k + 1) f (k + 1) (by omega) (by omega) st
theorem tri_e (h : Fr n d) {L a b : Nat} (hL1 : 1 ≤ L) (hL : L ≤ 1000) (hB : BEST n d L a b) : F_X6_triedDenominator (fz n d) (nI L) = some (nI b) := by
  unfold F_X6_triedDenominator
  obtain ⟨m, rfl⟩ : ∃ m, L = 1 + m := ⟨L - 1, by omega⟩
  obtain ⟨b', r, a', hB'⟩ := tri_d h hL m 1 FU 1 rfl (by rw [FU_eq]; omega) (best_1 h.1)
  rw [show L_X6_triedDenominator_5 FU (fz n d) (nI (1 + m)) (1 : Int32) (2 : Int32) = some (nI b') from r, bd1_s, (best_u hB hB').2]
/-- the class's choice of the convergent -/
theorem pick_e {K L : Nat} {be : Nat → Int64} (hK : K ≤ 40) (hL : L ≤ 1000) (k5 : ∀ j, j < K → ap n d (j + 2) ≤ 1000000 ∧ aq n d (j + 2) ≤ 1000000 ∧ 1 ≤ aq n d (j + 2)) (hb : ∀ j, j < K → be j = fz (ap n d (j + 2)) (aq n d (j + 2))) : ∀ (m x v f : Nat), x + m = K → m < f → v < x → aq n d (v + 2) ≤ L → (v + 1 < x → L < aq n d (v + 3)) → ∃ v', L_X2_nearest_4 f (nI L) (nI v) (nI x) be (nI K) = some (nI v') ∧ v' < K ∧ aq n d (v' + 2) ≤ L ∧ (v' + 1 < K → L < aq n d (v' + 3)) := by
  intro m
  induction m with
  | zero =>
    intro x v f hx hf hv h1 h2
    obtain ⟨f, rfl⟩ : ∃ k, f = k + 1 := ⟨f - 1, by omega⟩
    have e : x = K := by omega
    subst e
    exact ⟨v, by rw [L_X2_nearest_4_s, if_pos (Int32.le_refl _)], hv, h1, h2⟩
  | succ m ih =>
    intro x v f hx hf hv h1 h2
    obtain ⟨f, rfl⟩ : ∃ k, f = k + 1 := ⟨f - 1, by omega⟩
    obtain ⟨u1, u2, u3⟩ := k5 x (by omega)
    rw [L_X2_nearest_4_s, if_neg (show ¬ nI K ≤ nI x by rw [nI_leI (by omega) (by omega)]; omega), inb (by omega) (by omega), cl_nI (by omega), hb x (by omega), den_fz (by omega) u3 (by omega), nI_l (by omega), show nI x + (1 : Int32) = nI (x + 1) from nI_1 x]
    by_cases c : L < aq n d (x + 2)
    · rw [if_pos ((pk_lLT (by omega) (by omega)).mpr c)]
      exact ih (x + 1) v f (by omega) (by omega) (by omega) h1 (fun hv2 => by
        by_cases e : v + 1 = x
        · subst e; exact c
        · exact h2 (by omega))
    · rw [if_neg (fun z => c ((pk_lLT (by omega) (by omega)).mp z))]
      exact ih (x + 1) x f (by omega) (by omega) (by omega) (by omega) (fun hv2 => by omega)
theorem nea_e (h : Fr n d) {K L : Nat} {te mtm : Nat → Int32} {be : Nat → Int64} (k1 : 1 ≤ K) (k2 : K ≤ 40) (k4 : ∀ j, j < K → 0 < rr n d (j + 1)) (ka : ap n d (K + 1) = n) (kb : aq n d (K + 1) = d) (k5 : ∀ j, j < K → ap n d (j + 2) ≤ n ∧ aq n d (j + 2) ≤ d ∧ 1 ≤ aq n d (j + 2) ∧ tt n d j ≤ 1000000) (cf : CFR n d K te be mtm) (hL1 : 1 ≤ L) (hL : L ≤ 1000) : ∃ a b, BEST n d L a b ∧ a ≤ 2000000000 ∧ F_X2_nearest be (nI K) (nI L) = some (fz a b) := by
  obtain ⟨f1, f2, f3, f4⟩ := id h
  have k5' : ∀ j, j < K → ap n d (j + 2) ≤ 1000000 ∧ aq n d (j + 2) ≤ 1000000 ∧ 1 ≤ aq n d (j + 2) := fun j hj => by
    obtain ⟨u1, u2, u3, -⟩ := k5 j hj
    exact ⟨by omega, by omega, u3⟩
  have ek : nI K - (1 : Int32) = nI (K - 1) := by
    obtain ⟨k, rfl⟩ : ∃ k, K = k + 1 := ⟨K - 1, by omega⟩
    exact nI_pred k
  obtain ⟨v, r1, v1, v2, v3⟩ := pick_e (n := n) (d := d) (be := be) k2 hL k5' (fun j hj => (cf j hj).2.2) (K - 1) 1 0 FU (by omega) (by rw [FU_eq]; omega) (by omega) (by show tt n d 0 * 0 + 1 ≤ L; omega) (fun h => by omega)
  obtain ⟨u1, u2, u3⟩ := k5' v v1
  have bK : be (K - 1) = fz n d := by
    rw [(cf (K - 1) (by omega)).2.2, show K - 1 + 2 = K + 1 from by omega, ka, kb]
  unfold F_X2_nearest
  rw [show L_X2_nearest_4 FU (nI L) (0 : Int32) (1 : Int32) be (nI K) = some (nI v) from r1, bd1_s, ek]
  by_cases c : v = K - 1
  · subst c
    rw [if_pos rfl, inb (by omega) (by omega), cl_nI (by omega), bK]
    have eq : aq n d (K - 1 + 2) = d := by rw [show K - 1 + 2 = K + 1 from by omega, kb]
    rw [eq] at v2
    refine ⟨n, d, ⟨f1, v2, fun a b hb hbL => ?_⟩, by omega, rfl⟩
    have d0 : ds n d n d = 0 := by unfold ds; omega
    unfold nle
    rw [d0, Nat.zero_mul]
    by_cases z : ds n d a b = 0
    · right
      refine ⟨by rw [z, Nat.zero_mul], ?_⟩
      have e : n * b = a * d := by unfold ds at z; omega
      have cd : Nat.Coprime d n := by rw [Nat.Coprime, Nat.gcd_comm]; exact f4
      have dv : d ∣ b := cd.dvd_of_dvd_mul_left (show d ∣ n * b by rw [e]; exact Nat.dvd_mul_left d a)
      have dl := Nat.le_of_dvd hb dv
      by_cases z2 : d = b
      · subst z2
        right
        exact ⟨rfl, Nat.le_of_mul_le_mul_right (by omega) f1⟩
      · left; omega
    · left
      exact Nat.mul_pos (Nat.pos_of_ne_zero z) f1
  · have hv : v + 1 < K := by omega
    have hx : (if nI v = (0 : Int32) then (some (0 : Int64)) else (if ((nI v - (1 : Int32)) < 0 ∨ 40 ≤ (nI v - (1 : Int32)).toNatClampNeg) then none else some (F_X3_denominator (be (nI v - (1 : Int32)).toNatClampNeg)))) = some (lN (aq n d (v + 1))) := by
      by_cases z : v = 0
      · subst z
        rw [if_pos (show nI 0 = (0 : Int32) from rfl)]
        rfl
      · obtain ⟨u, rfl⟩ : ∃ u, v = u + 1 := ⟨v - 1, by omega⟩
        obtain ⟨w1, w2, w3⟩ := k5' u (by omega)
        rw [if_neg (show ¬ nI (u + 1) = (0 : Int32) from by show ¬ nI (u + 1) = nI 0; rw [nI_eq (by omega) (by omega)]; omega), show nI (u + 1) - (1 : Int32) = nI u from nI_pred u, inb (by omega) (by omega), cl_nI (by omega), (cf u (by omega)).2.2, den_fz (by omega) w3 (by omega)]
    have q0L : aq n d (v + 1) ≤ aq n d (v + 2) := by
      by_cases z : v = 0
      · subst z; show 0 ≤ _; exact Nat.zero_le _
      · obtain ⟨u, rfl⟩ : ∃ u, v = u + 1 := ⟨v - 1, by omega⟩
        exact aq_m k4 (by omega)
    have p0b : ap n d (v + 1) ≤ 1000000 := by
      by_cases z : v = 0
      · subst z; show 1 ≤ 1000000; omega
      · obtain ⟨u, rfl⟩ : ∃ u, v = u + 1 := ⟨v - 1, by omega⟩
        exact (k5' u (by omega)).1
    obtain ⟨c1, c2, c3, c4⟩ := cfb (n := n) (d := d) (K := K) (L := L) (v := v) f1 k4 hv v2 (v3 hv) rfl
    generalize hm : (L - aq n d (v + 1)) / aq n d (v + 2) = m at *
    have mp : m * ap n d (v + 2) ≤ 1000 * 1000000 := Nat.mul_le_mul (by omega) u1
    have nb := nb_e (n := n) (d := d) (be := be) (i := v + 1) (m := m) (by omega) (fun j hj => by
      obtain ⟨w1, w2, w3⟩ := k5' j (by omega)
      exact ⟨(cf j (by omega)).2.2, w1, w3, w2⟩) (by show m * ap n d (v + 2) + ap n d (v + 1) < _; omega) (by show m * aq n d (v + 2) + aq n d (v + 1) < _; omega)
    have nb' : F_X2_nextBeginning be (nI (v + 1)) (lN m) = some (fz (m * ap n d (v + 2) + ap n d (v + 1)) (m * aq n d (v + 2) + aq n d (v + 1))) := nb
    have dv : (lN L - lN (aq n d (v + 1))) / lN (aq n d (v + 2)) = lN m := by
      rw [lN_sub (by omega), pk_lDiv (by omega) u3 (by omega), hm]
    rw [if_neg (show ¬ nI v = nI (K - 1) by rw [nI_eq (by omega) (by omega)]; exact c), hx, bd1_s, inb (by omega) (by omega), cl_nI (by omega), (cf v v1).2.2, den_fz (by omega) u3 (by omega), if_neg (show ¬ lN (aq n d (v + 2)) = (0 : Int64) from by show ¬ lN (aq n d (v + 2)) = lN 0; rw [pk_lEQ (by omega) (by omega)]; omega), inb (by omega) (by omega), cl_nI (by omega), bK, show nI v + (1 : Int32) = nI (v + 1) from nI_1 v, nI_l (by omega), dv, nb', bd1_s, nr_e h (by omega) u3 (by omega) (by omega) c2 (by omega)]
    refine ⟨_, _, c4, ?_, rfl⟩
    rcases bst_c (n := n) (d := d) (ap n d (v + 2), aq n d (v + 2)) (m * ap n d (v + 2) + ap n d (v + 1)) (m * aq n d (v + 2) + aq n d (v + 1)) with e | e
    · rw [e]; show ap n d (v + 2) ≤ _; omega
    · rw [e]; show m * ap n d (v + 2) + ap n d (v + 1) ≤ _; omega
end
theorem best_f {n d L a b : Nat} (h : Fr n d) (hL : L ≤ 1000) (hB : BEST n d L a b) : Fr a b := by
  obtain ⟨f1, f2, f3, f4⟩ := h
  obtain ⟨b1, b2, b3⟩ := hB
  have an : a ≤ n := by
    apply Classical.byContradiction
    intro hlt
    by_cases c : b ≤ d
    · have h1 := b3 n b b1 b2
      have z1 : (n + 1) * d ≤ a * d := Nat.mul_le_mul_right _ (by omega)
      rw [Nat.succ_mul] at z1
      have z2 : n * b ≤ n * d := Nat.mul_le_mul_left _ c
      have z3 : ds n d n b < ds n d a b := by unfold ds; omega
      have z4 : ds n d n b * b < ds n d a b * b := Nat.mul_lt_mul_of_pos_right z3 b1
      unfold nle at h1
      omega
    · have h1 := b3 n d f1 (by omega)
      have d0 : ds n d n d = 0 := by unfold ds; omega
      unfold nle at h1
      rw [d0, Nat.zero_mul] at h1
      omega
  refine ⟨b1, by omega, by omega, ?_⟩
  have g0 : 0 < Nat.gcd a b := Nat.gcd_pos_of_pos_right a b1
  obtain ⟨a', ha'⟩ := Nat.gcd_dvd_left a b
  obtain ⟨b', hb'⟩ := Nat.gcd_dvd_right a b
  generalize Nat.gcd a b = g at *
  have b'1 : 1 ≤ b' := by
    apply Nat.pos_of_ne_zero
    intro z
    subst z
    omega
  apply Classical.byContradiction
  intro hg
  have b'l : 2 * b' ≤ g * b' := Nat.mul_le_mul_right _ (by omega)
  have h1 := b3 a' b' b'1 (by omega)
  have e : ds n d a b = g * ds n d a' b' := by
    unfold ds
    rw [ha', hb', show n * (g * b') = g * (n * b') from by ac_rfl, show g * a' * d = g * (a' * d) from by ac_rfl, ← Nat.mul_sub, ← Nat.mul_sub, ← Nat.mul_add]
  have e2 : ds n d a b * b' = ds n d a' b' * b := by rw [e, hb']; ac_rfl
  unfold nle at h1
  omega
