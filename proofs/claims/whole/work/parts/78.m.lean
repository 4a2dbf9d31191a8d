/-! terms and beginnings -/
section
variable {n d : Nat}
theorem t_i {x y : Nat} (hx : x ≤ 1000000) (hy : 0 < y) (hy2 : y ≤ 1000000) : (lN x / lN y).toInt32 = nI (x / y) := by
  rw [pk_lDiv (by omega) hy (by omega), lN_i]
/-- the next beginning, where m is the next term or less -/
theorem nb_e {be : Nat → Int64} {i m : Nat} (hi : i < 40) (hb : ∀ j, j < i → be j = fz (ap n d (j + 2)) (aq n d (j + 2)) ∧ ap n d (j + 2) ≤ 1000000 ∧ 1 ≤ aq n d (j + 2) ∧ aq n d (j + 2) ≤ 1000000) (h1 : m * ap n d (i + 1) + ap n d i < 2199023255552) (h2 : m * aq n d (i + 1) + aq n d i < 1048576) : F_X2_nextBeginning be (nI i) (lN m) = some (fz (m * ap n d (i + 1) + ap n d i) (m * aq n d (i + 1) + aq n d i)) := by
  unfold F_X2_nextBeginning
  by_cases c0 : i = 0
  · subst c0
    have e1 : m * ap n d (0 + 1) + ap n d 0 = m := by show m * 1 + 0 = m; omega
    have e2 : m * aq n d (0 + 1) + aq n d 0 = 1 := by show m * 0 + 1 = 1; omega
    rw [e1] at h1
    rw [if_neg (show ¬ (1 : Int32) ≤ nI 0 from by show ¬ nI 1 ≤ nI 0; rw [nI_leI (by omega) (by omega)]; omega), e1, e2, show (1 : Int64) = lN 1 from rfl, pair_fz h1 (by omega)]
  · obtain ⟨j, rfl⟩ : ∃ j, i = j + 1 := ⟨i - 1, by omega⟩
    obtain ⟨b1, b2, b3, b4⟩ := hb j (by omega)
    have ej : nI (j + 1) - (1 : Int32) = nI j := nI_pred j
    rw [if_pos (show (1 : Int32) ≤ nI (j + 1) from by show nI 1 ≤ nI (j + 1); rw [nI_leI (by omega) (by omega)]; omega), ej, inb (by omega) (by omega), cl_nI (by omega), b1, num_fz (by omega) (by omega), den_fz (by omega) b3 (by omega), lN_mul, lN_mul]
    by_cases c1 : j = 0
    · subst c1
      rw [if_pos (show nI (0 + 1) = (1 : Int32) from rfl), show (1 : Int64) = lN 1 from rfl, lN_add]
      exact congrArg some (pair_fz (n := m * ap n d (0 + 2) + 1) (d := m * aq n d (0 + 2)) h1 h2)
    · obtain ⟨k, rfl⟩ : ∃ k, j = k + 1 := ⟨j - 1, by omega⟩
      obtain ⟨c1, c2, c3, c4⟩ := hb k (by omega)
      have ek : nI (k + 1 + 1) - (2 : Int32) = nI k := by
        rw [show (2 : Int32) = nI 2 from rfl, pk_sub (by omega)]; congr 1
      rw [if_neg (show ¬ nI (k + 1 + 1) = (1 : Int32) from by show ¬ nI (k + 1 + 1) = nI 1; rw [nI_eq (by omega) (by omega)]; omega), ek, inb (by omega) (by omega), cl_nI (by omega), c1, num_fz (by omega) (by omega), den_fz (by omega) c3 (by omega), lN_add, lN_add]
      have e1 : ap n d (k + 1 + 1) = ap n d (k + 2) := rfl
      have e2 : aq n d (k + 1 + 1) = aq n d (k + 2) := rfl
      rw [e1] at h1 ⊢
      rw [e2] at h2 ⊢
      rw [pair_fz h1 h2]
/-- what an expansion leaves -/
def CFR (n d K : Nat) (te : Nat → Int32) (be : Nat → Int64) (mtm : Nat → Int32) : Prop := (∀ j, j < K → te j = nI (tt n d j) ∧ mtm j = nI (tt n d j) ∧ be j = fz (ap n d (j + 2)) (aq n d (j + 2)))
theorem exp_e (h : Fr n d) {K : Nat} (k1 : 1 ≤ K) (k2 : K ≤ 40) (k3 : rr n d (K + 1) = 0) (k4 : ∀ j, j < K → 0 < rr n d (j + 1)) (k5 : ∀ j, j < K → ap n d (j + 2) ≤ n ∧ aq n d (j + 2) ≤ d ∧ 1 ≤ aq n d (j + 2) ∧ tt n d j ≤ 1000000) (k6 : ∀ j, j < K + 1 → rr n d j ≤ 1000000) :
    ∀ (m i f : Nat) (te : Nat → Int32) (be : Nat → Int64), i + m = K → m < f → (∀ j, j < i → te j = nI (tt n d j) ∧ be j = fz (ap n d (j + 2)) (aq n d (j + 2))) → ∃ te' be', L_X2_expand_19 f (lN (rr n d i)) (lN (rr n d (i + 1))) (nI i) te be (nI i) = some (te', be', nI K) ∧ ∀ j, j < K → te' j = nI (tt n d j) ∧ be' j = fz (ap n d (j + 2)) (aq n d (j + 2)) := by
  obtain ⟨h1, h2, h3, h4⟩ := h
  intro m
  induction m with
  | zero =>
    intro i f te be hi hf hb
    obtain ⟨f, rfl⟩ : ∃ k, f = k + 1 := ⟨f - 1, by omega⟩
    have e : i = K := by omega
    subst e
    refine ⟨te, be, ?_, hb⟩
    rw [L_X2_expand_19_s, k3, if_pos (show lN 0 = (0 : Int64) from rfl), ite_self]
  | succ m ih =>
    intro i f te be hi hf hb
    obtain ⟨f, rfl⟩ : ∃ k, f = k + 1 := ⟨f - 1, by omega⟩
    have p := k4 i (by omega)
    have q := k6 i (by omega)
    have q2 := k6 (i + 1) (by omega)
    obtain ⟨c1, c2, c3, c4⟩ := k5 i (by omega)
    have e1 : ap n d (i + 2) = tt n d i * ap n d (i + 1) + ap n d i := rfl
    have e2 : aq n d (i + 2) = tt n d i * aq n d (i + 1) + aq n d i := rfl
    have nb := nb_e (n := n) (d := d) (be := be) (i := i) (m := tt n d i) (by omega) (fun j hj => by
      obtain ⟨u1, u2, u3, u4⟩ := k5 j (by omega)
      exact ⟨(hb j hj).2, by omega, u3, by omega⟩) (by omega) (by omega)
    rw [L_X2_expand_19_s, if_neg (show ¬ (40 : Int32) ≤ nI i from by show ¬ nI 40 ≤ nI i; rw [nI_leI (by omega) (by omega)]; omega), if_neg (show ¬ lN (rr n d (i + 1)) = (0 : Int64) from by show ¬ lN (rr n d (i + 1)) = lN 0; rw [pk_lEQ (by omega) (by omega)]; omega), if_neg (show ¬ lN (rr n d (i + 1)) = (0 : Int64) from by show ¬ lN (rr n d (i + 1)) = lN 0; rw [pk_lEQ (by omega) (by omega)]; omega), inb (by omega) (by omega), cl_nI (by omega), t_i q p q2, pk_us, nI_l (show rr n d i / rr n d (i + 1) < 2 ^ 31 from (by have : tt n d i ≤ 1000000 := c4; unfold tt at this; omega)), show rr n d i / rr n d (i + 1) = tt n d i from rfl, nb, bd1_s, pk_lRem (by omega) p (by omega), ← rr_2, ← e1, ← e2, show nI i + (1 : Int32) = nI (i + 1) from nI_1 i]
    exact ih (i + 1) f _ _ (by omega) (by omega) (fun j hj => by
      by_cases c : j = i
      · subst c; exact ⟨pk_us, pk_uLs⟩
      · rw [pk_un c, pk_uLn c]; exact hb j (by omega))
theorem tel_e (h : Fr n d) {K : Nat} (k1 : 1 ≤ K) (k2 : K ≤ 40) (k3 : rr n d (K + 1) = 0) (k4 : ∀ j, j < K → 0 < rr n d (j + 1)) (k6 : ∀ j, j < K + 1 → rr n d j ≤ 1000000) :
    ∀ (m i f : Nat) (te : Nat → Int32), i + m = K → m < f → (∀ j, j < i → te j = nI (tt n d j)) → ∃ te', L_X7_tellsTerms_17 f (nI (rr n d i)) (nI (rr n d (i + 1))) te (nI i) = some (te', nI K) ∧ ∀ j, j < K → te' j = nI (tt n d j) := by
  intro m
  induction m with
  | zero =>
    intro i f te hi hf hb
    obtain ⟨f, rfl⟩ : ∃ k, f = k + 1 := ⟨f - 1, by omega⟩
    have e : i = K := by omega
    subst e
    refine ⟨te, ?_, hb⟩
    rw [L_X7_tellsTerms_17_s, k3, if_pos (show nI 0 ≤ (0 : Int32) from by decide)]
  | succ m ih =>
    intro i f te hi hf hb
    obtain ⟨f, rfl⟩ : ∃ k, f = k + 1 := ⟨f - 1, by omega⟩
    have p := k4 i (by omega)
    have q := k6 i (by omega)
    have q2 := k6 (i + 1) (by omega)
    rw [L_X7_tellsTerms_17_s, if_neg (show ¬ nI (rr n d (i + 1)) ≤ (0 : Int32) from by show ¬ nI (rr n d (i + 1)) ≤ nI 0; rw [nI_leI (by omega) (by omega)]; omega), if_neg (show ¬ nI (rr n d (i + 1)) = (0 : Int32) from by show ¬ nI (rr n d (i + 1)) = nI 0; rw [nI_eq (by omega) (by omega)]; omega), inb (by omega) (by omega), cl_nI (by omega), pk_rem (by omega) p (by omega), pk_div (by omega) p (by omega), show nI i + (1 : Int32) = nI (i + 1) from nI_1 i]
    exact ih (i + 1) f _ (by omega) (by omega) (fun j hj => by
      by_cases c : j = i
      · subst c; exact pk_us
      · rw [pk_un c]; exact hb j (by omega))
theorem rr_b (h : Fr n d) {K : Nat} (k4 : ∀ j, j < K → 0 < rr n d (j + 1)) : ∀ i, i < K + 1 → rr n d i ≤ 1000000 := by
  obtain ⟨h1, h2, h3, h4⟩ := h
  intro i
  induction i using Nat.strongRecOn with
  | _ i ih =>
    intro hi
    match i, ih, hi with
    | 0, _, _ => exact h3
    | 1, _, _ => exact h2
    | i + 2, ih, hi =>
      have a := ih (i + 1) (by omega) (by omega)
      have b := rr_lt (n := n) (d := d) (k4 i (by omega))
      omega
theorem mkb_e {mtm : Nat → Int32} {K : Nat} (hK : K ≤ 40) (hm : ∀ j, j < K → mtm j = nI (tt n d j) ∧ tt n d j ≤ 1000000) : ∀ (j f A B : Nat), j ≤ K → j < f → L_X7_makesBeginning_16 f (lN A) (lN B) (nI j - 1) mtm = some (lN (ap n d (j + 1) * A + ap n d j * B), lN (aq n d (j + 1) * A + aq n d j * B)) := by
  intro j
  induction j with
  | zero =>
    intro f A B _ hf
    obtain ⟨f, rfl⟩ : ∃ k, f = k + 1 := ⟨f - 1, by omega⟩
    rw [L_X7_makesBeginning_16_s, if_pos (by decide)]
    show some (lN A, lN B) = some (lN (1 * A + 0 * B), lN (0 * A + 1 * B))
    rw [Nat.one_mul, Nat.zero_mul, Nat.add_zero, Nat.zero_mul, Nat.one_mul, Nat.zero_add]
  | succ j ih =>
    intro f A B hj hf
    obtain ⟨f, rfl⟩ : ∃ k, f = k + 1 := ⟨f - 1, by omega⟩
    obtain ⟨e1, e2⟩ := hm j (by omega)
    have ej : nI (j + 1) - (1 : Int32) = nI j := nI_pred j
    rw [L_X7_makesBeginning_16_s, ej, if_neg (show ¬ nI j < (0 : Int32) from by show ¬ nI j < nI 0; rw [nI_ltI (by omega) (by omega)]; omega), inb (by omega) (by omega), cl_nI (by omega), e1, nI_l (by omega), lN_mul, lN_add, show nI j + (-1 : Int32) = nI j - 1 from (Int32.sub_eq_add_neg _ _).symm, ih f _ A (by omega) (by omega)]
    have z1 : ap n d (j + 1) * (tt n d j * A + B) + ap n d j * A = ap n d (j + 1 + 1) * A + ap n d (j + 1) * B := by
      rw [ap_2, Nat.mul_add, Nat.add_mul, show ap n d (j + 1) * (tt n d j * A) = tt n d j * ap n d (j + 1) * A from by ac_rfl]; omega
    have z2 : aq n d (j + 1) * (tt n d j * A + B) + aq n d j * A = aq n d (j + 1 + 1) * A + aq n d (j + 1) * B := by
      rw [aq_2, Nat.mul_add, Nat.add_mul, show aq n d (j + 1) * (tt n d j * A) = tt n d j * aq n d (j + 1) * A from by ac_rfl]; omega
    rw [z1, z2]
end
section
variable {pl : Nat → Int64} {ms : Nat → Int32} {N E : Nat → Nat} {th cn mtn : Int32} {te mtm : Nat → Int32} {be : Nat → Int64} {mtp mbt : Int64}
/-- both expansions -/
theorem both_e (hPL : PL pl ms N E) {p : Nat} (hp : p < 6) : ∃ K te' be' mtm', 1 ≤ K ∧ K ≤ 40 ∧ rr (N p) (E p) (K + 1) = 0 ∧ rr (N p) (E p) K = 1 ∧ (∀ j, j < K → 0 < rr (N p) (E p) (j + 1)) ∧ ap (N p) (E p) (K + 1) = N p ∧ aq (N p) (E p) (K + 1) = E p ∧ (∀ j, j < K → ap (N p) (E p) (j + 2) ≤ N p ∧ aq (N p) (E p) (j + 2) ≤ E p ∧ 1 ≤ aq (N p) (E p) (j + 2) ∧ tt (N p) (E p) j ≤ 1000000) ∧ F_X2_expand te be cn (fz (N p) (E p)) = some (te', be', nI K) ∧ F_X7_tellsTerms ms mtm mtn (nI p) = some (mtm', nI K) ∧ CFR (N p) (E p) K te' be' mtm' := by
  obtain ⟨pa, pb, pc, pd⟩ := hPL p hp
  obtain ⟨K, k1, k2, k3, kg, k4, ka, kb, k5⟩ := cf_e pd
  have k6 := rr_b pd k4
  obtain ⟨te', be', r1, r2⟩ := exp_e pd k1 k2 k3 k4 k5 k6 K 0 FU te be (by omega) (by rw [FU_eq]; omega) (fun j hj => by omega)
  obtain ⟨mtm', s1, s2⟩ := tel_e pd k1 k2 k3 k4 k6 K 0 FU mtm (by omega) (by rw [FU_eq]; omega) (fun j hj => by omega)
  obtain ⟨f1, f2, f3, f4⟩ := pd
  refine ⟨K, te', be', mtm', k1, k2, k3, kg, k4, ka, kb, k5, ?_, ?_, fun j hj => ⟨(r2 j hj).1, s2 j hj, (r2 j hj).2⟩⟩
  · unfold F_X2_expand
    rw [num_fz (by omega) (by omega), den_fz (by omega) f1 (by omega), show L_X2_expand_19 FU (lN (N p)) (lN (E p)) (0 : Int32) te be (0 : Int32) = some (te', be', nI K) from r1, bd3_s]
  · unfold F_X7_tellsTerms
    rw [ab_e hp, bd1_s, be_e hp, bd1_s, pb, pc, show L_X7_tellsTerms_17 FU (nI (N p)) (nI (E p)) mtm (0 : Int32) = some (mtm', nI K) from s1, bd2_s]
/-- a pair of a question that expands -/
def QE (X : Option (Nat × Int32 × (Nat → Int32) × (Nat → Int64) × Int32)) (Mo : Option (Int32 × Int32 × (Nat → Int32) × Int32)) (ks : List (Nat × Int32)) : Prop :=
  ∃ (k : Nat) (code r b cn' mtn' : Int32) (te' : Nat → Int32) (be' : Nat → Int64) (mtm' : Nat → Int32), (k, code) ∈ ks ∧ X = some (k, r, te', be', cn') ∧ Mo = some (b, code, mtm', mtn') ∧ (k = 0 → r = b)
def QB (X : Option (Nat × Int32 × (Nat → Int32) × (Nat → Int64) × Int32)) (Mo : Option (Int32 × Int32 × Int64 × Int64 × (Nat → Int32) × Int32)) (ks : List (Nat × Int32)) : Prop :=
  ∃ (k : Nat) (code r b cn' mtn' : Int32) (te' : Nat → Int32) (be' : Nat → Int64) (mtm' : Nat → Int32) (mtp' mbt' : Int64), (k, code) ∈ ks ∧ X = some (k, r, te', be', cn') ∧ Mo = some (b, code, mtp', mbt', mtm', mtn') ∧ (k = 0 → r = b)
theorem tc_q (hPL : PL pl ms N E) (a1 : Int32) : QE (F_X6_termCount pl te be cn a1) (F_X7_termCount th ms mtm mtn a1) [(0, 0), (1, 1)] := by
  unfold F_X6_termCount F_X7_termCount F_X7_countsTerms F_X2_count
  rcases plate_cases a1 with ⟨p, hp, rfl, x1, y1⟩ | ⟨x1, y1⟩
  · obtain ⟨K, te', be', mtm', -, -, -, -, -, -, -, -, e1, e2, -⟩ := both_e (te := te) (be := be) (cn := cn) (mtm := mtm) (mtn := mtn) hPL hp
    rw [rp_ok x1, bd1_s, if_pos rfl, inb hp (by omega), cl_nI (by omega), (hPL p hp).1, e1, bd3_s, y1, if_neg n10, e2, bd2_s, bd3_s]
    exact ⟨0, 0, _, _, _, _, _, _, _, by simp, rfl, rfl, fun _ => rfl⟩
  · rw [rp_no x1, bd1_s, if_neg (by decide), y1, if_pos rfl]
    exact ⟨1, 1, 0, 0, _, _, _, _, _, by simp, rfl, rfl, fun h => absurd h (by decide)⟩
/-- a place of a term, or none -/
theorem place_e (a : Int32) {K : Nat} (k1 : 1 ≤ K) (k2 : K ≤ 40) : (∃ j, j < K ∧ a = nI j ∧ (¬ a < 0) ∧ a < nI K ∧ F_X7_in a 0 (nI K - 1) = 1) ∨ ((a < 0 ∨ ¬ a < nI K) ∧ F_X7_in a 0 (nI K - 1) = 0) := by
  have ek : nI K - (1 : Int32) = nI (K - 1) := by
    obtain ⟨k, rfl⟩ : ∃ k, K = k + 1 := ⟨K - 1, by omega⟩
    exact nI_pred k
  rw [ek]
  rcases in_cases a 0 (K - 1) (by omega) (by omega) with ⟨j, n1, n2, rfl, z1⟩ | ⟨z1, z2⟩
  · left
    exact ⟨j, by omega, rfl, (show ¬ nI j < (0 : Int32) from by show ¬ nI j < nI 0; rw [nI_ltI (by omega) (by omega)]; omega), (by rw [nI_ltI (by omega) (by omega)]; omega), z1⟩
  · right
    refine ⟨?_, z1⟩
    rcases z2 with z2 | ⟨z2, z3⟩
    · exact Or.inl z2
    · right
      rw [Int32.lt_iff_toInt_lt] at z3 ⊢
      rw [nI_toInt (by omega)] at z3 ⊢
      omega
theorem ta_q (hPL : PL pl ms N E) (a1 a2 : Int32) : QE (F_X6_termAt pl te be cn a1 a2) (F_X7_termAt th ms mtm mtn a1 a2) [(0, 0), (1, 1)] := by
  unfold F_X6_termAt F_X7_termAt F_X6_expandToTerm F_X7_isTerm F_X2_count
  rcases plate_cases a1 with ⟨p, hp, rfl, x1, y1⟩ | ⟨x1, y1⟩
  · obtain ⟨K, te', be', mtm', k1, k2, -, -, -, -, -, -, e1, e2, cf⟩ := both_e (te := te) (be := be) (cn := cn) (mtm := mtm) (mtn := mtn) hPL hp
    rw [rp_ok x1, bd1_s, if_pos rfl, inb hp (by omega), cl_nI (by omega), (hPL p hp).1, e1, bd3_s, y1, if_neg n10, e2, bd2_s, bd3_s]
    rcases place_e a2 k1 k2 with ⟨j, hj, rfl, g1, g2, g3⟩ | ⟨g1, g3⟩
    · obtain ⟨c1, c2, c3⟩ := cf j hj
      unfold F_X2_term
      rw [if_neg g1, if_pos g2, bd4_s, if_pos rfl, g3, if_neg n10, inb (by omega) (by omega), inb (by omega) (by omega), cl_nI (by omega), bd1_s, c1, c2]
      exact ⟨0, 0, _, _, _, _, _, _, _, by simp, rfl, rfl, fun _ => rfl⟩
    · have ee : (if a2 < (0 : Int32) then (some (1, te', be', nI K)) else (if a2 < nI K then (some (0, te', be', nI K)) else (some (1, te', be', nI K)))) = some ((1 : Nat), te', be', nI K) := by
        rcases g1 with g1 | g1
        · rw [if_pos g1]
        · rw [if_neg g1, ite_self]
      rw [ee, bd4_s, if_neg (by decide), g3, if_pos rfl]
      exact ⟨1, 1, 0, 0, _, _, _, _, _, by simp, rfl, rfl, fun h => absurd h (by decide)⟩
  · rw [rp_no x1, bd1_s, if_neg (by decide), bd4_s, if_neg (by decide), y1, if_pos rfl, bd3_s, if_pos rfl]
    exact ⟨1, 1, 0, 0, _, _, _, _, _, by simp, rfl, rfl, fun h => absurd h (by decide)⟩
/-- the model's beginning -/
theorem beg_e {n d K j : Nat} {te' : Nat → Int32} {be' : Nat → Int64} {mtm' : Nat → Int32} (k2 : K ≤ 40) (hj : j < K) (cf : CFR n d K te' be' mtm') (k5 : ∀ j, j < K → ap n d (j + 2) ≤ n ∧ aq n d (j + 2) ≤ d ∧ 1 ≤ aq n d (j + 2) ∧ tt n d j ≤ 1000000) : F_X7_makesBeginning mtp mbt mtm' (nI j) = some (lN (ap n d (j + 2)), lN (aq n d (j + 2))) := by
  unfold F_X7_makesBeginning
  have a := mkb_e (n := n) (d := d) (mtm := mtm') k2 (fun i hi => ⟨(cf i hi).2.1, (k5 i hi).2.2.2⟩) j FU (tt n d j) 1 (by omega) (by rw [FU_eq]; omega)
  rw [inb (by omega) (by omega), cl_nI (by omega), (cf j hj).2.1, nI_l (by have := (k5 j hj).2.2.2; omega), show (1 : Int64) = lN 1 from rfl, a, bd2_s, Nat.mul_one, Nat.mul_one, Nat.mul_comm (ap n d (j + 1)), Nat.mul_comm (aq n d (j + 1)), ← ap_2, ← aq_2]
theorem bn_q (hPL : PL pl ms N E) (a1 a2 : Int32) : QB (F_X6_beginningNumerator pl te be cn a1 a2) (F_X7_beginningNumerator th ms mtp mbt mtm mtn a1 a2) [(0, 0), (1, 1)] := by
  unfold F_X6_beginningNumerator F_X7_beginningNumerator F_X6_expandToTerm F_X7_isTerm F_X2_count
  rcases plate_cases a1 with ⟨p, hp, rfl, x1, y1⟩ | ⟨x1, y1⟩
  · obtain ⟨K, te', be', mtm', k1, k2, -, -, -, -, -, k5, e1, e2, cf⟩ := both_e (te := te) (be := be) (cn := cn) (mtm := mtm) (mtn := mtn) hPL hp
    obtain ⟨pa, -, -, f1, f2, f3, f4⟩ := hPL p hp
    rw [rp_ok x1, bd1_s, if_pos rfl, inb hp (by omega), cl_nI (by omega), pa, e1, bd3_s, y1, if_neg n10, e2, bd2_s, bd3_s]
    rcases place_e a2 k1 k2 with ⟨j, hj, rfl, g1, g2, g3⟩ | ⟨g1, g3⟩
    · obtain ⟨u1, u2, u3, u4⟩ := k5 j hj
      unfold F_X2_beginning
      rw [if_neg g1, if_pos g2, bd4_s, if_pos rfl, g3, if_neg n10, inb (by omega) (by omega), cl_nI (by omega), bd1_s, (cf j hj).2.2, num_fz (by omega) (by omega), beg_e k2 hj cf k5, bd2_s]
      exact ⟨0, 0, _, _, _, _, _, _, _, _, _, by simp, rfl, rfl, fun _ => rfl⟩
    · have ee : (if a2 < (0 : Int32) then (some (1, te', be', nI K)) else (if a2 < nI K then (some (0, te', be', nI K)) else (some (1, te', be', nI K)))) = some ((1 : Nat), te', be', nI K) := by
        rcases g1 with g1 | g1
        · rw [if_pos g1]
        · rw [if_neg g1, ite_self]
      rw [ee, bd4_s, if_neg (by decide), g3, if_pos rfl]
      exact ⟨1, 1, 0, 0, _, _, _, _, _, _, _, by simp, rfl, rfl, fun h => absurd h (by decide)⟩
  · rw [rp_no x1, bd1_s, if_neg (by decide), bd4_s, if_neg (by decide), y1, if_pos rfl, bd3_s, if_pos rfl]
    exact ⟨1, 1, 0, 0, _, _, _, _, _, _, _, by simp, rfl, rfl, fun h => absurd h (by decide)⟩
theorem bd_q (hPL : PL pl ms N E) (a1 a2 : Int32) : QB (F_X6_beginningDenominator pl te be cn a1 a2) (F_X7_beginningDenominator th ms mtp mbt mtm mtn a1 a2) [(0, 0), (1, 1)] := by
  unfold F_X6_beginningDenominator F_X7_beginningDenominator F_X6_expandToTerm F_X7_isTerm F_X2_count
  rcases plate_cases a1 with ⟨p, hp, rfl, x1, y1⟩ | ⟨x1, y1⟩
  · obtain ⟨K, te', be', mtm', k1, k2, -, -, -, -, -, k5, e1, e2, cf⟩ := both_e (te := te) (be := be) (cn := cn) (mtm := mtm) (mtn := mtn) hPL hp
    obtain ⟨pa, -, -, f1, f2, f3, f4⟩ := hPL p hp
    rw [rp_ok x1, bd1_s, if_pos rfl, inb hp (by omega), cl_nI (by omega), pa, e1, bd3_s, y1, if_neg n10, e2, bd2_s, bd3_s]
    rcases place_e a2 k1 k2 with ⟨j, hj, rfl, g1, g2, g3⟩ | ⟨g1, g3⟩
    · obtain ⟨u1, u2, u3, u4⟩ := k5 j hj
      unfold F_X2_beginning
      rw [if_neg g1, if_pos g2, bd4_s, if_pos rfl, g3, if_neg n10, inb (by omega) (by omega), cl_nI (by omega), bd1_s, (cf j hj).2.2, den_fz (by omega) u3 (by omega), beg_e k2 hj cf k5, bd2_s]
      exact ⟨0, 0, _, _, _, _, _, _, _, _, _, by simp, rfl, rfl, fun _ => rfl⟩
    · have ee : (if a2 < (0 : Int32) then (some (1, te', be', nI K)) else (if a2 < nI K then (some (0, te', be', nI K)) else (some (1, te', be', nI K)))) = some ((1 : Nat), te', be', nI K) := by
        rcases g1 with g1 | g1
        · rw [if_pos g1]
        · rw [if_neg g1, ite_self]
      rw [ee, bd4_s, if_neg (by decide), g3, if_pos rfl]
      exact ⟨1, 1, 0, 0, _, _, _, _, _, _, _, by simp, rfl, rfl, fun h => absurd h (by decide)⟩
  · rw [rp_no x1, bd1_s, if_neg (by decide), bd4_s, if_neg (by decide), y1, if_pos rfl, bd3_s, if_pos rfl]
    exact ⟨1, 1, 0, 0, _, _, _, _, _, _, _, by simp, rfl, rfl, fun h => absurd h (by decide)⟩
end
