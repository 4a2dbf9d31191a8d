/-! p38: the law's own low, told, act -/
theorem i_mask (x : Int32) : ∃ j, j < 2147483648 ∧ x &&& (2147483647 : Int32) = nI j := by
  obtain ⟨n, hn, rfl⟩ := wb_of32 x
  refine ⟨n % 2147483648, Nat.mod_lt _ (by decide), ?_⟩
  have e : nI n &&& nI 2147483647 = nI (n &&& 2147483647) := Int32.toBitVec_inj.mp (by rw [Int32.toBitVec_and]; exact BitVec.ofNat_and.symm)
  rw [show (2147483647 : Int32) = nI 2147483647 from rfl, e, show (2147483647 : Nat) = 2 ^ 31 - 1 from rfl, Nat.and_two_pow_sub_one_eq_mod]
theorem low_x (a : Int32) {m : Nat} (h1 : 1 ≤ m) (h2 : m < 2147483648) : ∃ r, r < m ∧ F_L_low a (nI m) = some (nI r) := by
  obtain ⟨j, hj, e⟩ := i_mask a
  refine ⟨j % m, Nat.mod_lt _ h1, ?_⟩
  unfold F_L_low
  rw [e, if_neg (show ¬ nI m = (0 : Int32) from by show ¬ nI m = nI 0; rw [nI_eq (by omega) (by omega)]; omega), pk_rem (by omega) (by omega) (by omega)]
section
variable {pl : Nat → Int64} {N E : Nat → Nat}
theorem num_x (h : PX pl N E) {p : Nat} (hp : p < 6) : F_X6_numeratorOf pl (nI p) = some (0, nI (N p)) := by
  obtain ⟨pa, f1, f2, f3, f4⟩ := h p hp
  unfold F_X6_numeratorOf
  rw [rq_e hp, bd1_s, if_pos rfl, inb hp (by omega), cl_nI (by omega), pa, num_fz (by omega) (by omega), lN_i]
theorem den_x (h : PX pl N E) {p : Nat} (hp : p < 6) : F_X6_denominatorOf pl (nI p) = some (0, nI (E p)) := by
  obtain ⟨pa, f1, f2, f3, f4⟩ := h p hp
  unfold F_X6_denominatorOf
  rw [rq_e hp, bd1_s, if_pos rfl, inb hp (by omega), cl_nI (by omega), pa, den_fz (by omega) f1 (by omega), lN_i]
theorem cmp_x (h : PX pl N E) {p q : Nat} (hp : p < 6) (hq : q < 6) : F_X6_compare pl (nI p) (nI q) = some (0, cmpz (N p) (E p) (N q) (E q)) := by
  obtain ⟨pa, pd⟩ := h p hp
  obtain ⟨qa, qd⟩ := h q hq
  unfold F_X6_compare
  rw [rq_e hp, bd1_s, if_pos rfl, rq_e hq, bd1_s, if_pos rfl, inb hp (by omega), inb hq (by omega), cl_nI (by omega), cl_nI (by omega), pa, qa, ord_e pd qd]
theorem told_l (h : PX pl N E) : ∀ (m x f : Nat) (a : Int64), x + m = 6 → m < f → ∃ r, L_L_told_6 f a (nI x) pl = some r := by
  intro m
  induction m with
  | zero =>
    intro x f a hx hf
    obtain ⟨f, rfl⟩ : ∃ k, f = k + 1 := ⟨f - 1, by omega⟩
    have e : x = 6 := by omega
    subst e
    exact ⟨a, by rw [L_L_told_6_s, if_pos (show (6 : Int32) ≤ nI 6 from by show nI 6 ≤ nI 6; rw [nI_leI (by omega) (by omega)]; omega)]⟩
  | succ m ih =>
    intro x f a hx hf
    obtain ⟨f, rfl⟩ : ∃ k, f = k + 1 := ⟨f - 1, by omega⟩
    rw [L_L_told_6_s, if_neg (show ¬ (6 : Int32) ≤ nI x from by show ¬ nI 6 ≤ nI x; rw [nI_leI (by omega) (by omega)]; omega), num_x h (by omega), bd2_s, if_pos rfl, den_x h (by omega), bd2_s, if_pos rfl, show nI x + (1 : Int32) = nI (x + 1) from nI_1 x]
    exact ih (x + 1) f _ (by omega) (by omega)
theorem told_x (h : PX pl N E) : ∃ r, F_L_told pl = some r := by
  obtain ⟨r, e⟩ := told_l h 6 0 FU 3 (by omega) (by rw [FU_eq]; omega)
  exact ⟨r, by unfold F_L_told; rw [show L_L_told_6 FU (3 : Int64) (0 : Int32) pl = some r from e, bd1_s]⟩
theorem exp_x (h : PX pl N E) {p : Nat} (hp : p < 6) (te : Nat → Int32) (be : Nat → Int64) (cn : Int32) : ∃ K te' be', 1 ≤ K ∧ K ≤ 40 ∧ (∀ j, j < K → 0 < rr (N p) (E p) (j + 1)) ∧ ap (N p) (E p) (K + 1) = N p ∧ aq (N p) (E p) (K + 1) = E p ∧ (∀ j, j < K → ap (N p) (E p) (j + 2) ≤ N p ∧ aq (N p) (E p) (j + 2) ≤ E p ∧ 1 ≤ aq (N p) (E p) (j + 2) ∧ tt (N p) (E p) j ≤ 1000000) ∧ F_X2_expand te be cn (fz (N p) (E p)) = some (te', be', nI K) ∧ CFR (N p) (E p) K te' be' te' ∧ rr (N p) (E p) (K + 1) = 0 := by
  obtain ⟨pa, pd⟩ := h p hp
  obtain ⟨K, k1, k2, k3, kg, k4, ka, kb, k5⟩ := cf_e pd
  have k6 := rr_b pd k4
  obtain ⟨te', be', r1, r2⟩ := exp_e pd k1 k2 k3 k4 k5 k6 K 0 FU te be (by omega) (by rw [FU_eq]; omega) (fun j hj => by omega)
  obtain ⟨f1, f2, f3, f4⟩ := pd
  refine ⟨K, te', be', k1, k2, k4, ka, kb, k5, ?_, fun j hj => ⟨(r2 j hj).1, (r2 j hj).1, (r2 j hj).2⟩, k3⟩
  unfold F_X2_expand
  rw [num_fz (by omega) (by omega), den_fz (by omega) f1 (by omega), show L_X2_expand_19 FU (lN (N p)) (lN (E p)) (0 : Int32) te be (0 : Int32) = some (te', be', nI K) from r1, bd3_s]
/-- the nearest fraction, two ways -/
theorem near_x (h : PX pl N E) {p L : Nat} (hp : p < 6) (h1 : 1 ≤ L) (h2 : L ≤ 1000) : ∃ a b, BEST (N p) (E p) L a b ∧ Fr a b ∧ F_X6_nearestByTrying pl (nI p) (nI L) = some (0, nI b) ∧ ∀ te be cn, ∃ te' be' cn', F_X6_nearest pl te be cn (nI p) (nI L) = some (0, fz a b, te', be', cn') := by
  obtain ⟨pa, pd⟩ := h p hp
  have hl : F_X6_requireLimit (nI L) = some 0 := by
    unfold F_X6_requireLimit
    rw [if_neg (show ¬ nI L < (1 : Int32) from by show ¬ nI L < nI 1; rw [nI_ltI (by omega) (by omega)]; omega), if_pos (show nI L ≤ (1000 : Int32) from by show nI L ≤ nI 1000; rw [nI_leI (by omega) (by omega)]; omega)]
  have one : ∀ te be cn, ∃ a b te' be' cn', BEST (N p) (E p) L a b ∧ F_X6_nearest pl te be cn (nI p) (nI L) = some (0, fz a b, te', be', cn') := by
    intro te be cn
    obtain ⟨K, te', be', k1, k2, k4, ka, kb, k5, e1, cf, -⟩ := exp_x h hp te be cn
    obtain ⟨a, b, hB, ha, r1⟩ := nea_e pd k1 k2 k4 ka kb k5 cf h1 h2
    refine ⟨a, b, te', be', nI K, hB, ?_⟩
    unfold F_X6_nearest
    rw [rq_e hp, bd1_s, if_pos rfl, hl, bd1_s, if_pos rfl, inb hp (by omega), cl_nI (by omega), pa, e1, bd3_s, r1, bd1_s]
  obtain ⟨a, b, -, -, -, hB, -⟩ := one (fun _ => 0) (fun _ => 0) 0
  refine ⟨a, b, hB, best_f pd h2 hB, ?_, fun te be cn => ?_⟩
  · unfold F_X6_nearestByTrying
    rw [rq_e hp, bd1_s, if_pos rfl, hl, bd1_s, if_pos rfl, inb hp (by omega), cl_nI (by omega), pa, tri_e pd h1 h2 hB, bd1_s]
  · obtain ⟨a', b', te', be', cn', hB', e⟩ := one te be cn
    obtain ⟨rfl, rfl⟩ := best_u hB hB'
    exact ⟨te', be', cn', e⟩
/-- what act does: nothing, or one change -/
def ACT (pl : Nat → Int64) (X : (Nat → Int32) → (Nat → Int64) → Int32 → (Nat → Int64) → Int32 → Int32 → Option (Int32 × (Nat → Int64) × (Nat → Int32) × (Nat → Int64) × Int32 × (Nat → Int64) × Int32 × Int32)) : Prop :=
  (∀ te be cn hs ho hc, X te be cn hs ho hc = some (0, pl, te, be, cn, hs, ho, hc)) ∨
  (∃ pl', (∃ N E, PX pl' N E) ∧ (∀ q, 6 ≤ q → pl' q = pl q) ∧ ∀ te be cn hs ho hc hs' ho' hc', F_X4_record pl hs ho hc = some (hs', ho', hc') → ∃ te' be' cn', X te be cn hs ho hc = some (1, pl', te', be', cn', hs', ho', hc'))
theorem act_ch {F : (Nat → Int64) → Int32 → Int32 → Option (Nat × Int32 × (Nat → Int64) × (Nat → Int64) × Int32 × Int32)} {X : (Nat → Int32) → (Nat → Int64) → Int32 → (Nat → Int64) → Int32 → Int32 → Option (Int32 × (Nat → Int64) × (Nat → Int32) × (Nat → Int64) × Int32 × (Nat → Int64) × Int32 × Int32)} (h : CH pl F)
    (hX : ∀ te be cn hs ho hc, X te be cn hs ho hc = bd6 (F hs ho hc) (fun k r pl' hs' ho' hc' => if k = 0 then some (1, pl', te, be, cn, hs', ho', hc') else none)) : ACT pl X := by
  obtain ⟨pl', h1, h2, h3⟩ := h
  refine Or.inr ⟨pl', h1, h2, fun te be cn hs ho hc hs' ho' hc' hr => ?_⟩
  obtain ⟨r, e⟩ := h3 hs ho hc hs' ho' hc' hr
  exact ⟨te, be, cn, by rw [hX, e, bd6_s, if_pos rfl]⟩
theorem rnd_x (h : PX pl N E) {p L : Nat} (hp : p < 6) (h1 : 1 ≤ L) (h2 : L ≤ 1000) {X : (Nat → Int32) → (Nat → Int64) → Int32 → (Nat → Int64) → Int32 → Int32 → Option (Int32 × (Nat → Int64) × (Nat → Int32) × (Nat → Int64) × Int32 × (Nat → Int64) × Int32 × Int32)}
    (hX : ∀ te be cn hs ho hc, X te be cn hs ho hc = bd9 (F_X6_roundTo pl te be cn hs ho hc (nI p) (nI L)) (fun k r pl' te' be' cn' hs' ho' hc' => if k = 0 then some (1, pl', te', be', cn', hs', ho', hc') else none)) : ACT pl X := by
  obtain ⟨a, b, -, fr, -, e⟩ := near_x h hp h1 h2
  refine Or.inr ⟨vp_updL pl p (fz a b), ⟨_, _, px_put h hp fr⟩, fun q hq => pk_uLn (by omega), fun te be cn hs ho hc hs' ho' hc' hr => ?_⟩
  obtain ⟨te', be', cn', e1⟩ := e te be cn
  refine ⟨te', be', cn', ?_⟩
  rw [hX]
  unfold F_X6_roundTo
  rw [e1, bd5_s, if_pos rfl, ch_e hp fr hr, bd5_s, bd9_s, if_pos rfl]
end
