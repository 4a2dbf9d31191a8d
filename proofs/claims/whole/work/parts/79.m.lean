/-! the way, beginsRight; the law's cases 14 to 17 and 23 to 25 -/
section
variable {pl : Nat → Int64} {ms : Nat → Int32} {N E : Nat → Nat} {th cn mtn : Int32} {te mtm : Nat → Int32} {be : Nat → Int64} {mtp mbt : Int64}
theorem sum_e {K : Nat} (k2 : K ≤ 40) (hm : ∀ j, j < K → te j = mtm j) : ∀ (m x f f' : Nat) (acc : Int32), x + m = K → m < f → m < f' → ∃ r, L_X2_sumOfTerms_4 f acc (nI x) te (nI K) = some r ∧ L_X7_steps_9 f' acc (nI x) mtm (nI K) = some r := by
  intro m
  induction m with
  | zero =>
    intro x f f' acc hx hf hf'
    obtain ⟨f, rfl⟩ : ∃ k, f = k + 1 := ⟨f - 1, by omega⟩
    obtain ⟨f', rfl⟩ : ∃ k, f' = k + 1 := ⟨f' - 1, by omega⟩
    have e : x = K := by omega
    subst e
    exact ⟨acc, by rw [L_X2_sumOfTerms_4_s, if_pos (Int32.le_refl _)], by rw [L_X7_steps_9_s, if_pos (Int32.le_refl _)]⟩
  | succ m ih =>
    intro x f f' acc hx hf hf'
    obtain ⟨f, rfl⟩ : ∃ k, f = k + 1 := ⟨f - 1, by omega⟩
    obtain ⟨f', rfl⟩ : ∃ k, f' = k + 1 := ⟨f' - 1, by omega⟩
    have c : ¬ nI K ≤ nI x := by rw [nI_leI (by omega) (by omega)]; omega
    rw [L_X2_sumOfTerms_4_s, L_X7_steps_9_s, if_neg c, if_neg c, inb (by omega) (by omega), inb (by omega) (by omega), cl_nI (by omega), hm x (by omega), show nI x + (1 : Int32) = nI (x + 1) from nI_1 x]
    exact ih (x + 1) f f' _ (by omega) (by omega) (by omega)
theorem pl0 (hPL : PL pl ms N E) {p : Nat} (hp : p < 6) : ms (2 * p) = (0 : Int32) ↔ N p = 0 := by
  obtain ⟨-, pb, -, f1, f2, f3, f4⟩ := hPL p hp
  rw [pb]
  exact nz_e f3
theorem np_e {a : Int32} (x : F_X6_isPlate a = 0) : F_X6_requireNotZero pl a = some 1 := by
  unfold F_X6_requireNotZero
  rw [rp_no x, bd1_s, if_neg (by decide)]
theorem ws_q (hPL : PL pl ms N E) (a1 : Int32) : QE (F_X6_waySteps pl te be cn a1) (F_X7_waySteps th ms mtm mtn a1) [(0, 0), (1, 1), (3, 2)] := by
  unfold F_X6_waySteps F_X7_waySteps F_X7_steps F_X2_sumOfTerms
  rcases plate_cases a1 with ⟨p, hp, rfl, x1, y1⟩ | ⟨x1, y1⟩
  · rw [rnz_e hPL hp, bd1_s, y1, if_neg n10, ab_e hp, bd1_s]
    by_cases c : N p = 0
    · rw [if_pos c, if_neg (by decide), if_pos ((pl0 hPL hp).mpr c)]
      exact ⟨3, 2, 0, 0, _, _, _, _, _, by simp, rfl, rfl, fun h => absurd h (by decide)⟩
    · obtain ⟨K, te', be', mtm', k1, k2, -, -, -, -, -, -, e1, e2, cf⟩ := both_e (te := te) (be := be) (cn := cn) (mtm := mtm) (mtn := mtn) hPL hp
      obtain ⟨r, r1, r2⟩ := sum_e (te := te') (mtm := mtm') k2 (fun j hj => by rw [(cf j hj).1, (cf j hj).2.1]) K 0 FU FU 0 (by omega) (by rw [FU_eq]; omega) (by rw [FU_eq]; omega)
      rw [if_neg c, if_pos rfl, if_neg (fun z => c ((pl0 hPL hp).mp z)), inb hp (by omega), cl_nI (by omega), (hPL p hp).1, e1, bd3_s, show L_X2_sumOfTerms_4 FU (0 : Int32) (0 : Int32) te' (nI K) = some r from r1, bd1_s, bd1_s, e2, bd2_s, show L_X7_steps_9 FU (0 : Int32) (0 : Int32) mtm' (nI K) = some r from r2, bd1_s, bd3_s]
      exact ⟨0, 0, _, _, _, _, _, _, _, by simp, rfl, rfl, fun _ => rfl⟩
  · rw [np_e x1, bd1_s, if_neg (by decide), y1, if_pos rfl]
    exact ⟨1, 1, 0, 0, _, _, _, _, _, by simp, rfl, rfl, fun h => absurd h (by decide)⟩
/-- the turns from place x on, each term at least one and the last at least two -/
theorem tur_e {n d K : Nat} (k2 : K ≤ 40) (hm : ∀ j, j < K → mtm j = nI (tt n d j) ∧ tt n d j ≤ 1000000) (h1 : ∀ j, 0 < j → j < K → 1 ≤ tt n d j) (h2 : ∀ j, 0 < j → j + 1 = K → 2 ≤ tt n d j) : ∀ (m x f c : Nat), 1 ≤ x → x + m = K → m < f → L_X7_turns_9 f (nI c) (nI x) mtm (nI K) = some (nI (c + m)) := by
  intro m
  induction m with
  | zero =>
    intro x f c h0 hx hf
    obtain ⟨f, rfl⟩ : ∃ k, f = k + 1 := ⟨f - 1, by omega⟩
    have e : x = K := by omega
    subst e
    rw [L_X7_turns_9_s, if_pos (Int32.le_refl _), Nat.add_zero]
  | succ m ih =>
    intro x f c h0 hx hf
    obtain ⟨f, rfl⟩ : ∃ k, f = k + 1 := ⟨f - 1, by omega⟩
    have cc : ¬ nI K ≤ nI x := by rw [nI_leI (by omega) (by omega)]; omega
    have ek : nI K - (1 : Int32) = nI (K - 1) := by
      obtain ⟨k, rfl⟩ : ∃ k, K = k + 1 := ⟨K - 1, by omega⟩
      exact nI_pred k
    obtain ⟨m1, m2⟩ := hm x (by omega)
    have t1 := h1 x h0 (by omega)
    have ff : ¬ nI (tt n d x) ≤ (if nI x = nI (K - 1) then (1 : Int32) else (0 : Int32)) := by
      by_cases z : x = K - 1
      · rw [if_pos (by rw [z])]
        have t2 := h2 x h0 (by omega)
        exact (show ¬ nI (tt n d x) ≤ (1 : Int32) from by show ¬ nI (tt n d x) ≤ nI 1; rw [nI_leI (by omega) (by omega)]; omega)
      · rw [if_neg (by rw [nI_eq (by omega) (by omega)]; exact z)]
        exact (show ¬ nI (tt n d x) ≤ (0 : Int32) from by show ¬ nI (tt n d x) ≤ nI 0; rw [nI_leI (by omega) (by omega)]; omega)
    rw [L_X7_turns_9_s, if_neg cc, inb (by omega) (by omega), cl_nI (by omega), m1, ek, if_neg ff, show nI x + (1 : Int32) = nI (x + 1) from nI_1 x, show nI c + (1 : Int32) = nI (c + 1) from nI_1 c, ih (x + 1) f (c + 1) (by omega) (by omega) (by omega), show c + 1 + m = c + (m + 1) from by omega]
theorem wt_q (hPL : PL pl ms N E) (a1 : Int32) : QE (F_X6_wayTurns pl te be cn a1) (F_X7_wayTurns th ms mtm mtn a1) [(0, 0), (1, 1), (3, 2)] := by
  unfold F_X6_wayTurns F_X7_wayTurns F_X7_turns F_X2_term F_X2_count
  rcases plate_cases a1 with ⟨p, hp, rfl, x1, y1⟩ | ⟨x1, y1⟩
  · rw [rnz_e hPL hp, bd1_s, y1, if_neg n10, ab_e hp, bd1_s]
    by_cases c : N p = 0
    · rw [if_pos c, if_neg (by decide), if_pos ((pl0 hPL hp).mpr c)]
      exact ⟨3, 2, 0, 0, _, _, _, _, _, by simp, rfl, rfl, fun h => absurd h (by decide)⟩
    · obtain ⟨K, te', be', mtm', k1, k2, k3, kg, k4, ka, kb, k5, e1, e2, cf⟩ := both_e (te := te) (be := be) (cn := cn) (mtm := mtm) (mtn := mtn) hPL hp
      obtain ⟨t0, s0, -⟩ := cf 0 (by omega)
      have u0 := (k5 0 (by omega)).2.2.2
      rw [if_neg c, if_pos rfl, if_neg (fun z => c ((pl0 hPL hp).mp z)), inb hp (by omega), cl_nI (by omega), (hPL p hp).1, e1, bd3_s, if_neg (by decide), show (0 : Int32).toNatClampNeg = 0 from rfl, bd1_s, t0, e2, bd2_s]
      have ek : nI K - (1 : Int32) = nI (K - 1) := by
        obtain ⟨k, rfl⟩ : ∃ k, K = k + 1 := ⟨K - 1, by omega⟩
        exact nI_pred k
      have h1 : ∀ j, 0 < j → j < K → 1 ≤ tt (N p) (E p) j := fun j a b => tt_1 k4 a b
      have h2 : ∀ j, 0 < j → j + 1 = K → 2 ≤ tt (N p) (E p) j := by
        intro j a b
        obtain ⟨i, rfl⟩ : ∃ i, j = i + 1 := ⟨j - 1, by omega⟩
        have l := rr_lt (n := N p) (d := E p) (k4 i (by omega))
        have g : rr (N p) (E p) (i + 2) = 1 := by rw [show i + 2 = K from by omega]; exact kg
        unfold tt
        rw [show i + 1 + 1 = i + 2 from rfl, g, Nat.div_one]
        omega
      have hm : ∀ j, j < K → mtm' j = nI (tt (N p) (E p) j) ∧ tt (N p) (E p) j ≤ 1000000 := fun j hj => ⟨(cf j hj).2.1, (k5 j hj).2.2.2⟩
      have f0 : ∃ v, v < 100 ∧ L_X7_turns_9 FU (0 : Int32) (0 : Int32) mtm' (nI K) = some (nI v) ∧ v - 1 = (if tt (N p) (E p) 0 = 0 then K - 1 else K) - 1 := by
        rw [FU_eq, L_X7_turns_9_s, if_neg (show ¬ nI K ≤ (0 : Int32) from (show ¬ nI K ≤ (0 : Int32) from by show ¬ nI K ≤ nI 0; rw [nI_leI (by omega) (by omega)]; omega)), if_neg (by decide), show (0 : Int32).toNatClampNeg = 0 from rfl, s0, ek, show (0 : Int32) + 1 = nI 1 from rfl]
        by_cases z : K = 1
        · subst z
          have tn : ¬ tt (N p) (E p) 0 = 0 := by
            unfold tt
            rw [show rr (N p) (E p) (0 + 1) = 1 from kg, Nat.div_one]
            exact c
          rw [if_pos (show (0 : Int32) = nI (1 - 1) from rfl), if_neg tn]
          rw [show (3999 : Nat) = 3998 + 1 from rfl, L_X7_turns_9_s, if_pos (Int32.le_refl _)]
          by_cases w : nI (tt (N p) (E p) 0) ≤ (1 : Int32)
          · rw [if_pos w]; exact ⟨0, by omega, rfl, by omega⟩
          · rw [if_neg w]; exact ⟨1, by omega, rfl, by omega⟩
        · rw [if_neg (show ¬ (0 : Int32) = nI (K - 1) from by
            have : ¬ nI 0 = nI (K - 1) := by rw [nI_eq (by omega) (by omega)]; omega
            exact this)]
          by_cases w : tt (N p) (E p) 0 = 0
          · rw [if_pos w, if_pos (show nI (tt (N p) (E p) 0) ≤ (0 : Int32) from by rw [w]; decide)]
            refine ⟨0 + (K - 1), by omega, ?_, by omega⟩
            exact tur_e k2 hm h1 h2 (K - 1) 1 3999 0 (by omega) (by omega) (by omega)
          · rw [if_neg w, if_neg (show ¬ nI (tt (N p) (E p) 0) ≤ (0 : Int32) from (show ¬ nI (tt (N p) (E p) 0) ≤ (0 : Int32) from by show ¬ nI (tt (N p) (E p) 0) ≤ nI 0; rw [nI_leI (by omega) (by omega)]; omega))]
            refine ⟨1 + (K - 1), by omega, ?_, by omega⟩
            exact tur_e k2 hm h1 h2 (K - 1) 1 3999 1 (by omega) (by omega) (by omega)
      obtain ⟨v, v1, v2, v3⟩ := f0
      rw [v2, bd1_s, bd3_s]
      refine ⟨0, 0, _, _, _, _, _, _, _, by simp, rfl, rfl, fun _ => ?_⟩
      have ev : (if nI v ≤ (0 : Int32) then (0 : Int32) else nI v - 1) = nI (v - 1) := by
        by_cases z : v = 0
        · subst z; rfl
        · rw [if_neg (show ¬ nI v ≤ (0 : Int32) from by show ¬ nI v ≤ nI 0; rw [nI_leI (by omega) (by omega)]; omega)]
          obtain ⟨k, rfl⟩ : ∃ k, v = k + 1 := ⟨v - 1, by omega⟩
          exact nI_pred k
      rw [ev, v3]
      by_cases z : tt (N p) (E p) 0 = 0
      · rw [if_pos (by rw [z]; rfl), if_pos z, ek]
        by_cases z2 : K = 1
        · exfalso
          subst z2
          apply c
          unfold tt at z
          rw [show rr (N p) (E p) (0 + 1) = 1 from kg, Nat.div_one] at z
          exact z
        · obtain ⟨k, rfl⟩ : ∃ k, K = k + 2 := ⟨K - 2, by omega⟩
          exact nI_pred k
      · rw [if_neg (show ¬ nI (tt (N p) (E p) 0) = (0 : Int32) from by show ¬ nI (tt (N p) (E p) 0) = nI 0; rw [nI_eq (by omega) (by omega)]; omega), if_neg z, ek]
  · rw [np_e x1, bd1_s, if_neg (by decide), y1, if_pos rfl]
    exact ⟨1, 1, 0, 0, _, _, _, _, _, by simp, rfl, rfl, fun h => absurd h (by decide)⟩
theorem br_q (hPL : PL pl ms N E) (a1 : Int32) : QP (F_X6_beginsRight pl a1) (F_X7_beginsRight th ms a1) [(0, 0), (1, 1), (3, 2)] := by
  unfold F_X6_beginsRight F_X7_beginsRight
  rcases plate_cases a1 with ⟨p, hp, rfl, x1, y1⟩ | ⟨x1, y1⟩
  · rw [rnz_e hPL hp, bd1_s, y1, if_neg n10, ab_e hp, bd1_s]
    by_cases c : N p = 0
    · rw [if_pos c, if_neg (by decide), if_pos ((pl0 hPL hp).mpr c)]
      exact ⟨3, 2, 0, _, by simp, rfl, rfl, fun h => absurd h (by decide)⟩
    · obtain ⟨pa, pb, pc, pd⟩ := hPL p hp
      obtain ⟨f1, f2, f3, f4⟩ := id pd
      have h11 : Fr 1 1 := ⟨by omega, by omega, by omega, rfl⟩
      rw [if_neg c, if_pos rfl, if_neg (fun z => c ((pl0 hPL hp).mp z)), inb hp (by omega), cl_nI (by omega), pa, show (1048577 : Int64) = fz 1 1 from rfl, ord_e pd h11, bd1_s, be_e hp, bd1_s, pb, pc]
      refine ⟨0, 0, _, _, by simp, rfl, rfl, fun _ => ?_⟩
      unfold cmpz
      rw [Nat.mul_one, Nat.one_mul]
      by_cases z1 : N p < E p
      · rw [if_pos z1, if_pos (by decide), if_pos (by rw [nI_leI (by omega) (by omega)]; omega)]
      · rw [if_neg z1]
        by_cases z2 : N p = E p
        · rw [if_pos z2, if_pos (by decide), if_pos (by rw [nI_leI (by omega) (by omega)]; omega)]
        · rw [if_neg z2, if_neg (by decide), if_neg (by rw [nI_leI (by omega) (by omega)]; omega)]
  · rw [np_e x1, bd1_s, if_neg (by decide), y1, if_pos rfl]
    exact ⟨1, 1, 0, _, by simp, rfl, rfl, fun h => absurd h (by decide)⟩
end
section
variable {pl hs sl ou : Nat → Int64} {ho hc smn th le mle : Int32} {ch fi ms mst msl mhs mtx : Nat → Int32} {N E : Nat → Nat} {cn mtn : Int32} {te mtm : Nat → Int32} {be : Nat → Int64} {mtp mbt : Int64}
theorem mG_14 (h : REL pl ch le hs ho hc sl fi ms mst smn msl mhs mtx mle) (a1 a2 a3 : Int32) : ∃ te' be' cn' th' mtm' mtn' ou', G_14 pl te be cn th ms mtm mtn ou a1 a2 a3 = some (te', be', cn', th', mtm', mtn', ou') := by
  obtain ⟨⟨N, E, hPL⟩, -⟩ := h
  obtain ⟨k, code, r, b, cn', mtn', te', be', mtm', hk, eX, eM, hrb⟩ := tc_q (te := te) (be := be) (cn := cn) (mtm := mtm) (mtn := mtn) (th := th) hPL a1
  simp only [List.mem_cons, List.not_mem_nil, or_false, Prod.mk.injEq] at hk
  unfold G_14 F_L_termCount
  rcases hk with ⟨rfl, rfl⟩ | ⟨rfl, rfl⟩
  · have hrb := hrb rfl
    subst hrb
    exact ⟨_, _, _, _, _, _, _, by rw [eX, bd5_s, if_pos rfl, bd5_s, eM, bd4_s, if_pos (show F_X7_thrown 0 = 0 from rfl), if_pos rfl, if_pos ou_e]⟩
  · exact ⟨_, _, _, _, _, _, _, by rw [eX, bd5_s, if_neg (by decide), if_pos rfl, bd5_s, eM, bd4_s, if_pos (show F_X7_thrown 1 = 1 from rfl), if_neg (by decide)]⟩

theorem mG_15 (h : REL pl ch le hs ho hc sl fi ms mst smn msl mhs mtx mle) (a1 a2 a3 : Int32) : ∃ te' be' cn' th' mtm' mtn' ou', G_15 pl te be cn th ms mtm mtn ou a1 a2 a3 = some (te', be', cn', th', mtm', mtn', ou') := by
  obtain ⟨⟨N, E, hPL⟩, -⟩ := h
  obtain ⟨k, code, r, b, cn', mtn', te', be', mtm', hk, eX, eM, hrb⟩ := ta_q (te := te) (be := be) (cn := cn) (mtm := mtm) (mtn := mtn) (th := th) hPL a1 a2
  simp only [List.mem_cons, List.not_mem_nil, or_false, Prod.mk.injEq] at hk
  unfold G_15 F_L_termAt
  rcases hk with ⟨rfl, rfl⟩ | ⟨rfl, rfl⟩
  · have hrb := hrb rfl
    subst hrb
    exact ⟨_, _, _, _, _, _, _, by rw [eX, bd5_s, if_pos rfl, bd5_s, eM, bd4_s, if_pos (show F_X7_thrown 0 = 0 from rfl), if_pos rfl, if_pos ou_e]⟩
  · exact ⟨_, _, _, _, _, _, _, by rw [eX, bd5_s, if_neg (by decide), if_pos rfl, bd5_s, eM, bd4_s, if_pos (show F_X7_thrown 1 = 1 from rfl), if_neg (by decide)]⟩

theorem mG_23 (h : REL pl ch le hs ho hc sl fi ms mst smn msl mhs mtx mle) (a1 a2 a3 : Int32) : ∃ te' be' cn' th' mtm' mtn' ou', G_23 pl te be cn th ms mtm mtn ou a1 a2 a3 = some (te', be', cn', th', mtm', mtn', ou') := by
  obtain ⟨⟨N, E, hPL⟩, -⟩ := h
  obtain ⟨k, code, r, b, cn', mtn', te', be', mtm', hk, eX, eM, hrb⟩ := ws_q (te := te) (be := be) (cn := cn) (mtm := mtm) (mtn := mtn) (th := th) hPL a1
  simp only [List.mem_cons, List.not_mem_nil, or_false, Prod.mk.injEq] at hk
  unfold G_23 F_L_waySteps
  rcases hk with ⟨rfl, rfl⟩ | ⟨rfl, rfl⟩ | ⟨rfl, rfl⟩
  · have hrb := hrb rfl
    subst hrb
    exact ⟨_, _, _, _, _, _, _, by rw [eX, bd5_s, if_pos rfl, bd5_s, eM, bd4_s, if_pos (show F_X7_thrown 0 = 0 from rfl), if_pos rfl, if_pos ou_e]⟩
  · exact ⟨_, _, _, _, _, _, _, by rw [eX, bd5_s, if_neg (by decide), if_pos rfl, bd5_s, eM, bd4_s, if_pos (show F_X7_thrown 1 = 1 from rfl), if_neg (by decide)]⟩
  · exact ⟨_, _, _, _, _, _, _, by rw [eX, bd5_s, if_neg (by decide), if_neg (by decide), if_pos rfl, bd5_s, eM, bd4_s, if_pos (show F_X7_thrown 2 = 2 from rfl), if_neg (by decide)]⟩

theorem mG_24 (h : REL pl ch le hs ho hc sl fi ms mst smn msl mhs mtx mle) (a1 a2 a3 : Int32) : ∃ te' be' cn' th' mtm' mtn' ou', G_24 pl te be cn th ms mtm mtn ou a1 a2 a3 = some (te', be', cn', th', mtm', mtn', ou') := by
  obtain ⟨⟨N, E, hPL⟩, -⟩ := h
  obtain ⟨k, code, r, b, cn', mtn', te', be', mtm', hk, eX, eM, hrb⟩ := wt_q (te := te) (be := be) (cn := cn) (mtm := mtm) (mtn := mtn) (th := th) hPL a1
  simp only [List.mem_cons, List.not_mem_nil, or_false, Prod.mk.injEq] at hk
  unfold G_24 F_L_wayTurns
  rcases hk with ⟨rfl, rfl⟩ | ⟨rfl, rfl⟩ | ⟨rfl, rfl⟩
  · have hrb := hrb rfl
    subst hrb
    exact ⟨_, _, _, _, _, _, _, by rw [eX, bd5_s, if_pos rfl, bd5_s, eM, bd4_s, if_pos (show F_X7_thrown 0 = 0 from rfl), if_pos rfl, if_pos ou_e]⟩
  · exact ⟨_, _, _, _, _, _, _, by rw [eX, bd5_s, if_neg (by decide), if_pos rfl, bd5_s, eM, bd4_s, if_pos (show F_X7_thrown 1 = 1 from rfl), if_neg (by decide)]⟩
  · exact ⟨_, _, _, _, _, _, _, by rw [eX, bd5_s, if_neg (by decide), if_neg (by decide), if_pos rfl, bd5_s, eM, bd4_s, if_pos (show F_X7_thrown 2 = 2 from rfl), if_neg (by decide)]⟩

theorem mG_16 (h : REL pl ch le hs ho hc sl fi ms mst smn msl mhs mtx mle) (a1 a2 a3 : Int32) : ∃ te' be' cn' th' mtp' mbt' mtm' mtn' ou', G_16 pl te be cn th ms mtp mbt mtm mtn ou a1 a2 a3 = some (te', be', cn', th', mtp', mbt', mtm', mtn', ou') := by
  obtain ⟨⟨N, E, hPL⟩, -⟩ := h
  obtain ⟨k, code, r, b, cn', mtn', te', be', mtm', mtp', mbt', hk, eX, eM, hrb⟩ := bn_q (te := te) (be := be) (cn := cn) (mtm := mtm) (mtn := mtn) (th := th) (mtp := mtp) (mbt := mbt) hPL a1 a2
  simp only [List.mem_cons, List.not_mem_nil, or_false, Prod.mk.injEq] at hk
  unfold G_16 F_L_beginningNumerator
  rcases hk with ⟨rfl, rfl⟩ | ⟨rfl, rfl⟩
  · have hrb := hrb rfl
    subst hrb
    exact ⟨_, _, _, _, _, _, _, _, _, by rw [eX, bd5_s, if_pos rfl, bd5_s, eM, bd6_s, if_pos (show F_X7_thrown 0 = 0 from rfl), if_pos rfl, if_pos ou_e]⟩
  · exact ⟨_, _, _, _, _, _, _, _, _, by rw [eX, bd5_s, if_neg (by decide), if_pos rfl, bd5_s, eM, bd6_s, if_pos (show F_X7_thrown 1 = 1 from rfl), if_neg (by decide)]⟩

theorem mG_17 (h : REL pl ch le hs ho hc sl fi ms mst smn msl mhs mtx mle) (a1 a2 a3 : Int32) : ∃ te' be' cn' th' mtp' mbt' mtm' mtn' ou', G_17 pl te be cn th ms mtp mbt mtm mtn ou a1 a2 a3 = some (te', be', cn', th', mtp', mbt', mtm', mtn', ou') := by
  obtain ⟨⟨N, E, hPL⟩, -⟩ := h
  obtain ⟨k, code, r, b, cn', mtn', te', be', mtm', mtp', mbt', hk, eX, eM, hrb⟩ := bd_q (te := te) (be := be) (cn := cn) (mtm := mtm) (mtn := mtn) (th := th) (mtp := mtp) (mbt := mbt) hPL a1 a2
  simp only [List.mem_cons, List.not_mem_nil, or_false, Prod.mk.injEq] at hk
  unfold G_17 F_L_beginningDenominator
  rcases hk with ⟨rfl, rfl⟩ | ⟨rfl, rfl⟩
  · have hrb := hrb rfl
    subst hrb
    exact ⟨_, _, _, _, _, _, _, _, _, by rw [eX, bd5_s, if_pos rfl, bd5_s, eM, bd6_s, if_pos (show F_X7_thrown 0 = 0 from rfl), if_pos rfl, if_pos ou_e]⟩
  · exact ⟨_, _, _, _, _, _, _, _, _, by rw [eX, bd5_s, if_neg (by decide), if_pos rfl, bd5_s, eM, bd6_s, if_pos (show F_X7_thrown 1 = 1 from rfl), if_neg (by decide)]⟩

theorem mG_25 (h : REL pl ch le hs ho hc sl fi ms mst smn msl mhs mtx mle) (a1 a2 a3 : Int32) : ∃ th' ou', G_25 pl th ms ou a1 a2 a3 = some (th', ou') := by
  obtain ⟨⟨N, E, hPL⟩, -⟩ := h
  obtain ⟨k, code, r, b, hk, eX, eM, hrb⟩ := br_q (th := th) hPL a1
  simp only [List.mem_cons, List.not_mem_nil, or_false, Prod.mk.injEq] at hk
  unfold G_25 F_L_beginsRight
  rcases hk with ⟨rfl, rfl⟩ | ⟨rfl, rfl⟩ | ⟨rfl, rfl⟩
  · have hrb := hrb rfl
    subst hrb
    exact ⟨_, _, by rw [eX, bd2_s, if_pos rfl, bd2_s, eM, bd2_s, if_pos (show F_X7_thrown 0 = 0 from rfl), if_pos rfl, if_pos ou_e]⟩
  · exact ⟨_, _, by rw [eX, bd2_s, if_neg (by decide), if_pos rfl, bd2_s, eM, bd2_s, if_pos (show F_X7_thrown 1 = 1 from rfl), if_neg (by decide)]⟩
  · exact ⟨_, _, by rw [eX, bd2_s, if_neg (by decide), if_neg (by decide), if_pos rfl, bd2_s, eM, bd2_s, if_pos (show F_X7_thrown 2 = 2 from rfl), if_neg (by decide)]⟩

end
