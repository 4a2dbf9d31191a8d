/-! undo, the slots, the small answers -/
theorem pl_of {pl : Nat → Int64} {ms : Nat → Int32} (h : ∀ p, p < 6 → ∃ n d, Fr n d ∧ pl p = fz n d ∧ ms (2 * p) = nI n ∧ ms (2 * p + 1) = nI d) : ∃ N E, PL pl ms N E := by
  have h1 : ∀ p : Nat, ∃ q : Nat × Nat, p < 6 → Fr q.1 q.2 ∧ pl p = fz q.1 q.2 ∧ ms (2 * p) = nI q.1 ∧ ms (2 * p + 1) = nI q.2 := by
    intro p
    by_cases hp : p < 6
    · obtain ⟨n, d, h⟩ := h p hp
      exact ⟨(n, d), fun _ => h⟩
    · exact ⟨(0, 0), fun h => absurd h hp⟩
  obtain ⟨f, hf⟩ := Classical.axiomOfChoice h1
  refine ⟨fun p => (f p).1, fun p => (f p).2, fun p hp => ?_⟩
  obtain ⟨a, b, c, d⟩ := hf p hp
  exact ⟨b, c, d, a⟩
theorem undo_e : ∀ (n x k : Nat) (f mst : Nat → Int32), k ≤ 5 → x ≤ 12 → 12 - x < n → ∃ f', L_X7_undo_30 n (nI x) f mst (nI k) = some (f', nI k) ∧ ∀ i, f' i = if x ≤ i ∧ i < 12 then mst (12 * k + i) else f i := by
  intro n
  induction n with
  | zero => intro x k f mst _ _ h; omega
  | succ n ih =>
    intro x k f mst hk hx hn
    rw [L_X7_undo_30_s]
    by_cases h : x = 12
    · subst h
      refine ⟨f, by rw [if_pos (show (12 : Int32) ≤ nI 12 from by show nI 12 ≤ nI 12; rw [nI_leI (by omega) (by omega)]; omega)], fun i => ?_⟩
      rw [if_neg (by omega)]
    · rw [if_neg (show ¬ (12 : Int32) ≤ nI x from by show ¬ nI 12 ≤ nI x; rw [nI_leI (by omega) (by omega)]; omega), show (12 : Int32) * nI k = nI (12 * k) from pk_mul 12 k, nI_add, inb (by omega) (by omega), inb (by omega) (by omega), cl_nI (by omega), cl_nI (by omega), show nI x + (1 : Int32) = nI (x + 1) from nI_1 x]
      obtain ⟨f', h1, h2⟩ := ih (x + 1) k (upd f x (mst (12 * k + x))) mst hk (by omega) (by omega)
      refine ⟨f', h1, fun i => ?_⟩
      rw [h2 i]
      by_cases c1 : x + 1 ≤ i ∧ i < 12
      · rw [if_pos c1, if_pos (by omega)]
      · rw [if_neg c1]
        by_cases c2 : i = x
        · subst c2; rw [pk_us, if_pos (by omega)]
        · rw [pk_un c2, if_neg (by omega)]
theorem save_e : ∀ (n x q : Nat) (ms f : Nat → Int32), q < 2 → x ≤ 12 → 12 - x < n → ∃ f', L_X7_saveState_22 n (nI q) (nI x) ms f = some f' ∧ ∀ i, f' i = if 12 * q + x ≤ i ∧ i < 12 * q + 12 then ms (i - 12 * q) else f i := by
  intro n
  induction n with
  | zero => intro x q ms f _ _ h; omega
  | succ n ih =>
    intro x q ms f hq hx hn
    rw [L_X7_saveState_22_s]
    by_cases h : x = 12
    · subst h
      refine ⟨f, by rw [if_pos (show (12 : Int32) ≤ nI 12 from by show nI 12 ≤ nI 12; rw [nI_leI (by omega) (by omega)]; omega)], fun i => ?_⟩
      rw [if_neg (by omega)]
    · rw [if_neg (show ¬ (12 : Int32) ≤ nI x from by show ¬ nI 12 ≤ nI x; rw [nI_leI (by omega) (by omega)]; omega), show (12 : Int32) * nI q = nI (12 * q) from pk_mul 12 q, nI_add, inb (by omega) (by omega), inb (by omega) (by omega), cl_nI (by omega), cl_nI (by omega), show nI x + (1 : Int32) = nI (x + 1) from nI_1 x]
      obtain ⟨f', h1, h2⟩ := ih (x + 1) q ms (upd f (12 * q + x) (ms x)) hq (by omega) (by omega)
      refine ⟨f', h1, fun i => ?_⟩
      rw [h2 i]
      by_cases c1 : 12 * q + (x + 1) ≤ i ∧ i < 12 * q + 12
      · rw [if_pos c1, if_pos (by omega)]
      · rw [if_neg c1]
        by_cases c2 : i = 12 * q + x
        · subst c2; rw [pk_us, if_pos (by omega), Nat.add_sub_cancel_left]
        · rw [pk_un c2, if_neg (by omega)]
theorem load_e : ∀ (n x q : Nat) (f msl : Nat → Int32), q < 2 → x ≤ 12 → 12 - x < n → ∃ f', L_X7_loadState_41 n (nI q) (nI x) f msl = some f' ∧ ∀ i, f' i = if x ≤ i ∧ i < 12 then msl (12 * q + i) else f i := by
  intro n
  induction n with
  | zero => intro x q f msl _ _ h; omega
  | succ n ih =>
    intro x q f msl hq hx hn
    rw [L_X7_loadState_41_s]
    by_cases h : x = 12
    · subst h
      refine ⟨f, by rw [if_pos (show (12 : Int32) ≤ nI 12 from by show nI 12 ≤ nI 12; rw [nI_leI (by omega) (by omega)]; omega)], fun i => ?_⟩
      rw [if_neg (by omega)]
    · rw [if_neg (show ¬ (12 : Int32) ≤ nI x from by show ¬ nI 12 ≤ nI x; rw [nI_leI (by omega) (by omega)]; omega), show (12 : Int32) * nI q = nI (12 * q) from pk_mul 12 q, nI_add, inb (by omega) (by omega), inb (by omega) (by omega), cl_nI (by omega), cl_nI (by omega), show nI x + (1 : Int32) = nI (x + 1) from nI_1 x]
      obtain ⟨f', h1, h2⟩ := ih (x + 1) q (upd f x (msl (12 * q + x))) msl hq (by omega) (by omega)
      refine ⟨f', h1, fun i => ?_⟩
      rw [h2 i]
      by_cases c1 : x + 1 ≤ i ∧ i < 12
      · rw [if_pos c1, if_pos (by omega)]
      · rw [if_neg c1]
        by_cases c2 : i = x
        · subst c2; rw [pk_us, if_pos (by omega)]
        · rw [pk_un c2, if_neg (by omega)]
section
variable {pl hs sl ou : Nat → Int64} {ho hc smn th le mle : Int32} {ch fi ms mst msl mhs mtx : Nat → Int32} {N E : Nat → Nat}
theorem mG_31 (h : REL pl ch le hs ho hc sl fi ms mst smn msl mhs mtx mle) (a1 a2 a3 : Int32) : ∃ pl' hc' th' ms' smn' ou', G_31 pl hs ho hc th ms mst smn ou a1 a2 a3 = some (pl', hc', th', ms', smn', ou') ∧ REL pl' ch le hs ho hc' sl fi ms' mst smn' msl mhs mtx mle := by
  obtain ⟨⟨N, E, hPL⟩, ⟨k, t, hk, ht, rfl, rfl, rfl, hst⟩, hT, hS⟩ := h
  unfold G_31 F_L_undo F_X6_undo F_X7_undo F_X4_count
  by_cases c : k = 0
  · subst c
    refine ⟨pl, nI 0, 1, ms, nI 0, ou, ?_, ⟨N, E, hPL⟩, ⟨0, t, by omega, ht, rfl, rfl, rfl, hst⟩, hT, hS⟩
    rw [if_pos (show nI 0 = (0 : Int32) from rfl), bd4_s, if_pos (show nI 0 = (0 : Int32) from rfl)]
    rfl
  · have hk1 : nI k - (1 : Int32) = nI (k - 1) := by
      obtain ⟨j, rfl⟩ : ∃ j, k = j + 1 := ⟨k - 1, by omega⟩
      exact nI_pred j
    have hlt : (t + (k - 1)) % 6 < 6 := Nat.mod_lt _ (by omega)
    obtain ⟨f, e1, v1⟩ := undo_e FU 0 (k - 1) ms mst (by omega) (by omega) (by rw [FU_eq]; omega)
    have g1 : ¬ ((F_X4_startBehindOldest (nI t) (nI k - (1 : Int32))) < 0 ∨ 36 < (F_X4_startBehindOldest (nI t) (nI k - (1 : Int32))).toNatClampNeg + 6) := by
      rw [hk1, start_e ht (by omega), cl_nI (by omega)]
      intro q
      rcases q with q | q
      · exact nI_pos (by omega) q
      · omega
    exact ⟨_, nI (k - 1), 0, f, nI (k - 1), _, (by
          rw [if_neg (show ¬ nI k = (0 : Int32) from by show ¬ nI k = nI 0; rw [nI_eq (by omega) (by omega)]; omega), if_neg (show ¬ nI k = (0 : Int32) from by show ¬ nI k = nI 0; rw [nI_eq (by omega) (by omega)]; omega)]
          unfold F_X4_restore
          rw [if_neg g1, bd2_s, bd4_s, if_pos rfl, hk1, show L_X7_undo_30 FU (0 : Int32) ms mst (nI (k - 1)) = some (f, nI (k - 1)) from e1, bd2_s, bd4_s, bd4_s, if_pos (show F_X7_thrown 0 = 0 from rfl), if_pos rfl, if_pos ou_e]), (by
          apply pl_of
          intro p hp
          obtain ⟨n, d, hf, b1, b2, b3⟩ := hst (k - 1) (by omega) p hp
          refine ⟨n, d, hf, ?_, ?_, ?_⟩
          · rw [start_e ht (by omega), cl_nI (by omega), show (0 : Int32).toNatClampNeg = 0 from rfl, show (6 : Int32).toNatClampNeg = 6 from rfl, pk_cpy_in (by omega) (by omega), ← b1]
            exact congrArg _ (by omega)
          · rw [v1, if_pos (by omega), ← b2]
          · rw [v1, if_pos (by omega), ← b3]; exact congrArg _ (by omega)), ⟨k - 1, t, by omega, ht, rfl, rfl, rfl, fun j hj => hst j (by omega)⟩, hT, hS⟩
theorem mG_32 (h : REL pl ch le hs ho hc sl fi ms mst smn msl mhs mtx mle) (a1 a2 a3 : Int32) : ∃ th', G_32 hc th smn a1 a2 a3 = some th' := by
  obtain ⟨⟨N, E, hPL⟩, ⟨k, t, hk, ht, rfl, rfl, rfl, hst⟩, hT, hS⟩ := h
  refine ⟨0, ?_⟩
  unfold G_32 F_X7_undoCount F_X6_undoCount F_X4_count
  rw [bd2_s, if_pos rfl]
theorem many_e (hPL : PL pl ms N E) : ∀ (m x n n' : Nat) (acc : Int32), x + m = 6 → m < n → m < n' → ∃ r, L_X6_platesNotZero_4 n acc (nI x) pl = some r ∧ L_X7_wholeMany_4 n' acc (nI x) ms = some r := by
  intro m
  induction m with
  | zero =>
    intro x n n' acc hx hn hn'
    obtain ⟨n, rfl⟩ : ∃ k, n = k + 1 := ⟨n - 1, by omega⟩
    obtain ⟨n', rfl⟩ : ∃ k, n' = k + 1 := ⟨n' - 1, by omega⟩
    have hx6 : x = 6 := by omega
    subst hx6
    exact ⟨acc, by rw [L_X6_platesNotZero_4_s, if_pos (show (6 : Int32) ≤ nI 6 from by show nI 6 ≤ nI 6; rw [nI_leI (by omega) (by omega)]; omega)], by rw [L_X7_wholeMany_4_s, if_pos (show (6 : Int32) ≤ nI 6 from by show nI 6 ≤ nI 6; rw [nI_leI (by omega) (by omega)]; omega)]⟩
  | succ m ih =>
    intro x n n' acc hx hn hn'
    obtain ⟨n, rfl⟩ : ∃ k, n = k + 1 := ⟨n - 1, by omega⟩
    obtain ⟨n', rfl⟩ : ∃ k, n' = k + 1 := ⟨n' - 1, by omega⟩
    obtain ⟨pa, pb, pc, pd⟩ := hPL x (by omega)
    rw [L_X6_platesNotZero_4_s, L_X7_wholeMany_4_s, if_neg (show ¬ (6 : Int32) ≤ nI x from by show ¬ nI 6 ≤ nI x; rw [nI_leI (by omega) (by omega)]; omega), if_neg (show ¬ (6 : Int32) ≤ nI x from by show ¬ nI 6 ≤ nI x; rw [nI_leI (by omega) (by omega)]; omega), inb (by omega) (by omega), ab_e (by omega), bd1_s, cl_nI (by omega), pa, pb, show nI x + (1 : Int32) = nI (x + 1) from nI_1 x]
    have q3 := pd.2.2.1
    by_cases c : N x = 0
    · rw [if_pos ((fz1 pd).mpr c), if_pos (show nI (N x) ≤ (0 : Int32) from by show nI (N x) ≤ nI 0; rw [nI_leI (by omega) (by omega)]; omega), Int32.add_zero]
      exact ih (x + 1) n n' acc (by omega) (by omega) (by omega)
    · rw [if_neg (fun q => c ((fz1 pd).mp q)), if_neg (show ¬ nI (N x) ≤ (0 : Int32) from by show ¬ nI (N x) ≤ nI 0; rw [nI_leI (by omega) (by omega)]; omega)]
      exact ih (x + 1) n n' _ (by omega) (by omega) (by omega)
theorem many_r (hPL : PL pl ms N E) : ∃ r, F_X6_platesNotZero pl = some r ∧ F_X7_wholeMany ms = some r := by
  obtain ⟨r, h1, h2⟩ := many_e hPL 6 0 FU FU 0 (by omega) (by rw [FU_eq]; omega) (by rw [FU_eq]; omega)
  refine ⟨r, ?_, ?_⟩
  · unfold F_X6_platesNotZero
    rw [show L_X6_platesNotZero_4 FU (0 : Int32) (0 : Int32) pl = some r from h1, bd1_s]
  · unfold F_X7_wholeMany
    rw [show L_X7_wholeMany_4 FU (0 : Int32) (0 : Int32) ms = some r from h2, bd1_s]
theorem slot_cases (a : Int32) : (∃ q, q < 2 ∧ a = nI q ∧ F_X6_requireSlot a = some 0 ∧ F_X7_in a 0 1 = 1) ∨ (F_X6_requireSlot a = some 1 ∧ F_X7_in a 0 1 = 0) := by
  rcases in_cases a 0 1 (by omega) (by omega) with ⟨n, n1, n2, rfl, z1⟩ | ⟨z1, z2⟩
  · left
    refine ⟨n, by omega, rfl, ?_, z1⟩
    unfold F_X6_requireSlot
    rw [if_neg (show ¬ nI n < (0 : Int32) from by show ¬ nI n < nI 0; rw [nI_ltI (by omega) (by omega)]; omega), if_pos (show nI n < (2 : Int32) from by show nI n < nI 2; rw [nI_ltI (by omega) (by omega)]; omega)]
  · right
    refine ⟨?_, z1⟩
    unfold F_X6_requireSlot
    rcases z2 with z2 | ⟨z2, z3⟩
    · rw [if_pos (show a < 0 from z2)]
    · rw [if_neg (show ¬ a < 0 from z2), if_neg]
      rw [Int32.lt_iff_toInt_lt] at z3 ⊢
      rw [nI_toInt (by omega)] at z3
      have e2 : (2 : Int32).toInt = 2 := by decide
      omega
theorem mG_33 (h : REL pl ch le hs ho hc sl fi ms mst smn msl mhs mtx mle) (a1 a2 a3 : Int32) : ∃ sl' fi' th' msl' mhs' ou', G_33 pl sl fi th ms msl mhs ou a1 a2 a3 = some (sl', fi', th', msl', mhs', ou') ∧ REL pl ch le hs ho hc sl' fi' ms mst smn msl' mhs' mtx mle := by
  obtain ⟨⟨N, E, hPL⟩, hH, hT, hS⟩ := h
  unfold G_33 F_L_saveState F_X6_saveState F_X7_saveState
  rcases slot_cases a1 with ⟨q, hq, rfl, x1, y1⟩ | ⟨x1, y1⟩
  · obtain ⟨r, r1, r2⟩ := many_r hPL
    obtain ⟨f, e1, v1⟩ := save_e FU 0 q ms msl hq (by omega) (by rw [FU_eq]; omega)
    have g1 : ¬ ((nI q * (6 : Int32)) < 0 ∨ 12 < (nI q * (6 : Int32)).toNatClampNeg + 6) := by
      rw [show nI q * (6 : Int32) = nI (q * 6) from pk_mul q 6, cl_nI (by omega)]
      intro z
      rcases z with z | z
      · exact nI_pos (by omega) z
      · omega
    exact ⟨_, _, 0, f, _, _, (by
          rw [x1, bd1_s, if_pos rfl, if_neg g1, inb hq (by omega), r1, bd1_s, bd4_s, if_pos rfl, bd4_s, y1, if_neg n10, show L_X7_saveState_22 FU (nI q) (0 : Int32) ms msl = some f from e1, bd1_s, inb hq (by omega), r2, bd1_s, bd4_s, if_pos (show F_X7_thrown 0 = 0 from rfl), if_pos rfl, if_pos ou_e]), ⟨N, E, hPL⟩, hH, hT, (by
          intro s hs2
          rw [show nI q * (6 : Int32) = nI (q * 6) from pk_mul q 6, cl_nI (by omega), cl_nI (by omega), show (0 : Int32).toNatClampNeg = 0 from rfl, show (6 : Int32).toNatClampNeg = 6 from rfl, show vp_nar .boolean (1 : Int32) = 1 from rfl]
          by_cases c : s = q
          · subst c
            right
            refine ⟨pk_us, pk_us, fun p hp => ?_⟩
            obtain ⟨pa, pb, pc, pd⟩ := hPL p hp
            refine ⟨N p, E p, pd, ?_, ?_, ?_⟩
            · rw [pk_cpy_in (by omega) (by omega), ← pa]; exact congrArg _ (by omega)
            · rw [v1, if_pos (by omega), ← pb]; exact congrArg _ (by omega)
            · rw [v1, if_pos (by omega), ← pc]; exact congrArg _ (by omega)
          · rw [pk_un c, pk_un c]
            rcases hS s hs2 with h | ⟨h1, h2, h3⟩
            · exact Or.inl h
            · right
              refine ⟨h1, h2, fun p hp => ?_⟩
              obtain ⟨n, d, hf, b1, b2, b3⟩ := h3 p hp
              refine ⟨n, d, hf, ?_, ?_, ?_⟩
              · rw [pk_cpy_out (by omega), b1]
              · rw [v1, if_neg (by omega), b2]
              · rw [v1, if_neg (by omega), b3])⟩
  · refine ⟨sl, fi, 1, msl, mhs, ou, ?_, ⟨N, E, hPL⟩, hH, hT, hS⟩
    rw [x1, bd1_s, if_neg (show ¬ (1 : Nat) = 0 by decide), y1, if_pos rfl]
    rfl
theorem mG_34 (h : REL pl ch le hs ho hc sl fi ms mst smn msl mhs mtx mle) (a1 a2 a3 : Int32) : ∃ pl' hs' ho' hc' th' ms' mst' smn' ou', G_34 pl hs ho hc sl fi th ms mst smn msl mhs ou a1 a2 a3 = some (pl', hs', ho', hc', th', ms', mst', smn', ou') ∧ REL pl' ch le hs' ho' hc' sl fi ms' mst' smn' msl mhs mtx mle := by
  obtain ⟨⟨N, E, hPL⟩, hH, hT, hS⟩ := h
  unfold G_34 F_L_loadState F_X6_loadState F_X7_loadState
  rcases slot_cases a1 with ⟨q, hq, rfl, x1, y1⟩ | ⟨x1, y1⟩
  · rw [x1, bd1_s, if_pos rfl, inb hq (by omega), y1, if_neg n10, inb hq (by omega), cl_nI (by omega)]
    rcases hS q hq with ⟨h1, h2⟩ | ⟨h1, h2, h3⟩
    · refine ⟨pl, hs, ho, hc, 2, ms, mst, smn, ou, ?_, ⟨N, E, hPL⟩, hH, hT, hS⟩
      rw [h1, if_pos rfl, h2, if_pos rfl]
      rfl
    · obtain ⟨hs', ho', hc', mst', smn', r1, r2, r3⟩ := rec_e hPL hH
      obtain ⟨f, e1, v1⟩ := load_e FU 0 q ms msl hq (by omega) (by rw [FU_eq]; omega)
      have g1 : ¬ ((nI q * (6 : Int32)) < 0 ∨ 12 < (nI q * (6 : Int32)).toNatClampNeg + 6) := by
        rw [show nI q * (6 : Int32) = nI (q * 6) from pk_mul q 6, cl_nI (by omega)]
        intro z
        rcases z with z | z
        · exact nI_pos (by omega) z
        · omega
      have hP2 : ∃ N E, PL (va_cpy sl pl (nI q * (6 : Int32)).toNatClampNeg (0 : Int32).toNatClampNeg (6 : Int32).toNatClampNeg) f N E := by
        apply pl_of
        intro p hp
        obtain ⟨n, d, hf, b1, b2, b3⟩ := h3 p hp
        refine ⟨n, d, hf, ?_, ?_, ?_⟩
        · rw [show nI q * (6 : Int32) = nI (q * 6) from pk_mul q 6, cl_nI (by omega), show (0 : Int32).toNatClampNeg = 0 from rfl, show (6 : Int32).toNatClampNeg = 6 from rfl, pk_cpy_in (by omega) (by omega), ← b1]
          exact congrArg _ (by omega)
        · rw [v1, if_pos (by omega), ← b2]
        · rw [v1, if_pos (by omega), ← b3]; exact congrArg _ (by omega)
      obtain ⟨N2, E2, hP3⟩ := id hP2
      obtain ⟨r, m1, m2⟩ := many_r hP3
      exact ⟨_, hs', ho', hc', 0, f, mst', smn', _, (by
            rw [h1, if_neg n10, r1, bd3_s, if_neg g1, m1, bd1_s, bd6_s, if_pos rfl, bd6_s, h2, if_neg n10, r2, bd2_s, show L_X7_loadState_41 FU (nI q) (0 : Int32) ms msl = some f from e1, bd1_s, m2, bd1_s, bd5_s, if_pos (show F_X7_thrown 0 = 0 from rfl), if_pos rfl, if_pos ou_e]), hP2, r3, hT, hS⟩
  · refine ⟨pl, hs, ho, hc, 1, ms, mst, smn, ou, ?_, ⟨N, E, hPL⟩, hH, hT, hS⟩
    rw [x1, bd1_s, if_neg (show ¬ (1 : Nat) = 0 by decide), y1, if_pos rfl]
    rfl
end
