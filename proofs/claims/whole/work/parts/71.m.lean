/-! the relation of the two worlds; plates, the greatest common measure, records -/
def Fr (n d : Nat) : Prop := 1 ≤ d ∧ d ≤ 1000000 ∧ n ≤ 1000000 ∧ Nat.gcd n d = 1
def PL (pl : Nat → Int64) (ms : Nat → Int32) (N E : Nat → Nat) : Prop := ∀ p, p < 6 → pl p = fz (N p) (E p) ∧ ms (2 * p) = nI (N p) ∧ ms (2 * p + 1) = nI (E p) ∧ Fr (N p) (E p)
def HR (hs : Nat → Int64) (ho hc : Int32) (mst : Nat → Int32) (smn : Int32) : Prop := ∃ k t : Nat, k ≤ 6 ∧ t < 6 ∧ hc = nI k ∧ smn = nI k ∧ ho = nI t ∧ ∀ j, j < k → ∀ p, p < 6 → ∃ n d, Fr n d ∧ hs ((t + j) % 6 * 6 + p) = fz n d ∧ mst (12 * j + 2 * p) = nI n ∧ mst (12 * j + 2 * p + 1) = nI d
def TR (ch : Nat → Int32) (le : Int32) (mtx : Nat → Int32) (mle : Int32) : Prop := ∃ n : Nat, n ≤ 80 ∧ le = nI n ∧ mle = nI n ∧ ∀ i, i < n → ∃ c : Nat, 33 ≤ c ∧ c ≤ 126 ∧ ch i = nI c ∧ mtx i = nI c
def SR (sl : Nat → Int64) (fi msl mhs : Nat → Int32) : Prop := ∀ q, q < 2 → (fi q = 0 ∧ mhs q = 0) ∨ (fi q = 1 ∧ mhs q = 1 ∧ ∀ p, p < 6 → ∃ n d, Fr n d ∧ sl (6 * q + p) = fz n d ∧ msl (12 * q + 2 * p) = nI n ∧ msl (12 * q + 2 * p + 1) = nI d)
theorem fz_ne {n d : Nat} (hn : n ≤ 1000000) (hd : d ≤ 1000000) : ¬ fz n d = (-1 : Int64) := by
  intro h
  have h2 := congrArg Int64.toInt h
  rw [fz, pk_lT (by omega), show (-1 : Int64).toInt = -1 from by decide] at h2
  omega
theorem plate_cases (a : Int32) : (∃ p, p < 6 ∧ a = nI p ∧ F_X6_isPlate a = 1 ∧ F_X7_isPlate a = 1) ∨ (F_X6_isPlate a = 0 ∧ F_X7_isPlate a = 0) := by
  rcases pk_ix a (n := 6) (by decide) with h | h | ⟨j, hj, rfl⟩
  · right
    constructor
    · unfold F_X6_isPlate; rw [if_pos h]
    · unfold F_X7_isPlate F_X7_in; rw [if_pos h]
  · right
    have h6 : (6 : Int32) ≤ a := h
    constructor
    · unfold F_X6_isPlate
      by_cases h0 : a < 0
      · rw [if_pos h0]
      · rw [if_neg h0, if_pos h6]
    · unfold F_X7_isPlate F_X7_in
      by_cases h0 : a < 0
      · rw [if_pos h0]
      · rw [if_neg h0, if_pos]
        rw [Int32.lt_iff_toInt_lt]
        rw [Int32.le_iff_toInt_le] at h6
        have e1 : (5 : Int32).toInt = 5 := by decide
        have e2 : (6 : Int32).toInt = 6 := by decide
        omega
  · left
    refine ⟨j, hj, rfl, ?_⟩
    exact (by decide +kernel : ∀ j, j < 6 → F_X6_isPlate (nI j) = 1 ∧ F_X7_isPlate (nI j) = 1) j hj
theorem rp_ok {a : Int32} (h : F_X6_isPlate a = 1) : F_X6_requirePlate a = some 0 := by
  unfold F_X6_requirePlate; rw [h]; rfl
theorem rp_no {a : Int32} (h : F_X6_isPlate a = 0) : F_X6_requirePlate a = some 1 := by
  unfold F_X6_requirePlate; rw [h]; rfl
theorem ap_ok {a b : Int32} (h : F_X7_isPlate a = 1) (h2 : F_X7_isPlate b = 1) : F_X7_arePlates a b = 1 := by
  unfold F_X7_arePlates; rw [h, h2]; rfl
theorem ap_no1 {a b : Int32} (h : F_X7_isPlate a = 0) : F_X7_arePlates a b = 0 := by
  unfold F_X7_arePlates; rw [h]; rfl
theorem ap_no2 {a b : Int32} (h : F_X7_isPlate a = 1) (h2 : F_X7_isPlate b = 0) : F_X7_arePlates a b = 0 := by
  unfold F_X7_arePlates; rw [h, h2]; rfl
theorem e2p (p : Nat) : (2 : Int32) * nI p = nI (2 * p) := pk_mul 2 p
theorem e2p1 (p : Nat) : (2 : Int32) * nI p + 1 = nI (2 * p + 1) := by rw [e2p]; exact nI_1 _
theorem ab_e {ms : Nat → Int32} {p : Nat} (hp : p < 6) : F_X7_above ms (nI p) = some (ms (2 * p)) := by
  unfold F_X7_above
  rw [e2p, inb (by omega) (by omega), cl_nI (by omega)]
theorem be_e {ms : Nat → Int32} {p : Nat} (hp : p < 6) : F_X7_below ms (nI p) = some (ms (2 * p + 1)) := by
  unfold F_X7_below
  rw [e2p1, inb (by omega) (by omega), cl_nI (by omega)]
theorem gpos {n d : Nat} (hd : 1 ≤ d) : 0 < Nat.gcd n d := Nat.gcd_pos_of_pos_right n hd
theorem gle {n d : Nat} (hd : 1 ≤ d) : Nat.gcd n d ≤ d := Nat.gcd_le_right n hd
theorem low_e {n d : Nat} (hd : 1 ≤ d) (hn : n < 2 ^ 62) (hd2 : d < 2 ^ 62) : F_X3_inLowestTerms (lN n) (lN d) = some (if n / Nat.gcd n d ≤ 1000000 ∧ d / Nat.gcd n d ≤ 1000000 then fz (n / Nat.gcd n d) (d / Nat.gcd n d) else -1) := by
  have hg := gpos (n := n) hd
  have hg2 := gle (n := n) hd
  have h1 : n / Nat.gcd n d ≤ n := Nat.div_le_self _ _
  have h2 : d / Nat.gcd n d ≤ d := Nat.div_le_self _ _
  unfold F_X3_inLowestTerms
  rw [if_neg (show ¬ lN n < (0 : Int64) from by show ¬ lN n < lN 0; rw [pk_lLT (by omega) (by omega)]; omega), if_pos (show (1 : Int64) ≤ lN d from by show lN 1 ≤ lN d; rw [pk_lLE (by omega) (by omega)]; omega), cd_e (by omega) (by omega), bd1_s, show max 1 (Nat.gcd n d) = Nat.gcd n d by omega]
  rw [if_neg (show ¬ lN (Nat.gcd n d) = (0 : Int64) from by show ¬ lN (Nat.gcd n d) = lN 0; rw [pk_lEQ (by omega) (by omega)]; omega), pk_lDiv (by omega) hg (by omega), pk_lDiv (by omega) hg (by omega)]
  by_cases c1 : n / Nat.gcd n d ≤ 1000000
  · rw [if_neg (show ¬ (1000000 : Int64) < lN (n / Nat.gcd n d) from by show ¬ lN 1000000 < lN (n / Nat.gcd n d); rw [pk_lLT (by omega) (by omega)]; omega)]
    by_cases c2 : d / Nat.gcd n d ≤ 1000000
    · rw [if_pos (show lN (d / Nat.gcd n d) ≤ (1000000 : Int64) from by show lN (d / Nat.gcd n d) ≤ lN 1000000; rw [pk_lLE (by omega) (by omega)]; omega), if_pos ⟨c1, c2⟩, pair_fz (by omega) (by omega)]
    · rw [if_neg (show ¬ lN (d / Nat.gcd n d) ≤ (1000000 : Int64) from by show ¬ lN (d / Nat.gcd n d) ≤ lN 1000000; rw [pk_lLE (by omega) (by omega)]; omega), if_neg (fun q => c2 q.2)]
  · rw [if_pos (show (1000000 : Int64) < lN (n / Nat.gcd n d) from by show lN 1000000 < lN (n / Nat.gcd n d); rw [pk_lLT (by omega) (by omega)]; omega), if_neg (fun q => c1 q.1)]
theorem mk_e {n d : Nat} {mtp mbt : Int64} (hd : 1 ≤ d) (hn : n < 2 ^ 62) (hd2 : d < 2 ^ 62) : F_X7_makes mtp mbt (lN n) (lN d) = some (if n / Nat.gcd n d ≤ 1000000 ∧ d / Nat.gcd n d ≤ 1000000 then 1 else 0, lN (n / Nat.gcd n d), lN (d / Nat.gcd n d)) := by
  have hg := gpos (n := n) hd
  have hg2 := gle (n := n) hd
  have h1 : n / Nat.gcd n d ≤ n := Nat.div_le_self _ _
  have h2 : d / Nat.gcd n d ≤ d := Nat.div_le_self _ _
  unfold F_X7_makes
  rw [dv_e (by omega) (by omega), bd1_s, Nat.gcd_comm d n]
  rw [if_neg (show ¬ lN (Nat.gcd n d) = (0 : Int64) from by show ¬ lN (Nat.gcd n d) = lN 0; rw [pk_lEQ (by omega) (by omega)]; omega), pk_lDiv (by omega) hg (by omega), pk_lDiv (by omega) hg (by omega)]
  rw [if_neg (show ¬ lN n < (0 : Int64) from by show ¬ lN n < lN 0; rw [pk_lLT (by omega) (by omega)]; omega)]
  by_cases c1 : n / Nat.gcd n d ≤ 1000000
  · rw [if_neg (show ¬ (1000000 : Int64) < lN (n / Nat.gcd n d) from by show ¬ lN 1000000 < lN (n / Nat.gcd n d); rw [pk_lLT (by omega) (by omega)]; omega)]
    by_cases c2 : d / Nat.gcd n d ≤ 1000000
    · rw [if_neg (show ¬ (1000000 : Int64) < lN (d / Nat.gcd n d) from by show ¬ lN 1000000 < lN (d / Nat.gcd n d); rw [pk_lLT (by omega) (by omega)]; omega), if_pos ⟨c1, c2⟩]
    · rw [if_pos (show (1000000 : Int64) < lN (d / Nat.gcd n d) from by show lN 1000000 < lN (d / Nat.gcd n d); rw [pk_lLT (by omega) (by omega)]; omega), if_neg (fun q => c2 q.2)]
  · rw [if_pos (show (1000000 : Int64) < lN (n / Nat.gcd n d) from by show lN 1000000 < lN (n / Nat.gcd n d); rw [pk_lLT (by omega) (by omega)]; omega), if_neg (fun q => c1 q.1)]
theorem fr_low {n d : Nat} (hd : 1 ≤ d) (h : n / Nat.gcd n d ≤ 1000000 ∧ d / Nat.gcd n d ≤ 1000000) : Fr (n / Nat.gcd n d) (d / Nat.gcd n d) := by
  have hg := gpos (n := n) hd
  refine ⟨Nat.div_pos (gle hd) hg, h.2, h.1, ?_⟩
  rw [Nat.gcd_div (Nat.gcd_dvd_left n d) (Nat.gcd_dvd_right n d), Nat.div_self hg]
theorem start_e {t k : Nat} (ht : t < 6) (hk : k ≤ 6) : F_X4_startBehindOldest (nI t) (nI k) = nI ((t + k) % 6 * 6) := by
  unfold F_X4_startBehindOldest
  rw [nI_add, show (6 : Int32) = nI 6 from rfl, pk_rem (by omega) (by omega) (by omega), pk_mul]
theorem shift_e : ∀ (n x : Nat) (f : Nat → Int32), x ≤ 60 → 60 - x < n → ∃ f', L_X7_records_11 n (nI x) f = some f' ∧ ∀ i, f' i = if x ≤ i ∧ i < 60 then f (i + 12) else f i := by
  intro n
  induction n with
  | zero => intro x f _ h; omega
  | succ n ih =>
    intro x f hx hn
    rw [L_X7_records_11_s]
    by_cases h : x = 60
    · subst h
      refine ⟨f, by rw [if_pos (show (60 : Int32) ≤ nI 60 from by show nI 60 ≤ nI 60; rw [nI_leI (by omega) (by omega)]; omega)], fun i => ?_⟩
      rw [if_neg (by omega)]
    · rw [if_neg (show ¬ (60 : Int32) ≤ nI x from by show ¬ nI 60 ≤ nI x; rw [nI_leI (by omega) (by omega)]; omega), show nI x + (12 : Int32) = nI (x + 12) from nI_add x 12, inb (by omega) (by omega), inb (by omega) (by omega), cl_nI (by omega), cl_nI (by omega), show nI x + (1 : Int32) = nI (x + 1) from nI_1 x]
      obtain ⟨f', h1, h2⟩ := ih (x + 1) (upd f x (f (x + 12))) (by omega) (by omega)
      refine ⟨f', h1, fun i => ?_⟩
      rw [h2 i]
      by_cases c1 : x + 1 ≤ i ∧ i < 60
      · rw [if_pos c1, if_pos (by omega), pk_un (by omega)]
      · rw [if_neg c1]
        by_cases c2 : i = x
        · subst c2; rw [pk_us, if_pos (by omega)]
        · rw [pk_un c2, if_neg (by omega)]
theorem copy_e : ∀ (n x k : Nat) (ms f : Nat → Int32), k ≤ 5 → x ≤ 12 → 12 - x < n → ∃ f', L_X7_records_50 n (nI x) ms f (nI k) = some f' ∧ ∀ i, f' i = if 12 * k + x ≤ i ∧ i < 12 * k + 12 then ms (i - 12 * k) else f i := by
  intro n
  induction n with
  | zero => intro x k ms f _ _ h; omega
  | succ n ih =>
    intro x k ms f hk hx hn
    rw [L_X7_records_50_s]
    by_cases h : x = 12
    · subst h
      refine ⟨f, by rw [if_pos (show (12 : Int32) ≤ nI 12 from by show nI 12 ≤ nI 12; rw [nI_leI (by omega) (by omega)]; omega)], fun i => ?_⟩
      rw [if_neg (by omega)]
    · rw [if_neg (show ¬ (12 : Int32) ≤ nI x from by show ¬ nI 12 ≤ nI x; rw [nI_leI (by omega) (by omega)]; omega), show (12 : Int32) * nI k = nI (12 * k) from pk_mul 12 k, nI_add, inb (by omega) (by omega), inb (by omega) (by omega), cl_nI (by omega), cl_nI (by omega), show nI x + (1 : Int32) = nI (x + 1) from nI_1 x]
      obtain ⟨f', h1, h2⟩ := ih (x + 1) k ms (upd f (12 * k + x) (ms x)) hk (by omega) (by omega)
      refine ⟨f', h1, fun i => ?_⟩
      rw [h2 i]
      by_cases c1 : 12 * k + (x + 1) ≤ i ∧ i < 12 * k + 12
      · rw [if_pos c1, if_pos (by omega)]
      · rw [if_neg c1]
        by_cases c2 : i = 12 * k + x
        · subst c2; rw [pk_us, if_pos (by omega), Nat.add_sub_cancel_left]
        · rw [pk_un c2, if_neg (by omega)]
theorem rec_e {pl hs : Nat → Int64} {ho hc smn : Int32} {ms mst : Nat → Int32} {N E : Nat → Nat} (hPL : PL pl ms N E) (hHR : HR hs ho hc mst smn) : ∃ hs' ho' hc' mst' smn', F_X4_record pl hs ho hc = some (hs', ho', hc') ∧ F_X7_records ms mst smn = some (mst', smn') ∧ HR hs' ho' hc' mst' smn' := by
  obtain ⟨k, t, hk, ht, rfl, rfl, rfl, hst⟩ := hHR
  have hlt : (t + k) % 6 < 6 := Nat.mod_lt _ (by omega)
  have c0 : (0 : Int32).toNatClampNeg = 0 := rfl
  have c6 : (6 : Int32).toNatClampNeg = 6 := rfl
  have g1 : ¬ ((F_X4_startBehindOldest (nI t) (nI k)) < 0 ∨ 36 < (F_X4_startBehindOldest (nI t) (nI k)).toNatClampNeg + 6) := by
    rw [start_e ht hk, cl_nI (by omega)]
    intro q
    rcases q with q | q
    · exact nI_pos (by omega) q
    · omega
  unfold F_X4_record
  rw [if_neg g1, start_e ht hk, cl_nI (by omega), c0, c6]
  by_cases h6 : k = 6
  · subst h6
    rw [if_pos (show (6 : Int32) ≤ nI 6 from by show nI 6 ≤ nI 6; rw [nI_leI (by omega) (by omega)]; omega)]
    obtain ⟨f1, e1, v1⟩ := shift_e FU 0 mst (by omega) (by rw [FU_eq]; omega)
    obtain ⟨f2, e2, v2⟩ := copy_e FU 0 5 ms f1 (by omega) (by omega) (by rw [FU_eq]; omega)
    refine ⟨_, _, _, f2, nI 6, rfl, ?_, 6, (t + 1) % 6, by omega, Nat.mod_lt _ (by omega), rfl, rfl, ?_, ?_⟩
    · unfold F_X7_records
      rw [if_pos (show nI 6 = (6 : Int32) from rfl), show L_X7_records_11 FU (0 : Int32) mst = some f1 from e1, bd1_s, bd2_s, show nI 6 - (1 : Int32) = nI 5 from by decide, show L_X7_records_50 FU (0 : Int32) ms f1 (nI 5) = some f2 from e2, bd1_s]
      rfl
    · rw [show nI t + (1 : Int32) = nI (t + 1) from nI_1 t, show (6 : Int32) = nI 6 from rfl, pk_rem (by omega) (by omega) (by omega)]
    · intro j hj p hp
      have hm : (t + 6) % 6 = t := by omega
      rw [hm]
      by_cases hj5 : j = 5
      · subst hj5
        obtain ⟨a1, a2, a3, a4⟩ := hPL p hp
        refine ⟨N p, E p, a4, ?_, ?_, ?_⟩
        · rw [pk_cpy_in (by omega) (by omega), ← a1]; exact congrArg _ (by omega)
        · rw [v2, if_pos (by omega), ← a2]; exact congrArg _ (by omega)
        · rw [v2, if_pos (by omega), ← a3]; exact congrArg _ (by omega)
      · obtain ⟨n, d, hf, b1, b2, b3⟩ := hst (j + 1) (by omega) p hp
        refine ⟨n, d, hf, ?_, ?_, ?_⟩
        · rw [pk_cpy_out (by omega), ← b1]; exact congrArg _ (by omega)
        · rw [v2, if_neg (by omega), v1, if_pos (by omega), ← b2]; exact congrArg _ (by omega)
        · rw [v2, if_neg (by omega), v1, if_pos (by omega), ← b3]; exact congrArg _ (by omega)
  · rw [if_neg (show ¬ (6 : Int32) ≤ nI k from by show ¬ nI 6 ≤ nI k; rw [nI_leI (by omega) (by omega)]; omega)]
    obtain ⟨f2, e2, v2⟩ := copy_e FU 0 k ms mst (by omega) (by omega) (by rw [FU_eq]; omega)
    refine ⟨_, _, _, f2, nI (k + 1), rfl, ?_, k + 1, t, by omega, ht, nI_1 k, rfl, rfl, ?_⟩
    · unfold F_X7_records
      rw [if_neg (show ¬ nI k = (6 : Int32) from by show ¬ nI k = nI 6; rw [nI_eq (by omega) (by omega)]; omega), bd2_s, show L_X7_records_50 FU (0 : Int32) ms mst (nI k) = some f2 from e2, bd1_s]
      exact congrArg (fun z => some (f2, z)) (nI_1 k)
    · intro j hj p hp
      by_cases hjk : j = k
      · subst hjk
        obtain ⟨a1, a2, a3, a4⟩ := hPL p hp
        refine ⟨N p, E p, a4, ?_, ?_, ?_⟩
        · rw [pk_cpy_in (by omega) (by omega), ← a1]; exact congrArg _ (by omega)
        · rw [v2, if_pos (by omega), ← a2]; exact congrArg _ (by omega)
        · rw [v2, if_pos (by omega), ← a3]; exact congrArg _ (by omega)
      · obtain ⟨n, d, hf, b1, b2, b3⟩ := hst j (by omega) p hp
        refine ⟨n, d, hf, ?_, ?_, ?_⟩
        · rw [pk_cpy_out, b1]
          have : (t + j) % 6 ≠ (t + k) % 6 := by omega
          omega
        · rw [v2, if_neg (by omega), b2]
        · rw [v2, if_neg (by omega), b3]
theorem ch_e {pl hs hs' : Nat → Int64} {ho hc ho' hc' : Int32} {p n d : Nat} (hp : p < 6) (hf : Fr n d) (hr : F_X4_record pl hs ho hc = some (hs', ho', hc')) : F_X6_change pl hs ho hc (nI p) (fz n d) = some (nI d, vp_updL pl p (fz n d), hs', ho', hc') := by
  obtain ⟨h1, h2, h3, h4⟩ := hf
  unfold F_X6_change
  rw [hr, bd3_s, inb (by omega) (by omega), cl_nI (by omega), den_fz (by omega) h1 (by omega), lN_i]
theorem pu_e {ms : Nat → Int32} {p n d : Nat} (hp : p < 6) : F_X7_puts ms (lN n) (lN d) (nI p) = some (nI d, upd (upd ms (2 * p) (nI n)) (2 * p + 1) (nI d)) := by
  unfold F_X7_puts
  rw [e2p1, e2p, inb (by omega) (by omega), inb (by omega) (by omega), cl_nI (by omega), cl_nI (by omega), lN_i, lN_i, pk_us]
theorem pl_put {pl : Nat → Int64} {ms : Nat → Int32} {N E : Nat → Nat} {p n d : Nat} (h : PL pl ms N E) (hp : p < 6) (hf : Fr n d) : PL (vp_updL pl p (fz n d)) (upd (upd ms (2 * p) (nI n)) (2 * p + 1) (nI d)) (fun i => if i = p then n else N i) (fun i => if i = p then d else E i) := by
  intro q hq
  dsimp only
  by_cases c : q = p
  · subst c
    rw [if_pos rfl, if_pos rfl, pk_uLs, pk_us, pk_un (by omega), pk_us]
    exact ⟨rfl, rfl, rfl, hf⟩
  · obtain ⟨a1, a2, a3, a4⟩ := h q hq
    rw [if_neg c, if_neg c, pk_uLn c, pk_un (by omega), pk_un (by omega), pk_un (by omega), pk_un (by omega)]
    exact ⟨a1, a2, a3, a4⟩
