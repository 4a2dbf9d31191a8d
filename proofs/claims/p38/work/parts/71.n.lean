/-! p38: plates, records, changes -/
def PX (pl : Nat → Int64) (N E : Nat → Nat) : Prop := ∀ p, p < 6 → pl p = fz (N p) (E p) ∧ Fr (N p) (E p)
theorem ip_e {p : Nat} (hp : p < 6) : F_X6_isPlate (nI p) = 1 := (by decide +kernel : ∀ j, j < 6 → F_X6_isPlate (nI j) = 1) p hp
theorem rq_e {p : Nat} (hp : p < 6) : F_X6_requirePlate (nI p) = some 0 := rp_ok (ip_e hp)
theorem px_put {pl : Nat → Int64} {N E : Nat → Nat} {p n d : Nat} (h : PX pl N E) (hp : p < 6) (hf : Fr n d) : PX (vp_updL pl p (fz n d)) (fun i => if i = p then n else N i) (fun i => if i = p then d else E i) := by
  intro q hq
  dsimp only
  by_cases c : q = p
  · subst c
    rw [if_pos rfl, if_pos rfl, pk_uLs]
    exact ⟨rfl, hf⟩
  · obtain ⟨a1, a2⟩ := h q hq
    rw [if_neg c, if_neg c, pk_uLn c]
    exact ⟨a1, a2⟩
/-- a change that is possible: the plates behind it, the state ahead of it recorded -/
def CH (pl : Nat → Int64) (X : (Nat → Int64) → Int32 → Int32 → Option (Nat × Int32 × (Nat → Int64) × (Nat → Int64) × Int32 × Int32)) : Prop :=
  ∃ pl', (∃ N E, PX pl' N E) ∧ (∀ q, 6 ≤ q → pl' q = pl q) ∧ ∀ hs ho hc hs' ho' hc', F_X4_record pl hs ho hc = some (hs', ho', hc') → ∃ r, X hs ho hc = some (0, r, pl', hs', ho', hc')
section
variable {pl : Nat → Int64} {N E : Nat → Nat}
theorem ch_c (h : PX pl N E) {p n d : Nat} (hp : p < 6) (hf : Fr n d) {X : (Nat → Int64) → Int32 → Int32 → Option (Nat × Int32 × (Nat → Int64) × (Nat → Int64) × Int32 × Int32)}
    (hX : ∀ hs ho hc hs' ho' hc', F_X4_record pl hs ho hc = some (hs', ho', hc') → ∃ r, X hs ho hc = some (0, r, vp_updL pl p (fz n d), hs', ho', hc')) : CH pl X :=
  ⟨vp_updL pl p (fz n d), ⟨_, _, px_put h hp hf⟩, fun q hq => pk_uLn (by omega), hX⟩
theorem lowv_f {n d : Nat} (hd1 : 1 ≤ d) (hn : n ≤ 1000000) (hd : d ≤ 1000000) : ∃ n' d', Fr n' d' ∧ lowv n d = fz n' d' := by
  have c : n / Nat.gcd n d ≤ 1000000 ∧ d / Nat.gcd n d ≤ 1000000 := ⟨Nat.le_trans (Nat.div_le_self _ _) hn, Nat.le_trans (Nat.div_le_self _ _) hd⟩
  exact ⟨_, _, fr_low hd1 c, by unfold lowv; rw [if_pos c]⟩
theorem cip_e {hs hs' : Nat → Int64} {ho hc ho' hc' : Int32} {p n d : Nat} (hp : p < 6) (hf : Fr n d) (hr : F_X4_record pl hs ho hc = some (hs', ho', hc')) : F_X6_changeIfPossible pl hs ho hc (nI p) (fz n d) = some (0, nI d, vp_updL pl p (fz n d), hs', ho', hc') := by
  unfold F_X6_changeIfPossible
  rw [if_neg (fz_ne hf.2.2.1 hf.2.1), ch_e hp hf hr, bd5_s]
theorem set_x (h : PX pl N E) {p n d : Nat} (hp : p < 6) (hn : n ≤ 1000000) (h1 : 1 ≤ d) (hd : d ≤ 1000000) : CH pl (fun hs ho hc => F_X6_set pl hs ho hc (nI p) (nI n) (nI d)) := by
  obtain ⟨n', d', hf, e⟩ := lowv_f h1 hn hd
  refine ch_c h hp hf (fun hs ho hc hs' ho' hc' hr => ⟨nI d', ?_⟩)
  unfold F_X6_set
  rw [rq_e hp, bd1_s, if_pos rfl, if_neg (show ¬ nI n < (0 : Int32) from by show ¬ nI n < nI 0; rw [nI_ltI (by omega) (by omega)]; omega), if_pos (show nI n ≤ (1000000 : Int32) from by show nI n ≤ nI 1000000; rw [nI_leI (by omega) (by omega)]; omega), if_neg (show ¬ nI d < (1 : Int32) from by show ¬ nI d < nI 1; rw [nI_ltI (by omega) (by omega)]; omega), if_pos (show nI d ≤ (1000000 : Int32) from by show nI d ≤ nI 1000000; rw [nI_leI (by omega) (by omega)]; omega), nI_l (by omega), nI_l (by omega), low_v h1 (by omega) (by omega), bd1_s, e, ch_e hp hf hr, bd5_s]
theorem add_x (h : PX pl N E) {p q : Nat} (hp : p < 6) (hq : q < 6) (a1 : N p < 1000) (a2 : E p < 1000) (a3 : N q < 400) (a4 : E q < 500) : CH pl (fun hs ho hc => F_X6_add pl hs ho hc (nI p) (nI q)) := by
  obtain ⟨pa, pd⟩ := h p hp
  obtain ⟨qa, qd⟩ := h q hq
  have m1 : N p * E q ≤ 999 * 499 := Nat.mul_le_mul (by omega) (by omega)
  have m2 : N q * E p ≤ 399 * 999 := Nat.mul_le_mul (by omega) (by omega)
  have m3 : E p * E q ≤ 999 * 499 := Nat.mul_le_mul (by omega) (by omega)
  obtain ⟨n', d', hf, e⟩ := lowv_f (n := N p * E q + N q * E p) (Nat.mul_pos pd.1 qd.1) (by omega) (by omega)
  refine ch_c h hp hf (fun hs ho hc hs' ho' hc' hr => ⟨nI d', ?_⟩)
  unfold F_X6_add
  rw [rq_e hp, bd1_s, if_pos rfl, rq_e hq, bd1_s, if_pos rfl, inb hp (by omega), inb hq (by omega), cl_nI (by omega), cl_nI (by omega), pa, qa, X_sum pd qd, bd1_s, e, cip_e hp hf hr, bd6_s, if_pos rfl]
theorem mul_x (h : PX pl N E) {p q : Nat} (hp : p < 6) (hq : q < 6) (a1 : N p < 1000) (a2 : E p < 1000) (a3 : N q < 400) (a4 : E q < 500) : CH pl (fun hs ho hc => F_X6_multiply pl hs ho hc (nI p) (nI q)) := by
  obtain ⟨pa, pd⟩ := h p hp
  obtain ⟨qa, qd⟩ := h q hq
  have m1 : N p * N q ≤ 999 * 399 := Nat.mul_le_mul (by omega) (by omega)
  have m3 : E p * E q ≤ 999 * 499 := Nat.mul_le_mul (by omega) (by omega)
  obtain ⟨n', d', hf, e⟩ := lowv_f (n := N p * N q) (Nat.mul_pos pd.1 qd.1) (by omega) (by omega)
  refine ch_c h hp hf (fun hs ho hc hs' ho' hc' hr => ⟨nI d', ?_⟩)
  unfold F_X6_multiply
  rw [rq_e hp, bd1_s, if_pos rfl, rq_e hq, bd1_s, if_pos rfl, inb hp (by omega), inb hq (by omega), cl_nI (by omega), cl_nI (by omega), pa, qa, X_prod pd qd, bd1_s, e, cip_e hp hf hr, bd6_s, if_pos rfl]
theorem tak_x (h : PX pl N E) {p q : Nat} (hp : p < 6) (hq : q < 6) (a1 : N p < 1000) (a2 : E p < 1000) (a3 : N q < 400) (a4 : E q < 500) (hle : N q * E p ≤ N p * E q) : CH pl (fun hs ho hc => F_X6_takeAway pl hs ho hc (nI p) (nI q)) := by
  obtain ⟨pa, pd⟩ := h p hp
  obtain ⟨qa, qd⟩ := h q hq
  have m1 : N p * E q ≤ 999 * 499 := Nat.mul_le_mul (by omega) (by omega)
  have m3 : E p * E q ≤ 999 * 499 := Nat.mul_le_mul (by omega) (by omega)
  obtain ⟨n', d', hf, e⟩ := lowv_f (n := N p * E q - N q * E p) (Nat.mul_pos pd.1 qd.1) (by omega) (by omega)
  refine ch_c h hp hf (fun hs ho hc hs' ho' hc' hr => ⟨nI d', ?_⟩)
  unfold F_X6_takeAway
  rw [rq_e hp, bd1_s, if_pos rfl, rq_e hq, bd1_s, if_pos rfl, inb hp (by omega), inb hq (by omega), cl_nI (by omega), cl_nI (by omega), pa, qa, X_diff pd qd, if_neg (show ¬ N p * E q < N q * E p by omega), bd1_s, e, cip_e hp hf hr, bd6_s, if_pos rfl]
theorem cpy_x (h : PX pl N E) {p q : Nat} (hp : p < 6) (hq : q < 6) : CH pl (fun hs ho hc => F_X6_copyTo pl hs ho hc (nI p) (nI q)) := by
  obtain ⟨pa, pd⟩ := h p hp
  refine ch_c h hq pd (fun hs ho hc hs' ho' hc' hr => ⟨if pl q = fz (N p) (E p) then (1 : Int32) else (0 : Int32), ?_⟩)
  unfold F_X6_copyTo
  rw [rq_e hp, bd1_s, if_pos rfl, rq_e hq, bd1_s, if_pos rfl, inb hq (by omega), inb hp (by omega), cl_nI (by omega), cl_nI (by omega), pa, ch_e hq pd hr, bd5_s]
theorem rnz_x (h : PX pl N E) {p : Nat} (hp : p < 6) : F_X6_requireNotZero pl (nI p) = some (if N p = 0 then 3 else 0) := by
  obtain ⟨pa, pd⟩ := h p hp
  unfold F_X6_requireNotZero
  rw [rq_e hp, bd1_s, if_pos rfl, inb hp (by omega), cl_nI (by omega), pa]
  by_cases c : N p = 0
  · rw [if_pos ((fz1 pd).mpr c), if_pos c]
  · rw [if_neg (fun q => c ((fz1 pd).mp q)), if_neg c]
theorem inv_x (h : PX pl N E) {p : Nat} (hp : p < 6) (hn : ¬ N p = 0) : CH pl (fun hs ho hc => F_X6_invert pl hs ho hc (nI p)) := by
  obtain ⟨pa, pd⟩ := h p hp
  obtain ⟨q1, q2, q3, q4⟩ := id pd
  obtain ⟨n', d', hf, e⟩ := lowv_f (n := E p) (d := N p) (by omega) q2 q3
  refine ch_c h hp hf (fun hs ho hc hs' ho' hc' hr => ⟨nI d', ?_⟩)
  unfold F_X6_invert
  rw [rnz_x h hp, if_neg hn, bd1_s, if_pos rfl, inb hp (by omega), cl_nI (by omega), pa, den_fz (by omega) q1 (by omega), num_fz (by omega) (by omega), low_v (by omega) (by omega) (by omega), bd1_s, e, ch_e hp hf hr, bd5_s]
theorem sha_x (h : PX pl N E) {p g : Nat} (hp : p < 6) (he : E p ≤ 10000) (h1 : 1 ≤ g) (hg : g ≤ 100) : CH pl (fun hs ho hc => F_X6_share pl hs ho hc (nI p) (nI g)) := by
  obtain ⟨pa, pd⟩ := h p hp
  obtain ⟨q1, q2, q3, q4⟩ := id pd
  have m1 : E p * g ≤ 10000 * 100 := Nat.mul_le_mul he hg
  obtain ⟨n', d', hf, e⟩ := lowv_f (n := N p) (d := E p * g) (Nat.mul_pos q1 h1) q3 (by omega)
  refine ch_c h hp hf (fun hs ho hc hs' ho' hc' hr => ⟨nI d', ?_⟩)
  unfold F_X6_share
  rw [rq_e hp, bd1_s, if_pos rfl, if_neg (show ¬ nI g < (1 : Int32) from by show ¬ nI g < nI 1; rw [nI_ltI (by omega) (by omega)]; omega), if_pos (show nI g ≤ (100 : Int32) from by show nI g ≤ nI 100; rw [nI_leI (by omega) (by omega)]; omega), inb hp (by omega), cl_nI (by omega), pa, den_fz (by omega) q1 (by omega), num_fz (by omega) (by omega), nI_l (by omega), lN_mul, low_v (Nat.mul_pos q1 h1) (by omega) (by omega), bd1_s, e, cip_e hp hf hr, bd6_s, if_pos rfl]
/-- a record, and what undo brings back -/
theorem rec_x (pl hs : Nat → Int64) {k t : Nat} (hk : k ≤ 6) (ht : t < 6) : ∃ hs' t', t' < 6 ∧ F_X4_record pl hs (nI t) (nI k) = some (hs', nI t', nI (if k < 6 then k + 1 else 6)) ∧ ∀ pl', (∀ q, 6 ≤ q → pl' q = pl q) → F_X6_undo pl' hs' (nI t') (nI (if k < 6 then k + 1 else 6)) = some (0, nI (if k < 6 then k else 5), pl, nI (if k < 6 then k else 5)) := by
  have hlt : (t + k) % 6 < 6 := Nat.mod_lt _ (by omega)
  have c0 : (0 : Int32).toNatClampNeg = 0 := rfl
  have c6 : (6 : Int32).toNatClampNeg = 6 := rfl
  have g1 : ∀ t k : Nat, t < 6 → k ≤ 6 → ¬ ((F_X4_startBehindOldest (nI t) (nI k)) < 0 ∨ 36 < (F_X4_startBehindOldest (nI t) (nI k)).toNatClampNeg + 6) := by
    intro t k ht hk
    have hlt : (t + k) % 6 < 6 := Nat.mod_lt _ (by omega)
    rw [start_e ht hk, cl_nI (by omega)]
    intro q
    rcases q with q | q
    · exact nI_pos (by omega) q
    · omega
  have back : ∀ (t' k' : Nat) (f : Nat → Int64) (pl' : Nat → Int64), t' < 6 → k' ≤ 5 → (∀ q, 6 ≤ q → pl' q = pl q) → (∀ p, p < 6 → f ((t' + k') % 6 * 6 + p) = pl p) → F_X6_undo pl' f (nI t') (nI (k' + 1)) = some (0, nI k', pl, nI k') := by
    intro t' k' f pl' ht' hk' ho hf
    unfold F_X6_undo F_X4_restore F_X4_count
    rw [if_neg (show ¬ nI (k' + 1) = (0 : Int32) from by show ¬ nI (k' + 1) = nI 0; rw [nI_eq (by omega) (by omega)]; omega), show nI (k' + 1) - (1 : Int32) = nI k' from nI_pred k', if_neg (g1 t' k' ht' (by omega)), bd2_s, start_e ht' (by omega)]
    have e : va_cpy f pl' (nI ((t' + k') % 6 * 6)).toNatClampNeg (0 : Int32).toNatClampNeg (6 : Int32).toNatClampNeg = pl := by
      funext q
      have hm : (t' + k') % 6 < 6 := Nat.mod_lt _ (by omega)
      rw [cl_nI (by omega), c0, c6]
      by_cases c : q < 6
      · rw [pk_cpy_in (by omega) (by omega), ← hf q c]; exact congrArg f (by omega)
      · rw [pk_cpy_out (by omega)]; exact ho q (by omega)
    rw [e]
  unfold F_X4_record
  rw [if_neg (g1 t k ht hk), start_e ht hk, cl_nI (by omega), c0, c6]
  by_cases h6 : k = 6
  · subst h6
    rw [if_pos (show (6 : Int32) ≤ nI 6 from by show nI 6 ≤ nI 6; rw [nI_leI (by omega) (by omega)]; omega), if_neg (by omega), if_neg (by omega)]
    refine ⟨va_cpy pl hs 0 ((t + 6) % 6 * 6) 6, (t + 1) % 6, Nat.mod_lt _ (by omega), ?_, fun pl' ho => ?_⟩
    · rw [show nI t + (1 : Int32) = nI (t + 1) from nI_1 t, show (6 : Int32) = nI 6 from rfl, pk_rem (by omega) (by omega) (by omega)]
    · refine back ((t + 1) % 6) 5 _ pl' (Nat.mod_lt _ (by omega)) (by omega) ho (fun p hp => ?_)
      rw [pk_cpy_in (by omega) (by omega)]; exact congrArg pl (by omega)
  · rw [if_neg (show ¬ (6 : Int32) ≤ nI k from by show ¬ nI 6 ≤ nI k; rw [nI_leI (by omega) (by omega)]; omega), if_pos (by omega), if_pos (by omega)]
    refine ⟨va_cpy pl hs 0 ((t + k) % 6 * 6) 6, t, ht, ?_, fun pl' ho => ?_⟩
    · rw [show nI k + (1 : Int32) = nI (k + 1) from nI_1 k]
    · refine back t k _ pl' ht (by omega) ho (fun p hp => ?_)
      rw [pk_cpy_in (by omega) (by omega)]; exact congrArg pl (by omega)
end
