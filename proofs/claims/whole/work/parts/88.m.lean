/-! the reader of commands against the model's reading -/
abbrev St : Type := Int32 × Int32 × Int32 × Int32 × Int32 × Int32
def acc (s : St) (c : Int32) : Option (Int32 × St) := F_X0_accept s.1 s.2.1 s.2.2.1 s.2.2.2.1 s.2.2.2.2.1 s.2.2.2.2.2 c
/-- k accepted signs from place i, none of them ; -/
def Run (t : Nat → Nat) : Nat → Nat → St → St → Prop
  | 0, _, s, s' => s = s'
  | k + 1, i, s, s' => ∃ s1, acc s (nI (t i)) = some (1, s1) ∧ t i ≠ 59 ∧ Run t k (i + 1) s1 s'
theorem run_a {t : Nat → Nat} : ∀ (k m i : Nat) (s s1 s2 : St), Run t k i s s1 → Run t m (i + k) s1 s2 → Run t (k + m) i s s2 := by
  intro k
  induction k with
  | zero =>
    intro m i s s1 s2 h h2
    have e : s = s1 := h
    subst e
    rw [Nat.zero_add]
    exact h2
  | succ k ih =>
    intro m i s s1 s2 h h2
    obtain ⟨u, u1, u2, u3⟩ := h
    rw [show k + 1 + m = (k + m) + 1 from by omega]
    refine ⟨u, u1, u2, ih m (i + 1) u s1 s2 u3 ?_⟩
    rw [show i + 1 + k = i + (k + 1) from by omega]
    exact h2
theorem run_1 {t : Nat → Nat} {i : Nat} {s s' : St} (h : acc s (nI (t i)) = some (1, s')) (h2 : t i ≠ 59) : Run t 1 i s s' := ⟨s', h, h2, rfl⟩
def TXT (ch mtx : Nat → Int32) (n : Nat) (t : Nat → Nat) : Prop := n ≤ 80 ∧ ∀ i, i < n → 33 ≤ t i ∧ t i ≤ 126 ∧ ch i = nI (t i) ∧ mtx i = nI (t i)
theorem tx_of {ch mtx : Nat → Int32} {le mle : Int32} (h : TR ch le mtx mle) : ∃ n t, TXT ch mtx n t ∧ le = nI n ∧ mle = nI n := by
  obtain ⟨n, n1, n2, n3, n4⟩ := h
  have h1 : ∀ i : Nat, ∃ c : Nat, i < n → 33 ≤ c ∧ c ≤ 126 ∧ ch i = nI c ∧ mtx i = nI c := by
    intro i
    by_cases hi : i < n
    · obtain ⟨c, hc⟩ := n4 i hi
      exact ⟨c, fun _ => hc⟩
    · exact ⟨0, fun h => absurd h hi⟩
  obtain ⟨t, ht⟩ := Classical.axiomOfChoice h1
  exact ⟨n, t, ⟨n1, ht⟩, n2, n3⟩
section
variable {ch mtx : Nat → Int32} {n : Nat} {t : Nat → Nat}
theorem chr_e (h : TXT ch mtx n t) {i : Nat} (hi : i < n) : F_X1_character ch (nI i) = some (nI (t i)) := by
  obtain ⟨h1, h2⟩ := h
  obtain ⟨a, b, c, d⟩ := h2 i hi
  have e : vp_nar .char (nI (t i)) = nI (t i) := Value.int.inj (pk_charN (by omega)).1
  unfold F_X1_character
  rw [inb (by omega) (by omega), cl_nI (by omega), c, if_neg (fun z => z e)]
theorem te_run (h : TXT ch mtx n t) : ∀ (k i f : Nat) (s s' : St), Run t k i s s' → i + k ≤ n → L_X6_textError_9 (f + k) (nI i) ch (nI n) s.1 s.2.1 s.2.2.1 s.2.2.2.1 s.2.2.2.2.1 s.2.2.2.2.2 = L_X6_textError_9 f (nI (i + k)) ch (nI n) s'.1 s'.2.1 s'.2.2.1 s'.2.2.2.1 s'.2.2.2.2.1 s'.2.2.2.2.2 := by
  intro k
  induction k with
  | zero =>
    intro i f s s' hr hi
    have e : s = s' := hr
    subst e
    rfl
  | succ k ih =>
    intro i f s s' hr hi
    obtain ⟨s1, a1, a2, a3⟩ := hr
    have h80 := h.1
    have a1' : F_X0_accept s.1 s.2.1 s.2.2.1 s.2.2.2.1 s.2.2.2.2.1 s.2.2.2.2.2 (nI (t i)) = some (1, s1) := a1
    rw [show f + (k + 1) = (f + k) + 1 from rfl, L_X6_textError_9_s, if_neg (show ¬ F_X1_length (nI n) ≤ nI i by unfold F_X1_length; rw [nI_leI (by omega) (by omega)]; omega), chr_e h (by omega), bd1_s, a1', bd7_s, if_neg n10, show nI i + (1 : Int32) = nI (i + 1) from nI_1 i, show i + (k + 1) = i + 1 + k from by omega]
    exact ih (i + 1) f s1 s' a3 (by omega)
theorem ex_run (h : TXT ch mtx n t) {pl : Nat → Int64} : ∀ (k i f : Nat) (x3 : Int32) (s s' : St), Run t k i s s' → i + k ≤ n → L_X6_executeCommands_11 (f + k) x3 (nI i) pl ch (nI n) s.1 s.2.1 s.2.2.1 s.2.2.2.1 s.2.2.2.2.1 s.2.2.2.2.2 = L_X6_executeCommands_11 f x3 (nI (i + k)) pl ch (nI n) s'.1 s'.2.1 s'.2.2.1 s'.2.2.2.1 s'.2.2.2.2.1 s'.2.2.2.2.2 := by
  intro k
  induction k with
  | zero =>
    intro i f x3 s s' hr hi
    have e : s = s' := hr
    subst e
    rfl
  | succ k ih =>
    intro i f x3 s s' hr hi
    obtain ⟨s1, a1, a2, a3⟩ := hr
    have h80 := h.1
    obtain ⟨b1, b2, b3, b4⟩ := h.2 i (by omega)
    have a1' : F_X0_accept s.1 s.2.1 s.2.2.1 s.2.2.2.1 s.2.2.2.2.1 s.2.2.2.2.2 (nI (t i)) = some (1, s1) := a1
    rw [show f + (k + 1) = (f + k) + 1 from rfl, L_X6_executeCommands_11_s, if_neg (show ¬ F_X1_length (nI n) ≤ nI i by unfold F_X1_length; rw [nI_leI (by omega) (by omega)]; omega), chr_e h (by omega), bd1_s, if_neg (show ¬ nI (t i) = (59 : Int32) from by show ¬ nI (t i) = nI 59; rw [nI_eq (by omega) (by omega)]; exact a2), bd1_s, a1', bd7_s, show nI i + (1 : Int32) = nI (i + 1) from nI_1 i, show i + (k + 1) = i + 1 + k from by omega]
    exact ih (i + 1) f x3 s1 s' a3 (by omega)
/-- the sign at a place -/
def sg (t : Nat → Nat) (n i : Nat) : Nat := if i < n then t i else 0
theorem sg_e (h : TXT ch mtx n t) (i : Nat) (hi : i ≤ n) : F_X7_sign mtx (nI n) (nI i) = some (nI (sg t n i)) := by
  have h80 := h.1
  unfold F_X7_sign sg
  by_cases c : i < n
  · rw [if_neg (show ¬ nI n ≤ nI i by rw [nI_leI (by omega) (by omega)]; omega), inb (by omega) (by omega), cl_nI (by omega), (h.2 i c).2.2.2, if_pos c]
  · rw [if_pos (show nI n ≤ nI i by rw [nI_leI (by omega) (by omega)]; omega), if_neg c]
    rfl
theorem sg_b (h : TXT ch mtx n t) (i : Nat) : sg t n i ≤ 126 ∧ (0 < sg t n i → i < n ∧ sg t n i = t i) := by
  unfold sg
  by_cases c : i < n
  · rw [if_pos c]; exact ⟨(h.2 i c).2.1, fun _ => ⟨c, rfl⟩⟩
  · rw [if_neg c]; exact ⟨by omega, fun h => by omega⟩
theorem in_n {x lo hi : Nat} (hx : x < 2 ^ 31) (h1 : lo < 2 ^ 31) (h2 : hi < 2 ^ 31) : F_X7_in (nI x) (nI lo) (nI hi) = if lo ≤ x ∧ x ≤ hi then 1 else 0 := by
  unfold F_X7_in
  by_cases c1 : x < lo
  · rw [if_pos ((nI_ltI hx h1).mpr c1), if_neg (by omega)]
  · rw [if_neg (fun z => c1 ((nI_ltI hx h1).mp z))]
    by_cases c2 : hi < x
    · rw [if_pos ((nI_ltI h2 hx).mpr c2), if_neg (by omega)]
    · rw [if_neg (fun z => c2 ((nI_ltI h2 hx).mp z)), if_pos (by omega)]
theorem tk_1 (h : TXT ch mtx n t) {i lo hi : Nat} (hi2 : i ≤ n) (h1 : 1 ≤ lo) (h2 : hi < 200) (h3 : lo < 200) : F_X7_takes mtx (nI n) (nI i) 1 (nI lo) (nI hi) = if lo ≤ sg t n i ∧ sg t n i ≤ hi then some (nI (sg t n i) - 48, nI (i + 1), 1) else some (nI (sg t n i) - 48, nI i, 0) := by
  have sb := (sg_b h i).1
  unfold F_X7_takes
  rw [if_neg n10, sg_e h i hi2, bd1_s, in_n (by omega) (by omega) (by omega)]
  by_cases c : lo ≤ sg t n i ∧ sg t n i ≤ hi
  · rw [if_pos c, if_neg n10, bd1_s, if_neg (by decide), bd1_s, if_neg n10, if_pos c, show nI i + (1 : Int32) = nI (i + 1) from nI_1 i]
  · rw [if_neg c, if_pos rfl, bd1_s, if_neg (by decide), bd1_s, if_pos rfl, if_neg c, Int32.add_zero]
theorem tk_0 (h : TXT ch mtx n t) {i : Nat} {a b : Int32} (hi2 : i ≤ n) : F_X7_takes mtx (nI n) (nI i) 0 a b = some (nI (sg t n i) - 48, nI i, 0) := by
  unfold F_X7_takes
  rw [if_pos rfl, bd1_s, if_neg (by decide), sg_e h i hi2, bd1_s, if_pos rfl, Int32.add_zero]
/-- whether a digit can follow -/
def fol (k x c : Nat) : Prop := 48 ≤ c ∧ c ≤ 57 ∧ k < 4 ∧ ¬ (0 < k ∧ x = 0)
theorem dig_e {c : Nat} (hc : c ≤ 126) : F_X0_isDigit (nI c) = if 48 ≤ c ∧ c ≤ 57 then 1 else 0 := by
  unfold F_X0_isDigit
  by_cases c1 : c < 48
  · rw [if_pos (show nI c < (48 : Int32) from by show nI c < nI 48; rw [nI_ltI (by omega) (by omega)]; omega), if_neg (by omega)]
  · rw [if_neg (show ¬ nI c < (48 : Int32) from by show ¬ nI c < nI 48; rw [nI_ltI (by omega) (by omega)]; omega)]
    by_cases c2 : 57 < c
    · rw [if_pos (show (57 : Int32) < nI c from by show nI 57 < nI c; rw [nI_ltI (by omega) (by omega)]; omega), if_neg (by omega)]
    · rw [if_neg (show ¬ (57 : Int32) < nI c from by show ¬ nI 57 < nI c; rw [nI_ltI (by omega) (by omega)]; omega), if_pos (by omega)]
theorem fol_e {k x c : Nat} (hk : k < 100) (hx : x < 100000) (hc : c ≤ 126) : (fol k x c → F_X0_canFollow (nI k) (nI x) (nI c) = 1) ∧ (¬ fol k x c → F_X0_canFollow (nI k) (nI x) (nI c) = 0) := by
  unfold F_X0_canFollow fol
  rw [dig_e hc]
  by_cases c1 : 48 ≤ c ∧ c ≤ 57
  · rw [if_pos c1, if_neg n10]
    by_cases c2 : 4 ≤ k
    · rw [if_pos (show (4 : Int32) ≤ nI k from by show nI 4 ≤ nI k; rw [nI_leI (by omega) (by omega)]; omega)]
      exact ⟨fun h => by omega, fun _ => rfl⟩
    · rw [if_neg (show ¬ (4 : Int32) ≤ nI k from by show ¬ nI 4 ≤ nI k; rw [nI_leI (by omega) (by omega)]; omega)]
      by_cases c3 : k = 0
      · subst c3
        rw [if_pos (show nI 0 ≤ (0 : Int32) by decide), if_pos rfl]
        exact ⟨fun _ => rfl, fun h => by omega⟩
      · rw [if_neg (show ¬ nI k ≤ (0 : Int32) from by show ¬ nI k ≤ nI 0; rw [nI_leI (by omega) (by omega)]; omega)]
        by_cases c4 : x = 0
        · subst c4
          rw [if_pos (show nI 0 = (0 : Int32) from rfl), if_neg n10]
          exact ⟨fun h => by omega, fun _ => rfl⟩
        · rw [if_neg (show ¬ nI x = (0 : Int32) from by show ¬ nI x = nI 0; rw [nI_eq (by omega) (by omega)]; omega), if_pos rfl]
          exact ⟨fun _ => rfl, fun h => by omega⟩
  · rw [if_neg c1, if_pos rfl]
    exact ⟨fun h => by omega, fun _ => rfl⟩
theorem acc3 {L P F S D c : Int32} : acc (3, L, P, F, S, D) c = bd4 (F_X0_acceptFirstNumber 3 F D c) (fun r e f d => if ¬ (r = 0 ∨ r = 1) then none else some (r, e, L, P, f, S, d)) := rfl
theorem acc4 {L P F S D c : Int32} : acc (4, L, P, F, S, D) c = bd4 (F_X0_acceptSecondNumber 4 S D c) (fun r e f d => if ¬ (r = 0 ∨ r = 1) then none else some (r, e, L, P, F, f, d)) := rfl
theorem add_d {x c : Nat} (hc : 48 ≤ c) : nI x * (10 : Int32) + (nI c - (48 : Int32)) = nI (x * 10 + (c - 48)) := by
  rw [show (10 : Int32) = nI 10 from rfl, show (48 : Int32) = nI 48 from rfl, pk_mul, pk_sub hc, nI_add]
/-- one digit more, on both sides of a set -/
theorem dig3 {L P S : Int32} {i k x : Nat} (hk : k < 100) (hx : x < 100000) (hc : t i ≤ 126) (hf : fol k x (t i)) : Run t 1 i (3, L, P, nI x, S, nI k) (3, L, P, nI (x * 10 + (t i - 48)), S, nI (k + 1)) := by
  apply run_1
  · rw [acc3]
    unfold F_X0_acceptFirstNumber
    rw [(fol_e hk hx hc).1 hf, if_neg n10, bd4_s, if_neg (by decide), add_d hf.1, show nI k + (1 : Int32) = nI (k + 1) from nI_1 k]
  · have := hf.2.1; omega
theorem dig4 {L P F : Int32} {i k x : Nat} (hk : k < 100) (hx : x < 100000) (hc : t i ≤ 126) (hf : fol k x (t i)) : Run t 1 i (4, L, P, F, nI x, nI k) (4, L, P, F, nI (x * 10 + (t i - 48)), nI (k + 1)) := by
  apply run_1
  · rw [acc4]
    unfold F_X0_acceptSecondNumber
    rw [(fol_e hk hx hc).1 hf, if_neg n10, bd4_s, if_neg (by decide), add_d hf.1, show nI k + (1 : Int32) = nI (k + 1) from nI_1 k]
  · have := hf.2.1; omega
end
