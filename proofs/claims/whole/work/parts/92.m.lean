/-! the first state -/
theorem ini6 : ∀ (m x f : Nat) (g : Nat → Int64), x + m = 6 → m < f → ∃ pl, L_X6_init f (nI x) g = some pl ∧ ∀ p, pl p = if x ≤ p ∧ p < 6 then fz 0 1 else g p := by
  intro m
  induction m with
  | zero =>
    intro x f g hx hf
    obtain ⟨f, rfl⟩ : ∃ k, f = k + 1 := ⟨f - 1, by omega⟩
    have e : x = 6 := by omega
    subst e
    exact ⟨g, by rw [L_X6_init_s, if_pos (show (6 : Int32) ≤ nI 6 from by show nI 6 ≤ nI 6; rw [nI_leI (by omega) (by omega)]; omega)], fun p => by rw [if_neg (by omega)]⟩
  | succ m ih =>
    intro x f g hx hf
    obtain ⟨f, rfl⟩ : ∃ k, f = k + 1 := ⟨f - 1, by omega⟩
    obtain ⟨pl, h1, h2⟩ := ih (x + 1) f (vp_updL g x (1 : Int64)) (by omega) (by omega)
    refine ⟨pl, ?_, fun p => ?_⟩
    · rw [L_X6_init_s, if_neg (show ¬ (6 : Int32) ≤ nI x from by show ¬ nI 6 ≤ nI x; rw [nI_leI (by omega) (by omega)]; omega), inb (by omega) (by omega), cl_nI (by omega), show nI x + (1 : Int32) = nI (x + 1) from nI_1 x]
      exact h1
    · rw [h2 p]
      by_cases c : p = x
      · subst c; rw [if_neg (by omega), pk_uLs, if_pos (by omega)]; rfl
      · rw [pk_uLn c]
        by_cases c2 : x + 1 ≤ p ∧ p < 6
        · rw [if_pos c2, if_pos (by omega)]
        · rw [if_neg c2, if_neg (by omega)]
theorem ini7 : ∀ (m x f : Nat) (g : Nat → Int32), x + m = 6 → m < f → ∃ ms, L_X7_init f (nI x) g = some ms ∧ (∀ p, x ≤ p → p < 6 → ms (2 * p + 1) = 1) ∧ (∀ p, ms (2 * p) = g (2 * p)) ∧ ∀ p, p < x → ms (2 * p + 1) = g (2 * p + 1) := by
  intro m
  induction m with
  | zero =>
    intro x f g hx hf
    obtain ⟨f, rfl⟩ : ∃ k, f = k + 1 := ⟨f - 1, by omega⟩
    have e : x = 6 := by omega
    subst e
    exact ⟨g, by rw [L_X7_init_s, if_pos (show (6 : Int32) ≤ nI 6 from by show nI 6 ≤ nI 6; rw [nI_leI (by omega) (by omega)]; omega)], fun p h1 h2 => by omega, fun p => rfl, fun p _ => rfl⟩
  | succ m ih =>
    intro x f g hx hf
    obtain ⟨f, rfl⟩ : ∃ k, f = k + 1 := ⟨f - 1, by omega⟩
    obtain ⟨ms, h1, h2, h3, h4⟩ := ih (x + 1) f (upd g (2 * x + 1) (1 : Int32)) (by omega) (by omega)
    refine ⟨ms, ?_, fun p p1 p2 => ?_, fun p => ?_, fun p hp => ?_⟩
    · rw [L_X7_init_s, if_neg (show ¬ (6 : Int32) ≤ nI x from by show ¬ nI 6 ≤ nI x; rw [nI_leI (by omega) (by omega)]; omega), e2p1, inb (by omega) (by omega), cl_nI (by omega), show nI x + (1 : Int32) = nI (x + 1) from nI_1 x]
      exact h1
    · by_cases c : p = x
      · subst c; rw [h4 p (by omega), pk_us]
      · exact h2 p (by omega) p2
    · rw [h3 p, pk_un (by omega)]
    · rw [h4 p (by omega), pk_un (by omega)]
theorem rel_0 : ∃ pl ms, L_X6_init FU (0 : Int32) (fun _ => 0) = some pl ∧ L_X7_init FU (0 : Int32) (fun _ => 0) = some ms ∧ REL pl (fun _ => 0) 0 (fun _ => 0) 0 0 (fun _ => 0) (fun _ => 0) ms (fun _ => 0) 0 (fun _ => 0) (fun _ => 0) (fun _ => 0) 0 := by
  obtain ⟨pl, a1, a2⟩ := ini6 6 0 FU (fun _ => 0) (by omega) (by rw [FU_eq]; omega)
  obtain ⟨ms, b1, b2, b3, -⟩ := ini7 6 0 FU (fun _ => 0) (by omega) (by rw [FU_eq]; omega)
  refine ⟨pl, ms, a1, b1, ⟨fun _ => 0, fun _ => 1, fun p hp => ⟨?_, ?_, ?_, Nat.le_refl 1, (by decide : 1 ≤ 1000000), (by decide : 0 ≤ 1000000), Nat.gcd_one_right 0⟩⟩, ⟨0, 0, by omega, by omega, rfl, rfl, rfl, fun j hj => by omega⟩, ⟨0, by omega, rfl, rfl, fun i hi => by omega⟩, fun q hq => Or.inl ⟨rfl, rfl⟩⟩
  · rw [a2, if_pos ⟨Nat.zero_le _, hp⟩]
  · rw [b3]; rfl
  · rw [b2 p (Nat.zero_le _) hp]; rfl
