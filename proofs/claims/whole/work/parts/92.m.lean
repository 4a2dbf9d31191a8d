/-! the first state -/
theorem ini6 : ∀ (m x f : Nat) (g : Nat → Int64), x + m = 6 → m < f → ∃ pl, L_X6_init f (nI x) g = some pl ∧ ∀ p, pl p = if x ≤ p ∧ p < 6 then fz 0 1 else g p := by
  intro m
  induction m with
  | zero =>
    intro x f g hx hf
    obtain ⟨f, rfl⟩ : ∃ k, f = k + 1 := ⟨f - 1, by omega⟩
    have e : x = 6 := by omega
    subst e
    exact ⟨g, by rw [L_X6_init_s, if_pos (show (6 : Int32) ≤ nI 6 from by show nI 6 ≤ nI 6; rw [nI_leI (by omega) (by omega)]; omega)], fun p => by rw [if_neg (by omega)]⟩
  | succ m ih =>
    intro x f g hx hf
    obtain ⟨f, rfl⟩ : ∃ k, f = k + 1 := ⟨f - 1, by omega⟩
    obtain ⟨pl, h1, h2⟩ := ih (x + 1) f (vp_updL g x (1 : Int64)) (by omega) (by omega)
    refine ⟨pl, ?_, fun p => ?_⟩
    · rw [L_X6_init_s, if_neg (show ¬ (6 : Int32) ≤ nI x from by show ¬ nI 6 ≤ nI x; rw [nI_leI (by omega) (by omega)]; omega), inb (by omega) (by omega), cl_nI (by omega), show nI x + (1 : Int32) = nI (x + 1) from nI_1 x]
      exact h1
    · rw [h2 p]
      by_cases c : p = x
      · subst c; rw [if_neg (by omega), pk_uLs, if_pos (by omega)]; rfl
      · rw [pk_uLn c]
        by_cases c2 : x + 1 ≤ p ∧ p < 6
        · rw [if_pos c2, if_pos (by omega)]
        · rw [if_neg c2, if_neg (by omega)]
