/-! p38: the first half of a turn -/
theorem uc_x (z : Int32) : F_X6_undoCount z = z := rfl
section
variable {pl : Nat → Int64} {N E : Nat → Nat}
theorem turn_b (h : PX pl N E) {te : Nat → Int32} {be hs : Nat → Int64} {cn x2 a1 a2 : Int32} {k t : Nat} (hk : k ≤ 6) (ht : t < 6) : ∃ v3 v4 pl' te' be' cn' hs' ho' hc', G_B pl te be cn hs (nI t) (nI k) x2 a1 a2 = some (v3, v4, pl', te', be', cn', hs', ho', hc') ∧ (∃ N E, PX pl' N E) ∧ ∃ k' t' : Nat, k' ≤ 6 ∧ t' < 6 ∧ hc' = nI k' ∧ ho' = nI t' := by
  unfold G_B
  generalize (if (3 : Int32) ≤ x2 then a1 else (a1 &&& (-16 : Int32))) = v
  obtain ⟨r3, e3⟩ := told_x h
  rcases act_x h v a2 with hA | ⟨pl', ⟨N', E', h'⟩, ho, hA⟩
  · dsimp only at hA
    refine ⟨v, a2, pl, te, be, cn, hs, nI t, nI k, ?_, ⟨N, E, h⟩, k, t, hk, ht, rfl, rfl⟩
    rw [e3, bd1_s, hA te be cn hs (nI t) (nI k), bd8_s, e3, bd1_s, if_pos rfl, if_pos rfl, if_pos rfl, if_pos rfl]
  · dsimp only at hA
    obtain ⟨r4, e4⟩ := told_x h'
    obtain ⟨hs1, t1, ht1, r1, un⟩ := rec_x pl hs hk ht
    obtain ⟨te1, be1, cn1, A1⟩ := hA te be cn hs (nI t) (nI k) _ _ _ r1
    have cu : nI (if k < 6 then k + 1 else 6) = (if (6 : Int32) ≤ nI k then (6 : Int32) else nI k + (1 : Int32)) := by
      by_cases c : k < 6
      · rw [if_pos c, if_neg (show ¬ (6 : Int32) ≤ nI k from by show ¬ nI 6 ≤ nI k; rw [nI_leI (by omega) (by omega)]; omega)]; exact (nI_1 k).symm
      · rw [if_neg c, if_pos (show (6 : Int32) ≤ nI k from by show nI 6 ≤ nI k; rw [nI_leI (by omega) (by omega)]; omega)]; rfl
    have k1 : (if k < 6 then k + 1 else 6) ≤ 6 := by split <;> omega
    rw [e3, bd1_s, A1, bd8_s, e4, bd1_s, if_neg n10, uc_x, uc_x, if_pos cu, if_neg n10]
    by_cases cvv : ((v >>> ((20 : Int32) &&& 31)) &&& (1 : Int32)) = (0 : Int32)
    · have hk0 : (if k < 6 then k else 5) ≤ 6 := by split <;> omega
      obtain ⟨hs2, t2, ht2, r2, -⟩ := rec_x pl hs1 hk0 ht1
      obtain ⟨te2, be2, cn2, A2⟩ := hA te1 be1 cn1 hs1 (nI t1) (nI (if k < 6 then k else 5)) _ _ _ r2
      have cd : nI (if k < 6 then k else 5) = nI (if k < 6 then k + 1 else 6) - (1 : Int32) := by
        by_cases c : k < 6
        · rw [if_pos c, if_pos c]; exact (nI_pred k).symm
        · rw [if_neg c, if_neg c]; rfl
      refine ⟨v, a2, pl', te2, be2, cn2, hs2, nI t2, nI (if (if k < 6 then k else 5) < 6 then (if k < 6 then k else 5) + 1 else 6), ?_, ⟨N', E', h'⟩, (if (if k < 6 then k else 5) < 6 then (if k < 6 then k else 5) + 1 else 6), t2, ?_, ht2, rfl, rfl⟩
      · rw [if_pos cvv, un pl' ho, bd4_s, if_pos rfl, if_pos cd, e3, bd1_s, if_pos rfl, A2, bd8_s, if_neg n10, e4, bd1_s, if_pos rfl]
      · have q : ∀ z : Nat, (if z < 6 then z + 1 else 6) ≤ 6 := fun z => by split <;> omega
        exact q _
    · exact ⟨v, a2, pl', te1, be1, cn1, hs1, nI t1, _, by rw [if_neg cvv], ⟨N', E', h'⟩, _, t1, k1, ht1, rfl, rfl⟩
end
