/-! one command, both readers -/
section
variable {ch mtx : Nat → Int32} {n : Nat} {t : Nat → Nat}
theorem cmd_e (h : TXT ch mtx n t) {i m : Nat} (hi : i ≤ n) (hm : m ≤ 20) (mwl : Int32) (mrd : Nat → Int32) : CMDOK t n i m mrd (F_X7_readsCommand mtx (nI n) (nI i) mwl mrd (nI m)) ∨ CMDNO t n i m (F_X7_readsCommand mtx (nI n) (nI i) mwl mrd (nI m)) := by
  have sb := sg_b h i
  have z0 : ∀ x : Int32, nI m + (if (0 : Int32) = 0 then (0 : Int32) else (1 : Int32)) = nI m := fun _ => by rw [if_pos rfl, Int32.add_zero]
  have z1 : nI m + (if (1 : Int32) = 0 then (0 : Int32) else (1 : Int32)) = nI (m + 1) := by rw [if_neg n10]; exact nI_1 m
  by_cases c0 : LT5 (sg t n i)
  · obtain ⟨gi, gs⟩ := sb.2 (by unfold LT5 at c0; omega)
    have hl := rc_e (mwl := mwl) (mrd := mrd) (ok := 1) h hi hm (by omega) (by rw [let_y c0]; rfl)
    have sb1 := sg_b h (i + 1)
    rw [gs] at c0 hl
    have n59 : t i ≠ 59 := by unfold LT5 at c0; omega
    have t126 : ∀ j, j < n → t j ≤ 126 := fun j hj => (h.2 j hj).2.1
    have R1 : ∀ L0 P0 F0 S0 D0 : Int32, Run t 1 i (0, L0, P0, F0, S0, D0) (1, nI (t i), P0, 0, 0, 0) := fun L0 P0 F0 S0 D0 => run_1 (acc0y c0) n59
    rw [hl, show nI 1 = (1 : Int32) from rfl, show (48 : Int32) = nI 48 from rfl, show (57 : Int32) = nI 57 from rfl, tk_1 h (by omega) (by omega) (by omega) (by omega)]
    by_cases c1 : 48 ≤ sg t n (i + 1) ∧ sg t n (i + 1) ≤ 57
    · obtain ⟨g1, g1s⟩ := sb1.2 (by omega)
      rw [g1s] at c1
      have R2 : ∀ L0 P0 F0 S0 D0 : Int32, Run t 2 i (0, L0, P0, F0, S0, D0) (2, nI (t i), nI (t (i + 1) - 48), 0, 0, 0) := fun L0 P0 F0 S0 D0 => run_a 1 1 i _ _ _ (R1 L0 P0 F0 S0 D0) (run_1 (by rw [acc1 (by omega), if_pos c1]) (by omega))
      have sb2 := sg_b h (i + 1 + 1)
      rw [g1s, if_pos c1, bd3_s, show (48 : Int32) = nI 48 from rfl, pk_sub c1.1]
      by_cases cs : t i = 115
      · -- set
        unfold rest
        rw [if_pos (show nI (t i) = (115 : Int32) by rw [cs]; rfl), show (61 : Int32) = nI 61 from rfl, tk_1 h (by omega) (by omega) (by omega) (by omega)]
        by_cases c2 : 61 ≤ sg t n (i + 1 + 1) ∧ sg t n (i + 1 + 1) ≤ 61
        · obtain ⟨g2, g2s⟩ := sb2.2 (by omega)
          rw [if_pos c2, bd3_s]
          have R3 : ∀ L0 P0 F0 S0 D0 : Int32, Run t 3 i (0, L0, P0, F0, S0, D0) (3, 115, nI (t (i + 1) - 48), 0, 0, 0) := fun L0 P0 F0 S0 D0 => run_a 2 1 i _ _ _ (by have := R2 L0 P0 F0 S0 D0; rw [cs] at this; exact this) (run_1 (by
            rw [show nI 115 = (115 : Int32) from rfl, acc2s (by have := t126 (i + 2) g2; omega), if_pos (show t (i + 2) = 61 by rw [g2s] at c2; exact Nat.le_antisymm c2.2 c2.1)]) (by have e : t (i + 1 + 1) = t (i + 2) := rfl; omega))
          rcases num_e h (i := i + 1 + 1 + 1) (by omega) with ⟨x, q, q1, q2, x1, e1, e2, e3, e4, -⟩ | ⟨e1, v, e2⟩
          · rw [e1, bd3_s, show (47 : Int32) = nI 47 from rfl, tk_1 h (by omega) (by omega) (by omega) (by omega)]
            have R4 : ∀ L0 P0 F0 S0 D0 : Int32, Run t (3 + q) i (0, L0, P0, F0, S0, D0) (3, 115, nI (t (i + 1) - 48), nI x, 0, nI q) := fun L0 P0 F0 S0 D0 => run_a 3 q i _ _ _ (R3 L0 P0 F0 S0 D0) (e4 _ _ _)
            have sb3 := sg_b h (i + 1 + 1 + 1 + q)
            by_cases c3 : 47 ≤ sg t n (i + 1 + 1 + 1 + q) ∧ sg t n (i + 1 + 1 + 1 + q) ≤ 47
            · obtain ⟨g3, g3s⟩ := sb3.2 (by omega)
              rw [if_pos c3, bd3_s]
              rw [g3s] at c3 e3
              have R5 : ∀ L0 P0 F0 S0 D0 : Int32, Run t (3 + q + 1) i (0, L0, P0, F0, S0, D0) (4, 115, nI (t (i + 1) - 48), nI x, 0, 0) := fun L0 P0 F0 S0 D0 => run_a (3 + q) 1 i _ _ _ (R4 L0 P0 F0 S0 D0) (by
                have ei : i + (3 + q) = i + 1 + 1 + 1 + q := by omega
                rw [ei]
                exact run_1 (by rw [acc3n (by omega) (by omega) (by omega) e3, if_pos (by omega)]) (by omega))
              rcases num_e h (i := i + 1 + 1 + 1 + q + 1) (by omega) with ⟨y, r, r1, r2, y1, d1, d2, d3, -, d5⟩ | ⟨d1, v, d2⟩
              · rw [d1, bd3_s, bd3_s, z1]
                left
                refine ⟨i + 1 + 1 + 1 + q + 1 + r, _, t i, t (i + 1) - 48, x, y, by omega, d2, rfl, ?_, ?_, ?_, by omega, Or.inl ⟨cs, ?_, ?_, x1, y1, r, r1, r2, d3, fun L0 P0 F0 S0 D0 => ?_⟩⟩
                · intro j hj
                  rw [pk_un (by omega), pk_un (by omega), pk_un (by omega), pk_un (by omega)]
                · rw [pk_un (by omega), pk_un (by omega), pk_un (by omega), pk_us]
                · rw [pk_un (by omega), pk_un (by omega), pk_us]
                · rw [pk_un (by omega), pk_us]
                · rw [pk_us]
                · rw [show i + 1 + 1 + 1 + q + 1 + r - i = 3 + q + 1 + r from by omega, cs]
                  exact run_a (3 + q + 1) r i _ _ _ (R5 L0 P0 F0 S0 D0) (by rw [show i + (3 + q + 1) = i + 1 + 1 + 1 + q + 1 from by omega]; exact d5 _ _ _)
              · rw [d2, bd3_s, bd3_s, z0 0]
                right
                refine ⟨i + 1 + 1 + 1 + q + 1, _, by omega, by omega, rfl, fun L0 P0 F0 S0 D0 => ⟨_, by rw [show i + 1 + 1 + 1 + q + 1 - i = 3 + q + 1 from by omega]; exact R5 L0 P0 F0 S0 D0, fun hlt => ?_, rfl⟩⟩
                rw [sg_t hlt] at d1
                exact ⟨_, by rw [show acc (4, 115, nI (t (i + 1) - 48), nI x, 0, 0) (nI (t (i + 1 + 1 + 1 + q + 1))) = _ from acc4n (x := 0) (k := 0) (by omega) (by omega) (t126 _ hlt) (by unfold fol; omega), if_neg (by omega)]⟩
            · rw [if_neg c3, bd3_s]
              obtain ⟨v, hv⟩ := num_0 h (show i + 1 + 1 + 1 + q ≤ n by omega)
              rw [hv, bd3_s, bd3_s, z0 0]
              right
              refine ⟨i + 1 + 1 + 1 + q, _, by omega, by omega, rfl, fun L0 P0 F0 S0 D0 => ⟨_, by rw [show i + 1 + 1 + 1 + q - i = 3 + q from by omega]; exact R4 L0 P0 F0 S0 D0, fun hlt => ?_, rfl⟩⟩
              rw [sg_t hlt] at c3 e3
              exact ⟨_, by rw [acc3n (by omega) (by omega) (t126 _ hlt) e3, if_neg (by omega)]⟩
          · obtain ⟨w, hw⟩ := num_0 h (show i + 1 + 1 + 1 ≤ n by omega)
            rw [e2, bd3_s, tk_0 h (by omega), bd3_s, hw, bd3_s, bd3_s, z0 0]
            right
            refine ⟨i + 1 + 1 + 1, _, by omega, by omega, rfl, fun L0 P0 F0 S0 D0 => ⟨_, by rw [show i + 1 + 1 + 1 - i = 3 from by omega]; exact R3 L0 P0 F0 S0 D0, fun hlt => ?_, rfl⟩⟩
            rw [sg_t hlt] at e1
            exact ⟨_, by rw [show acc (3, 115, nI (t (i + 1) - 48), 0, 0, 0) (nI (t (i + 1 + 1 + 1))) = _ from acc3n (x := 0) (k := 0) (by omega) (by omega) (t126 _ hlt) (by unfold fol; omega), if_neg (by omega)]⟩
        · obtain ⟨w, hw⟩ := num_0 h (show i + 1 + 1 ≤ n by omega)
          rw [if_neg c2, bd3_s, hw, bd3_s, tk_0 h (by omega), bd3_s, hw, bd3_s, bd3_s, z0 0]
          right
          refine ⟨i + 1 + 1, _, by omega, by omega, rfl, fun L0 P0 F0 S0 D0 => ⟨_, by rw [show i + 1 + 1 - i = 2 from by omega]; exact R2 L0 P0 F0 S0 D0, fun hlt => ?_, rfl⟩⟩
          rw [sg_t hlt] at c2
          exact ⟨_, by rw [cs, show nI 115 = (115 : Int32) from rfl, acc2s (t126 _ hlt), if_neg (by omega)]⟩
      · -- the others
        have cs' : ¬ nI (t i) = (115 : Int32) := (show ¬ nI (t i) = (115 : Int32) from by show ¬ nI (t i) = nI 115; rw [nI_eq (by omega) (by omega)]; omega)
        unfold rest
        rw [if_neg cs', show (44 : Int32) = nI 44 from rfl, tk_1 h (by omega) (by omega) (by omega) (by omega)]
        by_cases c2 : 44 ≤ sg t n (i + 1 + 1) ∧ sg t n (i + 1 + 1) ≤ 44
        · obtain ⟨g2, g2s⟩ := sb2.2 (by omega)
          rw [g2s] at c2
          have R3 : ∀ L0 P0 F0 S0 D0 : Int32, Run t 3 i (0, L0, P0, F0, S0, D0) (5, nI (t i), nI (t (i + 1) - 48), 0, 0, 0) := fun L0 P0 F0 S0 D0 => run_a 2 1 i _ _ _ (R2 L0 P0 F0 S0 D0) (run_1 (by
            have e : t (i + 2) = t (i + 1 + 1) := rfl
            rw [e, acc2o cs' (by omega), if_pos (by omega)]) (by have e : t (i + 1 + 1) = t (i + 2) := rfl; omega))
          have sb3 := sg_b h (i + 1 + 1 + 1)
          rw [g2s, if_pos c2, bd3_s, show (48 : Int32) = nI 48 from rfl, show (57 : Int32) = nI 57 from rfl, tk_1 h (by omega) (by omega) (by omega) (by omega)]
          by_cases c3 : 48 ≤ sg t n (i + 1 + 1 + 1) ∧ sg t n (i + 1 + 1 + 1) ≤ 57
          · obtain ⟨g3, g3s⟩ := sb3.2 (by omega)
            rw [g3s] at c3
            rw [g3s, if_pos c3, bd3_s, bd3_s, z1]
            left
            refine ⟨i + 1 + 1 + 1 + 1, _, t i, t (i + 1) - 48, 0, t (i + 1 + 1 + 1) - 48, by omega, by omega, rfl, ?_, ?_, ?_, by omega, Or.inr ⟨?_, by omega, ?_, fun L0 P0 F0 S0 D0 => ?_⟩⟩
            · intro j hj
              rw [pk_un (by omega), pk_un (by omega), pk_un (by omega)]
            · rw [pk_un (by omega), pk_un (by omega), pk_us]
            · rw [pk_un (by omega), pk_us]
            · unfold LT5 at c0; omega
            · rw [pk_us, show (48 : Int32) = nI 48 from rfl, pk_sub c3.1]
            · rw [show i + 1 + 1 + 1 + 1 - i = 3 + 1 from by omega]
              exact run_a 3 1 i _ _ _ (R3 L0 P0 F0 S0 D0) (run_1 (by
                have e : t (i + 3) = t (i + 1 + 1 + 1) := rfl
                rw [e, acc5 (by omega), if_pos c3]) (by have e : t (i + 1 + 1 + 1) = t (i + 3) := rfl; omega))
          · rw [if_neg c3, bd3_s, bd3_s, z0 0]
            right
            refine ⟨i + 1 + 1 + 1, _, by omega, by omega, rfl, fun L0 P0 F0 S0 D0 => ⟨_, by rw [show i + 1 + 1 + 1 - i = 3 from by omega]; exact R3 L0 P0 F0 S0 D0, fun hlt => ?_, rfl⟩⟩
            rw [sg_t hlt] at c3
            exact ⟨_, by rw [acc5 (t126 _ hlt), if_neg c3]⟩
        · rw [if_neg c2, bd3_s, tk_0 h (by omega), bd3_s, bd3_s, z0 0]
          right
          refine ⟨i + 1 + 1, _, by omega, by omega, rfl, fun L0 P0 F0 S0 D0 => ⟨_, by rw [show i + 1 + 1 - i = 2 from by omega]; exact R2 L0 P0 F0 S0 D0, fun hlt => ?_, rfl⟩⟩
          rw [sg_t hlt] at c2
          exact ⟨_, by rw [acc2o cs' (t126 _ hlt), if_neg (by omega)]⟩
    · obtain ⟨mrd', hr⟩ := rest_0 (m := m) (mrd := mrd) (r1 := nI (t i)) (r8 := nI (sg t n (i + 1)) - nI 48) h (show i + 1 ≤ n by omega)
      rw [if_neg c1, bd3_s, show (48 : Int32) = nI 48 from rfl, hr, bd3_s, z0 0]
      right
      refine ⟨i + 1, _, by omega, by omega, rfl, fun L0 P0 F0 S0 D0 => ⟨_, by rw [show i + 1 - i = 1 from by omega]; exact R1 L0 P0 F0 S0 D0, fun hlt => ?_, rfl⟩⟩
      rw [sg_t hlt] at c1
      exact ⟨_, by rw [acc1 (t126 _ hlt), if_neg c1]⟩
  · have hl := rc_e (mwl := mwl) (mrd := mrd) (ok := 0) h hi hm (by omega) (by rw [let_n sb.1 c0]; rfl)
    obtain ⟨mrd', hr⟩ := rest_0 (m := m) (mrd := mrd) (r1 := nI (sg t n i)) (r8 := nI (sg t n i) - 48) h hi
    rw [hl, show nI 0 = (0 : Int32) from rfl, Nat.add_zero, tk_0 h hi, bd3_s, hr, bd3_s, z0 0]
    right
    refine ⟨i, _, by omega, by omega, rfl, fun L0 P0 F0 S0 D0 => ⟨_, by rw [Nat.sub_self]; exact rfl, fun hlt => ?_, rfl⟩⟩
    rw [sg_t hlt] at c0
    exact ⟨_, acc0n ((h.2 i hlt).2.1) c0⟩
end
