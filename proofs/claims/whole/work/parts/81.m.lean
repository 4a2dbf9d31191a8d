/-! the units: both sides -/
/-- what the class says to place i of a expansion with L units w, ended or not -/
def UX (L : Nat) (w : Nat → Nat) (e : Prop) (i : Nat) (r : Option (Nat × Int64)) : Prop :=
  (i < L → r = some (1, lN (w i))) ∧ (L ≤ i → e → ∃ v, r = some (3, v)) ∧ (L ≤ i → ¬ e → ∃ v, r = some (0, v) ∨ r = some (2, v))
theorem xend_e {f k i : Nat} {x2 : Int64} (hf : 1 ≤ f) : L_X5_unit_14 f (nI i) (lN 0) x2 (nI k) = some (3, 0) := by
  obtain ⟨f, rfl⟩ : ∃ k, f = k + 1 := ⟨f - 1, by omega⟩
  rw [L_X5_unit_14_s, if_pos (show lN 0 ≤ (0 : Int64) from by decide), ite_self]
theorem uni_e : ∀ (m k a b c : Nat), k + m = 6 → 1 ≤ c → c * a ≤ 1000000 → 1 ≤ b → c * b ≤ 1600000000000000 → (1 ≤ a → k ≤ 5 ∧ a * (sy k - 1) < b) → ∃ (L : Nat) (w : Nat → Nat) (e : Prop), k ≤ L ∧ L ≤ 6 ∧ (∀ j, k ≤ j → j < L → 1 ≤ w j ∧ w j ≤ 1000000000) ∧
    (∀ i f, k ≤ i → i < 100 → 10 + m ≤ f → UX L w e i (L_X5_unit_14 f (nI i) (lN (c * a)) (lN (c * b)) (nI k))) ∧
    ∀ (mun : Nat → Int32) (f : Nat), 20 + m ≤ f → ∃ mun' z, L_X7_tellsUnits_25 f (lN a) (lN b) mun (nI k) 1 = some (mun', nI L, z) ∧ ((e ∧ z = 1) ∨ (¬ e ∧ z = 0)) ∧ ∀ j, mun' j = if k ≤ j ∧ j < L then nI (w j) else mun j := by
  intro m
  induction m with
  | zero =>
    intro k a b c hk hc h1 h2 h3 h4
    have a0 : a = 0 := by
      apply Classical.byContradiction
      intro z
      have := (h4 (by omega)).1
      omega
    subst a0
    rw [Nat.mul_zero]
    refine ⟨k, fun _ => 0, True, Nat.le_refl _, by omega, fun j _ _ => by omega, fun i f hi hi2 hf => ⟨fun _ => by omega, fun _ _ => ⟨0, xend_e (by omega)⟩, fun _ z => absurd trivial z⟩, fun mun f hf => ⟨mun, 1, mend_e (by omega), Or.inl ⟨trivial, rfl⟩, fun j => by rw [if_neg (by omega)]⟩⟩
  | succ m ih =>
    intro k a b c hk hc h1 h2 h3 h4
    by_cases a0 : a = 0
    · subst a0
      rw [Nat.mul_zero]
      refine ⟨k, fun _ => 0, True, Nat.le_refl _, by omega, fun j _ _ => by omega, fun i f hi hi2 hf => ⟨fun _ => by omega, fun _ _ => ⟨0, xend_e (by omega)⟩, fun _ z => absurd trivial z⟩, fun mun f hf => ⟨mun, 1, mend_e (by omega), Or.inl ⟨trivial, rfl⟩, fun j => by rw [if_neg (by omega)]⟩⟩
    · have a1 : 1 ≤ a := Nat.pos_of_ne_zero a0
      obtain ⟨k5, hs⟩ := h4 a1
      have ac : a ≤ c * a := by have := Nat.mul_le_mul_right a hc; omega
      have bc : b ≤ c * b := by have := Nat.mul_le_mul_right b hc; omega
      have ca1 : 1 ≤ c * a := Nat.mul_pos hc a1
      have cb1 : 1 ≤ c * b := Nat.mul_pos hc h2
      obtain ⟨u1, u2, u3⟩ := ce_e a1 h2
      have us := ce_s a1 h2 hc
      have us2 : sy k ≤ (b + a - 1) / a := by
        have e : a * (sy k - 1) < a * ((b + a - 1) / a) := by omega
        have e2 := Nat.lt_of_mul_lt_mul_left e
        omega
      have uu : (b + a - 1) / a ≤ b + a - 1 := Nat.div_le_self _ _
      generalize hu : (b + a - 1) / a = u at *
      -- the class's step
      have X0 : ∀ i f, L_X5_unit_14 (f + 1) (nI i) (lN (c * a)) (lN (c * b)) (nI k) = if lN u ≤ (1000000000 : Int64) then (if nI k = nI i then some (1, lN u) else if lN (c * (a * u - b)) ≤ 0 then L_X5_unit_14 f (nI i) (lN (c * (a * u - b))) (lN (c * b * u)) (nI (k + 1)) else if lN u ≤ (40000 : Int64) then L_X5_unit_14 f (nI i) (lN (c * (a * u - b))) (lN (c * b * u)) (nI (k + 1)) else some (2, lN u)) else some (0, lN u) := by
        intro i f
        have m1 : c * b ≤ c * a * u := by rw [Nat.mul_assoc]; exact Nat.mul_le_mul_left _ u1
        have e1 : c * a * u - c * b = c * (a * u - b) := by rw [Nat.mul_sub, Nat.mul_assoc]
        rw [L_X5_unit_14_s, if_neg (show ¬ (8 : Int32) ≤ nI k from by show ¬ nI 8 ≤ nI k; rw [nI_leI (by omega) (by omega)]; omega), if_neg (show ¬ lN (c * a) ≤ (0 : Int64) from by show ¬ lN (c * a) ≤ lN 0; rw [pk_lLE (by omega) (by omega)]; omega), if_neg (show ¬ lN (c * a) = (0 : Int64) from by show ¬ lN (c * a) = lN 0; rw [pk_lEQ (by omega) (by omega)]; omega), uX ca1 (by omega), us, lN_mul, lN_sub m1, e1, lN_mul, show nI k + (1 : Int32) = nI (k + 1) from nI_1 k]
      by_cases g1 : 1000000000 < u
      · -- too great
        refine ⟨k, fun _ => 0, False, Nat.le_refl _, by omega, fun j _ _ => by omega, fun i f hi hi2 hf => ⟨fun _ => by omega, fun _ z => z.elim, fun _ _ => ?_⟩, fun mun f hf => ⟨mun, 0, mtoo_e a1 (by omega) (by rw [hu]; exact g1) (by omega), Or.inr ⟨fun z => z, rfl⟩, fun j => by rw [if_neg (by omega)]⟩⟩
        obtain ⟨f, rfl⟩ : ∃ k, f = k + 1 := ⟨f - 1, by omega⟩
        rw [X0, if_neg (show ¬ lN u ≤ (1000000000 : Int64) from by show ¬ lN u ≤ lN 1000000000; rw [pk_lLE (by omega) (by omega)]; omega)]
        exact ⟨_, Or.inl rfl⟩
      · have hu9 : lN u ≤ (1000000000 : Int64) := (show lN u ≤ (1000000000 : Int64) from by show lN u ≤ lN 1000000000; rw [pk_lLE (by omega) (by omega)]; omega)
        have ne : ∀ i, k < i → i < 100 → ¬ nI k = nI i := fun i h1 h2 => by rw [nI_eq (by omega) (by omega)]; omega
        by_cases t0 : a * u - b = 0
        · -- the last
          refine ⟨k + 1, fun _ => u, True, by omega, by omega, fun j _ _ => ⟨u3, Nat.le_of_not_lt g1⟩, fun i f hi hi2 hf => ?_, fun mun f hf => ?_⟩
          · obtain ⟨f, rfl⟩ : ∃ k, f = k + 1 := ⟨f - 1, by omega⟩
            rw [X0, if_pos hu9]
            refine ⟨fun hl => ?_, fun hl _ => ⟨0, ?_⟩, fun _ z => absurd trivial z⟩
            · have e : i = k := by omega
              subst e
              rw [if_pos rfl]
            · rw [if_neg (ne i (by omega) hi2), t0, Nat.mul_zero, if_pos (show lN 0 ≤ (0 : Int64) from by decide), xend_e (by omega)]
          · obtain ⟨f, rfl⟩ : ∃ k, f = k + 1 := ⟨f - 1, by omega⟩
            refine ⟨_, 1, mlast_e (by omega) a1 (by omega) h2 (by omega) hu.symm (by omega) t0 (by omega), Or.inl ⟨trivial, rfl⟩, fun j => ?_⟩
            by_cases z : j = k
            · subst z; rw [pk_us, if_pos (by omega)]
            · rw [pk_un z, if_neg (by omega)]
        · have t1 : 1 ≤ a * u - b := Nat.pos_of_ne_zero t0
          have tc : 1 ≤ c * (a * u - b) := Nat.mul_pos hc t1
          have tl : c * (a * u - b) ≤ c * a := Nat.mul_le_mul_left _ (by omega)
          have tn : ¬ lN (c * (a * u - b)) ≤ (0 : Int64) := (show ¬ lN (c * (a * u - b)) ≤ (0 : Int64) from by show ¬ lN (c * (a * u - b)) ≤ lN 0; rw [pk_lLE (by omega) (by omega)]; omega)
          -- a (u - 1) < b
          have q1 : a * (u - 1) < b := by
            have : a * (u - 1) + a = a * u := by rw [← Nat.mul_succ]; congr 1; omega
            omega
          have q2 : (a * u - b) * (u - 1) < b := Nat.lt_of_le_of_lt (Nat.mul_le_mul_right _ (by omega)) q1
          have q3 : (a * u - b) * (u * (u - 1)) < b * u := by
            rw [show (a * u - b) * (u * (u - 1)) = (a * u - b) * (u - 1) * u from by ac_rfl]
            exact Nat.mul_lt_mul_of_pos_right q2 u3
          by_cases g2 : 40000 < u
          · -- the class stops
            refine ⟨k + 1, fun _ => u, False, by omega, by omega, fun j _ _ => ⟨u3, Nat.le_of_not_lt g1⟩, fun i f hi hi2 hf => ?_, fun mun f hf => ?_⟩
            · obtain ⟨f, rfl⟩ : ∃ k, f = k + 1 := ⟨f - 1, by omega⟩
              rw [X0, if_pos hu9]
              refine ⟨fun hl => ?_, fun _ z => z.elim, fun hl _ => ⟨lN u, Or.inr ?_⟩⟩
              · have e : i = k := by omega
                subst e
                rw [if_pos rfl]
              · rw [if_neg (ne i (by omega) hi2), if_neg tn, if_neg (show ¬ lN u ≤ (40000 : Int64) from by show ¬ lN u ≤ lN 40000; rw [pk_lLE (by omega) (by omega)]; omega)]
            · obtain ⟨f, rfl⟩ : ∃ k, f = k + 1 := ⟨f - 1, by omega⟩
              obtain ⟨y1, y2, y3, y4, y5, ⟨y6, y7⟩ | ⟨y6, y7⟩⟩ := mst_e (k := k) (mun := mun) (f := f) (by omega) a1 (by omega) h2 (by omega) hu.symm (by omega) rfl t1 (by omega)
              all_goals generalize ma b (a * u - b) u = a' at *
              all_goals generalize mb b (a * u - b) u = b' at *
              all_goals generalize mg b (a * u - b) u = g at *
              · refine ⟨upd mun k (nI u), 0, ?_, Or.inr ⟨fun z => z, rfl⟩, fun j => ?_⟩
                · rw [y7]
                  have ga : a' ≤ g * a' := by have := Nat.mul_le_mul_right a' y1; omega
                  have v1 : 40001 * 40000 ≤ u * (u - 1) := Nat.mul_le_mul (by omega) (by omega)
                  have v2 : g * (a' * (u * (u - 1))) < g * b' := by rw [y3, ← Nat.mul_assoc, y2]; exact q3
                  have v3 : a' * (u * (u - 1)) < b' := Nat.lt_of_mul_lt_mul_left v2
                  have v4 : a' * 1600040000 ≤ a' * (u * (u - 1)) := Nat.mul_le_mul_left _ v1
                  apply mtoo_e y4 (by omega) _ (by omega)
                  apply Nat.lt_of_lt_of_le (show 1000000000 < 1000000001 by omega)
                  rw [Nat.le_div_iff_mul_le y4]
                  omega
                · by_cases z : j = k
                  · subst z; rw [pk_us, if_pos (by omega)]
                  · rw [pk_un z, if_neg (by omega)]
              · refine ⟨upd mun k (nI u), 0, y7, Or.inr ⟨fun z => z, rfl⟩, fun j => ?_⟩
                by_cases z : j = k
                · subst z; rw [pk_us, if_pos (by omega)]
                · rw [pk_un z, if_neg (by omega)]
          · -- both go on
            have k4 : k ≤ 4 := by
              apply Classical.byContradiction
              intro z
              have e : k = 5 := by omega
              rw [e, show sy 5 = 3263443 from by decide] at us2
              omega
            have cb2 : c * b * u ≤ 1600000000000000 := by
              have r1 : c * b ≤ c * a * u := by rw [Nat.mul_assoc]; exact Nat.mul_le_mul_left _ u1
              have r2 : c * a * u ≤ 1000000 * 40000 := Nat.mul_le_mul h1 (by omega)
              have r3 : c * b * u ≤ 40000000000 * 40000 := Nat.mul_le_mul (by omega) (by omega)
              omega
            have MS := fun (f : Nat) (mun : Nat → Int32) (hf : 10 ≤ f) => mst_e (k := k) (mun := mun) (f := f) (by omega) a1 (by omega) h2 (by omega) hu.symm (by omega) rfl t1 hf
            obtain ⟨y1, y2, y3, y4, y5, -⟩ := MS 10 (fun _ => 0) (Nat.le_refl _)
            generalize ma b (a * u - b) u = a' at *
            generalize mb b (a * u - b) u = b' at *
            generalize mg b (a * u - b) u = g at *
            have cg : c * g * a' = c * (a * u - b) := by rw [Nat.mul_assoc, y2]
            have cg2 : c * g * b' = c * b * u := by rw [Nat.mul_assoc, y3, Nat.mul_assoc]
            have bb : b' ≤ c * g * b' := by have := Nat.mul_le_mul_right b' (Nat.mul_pos hc y1); omega
            obtain ⟨L, w, e, n1, n2, n3, n4, n5⟩ := ih (k + 1) a' b' (c * g) (by omega) (Nat.mul_pos hc y1) (by rw [cg]; omega) y5 (by rw [cg2]; exact cb2) (fun _ => by
              refine ⟨by omega, ?_⟩
              have v1 : sy k * (sy k - 1) ≤ u * (u - 1) := Nat.mul_le_mul us2 (by omega)
              have v2 : g * (a' * (u * (u - 1))) < g * b' := by rw [y3, ← Nat.mul_assoc, y2]; exact q3
              have v3 : a' * (u * (u - 1)) < b' := Nat.lt_of_mul_lt_mul_left v2
              have v4 : a' * (sy k * (sy k - 1)) ≤ a' * (u * (u - 1)) := Nat.mul_le_mul_left _ v1
              show a' * (sy k * (sy k - 1) + 1 - 1) < b'
              rw [Nat.add_sub_cancel]
              omega)
            refine ⟨L, fun j => if j = k then u else w j, e, by omega, n2, fun j j1 j2 => ?_, fun i f hi hi2 hf => ?_, fun mun f hf => ?_⟩
            · show 1 ≤ (if j = k then u else w j) ∧ (if j = k then u else w j) ≤ 1000000000
              by_cases z : j = k
              · rw [if_pos z]; exact ⟨u3, by omega⟩
              · rw [if_neg z]; exact n3 j (by omega) j2
            · obtain ⟨f, rfl⟩ : ∃ k, f = k + 1 := ⟨f - 1, by omega⟩
              rw [X0, if_pos hu9, if_neg tn, if_pos (show lN u ≤ (40000 : Int64) from by show lN u ≤ lN 40000; rw [pk_lLE (by omega) (by omega)]; omega)]
              by_cases z : i = k
              · subst z
                rw [if_pos rfl]
                exact ⟨fun _ => by show some (1, lN u) = some (1, lN (if i = i then u else w i)); rw [if_pos rfl], fun hl => by omega, fun hl => by omega⟩
              · rw [if_neg (ne i (by omega) hi2), ← cg, ← cg2]
                obtain ⟨p1, p2, p3⟩ := n4 i f (by omega) hi2 (by omega)
                refine ⟨fun hl => ?_, p2, p3⟩
                show _ = some (1, lN (if i = k then u else w i))
                rw [if_neg z]
                exact p1 hl
            · obtain ⟨f, rfl⟩ : ∃ k, f = k + 1 := ⟨f - 1, by omega⟩
              have d1 : ∃ mun' z, L_X7_tellsUnits_25 f (lN a') (lN b') (upd mun k (nI u)) (nI (k + 1)) 1 = some (mun', nI L, z) ∧ ((e ∧ z = 1) ∨ (¬ e ∧ z = 0)) ∧ ∀ j, mun' j = if k + 1 ≤ j ∧ j < L then nI (w j) else upd mun k (nI u) j := n5 (upd mun k (nI u)) f (by omega)
              obtain ⟨mun', z, o1, o2, o3⟩ := d1
              refine ⟨mun', z, ?_, o2, fun j => ?_⟩
              · obtain ⟨-, -, -, -, -, ⟨-, z7⟩ | ⟨z6, -⟩⟩ := MS f mun (by omega)
                · rw [z7]; exact o1
                · exfalso; omega
              · rw [o3 j]
                show _ = if k ≤ j ∧ j < L then nI (if j = k then u else w j) else mun j
                by_cases z : j = k
                · subst z
                  rw [if_neg (by omega), pk_us, if_pos (by omega), if_pos rfl]
                · rw [pk_un z, if_neg z]
                  by_cases y : k ≤ j ∧ j < L
                  · rw [if_pos (by omega), if_pos y]
                  · rw [if_neg (by omega), if_neg y]
