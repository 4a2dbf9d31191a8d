/-! the whole text, both readers; textError -/
section
variable {ch mtx : Nat → Int32} {n : Nat} {t : Nat → Nat}
/-- command m stands from i to i' -/
def ONE (t : Nat → Nat) (n : Nat) (mrd : Nat → Int32) (m i i' : Nat) : Prop :=
  ∃ (L P F S : Nat) (E D : Int32), i + 4 ≤ i' ∧ i' ≤ n ∧ mrd (4 * m) = nI L ∧ mrd (4 * m + 1) = nI P ∧ P < 10 ∧
    ((L = 115 ∧ mrd (4 * m + 2) = nI F ∧ mrd (4 * m + 3) = nI S ∧ F < 10000 ∧ S < 10000) ∨ ((L = 43 ∨ L = 45 ∨ L = 42 ∨ L = 99) ∧ S < 10 ∧ mrd (4 * m + 2) = nI S)) ∧
    (∀ L0 P0 F0 S0 D0 : Int32, Run t (i' - i) i (0, L0, P0, F0, S0, D0) (E, nI L, nI P, nI F, nI S, D)) ∧ F_X0_isComplete E D = 1 ∧
    (i' < n → acc (E, nI L, nI P, nI F, nI S, D) (nI (t i')) = if t i' = 59 then some (1, 0, nI L, nI P, nI F, nI S, D) else some (0, 0, nI L, nI P, nI F, nI S, D))
theorem one_c {mrd mrd' : Nat → Int32} {m i i' : Nat} (h : ONE t n mrd m i i') (hm : ∀ j, j < 4 * (m + 1) → mrd' j = mrd j) : ONE t n mrd' m i i' := by
  obtain ⟨L, P, F, S, E, D, a1, a2, a3, a4, a5, a6, a7⟩ := h
  refine ⟨L, P, F, S, E, D, a1, a2, ?_, ?_, a5, ?_, a7⟩
  · rw [hm _ (by omega)]; exact a3
  · rw [hm _ (by omega)]; exact a4
  · rw [hm (4 * m + 2) (by omega), hm (4 * m + 3) (by omega)]; exact a6
theorem ok_one (h : TXT ch mtx n t) {i m : Nat} {mrd : Nat → Int32} {r : Option (Int32 × Int32 × (Nat → Int32) × Int32)} (ho : CMDOK t n i m mrd r) : ∃ i' mrd', ONE t n mrd' m i i' ∧ r = some (nI i', 1, mrd', nI (m + 1)) ∧ ∀ j, j < 4 * m → mrd' j = mrd j := by
  obtain ⟨i', mrd', L, P, F, S, a1, a2, a3, a4, a5, a6, a7, ⟨b1, b2, b3, b4, b5, D, d1, d2, d3, d4⟩ | ⟨b1, b2, b3, b4⟩⟩ := ho
  · refine ⟨i', mrd', ⟨L, P, F, S, 4, nI D, a1, a2, a5, a6, a7, Or.inl ⟨b1, b2, b3, b4, b5⟩, d4, ?_, fun hlt => ?_⟩, a3, a4⟩
    · unfold F_X0_isComplete
      rw [if_neg (by decide), if_pos rfl, if_neg (show ¬ nI D ≤ (0 : Int32) from by show ¬ nI D ≤ nI 0; rw [nI_leI (by omega) (by omega)]; omega)]
    · rw [sg_t hlt] at d3
      rw [acc4n (by omega) (by omega) ((h.2 i' hlt).2.1) d3, if_pos d1]
  · refine ⟨i', mrd', ⟨L, P, 0, S, 6, 0, a1, a2, a5, a6, a7, Or.inr ⟨b1, b2, b3⟩, b4, rfl, fun hlt => ?_⟩, a3, a4⟩
    rw [acc6 ((h.2 i' hlt).2.1)]
/-- the commands m, m + 1, .. from i to the end -/
def GD (t : Nat → Nat) (n : Nat) (mrd : Nat → Int32) : Nat → Nat → Nat → Prop
  | 0, _, _ => False
  | c + 1, m, i => ∃ i', ONE t n mrd m i i' ∧ ((c = 0 ∧ i' = n) ∨ (i' < n ∧ t i' = 59 ∧ GD t n mrd c (m + 1) (i' + 1)))
/-- the class's loop of textError -/
def TE (ch : Nat → Int32) (n f i : Nat) (s : St) : Option (Nat × Int32 × St) := L_X6_textError_9 f (nI i) ch (nI n) s.1 s.2.1 s.2.2.1 s.2.2.2.1 s.2.2.2.2.1 s.2.2.2.2.2
theorem te_end (h : TXT ch mtx n t) {f : Nat} {s : St} : TE ch n (f + 1) n s = some (1, nI n, s) := by
  unfold TE
  rw [L_X6_textError_9_s, if_pos (show F_X1_length (nI n) ≤ nI n from Int32.le_refl _)]
theorem te_acc (h : TXT ch mtx n t) {f i : Nat} {s s' : St} {r : Int32} (hi : i < n) (ha : acc s (nI (t i)) = some (r, s')) : TE ch n (f + 1) i s = if r = 0 then some (0, nI i, s') else TE ch n f (i + 1) s' := by
  have h80 := h.1
  unfold TE
  have ha' : F_X0_accept s.1 s.2.1 s.2.2.1 s.2.2.2.1 s.2.2.2.2.1 s.2.2.2.2.2 (nI (t i)) = some (r, s') := ha
  rw [L_X6_textError_9_s, if_neg (show ¬ F_X1_length (nI n) ≤ nI i by unfold F_X1_length; rw [nI_leI (by omega) (by omega)]; omega), chr_e h hi, bd1_s, ha', bd7_s, show nI i + (1 : Int32) = nI (i + 1) from nI_1 i]
theorem rt_e (h : TXT ch mtx n t) : ∀ (w i m F F' : Nat) (mrd : Nat → Int32) (mwl : Int32), n - i ≤ w → i ≤ n → 5 * m ≤ i → w < F → 2 * w + 5 < F' → ∃ (mat : Nat) (w' : Int32) (mrd' : Nat → Int32) (M : Nat), bd4 (F_X7_readsCommand mtx (nI n) (nI i) mwl mrd (nI m)) (fun a b c d => L_X7_readsText_14 (F + 2) mtx (nI n) a b c d) = some (nI mat, w', mrd', nI M) ∧ mat ≤ n ∧
    ((w' = 1 ∧ m < M ∧ M ≤ 20 ∧ (∀ j, j < 4 * m → mrd' j = mrd j) ∧ GD t n mrd' (M - m) m i ∧ ∀ L0 P0 F0 S0 D0 : Int32, ∃ s' : St, TE ch n F' i (0, L0, P0, F0, S0, D0) = some (1, nI n, s') ∧ F_X0_isComplete s'.1 s'.2.2.2.2.2 = 1) ∨
     (w' = 0 ∧ ∀ L0 P0 F0 S0 D0 : Int32, ∃ s' : St, TE ch n F' i (0, L0, P0, F0, S0, D0) = some (0, nI mat, s') ∨ (mat = n ∧ TE ch n F' i (0, L0, P0, F0, S0, D0) = some (1, nI n, s') ∧ F_X0_isComplete s'.1 s'.2.2.2.2.2 = 0))) := by
  have h80 := h.1
  intro w
  induction w using Nat.strongRecOn with
  | _ w ih =>
    intro i m F F' mrd mwl hw hi hm hF hF'
    rcases cmd_e h hi (show m ≤ 20 by omega) mwl mrd with ho | hn
    · obtain ⟨i', mrd', one, e1, e2⟩ := ok_one h ho
      have one' := one
      obtain ⟨L, P, Fn, S, E, D, a1, a2, a3, a4, a5, a6, a7, a8, a9⟩ := one'
      rw [e1, bd4_s, L_X7_readsText_14_s, if_neg n10]
      by_cases hlt : i' < n
      · rw [if_neg (show ¬ nI n ≤ nI i' by rw [nI_leI (by omega) (by omega)]; omega), show (59 : Int32) = nI 59 from rfl, tk_1 h (by omega) (by omega) (by omega) (by omega), sg_t hlt]
        obtain ⟨f, rfl⟩ : ∃ f, F' = (f + 1) + (i' - i) := ⟨F' - (i' - i) - 1, by omega⟩
        have TR1 : ∀ L0 P0 F0 S0 D0 : Int32, TE ch n ((f + 1) + (i' - i)) i (0, L0, P0, F0, S0, D0) = TE ch n (f + 1) i' (E, nI L, nI P, nI Fn, nI S, D) := fun L0 P0 F0 S0 D0 => by
          have := te_run h (i' - i) i (f + 1) _ _ (a7 L0 P0 F0 S0 D0) (by omega)
          rw [show i + (i' - i) = i' from by omega] at this
          exact this
        by_cases c : t i' = 59
        · have ac := a9 hlt
          rw [if_pos c] at ac
          rw [if_pos (by omega), bd3_s, if_neg n10]
          obtain ⟨F2, rfl⟩ : ∃ k, F = k + 1 := ⟨F - 1, by omega⟩
          obtain ⟨mat, w', mrd2, M, r1, r2, r3⟩ := ih (n - (i' + 1)) (by omega) (i' + 1) (m + 1) F2 f mrd' 1 (Nat.le_refl _) (by omega) (by omega) (by omega) (by omega)
          refine ⟨mat, w', mrd2, M, r1, r2, ?_⟩
          rcases r3 with ⟨b1, b2, b3, b4, b5, b6⟩ | ⟨b1, b6⟩
          · left
            refine ⟨b1, by omega, b3, fun j hj => by rw [b4 j (by omega), e2 j hj], ?_, fun L0 P0 F0 S0 D0 => ?_⟩
            · rw [show M - m = (M - (m + 1)) + 1 from by omega]
              exact ⟨i', one_c one b4, Or.inr ⟨hlt, c, b5⟩⟩
            · rw [TR1, te_acc h hlt ac, if_neg n10]
              exact b6 _ _ _ _ _
          · right
            refine ⟨b1, fun L0 P0 F0 S0 D0 => ?_⟩
            rw [TR1, te_acc h hlt ac, if_neg n10]
            exact b6 _ _ _ _ _
        · have ac := a9 hlt
          rw [if_neg c] at ac
          rw [if_neg (by omega), bd3_s, if_pos rfl, L_X7_readsText_14_s, if_pos rfl]
          refine ⟨i', 0, mrd', m + 1, rfl, a2, Or.inr ⟨rfl, fun L0 P0 F0 S0 D0 => ⟨(0, nI L, nI P, nI Fn, nI S, D), Or.inl ?_⟩⟩⟩
          rw [TR1, te_acc h hlt ac, if_pos rfl]
      · have en : i' = n := by omega
        subst en
        rw [if_pos (Int32.le_refl _)]
        refine ⟨i', 1, mrd', m + 1, rfl, Nat.le_refl _, Or.inl ⟨rfl, by omega, by omega, e2, ?_, fun L0 P0 F0 S0 D0 => ⟨(E, nI L, nI P, nI Fn, nI S, D), ?_, a8⟩⟩⟩
        · rw [show m + 1 - m = 0 + 1 from by omega]
          exact ⟨i', one, Or.inl ⟨rfl, rfl⟩⟩
        · obtain ⟨f, rfl⟩ : ∃ f, F' = (f + 1) + (i' - i) := ⟨F' - (i' - i) - 1, by omega⟩
          have := te_run h (i' - i) i (f + 1) _ _ (a7 L0 P0 F0 S0 D0) (by omega)
          rw [show i + (i' - i) = i' from by omega] at this
          have t2 : TE ch i' ((f + 1) + (i' - i)) i (0, L0, P0, F0, S0, D0) = TE ch i' (f + 1) i' (E, nI L, nI P, nI Fn, nI S, D) := this
          rw [t2, te_end h]
    · obtain ⟨i', mrd', b1, b2, b3, b4⟩ := hn
      rw [b3, bd4_s, L_X7_readsText_14_s, if_pos rfl]
      refine ⟨i', 0, mrd', m, rfl, b2, Or.inr ⟨rfl, fun L0 P0 F0 S0 D0 => ?_⟩⟩
      obtain ⟨s', c1, c2, c3⟩ := b4 L0 P0 F0 S0 D0
      obtain ⟨f, rfl⟩ : ∃ f, F' = (f + 1) + (i' - i) := ⟨F' - (i' - i) - 1, by omega⟩
      have TR1 : TE ch n ((f + 1) + (i' - i)) i (0, L0, P0, F0, S0, D0) = TE ch n (f + 1) i' s' := by
        have := te_run h (i' - i) i (f + 1) _ _ c1 (by omega)
        rw [show i + (i' - i) = i' from by omega] at this
        exact this
      by_cases hlt : i' < n
      · obtain ⟨s'', c4⟩ := c2 hlt
        refine ⟨s'', Or.inl ?_⟩
        rw [TR1, te_acc h hlt c4, if_pos rfl]
      · have en : i' = n := by omega
        subst en
        refine ⟨s', Or.inr ⟨rfl, ?_, c3⟩⟩
        rw [TR1, te_end h]
end
