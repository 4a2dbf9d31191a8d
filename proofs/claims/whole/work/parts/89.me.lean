/-! textError -/
theorem bd4_as {α1 α2 α3 α4 β1 β2 β3 β4 γ : Type} {X : Option (α1 × α2 × α3 × α4)} {f : α1 → α2 → α3 → α4 → Option (β1 × β2 × β3 × β4)} {k : β1 → β2 → β3 → β4 → Option γ} : bd4 X (fun a b c d => bd4 (f a b c d) k) = bd4 (bd4 X f) k := by
  cases X with
  | none => rfl
  | some x => rfl
section
variable {ch mtx : Nat → Int32} {n : Nat} {t : Nat → Nat}
theorem rtx_e (h : TXT ch mtx n t) (mat mwl mrm : Int32) (mrd : Nat → Int32) : ∃ (mt : Nat) (w' : Int32) (mrd' : Nat → Int32) (M : Nat), F_X7_readsText mtx (nI n) mat mwl mrd mrm = some (w', nI mt, w', mrd', nI M) ∧ mt ≤ n ∧
    ((w' = 1 ∧ 0 < M ∧ M ≤ 20 ∧ GD t n mrd' M 0 0 ∧ ∀ L0 P0 F0 S0 D0 : Int32, ∃ s' : St, TE ch n FU 0 (0, L0, P0, F0, S0, D0) = some (1, nI n, s') ∧ F_X0_isComplete s'.1 s'.2.2.2.2.2 = 1) ∨
     (w' = 0 ∧ ∀ L0 P0 F0 S0 D0 : Int32, ∃ s' : St, TE ch n FU 0 (0, L0, P0, F0, S0, D0) = some (0, nI mt, s') ∨ (mt = n ∧ TE ch n FU 0 (0, L0, P0, F0, S0, D0) = some (1, nI n, s') ∧ F_X0_isComplete s'.1 s'.2.2.2.2.2 = 0))) := by
  have h80 := h.1
  obtain ⟨mt, w', mrd', M, r1, r2, r3⟩ := rt_e h 80 0 0 3998 FU mrd mwl (by omega) (by omega) (by omega) (by omega) (by rw [FU_eq]; omega)
  have r1' : bd4 (F_X7_readsCommand mtx (nI n) (0 : Int32) mwl mrd (0 : Int32)) (fun a b c d => L_X7_readsText_14 FU mtx (nI n) a b c d) = some (nI mt, w', mrd', nI M) := by
    rw [FU_eq]; exact r1
  refine ⟨mt, w', mrd', M, ?_, r2, ?_⟩
  · unfold F_X7_readsText
    rw [bd4_as, r1', bd4_s, if_neg]
    rcases r3 with ⟨e, -⟩ | ⟨e, -⟩ <;> rw [e] <;> decide
  · rcases r3 with ⟨b1, b2, b3, b4, b5, b6⟩ | ⟨b1, b6⟩
    · exact Or.inl ⟨b1, b2, b3, b5, b6⟩
    · exact Or.inr ⟨b1, b6⟩
/-- the class's answer, from its loop -/
theorem txe_e (h : TXT ch mtx n t) {rE rL rP rF rS rD : Int32} {k : Nat} {x : Int32} {s' : St} (he : TE ch n FU 0 (0, rL, rP, rF, rS, rD) = some (k, x, s')) : F_X6_textError ch (nI n) rE rL rP rF rS rD = some ((if k = 0 then x else if F_X0_isComplete s'.1 s'.2.2.2.2.2 = 0 then nI n else -1), s') := by
  unfold F_X6_textError F_X0_begin F_X1_length
  have he' : L_X6_textError_9 FU (0 : Int32) ch (nI n) 0 rL rP rF rS rD = some (k, x, s') := he
  rw [bd1_s, he', bd8_s]
  by_cases c : k = 0
  · rw [if_pos c, if_pos c]
  · rw [if_neg c, if_neg c]
theorem txe_0 (h : TXT ch mtx n t) {rE rL rP rF rS rD : Int32} {x : Int32} {s' : St} (he : TE ch n FU 0 (0, rL, rP, rF, rS, rD) = some (0, x, s')) : F_X6_textError ch (nI n) rE rL rP rF rS rD = some (x, s') := by
  rw [txe_e h he, if_pos rfl]
theorem txe_i (h : TXT ch mtx n t) {rE rL rP rF rS rD : Int32} {x : Int32} {s' : St} (he : TE ch n FU 0 (0, rL, rP, rF, rS, rD) = some (1, x, s')) (hc : F_X0_isComplete s'.1 s'.2.2.2.2.2 = 0) : F_X6_textError ch (nI n) rE rL rP rF rS rD = some (nI n, s') := by
  rw [txe_e h he, if_neg (by decide), if_pos hc]
theorem txe_c (h : TXT ch mtx n t) {rE rL rP rF rS rD : Int32} {x : Int32} {s' : St} (he : TE ch n FU 0 (0, rL, rP, rF, rS, rD) = some (1, x, s')) (hc : F_X0_isComplete s'.1 s'.2.2.2.2.2 = 1) : F_X6_textError ch (nI n) rE rL rP rF rS rD = some (-1, s') := by
  rw [txe_e h he, if_neg (by decide), hc, if_neg n10]
end
section
variable {pl hs sl ou : Nat → Int64} {ho hc smn th le mle : Int32} {ch fi ms mst msl mhs mtx : Nat → Int32} {N E : Nat → Nat} {rE rL rP rF rS rD mat mwl mrm : Int32} {mrd : Nat → Int32}
theorem mG_29 (h : REL pl ch le hs ho hc sl fi ms mst smn msl mhs mtx mle) (a1 a2 a3 : Int32) : ∃ rE' rL' rP' rF' rS' rD' th' mat' mwl' mrd' mrm', G_29 ch le rE rL rP rF rS rD th mtx mle mat mwl mrd mrm a1 a2 a3 = some (rE', rL', rP', rF', rS', rD', th', mat', mwl', mrd', mrm') := by
  obtain ⟨-, -, hT, -⟩ := h
  obtain ⟨n, t, hx, rfl, rfl⟩ := tx_of hT
  obtain ⟨mt, w', mrd', M, r1, r2, r3⟩ := rtx_e hx mat mwl mrm mrd
  unfold G_29 F_X7_textError
  rw [r1, bd5_s]
  rcases r3 with ⟨b1, -, -, -, b6⟩ | ⟨b1, b6⟩
  · obtain ⟨s', c1, c2⟩ := b6 rL rP rF rS rD
    subst b1
    rw [txe_c hx c1 c2, bd7_s, bd6_s, if_neg n10, if_pos rfl]
    exact ⟨_, _, _, _, _, _, _, _, _, _, _, rfl⟩
  · obtain ⟨s', c1 | ⟨c1, c2, c3⟩⟩ := b6 rL rP rF rS rD
    · subst b1
      rw [txe_0 hx c1, bd7_s, bd6_s, if_pos (show (0 : Int32) = 0 from rfl), if_pos rfl]
      exact ⟨_, _, _, _, _, _, _, _, _, _, _, rfl⟩
    · subst b1
      subst c1
      rw [txe_i hx c2 c3, bd7_s, bd6_s, if_pos (show (0 : Int32) = 0 from rfl), if_pos rfl]
      exact ⟨_, _, _, _, _, _, _, _, _, _, _, rfl⟩
end
