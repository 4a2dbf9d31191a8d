/-! the law's case 30 -/
section
variable {pl hs sl ou : Nat → Int64} {ho hc smn th le mle : Int32} {ch fi ms mst msl mhs mtx : Nat → Int32} {N E : Nat → Nat} {rE rL rP rF rS rD mat mwl mrm : Int32} {mrd : Nat → Int32} {mtp mbt : Int64}
theorem mG_30 (h : REL pl ch le hs ho hc sl fi ms mst smn msl mhs mtx mle) (a1 a2 a3 : Int32) : ∃ pl' le' rE' rL' rP' rF' rS' rD' hs' ho' hc' th' ms' mst' smn' mle' mat' mwl' mrd' mrm' mtp' mbt' ou', G_30 pl ch le rE rL rP rF rS rD hs ho hc th ms mst smn mtx mle mat mwl mrd mrm mtp mbt ou a1 a2 a3 = some (pl', le', rE', rL', rP', rF', rS', rD', hs', ho', hc', th', ms', mst', smn', mle', mat', mwl', mrd', mrm', mtp', mbt', ou') ∧ REL pl' ch le' hs' ho' hc' sl fi ms' mst' smn' msl mhs mtx mle' := by
  obtain ⟨⟨N, E, hPL⟩, hHR, hT, hS⟩ := h
  obtain ⟨n, t, hx, rfl, rfl⟩ := tx_of hT
  have h80 := hx.1
  obtain ⟨mt, w', mrd', M, r1, r2, r3⟩ := rtx_e hx mat mwl mrm mrd
  unfold G_30 F_L_runText F_X6_runText F_X7_runText
  rw [r1, bd5_s]
  rcases r3 with ⟨b1, b2, b3, b5, b6⟩ | ⟨b1, b6⟩
  · subst b1
    obtain ⟨s', c1, c2⟩ := b6 rL rP rF rS rD
    obtain ⟨hs', ho', hc', mst', smn', q1, q2, q3⟩ := rec_e hPL hHR
    obtain ⟨v, pl', ms', mtp', mbt', s2, d1, d2, d3⟩ := run_e hx M 0 0 FU FU pl ms mtp mbt s'.2.1 s'.2.2.1 s'.2.2.2.1 s'.2.2.2.2.1 s'.2.2.2.2.2 ⟨N, E, hPL⟩ b5 (by omega) (by omega) (by rw [FU_eq]; omega) (by rw [FU_eq]; omega)
    have d1' : F_X6_executeCommands pl ch (nI n) s'.1 s'.2.1 s'.2.2.1 s'.2.2.2.1 s'.2.2.2.2.1 s'.2.2.2.2.2 = some (v, pl', s2) := by
      unfold F_X6_executeCommands F_X0_begin
      rw [bd1_s]
      exact d1
    rw [Nat.zero_add] at d2
    have d2' : L_X7_runText_29 FU (0 : Int32) ms mrd' (nI M) mtp mbt = some (v, ms', mtp', mbt') := d2
    rw [txe_c hx c1 c2, bd7_s, if_pos rfl, q1, bd3_s, d1', bd8_s]
    unfold F_X1_empty
    rw [bd1_s, bd13_s, if_pos rfl, bd13_s, if_neg n10, q2, bd2_s, d2', bd4_s, bd12_s, if_pos (show F_X7_thrown 0 = 0 from rfl), if_pos rfl, if_pos ou_e]
    exact ⟨_, _, _, _, _, _, _, _, _, _, _, _, _, _, _, _, _, _, _, _, _, _, _, rfl, d3, q3, ⟨0, by omega, rfl, rfl, fun i hi => by omega⟩, hS⟩
  · subst b1
    obtain ⟨s', c1 | ⟨c1, c2, c3⟩⟩ := b6 rL rP rF rS rD
    · rw [txe_0 hx c1, bd7_s, if_neg (m1_e (by omega)), bd13_s, if_neg (by decide), if_pos rfl, bd13_s, if_pos rfl]
      exact ⟨_, _, _, _, _, _, _, _, _, _, _, _, _, _, _, _, _, _, _, _, _, _, _, rfl, ⟨N, E, hPL⟩, hHR, hT, hS⟩
    · rw [txe_i hx c2 c3, bd7_s, if_neg (m1_e (by omega)), bd13_s, if_neg (by decide), if_pos rfl, bd13_s, if_pos rfl]
      exact ⟨_, _, _, _, _, _, _, _, _, _, _, _, _, _, _, _, _, _, _, _, _, _, _, rfl, ⟨N, E, hPL⟩, hHR, hT, hS⟩
end
