theorem ou_e {ou : Nat → Int64} {x : Int64} : (vp_updL ou (0 : Int32).toNatClampNeg x) (0 : Int32).toNatClampNeg = x := pk_uLs
section
variable {pl hs sl ou : Nat → Int64} {ho hc smn th le mle mnt mnb : Int32} {ch fi ms mst msl mhs mtx : Nat → Int32} {mtp mbt : Int64}
theorem mG_0 (h : REL pl ch le hs ho hc sl fi ms mst smn msl mhs mtx mle) (a1 a2 a3 : Int32) : ∃ pl' hs' ho' hc' th' ms' mst' smn' mtp' mbt' ou', G_0 pl hs ho hc th ms mst smn mtp mbt ou a1 a2 a3 = some (pl', hs', ho', hc', th', ms', mst', smn', mtp', mbt', ou') ∧ REL pl' ch le hs' ho' hc' sl fi ms' mst' smn' msl mhs mtx mle := by
  obtain ⟨⟨N, E, hPL⟩, hHR, hT, hS⟩ := h
  obtain ⟨k, code, r, b, pl', hs', ho', hc', ms', mst', smn', mtp', mbt', hk, eX, eM, hrb, hP2, hH2⟩ := set_p (th := th) (mtp := mtp) (mbt := mbt) hPL hHR a1 a2 a3
  simp only [List.mem_cons, List.not_mem_nil, or_false, Prod.mk.injEq] at hk
  unfold G_0 F_L_set
  rcases hk with ⟨rfl, rfl⟩ | ⟨rfl, rfl⟩ | ⟨rfl, rfl⟩
  · have hrb := hrb rfl
    subst hrb
    exact ⟨pl', hs', ho', hc', _, ms', mst', smn', mtp', mbt', _, by rw [eX, bd6_s, if_pos rfl, bd6_s, eM, bd7_s, if_pos (show F_X7_thrown 0 = 0 from rfl), if_pos rfl, if_pos ou_e], hP2, hH2, hT, hS⟩
  · exact ⟨pl', hs', ho', hc', _, ms', mst', smn', mtp', mbt', _, by rw [eX]; simp only [bd6_s, eM, bd7_s, F_X7_thrown]; first | rfl | simp, hP2, hH2, hT, hS⟩
  · exact ⟨pl', hs', ho', hc', _, ms', mst', smn', mtp', mbt', _, by rw [eX]; simp only [bd6_s, eM, bd7_s, F_X7_thrown]; first | rfl | simp, hP2, hH2, hT, hS⟩
theorem mG_1 (h : REL pl ch le hs ho hc sl fi ms mst smn msl mhs mtx mle) (a1 a2 a3 : Int32) : ∃ pl' hs' ho' hc' th' ms' mst' smn' mtp' mbt' ou', G_1 pl hs ho hc th ms mst smn mtp mbt ou a1 a2 a3 = some (pl', hs', ho', hc', th', ms', mst', smn', mtp', mbt', ou') ∧ REL pl' ch le hs' ho' hc' sl fi ms' mst' smn' msl mhs mtx mle := by
  obtain ⟨⟨N, E, hPL⟩, hHR, hT, hS⟩ := h
  obtain ⟨k, code, r, b, pl', hs', ho', hc', ms', mst', smn', mtp', mbt', hk, eX, eM, hrb, hP2, hH2⟩ := add_p (th := th) (mtp := mtp) (mbt := mbt) hPL hHR a1 a2
  simp only [List.mem_cons, List.not_mem_nil, or_false, Prod.mk.injEq] at hk
  unfold G_1 F_L_add
  rcases hk with ⟨rfl, rfl⟩ | ⟨rfl, rfl⟩ | ⟨rfl, rfl⟩
  · have hrb := hrb rfl
    subst hrb
    exact ⟨pl', hs', ho', hc', _, ms', mst', smn', mtp', mbt', _, by rw [eX, bd6_s, if_pos rfl, bd6_s, eM, bd7_s, if_pos (show F_X7_thrown 0 = 0 from rfl), if_pos rfl, if_pos ou_e], hP2, hH2, hT, hS⟩
  · exact ⟨pl', hs', ho', hc', _, ms', mst', smn', mtp', mbt', _, by rw [eX]; simp only [bd6_s, eM, bd7_s, F_X7_thrown]; first | rfl | simp, hP2, hH2, hT, hS⟩
  · exact ⟨pl', hs', ho', hc', _, ms', mst', smn', mtp', mbt', _, by rw [eX]; simp only [bd6_s, eM, bd7_s, F_X7_thrown]; first | rfl | simp, hP2, hH2, hT, hS⟩
theorem mG_2 (h : REL pl ch le hs ho hc sl fi ms mst smn msl mhs mtx mle) (a1 a2 a3 : Int32) : ∃ pl' hs' ho' hc' th' ms' mst' smn' mtp' mbt' ou', G_2 pl hs ho hc th ms mst smn mtp mbt ou a1 a2 a3 = some (pl', hs', ho', hc', th', ms', mst', smn', mtp', mbt', ou') ∧ REL pl' ch le hs' ho' hc' sl fi ms' mst' smn' msl mhs mtx mle := by
  obtain ⟨⟨N, E, hPL⟩, hHR, hT, hS⟩ := h
  obtain ⟨k, code, r, b, pl', hs', ho', hc', ms', mst', smn', mtp', mbt', hk, eX, eM, hrb, hP2, hH2⟩ := tak_p (th := th) (mtp := mtp) (mbt := mbt) hPL hHR a1 a2
  simp only [List.mem_cons, List.not_mem_nil, or_false, Prod.mk.injEq] at hk
  unfold G_2 F_L_takeAway
  rcases hk with ⟨rfl, rfl⟩ | ⟨rfl, rfl⟩ | ⟨rfl, rfl⟩
  · have hrb := hrb rfl
    subst hrb
    exact ⟨pl', hs', ho', hc', _, ms', mst', smn', mtp', mbt', _, by rw [eX, bd6_s, if_pos rfl, bd6_s, eM, bd7_s, if_pos (show F_X7_thrown 0 = 0 from rfl), if_pos rfl, if_pos ou_e], hP2, hH2, hT, hS⟩
  · exact ⟨pl', hs', ho', hc', _, ms', mst', smn', mtp', mbt', _, by rw [eX]; simp only [bd6_s, eM, bd7_s, F_X7_thrown]; first | rfl | simp, hP2, hH2, hT, hS⟩
  · exact ⟨pl', hs', ho', hc', _, ms', mst', smn', mtp', mbt', _, by rw [eX]; simp only [bd6_s, eM, bd7_s, F_X7_thrown]; first | rfl | simp, hP2, hH2, hT, hS⟩
theorem mG_3 (h : REL pl ch le hs ho hc sl fi ms mst smn msl mhs mtx mle) (a1 a2 a3 : Int32) : ∃ pl' hs' ho' hc' th' ms' mst' smn' mtp' mbt' ou', G_3 pl hs ho hc th ms mst smn mtp mbt ou a1 a2 a3 = some (pl', hs', ho', hc', th', ms', mst', smn', mtp', mbt', ou') ∧ REL pl' ch le hs' ho' hc' sl fi ms' mst' smn' msl mhs mtx mle := by
  obtain ⟨⟨N, E, hPL⟩, hHR, hT, hS⟩ := h
  obtain ⟨k, code, r, b, pl', hs', ho', hc', ms', mst', smn', mtp', mbt', hk, eX, eM, hrb, hP2, hH2⟩ := mul_p (th := th) (mtp := mtp) (mbt := mbt) hPL hHR a1 a2
  simp only [List.mem_cons, List.not_mem_nil, or_false, Prod.mk.injEq] at hk
  unfold G_3 F_L_multiply
  rcases hk with ⟨rfl, rfl⟩ | ⟨rfl, rfl⟩ | ⟨rfl, rfl⟩
  · have hrb := hrb rfl
    subst hrb
    exact ⟨pl', hs', ho', hc', _, ms', mst', smn', mtp', mbt', _, by rw [eX, bd6_s, if_pos rfl, bd6_s, eM, bd7_s, if_pos (show F_X7_thrown 0 = 0 from rfl), if_pos rfl, if_pos ou_e], hP2, hH2, hT, hS⟩
  · exact ⟨pl', hs', ho', hc', _, ms', mst', smn', mtp', mbt', _, by rw [eX]; simp only [bd6_s, eM, bd7_s, F_X7_thrown]; first | rfl | simp, hP2, hH2, hT, hS⟩
  · exact ⟨pl', hs', ho', hc', _, ms', mst', smn', mtp', mbt', _, by rw [eX]; simp only [bd6_s, eM, bd7_s, F_X7_thrown]; first | rfl | simp, hP2, hH2, hT, hS⟩
theorem mG_5 (h : REL pl ch le hs ho hc sl fi ms mst smn msl mhs mtx mle) (a1 a2 a3 : Int32) : ∃ pl' hs' ho' hc' th' ms' mst' smn' mtp' mbt' ou', G_5 pl hs ho hc th ms mst smn mtp mbt ou a1 a2 a3 = some (pl', hs', ho', hc', th', ms', mst', smn', mtp', mbt', ou') ∧ REL pl' ch le hs' ho' hc' sl fi ms' mst' smn' msl mhs mtx mle := by
  obtain ⟨⟨N, E, hPL⟩, hHR, hT, hS⟩ := h
  obtain ⟨k, code, r, b, pl', hs', ho', hc', ms', mst', smn', mtp', mbt', hk, eX, eM, hrb, hP2, hH2⟩ := inv_p (th := th) (mtp := mtp) (mbt := mbt) hPL hHR a1
  simp only [List.mem_cons, List.not_mem_nil, or_false, Prod.mk.injEq] at hk
  unfold G_5 F_L_invert
  rcases hk with ⟨rfl, rfl⟩ | ⟨rfl, rfl⟩ | ⟨rfl, rfl⟩
  · have hrb := hrb rfl
    subst hrb
    exact ⟨pl', hs', ho', hc', _, ms', mst', smn', mtp', mbt', _, by rw [eX, bd6_s, if_pos rfl, bd6_s, eM, bd7_s, if_pos (show F_X7_thrown 0 = 0 from rfl), if_pos rfl, if_pos ou_e], hP2, hH2, hT, hS⟩
  · exact ⟨pl', hs', ho', hc', _, ms', mst', smn', mtp', mbt', _, by rw [eX]; simp only [bd6_s, eM, bd7_s, F_X7_thrown]; first | rfl | simp, hP2, hH2, hT, hS⟩
  · exact ⟨pl', hs', ho', hc', _, ms', mst', smn', mtp', mbt', _, by rw [eX]; simp only [bd6_s, eM, bd7_s, F_X7_thrown]; first | rfl | simp, hP2, hH2, hT, hS⟩
theorem mG_6 (h : REL pl ch le hs ho hc sl fi ms mst smn msl mhs mtx mle) (a1 a2 a3 : Int32) : ∃ pl' hs' ho' hc' th' ms' mst' smn' mtp' mbt' ou', G_6 pl hs ho hc th ms mst smn mtp mbt ou a1 a2 a3 = some (pl', hs', ho', hc', th', ms', mst', smn', mtp', mbt', ou') ∧ REL pl' ch le hs' ho' hc' sl fi ms' mst' smn' msl mhs mtx mle := by
  obtain ⟨⟨N, E, hPL⟩, hHR, hT, hS⟩ := h
  obtain ⟨k, code, r, b, pl', hs', ho', hc', ms', mst', smn', mtp', mbt', hk, eX, eM, hrb, hP2, hH2⟩ := sha_p (th := th) (mtp := mtp) (mbt := mbt) hPL hHR a1 a2
  simp only [List.mem_cons, List.not_mem_nil, or_false, Prod.mk.injEq] at hk
  unfold G_6 F_L_share
  rcases hk with ⟨rfl, rfl⟩ | ⟨rfl, rfl⟩ | ⟨rfl, rfl⟩ | ⟨rfl, rfl⟩
  · have hrb := hrb rfl
    subst hrb
    exact ⟨pl', hs', ho', hc', _, ms', mst', smn', mtp', mbt', _, by rw [eX, bd6_s, if_pos rfl, bd6_s, eM, bd7_s, if_pos (show F_X7_thrown 0 = 0 from rfl), if_pos rfl, if_pos ou_e], hP2, hH2, hT, hS⟩
  · exact ⟨pl', hs', ho', hc', _, ms', mst', smn', mtp', mbt', _, by rw [eX]; simp only [bd6_s, eM, bd7_s, F_X7_thrown]; first | rfl | simp, hP2, hH2, hT, hS⟩
  · exact ⟨pl', hs', ho', hc', _, ms', mst', smn', mtp', mbt', _, by rw [eX]; simp only [bd6_s, eM, bd7_s, F_X7_thrown]; first | rfl | simp, hP2, hH2, hT, hS⟩
  · exact ⟨pl', hs', ho', hc', _, ms', mst', smn', mtp', mbt', _, by rw [eX]; simp only [bd6_s, eM, bd7_s, F_X7_thrown]; first | rfl | simp, hP2, hH2, hT, hS⟩
theorem mG_4 (h : REL pl ch le hs ho hc sl fi ms mst smn msl mhs mtx mle) (a1 a2 a3 : Int32) : ∃ pl' hs' ho' hc' th' ms' mst' smn' ou', G_4 pl hs ho hc th ms mst smn ou a1 a2 a3 = some (pl', hs', ho', hc', th', ms', mst', smn', ou') ∧ REL pl' ch le hs' ho' hc' sl fi ms' mst' smn' msl mhs mtx mle := by
  obtain ⟨⟨N, E, hPL⟩, hHR, hT, hS⟩ := h
  obtain ⟨k, code, r, b, pl', hs', ho', hc', ms', mst', smn', hk, eX, eM, hrb, hP2, hH2⟩ := cpy_p (th := th) hPL hHR a1 a2
  simp only [List.mem_cons, List.not_mem_nil, or_false, Prod.mk.injEq] at hk
  unfold G_4 F_L_copyTo
  rcases hk with ⟨rfl, rfl⟩ | ⟨rfl, rfl⟩
  · have hrb := hrb rfl
    subst hrb
    exact ⟨pl', hs', ho', hc', _, ms', mst', smn', _, by rw [eX, bd6_s, if_pos rfl, bd6_s, eM, bd5_s, if_pos (show F_X7_thrown 0 = 0 from rfl), if_pos rfl, if_pos ou_e], hP2, hH2, hT, hS⟩
  · exact ⟨pl', hs', ho', hc', _, ms', mst', smn', _, by rw [eX]; simp only [bd6_s, eM, bd5_s, F_X7_thrown]; first | rfl | simp, hP2, hH2, hT, hS⟩
end
