/-! unitCount and unitAt -/
def QU (X : Option (Nat × Int32)) (Mo : Option (Int32 × Int32 × (Nat → Int32) × Int32 × Int32)) (ks : List (Nat × Int32)) : Prop :=
  ∃ (k : Nat) (code r b mum' mau' : Int32) (mun' : Nat → Int32), (k, code) ∈ ks ∧ X = some (k, r) ∧ Mo = some (b, code, mun', mum', mau') ∧ (k = 0 → r = b)
section
variable {pl : Nat → Int64} {ms mun : Nat → Int32} {N E : Nat → Nat} {th mum mau : Int32}
theorem unp_e (hPL : PL pl ms N E) {p : Nat} (hp : p < 6) (hlt : N p < E p) : ∃ (L : Nat) (w : Nat → Nat) (e : Prop), L ≤ 6 ∧ (∀ j, j < L → 1 ≤ w j ∧ w j ≤ 1000000000) ∧
    (∀ i, i < 100 → (i < L → F_X5_unit (pl p) (nI i) = some (nI (w i))) ∧ (L ≤ i → e → F_X5_unit (pl p) (nI i) = some 0) ∧ (L ≤ i → ¬ e → F_X5_unit (pl p) (nI i) = some (-1))) ∧
    ∃ mun' z, F_X7_tellsUnits ms mun mum mau (nI p) = some (mun', nI L, z) ∧ ((e ∧ z = 1) ∨ (¬ e ∧ z = 0)) ∧ ∀ j, j < L → mun' j = nI (w j) := by
  obtain ⟨pa, pb, pc, f1, f2, f3, f4⟩ := hPL p hp
  obtain ⟨L, w, e, n1, n2, n3, n4, n5⟩ := uni_e 6 0 (N p) (E p) 1 (by omega) (by omega) (by omega) f1 (by omega) (fun _ => ⟨by omega, by rw [show sy 0 - 1 = 1 from rfl, Nat.mul_one]; exact hlt⟩)
  refine ⟨L, w, e, n2, fun j hj => n3 j (by omega) hj, fun i hi => ?_, ?_⟩
  · obtain ⟨p1, p2, p3⟩ := n4 i FU (by omega) hi (by rw [FU_eq]; omega)
    rw [Nat.one_mul, Nat.one_mul] at p1 p2 p3
    unfold F_X5_unit
    rw [pa, num_fz (by omega) (by omega), den_fz (by omega) f1 (by omega)]
    refine ⟨fun h => ?_, fun h he => ?_, fun h he => ?_⟩
    · rw [show L_X5_unit_14 FU (nI i) (lN (N p)) (lN (E p)) (0 : Int32) = some (1, lN (w i)) from p1 h, bd2_s, if_neg (by decide), if_pos rfl, lN_i]
    · obtain ⟨v, hv⟩ := p2 h he
      rw [show L_X5_unit_14 FU (nI i) (lN (N p)) (lN (E p)) (0 : Int32) = some (3, v) from hv, bd2_s, if_neg (by decide), if_neg (by decide), if_neg (by decide)]
    · obtain ⟨v, hv | hv⟩ := p3 h he
      · rw [show L_X5_unit_14 FU (nI i) (lN (N p)) (lN (E p)) (0 : Int32) = some (0, v) from hv, bd2_s, if_pos rfl]
      · rw [show L_X5_unit_14 FU (nI i) (lN (N p)) (lN (E p)) (0 : Int32) = some (2, v) from hv, bd2_s, if_neg (by decide), if_neg (by decide), if_pos rfl]
  · obtain ⟨mun', z, o1, o2, o3⟩ := n5 mun FU (by rw [FU_eq]; omega)
    refine ⟨mun', z, ?_, o2, fun j hj => by rw [o3 j, if_pos ⟨Nat.zero_le _, hj⟩]⟩
    unfold F_X7_tellsUnits
    rw [ab_e hp, bd1_s, be_e hp, bd1_s, pb, pc, nI_l (by omega), nI_l (by omega), show L_X7_tellsUnits_25 FU (lN (N p)) (lN (E p)) mun (0 : Int32) (1 : Int32) = some (mun', nI L, z) from o1, bd3_s]
theorem cnt_e {a1 : Int64} {L : Nat} {w : Nat → Nat} (hL : L ≤ 6) (hw : ∀ j, j < L → 1 ≤ w j ∧ w j ≤ 1000000000) (hu : ∀ i, i < L → F_X5_unit a1 (nI i) = some (nI (w i))) {rl : Int32} (hl : F_X5_unit a1 (nI L) = some rl) (hl2 : rl ≤ 0) : ∀ (m x f : Nat) (r : Int32), x + m = L → m < f → F_X5_unit a1 (nI x) = some r → L_X5_count_8 f a1 (nI x) r = some (nI L, rl) := by
  intro m
  induction m with
  | zero =>
    intro x f r hx hf hr
    obtain ⟨f, rfl⟩ : ∃ k, f = k + 1 := ⟨f - 1, by omega⟩
    have e : x = L := by omega
    subst e
    rw [hl] at hr
    have er : rl = r := Option.some.inj hr
    subst er
    rw [L_X5_count_8_s, if_neg (show ¬ (8 : Int32) ≤ nI x from by show ¬ nI 8 ≤ nI x; rw [nI_leI (by omega) (by omega)]; omega), if_pos hl2]
  | succ m ih =>
    intro x f r hx hf hr
    obtain ⟨f, rfl⟩ : ∃ k, f = k + 1 := ⟨f - 1, by omega⟩
    rw [hu x (by omega)] at hr
    have er : nI (w x) = r := Option.some.inj hr
    subst er
    obtain ⟨w1, w2⟩ := hw x (by omega)
    rw [L_X5_count_8_s, if_neg (show ¬ (8 : Int32) ≤ nI x from by show ¬ nI 8 ≤ nI x; rw [nI_leI (by omega) (by omega)]; omega), if_neg (show ¬ nI (w x) ≤ (0 : Int32) from by show ¬ nI (w x) ≤ nI 0; rw [nI_leI (by omega) (by omega)]; omega), show nI x + (1 : Int32) = nI (x + 1) from nI_1 x]
    by_cases c : x + 1 < L
    · rw [hu (x + 1) c, bd1_s]
      exact ih (x + 1) f _ (by omega) (by omega) (hu (x + 1) c)
    · have e : x + 1 = L := by omega
      rw [e, hl, bd1_s]
      have := ih (x + 1) f rl (by omega) (by omega) (by rw [e]; exact hl)
      rw [e] at this
      exact this
theorem less_e (hPL : PL pl ms N E) {p : Nat} (hp : p < 6) : F_X6_requireLessThanOne pl (nI p) = some (if N p < E p then 0 else 3) ∧ F_X7_isLess ms (nI p) = some (if N p < E p then 1 else 0) := by
  obtain ⟨pa, pb, pc, pd⟩ := hPL p hp
  obtain ⟨f1, f2, f3, f4⟩ := id pd
  have h11 : Fr 1 1 := ⟨by omega, by omega, by omega, rfl⟩
  unfold F_X6_requireLessThanOne F_X7_isLess
  rw [inb hp (by omega), cl_nI (by omega), pa, show (1048577 : Int64) = fz 1 1 from rfl, ord_e pd h11, ab_e hp, bd1_s, be_e hp, bd1_s, pb, pc]
  unfold cmpz
  rw [Nat.mul_one, Nat.one_mul]
  by_cases z1 : N p < E p
  · rw [if_pos z1, if_pos (by decide), if_neg (show ¬ nI (E p) ≤ nI (N p) by rw [nI_leI (by omega) (by omega)]; omega), if_pos z1, if_pos z1]
    exact ⟨rfl, rfl⟩
  · rw [if_neg z1, if_pos (show nI (E p) ≤ nI (N p) by rw [nI_leI (by omega) (by omega)]; omega), if_neg z1, if_neg z1]
    by_cases z2 : N p = E p
    · rw [if_pos z2, if_neg (by decide)]; exact ⟨rfl, rfl⟩
    · rw [if_neg z2, if_neg (by decide)]; exact ⟨rfl, rfl⟩
theorem uc_q (hPL : PL pl ms N E) (a1 : Int32) : QU (F_X6_unitCount pl a1) (F_X7_unitCount th ms mun mum mau a1) [(0, 0), (1, 1), (3, 2)] := by
  unfold F_X6_unitCount F_X7_unitCount
  rcases plate_cases a1 with ⟨p, hp, rfl, x1, y1⟩ | ⟨x1, y1⟩
  · obtain ⟨l1, l2⟩ := less_e hPL hp
    rw [rp_ok x1, bd1_s, if_pos rfl, l1, bd1_s, y1, if_neg n10, l2, bd1_s]
    by_cases c : N p < E p
    · obtain ⟨L, w, e, n2, n3, n4, mun', z, o1, o2, o3⟩ := unp_e (mun := mun) (mum := mum) (mau := mau) hPL hp c
      rw [if_pos c, if_pos c, if_pos rfl, if_neg n10, inb hp (by omega), cl_nI (by omega), o1, bd3_s]
      have hu : ∀ i, i < L → F_X5_unit (pl p) (nI i) = some (nI (w i)) := fun i hi => (n4 i (by omega)).1 hi
      have h0 : ∃ r0, F_X5_unit (pl p) (nI 0) = some r0 := by
        by_cases z0 : 0 < L
        · exact ⟨_, hu 0 z0⟩
        · rcases o2 with ⟨he, -⟩ | ⟨he, -⟩
          · exact ⟨_, (n4 0 (by omega)).2.1 (by omega) he⟩
          · exact ⟨_, (n4 0 (by omega)).2.2 (by omega) he⟩
      obtain ⟨r0, h0⟩ := h0
      unfold F_X5_count
      rw [show F_X5_unit (pl p) (0 : Int32) = some r0 from h0, bd1_s]
      rcases o2 with ⟨he, hz⟩ | ⟨he, hz⟩
      · have hl := (n4 L (by omega)).2.1 (Nat.le_refl _) he
        rw [show L_X5_count_8 FU (pl p) (0 : Int32) r0 = some (nI L, 0) from cnt_e n2 n3 hu hl (by decide) L 0 FU r0 (by omega) (by rw [FU_eq]; omega) h0, bd2_s, if_pos rfl, bd1_s, hz, if_neg n10]
        exact ⟨0, 0, _, _, _, _, _, by simp, rfl, rfl, fun _ => rfl⟩
      · have hl := (n4 L (by omega)).2.2 (Nat.le_refl _) he
        rw [show L_X5_count_8 FU (pl p) (0 : Int32) r0 = some (nI L, -1) from cnt_e n2 n3 hu hl (by decide) L 0 FU r0 (by omega) (by rw [FU_eq]; omega) h0, bd2_s, if_neg (by decide), bd1_s, hz, if_pos rfl]
        exact ⟨0, 0, _, _, _, _, _, by simp, rfl, rfl, fun _ => rfl⟩
    · rw [if_neg c, if_neg c, if_neg (by decide), if_pos rfl]
      exact ⟨3, 2, 0, 0, _, _, _, by simp, rfl, rfl, fun h => absurd h (by decide)⟩
  · rw [rp_no x1, bd1_s, if_neg (by decide), y1, if_pos rfl]
    exact ⟨1, 1, 0, 0, _, _, _, by simp, rfl, rfl, fun h => absurd h (by decide)⟩
theorem ua_q (hPL : PL pl ms N E) (a1 a2 : Int32) : QU (F_X6_unitAt pl a1 a2) (F_X7_unitAt th ms mun mum mau a1 a2) [(0, 0), (1, 1), (3, 2)] := by
  unfold F_X6_unitAt F_X7_unitAt
  rcases plate_cases a1 with ⟨p, hp, rfl, x1, y1⟩ | ⟨x1, y1⟩
  · obtain ⟨l1, l2⟩ := less_e hPL hp
    rw [rp_ok x1, bd1_s, if_pos rfl, y1, if_neg n10]
    rcases in_cases a2 0 3 (by omega) (by omega) with ⟨i, i1, i2, rfl, z1⟩ | ⟨z1, z2⟩
    · rw [if_neg (show ¬ nI i < (0 : Int32) from by show ¬ nI i < nI 0; rw [nI_ltI (by omega) (by omega)]; omega), if_pos (show nI i < (4 : Int32) from by show nI i < nI 4; rw [nI_ltI (by omega) (by omega)]; omega), l1, bd1_s, show F_X7_in (nI i) (0 : Int32) (3 : Int32) = 1 from z1, if_neg n10, l2, bd1_s]
      by_cases c : N p < E p
      · obtain ⟨L, w, e, n2, n3, n4, mun', z, o1, o2, o3⟩ := unp_e (mun := mun) (mum := mum) (mau := mau) hPL hp c
        rw [if_pos c, if_pos c, if_pos rfl, if_neg n10, inb hp (by omega), cl_nI (by omega), o1, bd3_s]
        obtain ⟨p1, p2, p3⟩ := n4 i (by omega)
        by_cases z : i < L
        · obtain ⟨w1, w2⟩ := n3 i z
          rw [p1 z, bd1_s, if_neg (show ¬ nI (w i) = (0 : Int32) from by show ¬ nI (w i) = nI 0; rw [nI_eq (by omega) (by omega)]; omega), if_neg (show ¬ nI L ≤ nI i by rw [nI_leI (by omega) (by omega)]; omega), inb (by omega) (by omega), cl_nI (by omega), o3 i z]
          exact ⟨0, 0, _, _, _, _, _, by simp, rfl, rfl, fun _ => rfl⟩
        · rw [if_pos (show nI L ≤ nI i by rw [nI_leI (by omega) (by omega)]; omega)]
          rcases o2 with ⟨he, hz⟩ | ⟨he, hz⟩
          · rw [p2 (by omega) he, bd1_s, if_pos rfl]
            exact ⟨0, 0, _, _, _, _, _, by simp, rfl, rfl, fun _ => rfl⟩
          · rw [p3 (by omega) he, bd1_s, if_neg (by decide)]
            exact ⟨0, 0, _, _, _, _, _, by simp, rfl, rfl, fun _ => rfl⟩
      · rw [if_neg c, if_neg c, if_neg (by decide), if_pos rfl]
        exact ⟨3, 2, 0, 0, _, _, _, by simp, rfl, rfl, fun h => absurd h (by decide)⟩
    · have ee : (if a2 < (0 : Int32) then (some (1, 0)) else (if a2 < (4 : Int32) then (bd1 (F_X6_requireLessThanOne pl (nI p)) (fun (k6 : Nat) => if k6 = 0 then (if (nI p < 0 ∨ 6 ≤ (nI p).toNatClampNeg) then none else bd1 (F_X5_unit (pl (nI p).toNatClampNeg) a2) (fun (r10 : Int32) => some (0, (if r10 = (0 : Int32) then (-1 : Int32) else r10)))) else (some (k6, 0)))) else (some (1, 0)))) = some ((1 : Nat), (0 : Int32)) := by
        rcases z2 with z2 | ⟨z2, z3⟩
        · rw [if_pos (show a2 < 0 from z2)]
        · rw [if_neg (show ¬ a2 < 0 from z2), if_neg]
          rw [Int32.lt_iff_toInt_lt] at z3 ⊢
          rw [nI_toInt (by omega)] at z3
          have e2 : (4 : Int32).toInt = 4 := by decide
          omega
      rw [ee, show F_X7_in a2 (0 : Int32) (3 : Int32) = 0 from z1, if_pos rfl]
      exact ⟨1, 1, 0, 0, _, _, _, by simp, rfl, rfl, fun h => absurd h (by decide)⟩
  · rw [rp_no x1, bd1_s, if_neg (by decide), y1, if_pos rfl]
    exact ⟨1, 1, 0, 0, _, _, _, by simp, rfl, rfl, fun h => absurd h (by decide)⟩
end
section
variable {pl hs sl ou : Nat → Int64} {ho hc smn th le mle : Int32} {ch fi ms mst msl mhs mtx : Nat → Int32} {N E : Nat → Nat} {mum mau : Int32} {mun : Nat → Int32}
theorem mG_21 (h : REL pl ch le hs ho hc sl fi ms mst smn msl mhs mtx mle) (a1 a2 a3 : Int32) : ∃ th' mun' mum' mau' ou', G_21 pl th ms mun mum mau ou a1 a2 a3 = some (th', mun', mum', mau', ou') := by
  obtain ⟨⟨N, E, hPL⟩, -⟩ := h
  obtain ⟨k, code, r, b, mum', mau', mun', hk, eX, eM, hrb⟩ := uc_q (th := th) (mun := mun) (mum := mum) (mau := mau) hPL a1
  simp only [List.mem_cons, List.not_mem_nil, or_false, Prod.mk.injEq] at hk
  unfold G_21 F_L_unitCount
  rcases hk with ⟨rfl, rfl⟩ | ⟨rfl, rfl⟩ | ⟨rfl, rfl⟩
  · have hrb := hrb rfl
    subst hrb
    exact ⟨_, _, _, _, _, by rw [eX, bd2_s, if_pos rfl, bd2_s, eM, bd5_s, if_pos (show F_X7_thrown 0 = 0 from rfl), if_pos rfl, if_pos ou_e]⟩
  · exact ⟨_, _, _, _, _, by rw [eX, bd2_s, if_neg (by decide), if_pos rfl, bd2_s, eM, bd5_s, if_pos (show F_X7_thrown 1 = 1 from rfl), if_neg (by decide)]⟩
  · exact ⟨_, _, _, _, _, by rw [eX, bd2_s, if_neg (by decide), if_neg (by decide), if_pos rfl, bd2_s, eM, bd5_s, if_pos (show F_X7_thrown 2 = 2 from rfl), if_neg (by decide)]⟩

theorem mG_22 (h : REL pl ch le hs ho hc sl fi ms mst smn msl mhs mtx mle) (a1 a2 a3 : Int32) : ∃ th' mun' mum' mau' ou', G_22 pl th ms mun mum mau ou a1 a2 a3 = some (th', mun', mum', mau', ou') := by
  obtain ⟨⟨N, E, hPL⟩, -⟩ := h
  obtain ⟨k, code, r, b, mum', mau', mun', hk, eX, eM, hrb⟩ := ua_q (th := th) (mun := mun) (mum := mum) (mau := mau) hPL a1 a2
  simp only [List.mem_cons, List.not_mem_nil, or_false, Prod.mk.injEq] at hk
  unfold G_22 F_L_unitAt
  rcases hk with ⟨rfl, rfl⟩ | ⟨rfl, rfl⟩ | ⟨rfl, rfl⟩
  · have hrb := hrb rfl
    subst hrb
    exact ⟨_, _, _, _, _, by rw [eX, bd2_s, if_pos rfl, bd2_s, eM, bd5_s, if_pos (show F_X7_thrown 0 = 0 from rfl), if_pos rfl, if_pos ou_e]⟩
  · exact ⟨_, _, _, _, _, by rw [eX, bd2_s, if_neg (by decide), if_pos rfl, bd2_s, eM, bd5_s, if_pos (show F_X7_thrown 1 = 1 from rfl), if_neg (by decide)]⟩
  · exact ⟨_, _, _, _, _, by rw [eX, bd2_s, if_neg (by decide), if_neg (by decide), if_pos rfl, bd2_s, eM, bd5_s, if_pos (show F_X7_thrown 2 = 2 from rfl), if_neg (by decide)]⟩

end
