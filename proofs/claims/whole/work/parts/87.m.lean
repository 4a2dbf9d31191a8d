/-! the text: appending, clearing, its length -/
theorem ash_e {w k : Nat} (hw : w < 2 ^ 64) (hk : k ≤ 56) : (lN w >>> ((nI k).toInt64 &&& 63)) &&& (255 : Int64) = lN (w / 2 ^ k % 256) := by
  rw [wb_c k (by omega)]
  apply wb_inj
  show ((BitVec.ofNat 64 w).sshiftRight' ((BitVec.ofNat 64 k).smod 64)) &&& (BitVec.ofNat 64 255) = BitVec.ofNat 64 (w / 2 ^ k % 256)
  rw [wb_sm k (by omega), BitVec.sshiftRight_eq', BitVec.toNat_ofNat, Nat.mod_eq_of_lt (show k < 2 ^ 64 by omega)]
  apply BitVec.eq_of_getLsbD_eq
  intro i hi
  rw [BitVec.getLsbD_and, BitVec.getLsbD_sshiftRight, BitVec.getLsbD_ofNat, BitVec.getLsbD_ofNat, BitVec.getLsbD_ofNat, show (256 : Nat) = 2 ^ 8 from rfl, Nat.testBit_mod_two_pow, Nat.testBit_div_two_pow, show (255 : Nat) = 2 ^ 8 - 1 from rfl, Nat.testBit_two_pow_sub_one]
  by_cases c : i < 8
  · rw [if_pos (show k + i < 64 by omega)]
    simp [c, hi, show k + i < 64 by omega, Nat.add_comm]
  · simp [c]
/-- byte j of a text -/
def by8 (w j : Nat) : Nat := w / 256 ^ j % 256
theorem p256 (j : Nat) : 2 ^ (8 * j) = 256 ^ j := by rw [Nat.pow_mul]
theorem by_m {w j : Nat} (hw : w < 2 ^ 64) (hj : j < 8) : ((lN w >>> (((8 : Int32) * nI j).toInt64 &&& 63)) &&& (255 : Int64)).toInt32 = nI (by8 w j) := by
  rw [show (8 : Int32) * nI j = nI (8 * j) from pk_mul 8 j, ash_e hw (by omega), lN_i, p256]
  rfl
theorem by_x {w j : Nat} (hw : w < 2 ^ 64) (hj : j < 8) : (((lN w).toUInt64 >>> ((nI j * (8 : Int32)).toInt64.toUInt64 &&& Int64.toUInt64 63)).toInt64 &&& (255 : Int64)).toInt32 = nI (by8 w j) := by
  have h1 : w / 2 ^ (8 * j) ≤ w := Nat.div_le_self _ _
  rw [show nI j * (8 : Int32) = nI (8 * j) from by rw [Nat.mul_comm]; exact pk_mul j 8, wb_shr hw (by omega), show (255 : Int64) = lN (2 ^ 8 - 1) from rfl, wb_mask (by omega) (by decide), lN_i, p256]
  rfl
theorem by_l (w j : Nat) : by8 w j < 256 := Nat.mod_lt _ (by decide)
/-- the model, after an error -/
theorem bad_e {w : Nat} : ∀ (m i f : Nat) (x1 x2 : Int32), i + m = 8 → m < f → ∃ v, L_X7_appendText_16 f (lN w) x1 x2 0 (nI i) = some (v, 0) := by
  intro m
  induction m with
  | zero =>
    intro i f x1 x2 hi hf
    obtain ⟨f, rfl⟩ : ∃ k, f = k + 1 := ⟨f - 1, by omega⟩
    have e : i = 8 := by omega
    subst e
    exact ⟨x1, by rw [L_X7_appendText_16_s, if_pos (show (8 : Int32) ≤ nI 8 from by show nI 8 ≤ nI 8; rw [nI_leI (by omega) (by omega)]; omega)]⟩
  | succ m ih =>
    intro i f x1 x2 hi hf
    obtain ⟨f, rfl⟩ : ∃ k, f = k + 1 := ⟨f - 1, by omega⟩
    rw [L_X7_appendText_16_s, if_neg (show ¬ (8 : Int32) ≤ nI i from by show ¬ nI 8 ≤ nI i; rw [nI_leI (by omega) (by omega)]; omega), show nI i + (1 : Int32) = nI (i + 1) from nI_1 i, if_pos (show (0 : Int32) = 0 from rfl)]
    exact ih (i + 1) f _ _ (by omega) (by omega)
/-- the model, behind the end -/
theorem end_e {w : Nat} (hw : w < 2 ^ 64) : ∀ (m i f : Nat) (x1 : Int32), i + m = 8 → m < f → (w / 256 ^ i = 0 → L_X7_appendText_16 f (lN w) x1 1 1 (nI i) = some (x1, 1)) ∧ (¬ w / 256 ^ i = 0 → ∃ v, L_X7_appendText_16 f (lN w) x1 1 1 (nI i) = some (v, 0)) := by
  intro m
  induction m with
  | zero =>
    intro i f x1 hi hf
    obtain ⟨f, rfl⟩ : ∃ k, f = k + 1 := ⟨f - 1, by omega⟩
    have e : i = 8 := by omega
    subst e
    refine ⟨fun _ => by rw [L_X7_appendText_16_s, if_pos (show (8 : Int32) ≤ nI 8 from by show nI 8 ≤ nI 8; rw [nI_leI (by omega) (by omega)]; omega)], fun h => ?_⟩
    exfalso
    apply h
    exact Nat.div_eq_of_lt (by omega)
  | succ m ih =>
    intro i f x1 hi hf
    obtain ⟨f, rfl⟩ : ∃ k, f = k + 1 := ⟨f - 1, by omega⟩
    have e1 : w / 256 ^ (i + 1) = w / 256 ^ i / 256 := by rw [Nat.pow_succ, Nat.div_div_eq_div_mul]
    obtain ⟨i1, i2⟩ := ih (i + 1) f x1 (by omega) (by omega)
    rw [e1] at i1 i2
    rw [L_X7_appendText_16_s, if_neg (show ¬ (8 : Int32) ≤ nI i from by show ¬ nI 8 ≤ nI i; rw [nI_leI (by omega) (by omega)]; omega), show nI i + (1 : Int32) = nI (i + 1) from nI_1 i, by_m hw (by omega), if_neg n10, if_neg n10, if_neg n10, Int32.add_zero]
    have bl := by_l w i
    have eb : by8 w i = w / 256 ^ i % 256 := rfl
    by_cases c : by8 w i = 0
    · rw [if_pos (show nI (by8 w i) = (0 : Int32) by rw [c]; rfl)]
      exact ⟨fun h => i1 (by omega), fun h => i2 (by omega)⟩
    · rw [if_neg (show ¬ nI (by8 w i) = (0 : Int32) from by show ¬ nI (by8 w i) = nI 0; rw [nI_eq (by omega) (by omega)]; omega)]
      refine ⟨fun h => by omega, fun h => bad_e m (i + 1) f _ _ (by omega) (by omega)⟩
/-- the class's and the model's count -/
theorem chc_e {w : Nat} (hw : w < 2 ^ 64) : ∀ (m i f f' : Nat), i + m = 8 → m < f → m < f' → (∃ c, i ≤ c ∧ c ≤ 8 ∧ L_X1_characterCount_4 f (nI i) (lN (w / 256 ^ i)) = some (1, nI c) ∧ L_X7_appendText_16 f' (lN w) (nI i) 0 1 (nI i) = some (nI c, 1) ∧ ∀ j, i ≤ j → j < c → 33 ≤ by8 w j ∧ by8 w j ≤ 126) ∨ (∃ v v', L_X1_characterCount_4 f (nI i) (lN (w / 256 ^ i)) = some (0, v) ∧ L_X7_appendText_16 f' (lN w) (nI i) 0 1 (nI i) = some (v', 0)) := by
  intro m
  induction m with
  | zero =>
    intro i f f' hi hf hf'
    obtain ⟨f, rfl⟩ : ∃ k, f = k + 1 := ⟨f - 1, by omega⟩
    obtain ⟨f', rfl⟩ : ∃ k, f' = k + 1 := ⟨f' - 1, by omega⟩
    have e : i = 8 := by omega
    subst e
    left
    exact ⟨8, Nat.le_refl _, Nat.le_refl _, by rw [L_X1_characterCount_4_s, if_pos (show (8 : Int32) ≤ nI 8 from by show nI 8 ≤ nI 8; rw [nI_leI (by omega) (by omega)]; omega)], by rw [L_X7_appendText_16_s, if_pos (show (8 : Int32) ≤ nI 8 from by show nI 8 ≤ nI 8; rw [nI_leI (by omega) (by omega)]; omega)], fun j h1 h2 => by omega⟩
  | succ m ih =>
    intro i f f' hi hf hf'
    obtain ⟨f, rfl⟩ : ∃ k, f = k + 1 := ⟨f - 1, by omega⟩
    obtain ⟨f', rfl⟩ : ∃ k, f' = k + 1 := ⟨f' - 1, by omega⟩
    have e1 : w / 256 ^ (i + 1) = w / 256 ^ i / 256 := by rw [Nat.pow_succ, Nat.div_div_eq_div_mul]
    have bl := by_l w i
    have eb : by8 w i = w / 256 ^ i % 256 := rfl
    have wl : w / 256 ^ i ≤ w := Nat.div_le_self _ _
    have ex : ((lN (w / 256 ^ i) &&& (255 : Int64)).toInt32) = nI (by8 w i) := by
      rw [show (255 : Int64) = lN (2 ^ 8 - 1) from rfl, wb_mask (by omega) (by decide), lN_i]
      rfl
    have es : (((lN (w / 256 ^ i)).toUInt64 >>> ((8 : Int32).toInt64.toUInt64 &&& Int64.toUInt64 63)).toInt64) = lN (w / 256 ^ (i + 1)) := by
      rw [show (8 : Int32) = nI 8 from rfl, wb_shr (by omega) (by decide), e1]
    rw [L_X1_characterCount_4_s, L_X7_appendText_16_s, if_neg (show ¬ (8 : Int32) ≤ nI i from by show ¬ nI 8 ≤ nI i; rw [nI_leI (by omega) (by omega)]; omega), if_neg (show ¬ (8 : Int32) ≤ nI i from by show ¬ nI 8 ≤ nI i; rw [nI_leI (by omega) (by omega)]; omega), ex, es, by_m hw (by omega), show nI i + (1 : Int32) = nI (i + 1) from nI_1 i, if_pos (show (0 : Int32) = 0 from rfl), if_neg n10]
    have hz : (lN (w / 256 ^ i) = (0 : Int64)) ↔ w / 256 ^ i = 0 := by
      constructor
      · intro h
        have h2 := congrArg (fun x : Int64 => x.toBitVec.toNat) h
        have h3 : (lN (w / 256 ^ i)).toBitVec.toNat = w / 256 ^ i := wb_tn (by omega)
        have h4 : (lN (w / 256 ^ i)).toBitVec.toNat = (0 : Int64).toBitVec.toNat := h2
        rw [h3] at h4
        exact h4
      · intro h; rw [h]; rfl
    by_cases c : w / 256 ^ i = 0
    · left
      have b0 : by8 w i = 0 := by omega
      rw [if_pos (hz.mpr c), if_pos (show nI (by8 w i) = (0 : Int32) by rw [b0]; rfl), if_neg n10, if_neg n10, Int32.add_zero]
      refine ⟨i, Nat.le_refl _, by omega, rfl, ?_, fun j h1 h2 => by omega⟩
      exact (end_e hw m (i + 1) f' (nI i) (by omega) (by omega)).1 (by rw [e1, c])
    · rw [if_neg (fun h => c (hz.mp h))]
      by_cases b0 : by8 w i = 0
      · right
        rw [if_pos (show nI (by8 w i) = (0 : Int32) by rw [b0]; rfl), if_neg n10, if_neg n10, Int32.add_zero, if_pos (show nI (by8 w i) < (33 : Int32) from by show nI (by8 w i) < nI 33; rw [nI_ltI (by omega) (by omega)]; omega)]
        obtain ⟨v, hv⟩ := (end_e hw m (i + 1) f' (nI i) (by omega) (by omega)).2 (by rw [e1]; omega)
        exact ⟨_, v, rfl, hv⟩
      · rw [if_neg (show ¬ nI (by8 w i) = (0 : Int32) from by show ¬ nI (by8 w i) = nI 0; rw [nI_eq (by omega) (by omega)]; omega), if_pos (show (0 : Int32) = 0 from rfl), if_pos (show (0 : Int32) = 0 from rfl), show nI i + (1 : Int32) = nI (i + 1) from nI_1 i]
        by_cases r : 33 ≤ by8 w i ∧ by8 w i ≤ 126
        · have ei : F_X7_in (nI (by8 w i)) (33 : Int32) (126 : Int32) = 1 := by
            unfold F_X7_in
            rw [if_neg (show ¬ nI (by8 w i) < (33 : Int32) from by show ¬ nI (by8 w i) < nI 33; rw [nI_ltI (by omega) (by omega)]; omega), if_neg (show ¬ (126 : Int32) < nI (by8 w i) from by show ¬ nI 126 < nI (by8 w i); rw [nI_ltI (by omega) (by omega)]; omega)]
          rw [if_neg (show ¬ nI (by8 w i) < (33 : Int32) from by show ¬ nI (by8 w i) < nI 33; rw [nI_ltI (by omega) (by omega)]; omega), if_pos (show nI (by8 w i) ≤ (126 : Int32) from by show nI (by8 w i) ≤ nI 126; rw [nI_leI (by omega) (by omega)]; omega), ei, if_neg n10]
          rcases ih (i + 1) f f' (by omega) (by omega) (by omega) with ⟨k, k1, k2, k3, k4, k5⟩ | ⟨v, v', k3, k4⟩
          · left
            refine ⟨k, by omega, k2, k3, k4, fun j h1 h2 => ?_⟩
            by_cases z : j = i
            · subst z; exact r
            · exact k5 j (by omega) h2
          · right
            exact ⟨v, v', k3, k4⟩
        · right
          have ei : F_X7_in (nI (by8 w i)) (33 : Int32) (126 : Int32) = 0 := by
            unfold F_X7_in
            by_cases z : by8 w i < 33
            · rw [if_pos (show nI (by8 w i) < (33 : Int32) from by show nI (by8 w i) < nI 33; rw [nI_ltI (by omega) (by omega)]; omega)]
            · rw [if_neg (show ¬ nI (by8 w i) < (33 : Int32) from by show ¬ nI (by8 w i) < nI 33; rw [nI_ltI (by omega) (by omega)]; omega), if_pos (show (126 : Int32) < nI (by8 w i) from by show nI 126 < nI (by8 w i); rw [nI_ltI (by omega) (by omega)]; omega)]
          rw [ei, if_pos (show (0 : Int32) = 0 from rfl)]
          obtain ⟨v, hv⟩ := bad_e (w := w) m (i + 1) f' (nI (i + 1)) 0 (by omega) (by omega)
          by_cases z : by8 w i < 33
          · rw [if_pos (show nI (by8 w i) < (33 : Int32) from by show nI (by8 w i) < nI 33; rw [nI_ltI (by omega) (by omega)]; omega)]
            exact ⟨_, v, rfl, hv⟩
          · rw [if_neg (show ¬ nI (by8 w i) < (33 : Int32) from by show ¬ nI (by8 w i) < nI 33; rw [nI_ltI (by omega) (by omega)]; omega), if_neg (show ¬ nI (by8 w i) ≤ (126 : Int32) from by show ¬ nI (by8 w i) ≤ nI 126; rw [nI_leI (by omega) (by omega)]; omega)]
            exact ⟨_, v, rfl, hv⟩
/-- both append -/
theorem app_e {w : Nat} (hw : w < 2 ^ 64) : ∀ (j n f f' : Nat) (ch mtx : Nat → Int32), j ≤ 8 → n + j ≤ 80 → j < f → j < f' → (∀ i, i < j → 33 ≤ by8 w i ∧ by8 w i ≤ 126) → (∀ i, i < n → ∃ c : Nat, 33 ≤ c ∧ c ≤ 126 ∧ ch i = nI c ∧ mtx i = nI c) → ∃ ch' mtx', L_X1_append_5 f (lN w) (nI j - 1) ch (nI n) = some (ch', nI (n + j)) ∧ L_X7_appendText_147 f' (lN w) (nI j - 1) mtx (nI n) = some (mtx', nI (n + j)) ∧ ∀ i, i < n + j → ∃ c : Nat, 33 ≤ c ∧ c ≤ 126 ∧ ch' i = nI c ∧ mtx' i = nI c := by
  intro j
  induction j with
  | zero =>
    intro n f f' ch mtx _ _ hf hf' _ ht
    obtain ⟨f, rfl⟩ : ∃ k, f = k + 1 := ⟨f - 1, by omega⟩
    obtain ⟨f', rfl⟩ : ∃ k, f' = k + 1 := ⟨f' - 1, by omega⟩
    exact ⟨ch, mtx, by rw [L_X1_append_5_s, if_pos (by decide), Nat.add_zero], by rw [L_X7_appendText_147_s, if_pos (by decide), Nat.add_zero], ht⟩
  | succ j ih =>
    intro n f f' ch mtx hj hn hf hf' hb ht
    obtain ⟨f, rfl⟩ : ∃ k, f = k + 1 := ⟨f - 1, by omega⟩
    obtain ⟨f', rfl⟩ : ∃ k, f' = k + 1 := ⟨f' - 1, by omega⟩
    have ej : nI (j + 1) - (1 : Int32) = nI j := nI_pred j
    obtain ⟨b1, b2⟩ := hb j (by omega)
    have ec : vp_nar .char ((nI (by8 w j)).toUInt32 % 65536).toInt32 = nI (by8 w j) := by
      rw [pk_vc, pk_char, pk_tn (by omega), Nat.mod_eq_of_lt (by omega)]
    rw [L_X1_append_5_s, L_X7_appendText_147_s, ej, if_neg (show ¬ nI j < (0 : Int32) from by show ¬ nI j < nI 0; rw [nI_ltI (by omega) (by omega)]; omega), if_neg (show ¬ nI j < (0 : Int32) from by show ¬ nI j < nI 0; rw [nI_ltI (by omega) (by omega)]; omega), inb (by omega) (by omega), inb (by omega) (by omega), cl_nI (by omega), by_x hw (by omega), by_m hw (by omega), ec, show nI j + (-1 : Int32) = nI j - 1 from (Int32.sub_eq_add_neg _ _).symm, show nI n + (1 : Int32) = nI (n + 1) from nI_1 n, show n + (j + 1) = n + 1 + j from by omega]
    exact ih (n + 1) f f' _ _ (by omega) (by omega) (by omega) (by omega) (fun i hi => hb i (by omega)) (fun i hi => by
      by_cases c : i = n
      · subst c; exact ⟨by8 w j, b1, b2, pk_us, pk_us⟩
      · rw [pk_un c, pk_un c]; exact ht i (by omega))
section
variable {pl hs sl ou : Nat → Int64} {ho hc smn th le mle : Int32} {ch fi ms mst msl mhs mtx : Nat → Int32} {N E : Nat → Nat}
theorem mG_27 (h : REL pl ch le hs ho hc sl fi ms mst smn msl mhs mtx mle) (a1 a2 a3 : Int32) : ∃ le' th' mle', G_27 le th mle a1 a2 a3 = some (le', th', mle') ∧ REL pl ch le' hs ho hc sl fi ms mst smn msl mhs mtx mle' := by
  obtain ⟨hP, hHR, ⟨n, n1, n2, n3, n4⟩, hS⟩ := h
  subst n2
  subst n3
  unfold G_27 F_X6_clearText F_X7_clearText F_X1_empty F_X1_length
  exact ⟨0, 0, 0, by rw [bd1_s, bd2_s, bd3_s, if_pos rfl], hP, hHR, ⟨0, by omega, rfl, rfl, fun i hi => by omega⟩, hS⟩
theorem mG_28 (h : REL pl ch le hs ho hc sl fi ms mst smn msl mhs mtx mle) (a1 a2 a3 : Int32) : ∃ th', G_28 le th mle a1 a2 a3 = some th' := by
  obtain ⟨hP, hHR, ⟨n, n1, n2, n3, n4⟩, hS⟩ := h
  subst n2
  subst n3
  unfold G_28 F_X6_textLength F_X7_textLength F_X1_length
  exact ⟨0, by rw [bd2_s, if_pos rfl]⟩
theorem mG_26 (h : REL pl ch le hs ho hc sl fi ms mst smn msl mhs mtx mle) (a1 a2 a3 : Int32) : ∃ ch' le' th' mtx' mle' ou', G_26 ch le th mtx mle ou a1 a2 a3 = some (ch', le', th', mtx', mle', ou') ∧ REL pl ch' le' hs ho hc sl fi ms mst smn msl mhs mtx' mle' := by
  obtain ⟨hP, hHR, ⟨n, n1, n2, n3, n4⟩, hS⟩ := h
  subst n2
  subst n3
  unfold G_26
  generalize ((a1.toInt64 <<< ((32 : Int32).toInt64 &&& 63)) ||| (a2.toInt64 &&& (4294967295 : Int64))) = x
  obtain ⟨w, hw, rfl⟩ := wb_of x
  unfold F_L_appendText F_X6_appendText F_X7_appendText F_X1_characterCount F_X1_hasRoomFor F_X1_append F_X1_length
  have hT : TR ch (nI n) mtx (nI n) := ⟨n, n1, rfl, rfl, n4⟩
  rcases chc_e hw 8 0 FU FU (by omega) (by rw [FU_eq]; omega) (by rw [FU_eq]; omega) with ⟨c, c1, c2, r1, r2, r3⟩ | ⟨v, v', r1, r2⟩
  · rw [Nat.pow_zero, Nat.div_one] at r1
    rw [show L_X1_characterCount_4 FU (0 : Int32) (lN w) = some (1, nI c) from r1, bd2_s, if_neg (by decide), bd1_s, show L_X7_appendText_16 FU (lN w) (0 : Int32) (0 : Int32) (1 : Int32) (0 : Int32) = some (nI c, 1) from r2, bd2_s, if_neg n10]
    by_cases z : c = 0
    · subst z
      exact ⟨ch, nI n, _, mtx, nI n, ou, by rw [if_neg (show ¬ (1 : Int32) ≤ nI 0 by decide), bd4_s, if_neg (by decide), if_pos rfl, bd4_s, if_pos (show nI 0 = (0 : Int32) from rfl)]; rfl, hP, hHR, hT, hS⟩
    · rw [if_pos (show (1 : Int32) ≤ nI c from by show nI 1 ≤ nI c; rw [nI_leI (by omega) (by omega)]; omega), if_neg (show ¬ nI c = (0 : Int32) from by show ¬ nI c = nI 0; rw [nI_eq (by omega) (by omega)]; omega), nI_add]
      by_cases r : n + c ≤ 80
      · obtain ⟨ch', mtx', q1, q2, q3⟩ := app_e hw c n FU FU ch mtx c2 r (by rw [FU_eq]; omega) (by rw [FU_eq]; omega) (fun i hi => r3 i (by omega) hi) n4
        have g1 : (if (80 : Int32) < nI (n + c) then (0 : Int32) else 1) = 1 := by rw [if_neg (show ¬ (80 : Int32) < nI (n + c) from by show ¬ nI 80 < nI (n + c); rw [nI_ltI (by omega) (by omega)]; omega)]
        rw [g1, if_neg n10, q1, bd2_s, bd2_s, bd4_s, if_pos rfl, bd4_s, if_pos (show nI (n + c) ≤ (80 : Int32) from by show nI (n + c) ≤ nI 80; rw [nI_leI (by omega) (by omega)]; omega), q2, bd2_s, bd4_s]
        exact ⟨ch', nI (n + c), _, mtx', nI (n + c), _, by rw [if_pos (show F_X7_thrown 0 = 0 from rfl), if_pos rfl, if_pos ou_e], hP, hHR, ⟨n + c, r, rfl, rfl, q3⟩, hS⟩
      · have g1 : (if (80 : Int32) < nI (n + c) then (0 : Int32) else 1) = 0 := by rw [if_pos (show (80 : Int32) < nI (n + c) from by show nI 80 < nI (n + c); rw [nI_ltI (by omega) (by omega)]; omega)]
        rw [g1, if_pos rfl, bd4_s, if_neg (by decide), if_neg (by decide), if_pos rfl, bd4_s, if_neg (show ¬ nI (n + c) ≤ (80 : Int32) from by show ¬ nI (n + c) ≤ nI 80; rw [nI_leI (by omega) (by omega)]; omega)]
        exact ⟨ch, nI n, _, mtx, nI n, ou, rfl, hP, hHR, hT, hS⟩
  · rw [Nat.pow_zero, Nat.div_one] at r1
    rw [show L_X1_characterCount_4 FU (0 : Int32) (lN w) = some (0, v) from r1, bd2_s, if_pos rfl, bd1_s, show L_X7_appendText_16 FU (lN w) (0 : Int32) (0 : Int32) (1 : Int32) (0 : Int32) = some (v', 0) from r2, bd2_s, if_pos rfl, if_neg (show ¬ (1 : Int32) ≤ 0 by decide), bd4_s, if_neg (by decide), if_pos rfl, bd4_s]
    exact ⟨ch, nI n, _, mtx, nI n, ou, rfl, hP, hHR, hT, hS⟩
end
