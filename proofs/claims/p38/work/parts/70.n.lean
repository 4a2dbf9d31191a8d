/-! ===== lN n to 2^64: shifts, and, or, masks, one bit ===== -/
theorem wb_tb (n : Nat) : (lN n).toBitVec = BitVec.ofNat 64 n := rfl
theorem wb_inj {a b : Int64} (h : a.toBitVec = b.toBitVec) : a = b := Int64.toBitVec_inj.mp h
theorem wb_tn {n : Nat} (h : n < 2 ^ 64) : (lN n).toBitVec.toNat = n := by rw [wb_tb, BitVec.toNat_ofNat, Nat.mod_eq_of_lt h]
theorem wb_of (x : Int64) : ∃ n, n < 2 ^ 64 ∧ x = lN n := ⟨x.toBitVec.toNat, x.toBitVec.isLt, wb_inj (by rw [wb_tb]; simp)⟩
theorem wb_of32 (x : Int32) : ∃ n, n < 2 ^ 32 ∧ x = nI n := ⟨x.toBitVec.toNat, x.toBitVec.isLt, Int32.toBitVec_inj.mp (by show _ = BitVec.ofNat 32 _; simp)⟩
theorem wb_c : ∀ k, k < 64 → ((nI k).toInt64 &&& 63) = lN k := by decide +kernel
theorem wb_cu : ∀ k, k < 64 → ((nI k).toInt64.toUInt64 &&& Int64.toUInt64 63) = UInt64.ofNat k := by decide +kernel
theorem wb_sm : ∀ k, k < 64 → (BitVec.ofNat 64 k).smod 64 = BitVec.ofNat 64 k := by decide +kernel
theorem wb_pw {a b : Nat} (h : a ≤ b) : 2 ^ b = 2 ^ a * 2 ^ (b - a) := by rw [← Nat.pow_add]; congr 1; omega
theorem wb_lt2 {a b : Nat} (h : a < b) : 2 ^ a < 2 ^ b := Nat.pow_lt_pow_right (by decide) h
theorem wb_mod (n : Nat) : lN n = lN (n % 2 ^ 64) := wb_inj (by rw [wb_tb, wb_tb]; apply BitVec.eq_of_toNat_eq; rw [BitVec.toNat_ofNat, BitVec.toNat_ofNat, Nat.mod_mod])
theorem wb_shr {n k : Nat} (hn : n < 2 ^ 64) (hk : k < 64) : ((lN n).toUInt64 >>> ((nI k).toInt64.toUInt64 &&& Int64.toUInt64 63)).toInt64 = lN (n / 2 ^ k) := by
  rw [wb_cu k hk]
  apply wb_inj
  apply BitVec.eq_of_toNat_eq
  show ((lN n).toUInt64 >>> UInt64.ofNat k).toNat = (BitVec.ofNat 64 _).toNat
  have h1 : (UInt64.ofNat k).toNat = k := by
    show (BitVec.ofNat 64 k).toNat = k
    rw [BitVec.toNat_ofNat, Nat.mod_eq_of_lt (by omega)]
  have h2 : (lN n).toUInt64.toNat = n := wb_tn hn
  rw [UInt64.toNat_shiftRight, h1, h2, Nat.mod_eq_of_lt hk, Nat.shiftRight_eq_div_pow, BitVec.toNat_ofNat, Nat.mod_eq_of_lt (Nat.lt_of_le_of_lt (Nat.div_le_self _ _) hn)]
theorem wb_shl (n : Nat) {k : Nat} (hk : k < 64) : lN n <<< ((nI k).toInt64 &&& 63) = lN (n * 2 ^ k) := by
  rw [wb_c k hk]
  apply wb_inj
  rw [Int64.toBitVec_shiftLeft, wb_tb, wb_tb, wb_tb, wb_sm k hk]
  apply BitVec.eq_of_toNat_eq
  rw [BitVec.shiftLeft_eq', BitVec.toNat_shiftLeft, BitVec.toNat_ofNat, BitVec.toNat_ofNat, BitVec.toNat_ofNat, Nat.mod_eq_of_lt (show k < 2 ^ 64 by omega), Nat.shiftLeft_eq, Nat.mul_mod, Nat.mod_mod, ← Nat.mul_mod]
theorem wb_and {a b : Nat} (ha : a < 2 ^ 64) (hb : b < 2 ^ 64) : lN a &&& lN b = lN (a &&& b) := by
  apply wb_inj
  rw [Int64.toBitVec_and, wb_tb, wb_tb, wb_tb]
  apply BitVec.eq_of_toNat_eq
  rw [BitVec.toNat_and, BitVec.toNat_ofNat, BitVec.toNat_ofNat, BitVec.toNat_ofNat, Nat.mod_eq_of_lt ha, Nat.mod_eq_of_lt hb, Nat.mod_eq_of_lt (Nat.and_lt_two_pow _ hb)]
theorem wb_or {a b : Nat} (ha : a < 2 ^ 64) (hb : b < 2 ^ 64) : lN a ||| lN b = lN (a ||| b) := by
  apply wb_inj
  rw [Int64.toBitVec_or, wb_tb, wb_tb, wb_tb]
  apply BitVec.eq_of_toNat_eq
  rw [BitVec.toNat_or, BitVec.toNat_ofNat, BitVec.toNat_ofNat, BitVec.toNat_ofNat, Nat.mod_eq_of_lt ha, Nat.mod_eq_of_lt hb, Nat.mod_eq_of_lt (Nat.or_lt_two_pow ha hb)]
theorem wb_mask {n k : Nat} (hn : n < 2 ^ 64) (hk : k < 64) : lN n &&& lN (2 ^ k - 1) = lN (n % 2 ^ k) := by
  rw [wb_and hn (by have := wb_lt2 hk; omega), Nat.and_two_pow_sub_one_eq_mod]
theorem wb_a1 {n : Nat} (hn : n < 2 ^ 64) : lN n &&& 1 = lN (n % 2) := wb_mask (k := 1) hn (by decide)
theorem wb_bit {n k : Nat} (hn : n < 2 ^ 64) (hk : k < 64) : ((lN n).toUInt64 >>> ((nI k).toInt64.toUInt64 &&& Int64.toUInt64 63)).toInt64 &&& 1 = lN (n / 2 ^ k % 2) := by
  rw [wb_shr hn hk, wb_a1 (Nat.lt_of_le_of_lt (Nat.div_le_self _ _) hn)]
theorem wb_xor {q k : Nat} (hk : k < 63) (h : 2 ^ k ≤ q) (h2 : q < 2 ^ (k + 1)) : lN q ^^^ lN (2 ^ k) = lN (q - 2 ^ k) := by
  obtain ⟨r, rfl⟩ : ∃ r, q = 2 ^ k + r := ⟨q - 2 ^ k, by omega⟩
  have hr : r < 2 ^ k := by rw [Nat.pow_succ] at h2; omega
  have hx : (2 ^ k + r) ^^^ 2 ^ k = r := by
    apply Nat.eq_of_testBit_eq
    intro i
    rw [Nat.testBit_xor, Nat.testBit_two_pow]
    rcases Nat.lt_trichotomy i k with h | h | h
    · rw [Nat.testBit_two_pow_add_gt h]
      simp [show ¬ k = i by omega]
    · subst h
      rw [Nat.testBit_two_pow_add_eq]
      simp
    · have a1 : 2 ^ (k + 1) ≤ 2 ^ i := Nat.pow_le_pow_right (by decide) h
      rw [Nat.testBit_lt_two_pow (show 2 ^ k + r < 2 ^ i by omega), Nat.testBit_lt_two_pow (show r < 2 ^ i by omega)]
      simp [show ¬ k = i by omega]
  have b1 := wb_lt2 (show k + 1 < 64 by omega)
  have b2 := wb_lt2 (show k < 64 by omega)
  apply wb_inj
  rw [Int64.toBitVec_xor, wb_tb, wb_tb, wb_tb]
  apply BitVec.eq_of_toNat_eq
  rw [BitVec.toNat_xor, BitVec.toNat_ofNat, BitVec.toNat_ofNat, BitVec.toNat_ofNat, Nat.mod_eq_of_lt (by omega : 2 ^ k + r < 2 ^ 64), Nat.mod_eq_of_lt b2, hx, Nat.add_sub_cancel_left, Nat.mod_eq_of_lt (by omega)]
/-! ===== lN: masks, 'or' of parts that don't overlap is a sum ===== -/
theorem u_tn {n : Nat} (h : n < 2 ^ 64) : (UInt64.ofNat n).toNat = n := Nat.mod_eq_of_lt h
theorem g_and {a b c : Nat} (ha : a < 2 ^ 64) (hb : b < 2 ^ 64) (hc : a &&& b = c) : lN a &&& lN b = lN c := by
  subst hc
  have h : UInt64.ofNat a &&& UInt64.ofNat b = UInt64.ofNat (a &&& b) := UInt64.toNat_inj.mp (by rw [UInt64.toNat_and, u_tn ha, u_tn hb, u_tn (Nat.and_lt_two_pow a hb)])
  have h2 := congrArg UInt64.toInt64 h
  exact h2
theorem g_and1 {a : Nat} (ha : a < 2 ^ 64) : lN a &&& 1 = lN (a % 2) := g_and (b := 1) ha (by decide) (Nat.and_two_pow_sub_one_eq_mod a 1)
theorem g_mask {a s p : Nat} (hp : 2 ^ s = p) (hs : s < 64) (ha : a < 2 ^ 64) : lN a &&& lN (p - 1) = lN (a % p) := by
  subst hp
  have := Nat.pow_lt_pow_right (show 1 < 2 by decide) hs
  exact g_and ha (by omega) (Nat.and_two_pow_sub_one_eq_mod a s)
theorem g_or {k p a b : Nat} (hp : 2 ^ k = p) (ha : a < p) (h : b * p + a < 2 ^ 64) : lN (b * p) ||| lN a = lN (b * p + a) := by
  subst hp
  have h1 : b * 2 ^ k ||| a = b * 2 ^ k + a := by rw [← Nat.shiftLeft_eq, Nat.shiftLeft_add_eq_or_of_lt ha]
  have h3 : UInt64.ofNat (b * 2 ^ k) ||| UInt64.ofNat a = UInt64.ofNat (b * 2 ^ k + a) := UInt64.toNat_inj.mp (by rw [UInt64.toNat_or, u_tn (by omega), u_tn (by omega), u_tn h, h1])
  have h2 := congrArg UInt64.toInt64 h3
  exact h2
theorem g_or' {k p a b : Nat} (hp : 2 ^ k = p) (ha : a < p) (h : a + b * p < 2 ^ 64) : lN a ||| lN (b * p) = lN (a + b * p) := by
  rw [Int64.or_comm, g_or hp ha (by omega), Nat.add_comm]
theorem g_ushr {a k p : Nat} {y : UInt64} (hy : y = UInt64.ofNat k) (hk : k < 64) (hp : 2 ^ k = p) (ha : a < 2 ^ 64) : ((lN a).toUInt64 >>> y).toInt64 = lN (a / p) := by
  subst hy hp
  have h : UInt64.ofNat a >>> UInt64.ofNat k = UInt64.ofNat (a / 2 ^ k) := UInt64.toNat_inj.mp (by rw [UInt64.toNat_shiftRight, u_tn ha, u_tn (by omega), u_tn (Nat.lt_of_le_of_lt (Nat.div_le_self _ _) ha), Nat.mod_eq_of_lt hk, Nat.shiftRight_eq_div_pow])
  have h2 := congrArg UInt64.toInt64 h
  exact h2
theorem g_shl {a k p : Nat} {y : Int64} (hy : y.toBitVec.smod 64 = BitVec.ofNat 64 k) (hk : k < 64) (hp : 2 ^ k = p) (ha : a < 2 ^ 64) : lN a <<< y = lN (a * p) := by
  subst hp
  apply Int64.toBitVec_inj.mp
  rw [Int64.toBitVec_shiftLeft, hy]
  apply BitVec.eq_of_toNat_eq
  have hb : (lN a).toBitVec.toNat = a := Nat.mod_eq_of_lt ha
  have hk' : (BitVec.ofNat 64 k).toNat = k := Nat.mod_eq_of_lt (by omega)
  have h : ((lN a).toBitVec <<< BitVec.ofNat 64 k).toNat = (a * 2 ^ k) % 2 ^ 64 := by simp only [BitVec.shiftLeft_eq', BitVec.toNat_shiftLeft, hb, hk', Nat.shiftLeft_eq]
  exact h
/-! ===== lN to 2^62 under >> and >>> ===== -/
theorem pf_lI {a : Nat} (h : a < 2 ^ 63) : (lN a).toInt = (a : Int) := lg_ofNat_toInt h
theorem pf_shr {a d : Nat} {D : Int64} (hD : (D.toBitVec.smod 64).toNat = d) (h : a < 2 ^ 62) : lN a >>> D = lN (a / 2 ^ d) := by
  have hd : a / 2 ^ d ≤ a := Nat.div_le_self _ _
  apply Int64.toInt_inj.mp
  have e : (lN a >>> D).toInt = (lN a).toInt >>> d := by
    rw [← hD]
    exact BitVec.toInt_sshiftRight ..
  rw [e, Int.shiftRight_eq_div_pow, pf_lI (by omega), pf_lI (by omega)]
  rfl
theorem pf_ushr {a d : Nat} {D : UInt64} (hD : D.toNat % 64 = d) (h : a < 2 ^ 62) : ((lN a).toUInt64 >>> D).toInt64 = lN (a / 2 ^ d) := by
  have hd : a / 2 ^ d ≤ a := Nat.div_le_self _ _
  have e : (lN a).toUInt64 >>> D = UInt64.ofNat (a / 2 ^ d) := UInt64.toNat_inj.mp (by
    rw [UInt64.toNat_shiftRight, hD, Nat.shiftRight_eq_div_pow, UInt64.toNat_ofNat']
    show (UInt64.ofNat a).toNat / 2 ^ d = _
    rw [UInt64.toNat_ofNat', Nat.mod_eq_of_lt (by omega), Nat.mod_eq_of_lt (by omega)])
  rw [e]
  rfl
theorem pf_andw (x : Int64) : ∃ m, m < 2 ^ 32 ∧ x &&& 4294967295 = lN m := ⟨x.toBitVec.toNat % 2 ^ 32, Nat.mod_lt _ (by decide), Int64.toBitVec_inj.mp (BitVec.eq_of_toNat_eq (by
  show (x.toBitVec &&& 4294967295#64).toNat = (BitVec.ofNat 64 (x.toBitVec.toNat % 2 ^ 32)).toNat
  rw [BitVec.toNat_and, show (4294967295#64).toNat = 2 ^ 32 - 1 from by decide, Nat.and_two_pow_sub_one_eq_mod, BitVec.toNat_ofNat]
  omega))⟩
/-! mathematics over the F_: numbers, fractions, the greatest common divisor -/
theorem nI_def (n : Nat) : nI n = Int32.ofNat n := rfl
theorem cl_nI {n : Nat} (h : n < 2147483648) : (nI n).toNatClampNeg = n := nI_clamp (by omega)
/-- a read in bounds -/
theorem inb {k N : Nat} {α : Type} {x : Option α} (h : k < N) (hN : N < 2147483648) : (if (nI k < 0 ∨ N ≤ (nI k).toNatClampNeg) then none else x) = x := by
  rw [if_neg]
  rw [cl_nI (by omega)]
  intro q
  rcases q with q | q
  · exact nI_pos (by omega) q
  · omega
def fz (n d : Nat) : Int64 := lN (n * 1048576 + d)
theorem num_fz {n d : Nat} (hn : n < 2199023255552) (hd : d < 1048576) : F_X3_numerator (fz n d) = lN n := by
  unfold F_X3_numerator fz
  rw [pf_shr (d := 20) (by decide) (by omega)]
  congr 1; omega
theorem den_fz {n d : Nat} (hn : n < 2199023255552) (h1 : 1 ≤ d) (hd : d < 1048576) : F_X3_denominator (fz n d) = lN d := by
  unfold F_X3_denominator fz
  have e : lN (n * 1048576 + d) &&& (1048575 : Int64) = lN d := by
    rw [show (1048575 : Int64) = lN (1048576 - 1) from rfl, g_mask (s := 20) (by decide) (by decide) (by omega)]
    congr 1; omega
  rw [e, if_neg]
  show ¬ lN d < lN 1
  rw [pk_lLT (by omega) (by omega)]
  omega
theorem pair_fz {n d : Nat} (hn : n < 2199023255552) (hd : d < 1048576) : F_X3_pair (lN n) (lN d) = fz n d := by
  unfold F_X3_pair fz
  rw [g_shl (k := 20) (p := 1048576) (by decide) (by decide) (by decide) (by omega), g_or (k := 20) (by decide) hd (by omega)]
theorem fz_inj {n d n' d' : Nat} (hn : n < 2199023255552) (hd : d < 1048576) (hn' : n' < 2199023255552) (hd' : d' < 1048576) (h : fz n d = fz n' d') : n = n' ∧ d = d' := by
  unfold fz at h
  rw [pk_lEQ (by omega) (by omega)] at h
  omega
theorem mod2 {b r : Nat} (hr : 0 < r) (h : r < b) : 2 * (b % r) < b := by
  have h1 : b % r < r := Nat.mod_lt _ hr
  have h2 : r * (b / r) + b % r = b := Nat.div_add_mod b r
  have h3 : 1 ≤ b / r := (Nat.one_le_div_iff hr).mpr (Nat.le_of_lt h)
  have h4 : r * 1 ≤ r * (b / r) := Nat.mul_le_mul_left r h3
  omega
theorem gcd_cx : ∀ (k n a b c : Nat), b < 2 ^ k → a < 2 ^ 63 → b < 2 ^ 63 → 2 * k + 1 ≤ n → c + 2 * k + 1 ≤ 1000 → L_X3_commonDivisor_9 n (lN a) (lN b) (nI c) = some (lN (Nat.gcd a b)) := by
  intro k
  induction k with
  | zero =>
    intro n a b c hb ha hb2 hn hc
    have hb0 : b = 0 := by simp at hb; omega
    subst hb0
    obtain ⟨n', rfl⟩ : ∃ n', n = n' + 1 := ⟨n - 1, by omega⟩
    rw [L_X3_commonDivisor_9_s, if_neg (show ¬ (1000 : Int32) ≤ nI c from nI_ge (a := c) (b := 1000) (by omega) (by omega)), if_pos (show lN 0 = 0 from rfl), Nat.gcd_zero_right]
  | succ k ih =>
    intro n a b c hb ha hb2 hn hc
    obtain ⟨n', rfl⟩ : ∃ n', n = n' + 1 := ⟨n - 1, by omega⟩
    rw [L_X3_commonDivisor_9_s, if_neg (show ¬ (1000 : Int32) ≤ nI c from nI_ge (a := c) (b := 1000) (by omega) (by omega))]
    by_cases h0 : b = 0
    · subst h0
      rw [if_pos (show lN 0 = 0 from rfl), Nat.gcd_zero_right]
    · have hz : ¬ lN b = 0 := by
        show ¬ lN b = lN 0
        rw [pk_lEQ hb2 (by omega)]; exact h0
      rw [if_neg hz, if_neg hz, pk_lRem ha (by omega) hb2]
      have hr : a % b < b := Nat.mod_lt _ (by omega)
      obtain ⟨n2, rfl⟩ : ∃ n2, n' = n2 + 1 := ⟨n' - 1, by omega⟩
      rw [show nI c + 1 = nI (c + 1) from nI_1 c, L_X3_commonDivisor_9_s, if_neg (show ¬ (1000 : Int32) ≤ nI (c + 1) from nI_ge (a := c + 1) (b := 1000) (by omega) (by omega))]
      by_cases h1 : a % b = 0
      · rw [h1, if_pos (show lN 0 = 0 from rfl), Nat.gcd_comm, Nat.gcd_rec, h1, Nat.gcd_zero_left]
      · have hz1 : ¬ lN (a % b) = 0 := by
          show ¬ lN (a % b) = lN 0
          rw [pk_lEQ (by omega) (by omega)]; exact h1
        rw [if_neg hz1, if_neg hz1, pk_lRem hb2 (by omega) (by omega), show nI (c + 1) + 1 = nI (c + 2) from nI_1 (c + 1)]
        have h2 := mod2 (show 0 < a % b by omega) hr
        have hp : 2 ^ (k + 1) = 2 * 2 ^ k := by rw [Nat.pow_succ]; omega
        rw [ih n2 (a % b) (b % (a % b)) (c + 2) (by omega) (by omega) (by omega) (by omega) (by omega)]
        rw [Nat.gcd_comm a b, Nat.gcd_rec b a, Nat.gcd_rec (a % b) b, Nat.gcd_comm (b % (a % b))]
theorem FU_eq : FU = 4000 := rfl
theorem cd_e {a b : Nat} (ha : a < 2 ^ 63) (hb : b < 2 ^ 63) : F_X3_commonDivisor (lN a) (lN b) = some (lN (max 1 (Nat.gcd a b))) := by
  unfold F_X3_commonDivisor
  rw [show L_X3_commonDivisor_9 FU (lN a) (lN b) 0 = some (lN (Nat.gcd a b)) from gcd_cx 63 FU a b 0 hb ha hb (by rw [FU_eq]; omega) (by omega), bd1_s]
  have hg : Nat.gcd a b < 2 ^ 63 := by
    by_cases h : a = 0
    · subst h; rw [Nat.gcd_zero_left]; exact hb
    · exact Nat.lt_of_le_of_lt (Nat.gcd_le_left b (by omega)) ha
  by_cases h : Nat.gcd a b = 0
  · rw [h, if_pos (show lN 0 < 1 from by decide)]; rfl
  · rw [if_neg]
    · congr 2; omega
    · show ¬ lN _ < lN 1
      rw [pk_lLT hg (by omega)]; omega
/-- a fraction n / d in lowest terms that a plate can hold -/
def Ok (n d : Nat) : Prop := n / Nat.gcd n d ≤ 1000000 ∧ d / Nat.gcd n d ≤ 1000000
def Fr (n d : Nat) : Prop := 1 ≤ d ∧ d ≤ 1000000 ∧ n ≤ 1000000 ∧ Nat.gcd n d = 1
theorem fz_ne {n d : Nat} (hn : n ≤ 1000000) (hd : d ≤ 1000000) : ¬ fz n d = (-1 : Int64) := by
  intro h
  have h2 := congrArg Int64.toInt h
  rw [fz, pk_lT (by omega), show (-1 : Int64).toInt = -1 from by decide] at h2
  omega
theorem rp_ok {a : Int32} (h : F_X6_isPlate a = 1) : F_X6_requirePlate a = some 0 := by
  unfold F_X6_requirePlate; rw [h]; rfl
theorem gpos {n d : Nat} (hd : 1 ≤ d) : 0 < Nat.gcd n d := Nat.gcd_pos_of_pos_right n hd
theorem gle {n d : Nat} (hd : 1 ≤ d) : Nat.gcd n d ≤ d := Nat.gcd_le_right n hd
theorem low_e {n d : Nat} (hd : 1 ≤ d) (hn : n < 2 ^ 62) (hd2 : d < 2 ^ 62) : F_X3_inLowestTerms (lN n) (lN d) = some (if n / Nat.gcd n d ≤ 1000000 ∧ d / Nat.gcd n d ≤ 1000000 then fz (n / Nat.gcd n d) (d / Nat.gcd n d) else -1) := by
  have hg := gpos (n := n) hd
  have hg2 := gle (n := n) hd
  have h1 : n / Nat.gcd n d ≤ n := Nat.div_le_self _ _
  have h2 : d / Nat.gcd n d ≤ d := Nat.div_le_self _ _
  unfold F_X3_inLowestTerms
  rw [if_neg (show ¬ lN n < (0 : Int64) from by show ¬ lN n < lN 0; rw [pk_lLT (by omega) (by omega)]; omega), if_pos (show (1 : Int64) ≤ lN d from by show lN 1 ≤ lN d; rw [pk_lLE (by omega) (by omega)]; omega), cd_e (by omega) (by omega), bd1_s, show max 1 (Nat.gcd n d) = Nat.gcd n d by omega]
  rw [if_neg (show ¬ lN (Nat.gcd n d) = (0 : Int64) from by show ¬ lN (Nat.gcd n d) = lN 0; rw [pk_lEQ (by omega) (by omega)]; omega), pk_lDiv (by omega) hg (by omega), pk_lDiv (by omega) hg (by omega)]
  by_cases c1 : n / Nat.gcd n d ≤ 1000000
  · rw [if_neg (show ¬ (1000000 : Int64) < lN (n / Nat.gcd n d) from by show ¬ lN 1000000 < lN (n / Nat.gcd n d); rw [pk_lLT (by omega) (by omega)]; omega)]
    by_cases c2 : d / Nat.gcd n d ≤ 1000000
    · rw [if_pos (show lN (d / Nat.gcd n d) ≤ (1000000 : Int64) from by show lN (d / Nat.gcd n d) ≤ lN 1000000; rw [pk_lLE (by omega) (by omega)]; omega), if_pos ⟨c1, c2⟩, pair_fz (by omega) (by omega)]
    · rw [if_neg (show ¬ lN (d / Nat.gcd n d) ≤ (1000000 : Int64) from by show ¬ lN (d / Nat.gcd n d) ≤ lN 1000000; rw [pk_lLE (by omega) (by omega)]; omega), if_neg (fun q => c2 q.2)]
  · rw [if_pos (show (1000000 : Int64) < lN (n / Nat.gcd n d) from by show lN 1000000 < lN (n / Nat.gcd n d); rw [pk_lLT (by omega) (by omega)]; omega), if_neg (fun q => c1 q.1)]
theorem fr_low {n d : Nat} (hd : 1 ≤ d) (h : n / Nat.gcd n d ≤ 1000000 ∧ d / Nat.gcd n d ≤ 1000000) : Fr (n / Nat.gcd n d) (d / Nat.gcd n d) := by
  have hg := gpos (n := n) hd
  refine ⟨Nat.div_pos (gle hd) hg, h.2, h.1, ?_⟩
  rw [Nat.gcd_div (Nat.gcd_dvd_left n d) (Nat.gcd_dvd_right n d), Nat.div_self hg]
theorem start_e {t k : Nat} (ht : t < 6) (hk : k ≤ 6) : F_X4_startBehindOldest (nI t) (nI k) = nI ((t + k) % 6 * 6) := by
  unfold F_X4_startBehindOldest
  rw [nI_add, show (6 : Int32) = nI 6 from rfl, pk_rem (by omega) (by omega) (by omega), pk_mul]
theorem ch_e {pl hs hs' : Nat → Int64} {ho hc ho' hc' : Int32} {p n d : Nat} (hp : p < 6) (hf : Fr n d) (hr : F_X4_record pl hs ho hc = some (hs', ho', hc')) : F_X6_change pl hs ho hc (nI p) (fz n d) = some (nI d, vp_updL pl p (fz n d), hs', ho', hc') := by
  obtain ⟨h1, h2, h3, h4⟩ := hf
  unfold F_X6_change
  rw [hr, bd3_s, inb (by omega) (by omega), cl_nI (by omega), den_fz (by omega) h1 (by omega), lN_i]
def lowv (n d : Nat) : Int64 := if n / Nat.gcd n d ≤ 1000000 ∧ d / Nat.gcd n d ≤ 1000000 then fz (n / Nat.gcd n d) (d / Nat.gcd n d) else -1
theorem mul12 {a b : Nat} (ha : a ≤ 1000000) (hb : b ≤ 1000000) : a * b ≤ 1000000000000 := Nat.mul_le_mul ha hb
theorem l_sub {a b : Nat} (ha : a < 2 ^ 62) (hb : b < 2 ^ 62) : (lN a - lN b).toInt = (a : Int) - b := by
  rw [Int64.toInt_sub, pk_lT (by omega), pk_lT (by omega)]
  apply Int.bmod_eq_of_le <;> omega
theorem sub_ge {a b : Nat} (ha : a < 2 ^ 62) (hb : b < 2 ^ 62) : (0 : Int64) ≤ lN a - lN b ↔ b ≤ a := by
  rw [Int64.le_iff_toInt_le, l_sub ha hb, show (0 : Int64).toInt = 0 from by decide]; omega
theorem sub_le {a b : Nat} (ha : a < 2 ^ 62) (hb : b < 2 ^ 62) : lN a - lN b ≤ (0 : Int64) ↔ a ≤ b := by
  rw [Int64.le_iff_toInt_le, l_sub ha hb, show (0 : Int64).toInt = 0 from by decide]; omega
def cmpz (n d n' d' : Nat) : Int32 := if n * d' < n' * d then -1 else if n * d' = n' * d then 0 else 1
theorem ord_e {n d n' d' : Nat} (h : Fr n d) (h' : Fr n' d') : F_X3_order (fz n d) (fz n' d') = cmpz n d n' d' := by
  obtain ⟨a1, a2, a3, a4⟩ := h
  obtain ⟨b1, b2, b3, b4⟩ := h'
  have m1 := mul12 a3 b2
  have m2 := mul12 b3 a2
  unfold F_X3_order cmpz
  rw [num_fz (by omega) (by omega), num_fz (by omega) (by omega), den_fz (by omega) a1 (by omega), den_fz (by omega) b1 (by omega), lN_mul, lN_mul]
  by_cases c1 : n * d' = n' * d
  · rw [if_pos (by rw [c1]), if_neg (by omega), if_pos c1]
  · rw [if_neg (by rw [pk_lEQ (by omega) (by omega)]; exact c1), if_neg c1]
    by_cases c2 : n * d' < n' * d
    · rw [if_neg (by rw [pk_lLE (by omega) (by omega)]; omega), if_pos c2]
    · rw [if_pos (by rw [pk_lLE (by omega) (by omega)]; omega), if_neg c2]
theorem X_sum {n d n' d' : Nat} (h : Fr n d) (h' : Fr n' d') : F_X3_sum (fz n d) (fz n' d') = some (lowv (n * d' + n' * d) (d * d')) := by
  obtain ⟨a1, a2, a3, a4⟩ := h
  obtain ⟨b1, b2, b3, b4⟩ := h'
  have m1 := mul12 a3 b2
  have m2 := mul12 b3 a2
  have m3 := mul12 a2 b2
  unfold F_X3_sum lowv
  rw [num_fz (by omega) (by omega), num_fz (by omega) (by omega), den_fz (by omega) a1 (by omega), den_fz (by omega) b1 (by omega), lN_mul, lN_mul, lN_mul, lN_add, low_e (Nat.mul_pos a1 b1) (by omega) (by omega), bd1_s]
theorem X_prod {n d n' d' : Nat} (h : Fr n d) (h' : Fr n' d') : F_X3_product (fz n d) (fz n' d') = some (lowv (n * n') (d * d')) := by
  obtain ⟨a1, a2, a3, a4⟩ := h
  obtain ⟨b1, b2, b3, b4⟩ := h'
  have m1 := mul12 a3 b3
  have m3 := mul12 a2 b2
  unfold F_X3_product lowv
  rw [num_fz (by omega) (by omega), num_fz (by omega) (by omega), den_fz (by omega) a1 (by omega), den_fz (by omega) b1 (by omega), lN_mul, lN_mul, low_e (Nat.mul_pos a1 b1) (by omega) (by omega), bd1_s]
theorem X_diff {n d n' d' : Nat} (h : Fr n d) (h' : Fr n' d') : F_X3_difference (fz n d) (fz n' d') = some (if n * d' < n' * d then -1 else lowv (n * d' - n' * d) (d * d')) := by
  obtain ⟨a1, a2, a3, a4⟩ := h
  obtain ⟨b1, b2, b3, b4⟩ := h'
  have m1 := mul12 a3 b2
  have m2 := mul12 b3 a2
  have m3 := mul12 a2 b2
  unfold F_X3_difference
  rw [num_fz (by omega) (by omega), num_fz (by omega) (by omega), den_fz (by omega) a1 (by omega), den_fz (by omega) b1 (by omega), lN_mul, lN_mul, lN_mul]
  by_cases c : n * d' < n' * d
  · rw [if_pos c]
    have hlt : lN (n * d') - lN (n' * d) < (0 : Int64) := by
      rw [Int64.lt_iff_toInt_lt, l_sub (by omega) (by omega), show (0 : Int64).toInt = 0 from by decide]; omega
    unfold F_X3_inLowestTerms
    rw [if_pos hlt, bd1_s]
  · rw [if_neg c, lN_sub (by omega), low_e (Nat.mul_pos a1 b1) (by omega) (by omega), bd1_s]
    rfl
theorem n10 : ¬ (1 : Int32) = 0 := by decide
theorem fz1 {n d : Nat} (h : Fr n d) : fz n d = (1 : Int64) ↔ n = 0 := by
  obtain ⟨a1, a2, a3, a4⟩ := h
  show fz n d = lN 1 ↔ _
  unfold fz
  rw [pk_lEQ (by omega) (by omega)]
  constructor
  · intro q; omega
  · intro q; subst q; rw [Nat.gcd_zero_left] at a4; omega
theorem fr_eq {n d n' d' : Nat} (h : Fr n d) (h' : Fr n' d') (e : n * d' = n' * d) : n = n' ∧ d = d' := by
  obtain ⟨a1, a2, a3, a4⟩ := h
  obtain ⟨b1, b2, b3, b4⟩ := h'
  have c1 : Nat.Coprime d n := by rw [Nat.Coprime, Nat.gcd_comm]; exact a4
  have c2 : Nat.Coprime d' n' := by rw [Nat.Coprime, Nat.gcd_comm]; exact b4
  have d1 : d ∣ d' := c1.dvd_of_dvd_mul_left (show d ∣ n * d' by rw [e]; exact Nat.dvd_mul_left d n')
  have d2 : d' ∣ d := c2.dvd_of_dvd_mul_left (show d' ∣ n' * d by rw [← e]; exact Nat.dvd_mul_left d' n)
  have ed : d = d' := Nat.dvd_antisymm d1 d2
  subst ed
  exact ⟨Nat.eq_of_mul_eq_mul_right a1 e, rfl⟩
theorem cmpz0 {n d n' d' : Nat} : cmpz n d n' d' = 0 ↔ n * d' = n' * d := by
  unfold cmpz
  by_cases c1 : n * d' < n' * d
  · rw [if_pos c1]; constructor
    · intro h; exact absurd h (by decide)
    · intro h; omega
  · rw [if_neg c1]
    by_cases c2 : n * d' = n' * d
    · rw [if_pos c2]; exact ⟨fun _ => c2, fun _ => rfl⟩
    · rw [if_neg c2]; constructor
      · intro h; exact absurd h (by decide)
      · intro h; exact absurd h c2
theorem low_v {n d : Nat} (hd : 1 ≤ d) (hn : n < 2 ^ 62) (hd2 : d < 2 ^ 62) : F_X3_inLowestTerms (lN n) (lN d) = some (lowv n d) := low_e hd hn hd2
theorem nz_e {n : Nat} (h : n ≤ 1000000) : nI n = (0 : Int32) ↔ n = 0 := by
  show nI n = nI 0 ↔ _
  rw [nI_eq (by omega) (by omega)]
theorem lcm_e {a d g : Nat} (hg : 0 < g) (h1 : g ∣ a) (h2 : g ∣ d) : a / g * d = a * (d / g) := by
  obtain ⟨u, rfl⟩ := h1
  obtain ⟨v, rfl⟩ := h2
  rw [Nat.mul_div_cancel_left _ hg, Nat.mul_div_cancel_left _ hg]
  ac_rfl
