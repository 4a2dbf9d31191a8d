/-! one command -/
section
variable {ch mtx : Nat → Int32} {n : Nat} {t : Nat → Nat}
def CMDOK (t : Nat → Nat) (n i m : Nat) (mrd : Nat → Int32) (r : Option (Int32 × Int32 × (Nat → Int32) × Int32)) : Prop :=
  ∃ (i' : Nat) (mrd' : Nat → Int32) (L P F S : Nat), i + 4 ≤ i' ∧ i' ≤ n ∧ r = some (nI i', 1, mrd', nI (m + 1)) ∧ (∀ j, j < 4 * m → mrd' j = mrd j) ∧ mrd' (4 * m) = nI L ∧ mrd' (4 * m + 1) = nI P ∧ P < 10 ∧
    ((L = 115 ∧ mrd' (4 * m + 2) = nI F ∧ mrd' (4 * m + 3) = nI S ∧ F < 10000 ∧ S < 10000 ∧ ∃ D, 1 ≤ D ∧ D ≤ 4 ∧ ¬ fol D S (sg t n i') ∧ ∀ L0 P0 F0 S0 D0 : Int32, Run t (i' - i) i (0, L0, P0, F0, S0, D0) (4, nI L, nI P, nI F, nI S, nI D)) ∨
     ((L = 43 ∨ L = 45 ∨ L = 42 ∨ L = 99) ∧ S < 10 ∧ mrd' (4 * m + 2) = nI S ∧ ∀ L0 P0 F0 S0 D0 : Int32, Run t (i' - i) i (0, L0, P0, F0, S0, D0) (6, nI L, nI P, 0, nI S, 0)))
def CMDNO (t : Nat → Nat) (n i m : Nat) (r : Option (Int32 × Int32 × (Nat → Int32) × Int32)) : Prop :=
  ∃ (i' : Nat) (mrd' : Nat → Int32), i ≤ i' ∧ i' ≤ n ∧ r = some (nI i', 0, mrd', nI m) ∧
    ∀ L0 P0 F0 S0 D0 : Int32, ∃ s' : St, Run t (i' - i) i (0, L0, P0, F0, S0, D0) s' ∧ (i' < n → ∃ s'', acc s' (nI (t i')) = some (0, s'')) ∧ F_X0_isComplete s'.1 s'.2.2.2.2.2 = 0
theorem sg_t {i : Nat} (h : i < n) : sg t n i = t i := by unfold sg; rw [if_pos h]
theorem let_y {c : Nat} (h : LT5 c) : (if nI c = (115 : Int32) then (1 : Int32) else (if nI c = (43 : Int32) then (1 : Int32) else (if nI c = (45 : Int32) then (1 : Int32) else (if nI c = (42 : Int32) then (1 : Int32) else (if nI c = (99 : Int32) then (1 : Int32) else (0 : Int32)))))) = 1 := by
  rcases h with rfl | rfl | rfl | rfl | rfl <;> rfl
theorem let_n {c : Nat} (hc : c ≤ 126) (h : ¬ LT5 c) : (if nI c = (115 : Int32) then (1 : Int32) else (if nI c = (43 : Int32) then (1 : Int32) else (if nI c = (45 : Int32) then (1 : Int32) else (if nI c = (42 : Int32) then (1 : Int32) else (if nI c = (99 : Int32) then (1 : Int32) else (0 : Int32)))))) = 0 := by
  unfold LT5 at h
  rw [if_neg (show ¬ nI c = (115 : Int32) from by show ¬ nI c = nI 115; rw [nI_eq (by omega) (by omega)]; omega), if_neg (show ¬ nI c = (43 : Int32) from by show ¬ nI c = nI 43; rw [nI_eq (by omega) (by omega)]; omega), if_neg (show ¬ nI c = (45 : Int32) from by show ¬ nI c = nI 45; rw [nI_eq (by omega) (by omega)]; omega), if_neg (show ¬ nI c = (42 : Int32) from by show ¬ nI c = nI 42; rw [nI_eq (by omega) (by omega)]; omega), if_neg (show ¬ nI c = (99 : Int32) from by show ¬ nI c = nI 99; rw [nI_eq (by omega) (by omega)]; omega)]
/-- the model's rest of a command behind the plate -/
def rest (mtx : Nat → Int32) (n m : Nat) (mrd : Nat → Int32) (r1 r8 mat9 mwl10 : Int32) : Option (Int32 × Int32 × (Nat → Int32)) :=
  if r1 = (115 : Int32) then (bd3 (F_X7_takes mtx (nI n) mat9 mwl10 (61 : Int32) (61 : Int32)) (fun (r31 : Int32) (mat32 : Int32) (mwl33 : Int32) => bd3 (F_X7_number mtx (nI n) mat32 mwl33) (fun (r35 : Int32) (mat36 : Int32) (mwl37 : Int32) => bd3 (F_X7_takes mtx (nI n) mat36 mwl37 (47 : Int32) (47 : Int32)) (fun (r40 : Int32) (mat41 : Int32) (mwl42 : Int32) => bd3 (F_X7_number mtx (nI n) mat41 mwl42) (fun (r44 : Int32) (mat45 : Int32) (mwl46 : Int32) => some (mat45, mwl46, (upd (upd (upd (upd mrd (4 * m) r1) (4 * m + 1) r8) (4 * m + 2) r35) (4 * m + 3) r44)))))))
  else (bd3 (F_X7_takes mtx (nI n) mat9 mwl10 (44 : Int32) (44 : Int32)) (fun (r22 : Int32) (mat23 : Int32) (mwl24 : Int32) => bd3 (F_X7_takes mtx (nI n) mat23 mwl24 (48 : Int32) (57 : Int32)) (fun (r26 : Int32) (mat27 : Int32) (mwl28 : Int32) => some (mat27, mwl28, (upd (upd (upd mrd (4 * m) r1) (4 * m + 1) r8) (4 * m + 2) r26)))))
theorem rc_e (h : TXT ch mtx n t) {i m : Nat} (hi : i ≤ n) (hm : m ≤ 20) {mwl : Int32} {mrd : Nat → Int32} {ok : Nat} (hok : ok ≤ 1) (hl : (if nI (sg t n i) = (115 : Int32) then (1 : Int32) else (if nI (sg t n i) = (43 : Int32) then (1 : Int32) else (if nI (sg t n i) = (45 : Int32) then (1 : Int32) else (if nI (sg t n i) = (42 : Int32) then (1 : Int32) else (if nI (sg t n i) = (99 : Int32) then (1 : Int32) else (0 : Int32)))))) = nI ok) : F_X7_readsCommand mtx (nI n) (nI i) mwl mrd (nI m) = bd3 (F_X7_takes mtx (nI n) (nI (i + ok)) (nI ok) (48 : Int32) (57 : Int32)) (fun r8 mat9 mwl10 => bd3 (rest mtx n m mrd (nI (sg t n i)) r8 mat9 mwl10) (fun (mat13 : Int32) (mwl14 : Int32) (mrd15 : Nat → Int32) => some (mat13, mwl14, mrd15, (nI m + (if mwl14 = (0 : Int32) then (0 : Int32) else (1 : Int32)))))) := by
  unfold F_X7_readsCommand rest
  have e0 : (4 : Int32) * nI m = nI (4 * m) := pk_mul 4 m
  have e1 : nI (4 * m) + (1 : Int32) = nI (4 * m + 1) := nI_add (4 * m) 1
  have e2 : nI (4 * m) + (2 : Int32) = nI (4 * m + 2) := nI_add (4 * m) 2
  have e3 : nI (4 * m) + (3 : Int32) = nI (4 * m + 3) := nI_add (4 * m) 3
  have e5 : (nI i + (if nI ok = (0 : Int32) then (0 : Int32) else (1 : Int32))) = nI (i + ok) := by
    rcases (show ok = 0 ∨ ok = 1 by omega) with rfl | rfl
    · rw [if_pos (show nI 0 = (0 : Int32) from rfl), Int32.add_zero, Nat.add_zero]
    · rw [if_neg (show ¬ nI 1 = (0 : Int32) from n10)]; exact nI_1 i
  rw [sg_e h i hi, bd1_s, e0, inb (by omega) (by omega), hl, e5, e1, e2, e3]
  simp only [inb (show 4 * m + 1 < 84 by omega) (show 84 < 2147483648 by omega), inb (show 4 * m + 2 < 84 by omega) (show 84 < 2147483648 by omega), inb (show 4 * m + 3 < 84 by omega) (show 84 < 2147483648 by omega)]
  simp only [cl_nI (show 4 * m < 2147483648 by omega), cl_nI (show 4 * m + 1 < 2147483648 by omega), cl_nI (show 4 * m + 2 < 2147483648 by omega), cl_nI (show 4 * m + 3 < 2147483648 by omega)]
/-- nothing more is read after an error -/
theorem rest_0 (h : TXT ch mtx n t) {i m : Nat} (hi : i ≤ n) {mrd : Nat → Int32} {r1 r8 : Int32} : ∃ mrd', rest mtx n m mrd r1 r8 (nI i) 0 = some (nI i, 0, mrd') := by
  unfold rest
  obtain ⟨v, hv⟩ := num_0 h hi
  by_cases c : r1 = 115
  · rw [if_pos c, tk_0 h hi, bd3_s, hv, bd3_s, tk_0 h hi, bd3_s, hv, bd3_s]
    exact ⟨_, rfl⟩
  · rw [if_neg c, tk_0 h hi, bd3_s, tk_0 h hi, bd3_s]
    exact ⟨_, rfl⟩
end
