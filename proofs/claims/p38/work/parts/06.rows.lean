/-! rows of ours: how a walk and its function (F_..) go together -/
theorem fT {c : Prop} [Decidable c] {α : Type} {a b x : α} (hc : c) (h : (if c then a else b) = x) : a = x := by rw [if_pos hc] at h; exact h
theorem fF {c : Prop} [Decidable c] {α : Type} {a b x : α} (hc : ¬ c) (h : (if c then a else b) = x) : b = x := by rw [if_neg hc] at h; exact h
theorem fG {c : Prop} [Decidable c] {α : Type} {a : Option α} {x : α} (h : (if c then none else a) = some x) : ¬ c ∧ a = some x := by
  by_cases hc : c
  · rw [if_pos hc] at h; cases h
  · rw [if_neg hc] at h; exact ⟨hc, h⟩
theorem fN {α : Type} {x : α} {P : Prop} (h : (none : Option α) = some x) : P := by cases h
theorem fX1 {k : Nat} {P : Prop} (hk : ¬ k = 0) (h : some k = some 0) : P := by cases h; exact absurd rfl hk
theorem fY {α : Type} {k : Nat} {x y : α} {P : Prop} (hk : ¬ k = 0) (h : some (0, x) = some (k, y)) : P := by cases h; exact absurd rfl hk
theorem fY1 {k : Nat} {P : Prop} (hk : ¬ k = 0) (h : some 0 = some k) : P := by cases h; exact absurd rfl hk
def FU : Nat := 4000
theorem z01 {c : Prop} [Decidable c] {a b : Int32} (ha : a = 0 ∨ a = 1) (hb : b = 0 ∨ b = 1) : (if c then a else b) = 0 ∨ (if c then a else b) = 1 := by
  by_cases h : c
  · rw [if_pos h]; exact ha
  · rw [if_neg h]; exact hb
theorem fX {α : Type} {k : Nat} {x y : α} {P : Prop} (hk : ¬ k = 0) (h : some (k, x) = some (0, y)) : P := by cases h; exact absurd rfl hk
def bd1 {T0 β : Type} (o : Option (T0)) (k : T0 → Option β) : Option β := match o with
  | none => none
  | some a0 => k a0
theorem bd1_s {T0 β : Type} (k : T0 → Option β) (a0 : T0) : bd1 (some a0) k = k a0 := rfl
theorem fB1 {T0 β : Type} {o : Option (T0)} {k : T0 → Option β} {x : β} (h : bd1 o k = some x) : ∃ (a0 : T0), o = some a0 ∧ k a0 = some x := by
  cases o with
  | none => cases h
  | some q => exact ⟨q, rfl, h⟩
def bd2 {T0 T1 β : Type} (o : Option (T0 × T1)) (k : T0 → T1 → Option β) : Option β := match o with
  | none => none
  | some (a0, a1) => k a0 a1
theorem bd2_s {T0 T1 β : Type} (k : T0 → T1 → Option β) (a0 : T0) (a1 : T1) : bd2 (some (a0, a1)) k = k a0 a1 := rfl
theorem fB2 {T0 T1 β : Type} {o : Option (T0 × T1)} {k : T0 → T1 → Option β} {x : β} (h : bd2 o k = some x) : ∃ (a0 : T0) (a1 : T1), o = some (a0, a1) ∧ k a0 a1 = some x := by
  cases o with
  | none => cases h
  | some q => exact ⟨q.1, q.2, rfl, h⟩
def bd3 {T0 T1 T2 β : Type} (o : Option (T0 × T1 × T2)) (k : T0 → T1 → T2 → Option β) : Option β := match o with
  | none => none
  | some (a0, a1, a2) => k a0 a1 a2
theorem bd3_s {T0 T1 T2 β : Type} (k : T0 → T1 → T2 → Option β) (a0 : T0) (a1 : T1) (a2 : T2) : bd3 (some (a0, a1, a2)) k = k a0 a1 a2 := rfl
theorem fB3 {T0 T1 T2 β : Type} {o : Option (T0 × T1 × T2)} {k : T0 → T1 → T2 → Option β} {x : β} (h : bd3 o k = some x) : ∃ (a0 : T0) (a1 : T1) (a2 : T2), o = some (a0, a1, a2) ∧ k a0 a1 a2 = some x := by
  cases o with
  | none => cases h
  | some q => exact ⟨q.1, q.2.1, q.2.2, rfl, h⟩
def bd4 {T0 T1 T2 T3 β : Type} (o : Option (T0 × T1 × T2 × T3)) (k : T0 → T1 → T2 → T3 → Option β) : Option β := match o with
  | none => none
  | some (a0, a1, a2, a3) => k a0 a1 a2 a3
theorem bd4_s {T0 T1 T2 T3 β : Type} (k : T0 → T1 → T2 → T3 → Option β) (a0 : T0) (a1 : T1) (a2 : T2) (a3 : T3) : bd4 (some (a0, a1, a2, a3)) k = k a0 a1 a2 a3 := rfl
theorem fB4 {T0 T1 T2 T3 β : Type} {o : Option (T0 × T1 × T2 × T3)} {k : T0 → T1 → T2 → T3 → Option β} {x : β} (h : bd4 o k = some x) : ∃ (a0 : T0) (a1 : T1) (a2 : T2) (a3 : T3), o = some (a0, a1, a2, a3) ∧ k a0 a1 a2 a3 = some x := by
  cases o with
  | none => cases h
  | some q => exact ⟨q.1, q.2.1, q.2.2.1, q.2.2.2, rfl, h⟩
def bd5 {T0 T1 T2 T3 T4 β : Type} (o : Option (T0 × T1 × T2 × T3 × T4)) (k : T0 → T1 → T2 → T3 → T4 → Option β) : Option β := match o with
  | none => none
  | some (a0, a1, a2, a3, a4) => k a0 a1 a2 a3 a4
theorem bd5_s {T0 T1 T2 T3 T4 β : Type} (k : T0 → T1 → T2 → T3 → T4 → Option β) (a0 : T0) (a1 : T1) (a2 : T2) (a3 : T3) (a4 : T4) : bd5 (some (a0, a1, a2, a3, a4)) k = k a0 a1 a2 a3 a4 := rfl
theorem fB5 {T0 T1 T2 T3 T4 β : Type} {o : Option (T0 × T1 × T2 × T3 × T4)} {k : T0 → T1 → T2 → T3 → T4 → Option β} {x : β} (h : bd5 o k = some x) : ∃ (a0 : T0) (a1 : T1) (a2 : T2) (a3 : T3) (a4 : T4), o = some (a0, a1, a2, a3, a4) ∧ k a0 a1 a2 a3 a4 = some x := by
  cases o with
  | none => cases h
  | some q => exact ⟨q.1, q.2.1, q.2.2.1, q.2.2.2.1, q.2.2.2.2, rfl, h⟩
def bd6 {T0 T1 T2 T3 T4 T5 β : Type} (o : Option (T0 × T1 × T2 × T3 × T4 × T5)) (k : T0 → T1 → T2 → T3 → T4 → T5 → Option β) : Option β := match o with
  | none => none
  | some (a0, a1, a2, a3, a4, a5) => k a0 a1 a2 a3 a4 a5
theorem bd6_s {T0 T1 T2 T3 T4 T5 β : Type} (k : T0 → T1 → T2 → T3 → T4 → T5 → Option β) (a0 : T0) (a1 : T1) (a2 : T2) (a3 : T3) (a4 : T4) (a5 : T5) : bd6 (some (a0, a1, a2, a3, a4, a5)) k = k a0 a1 a2 a3 a4 a5 := rfl
theorem fB6 {T0 T1 T2 T3 T4 T5 β : Type} {o : Option (T0 × T1 × T2 × T3 × T4 × T5)} {k : T0 → T1 → T2 → T3 → T4 → T5 → Option β} {x : β} (h : bd6 o k = some x) : ∃ (a0 : T0) (a1 : T1) (a2 : T2) (a3 : T3) (a4 : T4) (a5 : T5), o = some (a0, a1, a2, a3, a4, a5) ∧ k a0 a1 a2 a3 a4 a5 = some x := by
  cases o with
  | none => cases h
  | some q => exact ⟨q.1, q.2.1, q.2.2.1, q.2.2.2.1, q.2.2.2.2.1, q.2.2.2.2.2, rfl, h⟩
def bd7 {T0 T1 T2 T3 T4 T5 T6 β : Type} (o : Option (T0 × T1 × T2 × T3 × T4 × T5 × T6)) (k : T0 → T1 → T2 → T3 → T4 → T5 → T6 → Option β) : Option β := match o with
  | none => none
  | some (a0, a1, a2, a3, a4, a5, a6) => k a0 a1 a2 a3 a4 a5 a6
theorem bd7_s {T0 T1 T2 T3 T4 T5 T6 β : Type} (k : T0 → T1 → T2 → T3 → T4 → T5 → T6 → Option β) (a0 : T0) (a1 : T1) (a2 : T2) (a3 : T3) (a4 : T4) (a5 : T5) (a6 : T6) : bd7 (some (a0, a1, a2, a3, a4, a5, a6)) k = k a0 a1 a2 a3 a4 a5 a6 := rfl
theorem fB7 {T0 T1 T2 T3 T4 T5 T6 β : Type} {o : Option (T0 × T1 × T2 × T3 × T4 × T5 × T6)} {k : T0 → T1 → T2 → T3 → T4 → T5 → T6 → Option β} {x : β} (h : bd7 o k = some x) : ∃ (a0 : T0) (a1 : T1) (a2 : T2) (a3 : T3) (a4 : T4) (a5 : T5) (a6 : T6), o = some (a0, a1, a2, a3, a4, a5, a6) ∧ k a0 a1 a2 a3 a4 a5 a6 = some x := by
  cases o with
  | none => cases h
  | some q => exact ⟨q.1, q.2.1, q.2.2.1, q.2.2.2.1, q.2.2.2.2.1, q.2.2.2.2.2.1, q.2.2.2.2.2.2, rfl, h⟩
def bd8 {T0 T1 T2 T3 T4 T5 T6 T7 β : Type} (o : Option (T0 × T1 × T2 × T3 × T4 × T5 × T6 × T7)) (k : T0 → T1 → T2 → T3 → T4 → T5 → T6 → T7 → Option β) : Option β := match o with
  | none => none
  | some (a0, a1, a2, a3, a4, a5, a6, a7) => k a0 a1 a2 a3 a4 a5 a6 a7
theorem bd8_s {T0 T1 T2 T3 T4 T5 T6 T7 β : Type} (k : T0 → T1 → T2 → T3 → T4 → T5 → T6 → T7 → Option β) (a0 : T0) (a1 : T1) (a2 : T2) (a3 : T3) (a4 : T4) (a5 : T5) (a6 : T6) (a7 : T7) : bd8 (some (a0, a1, a2, a3, a4, a5, a6, a7)) k = k a0 a1 a2 a3 a4 a5 a6 a7 := rfl
theorem fB8 {T0 T1 T2 T3 T4 T5 T6 T7 β : Type} {o : Option (T0 × T1 × T2 × T3 × T4 × T5 × T6 × T7)} {k : T0 → T1 → T2 → T3 → T4 → T5 → T6 → T7 → Option β} {x : β} (h : bd8 o k = some x) : ∃ (a0 : T0) (a1 : T1) (a2 : T2) (a3 : T3) (a4 : T4) (a5 : T5) (a6 : T6) (a7 : T7), o = some (a0, a1, a2, a3, a4, a5, a6, a7) ∧ k a0 a1 a2 a3 a4 a5 a6 a7 = some x := by
  cases o with
  | none => cases h
  | some q => exact ⟨q.1, q.2.1, q.2.2.1, q.2.2.2.1, q.2.2.2.2.1, q.2.2.2.2.2.1, q.2.2.2.2.2.2.1, q.2.2.2.2.2.2.2, rfl, h⟩
def bd9 {T0 T1 T2 T3 T4 T5 T6 T7 T8 β : Type} (o : Option (T0 × T1 × T2 × T3 × T4 × T5 × T6 × T7 × T8)) (k : T0 → T1 → T2 → T3 → T4 → T5 → T6 → T7 → T8 → Option β) : Option β := match o with
  | none => none
  | some (a0, a1, a2, a3, a4, a5, a6, a7, a8) => k a0 a1 a2 a3 a4 a5 a6 a7 a8
theorem bd9_s {T0 T1 T2 T3 T4 T5 T6 T7 T8 β : Type} (k : T0 → T1 → T2 → T3 → T4 → T5 → T6 → T7 → T8 → Option β) (a0 : T0) (a1 : T1) (a2 : T2) (a3 : T3) (a4 : T4) (a5 : T5) (a6 : T6) (a7 : T7) (a8 : T8) : bd9 (some (a0, a1, a2, a3, a4, a5, a6, a7, a8)) k = k a0 a1 a2 a3 a4 a5 a6 a7 a8 := rfl
theorem fB9 {T0 T1 T2 T3 T4 T5 T6 T7 T8 β : Type} {o : Option (T0 × T1 × T2 × T3 × T4 × T5 × T6 × T7 × T8)} {k : T0 → T1 → T2 → T3 → T4 → T5 → T6 → T7 → T8 → Option β} {x : β} (h : bd9 o k = some x) : ∃ (a0 : T0) (a1 : T1) (a2 : T2) (a3 : T3) (a4 : T4) (a5 : T5) (a6 : T6) (a7 : T7) (a8 : T8), o = some (a0, a1, a2, a3, a4, a5, a6, a7, a8) ∧ k a0 a1 a2 a3 a4 a5 a6 a7 a8 = some x := by
  cases o with
  | none => cases h
  | some q => exact ⟨q.1, q.2.1, q.2.2.1, q.2.2.2.1, q.2.2.2.2.1, q.2.2.2.2.2.1, q.2.2.2.2.2.2.1, q.2.2.2.2.2.2.2.1, q.2.2.2.2.2.2.2.2, rfl, h⟩
def bd10 {T0 T1 T2 T3 T4 T5 T6 T7 T8 T9 β : Type} (o : Option (T0 × T1 × T2 × T3 × T4 × T5 × T6 × T7 × T8 × T9)) (k : T0 → T1 → T2 → T3 → T4 → T5 → T6 → T7 → T8 → T9 → Option β) : Option β := match o with
  | none => none
  | some (a0, a1, a2, a3, a4, a5, a6, a7, a8, a9) => k a0 a1 a2 a3 a4 a5 a6 a7 a8 a9
theorem bd10_s {T0 T1 T2 T3 T4 T5 T6 T7 T8 T9 β : Type} (k : T0 → T1 → T2 → T3 → T4 → T5 → T6 → T7 → T8 → T9 → Option β) (a0 : T0) (a1 : T1) (a2 : T2) (a3 : T3) (a4 : T4) (a5 : T5) (a6 : T6) (a7 : T7) (a8 : T8) (a9 : T9) : bd10 (some (a0, a1, a2, a3, a4, a5, a6, a7, a8, a9)) k = k a0 a1 a2 a3 a4 a5 a6 a7 a8 a9 := rfl
theorem fB10 {T0 T1 T2 T3 T4 T5 T6 T7 T8 T9 β : Type} {o : Option (T0 × T1 × T2 × T3 × T4 × T5 × T6 × T7 × T8 × T9)} {k : T0 → T1 → T2 → T3 → T4 → T5 → T6 → T7 → T8 → T9 → Option β} {x : β} (h : bd10 o k = some x) : ∃ (a0 : T0) (a1 : T1) (a2 : T2) (a3 : T3) (a4 : T4) (a5 : T5) (a6 : T6) (a7 : T7) (a8 : T8) (a9 : T9), o = some (a0, a1, a2, a3, a4, a5, a6, a7, a8, a9) ∧ k a0 a1 a2 a3 a4 a5 a6 a7 a8 a9 = some x := by
  cases o with
  | none => cases h
  | some q => exact ⟨q.1, q.2.1, q.2.2.1, q.2.2.2.1, q.2.2.2.2.1, q.2.2.2.2.2.1, q.2.2.2.2.2.2.1, q.2.2.2.2.2.2.2.1, q.2.2.2.2.2.2.2.2.1, q.2.2.2.2.2.2.2.2.2, rfl, h⟩
def bd11 {T0 T1 T2 T3 T4 T5 T6 T7 T8 T9 T10 β : Type} (o : Option (T0 × T1 × T2 × T3 × T4 × T5 × T6 × T7 × T8 × T9 × T10)) (k : T0 → T1 → T2 → T3 → T4 → T5 → T6 → T7 → T8 → T9 → T10 → Option β) : Option β := match o with
  | none => none
  | some (a0, a1, a2, a3, a4, a5, a6, a7, a8, a9, a10) => k a0 a1 a2 a3 a4 a5 a6 a7 a8 a9 a10
theorem bd11_s {T0 T1 T2 T3 T4 T5 T6 T7 T8 T9 T10 β : Type} (k : T0 → T1 → T2 → T3 → T4 → T5 → T6 → T7 → T8 → T9 → T10 → Option β) (a0 : T0) (a1 : T1) (a2 : T2) (a3 : T3) (a4 : T4) (a5 : T5) (a6 : T6) (a7 : T7) (a8 : T8) (a9 : T9) (a10 : T10) : bd11 (some (a0, a1, a2, a3, a4, a5, a6, a7, a8, a9, a10)) k = k a0 a1 a2 a3 a4 a5 a6 a7 a8 a9 a10 := rfl
theorem fB11 {T0 T1 T2 T3 T4 T5 T6 T7 T8 T9 T10 β : Type} {o : Option (T0 × T1 × T2 × T3 × T4 × T5 × T6 × T7 × T8 × T9 × T10)} {k : T0 → T1 → T2 → T3 → T4 → T5 → T6 → T7 → T8 → T9 → T10 → Option β} {x : β} (h : bd11 o k = some x) : ∃ (a0 : T0) (a1 : T1) (a2 : T2) (a3 : T3) (a4 : T4) (a5 : T5) (a6 : T6) (a7 : T7) (a8 : T8) (a9 : T9) (a10 : T10), o = some (a0, a1, a2, a3, a4, a5, a6, a7, a8, a9, a10) ∧ k a0 a1 a2 a3 a4 a5 a6 a7 a8 a9 a10 = some x := by
  cases o with
  | none => cases h
  | some q => exact ⟨q.1, q.2.1, q.2.2.1, q.2.2.2.1, q.2.2.2.2.1, q.2.2.2.2.2.1, q.2.2.2.2.2.2.1, q.2.2.2.2.2.2.2.1, q.2.2.2.2.2.2.2.2.1, q.2.2.2.2.2.2.2.2.2.1, q.2.2.2.2.2.2.2.2.2.2, rfl, h⟩
def bd12 {T0 T1 T2 T3 T4 T5 T6 T7 T8 T9 T10 T11 β : Type} (o : Option (T0 × T1 × T2 × T3 × T4 × T5 × T6 × T7 × T8 × T9 × T10 × T11)) (k : T0 → T1 → T2 → T3 → T4 → T5 → T6 → T7 → T8 → T9 → T10 → T11 → Option β) : Option β := match o with
  | none => none
  | some (a0, a1, a2, a3, a4, a5, a6, a7, a8, a9, a10, a11) => k a0 a1 a2 a3 a4 a5 a6 a7 a8 a9 a10 a11
theorem bd12_s {T0 T1 T2 T3 T4 T5 T6 T7 T8 T9 T10 T11 β : Type} (k : T0 → T1 → T2 → T3 → T4 → T5 → T6 → T7 → T8 → T9 → T10 → T11 → Option β) (a0 : T0) (a1 : T1) (a2 : T2) (a3 : T3) (a4 : T4) (a5 : T5) (a6 : T6) (a7 : T7) (a8 : T8) (a9 : T9) (a10 : T10) (a11 : T11) : bd12 (some (a0, a1, a2, a3, a4, a5, a6, a7, a8, a9, a10, a11)) k = k a0 a1 a2 a3 a4 a5 a6 a7 a8 a9 a10 a11 := rfl
theorem fB12 {T0 T1 T2 T3 T4 T5 T6 T7 T8 T9 T10 T11 β : Type} {o : Option (T0 × T1 × T2 × T3 × T4 × T5 × T6 × T7 × T8 × T9 × T10 × T11)} {k : T0 → T1 → T2 → T3 → T4 → T5 → T6 → T7 → T8 → T9 → T10 → T11 → Option β} {x : β} (h : bd12 o k = some x) : ∃ (a0 : T0) (a1 : T1) (a2 : T2) (a3 : T3) (a4 : T4) (a5 : T5) (a6 : T6) (a7 : T7) (a8 : T8) (a9 : T9) (a10 : T10) (a11 : T11), o = some (a0, a1, a2, a3, a4, a5, a6, a7, a8, a9, a10, a11) ∧ k a0 a1 a2 a3 a4 a5 a6 a7 a8 a9 a10 a11 = some x := by
  cases o with
  | none => cases h
  | some q => exact ⟨q.1, q.2.1, q.2.2.1, q.2.2.2.1, q.2.2.2.2.1, q.2.2.2.2.2.1, q.2.2.2.2.2.2.1, q.2.2.2.2.2.2.2.1, q.2.2.2.2.2.2.2.2.1, q.2.2.2.2.2.2.2.2.2.1, q.2.2.2.2.2.2.2.2.2.2.1, q.2.2.2.2.2.2.2.2.2.2.2, rfl, h⟩
def bd13 {T0 T1 T2 T3 T4 T5 T6 T7 T8 T9 T10 T11 T12 β : Type} (o : Option (T0 × T1 × T2 × T3 × T4 × T5 × T6 × T7 × T8 × T9 × T10 × T11 × T12)) (k : T0 → T1 → T2 → T3 → T4 → T5 → T6 → T7 → T8 → T9 → T10 → T11 → T12 → Option β) : Option β := match o with
  | none => none
  | some (a0, a1, a2, a3, a4, a5, a6, a7, a8, a9, a10, a11, a12) => k a0 a1 a2 a3 a4 a5 a6 a7 a8 a9 a10 a11 a12
theorem bd13_s {T0 T1 T2 T3 T4 T5 T6 T7 T8 T9 T10 T11 T12 β : Type} (k : T0 → T1 → T2 → T3 → T4 → T5 → T6 → T7 → T8 → T9 → T10 → T11 → T12 → Option β) (a0 : T0) (a1 : T1) (a2 : T2) (a3 : T3) (a4 : T4) (a5 : T5) (a6 : T6) (a7 : T7) (a8 : T8) (a9 : T9) (a10 : T10) (a11 : T11) (a12 : T12) : bd13 (some (a0, a1, a2, a3, a4, a5, a6, a7, a8, a9, a10, a11, a12)) k = k a0 a1 a2 a3 a4 a5 a6 a7 a8 a9 a10 a11 a12 := rfl
theorem fB13 {T0 T1 T2 T3 T4 T5 T6 T7 T8 T9 T10 T11 T12 β : Type} {o : Option (T0 × T1 × T2 × T3 × T4 × T5 × T6 × T7 × T8 × T9 × T10 × T11 × T12)} {k : T0 → T1 → T2 → T3 → T4 → T5 → T6 → T7 → T8 → T9 → T10 → T11 → T12 → Option β} {x : β} (h : bd13 o k = some x) : ∃ (a0 : T0) (a1 : T1) (a2 : T2) (a3 : T3) (a4 : T4) (a5 : T5) (a6 : T6) (a7 : T7) (a8 : T8) (a9 : T9) (a10 : T10) (a11 : T11) (a12 : T12), o = some (a0, a1, a2, a3, a4, a5, a6, a7, a8, a9, a10, a11, a12) ∧ k a0 a1 a2 a3 a4 a5 a6 a7 a8 a9 a10 a11 a12 = some x := by
  cases o with
  | none => cases h
  | some q => exact ⟨q.1, q.2.1, q.2.2.1, q.2.2.2.1, q.2.2.2.2.1, q.2.2.2.2.2.1, q.2.2.2.2.2.2.1, q.2.2.2.2.2.2.2.1, q.2.2.2.2.2.2.2.2.1, q.2.2.2.2.2.2.2.2.2.1, q.2.2.2.2.2.2.2.2.2.2.1, q.2.2.2.2.2.2.2.2.2.2.2.1, q.2.2.2.2.2.2.2.2.2.2.2.2, rfl, h⟩
def bd14 {T0 T1 T2 T3 T4 T5 T6 T7 T8 T9 T10 T11 T12 T13 β : Type} (o : Option (T0 × T1 × T2 × T3 × T4 × T5 × T6 × T7 × T8 × T9 × T10 × T11 × T12 × T13)) (k : T0 → T1 → T2 → T3 → T4 → T5 → T6 → T7 → T8 → T9 → T10 → T11 → T12 → T13 → Option β) : Option β := match o with
  | none => none
  | some (a0, a1, a2, a3, a4, a5, a6, a7, a8, a9, a10, a11, a12, a13) => k a0 a1 a2 a3 a4 a5 a6 a7 a8 a9 a10 a11 a12 a13
theorem bd14_s {T0 T1 T2 T3 T4 T5 T6 T7 T8 T9 T10 T11 T12 T13 β : Type} (k : T0 → T1 → T2 → T3 → T4 → T5 → T6 → T7 → T8 → T9 → T10 → T11 → T12 → T13 → Option β) (a0 : T0) (a1 : T1) (a2 : T2) (a3 : T3) (a4 : T4) (a5 : T5) (a6 : T6) (a7 : T7) (a8 : T8) (a9 : T9) (a10 : T10) (a11 : T11) (a12 : T12) (a13 : T13) : bd14 (some (a0, a1, a2, a3, a4, a5, a6, a7, a8, a9, a10, a11, a12, a13)) k = k a0 a1 a2 a3 a4 a5 a6 a7 a8 a9 a10 a11 a12 a13 := rfl
theorem fB14 {T0 T1 T2 T3 T4 T5 T6 T7 T8 T9 T10 T11 T12 T13 β : Type} {o : Option (T0 × T1 × T2 × T3 × T4 × T5 × T6 × T7 × T8 × T9 × T10 × T11 × T12 × T13)} {k : T0 → T1 → T2 → T3 → T4 → T5 → T6 → T7 → T8 → T9 → T10 → T11 → T12 → T13 → Option β} {x : β} (h : bd14 o k = some x) : ∃ (a0 : T0) (a1 : T1) (a2 : T2) (a3 : T3) (a4 : T4) (a5 : T5) (a6 : T6) (a7 : T7) (a8 : T8) (a9 : T9) (a10 : T10) (a11 : T11) (a12 : T12) (a13 : T13), o = some (a0, a1, a2, a3, a4, a5, a6, a7, a8, a9, a10, a11, a12, a13) ∧ k a0 a1 a2 a3 a4 a5 a6 a7 a8 a9 a10 a11 a12 a13 = some x := by
  cases o with
  | none => cases h
  | some q => exact ⟨q.1, q.2.1, q.2.2.1, q.2.2.2.1, q.2.2.2.2.1, q.2.2.2.2.2.1, q.2.2.2.2.2.2.1, q.2.2.2.2.2.2.2.1, q.2.2.2.2.2.2.2.2.1, q.2.2.2.2.2.2.2.2.2.1, q.2.2.2.2.2.2.2.2.2.2.1, q.2.2.2.2.2.2.2.2.2.2.2.1, q.2.2.2.2.2.2.2.2.2.2.2.2.1, q.2.2.2.2.2.2.2.2.2.2.2.2.2, rfl, h⟩
def bd15 {T0 T1 T2 T3 T4 T5 T6 T7 T8 T9 T10 T11 T12 T13 T14 β : Type} (o : Option (T0 × T1 × T2 × T3 × T4 × T5 × T6 × T7 × T8 × T9 × T10 × T11 × T12 × T13 × T14)) (k : T0 → T1 → T2 → T3 → T4 → T5 → T6 → T7 → T8 → T9 → T10 → T11 → T12 → T13 → T14 → Option β) : Option β := match o with
  | none => none
  | some (a0, a1, a2, a3, a4, a5, a6, a7, a8, a9, a10, a11, a12, a13, a14) => k a0 a1 a2 a3 a4 a5 a6 a7 a8 a9 a10 a11 a12 a13 a14
theorem bd15_s {T0 T1 T2 T3 T4 T5 T6 T7 T8 T9 T10 T11 T12 T13 T14 β : Type} (k : T0 → T1 → T2 → T3 → T4 → T5 → T6 → T7 → T8 → T9 → T10 → T11 → T12 → T13 → T14 → Option β) (a0 : T0) (a1 : T1) (a2 : T2) (a3 : T3) (a4 : T4) (a5 : T5) (a6 : T6) (a7 : T7) (a8 : T8) (a9 : T9) (a10 : T10) (a11 : T11) (a12 : T12) (a13 : T13) (a14 : T14) : bd15 (some (a0, a1, a2, a3, a4, a5, a6, a7, a8, a9, a10, a11, a12, a13, a14)) k = k a0 a1 a2 a3 a4 a5 a6 a7 a8 a9 a10 a11 a12 a13 a14 := rfl
theorem fB15 {T0 T1 T2 T3 T4 T5 T6 T7 T8 T9 T10 T11 T12 T13 T14 β : Type} {o : Option (T0 × T1 × T2 × T3 × T4 × T5 × T6 × T7 × T8 × T9 × T10 × T11 × T12 × T13 × T14)} {k : T0 → T1 → T2 → T3 → T4 → T5 → T6 → T7 → T8 → T9 → T10 → T11 → T12 → T13 → T14 → Option β} {x : β} (h : bd15 o k = some x) : ∃ (a0 : T0) (a1 : T1) (a2 : T2) (a3 : T3) (a4 : T4) (a5 : T5) (a6 : T6) (a7 : T7) (a8 : T8) (a9 : T9) (a10 : T10) (a11 : T11) (a12 : T12) (a13 : T13) (a14 : T14), o = some (a0, a1, a2, a3, a4, a5, a6, a7, a8, a9, a10, a11, a12, a13, a14) ∧ k a0 a1 a2 a3 a4 a5 a6 a7 a8 a9 a10 a11 a12 a13 a14 = some x := by
  cases o with
  | none => cases h
  | some q => exact ⟨q.1, q.2.1, q.2.2.1, q.2.2.2.1, q.2.2.2.2.1, q.2.2.2.2.2.1, q.2.2.2.2.2.2.1, q.2.2.2.2.2.2.2.1, q.2.2.2.2.2.2.2.2.1, q.2.2.2.2.2.2.2.2.2.1, q.2.2.2.2.2.2.2.2.2.2.1, q.2.2.2.2.2.2.2.2.2.2.2.1, q.2.2.2.2.2.2.2.2.2.2.2.2.1, q.2.2.2.2.2.2.2.2.2.2.2.2.2.1, q.2.2.2.2.2.2.2.2.2.2.2.2.2.2, rfl, h⟩
def bd16 {T0 T1 T2 T3 T4 T5 T6 T7 T8 T9 T10 T11 T12 T13 T14 T15 β : Type} (o : Option (T0 × T1 × T2 × T3 × T4 × T5 × T6 × T7 × T8 × T9 × T10 × T11 × T12 × T13 × T14 × T15)) (k : T0 → T1 → T2 → T3 → T4 → T5 → T6 → T7 → T8 → T9 → T10 → T11 → T12 → T13 → T14 → T15 → Option β) : Option β := match o with
  | none => none
  | some (a0, a1, a2, a3, a4, a5, a6, a7, a8, a9, a10, a11, a12, a13, a14, a15) => k a0 a1 a2 a3 a4 a5 a6 a7 a8 a9 a10 a11 a12 a13 a14 a15
theorem bd16_s {T0 T1 T2 T3 T4 T5 T6 T7 T8 T9 T10 T11 T12 T13 T14 T15 β : Type} (k : T0 → T1 → T2 → T3 → T4 → T5 → T6 → T7 → T8 → T9 → T10 → T11 → T12 → T13 → T14 → T15 → Option β) (a0 : T0) (a1 : T1) (a2 : T2) (a3 : T3) (a4 : T4) (a5 : T5) (a6 : T6) (a7 : T7) (a8 : T8) (a9 : T9) (a10 : T10) (a11 : T11) (a12 : T12) (a13 : T13) (a14 : T14) (a15 : T15) : bd16 (some (a0, a1, a2, a3, a4, a5, a6, a7, a8, a9, a10, a11, a12, a13, a14, a15)) k = k a0 a1 a2 a3 a4 a5 a6 a7 a8 a9 a10 a11 a12 a13 a14 a15 := rfl
theorem fB16 {T0 T1 T2 T3 T4 T5 T6 T7 T8 T9 T10 T11 T12 T13 T14 T15 β : Type} {o : Option (T0 × T1 × T2 × T3 × T4 × T5 × T6 × T7 × T8 × T9 × T10 × T11 × T12 × T13 × T14 × T15)} {k : T0 → T1 → T2 → T3 → T4 → T5 → T6 → T7 → T8 → T9 → T10 → T11 → T12 → T13 → T14 → T15 → Option β} {x : β} (h : bd16 o k = some x) : ∃ (a0 : T0) (a1 : T1) (a2 : T2) (a3 : T3) (a4 : T4) (a5 : T5) (a6 : T6) (a7 : T7) (a8 : T8) (a9 : T9) (a10 : T10) (a11 : T11) (a12 : T12) (a13 : T13) (a14 : T14) (a15 : T15), o = some (a0, a1, a2, a3, a4, a5, a6, a7, a8, a9, a10, a11, a12, a13, a14, a15) ∧ k a0 a1 a2 a3 a4 a5 a6 a7 a8 a9 a10 a11 a12 a13 a14 a15 = some x := by
  cases o with
  | none => cases h
  | some q => exact ⟨q.1, q.2.1, q.2.2.1, q.2.2.2.1, q.2.2.2.2.1, q.2.2.2.2.2.1, q.2.2.2.2.2.2.1, q.2.2.2.2.2.2.2.1, q.2.2.2.2.2.2.2.2.1, q.2.2.2.2.2.2.2.2.2.1, q.2.2.2.2.2.2.2.2.2.2.1, q.2.2.2.2.2.2.2.2.2.2.2.1, q.2.2.2.2.2.2.2.2.2.2.2.2.1, q.2.2.2.2.2.2.2.2.2.2.2.2.2.1, q.2.2.2.2.2.2.2.2.2.2.2.2.2.2.1, q.2.2.2.2.2.2.2.2.2.2.2.2.2.2.2, rfl, h⟩
def bd17 {T0 T1 T2 T3 T4 T5 T6 T7 T8 T9 T10 T11 T12 T13 T14 T15 T16 β : Type} (o : Option (T0 × T1 × T2 × T3 × T4 × T5 × T6 × T7 × T8 × T9 × T10 × T11 × T12 × T13 × T14 × T15 × T16)) (k : T0 → T1 → T2 → T3 → T4 → T5 → T6 → T7 → T8 → T9 → T10 → T11 → T12 → T13 → T14 → T15 → T16 → Option β) : Option β := match o with
  | none => none
  | some (a0, a1, a2, a3, a4, a5, a6, a7, a8, a9, a10, a11, a12, a13, a14, a15, a16) => k a0 a1 a2 a3 a4 a5 a6 a7 a8 a9 a10 a11 a12 a13 a14 a15 a16
theorem bd17_s {T0 T1 T2 T3 T4 T5 T6 T7 T8 T9 T10 T11 T12 T13 T14 T15 T16 β : Type} (k : T0 → T1 → T2 → T3 → T4 → T5 → T6 → T7 → T8 → T9 → T10 → T11 → T12 → T13 → T14 → T15 → T16 → Option β) (a0 : T0) (a1 : T1) (a2 : T2) (a3 : T3) (a4 : T4) (a5 : T5) (a6 : T6) (a7 : T7) (a8 : T8) (a9 : T9) (a10 : T10) (a11 : T11) (a12 : T12) (a13 : T13) (a14 : T14) (a15 : T15) (a16 : T16) : bd17 (some (a0, a1, a2, a3, a4, a5, a6, a7, a8, a9, a10, a11, a12, a13, a14, a15, a16)) k = k a0 a1 a2 a3 a4 a5 a6 a7 a8 a9 a10 a11 a12 a13 a14 a15 a16 := rfl
theorem fB17 {T0 T1 T2 T3 T4 T5 T6 T7 T8 T9 T10 T11 T12 T13 T14 T15 T16 β : Type} {o : Option (T0 × T1 × T2 × T3 × T4 × T5 × T6 × T7 × T8 × T9 × T10 × T11 × T12 × T13 × T14 × T15 × T16)} {k : T0 → T1 → T2 → T3 → T4 → T5 → T6 → T7 → T8 → T9 → T10 → T11 → T12 → T13 → T14 → T15 → T16 → Option β} {x : β} (h : bd17 o k = some x) : ∃ (a0 : T0) (a1 : T1) (a2 : T2) (a3 : T3) (a4 : T4) (a5 : T5) (a6 : T6) (a7 : T7) (a8 : T8) (a9 : T9) (a10 : T10) (a11 : T11) (a12 : T12) (a13 : T13) (a14 : T14) (a15 : T15) (a16 : T16), o = some (a0, a1, a2, a3, a4, a5, a6, a7, a8, a9, a10, a11, a12, a13, a14, a15, a16) ∧ k a0 a1 a2 a3 a4 a5 a6 a7 a8 a9 a10 a11 a12 a13 a14 a15 a16 = some x := by
  cases o with
  | none => cases h
  | some q => exact ⟨q.1, q.2.1, q.2.2.1, q.2.2.2.1, q.2.2.2.2.1, q.2.2.2.2.2.1, q.2.2.2.2.2.2.1, q.2.2.2.2.2.2.2.1, q.2.2.2.2.2.2.2.2.1, q.2.2.2.2.2.2.2.2.2.1, q.2.2.2.2.2.2.2.2.2.2.1, q.2.2.2.2.2.2.2.2.2.2.2.1, q.2.2.2.2.2.2.2.2.2.2.2.2.1, q.2.2.2.2.2.2.2.2.2.2.2.2.2.1, q.2.2.2.2.2.2.2.2.2.2.2.2.2.2.1, q.2.2.2.2.2.2.2.2.2.2.2.2.2.2.2.1, q.2.2.2.2.2.2.2.2.2.2.2.2.2.2.2.2, rfl, h⟩
def bd18 {T0 T1 T2 T3 T4 T5 T6 T7 T8 T9 T10 T11 T12 T13 T14 T15 T16 T17 β : Type} (o : Option (T0 × T1 × T2 × T3 × T4 × T5 × T6 × T7 × T8 × T9 × T10 × T11 × T12 × T13 × T14 × T15 × T16 × T17)) (k : T0 → T1 → T2 → T3 → T4 → T5 → T6 → T7 → T8 → T9 → T10 → T11 → T12 → T13 → T14 → T15 → T16 → T17 → Option β) : Option β := match o with
  | none => none
  | some (a0, a1, a2, a3, a4, a5, a6, a7, a8, a9, a10, a11, a12, a13, a14, a15, a16, a17) => k a0 a1 a2 a3 a4 a5 a6 a7 a8 a9 a10 a11 a12 a13 a14 a15 a16 a17
theorem bd18_s {T0 T1 T2 T3 T4 T5 T6 T7 T8 T9 T10 T11 T12 T13 T14 T15 T16 T17 β : Type} (k : T0 → T1 → T2 → T3 → T4 → T5 → T6 → T7 → T8 → T9 → T10 → T11 → T12 → T13 → T14 → T15 → T16 → T17 → Option β) (a0 : T0) (a1 : T1) (a2 : T2) (a3 : T3) (a4 : T4) (a5 : T5) (a6 : T6) (a7 : T7) (a8 : T8) (a9 : T9) (a10 : T10) (a11 : T11) (a12 : T12) (a13 : T13) (a14 : T14) (a15 : T15) (a16 : T16) (a17 : T17) : bd18 (some (a0, a1, a2, a3, a4, a5, a6, a7, a8, a9, a10, a11, a12, a13, a14, a15, a16, a17)) k = k a0 a1 a2 a3 a4 a5 a6 a7 a8 a9 a10 a11 a12 a13 a14 a15 a16 a17 := rfl
theorem fB18 {T0 T1 T2 T3 T4 T5 T6 T7 T8 T9 T10 T11 T12 T13 T14 T15 T16 T17 β : Type} {o : Option (T0 × T1 × T2 × T3 × T4 × T5 × T6 × T7 × T8 × T9 × T10 × T11 × T12 × T13 × T14 × T15 × T16 × T17)} {k : T0 → T1 → T2 → T3 → T4 → T5 → T6 → T7 → T8 → T9 → T10 → T11 → T12 → T13 → T14 → T15 → T16 → T17 → Option β} {x : β} (h : bd18 o k = some x) : ∃ (a0 : T0) (a1 : T1) (a2 : T2) (a3 : T3) (a4 : T4) (a5 : T5) (a6 : T6) (a7 : T7) (a8 : T8) (a9 : T9) (a10 : T10) (a11 : T11) (a12 : T12) (a13 : T13) (a14 : T14) (a15 : T15) (a16 : T16) (a17 : T17), o = some (a0, a1, a2, a3, a4, a5, a6, a7, a8, a9, a10, a11, a12, a13, a14, a15, a16, a17) ∧ k a0 a1 a2 a3 a4 a5 a6 a7 a8 a9 a10 a11 a12 a13 a14 a15 a16 a17 = some x := by
  cases o with
  | none => cases h
  | some q => exact ⟨q.1, q.2.1, q.2.2.1, q.2.2.2.1, q.2.2.2.2.1, q.2.2.2.2.2.1, q.2.2.2.2.2.2.1, q.2.2.2.2.2.2.2.1, q.2.2.2.2.2.2.2.2.1, q.2.2.2.2.2.2.2.2.2.1, q.2.2.2.2.2.2.2.2.2.2.1, q.2.2.2.2.2.2.2.2.2.2.2.1, q.2.2.2.2.2.2.2.2.2.2.2.2.1, q.2.2.2.2.2.2.2.2.2.2.2.2.2.1, q.2.2.2.2.2.2.2.2.2.2.2.2.2.2.1, q.2.2.2.2.2.2.2.2.2.2.2.2.2.2.2.1, q.2.2.2.2.2.2.2.2.2.2.2.2.2.2.2.2.1, q.2.2.2.2.2.2.2.2.2.2.2.2.2.2.2.2.2, rfl, h⟩
abbrev XW (o : Nat → Nat) (y : Nat → ClassId) (pl : Nat → Int64) (te : Nat → Int32) (be : Nat → Int64) (cn : Int32) (ch : Nat → Int32) (le : Int32) (rE : Int32) (rL : Int32) (rP : Int32) (rF : Int32) (rS : Int32) (rD : Int32) (hs : Nat → Int64) (ho : Int32) (hc : Int32) (sl : Nat → Int64) (fi : Nat → Int32) : va_W := [(o 0, .inr (4, [.ref (o 1), .ref (o 2), .ref (o 5), .ref (o 7), .ref (o 8), .ref (o 10), .ref (o 11)])), (o 1, .inl (y 1, 6, .inr (.inl pl))), (o 2, .inr (2, [.ref (o 3), .ref (o 4), .int cn])), (o 3, .inl (y 0, 40, .inl te)), (o 4, .inl (y 1, 40, .inr (.inl be))), (o 5, .inr (1, [.ref (o 6), .int le])), (o 6, .inl (y 2, 80, .inl ch)), (o 7, .inr (0, [.int rE, .int rL, .int rP, .int rF, .int rS, .int rD])), (o 8, .inr (3, [.ref (o 9), .int ho, .int hc])), (o 9, .inl (y 1, 36, .inr (.inl hs))), (o 10, .inl (y 1, 12, .inr (.inl sl))), (o 11, .inl (y 3, 2, .inl fi))]
abbrev CF (o : Nat → Nat) (y : Nat → ClassId) (te : Nat → Int32) (be : Nat → Int64) (cn : Int32) : va_W := [(o 2, .inr (2, [.ref (o 3), .ref (o 4), .int cn])), (o 3, .inl (y 0, 40, .inl te)), (o 4, .inl (y 1, 40, .inr (.inl be)))]
abbrev TX (o : Nat → Nat) (y : Nat → ClassId) (ch : Nat → Int32) (le : Int32) : va_W := [(o 5, .inr (1, [.ref (o 6), .int le])), (o 6, .inl (y 2, 80, .inl ch))]
abbrev RD (o : Nat → Nat) (y : Nat → ClassId) (rE : Int32) (rL : Int32) (rP : Int32) (rF : Int32) (rS : Int32) (rD : Int32) : va_W := [(o 7, .inr (0, [.int rE, .int rL, .int rP, .int rF, .int rS, .int rD]))]
abbrev HI (o : Nat → Nat) (y : Nat → ClassId) (hs : Nat → Int64) (ho : Int32) (hc : Int32) : va_W := [(o 8, .inr (3, [.ref (o 9), .int ho, .int hc])), (o 9, .inl (y 1, 36, .inr (.inl hs)))]
abbrev HP (o : Nat → Nat) (y : Nat → ClassId) (pl : Nat → Int64) (hs : Nat → Int64) (ho : Int32) (hc : Int32) : va_W := [(o 8, .inr (3, [.ref (o 9), .int ho, .int hc])), (o 9, .inl (y 1, 36, .inr (.inl hs))), (o 1, .inl (y 1, 6, .inr (.inl pl)))]
abbrev MW (w : Nat → Nat) (y : Nat → ClassId) (th : Int32) (ms : Nat → Int32) (mst : Nat → Int32) (smn : Int32) (msl : Nat → Int32) (mhs : Nat → Int32) (mtx : Nat → Int32) (mle : Int32) (mat : Int32) (mwl : Int32) (mrd : Nat → Int32) (mrm : Int32) (mtp : Int64) (mbt : Int64) (mtm : Nat → Int32) (mtn : Int32) (mnt : Int32) (mnb : Int32) (mun : Nat → Int32) (mum : Int32) (mau : Int32) : va_W := [(w 0, .inr (5, [.int th, .ref (w 1), .ref (w 2), .int smn, .ref (w 3), .ref (w 4), .ref (w 5), .int mle, .int mat, .int mwl, .ref (w 6), .int mrm, .long mtp, .long mbt, .ref (w 7), .int mtn, .int mnt, .int mnb, .ref (w 8), .int mum, .int mau])), (w 1, .inl (y 0, 12, .inl ms)), (w 2, .inl (y 0, 72, .inl mst)), (w 3, .inl (y 0, 24, .inl msl)), (w 4, .inl (y 3, 2, .inl mhs)), (w 5, .inl (y 0, 80, .inl mtx)), (w 6, .inl (y 0, 84, .inl mrd)), (w 7, .inl (y 0, 40, .inl mtm)), (w 8, .inl (y 0, 40, .inl mun))]
abbrev XO (o : Nat → Nat) (v : Nat) (y : Nat → ClassId) (pl : Nat → Int64) (te : Nat → Int32) (be : Nat → Int64) (cn : Int32) (ch : Nat → Int32) (le : Int32) (rE : Int32) (rL : Int32) (rP : Int32) (rF : Int32) (rS : Int32) (rD : Int32) (hs : Nat → Int64) (ho : Int32) (hc : Int32) (sl : Nat → Int64) (fi : Nat → Int32) (ou : Nat → Int64) : va_W := [(o 0, .inr (4, [.ref (o 1), .ref (o 2), .ref (o 5), .ref (o 7), .ref (o 8), .ref (o 10), .ref (o 11)])), (o 1, .inl (y 1, 6, .inr (.inl pl))), (o 2, .inr (2, [.ref (o 3), .ref (o 4), .int cn])), (o 3, .inl (y 0, 40, .inl te)), (o 4, .inl (y 1, 40, .inr (.inl be))), (o 5, .inr (1, [.ref (o 6), .int le])), (o 6, .inl (y 2, 80, .inl ch)), (o 7, .inr (0, [.int rE, .int rL, .int rP, .int rF, .int rS, .int rD])), (o 8, .inr (3, [.ref (o 9), .int ho, .int hc])), (o 9, .inl (y 1, 36, .inr (.inl hs))), (o 10, .inl (y 1, 12, .inr (.inl sl))), (o 11, .inl (y 3, 2, .inl fi)), (v, .inl (y 1, 1, .inr (.inl ou)))]
section XR
abbrev TY (y : Nat → ClassId) : List (ClassId × FieldType) := [(y 0, .int), (y 1, .long), (y 2, .char), (y 3, .boolean)]
def px (D : va_G) (y : Nat → ClassId) (sz : Nat) (w : va_W) : State → Prop := fun U => U.heap.size = sz ∧ va_P D vwCl w U.heap ∧ va_K D vwCl (TY y) U ∧ va_D (fun _ => True) w
def bx (D : va_G) (y : Nat → ClassId) (A : Nat → Prop) (w : va_W) : State → Prop := fun t => va_P D vwCl w t.heap ∧ va_K D vwCl (TY y) t ∧ va_D A w
abbrev Qri (D : va_G) (y : Nat → ClassId) (sz : Nat) (w0 w1 : va_W) (v : Int32) : Array Value → State → Outcome → State → Prop := va_Qi (fun (r : Int32) (_ : Unit) => r = v) (fun _ => bx D y (va_A w0 sz) w1) (va_A w0 sz)
abbrev Qrl (D : va_G) (y : Nat → ClassId) (sz : Nat) (w0 w1 : va_W) (v : Int64) : Array Value → State → Outcome → State → Prop := va_Ql (fun (r : Int64) (_ : Unit) => r = v) (fun _ => bx D y (va_A w0 sz) w1) (va_A w0 sz)
abbrev Qrv (D : va_G) (y : Nat → ClassId) (sz : Nat) (w0 w1 : va_W) : Array Value → State → Outcome → State → Prop := va_Qv (fun (_ : Unit) => True) (fun _ => bx D y (va_A w0 sz) w1) (va_A w0 sz)
theorem px_blind {D : va_G} {y : Nat → ClassId} {sz : Nat} {w : va_W} {av : List Value} : FrameBlind (va_Pc av (px D y sz w)) := fun a U g mk q => by
  obtain ⟨q0, q1, qP, qK, qD⟩ := q
  exact ⟨q0, q1, qP, va_K.moved (u := U) (U := U.calling g mk a) (Vm.Alike.refl U.vm) qK, qD⟩
/-- the place of a cell of a call: the words of the call's world, out of the caller's world -/
theorem px_of {D : va_G} {y : Nat → ClassId} {A : Nat → Prop} {ws wc : va_W} {H : Heap} {s : State} {av : List Value} (hK : va_K D vwCl (TY y) s) (hP : va_P D vwCl ws H) (hD : va_D A ws) (isC : List Nat) (hC : isC.map (fun i => ws[i]?) = wc.map some) (hn : va_nd isC = true) :
    (∀ U : State, U.heap = H → s.WarmedH U.vm → va_Pc av (px D y H.size wc) av.toArray U) ∧ va_P D vwCl wc H := by
  have hPc : va_P D vwCl wc H := by
    refine hP.sub isC ?_
    have : isC.filterMap (fun i => ws[i]?) = (isC.map (fun i => ws[i]?)).filterMap id := by rw [List.filterMap_map]; rfl
    rw [this, hC, List.filterMap_map]
    simp
  refine ⟨fun U hU hW => ⟨rfl, by rw [hU], by rw [hU]; exact hPc, va_K.moved hW.alike hK, (hD.sub isC hn hC).weaken (fun _ _ _ _ => trivial)⟩, hPc⟩
/-- the world behind a call, its cells in their old order -/
theorem px_back {D : va_G} {A : Nat → Prop} {ws wc wr w1 ws1 : va_W} {H0 H H1 : Heap} {locs : List Loc} (hP : va_P D vwCl ws H) (hD : va_D A ws) (hS : va_S A H0 H locs) (hA : ∀ q, H0.size ≤ q → A q) (isC isR isP : List Nat)
    (hC : isC.map (fun i => ws[i]?) = wc.map some) (hR : isR.map (fun i => ws[i]?) = wr.map some) (hn : va_nd isR = true) (hdis : ∀ i ∈ isR, i ∉ isC) (hp : isP.map (fun i => (wr ++ w1)[i]?) = ws1.map some) (hnp : va_nd isP = true)
    (hk : ∀ q : Nat, q < H.size → ¬ va_A wc H.size q → H1[q]? = H[q]?) (hP1 : va_P D vwCl w1 H1) (hD1 : va_D (va_A wc H.size) w1) : va_P D vwCl ws1 H1 ∧ va_D A ws1 := by
  have hF := va_free hD hS hA isC hC
  obtain ⟨a, b⟩ := va_join hP hD isC isR hC hR hn hdis hk hF hP1 hD1
  refine ⟨?_, b.sub isP hnp hp⟩
  refine a.sub isP ?_
  have : isP.filterMap (fun i => (wr ++ w1)[i]?) = (isP.map (fun i => (wr ++ w1)[i]?)).filterMap id := by rw [List.filterMap_map]; rfl
  rw [this, hp, List.filterMap_map]
  simp
section
variable {p : Program} {l : Launch} {e : Env} {R : Room} {s : State} {m : MethodId} {args : Array Value} {below : List Frame} {meth : Method} {c : Code} {H : Heap} {locs : List Loc} {cells slots : Nat} {Q : State → Prop}
variable {cc : ByteArray} {pc : Nat} {ls : Array Slot} {rest st0 : List Value} {D : va_G} {y : Nat → ClassId} {A : Nat → Prop} {ws wc wr w1 ws1 : va_W} {H0 : Heap}
variable {yy : MethodName} {bytes : ByteArray} {maxL nL n index : Nat} {ret : Option FieldType} {wo : List Cond} {rm : Room} {Ts : List Cond} {own C : String} {b : Addr} {As : List Value}
theorem cV_i {v : Int32} (S : CallFix p m c cc nL s args Ts own) (hM : Met l yy wo rm (va_Pc (Value.ref b :: As) (px D y H.size wc)) (Qri D y H.size wc w1 v) 0 0 (va_A wc H.size)) (cw : CallW R s args own C index yy bytes maxL ret wo rm 0 0 n) (hK : va_K D vwCl (TY y) s) (hP : va_P D vwCl ws H) (hD : va_D A ws) (hS : va_S A H0 H locs) (hA : ∀ q, H0.size ≤ q → A q) (isC isR isP : List Nat)
    (hC : isC.map (fun i => ws[i]?) = wc.map some) (hR : isR.map (fun i => ws[i]?) = (isR.filterMap (fun i => ws[i]?)).map some) (hn : va_nd isR = true) (hdis : ∀ i ∈ isR, i ∉ isC) (hp : isP.map (fun i => ((isR.filterMap (fun i => ws[i]?)) ++ w1)[i]?) = ws1.map some) (hnp : va_nd isP = true) (hnC : va_nd isC = true) (q0 : Nat) {ci : Nat} {fs : List Value} {T : u_T} {N : Nat} (hq : wc[q0]? = some (b, .inr (ci, fs))) (hcl : vwCl[ci]? = some (C, T, N))
    (hlen : As.length = n) (hsz : ls.size = nL) (hst : st0 = As.reverse ++ .ref b :: rest) (hW : (rest.map fun v => v.category).sum ≤ 8) (hdg : decode cc pc = .ok (.invokevirtual index, 3)) (hf : cells ≤ R.cells ∧ slots ≤ R.slots)
    (kk : ∀ (H1 : Heap) (locs1 : List Loc), va_P D vwCl ws1 H1 → va_D A ws1 → va_S A H0 H1 locs1 → W p l e R s m args below meth c H1 locs1 cells slots Q (F0 m (pc + 3) ls (.int v :: rest))) : W p l e R s m args below meth c H locs cells slots Q (F0 m pc ls st0) := by
  obtain ⟨hpre, hPc⟩ := px_of (av := (Value.ref b :: As)) hK hP hD isC hC hnC
  have hF := va_free hD hS hA isC hC
  refine va_calli (va_runV (g := F0 m pc ls st0) (rest := rest) S hM cw ⟨px_blind, va_recv hK hPc hcl hq, hpre⟩ rfl hlen hsz hst (lv_room hW) hdg hf) hS (fun q _ h => hF q h) hF (fun r u t H1 locs1 ht hvm hw hB hz hk hS1 => ?_)
  obtain ⟨b1, b2, b3⟩ := hB
  rw [ht] at b1
  obtain ⟨x1, x2⟩ := px_back hP hD hS hA isC isR isP hC hR hn hdis hp hnp hk b1 b3
  subst hw
  exact kk H1 locs1 x1 x2 hS1
theorem cS_i {v : Int32} (S : CallFix p m c cc nL s args Ts own) (hM : Met l yy wo rm (va_Pc As (px D y H.size wc)) (Qri D y H.size wc w1 v) 0 0 (va_A wc H.size)) (cw : (CallB R s args own index yy bytes maxL ret wo rm 0 0 n ∧ (Cond.static yy).before args s = true)) (hK : va_K D vwCl (TY y) s) (hP : va_P D vwCl ws H) (hD : va_D A ws) (hS : va_S A H0 H locs) (hA : ∀ q, H0.size ≤ q → A q) (isC isR isP : List Nat)
    (hC : isC.map (fun i => ws[i]?) = wc.map some) (hR : isR.map (fun i => ws[i]?) = (isR.filterMap (fun i => ws[i]?)).map some) (hn : va_nd isR = true) (hdis : ∀ i ∈ isR, i ∉ isC) (hp : isP.map (fun i => ((isR.filterMap (fun i => ws[i]?)) ++ w1)[i]?) = ws1.map some) (hnp : va_nd isP = true) (hnC : va_nd isC = true)
    (hlen : As.length = n) (hsz : ls.size = nL) (hst : st0 = As.reverse ++ rest) (hW : (rest.map fun v => v.category).sum ≤ 8) (hdg : decode cc pc = .ok (.invokestatic index, 3)) (hf : cells ≤ R.cells ∧ slots ≤ R.slots)
    (kk : ∀ (H1 : Heap) (locs1 : List Loc), va_P D vwCl ws1 H1 → va_D A ws1 → va_S A H0 H1 locs1 → W p l e R s m args below meth c H1 locs1 cells slots Q (F0 m (pc + 3) ls (.int v :: rest))) : W p l e R s m args below meth c H locs cells slots Q (F0 m pc ls st0) := by
  obtain ⟨hpre, hPc⟩ := px_of (av := As) hK hP hD isC hC hnC
  have hF := va_free hD hS hA isC hC
  refine va_calli (va_runS (g := F0 m pc ls st0) (rest := rest) S hM cw ⟨px_blind, hpre⟩ rfl hlen hsz hst (lv_room hW) hdg hf) hS (fun q _ h => hF q h) hF (fun r u t H1 locs1 ht hvm hw hB hz hk hS1 => ?_)
  obtain ⟨b1, b2, b3⟩ := hB
  rw [ht] at b1
  obtain ⟨x1, x2⟩ := px_back hP hD hS hA isC isR isP hC hR hn hdis hp hnp hk b1 b3
  subst hw
  exact kk H1 locs1 x1 x2 hS1
theorem cV_l {v : Int64} (S : CallFix p m c cc nL s args Ts own) (hM : Met l yy wo rm (va_Pc (Value.ref b :: As) (px D y H.size wc)) (Qrl D y H.size wc w1 v) 0 0 (va_A wc H.size)) (cw : CallW R s args own C index yy bytes maxL ret wo rm 0 0 n) (hK : va_K D vwCl (TY y) s) (hP : va_P D vwCl ws H) (hD : va_D A ws) (hS : va_S A H0 H locs) (hA : ∀ q, H0.size ≤ q → A q) (isC isR isP : List Nat)
    (hC : isC.map (fun i => ws[i]?) = wc.map some) (hR : isR.map (fun i => ws[i]?) = (isR.filterMap (fun i => ws[i]?)).map some) (hn : va_nd isR = true) (hdis : ∀ i ∈ isR, i ∉ isC) (hp : isP.map (fun i => ((isR.filterMap (fun i => ws[i]?)) ++ w1)[i]?) = ws1.map some) (hnp : va_nd isP = true) (hnC : va_nd isC = true) (q0 : Nat) {ci : Nat} {fs : List Value} {T : u_T} {N : Nat} (hq : wc[q0]? = some (b, .inr (ci, fs))) (hcl : vwCl[ci]? = some (C, T, N))
    (hlen : As.length = n) (hsz : ls.size = nL) (hst : st0 = As.reverse ++ .ref b :: rest) (hW : (rest.map fun v => v.category).sum ≤ 8) (hdg : decode cc pc = .ok (.invokevirtual index, 3)) (hf : cells ≤ R.cells ∧ slots ≤ R.slots)
    (kk : ∀ (H1 : Heap) (locs1 : List Loc), va_P D vwCl ws1 H1 → va_D A ws1 → va_S A H0 H1 locs1 → W p l e R s m args below meth c H1 locs1 cells slots Q (F0 m (pc + 3) ls (.long v :: rest))) : W p l e R s m args below meth c H locs cells slots Q (F0 m pc ls st0) := by
  obtain ⟨hpre, hPc⟩ := px_of (av := (Value.ref b :: As)) hK hP hD isC hC hnC
  have hF := va_free hD hS hA isC hC
  refine va_calll (va_runV (g := F0 m pc ls st0) (rest := rest) S hM cw ⟨px_blind, va_recv hK hPc hcl hq, hpre⟩ rfl hlen hsz hst (lv_room hW) hdg hf) hS (fun q _ h => hF q h) hF (fun r u t H1 locs1 ht hvm hw hB hz hk hS1 => ?_)
  obtain ⟨b1, b2, b3⟩ := hB
  rw [ht] at b1
  obtain ⟨x1, x2⟩ := px_back hP hD hS hA isC isR isP hC hR hn hdis hp hnp hk b1 b3
  subst hw
  exact kk H1 locs1 x1 x2 hS1
theorem cS_l {v : Int64} (S : CallFix p m c cc nL s args Ts own) (hM : Met l yy wo rm (va_Pc As (px D y H.size wc)) (Qrl D y H.size wc w1 v) 0 0 (va_A wc H.size)) (cw : (CallB R s args own index yy bytes maxL ret wo rm 0 0 n ∧ (Cond.static yy).before args s = true)) (hK : va_K D vwCl (TY y) s) (hP : va_P D vwCl ws H) (hD : va_D A ws) (hS : va_S A H0 H locs) (hA : ∀ q, H0.size ≤ q → A q) (isC isR isP : List Nat)
    (hC : isC.map (fun i => ws[i]?) = wc.map some) (hR : isR.map (fun i => ws[i]?) = (isR.filterMap (fun i => ws[i]?)).map some) (hn : va_nd isR = true) (hdis : ∀ i ∈ isR, i ∉ isC) (hp : isP.map (fun i => ((isR.filterMap (fun i => ws[i]?)) ++ w1)[i]?) = ws1.map some) (hnp : va_nd isP = true) (hnC : va_nd isC = true)
    (hlen : As.length = n) (hsz : ls.size = nL) (hst : st0 = As.reverse ++ rest) (hW : (rest.map fun v => v.category).sum ≤ 8) (hdg : decode cc pc = .ok (.invokestatic index, 3)) (hf : cells ≤ R.cells ∧ slots ≤ R.slots)
    (kk : ∀ (H1 : Heap) (locs1 : List Loc), va_P D vwCl ws1 H1 → va_D A ws1 → va_S A H0 H1 locs1 → W p l e R s m args below meth c H1 locs1 cells slots Q (F0 m (pc + 3) ls (.long v :: rest))) : W p l e R s m args below meth c H locs cells slots Q (F0 m pc ls st0) := by
  obtain ⟨hpre, hPc⟩ := px_of (av := As) hK hP hD isC hC hnC
  have hF := va_free hD hS hA isC hC
  refine va_calll (va_runS (g := F0 m pc ls st0) (rest := rest) S hM cw ⟨px_blind, hpre⟩ rfl hlen hsz hst (lv_room hW) hdg hf) hS (fun q _ h => hF q h) hF (fun r u t H1 locs1 ht hvm hw hB hz hk hS1 => ?_)
  obtain ⟨b1, b2, b3⟩ := hB
  rw [ht] at b1
  obtain ⟨x1, x2⟩ := px_back hP hD hS hA isC isR isP hC hR hn hdis hp hnp hk b1 b3
  subst hw
  exact kk H1 locs1 x1 x2 hS1
theorem cV_v (S : CallFix p m c cc nL s args Ts own) (hM : Met l yy wo rm (va_Pc (Value.ref b :: As) (px D y H.size wc)) (Qrv D y H.size wc w1) 0 0 (va_A wc H.size)) (cw : CallW R s args own C index yy bytes maxL ret wo rm 0 0 n) (hK : va_K D vwCl (TY y) s) (hP : va_P D vwCl ws H) (hD : va_D A ws) (hS : va_S A H0 H locs) (hA : ∀ q, H0.size ≤ q → A q) (isC isR isP : List Nat)
    (hC : isC.map (fun i => ws[i]?) = wc.map some) (hR : isR.map (fun i => ws[i]?) = (isR.filterMap (fun i => ws[i]?)).map some) (hn : va_nd isR = true) (hdis : ∀ i ∈ isR, i ∉ isC) (hp : isP.map (fun i => ((isR.filterMap (fun i => ws[i]?)) ++ w1)[i]?) = ws1.map some) (hnp : va_nd isP = true) (hnC : va_nd isC = true) (q0 : Nat) {ci : Nat} {fs : List Value} {T : u_T} {N : Nat} (hq : wc[q0]? = some (b, .inr (ci, fs))) (hcl : vwCl[ci]? = some (C, T, N))
    (hlen : As.length = n) (hsz : ls.size = nL) (hst : st0 = As.reverse ++ .ref b :: rest) (hW : (rest.map fun v => v.category).sum ≤ 8) (hdg : decode cc pc = .ok (.invokevirtual index, 3)) (hf : cells ≤ R.cells ∧ slots ≤ R.slots)
    (kk : ∀ (H1 : Heap) (locs1 : List Loc), va_P D vwCl ws1 H1 → va_D A ws1 → va_S A H0 H1 locs1 → W p l e R s m args below meth c H1 locs1 cells slots Q (F0 m (pc + 3) ls (rest))) : W p l e R s m args below meth c H locs cells slots Q (F0 m pc ls st0) := by
  obtain ⟨hpre, hPc⟩ := px_of (av := (Value.ref b :: As)) hK hP hD isC hC hnC
  have hF := va_free hD hS hA isC hC
  refine va_callv (va_runV (g := F0 m pc ls st0) (rest := rest) S hM cw ⟨px_blind, va_recv hK hPc hcl hq, hpre⟩ rfl hlen hsz hst (lv_room hW) hdg hf) hS (fun q _ h => hF q h) hF (fun u t H1 locs1 ht hvm hw hB hz hk hS1 => ?_)
  obtain ⟨b1, b2, b3⟩ := hB
  rw [ht] at b1
  obtain ⟨x1, x2⟩ := px_back hP hD hS hA isC isR isP hC hR hn hdis hp hnp hk b1 b3
  exact kk H1 locs1 x1 x2 hS1
theorem cS_v (S : CallFix p m c cc nL s args Ts own) (hM : Met l yy wo rm (va_Pc As (px D y H.size wc)) (Qrv D y H.size wc w1) 0 0 (va_A wc H.size)) (cw : (CallB R s args own index yy bytes maxL ret wo rm 0 0 n ∧ (Cond.static yy).before args s = true)) (hK : va_K D vwCl (TY y) s) (hP : va_P D vwCl ws H) (hD : va_D A ws) (hS : va_S A H0 H locs) (hA : ∀ q, H0.size ≤ q → A q) (isC isR isP : List Nat)
    (hC : isC.map (fun i => ws[i]?) = wc.map some) (hR : isR.map (fun i => ws[i]?) = (isR.filterMap (fun i => ws[i]?)).map some) (hn : va_nd isR = true) (hdis : ∀ i ∈ isR, i ∉ isC) (hp : isP.map (fun i => ((isR.filterMap (fun i => ws[i]?)) ++ w1)[i]?) = ws1.map some) (hnp : va_nd isP = true) (hnC : va_nd isC = true)
    (hlen : As.length = n) (hsz : ls.size = nL) (hst : st0 = As.reverse ++ rest) (hW : (rest.map fun v => v.category).sum ≤ 8) (hdg : decode cc pc = .ok (.invokestatic index, 3)) (hf : cells ≤ R.cells ∧ slots ≤ R.slots)
    (kk : ∀ (H1 : Heap) (locs1 : List Loc), va_P D vwCl ws1 H1 → va_D A ws1 → va_S A H0 H1 locs1 → W p l e R s m args below meth c H1 locs1 cells slots Q (F0 m (pc + 3) ls (rest))) : W p l e R s m args below meth c H locs cells slots Q (F0 m pc ls st0) := by
  obtain ⟨hpre, hPc⟩ := px_of (av := As) hK hP hD isC hC hnC
  have hF := va_free hD hS hA isC hC
  refine va_callv (va_runS (g := F0 m pc ls st0) (rest := rest) S hM cw ⟨px_blind, hpre⟩ rfl hlen hsz hst (lv_room hW) hdg hf) hS (fun q _ h => hF q h) hF (fun u t H1 locs1 ht hvm hw hB hz hk hS1 => ?_)
  obtain ⟨b1, b2, b3⟩ := hB
  rw [ht] at b1
  obtain ⟨x1, x2⟩ := px_back hP hD hS hA isC isR isP hC hR hn hdis hp hnp hk b1 b3
  exact kk H1 locs1 x1 x2 hS1
theorem cI_v (S : CallFix p m c cc nL s args Ts own) (hM : Met l yy wo rm (va_Pc (Value.ref b :: As) (px D y H.size wc)) (Qrv D y H.size wc w1) 0 0 (va_A wc H.size)) (cw : (CallB R s args own index yy bytes maxL none wo rm 0 0 n ∧ yy.name = "<init>" ∧ (Cond.instanceMethod yy).before args s = true)) (hK : va_K D vwCl (TY y) s) (hP : va_P D vwCl ws H) (hD : va_D A ws) (hS : va_S A H0 H locs) (hA : ∀ q, H0.size ≤ q → A q) (isC isR isP : List Nat)
    (hC : isC.map (fun i => ws[i]?) = wc.map some) (hR : isR.map (fun i => ws[i]?) = (isR.filterMap (fun i => ws[i]?)).map some) (hn : va_nd isR = true) (hdis : ∀ i ∈ isR, i ∉ isC) (hp : isP.map (fun i => ((isR.filterMap (fun i => ws[i]?)) ++ w1)[i]?) = ws1.map some) (hnp : va_nd isP = true) (hnC : va_nd isC = true)
    (hlen : As.length = n) (hsz : ls.size = nL) (hst : st0 = As.reverse ++ .ref b :: rest) (hW : (rest.map fun v => v.category).sum ≤ 8) (hdg : decode cc pc = .ok (.invokespecial index, 3)) (hf : cells ≤ R.cells ∧ slots ≤ R.slots)
    (kk : ∀ (H1 : Heap) (locs1 : List Loc), va_P D vwCl ws1 H1 → va_D A ws1 → va_S A H0 H1 locs1 → W p l e R s m args below meth c H1 locs1 cells slots Q (F0 m (pc + 3) ls (rest))) : W p l e R s m args below meth c H locs cells slots Q (F0 m pc ls st0) := by
  obtain ⟨hpre, hPc⟩ := px_of (av := (Value.ref b :: As)) hK hP hD isC hC hnC
  have hF := va_free hD hS hA isC hC
  refine va_callv (va_runI (g := F0 m pc ls st0) (rest := rest) S hM cw ⟨px_blind, hpre⟩ rfl hlen hsz hst (lv_room hW) hdg hf) hS (fun q _ h => hF q h) hF (fun u t H1 locs1 ht hvm hw hB hz hk hS1 => ?_)
  obtain ⟨b1, b2, b3⟩ := hB
  rw [ht] at b1
  obtain ⟨x1, x2⟩ := px_back hP hD hS hA isC isR isP hC hR hn hdis hp hnp hk b1 b3
  exact kk H1 locs1 x1 x2 hS1
theorem cT_i {v : Int32} (S : CallFix p m c cc nL s args Ts own) (hM : Met l yy wo rm (va_Pc As (px D y H.size [])) (Qri D y H.size [] [] v) 0 0 (va_A [] H.size)) (cw : CallB R s args own index yy bytes maxL ret wo rm 0 0 n ∧ (Cond.static yy).before args s = true) (hK : va_K D vwCl (TY y) s) (hP : va_P D vwCl ws H) (hD : va_D A ws) (hS : va_S A H0 H locs) (hA : ∀ q, H0.size ≤ q → A q)
    (hlen : As.length = n) (hsz : ls.size = nL) (hst : st0 = As.reverse ++ rest) (hW : (rest.map fun v => v.category).sum ≤ 8) (hdg : decode cc pc = .ok (.invokestatic index, 3)) (hf : cells ≤ R.cells ∧ slots ≤ R.slots)
    (kk : ∀ (H1 : Heap) (locs1 : List Loc), va_P D vwCl ws H1 → va_D A ws → va_S A H0 H1 locs1 → W p l e R s m args below meth c H1 locs1 cells slots Q (F0 m (pc + 3) ls (.int v :: rest))) : W p l e R s m args below meth c H locs cells slots Q (F0 m pc ls st0) := by
  have hF : ∀ q, va_A [] H.size q → A q := fun q h => by
    rcases h with ⟨k, e, h⟩ | h
    · simp at h
    · exact hA q (Nat.le_trans hS.1 h)
  have hpre : ∀ U : State, U.heap = H → s.WarmedH U.vm → va_Pc As (px D y H.size []) As.toArray U := fun U hU hW => ⟨rfl, by rw [hU], fun k q h => by simp at h, va_K.moved hW.alike hK, ⟨fun i j p q h => by simp at h, fun k q h => by simp at h⟩⟩
  refine va_calli (va_runS (g := F0 m pc ls st0) (rest := rest) S hM cw ⟨px_blind, hpre⟩ rfl hlen hsz hst (lv_room hW) hdg hf) hS (fun q _ h => hF q h) hF (fun r u t H1 locs1 ht hvm hw hB hz hk hS1 => ?_)
  subst hw
  refine kk H1 locs1 (hP.kept (fun k q hq => hk q.1 ((hP k q hq).lt) (fun z => ?_))) hD hS1
  rcases z with ⟨k, e, h⟩ | h
  · simp at h
  · exact absurd h (Nat.not_le.mpr (hP k q hq).lt)
theorem cT_l {v : Int64} (S : CallFix p m c cc nL s args Ts own) (hM : Met l yy wo rm (va_Pc As (px D y H.size [])) (Qrl D y H.size [] [] v) 0 0 (va_A [] H.size)) (cw : CallB R s args own index yy bytes maxL ret wo rm 0 0 n ∧ (Cond.static yy).before args s = true) (hK : va_K D vwCl (TY y) s) (hP : va_P D vwCl ws H) (hD : va_D A ws) (hS : va_S A H0 H locs) (hA : ∀ q, H0.size ≤ q → A q)
    (hlen : As.length = n) (hsz : ls.size = nL) (hst : st0 = As.reverse ++ rest) (hW : (rest.map fun v => v.category).sum ≤ 8) (hdg : decode cc pc = .ok (.invokestatic index, 3)) (hf : cells ≤ R.cells ∧ slots ≤ R.slots)
    (kk : ∀ (H1 : Heap) (locs1 : List Loc), va_P D vwCl ws H1 → va_D A ws → va_S A H0 H1 locs1 → W p l e R s m args below meth c H1 locs1 cells slots Q (F0 m (pc + 3) ls (.long v :: rest))) : W p l e R s m args below meth c H locs cells slots Q (F0 m pc ls st0) := by
  have hF : ∀ q, va_A [] H.size q → A q := fun q h => by
    rcases h with ⟨k, e, h⟩ | h
    · simp at h
    · exact hA q (Nat.le_trans hS.1 h)
  have hpre : ∀ U : State, U.heap = H → s.WarmedH U.vm → va_Pc As (px D y H.size []) As.toArray U := fun U hU hW => ⟨rfl, by rw [hU], fun k q h => by simp at h, va_K.moved hW.alike hK, ⟨fun i j p q h => by simp at h, fun k q h => by simp at h⟩⟩
  refine va_calll (va_runS (g := F0 m pc ls st0) (rest := rest) S hM cw ⟨px_blind, hpre⟩ rfl hlen hsz hst (lv_room hW) hdg hf) hS (fun q _ h => hF q h) hF (fun r u t H1 locs1 ht hvm hw hB hz hk hS1 => ?_)
  subst hw
  refine kk H1 locs1 (hP.kept (fun k q hq => hk q.1 ((hP k q hq).lt) (fun z => ?_))) hD hS1
  rcases z with ⟨k, e, h⟩ | h
  · simp at h
  · exact absurd h (Nat.not_le.mpr (hP k q hq).lt)
theorem cT_v (S : CallFix p m c cc nL s args Ts own) (hM : Met l yy wo rm (va_Pc As (px D y H.size [])) (Qrv D y H.size [] []) 0 0 (va_A [] H.size)) (cw : CallB R s args own index yy bytes maxL ret wo rm 0 0 n ∧ (Cond.static yy).before args s = true) (hK : va_K D vwCl (TY y) s) (hP : va_P D vwCl ws H) (hD : va_D A ws) (hS : va_S A H0 H locs) (hA : ∀ q, H0.size ≤ q → A q)
    (hlen : As.length = n) (hsz : ls.size = nL) (hst : st0 = As.reverse ++ rest) (hW : (rest.map fun v => v.category).sum ≤ 8) (hdg : decode cc pc = .ok (.invokestatic index, 3)) (hf : cells ≤ R.cells ∧ slots ≤ R.slots)
    (kk : ∀ (H1 : Heap) (locs1 : List Loc), va_P D vwCl ws H1 → va_D A ws → va_S A H0 H1 locs1 → W p l e R s m args below meth c H1 locs1 cells slots Q (F0 m (pc + 3) ls rest)) : W p l e R s m args below meth c H locs cells slots Q (F0 m pc ls st0) := by
  have hF : ∀ q, va_A [] H.size q → A q := fun q h => by
    rcases h with ⟨k, e, h⟩ | h
    · simp at h
    · exact hA q (Nat.le_trans hS.1 h)
  have hpre : ∀ U : State, U.heap = H → s.WarmedH U.vm → va_Pc As (px D y H.size []) As.toArray U := fun U hU hW => ⟨rfl, by rw [hU], fun k q h => by simp at h, va_K.moved hW.alike hK, ⟨fun i j p q h => by simp at h, fun k q h => by simp at h⟩⟩
  refine va_callv (va_runS (g := F0 m pc ls st0) (rest := rest) S hM cw ⟨px_blind, hpre⟩ rfl hlen hsz hst (lv_room hW) hdg hf) hS (fun q _ h => hF q h) hF (fun u t H1 locs1 ht hvm hw hB hz hk hS1 => ?_)
  refine kk H1 locs1 (hP.kept (fun k q hq => hk q.1 ((hP k q hq).lt) (fun z => ?_))) hD hS1
  rcases z with ⟨k, e, h⟩ | h
  · simp at h
  · exact absurd h (Nat.not_le.mpr (hP k q hq).lt)
theorem hd_i {y' : MethodName} {wo wo' : List Cond} {w0 w1 : va_W} {sz : Nat} {v : Int32} (hy : plainName y'.cls = true) (hw : wo = Cond.code y' cc maxL (some .int) :: wo') (hlen : (lg_sl As).length ≤ maxL)
    (body : ∀ (p : Program) (e : Env) (s : State) (m : MethodId) (args : Array Value) (below : List Frame) (meth : Method) (c : Code) (A : Nat → Prop) (Q : State → Prop) (H : Heap) (locs : List Loc) (ls : Array Slot), p.tables.exec = Jvm.exec → c.code = cc → c.maxLocals = maxL → (∀ w ∈ wo, w.before args s = true) → s.vm.findClass y'.cls = some m.cls → meth.name = y'.name → (∀ q, s.heap.size ≤ q → A q) → va_P D vwCl w0 H → va_D A w0 → va_K D vwCl (TY y) s → va_S A s.heap H locs → lv_has ls maxL (lv_args 0 As) →
      (∀ (H : Heap) (locs : List Loc) (ls : Array Slot) (pc : Nat), decode cc pc = .ok (.ireturn, 1) → va_P D vwCl w1 H → va_D A w1 → va_S A s.heap H locs → W p l e rm s m args below meth c H locs 0 0 Q (F0 m pc ls [.int v])) →
      W p l e rm s m args below meth c H locs 0 0 Q (F0 m 0 ls [])) : Met l y' wo rm (va_Pc As (px D y sz w0)) (Qri D y sz w0 w1 v) 0 0 (va_A w0 sz) := by
  refine Met.ofW (cc := cc) (maxL := maxL) (ret := (some .int)) hy hw ?_
  intro p e s m args below meth c s₁ B hml hv
  obtain ⟨rfl, hsz, hP, hK, hD0⟩ := hv
  subst hsz
  have hts := atoms_spec (ws := wo) B.pre
  have hown := findClass_of_methodNamed B.named
  have hD := hD0.self (sz := s.heap.size)
  have hl := lv_entry As (n := maxL) hlen
  rw [lg_entry_eq]
  refine body p e s m _ below meth c (va_A w0 s.heap.size) _ s.heap [] _ B.exec B.bytes hml hts hown (name_of_methodNamed B.named B.method).1 (fun q h => Or.inr h) hP hD hK va_S.rf hl ?_
  intro H locs ls pc hdg hP1 hD1 hS
  exact W.iret (v := v) B.exec B.bytes B.returns (fun t ht hW => ⟨⟨v, (), rfl, rfl, by rw [ht]; exact hP1, va_K.moved hW.alike hK, hD1⟩, hS.F ht⟩) hS.2.2 hdg B.notSynchronized
theorem hd_z {y' : MethodName} {wo wo' : List Cond} {w0 w1 : va_W} {sz : Nat} {v : Int32} {rt : FieldType} (hy : plainName y'.cls = true) (hw : wo = Cond.code y' cc maxL (some rt) :: wo') (hlen : (lg_sl As).length ≤ maxL)
    (body : ∀ (p : Program) (e : Env) (s : State) (m : MethodId) (args : Array Value) (below : List Frame) (meth : Method) (c : Code) (A : Nat → Prop) (Q : State → Prop) (H : Heap) (locs : List Loc) (ls : Array Slot), p.tables.exec = Jvm.exec → c.code = cc → c.maxLocals = maxL → (∀ w ∈ wo, w.before args s = true) → s.vm.findClass y'.cls = some m.cls → meth.name = y'.name → (∀ q, s.heap.size ≤ q → A q) → va_P D vwCl w0 H → va_D A w0 → va_K D vwCl (TY y) s → va_S A s.heap H locs → lv_has ls maxL (lv_args 0 As) →
      (∀ (H : Heap) (locs : List Loc) (ls : Array Slot) (pc : Nat), decode cc pc = .ok (.ireturn, 1) → va_P D vwCl w1 H → va_D A w1 → va_S A s.heap H locs → narrow rt (.int v) = .int v → W p l e rm s m args below meth c H locs 0 0 Q (F0 m pc ls [.int v])) →
      W p l e rm s m args below meth c H locs 0 0 Q (F0 m 0 ls [])) : Met l y' wo rm (va_Pc As (px D y sz w0)) (Qri D y sz w0 w1 v) 0 0 (va_A w0 sz) := by
  refine Met.ofW (cc := cc) (maxL := maxL) (ret := (some rt)) hy hw ?_
  intro p e s m args below meth c s₁ B hml hv
  obtain ⟨rfl, hsz, hP, hK, hD0⟩ := hv
  subst hsz
  have hts := atoms_spec (ws := wo) B.pre
  have hown := findClass_of_methodNamed B.named
  have hD := hD0.self (sz := s.heap.size)
  have hl := lv_entry As (n := maxL) hlen
  rw [lg_entry_eq]
  refine body p e s m _ below meth c (va_A w0 s.heap.size) _ s.heap [] _ B.exec B.bytes hml hts hown (name_of_methodNamed B.named B.method).1 (fun q h => Or.inr h) hP hD hK va_S.rf hl ?_
  intro H locs ls pc hdg hP1 hD1 hS hn9
  exact W.zret (v := v) B.exec B.bytes B.returns hn9 (fun t ht hW => ⟨⟨v, (), rfl, rfl, by rw [ht]; exact hP1, va_K.moved hW.alike hK, hD1⟩, hS.F ht⟩) hS.2.2 hdg B.notSynchronized
theorem hd_l {y' : MethodName} {wo wo' : List Cond} {w0 w1 : va_W} {sz : Nat} {v : Int64} (hy : plainName y'.cls = true) (hw : wo = Cond.code y' cc maxL (some .long) :: wo') (hlen : (lg_sl As).length ≤ maxL)
    (body : ∀ (p : Program) (e : Env) (s : State) (m : MethodId) (args : Array Value) (below : List Frame) (meth : Method) (c : Code) (A : Nat → Prop) (Q : State → Prop) (H : Heap) (locs : List Loc) (ls : Array Slot), p.tables.exec = Jvm.exec → c.code = cc → c.maxLocals = maxL → (∀ w ∈ wo, w.before args s = true) → s.vm.findClass y'.cls = some m.cls → meth.name = y'.name → (∀ q, s.heap.size ≤ q → A q) → va_P D vwCl w0 H → va_D A w0 → va_K D vwCl (TY y) s → va_S A s.heap H locs → lv_has ls maxL (lv_args 0 As) →
      (∀ (H : Heap) (locs : List Loc) (ls : Array Slot) (pc : Nat), decode cc pc = .ok (.lreturn, 1) → va_P D vwCl w1 H → va_D A w1 → va_S A s.heap H locs → W p l e rm s m args below meth c H locs 0 0 Q (F0 m pc ls [.long v])) →
      W p l e rm s m args below meth c H locs 0 0 Q (F0 m 0 ls [])) : Met l y' wo rm (va_Pc As (px D y sz w0)) (Qrl D y sz w0 w1 v) 0 0 (va_A w0 sz) := by
  refine Met.ofW (cc := cc) (maxL := maxL) (ret := (some .long)) hy hw ?_
  intro p e s m args below meth c s₁ B hml hv
  obtain ⟨rfl, hsz, hP, hK, hD0⟩ := hv
  subst hsz
  have hts := atoms_spec (ws := wo) B.pre
  have hown := findClass_of_methodNamed B.named
  have hD := hD0.self (sz := s.heap.size)
  have hl := lv_entry As (n := maxL) hlen
  rw [lg_entry_eq]
  refine body p e s m _ below meth c (va_A w0 s.heap.size) _ s.heap [] _ B.exec B.bytes hml hts hown (name_of_methodNamed B.named B.method).1 (fun q h => Or.inr h) hP hD hK va_S.rf hl ?_
  intro H locs ls pc hdg hP1 hD1 hS
  exact W.lret (v := v) B.exec B.bytes B.returns (fun t ht hW => ⟨⟨v, (), rfl, rfl, by rw [ht]; exact hP1, va_K.moved hW.alike hK, hD1⟩, hS.F ht⟩) hS.2.2 hdg B.notSynchronized
theorem hd_v {y' : MethodName} {wo wo' : List Cond} {w0 w1 : va_W} {sz : Nat} (hy : plainName y'.cls = true) (hw : wo = Cond.code y' cc maxL none :: wo') (hlen : (lg_sl As).length ≤ maxL)
    (body : ∀ (p : Program) (e : Env) (s : State) (m : MethodId) (args : Array Value) (below : List Frame) (meth : Method) (c : Code) (A : Nat → Prop) (Q : State → Prop) (H : Heap) (locs : List Loc) (ls : Array Slot), p.tables.exec = Jvm.exec → c.code = cc → c.maxLocals = maxL → (∀ w ∈ wo, w.before args s = true) → s.vm.findClass y'.cls = some m.cls → meth.name = y'.name → (∀ q, s.heap.size ≤ q → A q) → va_P D vwCl w0 H → va_D A w0 → va_K D vwCl (TY y) s → va_S A s.heap H locs → lv_has ls maxL (lv_args 0 As) →
      (∀ (H : Heap) (locs : List Loc) (ls : Array Slot) (pc : Nat), decode cc pc = .ok (.return_, 1) → va_P D vwCl w1 H → va_D A w1 → va_S A s.heap H locs → W p l e rm s m args below meth c H locs 0 0 Q (F0 m pc ls [])) →
      W p l e rm s m args below meth c H locs 0 0 Q (F0 m 0 ls [])) : Met l y' wo rm (va_Pc As (px D y sz w0)) (Qrv D y sz w0 w1) 0 0 (va_A w0 sz) := by
  refine Met.ofW (cc := cc) (maxL := maxL) (ret := none) hy hw ?_
  intro p e s m args below meth c s₁ B hml hv
  obtain ⟨rfl, hsz, hP, hK, hD0⟩ := hv
  subst hsz
  have hts := atoms_spec (ws := wo) B.pre
  have hown := findClass_of_methodNamed B.named
  have hD := hD0.self (sz := s.heap.size)
  have hl := lv_entry As (n := maxL) hlen
  rw [lg_entry_eq]
  refine body p e s m _ below meth c (va_A w0 s.heap.size) _ s.heap [] _ B.exec B.bytes hml hts hown (name_of_methodNamed B.named B.method).1 (fun q h => Or.inr h) hP hD hK va_S.rf hl ?_
  intro H locs ls pc hdg hP1 hD1 hS
  exact W.vret B.exec B.bytes B.returns (fun t ht hW => ⟨⟨(), rfl, trivial, by rw [ht]; exact hP1, va_K.moved hW.alike hK, hD1⟩, hS.F ht⟩) hS.2.2 hdg B.notSynchronized
theorem lx_ieq (x y : Int64) : lg_cmp x y = 0 ↔ x = y := by
  unfold lg_cmp
  simp only [gt_iff_lt, Int64.lt_iff_toInt_lt, Int64.le_iff_toInt_le, ← Int64.toInt_inj]
  by_cases h1 : y.toInt < x.toInt
  · rw [if_pos h1]; constructor <;> intro h <;> first | omega | exact absurd h (by decide) | (simp; omega) | decide
  · rw [if_neg h1]
    by_cases h2 : x.toInt = y.toInt
    · rw [if_pos h2]; constructor <;> intro h <;> first | omega | exact absurd h (by decide) | exact absurd rfl h | decide | rfl
    · rw [if_neg h2]; constructor <;> intro h <;> first | omega | exact absurd h (by decide) | (exact absurd h (by omega)) | decide
theorem lx_eq (hx : p.tables.exec = Jvm.exec) (hb : c.code = cc) {x y : Int64} {off : Int} {tgt : Nat} (d1 : decode cc pc = .ok (.lcmp, 1)) (d2 : decode cc (pc + 1) = .ok (.ifCond .eq off, 3)) (ht : ((pc + 1 : Nat) : Int) + off = (tgt : Int))
    (kt : x = y → W p l e R s m args below meth c H locs cells slots Q (F0 m tgt ls rest)) (kf : ¬ x = y → W p l e R s m args below meth c H locs cells slots Q (F0 m (pc + 1 + 3) ls rest)) : W p l e R s m args below meth c H locs cells slots Q (F0 m pc ls (.long y :: .long x :: rest)) := by
  refine W.lcmp hx hb d1 ?_
  exact lv_if_eq hx hb d2 ht (fun h => kt ((lx_ieq x y).mp h)) (fun h => kf (fun q => h ((lx_ieq x y).mpr q)))
theorem lx_ine (x y : Int64) : ¬ lg_cmp x y = 0 ↔ ¬ x = y := by
  unfold lg_cmp
  simp only [gt_iff_lt, Int64.lt_iff_toInt_lt, Int64.le_iff_toInt_le, ← Int64.toInt_inj]
  by_cases h1 : y.toInt < x.toInt
  · rw [if_pos h1]; constructor <;> intro h <;> first | omega | exact absurd h (by decide) | (simp; omega) | decide
  · rw [if_neg h1]
    by_cases h2 : x.toInt = y.toInt
    · rw [if_pos h2]; constructor <;> intro h <;> first | omega | exact absurd h (by decide) | exact absurd rfl h | decide | rfl
    · rw [if_neg h2]; constructor <;> intro h <;> first | omega | exact absurd h (by decide) | (exact absurd h (by omega)) | decide
theorem lx_ne (hx : p.tables.exec = Jvm.exec) (hb : c.code = cc) {x y : Int64} {off : Int} {tgt : Nat} (d1 : decode cc pc = .ok (.lcmp, 1)) (d2 : decode cc (pc + 1) = .ok (.ifCond .ne off, 3)) (ht : ((pc + 1 : Nat) : Int) + off = (tgt : Int))
    (kt : ¬ x = y → W p l e R s m args below meth c H locs cells slots Q (F0 m tgt ls rest)) (kf : x = y → W p l e R s m args below meth c H locs cells slots Q (F0 m (pc + 1 + 3) ls rest)) : W p l e R s m args below meth c H locs cells slots Q (F0 m pc ls (.long y :: .long x :: rest)) := by
  refine W.lcmp hx hb d1 ?_
  exact lv_if_ne hx hb d2 ht (fun h => kt ((lx_ine x y).mp h)) (fun h => kf ((lx_ieq x y).mp h))
theorem lx_ilt (x y : Int64) : lg_cmp x y < 0 ↔ x < y := by
  unfold lg_cmp
  simp only [gt_iff_lt, Int64.lt_iff_toInt_lt, Int64.le_iff_toInt_le, ← Int64.toInt_inj]
  by_cases h1 : y.toInt < x.toInt
  · rw [if_pos h1]; constructor <;> intro h <;> first | omega | exact absurd h (by decide) | (simp; omega) | decide
  · rw [if_neg h1]
    by_cases h2 : x.toInt = y.toInt
    · rw [if_pos h2]; constructor <;> intro h <;> first | omega | exact absurd h (by decide) | exact absurd rfl h | decide | rfl
    · rw [if_neg h2]; constructor <;> intro h <;> first | omega | exact absurd h (by decide) | (exact absurd h (by omega)) | decide
theorem lx_lt (hx : p.tables.exec = Jvm.exec) (hb : c.code = cc) {x y : Int64} {off : Int} {tgt : Nat} (d1 : decode cc pc = .ok (.lcmp, 1)) (d2 : decode cc (pc + 1) = .ok (.ifCond .lt off, 3)) (ht : ((pc + 1 : Nat) : Int) + off = (tgt : Int))
    (kt : x < y → W p l e R s m args below meth c H locs cells slots Q (F0 m tgt ls rest)) (kf : ¬ x < y → W p l e R s m args below meth c H locs cells slots Q (F0 m (pc + 1 + 3) ls rest)) : W p l e R s m args below meth c H locs cells slots Q (F0 m pc ls (.long y :: .long x :: rest)) := by
  refine W.lcmp hx hb d1 ?_
  exact lv_if_lt hx hb d2 ht (fun h => kt ((lx_ilt x y).mp h)) (fun h => kf (fun q => h ((lx_ilt x y).mpr q)))
theorem lx_ige (x y : Int64) : 0 ≤ lg_cmp x y ↔ y ≤ x := by
  unfold lg_cmp
  simp only [gt_iff_lt, Int64.lt_iff_toInt_lt, Int64.le_iff_toInt_le, ← Int64.toInt_inj]
  by_cases h1 : y.toInt < x.toInt
  · rw [if_pos h1]; constructor <;> intro h <;> first | omega | exact absurd h (by decide) | (simp; omega) | decide
  · rw [if_neg h1]
    by_cases h2 : x.toInt = y.toInt
    · rw [if_pos h2]; constructor <;> intro h <;> first | omega | exact absurd h (by decide) | exact absurd rfl h | decide | rfl
    · rw [if_neg h2]; constructor <;> intro h <;> first | omega | exact absurd h (by decide) | (exact absurd h (by omega)) | decide
theorem lx_ge (hx : p.tables.exec = Jvm.exec) (hb : c.code = cc) {x y : Int64} {off : Int} {tgt : Nat} (d1 : decode cc pc = .ok (.lcmp, 1)) (d2 : decode cc (pc + 1) = .ok (.ifCond .ge off, 3)) (ht : ((pc + 1 : Nat) : Int) + off = (tgt : Int))
    (kt : y ≤ x → W p l e R s m args below meth c H locs cells slots Q (F0 m tgt ls rest)) (kf : ¬ y ≤ x → W p l e R s m args below meth c H locs cells slots Q (F0 m (pc + 1 + 3) ls rest)) : W p l e R s m args below meth c H locs cells slots Q (F0 m pc ls (.long y :: .long x :: rest)) := by
  refine W.lcmp hx hb d1 ?_
  exact lv_if_ge hx hb d2 ht (fun h => kt ((lx_ige x y).mp h)) (fun h => kf (fun q => h ((lx_ige x y).mpr q)))
theorem lx_igt (x y : Int64) : 0 < lg_cmp x y ↔ y < x := by
  unfold lg_cmp
  simp only [gt_iff_lt, Int64.lt_iff_toInt_lt, Int64.le_iff_toInt_le, ← Int64.toInt_inj]
  by_cases h1 : y.toInt < x.toInt
  · rw [if_pos h1]; constructor <;> intro h <;> first | omega | exact absurd h (by decide) | (simp; omega) | decide
  · rw [if_neg h1]
    by_cases h2 : x.toInt = y.toInt
    · rw [if_pos h2]; constructor <;> intro h <;> first | omega | exact absurd h (by decide) | exact absurd rfl h | decide | rfl
    · rw [if_neg h2]; constructor <;> intro h <;> first | omega | exact absurd h (by decide) | (exact absurd h (by omega)) | decide
theorem lx_gt (hx : p.tables.exec = Jvm.exec) (hb : c.code = cc) {x y : Int64} {off : Int} {tgt : Nat} (d1 : decode cc pc = .ok (.lcmp, 1)) (d2 : decode cc (pc + 1) = .ok (.ifCond .gt off, 3)) (ht : ((pc + 1 : Nat) : Int) + off = (tgt : Int))
    (kt : y < x → W p l e R s m args below meth c H locs cells slots Q (F0 m tgt ls rest)) (kf : ¬ y < x → W p l e R s m args below meth c H locs cells slots Q (F0 m (pc + 1 + 3) ls rest)) : W p l e R s m args below meth c H locs cells slots Q (F0 m pc ls (.long y :: .long x :: rest)) := by
  refine W.lcmp hx hb d1 ?_
  exact lv_if_gt hx hb d2 ht (fun h => kt ((lx_igt x y).mp h)) (fun h => kf (fun q => h ((lx_igt x y).mpr q)))
theorem lx_ile (x y : Int64) : lg_cmp x y ≤ 0 ↔ x ≤ y := by
  unfold lg_cmp
  simp only [gt_iff_lt, Int64.lt_iff_toInt_lt, Int64.le_iff_toInt_le, ← Int64.toInt_inj]
  by_cases h1 : y.toInt < x.toInt
  · rw [if_pos h1]; constructor <;> intro h <;> first | omega | exact absurd h (by decide) | (simp; omega) | decide
  · rw [if_neg h1]
    by_cases h2 : x.toInt = y.toInt
    · rw [if_pos h2]; constructor <;> intro h <;> first | omega | exact absurd h (by decide) | exact absurd rfl h | decide | rfl
    · rw [if_neg h2]; constructor <;> intro h <;> first | omega | exact absurd h (by decide) | (exact absurd h (by omega)) | decide
theorem lx_le (hx : p.tables.exec = Jvm.exec) (hb : c.code = cc) {x y : Int64} {off : Int} {tgt : Nat} (d1 : decode cc pc = .ok (.lcmp, 1)) (d2 : decode cc (pc + 1) = .ok (.ifCond .le off, 3)) (ht : ((pc + 1 : Nat) : Int) + off = (tgt : Int))
    (kt : x ≤ y → W p l e R s m args below meth c H locs cells slots Q (F0 m tgt ls rest)) (kf : ¬ x ≤ y → W p l e R s m args below meth c H locs cells slots Q (F0 m (pc + 1 + 3) ls rest)) : W p l e R s m args below meth c H locs cells slots Q (F0 m pc ls (.long y :: .long x :: rest)) := by
  refine W.lcmp hx hb d1 ?_
  exact lv_if_le hx hb d2 ht (fun h => kt ((lx_ile x y).mp h)) (fun h => kf (fun q => h ((lx_ile x y).mpr q)))
theorem eqi {x v : Int32} {rest : List Value} (h : x = v) (k : W p l e R s m args below meth c H locs cells slots Q (F0 m pc ls (.int v :: rest))) : W p l e R s m args below meth c H locs cells slots Q (F0 m pc ls (.int x :: rest)) := h ▸ k
theorem eql {x v : Int64} {rest : List Value} (h : x = v) (k : W p l e R s m args below meth c H locs cells slots Q (F0 m pc ls (.long v :: rest))) : W p l e R s m args below meth c H locs cells slots Q (F0 m pc ls (.long x :: rest)) := h ▸ k
theorem lx_lneg (x : Int64) : True := trivial
end
theorem nz01 {v : Int32} (h : v = 0 ∨ v = 1) : narrow .boolean (.int v) = .int v := by rcases h with rfl | rfl <;> rfl
theorem nzch {v : Int32} (h : vp_nar .char v = v) : narrow .char (.int v) = .int v := by
  rw [vp_nar_char] at h
  show Value.int _ = Value.int v
  exact congrArg Value.int h
theorem fz01 {v : Int32} (h : v = 0 ∨ v = 1) : fits .boolean (.int v) = true := by rcases h with rfl | rfl <;> rfl
end XR
