/-! the start: the classes and the arrays' classes that the tables tell of -/
theorem st_K {s : State} {args : Array Value} (hts : ∀ w ∈ wsL_law, w.before args s = true) (ha : (Cond.arrayClass .int).before args s = true ∧ (Cond.arrayClass .long).before args s = true ∧ (Cond.arrayClass .char).before args s = true ∧ (Cond.arrayClass .boolean).before args s = true)
    (hi : (Cond.instantiable RX0 6).before args s = true ∧ (Cond.instantiable RX1 2).before args s = true ∧ (Cond.instantiable RX2 3).before args s = true ∧ (Cond.instantiable RX4 3).before args s = true ∧ (Cond.instantiable RX6 7).before args s = true) : ∃ (D : va_G) (y : Nat → ClassId), va_K D vwCl (TY y) s := by
  obtain ⟨i0, i1, i2, i3, i4⟩ := hi
  obtain ⟨c0, n0, k0⟩ := u_known (C := RX0) (T := TX0) (N := 6) (n := 6) hts inlX0 i0
  obtain ⟨c1, n1, k1⟩ := u_known (C := RX1) (T := TX1) (N := 2) (n := 2) hts inlX1 i1
  obtain ⟨c2, n2, k2⟩ := u_known (C := RX2) (T := TX2) (N := 3) (n := 3) hts inlX2 i2
  obtain ⟨c3, n3, k3⟩ := u_known (C := RX4) (T := TX4) (N := 3) (n := 3) hts inlX4 i3
  obtain ⟨c4, n4, k4⟩ := u_known (C := RX6) (T := TX6) (N := 7) (n := 7) hts inlX6 i4
  obtain ⟨h0, h1, h2, h3⟩ := ha
  obtain ⟨a0, q0, p0, x0, y0, z0⟩ := Cond.arrayClass_spec h0
  obtain ⟨a1, q1, p1, x1, y1, z1⟩ := Cond.arrayClass_spec h1
  obtain ⟨a2, q2, p2, x2, y2, z2⟩ := Cond.arrayClass_spec h2
  obtain ⟨a3, q3, p3, x3, y3, z3⟩ := Cond.arrayClass_spec h3
  refine ⟨(fun k => match k with | 0 => c0 | 1 => c1 | 2 => c2 | 3 => c3 | _ => c4, fun k => match k with | 0 => n0 | 1 => n1 | 2 => n2 | 3 => n3 | _ => n4), fun k => match k with | 0 => a0 | 1 => a1 | 2 => a2 | _ => a3, ?_, ?_⟩
  · intro k q hq
    match k, hq with
    | 0, hq => cases hq; exact k0
    | 1, hq => cases hq; exact k1
    | 2, hq => cases hq; exact k2
    | 3, hq => cases hq; exact k3
    | 4, hq => cases hq; exact k4
    | k + 5, hq => simp [vwCl] at hq
  · intro k q hq
    match k, hq with
    | 0, hq => cases hq; exact ⟨fun n z => ⟨fun k h => (by cases h), q0, y0, p0, z0⟩, x0⟩
    | 1, hq => cases hq; exact ⟨fun n z => ⟨fun k h => (by cases h), q1, y1, p1, z1⟩, x1⟩
    | 2, hq => cases hq; exact ⟨fun n z => ⟨fun k h => (by cases h), q2, y2, p2, z2⟩, x2⟩
    | 3, hq => cases hq; exact ⟨fun n z => ⟨fun k h => (by cases h), q3, y3, p3, z3⟩, x3⟩
    | k + 4, hq => simp [TY] at hq
