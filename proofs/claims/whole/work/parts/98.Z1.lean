/-! classes of the start -/
theorem start_ok {s : State} {b : Nat} (hts : ∀ w ∈ lw_tbl, w.before #[Value.ref b] s = true) : ∀ w ∈ okl, w.before #[] s = true := fun w hw => by
  have h1 := hts w (List.mem_filter.mp hw).1
  have h2 := (List.mem_filter.mp hw).2
  refine va_tabs ?_ rfl h1
  cases w <;> first | rfl | (simp only [okw, Bool.and_eq_true] at h2; exact h2.1)
theorem start_arr {s : State} {ty : FieldType} (h : (Cond.arrayClass ty).before #[] s = true) (hr : ∀ cA, s.vm.findClass ("[" ++ ty.toString) = some cA → va_RA s cA ty) : ∃ cA, ArrOfT s cA ty ∧ va_RA s cA ty := by
  obtain ⟨cA, kA, comp, h1, h2, h3⟩ := Cond.arrayClass_spec h
  exact ⟨cA, fun n z => ⟨fun k h => (by cases h), kA, h2, comp, h3⟩, hr cA h1⟩
theorem start_TW {s : State} {b : Nat} (hts : ∀ w ∈ lw_tbl, w.before #[Value.ref b] s = true) : ∃ (D : va_G) (cI cB cZ : ClassId), TW D cI cB cZ s := by
  have hok := start_ok hts
  obtain ⟨c0, i0, h0⟩ := u_known (C := RX0) (T := TX0) (N := 2) (n := 2) hok ci_0.2.1 (hok _ kn_X0)
  obtain ⟨c1, i1, h1⟩ := u_known (C := RX1) (T := TX1) (N := 2) (n := 2) hok ci_1.2.1 (hok _ kn_X1)
  obtain ⟨c2, i2, h2⟩ := u_known (C := RX2) (T := TX2) (N := 3) (n := 3) hok ci_2.2.1 (hok _ kn_X2)
  obtain ⟨c3, i3, h3⟩ := u_known (C := RX3) (T := TX3) (N := 18) (n := 18) hok ci_3.2.1 (hok _ kn_X3)
  obtain ⟨c4, i4, h4⟩ := u_known (C := RX4) (T := TX4) (N := 12) (n := 12) hok ci_4.2.1 (hok _ kn_X4)
  obtain ⟨c5, i5, h5⟩ := u_known (C := RX5) (T := TX5) (N := 9) (n := 9) hok ci_5.2.1 (hok _ kn_X5)
  obtain ⟨c6, i6, h6⟩ := u_known (C := RX6) (T := TX6) (N := 3) (n := 3) hok ci_6.2.1 (hok _ kn_X6)
  obtain ⟨c7, i7, h7⟩ := u_known (C := RX7) (T := TX7) (N := 10) (n := 10) hok ci_7.2.1 (hok _ kn_X7)
  obtain ⟨c8, i8, h8⟩ := u_known (C := RX8) (T := TX8) (N := 37) (n := 37) hok ci_8.2.1 (hok _ kn_X8)
  have wI : (Cond.arrayClass .int).before #[] s = true := lw_at (A := #[Value.ref b]) (w := .arrayClass .int) hts 116 (by decide +kernel)
  have wB : (Cond.arrayClass .byte).before #[] s = true := lw_at (A := #[Value.ref b]) (w := .arrayClass .byte) hts 154 (by decide +kernel)
  have wZ : (Cond.arrayClass .boolean).before #[] s = true := lw_at (A := #[Value.ref b]) (w := .arrayClass .boolean) hts 1051 (by decide +kernel)
  obtain ⟨cI, aI, rI⟩ := start_arr wI (fun _ h => h)
  obtain ⟨cB, aB, rB⟩ := start_arr wB (fun _ h => h)
  obtain ⟨cZ, aZ, rZ⟩ := start_arr wZ (fun _ h => h)
  obtain ⟨D, hD⟩ : ∃ D : va_G, ∀ (k : Nat) (q : vw_C), vwCl[k]? = some q → u_Kn s q.1 q.2.1 q.2.2 (D.1 k) (D.2 k) := by
    refine ⟨(fun k => [c0, c1, c2, c3, c4, c5, c6, c7, c8].getD k c0, fun k => [i0, i1, i2, i3, i4, i5, i6, i7, i8].getD k i0), ?_⟩
    intro k q hq
    match k, hq with
    | 0, hq => cases hq; exact h0
    | 1, hq => cases hq; exact h1
    | 2, hq => cases hq; exact h2
    | 3, hq => cases hq; exact h3
    | 4, hq => cases hq; exact h4
    | 5, hq => cases hq; exact h5
    | 6, hq => cases hq; exact h6
    | 7, hq => cases hq; exact h7
    | 8, hq => cases hq; exact h8
    | k + 9, hq => simp at hq
  refine ⟨D, cI, cB, cZ, hok, ⟨wI, wB, wZ⟩, ⟨hD, ?_⟩, va_AO.of (lw_at (w := .arrayOver (.object RX3)) hts 156 (by decide +kernel)), lw_at (A := #[Value.ref b]) (w := .arrayOver (.array .int)) hts 105 (by decide +kernel)⟩
  intro k q hq
  match k, hq with
  | 0, hq => cases hq; exact ⟨aI, rI⟩
  | 1, hq => cases hq; exact ⟨aB, rB⟩
  | 2, hq => cases hq; exact ⟨aZ, rZ⟩
  | k + 3, hq => simp at hq
