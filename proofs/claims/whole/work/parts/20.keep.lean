theorem jn_def {α : Type} {R : Type} (X : (α → Option R) → Option R) (k : α → Option R) : jn X k = X k := rfl
theorem nm_def {α : Type} {R : Type} (a : α) (k : α → Option R) : nm a k = k a := rfl
theorem kp_found {m11 : Mem} {x : Int32} {r : Int32 × Mem} (h : f_X7_found m11 x = some r) (k : Nat) (hk : k ≠ 9) : r.2 0 k = m11 0 k := by
  unfold f_X7_found at h
  rw [nm_def] at h
  rw [← Option.some.inj h]
  show up m11 0 9 x 0 k = _
  simp [up, upA, upd, hk]
theorem kp_fine {m11 : Mem} {x : Int32} {r : Int32 × Mem} (h : f_X7_fine m11 x = some r) (k : Nat) (hk : k ≠ 9) : r.2 0 k = m11 0 k := by
  unfold f_X7_fine at h
  rw [nm_def] at h
  rw [← Option.some.inj h]
  show up m11 0 9 0 0 k = _
  simp [up, upA, upd, hk]
theorem kp_X7_row {m5 m11 : Mem} {x1 x2 x3 : Int32} {r : Int32 × Mem × Mem} (h : f_X7_row m5 m11 x1 x2 x3 = some r) : ∀ k : Nat, k ≠ 9 → r.2.2 0 k = m11 0 k := by
  intro k hk
  unfold f_X7_row at h
  obtain ⟨r11, hr11, h⟩ := Option.bind_eq_some_iff.mp h
  by_cases c1 : r11 = 0
  · rw [if_pos c1] at h
    have e := Option.some.inj h
    subst e
    rfl
  · rw [if_neg c1] at h
    by_cases c2 : x2 < 0
    · rw [if_pos c2] at h
      have e := Option.some.inj h
      subst e
      rfl
    · rw [if_neg c2] at h
      by_cases c3 : (2 : Int32) < x2
      · rw [if_pos c3] at h
        have e := Option.some.inj h
        subst e
        rfl
      · rw [if_neg c3] at h
        by_cases c4 : x3 ≤ (40 : Int32)
        · rw [if_pos c4] at h
          by_cases c5 : 0 ≤ x3
          · rw [if_pos c5] at h
            obtain ⟨r12, hr12, h⟩ := Option.bind_eq_some_iff.mp h
            obtain ⟨r13, hr13, h⟩ := Option.bind_eq_some_iff.mp h
            have e := Option.some.inj h
            subst e
            exact kp_fine hr13 k hk
          · rw [if_neg c5] at h
            obtain ⟨r14, hr14, h⟩ := Option.bind_eq_some_iff.mp h
            have e := Option.some.inj h
            subst e
            exact kp_found hr14 k hk
        · rw [if_neg c4] at h
          have e := Option.some.inj h
          subst e
          rfl
theorem kp_X7_set {m5 m11 : Mem} {x1 x2 x3 : Int32} {r : Int32 × Mem × Mem} (h : f_X7_set m5 m11 x1 x2 x3 = some r) : ∀ k : Nat, k ≠ 9 → r.2.2 0 k = m11 0 k := by
  intro k hk
  unfold f_X7_set at h
  obtain ⟨r11, hr11, h⟩ := Option.bind_eq_some_iff.mp h
  by_cases c1 : r11 = 0
  · rw [if_pos c1] at h
    have e := Option.some.inj h
    subst e
    rfl
  · rw [if_neg c1] at h
    obtain ⟨r12, hr12, h⟩ := Option.bind_eq_some_iff.mp h
    by_cases c2 : r12 = 0
    · rw [if_pos c2] at h
      obtain ⟨r13, hr13, h⟩ := Option.bind_eq_some_iff.mp h
      by_cases c3 : r13 = 0
      · rw [if_pos c3] at h
        obtain ⟨r16, hr16, h⟩ := Option.bind_eq_some_iff.mp h
        have e := Option.some.inj h
        subst e
        exact kp_found hr16 k hk
      · rw [if_neg c3] at h
        obtain ⟨r14, hr14, h⟩ := Option.bind_eq_some_iff.mp h
        obtain ⟨r15, hr15, h⟩ := Option.bind_eq_some_iff.mp h
        have e := Option.some.inj h
        subst e
        exact kp_fine hr15 k hk
    · rw [if_neg c2] at h
      obtain ⟨r17, hr17, h⟩ := Option.bind_eq_some_iff.mp h
      have e := Option.some.inj h
      subst e
      exact kp_found hr17 k hk
theorem kp_X7_copy {m5 m11 : Mem} {x1 x2 x3 x4 x5 : Int32} {r : Int32 × Mem × Mem} (h : f_X7_copy m5 m11 x1 x2 x3 x4 x5 = some r) : ∀ k : Nat, k ≠ 9 → r.2.2 0 k = m11 0 k := by
  intro k hk
  unfold f_X7_copy at h
  obtain ⟨r11, hr11, h⟩ := Option.bind_eq_some_iff.mp h
  by_cases c1 : r11 = 0
  · rw [if_pos c1] at h
    have e := Option.some.inj h
    subst e
    rfl
  · rw [if_neg c1] at h
    obtain ⟨r12, hr12, h⟩ := Option.bind_eq_some_iff.mp h
    by_cases c2 : r12 = 0
    · rw [if_pos c2] at h
      have e := Option.some.inj h
      subst e
      rfl
    · rw [if_neg c2] at h
      obtain ⟨r13, hr13, h⟩ := Option.bind_eq_some_iff.mp h
      by_cases c3 : r13 = 0
      · rw [if_pos c3] at h
        obtain ⟨r15, hr15, h⟩ := Option.bind_eq_some_iff.mp h
        by_cases c4 : r15 = 0
        · rw [if_pos c4] at h
          obtain ⟨r16, hr16, h⟩ := Option.bind_eq_some_iff.mp h
          by_cases c5 : r16 = 0
          · rw [if_pos c5] at h
            obtain ⟨r23, hr23, h⟩ := Option.bind_eq_some_iff.mp h
            have e := Option.some.inj h
            subst e
            exact kp_found hr23 k hk
          · rw [if_neg c5] at h
            obtain ⟨r17, hr17, h⟩ := Option.bind_eq_some_iff.mp h
            by_cases c6 : r17 = 0
            · rw [if_pos c6] at h
              obtain ⟨r18, hr18, h⟩ := Option.bind_eq_some_iff.mp h
              have e := Option.some.inj h
              subst e
              exact kp_found hr18 k hk
            · rw [if_neg c6] at h
              obtain ⟨r19, hr19, h⟩ := Option.bind_eq_some_iff.mp h
              by_cases c7 : r19 = 0
              · rw [if_pos c7] at h
                obtain ⟨r22, hr22, h⟩ := Option.bind_eq_some_iff.mp h
                have e := Option.some.inj h
                subst e
                exact kp_found hr22 k hk
              · rw [if_neg c7] at h
                obtain ⟨r20, hr20, h⟩ := Option.bind_eq_some_iff.mp h
                obtain ⟨r21, hr21, h⟩ := Option.bind_eq_some_iff.mp h
                have e := Option.some.inj h
                subst e
                exact kp_fine hr21 k hk
        · rw [if_neg c4] at h
          obtain ⟨r24, hr24, h⟩ := Option.bind_eq_some_iff.mp h
          have e := Option.some.inj h
          subst e
          exact kp_found hr24 k hk
      · rw [if_neg c3] at h
        obtain ⟨r14, hr14, h⟩ := Option.bind_eq_some_iff.mp h
        have e := Option.some.inj h
        subst e
        exact kp_found hr14 k hk
theorem kp_X7_drop {m5 m11 : Mem} {x1 : Int32} {r : Int32 × Mem × Mem} (h : f_X7_drop m5 m11 x1 = some r) : ∀ k : Nat, k ≠ 9 → r.2.2 0 k = m11 0 k := by
  intro k hk
  unfold f_X7_drop at h
  obtain ⟨r11, hr11, h⟩ := Option.bind_eq_some_iff.mp h
  by_cases c1 : r11 = 0
  · rw [if_pos c1] at h
    have e := Option.some.inj h
    subst e
    rfl
  · rw [if_neg c1] at h
    obtain ⟨r12, hr12, h⟩ := Option.bind_eq_some_iff.mp h
    by_cases c2 : r12 = 0
    · rw [if_pos c2] at h
      obtain ⟨r13, hr13, h⟩ := Option.bind_eq_some_iff.mp h
      obtain ⟨r14, hr14, h⟩ := Option.bind_eq_some_iff.mp h
      have e := Option.some.inj h
      subst e
      exact kp_fine hr14 k hk
    · rw [if_neg c2] at h
      obtain ⟨r15, hr15, h⟩ := Option.bind_eq_some_iff.mp h
      have e := Option.some.inj h
      subst e
      exact kp_found hr15 k hk
theorem kp_X7_turn {m1 m5 m7 m11 : Mem} {x1 x2 x3 : Int32} {r : Int32 × Mem × Mem} (h : f_X7_turn m1 m5 m7 m11 x1 x2 x3 = some r) : ∀ k : Nat, k ≠ 9 → r.2.2 0 k = m11 0 k := by
  intro k hk
  unfold f_X7_turn at h
  by_cases c1 : (m1 0 6) = 0
  · rw [if_pos c1] at h
    have e := Option.some.inj h
    subst e
    rfl
  · rw [if_neg c1] at h
    obtain ⟨r11, hr11, h⟩ := Option.bind_eq_some_iff.mp h
    by_cases c2 : r11 = 0
    · rw [if_pos c2] at h
      have e := Option.some.inj h
      subst e
      rfl
    · rw [if_neg c2] at h
      by_cases c3 : x2 < 0
      · rw [if_pos c3] at h
        have e := Option.some.inj h
        subst e
        rfl
      · rw [if_neg c3] at h
        by_cases c4 : (40 : Int32) < x2
        · rw [if_pos c4] at h
          have e := Option.some.inj h
          subst e
          rfl
        · rw [if_neg c4] at h
          by_cases c5 : x3 < 0
          · rw [if_pos c5] at h
            have e := Option.some.inj h
            subst e
            rfl
          · rw [if_neg c5] at h
            by_cases c6 : x3 ≤ (2 : Int32)
            · rw [if_pos c6] at h
              obtain ⟨r12, hr12, h⟩ := Option.bind_eq_some_iff.mp h
              by_cases c7 : r12 = 0
              · rw [if_pos c7] at h
                obtain ⟨r13, hr13, h⟩ := Option.bind_eq_some_iff.mp h
                by_cases c8 : r13 = 0
                · rw [if_pos c8] at h
                  obtain ⟨r20, hr20, h⟩ := Option.bind_eq_some_iff.mp h
                  have e := Option.some.inj h
                  subst e
                  exact kp_found hr20 k hk
                · rw [if_neg c8] at h
                  obtain ⟨r14, hr14, h⟩ := Option.bind_eq_some_iff.mp h
                  by_cases c9 : r14.1 = 0
                  · rw [if_pos c9] at h
                    have e := Option.some.inj h
                    subst e
                    rfl
                  · rw [if_neg c9] at h
                    by_cases c10 : x3 = (2 : Int32)
                    · rw [if_pos c10] at h
                      obtain ⟨r18, hr18, h⟩ := Option.bind_eq_some_iff.mp h
                      obtain ⟨r19, hr19, h⟩ := Option.bind_eq_some_iff.mp h
                      have e := Option.some.inj h
                      subst e
                      exact kp_fine hr19 k hk
                    · rw [if_neg c10] at h
                      obtain ⟨r15, hr15, h⟩ := Option.bind_eq_some_iff.mp h
                      by_cases c11 : x3 = 0
                      · rw [if_pos c11] at h
                        obtain ⟨r17, hr17, h⟩ := Option.bind_eq_some_iff.mp h
                        have e := Option.some.inj h
                        subst e
                        exact kp_fine hr17 k hk
                      · rw [if_neg c11] at h
                        obtain ⟨g12, h⟩ := gd_some h
                        obtain ⟨r16, hr16, h⟩ := Option.bind_eq_some_iff.mp h
                        have e := Option.some.inj h
                        subst e
                        exact kp_fine hr16 k hk
              · rw [if_neg c7] at h
                obtain ⟨r21, hr21, h⟩ := Option.bind_eq_some_iff.mp h
                have e := Option.some.inj h
                subst e
                exact kp_found hr21 k hk
            · rw [if_neg c6] at h
              have e := Option.some.inj h
              subst e
              rfl
theorem kp_X7_gloves {m1 m5 m7 m11 : Mem} {x1 x2 x3 : Int32} {r : Int32 × Mem × Mem} (h : f_X7_gloves m1 m5 m7 m11 x1 x2 x3 = some r) : ∀ k : Nat, k ≠ 9 → r.2.2 0 k = m11 0 k := by
  intro k hk
  unfold f_X7_gloves at h
  by_cases c1 : (m1 0 6) = 0
  · rw [if_pos c1] at h
    have e := Option.some.inj h
    subst e
    rfl
  · rw [if_neg c1] at h
    obtain ⟨r11, hr11, h⟩ := Option.bind_eq_some_iff.mp h
    by_cases c2 : r11 = 0
    · rw [if_pos c2] at h
      have e := Option.some.inj h
      subst e
      rfl
    · rw [if_neg c2] at h
      by_cases c3 : x2 < (1 : Int32)
      · rw [if_pos c3] at h
        have e := Option.some.inj h
        subst e
        rfl
      · rw [if_neg c3] at h
        by_cases c4 : (40 : Int32) < x2
        · rw [if_pos c4] at h
          have e := Option.some.inj h
          subst e
          rfl
        · rw [if_neg c4] at h
          by_cases c5 : x3 < 0
          · rw [if_pos c5] at h
            have e := Option.some.inj h
            subst e
            rfl
          · rw [if_neg c5] at h
            by_cases c6 : x3 ≤ (1 : Int32)
            · rw [if_pos c6] at h
              obtain ⟨r12, hr12, h⟩ := Option.bind_eq_some_iff.mp h
              by_cases c7 : r12 = 0
              · rw [if_pos c7] at h
                obtain ⟨r13, hr13, h⟩ := Option.bind_eq_some_iff.mp h
                by_cases c8 : r13 = 0
                · rw [if_pos c8] at h
                  obtain ⟨r18, hr18, h⟩ := Option.bind_eq_some_iff.mp h
                  have e := Option.some.inj h
                  subst e
                  exact kp_found hr18 k hk
                · rw [if_neg c8] at h
                  obtain ⟨r14, hr14, h⟩ := Option.bind_eq_some_iff.mp h
                  by_cases c9 : r14.1 = 0
                  · rw [if_pos c9] at h
                    have e := Option.some.inj h
                    subst e
                    rfl
                  · rw [if_neg c9] at h
                    by_cases c10 : x3 = 0
                    · rw [if_pos c10] at h
                      obtain ⟨r17, hr17, h⟩ := Option.bind_eq_some_iff.mp h
                      have e := Option.some.inj h
                      subst e
                      exact kp_fine hr17 k hk
                    · rw [if_neg c10] at h
                      obtain ⟨r15, hr15, h⟩ := Option.bind_eq_some_iff.mp h
                      obtain ⟨r16, hr16, h⟩ := Option.bind_eq_some_iff.mp h
                      have e := Option.some.inj h
                      subst e
                      exact kp_fine hr16 k hk
              · rw [if_neg c7] at h
                obtain ⟨r19, hr19, h⟩ := Option.bind_eq_some_iff.mp h
                have e := Option.some.inj h
                subst e
                exact kp_found hr19 k hk
            · rw [if_neg c6] at h
              have e := Option.some.inj h
              subst e
              rfl
theorem kp_X7_as {m1 m11 : Mem} {x1 x2 : Int32} {r : Int32 × Mem} (h : f_X7_as m1 m11 x1 x2 = some r) : ∀ k : Nat, k ≠ 9 → r.2 0 k = m11 0 k := by
  intro k hk
  unfold f_X7_as at h
  obtain ⟨r11, hr11, h⟩ := Option.bind_eq_some_iff.mp h
  by_cases c1 : r11 = 0
  · rw [if_pos c1] at h
    have e := Option.some.inj h
    subst e
    rfl
  · rw [if_neg c1] at h
    by_cases c2 : x2 < 0
    · rw [if_pos c2] at h
      have e := Option.some.inj h
      subst e
      rfl
    · rw [if_neg c2] at h
      by_cases c3 : x2 ≤ (5 : Int32)
      · rw [if_pos c3] at h
        obtain ⟨g4, h⟩ := gd_some h
        obtain ⟨r12, hr12, h⟩ := Option.bind_eq_some_iff.mp h
        by_cases c5 : r12 = 0
        · rw [if_pos c5] at h
          obtain ⟨r13, hr13, h⟩ := Option.bind_eq_some_iff.mp h
          have e := Option.some.inj h
          subst e
          exact kp_found hr13 k hk
        · rw [if_neg c5] at h
          obtain ⟨r14, hr14, h⟩ := Option.bind_eq_some_iff.mp h
          have e := Option.some.inj h
          subst e
          exact kp_fine hr14 k hk
      · rw [if_neg c3] at h
        have e := Option.some.inj h
        subst e
        rfl
theorem ev_m11 {m1 m2 m3 m4 m6 m11 : Mem} {r : Int32 × Mem × Mem × Mem × Mem × Mem} (h : f_X7_evening m1 m2 m3 m4 m6 m11 = some r) : r.2.2.2.2.2 = m11 ∨ r.2.2.2.2.2 = up (up m11 0 7 2) 0 8 1 := by
  unfold f_X7_evening at h
  obtain ⟨r11, h11, h⟩ := Option.bind_eq_some_iff.mp h
  by_cases c1 : r11.1 = 0
  · rw [if_pos c1] at h
    have e := Option.some.inj h
    subst e
    exact Or.inl rfl
  · rw [if_neg c1] at h
    obtain ⟨r12, h12, h⟩ := Option.bind_eq_some_iff.mp h
    have e := Option.some.inj h
    subst e
    exact Or.inr rfl
theorem ev_same {m1 m2 m3 m4 m6 m11 : Mem} {r : Int32 × Mem × Mem × Mem × Mem × Mem} (h : f_X7_evening m1 m2 m3 m4 m6 m11 = some r) (h7 : m11 0 7 = 1) (h8 : m11 0 8 = 2) (e7 : r.2.2.2.2.2 0 7 = 1) : r.2.2.2.2.2 0 8 = 2 := by
  rcases ev_m11 h with e | e
  · rw [e]; exact h8
  · rw [e] at e7
    exact absurd e7 (by show ¬ (2 : Int32) = 1; decide)
theorem ev_7 {m1 m2 m3 m4 m6 m11 : Mem} {r : Int32 × Mem × Mem × Mem × Mem × Mem} (h : f_X7_evening m1 m2 m3 m4 m6 m11 = some r) (h7 : m11 0 7 = 1) (h8 : m11 0 8 = 2) (e7 : ¬ r.2.2.2.2.2 0 7 = 1) : sw11 r.2.2.2.2.2 0 7 = 1 := by
  rcases ev_m11 h with e | e
  · rw [e] at e7; exact absurd h7 e7
  · rw [e]; rfl
theorem ev_8 {m1 m2 m3 m4 m6 m11 : Mem} {r : Int32 × Mem × Mem × Mem × Mem × Mem} (h : f_X7_evening m1 m2 m3 m4 m6 m11 = some r) (h7 : m11 0 7 = 1) (h8 : m11 0 8 = 2) (e7 : ¬ r.2.2.2.2.2 0 7 = 1) : sw11 r.2.2.2.2.2 0 8 = 2 := by
  rcases ev_m11 h with e | e
  · rw [e] at e7; exact absurd h7 e7
  · rw [e]; rfl
