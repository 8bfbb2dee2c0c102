/-! the draft, statement by statement -/
section TK
variable {w m2 : Mem} {v : Nat → Nat}
theorem dr_hill (h : DR v w m2) {x : Nat} (hx : 1 ≤ x ∧ x ≤ 7) (hr : v 3 < 7) : DR (vset (vset (v) (7) (v 7 ||| 2 ^ x)) (3) (v 3 + 1)) (up (up (w) 7 (7) (n32 (v 7 ||| 2 ^ x))) 7 (3) (n32 (v 3 + 1))) (up (up (m2) 0 (8) (n32 (v 7 ||| 2 ^ x))) 0 (4) (n32 (v 3 + 1))) := by
  obtain ⟨h1, ⟨⟨c1, c2, c3, c4, c5, c6, ⟨s, s1, s2, s3⟩, c8, c9⟩, cF, c10, c11⟩, ⟨v4, v5, v0, v1, v6, v7, vP, vC⟩, vM, ⟨vq, vq2⟩, v2, v3⟩ := h
  have ne : ∀ j, ¬ (j = 7 ∨ j = 3) → (vset (vset (v) (7) (v 7 ||| 2 ^ x)) (3) (v 3 + 1)) j = v j := fun j h => by
    rw [vset_ne (by omega), vset_ne (by omega)]
  have mm : ∀ s j, ¬ ((s = 0 ∧ j = 8) ∨ (s = 0 ∧ j = 4)) → (up (up (m2) 0 (8) (n32 (v 7 ||| 2 ^ x))) 0 (4) (n32 (v 3 + 1))) s j = m2 s j := fun s j h => by
    rw [up_ap, if_neg (by omega), up_ap, if_neg (by omega)]
  refine ⟨sh_up (sh_up (h1) (7) (v 7 ||| 2 ^ x)) (3) (v 3 + 1), ⟨⟨?_, ?_, ?_, ?_, ?_, ?_, ⟨?_, ?_, ?_, ?_⟩, ?_, ?_⟩, ?_, ?_, ?_⟩, ⟨?_, ?_, ?_, ?_, ?_, ?_, ?_, ?_⟩, ?_, ⟨?_, ?_⟩, ?_, ?_⟩
  · rw [mm _ _ (by omega), ne _ (by omega)]; exact c1
  · rw [mm _ _ (by omega), ne _ (by omega)]; exact c2
  · rw [mm _ _ (by omega), ne _ (by omega)]; exact c3
  · rw [mm _ _ (by omega), ne _ (by omega)]; exact c4
  · rw [mm _ _ (by omega), ne _ (by omega)]; exact c5
  · rw [vset_ne (by omega), vset_at, up_mi (by omega), up_at]
  · exact s
  · exact s1
  · rw [mm _ _ (by omega)]; exact s2
  · intro p hp
    rw [ne _ (by omega), ne _ (by omega)]; exact s3 p hp
  · intro p hp
    rw [ne 4 (by omega)] at hp
    rw [mm 12 p (by omega), mm 13 p (by omega), mm 14 p (by omega), mm 15 p (by omega), ne (72 + 4 * p) (by omega), ne (72 + 4 * p + 1) (by omega), ne (72 + 4 * p + 2) (by omega), ne (72 + 4 * p + 3) (by omega)]
    exact c8 p hp
  · intro c hc
    rw [ne 5 (by omega)] at hc
    rw [mm 16 c (by omega), mm 17 c (by omega), mm 18 c (by omega), ne (100 + 3 * c) (by omega), ne (100 + 3 * c + 1) (by omega), ne (100 + 3 * c + 2) (by omega)]
    exact c9 c hc
  · intro i hi
    rw [mm _ _ (by omega), ne _ (by omega)]; exact cF i hi
  · rw [mm _ _ (by omega), ne _ (by omega)]; exact c10
  · rw [vset_at, up_at]
  · rw [ne _ (by omega)]; exact v4
  · rw [ne _ (by omega)]; exact v5
  · rw [ne _ (by omega)]; exact v0
  · rw [ne _ (by omega)]; exact v1
  · rw [ne _ (by omega)]; exact v6
  · rw [vset_ne (by omega), vset_at]
    exact Nat.or_lt_two_pow (n := 8) v7 (Nat.pow_lt_pow_right (by omega) (by omega))
  · intro p hp
    rw [ne 4 (by omega)] at hp
    unfold VdP
    rw [ne (72 + 4 * p) (by omega), ne (72 + 4 * p + 1) (by omega), ne (72 + 4 * p + 2) (by omega), ne (72 + 4 * p + 3) (by omega), ne 4 (by omega)]
    obtain ⟨k1, k2, k3, k4, k5, k6, k7, k8⟩ := vP p hp
    refine ⟨k1, k2, k3, k4, k5, k6, k7, fun q hq => ?_⟩
    rw [ne (72 + 4 * q + 3) (by omega)]; exact k8 q hq
  · intro c hc
    rw [ne 5 (by omega)] at hc
    unfold VdC
    rw [ne (100 + 3 * c) (by omega), ne (100 + 3 * c + 1) (by omega), ne (100 + 3 * c + 2) (by omega), ne 4 (by omega), ne 5 (by omega)]
    obtain ⟨k1, k2, k3, k4, k5⟩ := vC c hc
    refine ⟨k1, k2, k3, k4, fun c' hc' => ?_⟩
    rw [ne (100 + 3 * c') (by omega)]; exact k5 c' hc'
  · intro a b ha hb
    rw [ne (8 + 8 * a + b) (by omega), ne (8 + 8 * b + a) (by omega)]; exact vM a b ha hb
  · intro q hq hq'
    rw [ne 4 (by omega)] at hq'
    rw [ne _ (by omega), mm _ _ (by omega)]; exact vq q hq hq'
  · intro q hq
    rw [ne 4 (by omega)] at hq
    rw [ne _ (by omega), ne _ (by omega)]; exact vq2 q hq
  · rw [ne _ (by omega)]; exact v2
  · rw [vset_at]; omega
theorem dr_way (h : DR v w m2) {a b L : Nat} (ha : a < 8) (hb : b < 8) (hab : a ≠ b) (hL : L ≤ 99) (hr : v 2 < 16) : DR (vset (vset (vset (v) (8 + 8 * a + b) (L)) (8 + 8 * b + a) (L)) (2) (v 2 + 1)) (up (up (up (w) 7 (8 + 8 * a + b) (n32 (L))) 7 (8 + 8 * b + a) (n32 (L))) 7 (2) (n32 (v 2 + 1))) (up (up (up (m2) 11 (a * 8 + b) (n32 (L))) 11 (b * 8 + a) (n32 (L))) 0 (3) (n32 (v 2 + 1))) := by
  obtain ⟨h1, ⟨⟨c1, c2, c3, c4, c5, c6, ⟨s, s1, s2, s3⟩, c8, c9⟩, cF, c10, c11⟩, ⟨v4, v5, v0, v1, v6, v7, vP, vC⟩, vM, ⟨vq, vq2⟩, v2, v3⟩ := h
  have ne : ∀ j, ¬ (j = 8 + 8 * a + b ∨ j = 8 + 8 * b + a ∨ j = 2) → (vset (vset (vset (v) (8 + 8 * a + b) (L)) (8 + 8 * b + a) (L)) (2) (v 2 + 1)) j = v j := fun j h => by
    rw [vset_ne (by omega), vset_ne (by omega), vset_ne (by omega)]
  have mm : ∀ s j, ¬ ((s = 11 ∧ j = a * 8 + b) ∨ (s = 11 ∧ j = b * 8 + a) ∨ (s = 0 ∧ j = 3)) → (up (up (up (m2) 11 (a * 8 + b) (n32 (L))) 11 (b * 8 + a) (n32 (L))) 0 (3) (n32 (v 2 + 1))) s j = m2 s j := fun s j h => by
    rw [up_ap, if_neg (by omega), up_ap, if_neg (by omega), up_ap, if_neg (by omega)]
  refine ⟨sh_up (sh_up (sh_up (h1) (8 + 8 * a + b) (L)) (8 + 8 * b + a) (L)) (2) (v 2 + 1), ⟨⟨?_, ?_, ?_, ?_, ?_, ?_, ⟨?_, ?_, ?_, ?_⟩, ?_, ?_⟩, ?_, ?_, ?_⟩, ⟨?_, ?_, ?_, ?_, ?_, ?_, ?_, ?_⟩, ?_, ⟨?_, ?_⟩, ?_, ?_⟩
  · rw [mm _ _ (by omega), ne _ (by omega)]; exact c1
  · rw [mm _ _ (by omega), ne _ (by omega)]; exact c2
  · rw [mm _ _ (by omega), ne _ (by omega)]; exact c3
  · rw [mm _ _ (by omega), ne _ (by omega)]; exact c4
  · rw [mm _ _ (by omega), ne _ (by omega)]; exact c5
  · rw [mm _ _ (by omega), ne _ (by omega)]; exact c6
  · exact s
  · exact s1
  · rw [mm _ _ (by omega)]; exact s2
  · intro p hp
    rw [ne _ (by omega), ne _ (by omega)]; exact s3 p hp
  · intro p hp
    rw [ne 4 (by omega)] at hp
    rw [mm 12 p (by omega), mm 13 p (by omega), mm 14 p (by omega), mm 15 p (by omega), ne (72 + 4 * p) (by omega), ne (72 + 4 * p + 1) (by omega), ne (72 + 4 * p + 2) (by omega), ne (72 + 4 * p + 3) (by omega)]
    exact c8 p hp
  · intro c hc
    rw [ne 5 (by omega)] at hc
    rw [mm 16 c (by omega), mm 17 c (by omega), mm 18 c (by omega), ne (100 + 3 * c) (by omega), ne (100 + 3 * c + 1) (by omega), ne (100 + 3 * c + 2) (by omega)]
    exact c9 c hc
  · intro i hi
    rw [up_ms (by omega), vset_ne (by omega)]
    by_cases z2 : i = b * 8 + a
    · rw [z2, up_at, show 8 + (b * 8 + a) = 8 + 8 * b + a by omega, vset_at, farC_900 (by omega)]
    · rw [up_mi z2, vset_ne (by omega)]
      by_cases z1 : i = a * 8 + b
      · rw [z1, up_at, show 8 + (a * 8 + b) = 8 + 8 * a + b by omega, vset_at, farC_900 (by omega)]
      · rw [up_mi z1, vset_ne (by omega)]; exact cF i hi
  · rw [vset_at, up_at]
  · rw [mm _ _ (by omega), ne _ (by omega)]; exact c11
  · rw [ne _ (by omega)]; exact v4
  · rw [ne _ (by omega)]; exact v5
  · rw [ne _ (by omega)]; exact v0
  · rw [ne _ (by omega)]; exact v1
  · rw [ne _ (by omega)]; exact v6
  · rw [ne _ (by omega)]; exact v7
  · intro p hp
    rw [ne 4 (by omega)] at hp
    unfold VdP
    rw [ne (72 + 4 * p) (by omega), ne (72 + 4 * p + 1) (by omega), ne (72 + 4 * p + 2) (by omega), ne (72 + 4 * p + 3) (by omega), ne 4 (by omega)]
    obtain ⟨k1, k2, k3, k4, k5, k6, k7, k8⟩ := vP p hp
    refine ⟨k1, k2, k3, k4, k5, k6, k7, fun q hq => ?_⟩
    rw [ne (72 + 4 * q + 3) (by omega)]; exact k8 q hq
  · intro c hc
    rw [ne 5 (by omega)] at hc
    unfold VdC
    rw [ne (100 + 3 * c) (by omega), ne (100 + 3 * c + 1) (by omega), ne (100 + 3 * c + 2) (by omega), ne 4 (by omega), ne 5 (by omega)]
    obtain ⟨k1, k2, k3, k4, k5⟩ := vC c hc
    refine ⟨k1, k2, k3, k4, fun c' hc' => ?_⟩
    rw [ne (100 + 3 * c') (by omega)]; exact k5 c' hc'
  · intro a' b' ha' hb'
    have key : ∀ x y, x < 8 → y < 8 → (vset (vset (vset v (8 + 8 * a + b) L) (8 + 8 * b + a) L) 2 (v 2 + 1)) (8 + 8 * x + y) = if (x = a ∧ y = b) ∨ (x = b ∧ y = a) then L else v (8 + 8 * x + y) := by
      intro x y hx hy
      rw [vset_ne (by omega)]
      by_cases z2 : x = b ∧ y = a
      · rw [if_pos (Or.inr z2), z2.1, z2.2, vset_at]
      · rw [vset_ne (by omega)]
        by_cases z1 : x = a ∧ y = b
        · rw [if_pos (Or.inl z1), z1.1, z1.2, vset_at]
        · rw [vset_ne (by omega), if_neg (by omega)]
    rw [key _ _ ha' hb', key _ _ hb' ha']
    obtain ⟨k1, k2, k3⟩ := vM a' b' ha' hb'
    by_cases z : (a' = a ∧ b' = b) ∨ (a' = b ∧ b' = a)
    · rw [if_pos z, if_pos (by omega)]
      exact ⟨Or.inl hL, rfl, fun q => by omega⟩
    · rw [if_neg z, if_neg (by omega)]
      exact ⟨k1, k2, k3⟩
  · intro q hq hq'
    rw [ne 4 (by omega)] at hq'
    rw [ne _ (by omega), mm _ _ (by omega)]; exact vq q hq hq'
  · intro q hq
    rw [ne 4 (by omega)] at hq
    rw [ne _ (by omega), ne _ (by omega)]; exact vq2 q hq
  · rw [vset_at]; omega
  · rw [ne _ (by omega)]; exact v3
theorem dr_person0 (h : DR v w m2) {k hm g : Nat} (hk : 1 ≤ k ∧ k ≤ 5) (hh : 1 ≤ hm ∧ hm ≤ 7) (hg : g ≤ 9) (hr : v 4 < 7) (hsick : k < 4) : DR (vset (vset (vset (vset (v) (72 + 4 * v 4) (k)) (72 + 4 * v 4 + 1) (hm)) (72 + 4 * v 4 + 2) (g)) (4) (v 4 + 1)) (up (up (up (up (w) 7 (72 + 4 * v 4) (n32 (k))) 7 (72 + 4 * v 4 + 1) (n32 (hm))) 7 (72 + 4 * v 4 + 2) (n32 (g))) 7 (4) (n32 (v 4 + 1))) (up (up (up (up (m2) 12 (v 4) (n32 (k))) 13 (v 4) (n32 (hm))) 14 (v 4) (n32 (g))) 0 (6) (n32 (v 4 + 1))) := by
  obtain ⟨h1, ⟨⟨c1, c2, c3, c4, c5, c6, ⟨s, s1, s2, s3⟩, c8, c9⟩, cF, c10, c11⟩, ⟨v4, v5, v0, v1, v6, v7, vP, vC⟩, vM, ⟨vq, vq2⟩, v2, v3⟩ := h
  have vP4 := vq (v 4) (by omega) (Nat.le_refl _)
  have ne : ∀ j, ¬ (j = 72 + 4 * v 4 ∨ j = 72 + 4 * v 4 + 1 ∨ j = 72 + 4 * v 4 + 2 ∨ j = 4) → (vset (vset (vset (vset (v) (72 + 4 * v 4) (k)) (72 + 4 * v 4 + 1) (hm)) (72 + 4 * v 4 + 2) (g)) (4) (v 4 + 1)) j = v j := fun j h => by
    rw [vset_ne (by omega), vset_ne (by omega), vset_ne (by omega), vset_ne (by omega)]
  have mm : ∀ s j, ¬ ((s = 12 ∧ j = v 4) ∨ (s = 13 ∧ j = v 4) ∨ (s = 14 ∧ j = v 4) ∨ (s = 0 ∧ j = 6)) → (up (up (up (up (m2) 12 (v 4) (n32 (k))) 13 (v 4) (n32 (hm))) 14 (v 4) (n32 (g))) 0 (6) (n32 (v 4 + 1))) s j = m2 s j := fun s j h => by
    rw [up_ap, if_neg (by omega), up_ap, if_neg (by omega), up_ap, if_neg (by omega), up_ap, if_neg (by omega)]
  refine ⟨sh_up (sh_up (sh_up (sh_up (h1) (72 + 4 * v 4) (k)) (72 + 4 * v 4 + 1) (hm)) (72 + 4 * v 4 + 2) (g)) (4) (v 4 + 1), ⟨⟨?_, ?_, ?_, ?_, ?_, ?_, ⟨?_, ?_, ?_, ?_⟩, ?_, ?_⟩, ?_, ?_, ?_⟩, ⟨?_, ?_, ?_, ?_, ?_, ?_, ?_, ?_⟩, ?_, ⟨?_, ?_⟩, ?_, ?_⟩
  · rw [mm _ _ (by omega), ne _ (by omega)]; exact c1
  · rw [mm _ _ (by omega), ne _ (by omega)]; exact c2
  · rw [mm _ _ (by omega), ne _ (by omega)]; exact c3
  · rw [vset_at, up_at]
  · rw [mm _ _ (by omega), ne _ (by omega)]; exact c5
  · rw [mm _ _ (by omega), ne _ (by omega)]; exact c6
  · exact s
  · exact s1
  · rw [mm _ _ (by omega)]; exact s2
  · intro p hp
    rw [vset_at, s3 p hp]
    by_cases z : p = v 4
    · subst z
      rw [vset_ne (by omega), vset_ne (by omega), vset_ne (by omega), vset_at]
      have : ¬ 4 ≤ k := by omega
      simp [this]
    · rw [ne _ (by omega)]
      have : (p < v 4 + 1) = (p < v 4) := propext (by omega)
      simp [this]
  · intro p hp
    rw [vset_at] at hp
    by_cases z : p = v 4
    · subst z
      simp (disch := omega) only [up_at, up_ms, up_mi, upA_at, upA_ms, vset_at]
      rw [vset_ne (by omega), vset_ne (by omega), vset_ne (by omega), vset_at, vset_ne (by omega), vset_ne (by omega), vset_at, vset_ne (by omega), vset_at, ne (72 + 4 * v 4 + 3) (by omega), vP4.1]
      exact ⟨rfl, rfl, rfl, vP4.2⟩
    · rw [mm 12 p (by omega), mm 13 p (by omega), mm 14 p (by omega), mm 15 p (by omega), ne (72 + 4 * p) (by omega), ne (72 + 4 * p + 1) (by omega), ne (72 + 4 * p + 2) (by omega), ne (72 + 4 * p + 3) (by omega)]
      exact c8 p (by omega)
  · intro c hc
    rw [ne 5 (by omega)] at hc
    rw [mm 16 c (by omega), mm 17 c (by omega), mm 18 c (by omega), ne (100 + 3 * c) (by omega), ne (100 + 3 * c + 1) (by omega), ne (100 + 3 * c + 2) (by omega)]
    exact c9 c hc
  · intro i hi
    rw [mm _ _ (by omega), ne _ (by omega)]; exact cF i hi
  · rw [mm _ _ (by omega), ne _ (by omega)]; exact c10
  · rw [mm _ _ (by omega), ne _ (by omega)]; exact c11
  · rw [vset_at]; omega
  · rw [ne _ (by omega)]; exact v5
  · rw [ne _ (by omega)]; exact v0
  · rw [ne _ (by omega)]; exact v1
  · rw [ne _ (by omega)]; exact v6
  · rw [ne _ (by omega)]; exact v7
  · intro p hp
    rw [vset_at] at hp
    unfold VdP
    rw [vset_at]
    by_cases z : p = v 4
    · subst z
      rw [ne (72 + 4 * v 4 + 3) (by omega), vset_ne (show 72 + 4 * v 4 ≠ 4 by omega), vset_ne (show 72 + 4 * v 4 ≠ 72 + 4 * v 4 + 2 by omega), vset_ne (show 72 + 4 * v 4 ≠ 72 + 4 * v 4 + 1 by omega), vset_at, vset_ne (show 72 + 4 * v 4 + 1 ≠ 4 by omega), vset_ne (show 72 + 4 * v 4 + 1 ≠ 72 + 4 * v 4 + 2 by omega), vset_at, vset_ne (show 72 + 4 * v 4 + 2 ≠ 4 by omega), vset_at, vP4.1]
      refine ⟨hk.1, hk.2, hh.1, hh.2, by omega, by omega, Nat.zero_testBit _, fun q hq => ?_⟩
      rw [Nat.zero_testBit]
      by_cases zq : q = v 4
      · subst zq
        rw [ne (72 + 4 * v 4 + 3) (by omega), vP4.1, Nat.zero_testBit]
      · rw [ne (72 + 4 * q + 3) (by omega)]
        exact (Nat.testBit_lt_two_pow (vq2 q (by omega))).symm
    · rw [ne (72 + 4 * p) (by omega), ne (72 + 4 * p + 1) (by omega), ne (72 + 4 * p + 2) (by omega), ne (72 + 4 * p + 3) (by omega)]
      obtain ⟨k1, k2, k3, k4, k5, k6, k7, k8⟩ := vP p (by omega)
      refine ⟨k1, k2, k3, k4, k5, k6, k7, fun q hq => ?_⟩
      by_cases zq : q = v 4
      · subst zq
        rw [ne (72 + 4 * v 4 + 3) (by omega), vP4.1, Nat.zero_testBit]
        exact Nat.testBit_lt_two_pow (vq2 p (by omega))
      · rw [ne (72 + 4 * q + 3) (by omega)]; exact k8 q (by omega)
  · intro c hc
    rw [ne 5 (by omega)] at hc
    unfold VdC
    rw [ne (100 + 3 * c) (by omega), ne (100 + 3 * c + 1) (by omega), ne (100 + 3 * c + 2) (by omega), vset_at, ne 5 (by omega)]
    obtain ⟨k1, k2, k3, k4, k5⟩ := vC c hc
    refine ⟨by omega, k2, k3, k4, fun c' hc' => ?_⟩
    rw [ne (100 + 3 * c') (by omega)]; exact k5 c' hc'
  · intro a b ha hb
    rw [ne (8 + 8 * a + b) (by omega), ne (8 + 8 * b + a) (by omega)]; exact vM a b ha hb
  · intro q hq hq'
    rw [vset_at] at hq'
    rw [ne _ (by omega), mm _ _ (by omega)]; exact vq q hq (by omega)
  · intro q hq
    rw [vset_at] at hq
    have p2 : 2 ^ v 4 < 2 ^ (v 4 + 1) := Nat.pow_lt_pow_right (by omega) (by omega)
    rw [vset_at, ne _ (by omega)]
    by_cases z : q = v 4
    · subst z; rw [vP4.1]; omega
    · have := vq2 q (by omega); omega
  · rw [ne _ (by omega)]; exact v2
  · rw [ne _ (by omega)]; exact v3
theorem dr_person1 (h : DR v w m2) {k hm g sk : Nat} (hk : 1 ≤ k ∧ k ≤ 5) (hh : 1 ≤ hm ∧ hm ≤ 7) (hg : g ≤ 9) (hr : v 4 < 7) (hsick : 4 ≤ k) (hs1 : sk < 128) (hs2 : m2 0 9 = n32 sk) : DR (vset (vset (vset (vset (v) (72 + 4 * v 4) (k)) (72 + 4 * v 4 + 1) (hm)) (72 + 4 * v 4 + 2) (g)) (4) (v 4 + 1)) (up (up (up (up (w) 7 (72 + 4 * v 4) (n32 (k))) 7 (72 + 4 * v 4 + 1) (n32 (hm))) 7 (72 + 4 * v 4 + 2) (n32 (g))) 7 (4) (n32 (v 4 + 1))) (up (up (up (up (up (m2) 12 (v 4) (n32 (k))) 13 (v 4) (n32 (hm))) 14 (v 4) (n32 (g))) 0 (9) (n32 (sk ||| 2 ^ v 4))) 0 (6) (n32 (v 4 + 1))) := by
  obtain ⟨h1, ⟨⟨c1, c2, c3, c4, c5, c6, ⟨s, s1, s2, s3⟩, c8, c9⟩, cF, c10, c11⟩, ⟨v4, v5, v0, v1, v6, v7, vP, vC⟩, vM, ⟨vq, vq2⟩, v2, v3⟩ := h
  have vP4 := vq (v 4) (by omega) (Nat.le_refl _)
  have ne : ∀ j, ¬ (j = 72 + 4 * v 4 ∨ j = 72 + 4 * v 4 + 1 ∨ j = 72 + 4 * v 4 + 2 ∨ j = 4) → (vset (vset (vset (vset (v) (72 + 4 * v 4) (k)) (72 + 4 * v 4 + 1) (hm)) (72 + 4 * v 4 + 2) (g)) (4) (v 4 + 1)) j = v j := fun j h => by
    rw [vset_ne (by omega), vset_ne (by omega), vset_ne (by omega), vset_ne (by omega)]
  have mm : ∀ s j, ¬ ((s = 12 ∧ j = v 4) ∨ (s = 13 ∧ j = v 4) ∨ (s = 14 ∧ j = v 4) ∨ (s = 0 ∧ j = 9) ∨ (s = 0 ∧ j = 6)) → (up (up (up (up (up (m2) 12 (v 4) (n32 (k))) 13 (v 4) (n32 (hm))) 14 (v 4) (n32 (g))) 0 (9) (n32 (sk ||| 2 ^ v 4))) 0 (6) (n32 (v 4 + 1))) s j = m2 s j := fun s j h => by
    rw [up_ap, if_neg (by omega), up_ap, if_neg (by omega), up_ap, if_neg (by omega), up_ap, if_neg (by omega), up_ap, if_neg (by omega)]
  refine ⟨sh_up (sh_up (sh_up (sh_up (h1) (72 + 4 * v 4) (k)) (72 + 4 * v 4 + 1) (hm)) (72 + 4 * v 4 + 2) (g)) (4) (v 4 + 1), ⟨⟨?_, ?_, ?_, ?_, ?_, ?_, ⟨?_, ?_, ?_, ?_⟩, ?_, ?_⟩, ?_, ?_, ?_⟩, ⟨?_, ?_, ?_, ?_, ?_, ?_, ?_, ?_⟩, ?_, ⟨?_, ?_⟩, ?_, ?_⟩
  · rw [mm _ _ (by omega), ne _ (by omega)]; exact c1
  · rw [mm _ _ (by omega), ne _ (by omega)]; exact c2
  · rw [mm _ _ (by omega), ne _ (by omega)]; exact c3
  · rw [vset_at, up_at]
  · rw [mm _ _ (by omega), ne _ (by omega)]; exact c5
  · rw [mm _ _ (by omega), ne _ (by omega)]; exact c6
  · exact sk ||| 2 ^ v 4
  · exact Nat.or_lt_two_pow (n := 7) hs1 (Nat.pow_lt_pow_right (by omega) (by omega))
  · rw [up_mi (by omega), up_at]
  · intro p hp
    have t3 : sk.testBit p = decide (p < v 4 ∧ 4 ≤ v (72 + 4 * p)) := by
      have e : s = sk := (n32_eq (a := s) (b := sk) (by omega) (by omega)).mp (s2.symm.trans hs2)
      rw [← e]; exact s3 p hp
    rw [vset_at, Nat.testBit_or, Nat.testBit_two_pow]
    by_cases z : p = v 4
    · subst z
      rw [vset_ne (by omega), vset_ne (by omega), vset_ne (by omega), vset_at]
      have : v 4 < v 4 + 1 ∧ 4 ≤ k := ⟨by omega, hsick⟩
      simp [this]
    · rw [ne _ (by omega), t3]
      have : (p < v 4 + 1) = (p < v 4) := propext (by omega)
      have z' : ¬ v 4 = p := fun q => z q.symm
      simp [this, z']
  · intro p hp
    rw [vset_at] at hp
    by_cases z : p = v 4
    · subst z
      simp (disch := omega) only [up_at, up_ms, up_mi, upA_at, upA_ms, vset_at]
      rw [vset_ne (by omega), vset_ne (by omega), vset_ne (by omega), vset_at, vset_ne (by omega), vset_ne (by omega), vset_at, vset_ne (by omega), vset_at, ne (72 + 4 * v 4 + 3) (by omega), vP4.1]
      exact ⟨rfl, rfl, rfl, vP4.2⟩
    · rw [mm 12 p (by omega), mm 13 p (by omega), mm 14 p (by omega), mm 15 p (by omega), ne (72 + 4 * p) (by omega), ne (72 + 4 * p + 1) (by omega), ne (72 + 4 * p + 2) (by omega), ne (72 + 4 * p + 3) (by omega)]
      exact c8 p (by omega)
  · intro c hc
    rw [ne 5 (by omega)] at hc
    rw [mm 16 c (by omega), mm 17 c (by omega), mm 18 c (by omega), ne (100 + 3 * c) (by omega), ne (100 + 3 * c + 1) (by omega), ne (100 + 3 * c + 2) (by omega)]
    exact c9 c hc
  · intro i hi
    rw [mm _ _ (by omega), ne _ (by omega)]; exact cF i hi
  · rw [mm _ _ (by omega), ne _ (by omega)]; exact c10
  · rw [mm _ _ (by omega), ne _ (by omega)]; exact c11
  · rw [vset_at]; omega
  · rw [ne _ (by omega)]; exact v5
  · rw [ne _ (by omega)]; exact v0
  · rw [ne _ (by omega)]; exact v1
  · rw [ne _ (by omega)]; exact v6
  · rw [ne _ (by omega)]; exact v7
  · intro p hp
    rw [vset_at] at hp
    unfold VdP
    rw [vset_at]
    by_cases z : p = v 4
    · subst z
      rw [ne (72 + 4 * v 4 + 3) (by omega), vset_ne (show 72 + 4 * v 4 ≠ 4 by omega), vset_ne (show 72 + 4 * v 4 ≠ 72 + 4 * v 4 + 2 by omega), vset_ne (show 72 + 4 * v 4 ≠ 72 + 4 * v 4 + 1 by omega), vset_at, vset_ne (show 72 + 4 * v 4 + 1 ≠ 4 by omega), vset_ne (show 72 + 4 * v 4 + 1 ≠ 72 + 4 * v 4 + 2 by omega), vset_at, vset_ne (show 72 + 4 * v 4 + 2 ≠ 4 by omega), vset_at, vP4.1]
      refine ⟨hk.1, hk.2, hh.1, hh.2, by omega, by omega, Nat.zero_testBit _, fun q hq => ?_⟩
      rw [Nat.zero_testBit]
      by_cases zq : q = v 4
      · subst zq
        rw [ne (72 + 4 * v 4 + 3) (by omega), vP4.1, Nat.zero_testBit]
      · rw [ne (72 + 4 * q + 3) (by omega)]
        exact (Nat.testBit_lt_two_pow (vq2 q (by omega))).symm
    · rw [ne (72 + 4 * p) (by omega), ne (72 + 4 * p + 1) (by omega), ne (72 + 4 * p + 2) (by omega), ne (72 + 4 * p + 3) (by omega)]
      obtain ⟨k1, k2, k3, k4, k5, k6, k7, k8⟩ := vP p (by omega)
      refine ⟨k1, k2, k3, k4, k5, k6, k7, fun q hq => ?_⟩
      by_cases zq : q = v 4
      · subst zq
        rw [ne (72 + 4 * v 4 + 3) (by omega), vP4.1, Nat.zero_testBit]
        exact Nat.testBit_lt_two_pow (vq2 p (by omega))
      · rw [ne (72 + 4 * q + 3) (by omega)]; exact k8 q (by omega)
  · intro c hc
    rw [ne 5 (by omega)] at hc
    unfold VdC
    rw [ne (100 + 3 * c) (by omega), ne (100 + 3 * c + 1) (by omega), ne (100 + 3 * c + 2) (by omega), vset_at, ne 5 (by omega)]
    obtain ⟨k1, k2, k3, k4, k5⟩ := vC c hc
    refine ⟨by omega, k2, k3, k4, fun c' hc' => ?_⟩
    rw [ne (100 + 3 * c') (by omega)]; exact k5 c' hc'
  · intro a b ha hb
    rw [ne (8 + 8 * a + b) (by omega), ne (8 + 8 * b + a) (by omega)]; exact vM a b ha hb
  · intro q hq hq'
    rw [vset_at] at hq'
    rw [ne _ (by omega), mm _ _ (by omega)]; exact vq q hq (by omega)
  · intro q hq
    rw [vset_at] at hq
    have p2 : 2 ^ v 4 < 2 ^ (v 4 + 1) := Nat.pow_lt_pow_right (by omega) (by omega)
    rw [vset_at, ne _ (by omega)]
    by_cases z : q = v 4
    · subst z; rw [vP4.1]; omega
    · have := vq2 q (by omega); omega
  · rw [ne _ (by omega)]; exact v2
  · rw [ne _ (by omega)]; exact v3
theorem dr_car (h : DR v w m2) {o st sn : Nat} (ho : o < v 4) (hst : 1 ≤ st ∧ st ≤ 4) (hsn : sn ≤ 1) (hr : v 5 < 3) (hu : ∀ c, c < v 5 → v (100 + 3 * c) ≠ o) : DR (vset (vset (vset (vset (v) (100 + 3 * v 5) (o)) (100 + 3 * v 5 + 1) (st)) (100 + 3 * v 5 + 2) (sn)) (5) (v 5 + 1)) (up (up (up (up (w) 7 (100 + 3 * v 5) (n32 (o))) 7 (100 + 3 * v 5 + 1) (n32 (st))) 7 (100 + 3 * v 5 + 2) (n32 (sn))) 7 (5) (n32 (v 5 + 1))) (up (up (up (up (m2) 16 (v 5) (n32 (o))) 17 (v 5) (n32 (st))) 18 (v 5) (n32 (sn))) 0 (7) (n32 (v 5 + 1))) := by
  obtain ⟨h1, ⟨⟨c1, c2, c3, c4, c5, c6, ⟨s, s1, s2, s3⟩, c8, c9⟩, cF, c10, c11⟩, ⟨v4, v5, v0, v1, v6, v7, vP, vC⟩, vM, ⟨vq, vq2⟩, v2, v3⟩ := h
  have ne : ∀ j, ¬ (j = 100 + 3 * v 5 ∨ j = 100 + 3 * v 5 + 1 ∨ j = 100 + 3 * v 5 + 2 ∨ j = 5) → (vset (vset (vset (vset (v) (100 + 3 * v 5) (o)) (100 + 3 * v 5 + 1) (st)) (100 + 3 * v 5 + 2) (sn)) (5) (v 5 + 1)) j = v j := fun j h => by
    rw [vset_ne (by omega), vset_ne (by omega), vset_ne (by omega), vset_ne (by omega)]
  have mm : ∀ s j, ¬ ((s = 16 ∧ j = v 5) ∨ (s = 17 ∧ j = v 5) ∨ (s = 18 ∧ j = v 5) ∨ (s = 0 ∧ j = 7)) → (up (up (up (up (m2) 16 (v 5) (n32 (o))) 17 (v 5) (n32 (st))) 18 (v 5) (n32 (sn))) 0 (7) (n32 (v 5 + 1))) s j = m2 s j := fun s j h => by
    rw [up_ap, if_neg (by omega), up_ap, if_neg (by omega), up_ap, if_neg (by omega), up_ap, if_neg (by omega)]
  refine ⟨sh_up (sh_up (sh_up (sh_up (h1) (100 + 3 * v 5) (o)) (100 + 3 * v 5 + 1) (st)) (100 + 3 * v 5 + 2) (sn)) (5) (v 5 + 1), ⟨⟨?_, ?_, ?_, ?_, ?_, ?_, ⟨?_, ?_, ?_, ?_⟩, ?_, ?_⟩, ?_, ?_, ?_⟩, ⟨?_, ?_, ?_, ?_, ?_, ?_, ?_, ?_⟩, ?_, ⟨?_, ?_⟩, ?_, ?_⟩
  · rw [mm _ _ (by omega), ne _ (by omega)]; exact c1
  · rw [mm _ _ (by omega), ne _ (by omega)]; exact c2
  · rw [mm _ _ (by omega), ne _ (by omega)]; exact c3
  · rw [mm _ _ (by omega), ne _ (by omega)]; exact c4
  · rw [vset_at, up_at]
  · rw [mm _ _ (by omega), ne _ (by omega)]; exact c6
  · exact s
  · exact s1
  · rw [mm _ _ (by omega)]; exact s2
  · intro p hp
    rw [ne _ (by omega), ne _ (by omega)]; exact s3 p hp
  · intro p hp
    rw [ne 4 (by omega)] at hp
    rw [mm 12 p (by omega), mm 13 p (by omega), mm 14 p (by omega), mm 15 p (by omega), ne (72 + 4 * p) (by omega), ne (72 + 4 * p + 1) (by omega), ne (72 + 4 * p + 2) (by omega), ne (72 + 4 * p + 3) (by omega)]
    exact c8 p hp
  · intro c hc
    rw [vset_at] at hc
    by_cases z : c = v 5
    · subst z
      simp (disch := omega) only [up_at, up_ms, up_mi, upA_at, upA_ms]
      rw [vset_ne (show 100 + 3 * v 5 ≠ 5 by omega), vset_ne (show 100 + 3 * v 5 ≠ 100 + 3 * v 5 + 2 by omega), vset_ne (show 100 + 3 * v 5 ≠ 100 + 3 * v 5 + 1 by omega), vset_at, vset_ne (show 100 + 3 * v 5 + 1 ≠ 5 by omega), vset_ne (show 100 + 3 * v 5 + 1 ≠ 100 + 3 * v 5 + 2 by omega), vset_at, vset_ne (show 100 + 3 * v 5 + 2 ≠ 5 by omega), vset_at]
      exact ⟨rfl, rfl, rfl⟩
    · rw [mm 16 c (by omega), mm 17 c (by omega), mm 18 c (by omega), ne (100 + 3 * c) (by omega), ne (100 + 3 * c + 1) (by omega), ne (100 + 3 * c + 2) (by omega)]
      exact c9 c (by omega)
  · intro i hi
    rw [mm _ _ (by omega), ne _ (by omega)]; exact cF i hi
  · rw [mm _ _ (by omega), ne _ (by omega)]; exact c10
  · rw [mm _ _ (by omega), ne _ (by omega)]; exact c11
  · rw [ne _ (by omega)]; exact v4
  · rw [vset_at]; omega
  · rw [ne _ (by omega)]; exact v0
  · rw [ne _ (by omega)]; exact v1
  · rw [ne _ (by omega)]; exact v6
  · rw [ne _ (by omega)]; exact v7
  · intro p hp
    rw [ne 4 (by omega)] at hp
    unfold VdP
    rw [ne (72 + 4 * p) (by omega), ne (72 + 4 * p + 1) (by omega), ne (72 + 4 * p + 2) (by omega), ne (72 + 4 * p + 3) (by omega), ne 4 (by omega)]
    obtain ⟨k1, k2, k3, k4, k5, k6, k7, k8⟩ := vP p hp
    refine ⟨k1, k2, k3, k4, k5, k6, k7, fun q hq => ?_⟩
    rw [ne (72 + 4 * q + 3) (by omega)]; exact k8 q hq
  · intro c hc
    rw [vset_at] at hc
    unfold VdC
    rw [vset_at, ne 4 (by omega)]
    by_cases z : c = v 5
    · subst z
      rw [vset_ne (show 100 + 3 * v 5 ≠ 5 by omega), vset_ne (show 100 + 3 * v 5 ≠ 100 + 3 * v 5 + 2 by omega), vset_ne (show 100 + 3 * v 5 ≠ 100 + 3 * v 5 + 1 by omega), vset_at, vset_ne (show 100 + 3 * v 5 + 1 ≠ 5 by omega), vset_ne (show 100 + 3 * v 5 + 1 ≠ 100 + 3 * v 5 + 2 by omega), vset_at, vset_ne (show 100 + 3 * v 5 + 2 ≠ 5 by omega), vset_at]
      refine ⟨ho, hst.1, hst.2, hsn, fun c' hc' q => ?_⟩
      by_cases zc : c' = v 5
      · exact zc
      · rw [ne (100 + 3 * c') (by omega)] at q
        exact absurd q (hu c' (by omega))
    · rw [ne (100 + 3 * c) (by omega), ne (100 + 3 * c + 1) (by omega), ne (100 + 3 * c + 2) (by omega)]
      obtain ⟨k1, k2, k3, k4, k5⟩ := vC c (by omega)
      refine ⟨k1, k2, k3, k4, fun c' hc' q => ?_⟩
      by_cases zc : c' = v 5
      · subst zc
        rw [vset_ne (show 100 + 3 * v 5 ≠ 5 by omega), vset_ne (show 100 + 3 * v 5 ≠ 100 + 3 * v 5 + 2 by omega), vset_ne (show 100 + 3 * v 5 ≠ 100 + 3 * v 5 + 1 by omega), vset_at] at q
        exact absurd q.symm (hu c (by omega))
      · rw [ne (100 + 3 * c') (by omega)] at q
        exact k5 c' (by omega) q
  · intro a b ha hb
    rw [ne (8 + 8 * a + b) (by omega), ne (8 + 8 * b + a) (by omega)]; exact vM a b ha hb
  · intro q hq hq'
    rw [ne 4 (by omega)] at hq'
    rw [ne _ (by omega), mm _ _ (by omega)]; exact vq q hq hq'
  · intro q hq
    rw [ne 4 (by omega)] at hq
    rw [ne _ (by omega), ne _ (by omega)]; exact vq2 q hq
  · rw [ne _ (by omega)]; exact v2
  · rw [ne _ (by omega)]; exact v3
theorem or_bit {x b q : Nat} : (x ||| 2 ^ b).testBit q = (x.testBit q || decide (b = q)) := by rw [Nat.testBit_or, Nat.testBit_two_pow]
theorem or_lt {x b P : Nat} (hx : x < 2 ^ P) (hb : b < P) : x ||| 2 ^ b < 2 ^ P := Nat.or_lt_two_pow hx (Nat.pow_lt_pow_right (by omega) hb)
theorem dr_quarrel (h : DR v w m2) {a b : Nat} (ha : a < v 4) (hb : b < v 4) (hab : a ≠ b) (hr : v 6 < 6) : DR (vset (vset (vset (v) (72 + 4 * a + 3) (v (72 + 4 * a + 3) ||| 2 ^ b)) (72 + 4 * b + 3) (v (72 + 4 * b + 3) ||| 2 ^ a)) (6) (v 6 + 1)) (up (up (up (w) 7 (72 + 4 * a + 3) (n32 (v (72 + 4 * a + 3) ||| 2 ^ b))) 7 (72 + 4 * b + 3) (n32 (v (72 + 4 * b + 3) ||| 2 ^ a))) 7 (6) (n32 (v 6 + 1))) (up (up (up (m2) 15 (a) (n32 (v (72 + 4 * a + 3) ||| 2 ^ b))) 15 (b) (n32 (v (72 + 4 * b + 3) ||| 2 ^ a))) 0 (5) (n32 (v 6 + 1))) := by
  obtain ⟨h1, ⟨⟨c1, c2, c3, c4, c5, c6, ⟨s, s1, s2, s3⟩, c8, c9⟩, cF, c10, c11⟩, ⟨v4, v5, v0, v1, v6, v7, vP, vC⟩, vM, ⟨vq, vq2⟩, v2, v3⟩ := h
  have ag : ∀ p, p < v 4 → (vset (vset (vset v (72 + 4 * a + 3) (v (72 + 4 * a + 3) ||| 2 ^ b)) (72 + 4 * b + 3) (v (72 + 4 * b + 3) ||| 2 ^ a)) 6 (v 6 + 1)) (72 + 4 * p + 3) = if p = a then v (72 + 4 * a + 3) ||| 2 ^ b else if p = b then v (72 + 4 * b + 3) ||| 2 ^ a else v (72 + 4 * p + 3) := by
    intro p hp
    rw [vset_ne (by omega)]
    by_cases zb : p = b
    · rw [zb, vset_at, if_neg (by omega), if_pos rfl]
    · rw [vset_ne (by omega)]
      by_cases za : p = a
      · rw [za, vset_at, if_pos rfl]
      · rw [vset_ne (by omega), if_neg za, if_neg zb]
  have aglt : ∀ p, p < v 4 → (vset (vset (vset v (72 + 4 * a + 3) (v (72 + 4 * a + 3) ||| 2 ^ b)) (72 + 4 * b + 3) (v (72 + 4 * b + 3) ||| 2 ^ a)) 6 (v 6 + 1)) (72 + 4 * p + 3) < 2 ^ v 4 := by
    intro p hp
    rw [ag p hp]
    split
    · exact or_lt (vq2 a ha) hb
    · split
      · exact or_lt (vq2 b hb) ha
      · exact vq2 p hp
  have agb : ∀ p q, p < v 4 → q < v 4 → ((vset (vset (vset v (72 + 4 * a + 3) (v (72 + 4 * a + 3) ||| 2 ^ b)) (72 + 4 * b + 3) (v (72 + 4 * b + 3) ||| 2 ^ a)) 6 (v 6 + 1)) (72 + 4 * p + 3)).testBit q = ((v (72 + 4 * p + 3)).testBit q || decide ((p = a ∧ q = b) ∨ (p = b ∧ q = a))) := by
    intro p q hp hq
    rw [ag p hp]
    by_cases za : p = a
    · rw [if_pos za, or_bit, za]
      have : (b = q) = ((a = a ∧ q = b) ∨ (a = b ∧ q = a)) := propext (by omega)
      simp only [this]
    · rw [if_neg za]
      by_cases zb : p = b
      · rw [if_pos zb, or_bit, zb]
        have : (a = q) = ((b = a ∧ q = b) ∨ (b = b ∧ q = a)) := propext (by omega)
        simp only [this]
      · rw [if_neg zb]
        have : ¬ ((p = a ∧ q = b) ∨ (p = b ∧ q = a)) := by omega
        simp [this]
  have ne : ∀ j, ¬ (j = 72 + 4 * a + 3 ∨ j = 72 + 4 * b + 3 ∨ j = 6) → (vset (vset (vset (v) (72 + 4 * a + 3) (v (72 + 4 * a + 3) ||| 2 ^ b)) (72 + 4 * b + 3) (v (72 + 4 * b + 3) ||| 2 ^ a)) (6) (v 6 + 1)) j = v j := fun j h => by
    rw [vset_ne (by omega), vset_ne (by omega), vset_ne (by omega)]
  have mm : ∀ s j, ¬ ((s = 15 ∧ j = a) ∨ (s = 15 ∧ j = b) ∨ (s = 0 ∧ j = 5)) → (up (up (up (m2) 15 (a) (n32 (v (72 + 4 * a + 3) ||| 2 ^ b))) 15 (b) (n32 (v (72 + 4 * b + 3) ||| 2 ^ a))) 0 (5) (n32 (v 6 + 1))) s j = m2 s j := fun s j h => by
    rw [up_ap, if_neg (by omega), up_ap, if_neg (by omega), up_ap, if_neg (by omega)]
  refine ⟨sh_up (sh_up (sh_up (h1) (72 + 4 * a + 3) (v (72 + 4 * a + 3) ||| 2 ^ b)) (72 + 4 * b + 3) (v (72 + 4 * b + 3) ||| 2 ^ a)) (6) (v 6 + 1), ⟨⟨?_, ?_, ?_, ?_, ?_, ?_, ⟨?_, ?_, ?_, ?_⟩, ?_, ?_⟩, ?_, ?_, ?_⟩, ⟨?_, ?_, ?_, ?_, ?_, ?_, ?_, ?_⟩, ?_, ⟨?_, ?_⟩, ?_, ?_⟩
  · rw [mm _ _ (by omega), ne _ (by omega)]; exact c1
  · rw [mm _ _ (by omega), ne _ (by omega)]; exact c2
  · rw [vset_at, up_at]
  · rw [mm _ _ (by omega), ne _ (by omega)]; exact c4
  · rw [mm _ _ (by omega), ne _ (by omega)]; exact c5
  · rw [mm _ _ (by omega), ne _ (by omega)]; exact c6
  · exact s
  · exact s1
  · rw [mm _ _ (by omega)]; exact s2
  · intro p hp
    rw [ne _ (by omega), ne _ (by omega)]; exact s3 p hp
  · intro p hp
    rw [ne 4 (by omega)] at hp
    rw [mm 12 p (by omega), mm 13 p (by omega), mm 14 p (by omega), ne (72 + 4 * p) (by omega), ne (72 + 4 * p + 1) (by omega), ne (72 + 4 * p + 2) (by omega)]
    obtain ⟨k1, k2, k3, k4⟩ := c8 p hp
    refine ⟨k1, k2, k3, ?_⟩
    rw [up_ms (by omega), ag p hp]
    by_cases zb : p = b
    · rw [zb, up_at, if_neg (by omega), if_pos rfl]
    · rw [up_mi zb]
      by_cases za : p = a
      · rw [za, up_at, if_pos rfl]
      · rw [up_mi za, if_neg za, if_neg zb]; exact k4
  · intro c hc
    rw [ne 5 (by omega)] at hc
    rw [mm 16 c (by omega), mm 17 c (by omega), mm 18 c (by omega), ne (100 + 3 * c) (by omega), ne (100 + 3 * c + 1) (by omega), ne (100 + 3 * c + 2) (by omega)]
    exact c9 c hc
  · intro i hi
    rw [mm _ _ (by omega), ne _ (by omega)]; exact cF i hi
  · rw [mm _ _ (by omega), ne _ (by omega)]; exact c10
  · rw [mm _ _ (by omega), ne _ (by omega)]; exact c11
  · rw [ne _ (by omega)]; exact v4
  · rw [ne _ (by omega)]; exact v5
  · rw [ne _ (by omega)]; exact v0
  · rw [ne _ (by omega)]; exact v1
  · rw [vset_at]; omega
  · rw [ne _ (by omega)]; exact v7
  · intro p hp
    rw [ne 4 (by omega)] at hp
    unfold VdP
    rw [ne (72 + 4 * p) (by omega), ne (72 + 4 * p + 1) (by omega), ne (72 + 4 * p + 2) (by omega), ne 4 (by omega)]
    obtain ⟨k1, k2, k3, k4, k5, k6, k7, k8⟩ := vP p hp
    refine ⟨k1, k2, k3, k4, k5, ?_, ?_, fun q hq => ?_⟩
    · have := aglt p hp
      have p7 : 2 ^ v 4 ≤ 2 ^ 7 := Nat.pow_le_pow_right (by omega) v4
      omega
    · rw [agb p p hp hp, k7]
      have : ¬ ((p = a ∧ p = b) ∨ (p = b ∧ p = a)) := by omega
      simp [this]
    · rw [agb p q hp hq, agb q p hq hp, k8 q hq]
      have : ((p = a ∧ q = b) ∨ (p = b ∧ q = a)) = ((q = a ∧ p = b) ∨ (q = b ∧ p = a)) := propext (by omega)
      simp only [this]
  · intro c hc
    rw [ne 5 (by omega)] at hc
    unfold VdC
    rw [ne (100 + 3 * c) (by omega), ne (100 + 3 * c + 1) (by omega), ne (100 + 3 * c + 2) (by omega), ne 4 (by omega), ne 5 (by omega)]
    obtain ⟨k1, k2, k3, k4, k5⟩ := vC c hc
    refine ⟨k1, k2, k3, k4, fun c' hc' => ?_⟩
    rw [ne (100 + 3 * c') (by omega)]; exact k5 c' hc'
  · intro a b ha hb
    rw [ne (8 + 8 * a + b) (by omega), ne (8 + 8 * b + a) (by omega)]; exact vM a b ha hb
  · intro q hq hq'
    rw [ne 4 (by omega)] at hq'
    rw [ne _ (by omega), mm _ _ (by omega)]; exact vq q hq hq'
  · intro q hq
    rw [ne 4 (by omega)] at hq
    rw [ne 4 (by omega)]; exact aglt q hq
  · rw [ne _ (by omega)]; exact v2
  · rw [ne _ (by omega)]; exact v3
end TK
