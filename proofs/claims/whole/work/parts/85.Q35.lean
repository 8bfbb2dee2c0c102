/-! the reference's plan -/
section EV
variable {w : Mem} {v : Nat → Nat} {g : Nat}
def AR (u : Int32) (w : Mem) : Acc → Prop
  | none => u = n32 99
  | some a => u = n32 a.1 ∧ (a.1 ≤ 7 ∧ a.2.1 ≤ 20000) ∧ w 0 28 = n32 a.2.1 ∧ w 0 26 = n32 (a.2.2 3) ∧ ∀ c, c < 3 → w 26 c = n32 (a.2.2 c)
def P26 (s i : Nat) : Prop := s = 32 ∨ s = 26 ∨ (s = 0 ∧ (i = 26 ∨ i = 28))
/-- what stays while rows are tried -/
def Cn (v : Nat → Nat) (g K : Nat) (R : Nat → Nat) (w : Mem) : Prop := w 0 27 = n32 g ∧ w 0 30 = n32 K ∧ (∀ k, k < K → R k < v 4 ∧ w 30 k = n32 (R k)) ∧ ∀ c, c < 3 → ∀ X, X < 128 → w 22 (128 * c + X) = tkv v g c X
theorem Cn.fr {K : Nat} {R : Nat → Nat} {w' : Mem} (h : Cn v g K R w) (hf : Fr P26 w w') : Cn v g K R w' := by
  obtain ⟨h1, h2, h3, h4⟩ := h
  refine ⟨?_, ?_, fun k hk => ?_, fun c hc X hX => ?_⟩
  · rw [hf 0 27 (by unfold P26; omega)]; exact h1
  · rw [hf 0 30 (by unfold P26; omega)]; exact h2
  · rw [hf 30 k (by unfold P26; omega)]; exact h3 k hk
  · rw [hf 22 _ (by unfold P26; omega)]; exact h4 c hc X hX
theorem t_keepRow (s : Mem) : ∃ s1, (∀ K, f_X8_layHome_L111 K 100000 (n32 0) s = K (n32 3) s1) ∧ ∀ s' j, s1 s' j = if s' = 26 ∧ j < 3 then s 32 j else s s' j := by
  obtain ⟨s1, i1, i2⟩ := loop_k (S := Mem) (fun K t u s => f_X8_layHome_L111 K t u s) 3 (fun i r => ∀ s' j, r s' j = if s' = 26 ∧ j < i then s 32 j else s s' j) (fun K t s _ => by
      refine Eq.trans (f_X8_layHome_L111.eq_2 _ _ _ _) ?_
      simp (disch := omega) only [n32_lit, n32_add, n32_mul, n32_lt, n32_le, n32_eq, n32_nat, n32_inb, gd_dec, gd_one, nm_eq, jn_eq, Option.bind_some, Nat.reduceAdd, Nat.reduceMul, Nat.reduceSub, Nat.reduceLT, Nat.reduceLeDiff, Nat.reduceEqDiff, ↓reduceIte, decide_true, decide_false, and_true, true_and, and_false, false_and, or_false, false_or, or_true, true_or, not_true_eq_false, not_false_eq_true, eq_self, Nat.zero_add, Nat.add_zero, Nat.mul_zero, Nat.mul_one, Nat.zero_le, Nat.not_lt_zero, bind_sm, bind_sm2, Nat.le_refl]) (fun i q hi hI => ⟨up q 26 i (s 32 i), fun s' j => by
        rw [up_ap, hI]
        by_cases z1 : s' = 26
        · by_cases z2 : j = i
          · rw [if_pos ⟨z1, z2⟩, if_pos (by omega), z2]
          · rw [if_neg (by omega)]
            by_cases z3 : j < i
            · rw [if_pos ⟨z1, z3⟩, if_pos (by omega)]
            · rw [if_neg (by omega), if_neg (by omega)]
        · rw [if_neg (by omega), if_neg (by omega), if_neg (by omega)], fun K t => by
      refine Eq.trans (f_X8_layHome_L111.eq_2 _ _ _ _) ?_
      have := hI 32 i
      rw [if_neg (by omega)] at this
      simp (disch := omega) only [n32_lit, n32_add, n32_mul, n32_lt, n32_le, n32_eq, n32_nat, n32_inb, gd_dec, gd_one, nm_eq, jn_eq, Option.bind_some, Nat.reduceAdd, Nat.reduceMul, Nat.reduceSub, Nat.reduceLT, Nat.reduceLeDiff, Nat.reduceEqDiff, ↓reduceIte, decide_true, decide_false, and_true, true_and, and_false, false_and, or_false, false_or, or_true, true_or, not_true_eq_false, not_false_eq_true, eq_self, Nat.zero_add, Nat.add_zero, Nat.mul_zero, Nat.mul_one, Nat.zero_le, Nat.not_lt_zero, bind_sm, bind_sm2, show ¬ 3 ≤ i by omega, show i < 4 by omega, hi, this]⟩) 3 0 s 100000 (by omega) (by omega) (fun s' j => by rw [if_neg (by omega)])
  exact ⟨s1, i2, i1⟩
theorem pow4 (K : Nat) : 4 ^ K = 2 ^ (2 * K) := by rw [show (4 : Nat) = 2 ^ 2 from rfl, ← Nat.pow_mul]
theorem t_oneRow (hv : Vd v) (hg : ∀ c, g.testBit c = true → c < v 5) (hg8 : g < 8) {K x : Nat} (hK : K ≤ 7) (hx : x < 4 ^ K) {R : Nat → Nat} (hc : Cn v g K R w) {u : Int32} {acc : Acc} (ha : AR u w acc) : ∃ u' w', (∀ Kc t, f_X8_layHome_L27 Kc (t + 1) u (n32 x) w = f_X8_layHome_L27 Kc t u' (n32 (x + 1)) w') ∧ Fr P26 w w' ∧ AR u' w' (leaf v g acc (Tpre R K x)) := by
  have hc' := hc
  obtain ⟨h27, h30, hR, h22⟩ := hc'
  have h4 := hv.1.1
  have p4 : 2 ^ v 4 ≤ 128 := Nat.pow_le_pow_right (n := 2) (by omega) h4
  have k4 : 4 ^ K ≤ 16384 := by
    have : 4 ^ K ≤ 4 ^ 7 := Nat.pow_le_pow_right (by omega) hK
    omega
  obtain ⟨w1, a1, a2, a3⟩ := t_layRow hK h4 (x := x) (by omega) hR h30
  have hT := Tpre_lt (R := R) (P := v 4) K x (fun k hk => (hR k hk).1)
  generalize hTT : Tpre R K x = T at *
  have a2' : Fr P26 w w1 := a2.mono (fun s i z => Or.inl z)
  have hc1 := hc.fr a2'
  have sum := t_sumOf (w := w1) hv hg hg8 hT hc1.1 a3 hc1.2.2.2
  have t3 := a3 3 (by omega)
  have hT3 := hT 3
  have bt := t_bits (a := T 3) (by omega)
  have pl := pop7_le (T 3)
  have on1 : n32 1 <<< ((n32 2 * n32 K) &&& n32 31) = n32 (4 ^ K) := by rw [n32_mul, n32_one (by omega), pow4]
  have on1' : n32 1 <<< (n32 (2 * K) &&& n32 31) = n32 (4 ^ K) := by rw [n32_one (by omega), pow4]
  have nx : ¬ 4 ^ K ≤ x := by omega
  have ha1 : ∀ acc, AR u w acc → AR u w1 acc := by
    intro acc ha
    cases acc with
    | none => exact ha
    | some a =>
      obtain ⟨b1, b2, b3, b4, b5⟩ := ha
      refine ⟨b1, b2, ?_, ?_, fun c hc => ?_⟩
      · rw [a2 0 28 (by unfold P32; omega)]; exact b3
      · rw [a2 0 26 (by unfold P32; omega)]; exact b4
      · rw [a2 26 c (by unfold P32; omega)]; exact b5 c hc
  rcases sum with ⟨s1, s2⟩ | ⟨s1, s2⟩
  · have sl := smT_le hv hg hT s1 3 (by omega)
    have nn := neN (k := smT v g T 3) (by omega)
    -- the row is kept
    obtain ⟨w2, k1, k2⟩ := t_keepRow (up (up w1 0 28 (n32 (smT v g T 3))) 0 26 (n32 (T 3)))
    have fr2 : Fr P26 w w2 := by
      intro s i hn
      unfold P26 at hn
      rw [k2, if_neg (by omega), up_ap, if_neg (by omega), up_ap, if_neg (by omega)]
      exact a2 s i (by unfold P32; omega)
    have ar2 : AR (n32 (pop7 (T 3))) w2 (some (pop7 (T 3), smT v g T 3, T)) := by
      refine ⟨rfl, ⟨pl, by show smT v g T 3 ≤ 20000; omega⟩, ?_, ?_, fun c hc => ?_⟩
      · rw [k2, if_neg (by omega)]; simp (disch := omega) only [up_at, up_ms, up_mi, upA_at, upA_ms]
      · rw [k2, if_neg (by omega)]; simp (disch := omega) only [up_at, up_ms, up_mi, upA_at, upA_ms]
      · rw [k2, if_pos ⟨rfl, hc⟩]
        simp (disch := omega) only [up_at, up_ms, up_mi, upA_at, upA_ms]
        exact a3 c (by omega)
    cases acc with
    | none =>
      have ha : u = n32 99 := ha
      subst ha
      have lf : leaf v g none T = some (pop7 (T 3), smT v g T 3, T) := by unfold leaf; rw [if_pos s1]
      rw [lf]
      refine ⟨n32 (pop7 (T 3)), w2, fun Kc t => ?_, fr2, ar2⟩
      refine Eq.trans (f_X8_layHome_L27.eq_2 _ _ _ _ _) ?_
      simp (maxSteps := 400000) (disch := omega) only [n32_lit, n32_add, n32_mul, n32_lt, n32_le, n32_eq, n32_nat, n32_inb, gd_dec, gdE, ↓nmE, ↓jnE, ↓bsE, Nat.reduceAdd, Nat.reduceMul, Nat.reduceSub, Nat.reduceLT, Nat.reduceLeDiff, Nat.reduceEqDiff, ↓reduceIte, decide_true, decide_false, and_true, true_and, and_false, false_and, or_false, false_or, or_true, true_or, not_true_eq_false, not_false_eq_true, eq_self, Nat.zero_add, Nat.add_zero, Nat.mul_zero, Nat.mul_one, Nat.zero_le, Nat.not_lt_zero, bind_sm, bind_sm2, up_at, up_ms, up_mi, upA_at, upA_ms, h30, on1', nx, a1, s2, t3, bt, nn, show pop7 (T 3) < 99 by omega, k1]
    | some a =>
      obtain ⟨b1, b2, b3, b4, b5⟩ := ha1 _ ha
      subst b1
      by_cases q : pop7 (T 3) < a.1 ∨ (pop7 (T 3) = a.1 ∧ smT v g T 3 < a.2.1)
      · have lf : leaf v g (some a) T = some (pop7 (T 3), smT v g T 3, T) := by unfold leaf; rw [if_pos s1]; show (if _ then _ else _) = _; rw [if_pos q]
        rw [lf]
        refine ⟨n32 (pop7 (T 3)), w2, fun Kc t => ?_, fr2, ar2⟩
        refine Eq.trans (f_X8_layHome_L27.eq_2 _ _ _ _ _) ?_
        by_cases q1 : pop7 (T 3) < a.1
        · simp (maxSteps := 400000) (disch := omega) only [n32_lit, n32_add, n32_mul, n32_lt, n32_le, n32_eq, n32_nat, n32_inb, gd_dec, gdE, ↓nmE, ↓jnE, ↓bsE, Nat.reduceAdd, Nat.reduceMul, Nat.reduceSub, Nat.reduceLT, Nat.reduceLeDiff, Nat.reduceEqDiff, ↓reduceIte, decide_true, decide_false, and_true, true_and, and_false, false_and, or_false, false_or, or_true, true_or, not_true_eq_false, not_false_eq_true, eq_self, Nat.zero_add, Nat.add_zero, Nat.mul_zero, Nat.mul_one, Nat.zero_le, Nat.not_lt_zero, bind_sm, bind_sm2, up_at, up_ms, up_mi, upA_at, upA_ms, h30, on1', nx, a1, s2, t3, bt, nn, q1, k1]
        · have q2 : pop7 (T 3) = a.1 := by omega
          have q3 : ¬ a.2.1 ≤ smT v g T 3 := by omega
          simp (maxSteps := 400000) (disch := omega) only [n32_lit, n32_add, n32_mul, n32_lt, n32_le, n32_eq, n32_nat, n32_inb, gd_dec, gdE, ↓nmE, ↓jnE, ↓bsE, Nat.reduceAdd, Nat.reduceMul, Nat.reduceSub, Nat.reduceLT, Nat.reduceLeDiff, Nat.reduceEqDiff, ↓reduceIte, decide_true, decide_false, and_true, true_and, and_false, false_and, or_false, false_or, or_true, true_or, not_true_eq_false, not_false_eq_true, eq_self, Nat.zero_add, Nat.add_zero, Nat.mul_zero, Nat.mul_one, Nat.zero_le, Nat.not_lt_zero, bind_sm, bind_sm2, up_at, up_ms, up_mi, upA_at, upA_ms, h30, on1', nx, a1, s2, t3, bt, nn, q1, q2, Nat.lt_irrefl, b3, q3]
          rw [← q2, k1]
      · have lf : leaf v g (some a) T = some a := by unfold leaf; rw [if_pos s1]; show (if _ then _ else _) = _; rw [if_neg q]
        rw [lf]
        refine ⟨n32 a.1, w1, fun Kc t => ?_, a2', rfl, b2, b3, b4, b5⟩
        refine Eq.trans (f_X8_layHome_L27.eq_2 _ _ _ _ _) ?_
        have q1 : ¬ pop7 (T 3) < a.1 := by omega
        by_cases q2 : pop7 (T 3) = a.1
        · have q3 : a.2.1 ≤ smT v g T 3 := by omega
          simp (maxSteps := 400000) (disch := omega) only [n32_lit, n32_add, n32_mul, n32_lt, n32_le, n32_eq, n32_nat, n32_inb, gd_dec, gdE, ↓nmE, ↓jnE, ↓bsE, Nat.reduceAdd, Nat.reduceMul, Nat.reduceSub, Nat.reduceLT, Nat.reduceLeDiff, Nat.reduceEqDiff, ↓reduceIte, decide_true, decide_false, and_true, true_and, and_false, false_and, or_false, false_or, or_true, true_or, not_true_eq_false, not_false_eq_true, eq_self, Nat.zero_add, Nat.add_zero, Nat.mul_zero, Nat.mul_one, Nat.zero_le, Nat.not_lt_zero, bind_sm, bind_sm2, up_at, up_ms, up_mi, upA_at, upA_ms, h30, on1', nx, a1, s2, t3, bt, nn, q1, q2, Nat.lt_irrefl, b3, q3]
        · simp (maxSteps := 400000) (disch := omega) only [n32_lit, n32_add, n32_mul, n32_lt, n32_le, n32_eq, n32_nat, n32_inb, gd_dec, gdE, ↓nmE, ↓jnE, ↓bsE, Nat.reduceAdd, Nat.reduceMul, Nat.reduceSub, Nat.reduceLT, Nat.reduceLeDiff, Nat.reduceEqDiff, ↓reduceIte, decide_true, decide_false, and_true, true_and, and_false, false_and, or_false, false_or, or_true, true_or, not_true_eq_false, not_false_eq_true, eq_self, Nat.zero_add, Nat.add_zero, Nat.mul_zero, Nat.mul_one, Nat.zero_le, Nat.not_lt_zero, bind_sm, bind_sm2, up_at, up_ms, up_mi, upA_at, upA_ms, h30, on1', nx, a1, s2, t3, bt, nn, q1, q2]
  · have lf : leaf v g acc T = acc := by unfold leaf; rw [if_neg s1]
    rw [lf]
    refine ⟨u, w1, fun Kc t => ?_, a2', ha1 acc ha⟩
    refine Eq.trans (f_X8_layHome_L27.eq_2 _ _ _ _ _) ?_
    simp (maxSteps := 400000) (disch := omega) only [n32_lit, n32_add, n32_mul, n32_lt, n32_le, n32_eq, n32_nat, n32_inb, gd_dec, gdE, ↓nmE, ↓jnE, ↓bsE, Nat.reduceAdd, Nat.reduceMul, Nat.reduceSub, Nat.reduceLT, Nat.reduceLeDiff, Nat.reduceEqDiff, ↓reduceIte, decide_true, decide_false, and_true, true_and, and_false, false_and, or_false, false_or, or_true, true_or, not_true_eq_false, not_false_eq_true, eq_self, Nat.zero_add, Nat.add_zero, Nat.mul_zero, Nat.mul_one, Nat.zero_le, Nat.not_lt_zero, bind_sm, bind_sm2, up_at, up_ms, up_mi, upA_at, upA_ms, h30, on1', nx, a1, s2, t3, bt]
/-- a stretch of rows, four of a kind -/
theorem t_rows (hv : Vd v) (hg : ∀ c, g.testBit c = true → c < v 5) (hg8 : g < 8) {K : Nat} (hK : K ≤ 7) {R : Nat → Nat} : ∀ j m a, m + j = K → a < 4 ^ m → ∀ (w : Mem) (u : Int32) (acc : Acc) (t : Nat), Cn v g K R w → AR u w acc →
    ∃ u' w', (∀ Kc, f_X8_layHome_L27 Kc (t + 4 ^ j) u (n32 (a * 4 ^ j)) w = f_X8_layHome_L27 Kc t u' (n32 ((a + 1) * 4 ^ j)) w') ∧ Fr P26 w w' ∧ AR u' w' (spec v g (tl R j m) acc (Tpre R m a)) := by
  intro j
  induction j with
  | zero =>
    intro m a hm ha w u acc t hc har
    have : m = K := by omega
    subst this
    obtain ⟨u', w', e1, e2, e3⟩ := t_oneRow hv hg hg8 hK ha hc har
    refine ⟨u', w', fun Kc => ?_, e2, e3⟩
    rw [Nat.pow_zero, Nat.mul_one, Nat.mul_one]
    exact e1 Kc t
  | succ j ih =>
    intro m a hm ha w u acc t hc har
    have hpow : 4 ^ (m + 1) = 4 * 4 ^ m := by rw [Nat.pow_succ, Nat.mul_comm]
    have T0 : ∀ d, d < 4 → Tpre R (m + 1) (4 * a + d) = addT (Tpre R m a) d (R m) := by
      intro d hd
      show addT (Tpre R m ((4 * a + d) / 4)) ((4 * a + d) % 4) (R m) = _
      rw [show (4 * a + d) / 4 = a by omega, show (4 * a + d) % 4 = d by omega]
    have e4 : 4 ^ (j + 1) = 4 * 4 ^ j := by rw [Nat.pow_succ, Nat.mul_comm]
    obtain ⟨u1, w1, a1, a2, a3⟩ := ih (m + 1) (4 * a + 0) (by omega) (by omega) w u acc (t + 3 * 4 ^ j) hc har
    obtain ⟨u2, w2, b1, b2, b3⟩ := ih (m + 1) (4 * a + 1) (by omega) (by omega) w1 u1 _ (t + 2 * 4 ^ j) (hc.fr a2) a3
    obtain ⟨u3, w3, c1, c2, c3⟩ := ih (m + 1) (4 * a + 2) (by omega) (by omega) w2 u2 _ (t + 4 ^ j) (hc.fr (a2.trans b2)) b3
    obtain ⟨u4, w4, d1, d2, d3⟩ := ih (m + 1) (4 * a + 3) (by omega) (by omega) w3 u3 _ t (hc.fr (a2.trans (b2.trans c2))) c3
    refine ⟨u4, w4, fun Kc => ?_, a2.trans (b2.trans (c2.trans d2)), ?_⟩
    · generalize hq : 4 ^ j = q at *
      have x0 := a1 Kc
      have x1 := b1 Kc
      have x2 := c1 Kc
      have x3 := d1 Kc
      have r0 : t + 3 * q + q = t + 4 ^ (j + 1) := by rw [e4]; omega
      have r1 : t + 2 * q + q = t + 3 * q := by omega
      have r2 : t + q + q = t + 2 * q := by omega
      have s0 : (4 * a + 0) * q = a * 4 ^ (j + 1) := by rw [e4, Nat.add_zero, Nat.mul_comm 4 a, Nat.mul_assoc]
      have s1 : 4 * a + 0 + 1 = 4 * a + 1 := rfl
      have s2 : 4 * a + 1 + 1 = 4 * a + 2 := rfl
      have s3 : 4 * a + 2 + 1 = 4 * a + 3 := rfl
      have s4 : (4 * a + 3 + 1) * q = (a + 1) * 4 ^ (j + 1) := by rw [e4, show 4 * a + 3 + 1 = (a + 1) * 4 by omega, Nat.mul_assoc]
      rw [r0, s0, s1] at x0
      rw [r1, s2] at x1
      rw [r2, s3] at x2
      rw [s4] at x3
      rw [x0, x1, x2, x3]
    · rw [T0 3 (by omega)] at d3
      rw [T0 2 (by omega)] at d3
      rw [T0 1 (by omega)] at d3
      rw [T0 0 (by omega)] at d3
      exact d3
theorem t_layHome (h : Sh (w 6) v) (hv : Vd v) {mn : Nat} (hm : mn ≤ 600) : ∃ w', f_X8_layHome w (n32 mn) = some w' ∧ Fr (fun s i => P26 s i ∨ P22 s i ∨ P30 s i ∨ (s = 0 ∧ i = 27)) w w' ∧ w' 0 27 = n32 (gs v mn (v 5)) ∧ (∀ c, c < 3 → ∀ X, X < 128 → w' 22 (128 * c + X) = tkv v (gs v mn (v 5)) c X) ∧ ∃ u, AR u w' (spec v (gs v mn (v 5)) (rdl v (gs v mn (v 5)) (v 4)) none (fun _ => 0)) := by
  have h4 := hv.1.1
  have h5 := hv.1.2.1
  have e1 := t_goingAt h hv hm
  have hg8 : gs v mn (v 5) < 8 := gs_lt8 h5
  have hg : ∀ c, (gs v mn (v 5)).testBit c = true → c < v 5 := fun c hc => by
    rw [gs_bit] at hc
    simp at hc
    exact hc.1
  generalize gs v mn (v 5) = g at *
  unfold f_X8_layHome
  rw [e1]
  have sh1 : Sh ((up w 0 27 (n32 g)) 6) v := by rw [up_row _ _ _ _ _ (by decide)]; exact h
  obtain ⟨w1, a1, a2, a3, a4⟩ := t_layRiders sh1 hv hg8 (up_at _ _ _ _)
  have sh2 : Sh (w1 6) v := by rw [a2.row 6 (fun i => by unfold P30; omega)]; exact sh1
  have w127 : w1 0 27 = n32 g := by rw [a2 0 27 (by unfold P30; omega)]; exact up_at _ _ _ _
  obtain ⟨w2, b1, b2, b3⟩ := t_layTakes sh2 hv hg hg8 w127
  have ll := rdl_len (v := v) (g := g) (v 4)
  have cn : Cn v g (rdl v g (v 4)).length (fun k => (rdl v g (v 4)).getD k 0) (up w2 0 28 (n32 0)) := by
    refine ⟨?_, ?_, fun k hk => ⟨(rdl_mem (getD_mem hk)).1, ?_⟩, fun c hc X hX => ?_⟩
    · simp (disch := omega) only [up_at, up_ms, up_mi, upA_at, upA_ms]; rw [b2 0 27 (by unfold P22; omega)]; exact w127
    · simp (disch := omega) only [up_at, up_ms, up_mi, upA_at, upA_ms]; rw [b2 0 30 (by unfold P22; omega)]; exact a3
    · simp (disch := omega) only [up_at, up_ms, up_mi, upA_at, upA_ms]; rw [b2 30 k (by unfold P22; omega)]; exact a4 k hk
    · simp (disch := omega) only [up_at, up_ms, up_mi, upA_at, upA_ms]; exact b3 c hc X hX
  have k4 : 4 ^ (rdl v g (v 4)).length ≤ 16384 := by
    have : 4 ^ (rdl v g (v 4)).length ≤ 4 ^ 7 := Nat.pow_le_pow_right (by omega) (by omega)
    omega
  obtain ⟨u, w3, c1, c2, c3⟩ := t_rows hv hg hg8 (K := (rdl v g (v 4)).length) (by omega) (R := fun k => (rdl v g (v 4)).getD k 0) (rdl v g (v 4)).length 0 0 (by omega) (by omega) (up w2 0 28 (n32 0)) (n32 99) none (100000 - 4 ^ (rdl v g (v 4)).length) cn rfl
  have tle : tl (fun k => (rdl v g (v 4)).getD k 0) (rdl v g (v 4)).length 0 = rdl v g (v 4) := by
    rw [tl_map]
    simp only [Nat.zero_add]
    exact list_range_getD _
  rw [tle] at c3
  have cn3 := cn.fr c2
  refine ⟨w3, ?_, ?_, cn3.1, cn3.2.2.2, u, c3⟩
  · have c1' := c1 (fun (u36 : Int32) (u37 : Int32) (w38 : Mem) => (some w38))
    rw [show 100000 - 4 ^ (rdl v g (v 4)).length + 4 ^ (rdl v g (v 4)).length = 100000 by omega, Nat.zero_mul, Nat.zero_add, Nat.one_mul] at c1'
    have on1 : n32 1 <<< (n32 (2 * (rdl v g (v 4)).length) &&& n32 31) = n32 (4 ^ (rdl v g (v 4)).length) := by rw [n32_one (by omega), pow4]
    have fin : f_X8_layHome_L27 (fun (u36 : Int32) (u37 : Int32) (w38 : Mem) => (some w38)) (100000 - 4 ^ (rdl v g (v 4)).length) u (n32 (4 ^ (rdl v g (v 4)).length)) w3 = some w3 := by
      obtain ⟨t, ht⟩ : ∃ t, 100000 - 4 ^ (rdl v g (v 4)).length = t + 1 := ⟨100000 - 4 ^ (rdl v g (v 4)).length - 1, by omega⟩
      rw [ht, f_X8_layHome_L27.eq_2]
      simp (maxSteps := 400000) (disch := omega) only [n32_lit, n32_add, n32_mul, n32_lt, n32_le, n32_eq, n32_nat, n32_inb, gd_dec, gdE, ↓nmE, ↓jnE, ↓bsE, Nat.reduceAdd, Nat.reduceMul, Nat.reduceSub, Nat.reduceLT, Nat.reduceLeDiff, Nat.reduceEqDiff, ↓reduceIte, decide_true, decide_false, and_true, true_and, and_false, false_and, or_false, false_or, or_true, true_or, not_true_eq_false, not_false_eq_true, eq_self, Nat.zero_add, Nat.add_zero, Nat.mul_zero, Nat.mul_one, Nat.zero_le, Nat.not_lt_zero, bind_sm, bind_sm2, cn3.2.1, on1, Nat.le_refl]
    simp (maxSteps := 400000) (disch := omega) only [n32_lit, n32_add, n32_mul, n32_lt, n32_le, n32_eq, n32_nat, n32_inb, gd_dec, gdE, ↓nmE, ↓jnE, ↓bsE, Nat.reduceAdd, Nat.reduceMul, Nat.reduceSub, Nat.reduceLT, Nat.reduceLeDiff, Nat.reduceEqDiff, ↓reduceIte, decide_true, decide_false, and_true, true_and, and_false, false_and, or_false, false_or, or_true, true_or, not_true_eq_false, not_false_eq_true, eq_self, Nat.zero_add, Nat.add_zero, Nat.mul_zero, Nat.mul_one, Nat.zero_le, Nat.not_lt_zero, bind_sm, bind_sm2, a1, b1]
    rw [c1', fin]
  · intro s i hn
    have n1 : ¬ P26 s i := fun q => hn (Or.inl q)
    have n2 : ¬ P22 s i := fun q => hn (Or.inr (Or.inl q))
    have n3 : ¬ P30 s i := fun q => hn (Or.inr (Or.inr (Or.inl q)))
    have n4 : ¬ (s = 0 ∧ i = 27) := fun q => hn (Or.inr (Or.inr (Or.inr q)))
    have n5 : ¬ (s = 0 ∧ i = 28) := fun q => n1 (by unfold P26; omega)
    rw [c2 s i n1, up_ap, if_neg n5, b2 s i n2, a2 s i n3, up_ap, if_neg n4]
end EV
