/-! drink, undo -/
def vset (v : Nat → Nat) (i g : Nat) : Nat → Nat := fun j => if j = i then g else v j
theorem vset_at (v : Nat → Nat) (i g : Nat) : vset v i g i = g := by unfold vset; rw [if_pos rfl]
theorem vset_ne {v : Nat → Nat} {i g j : Nat} (h : j ≠ i) : vset v i g j = v j := by unfold vset; rw [if_neg h]
/-- alike but for the glasses -/
def Gl (v v' : Nat → Nat) : Prop := ∀ i, (∀ p, p < 7 → i ≠ 72 + 4 * p + 2) → v' i = v i
theorem gl_vset {v : Nat → Nat} {p g : Nat} (hp : p < 7) : Gl v (vset v (72 + 4 * p + 2) g) := fun i h => vset_ne (h p hp)
theorem vd_glass {v : Nat → Nat} (hv : Vd v) {p g : Nat} (hp : p < v 4) (hg : g ≤ 99) : Vd (vset v (72 + 4 * p + 2) g) := by
  obtain ⟨⟨h4, h5, h0, h1, h6, h7, hP, hC⟩, hF1, hF2⟩ := hv
  have ne : ∀ j, j ≠ 72 + 4 * p + 2 → vset v (72 + 4 * p + 2) g j = v j := fun j h => vset_ne h
  refine ⟨⟨?_, ?_, ?_, ?_, ?_, ?_, ?_, ?_⟩, ?_, ?_⟩
  · rw [ne 4 (by omega)]; exact h4
  · rw [ne 5 (by omega)]; exact h5
  · rw [ne 0 (by omega)]; exact h0
  · rw [ne 1 (by omega)]; exact h1
  · rw [ne 6 (by omega)]; exact h6
  · rw [ne 7 (by omega)]; exact h7
  · intro q hq
    rw [ne 4 (by omega)] at hq
    obtain ⟨k1, k2, k3, k4, k5, k6, k7, k8⟩ := hP q hq
    unfold VdP
    rw [ne (72 + 4 * q) (by omega), ne (72 + 4 * q + 1) (by omega), ne (72 + 4 * q + 3) (by omega), ne 4 (by omega)]
    refine ⟨k1, k2, k3, k4, ?_, k6, k7, ?_⟩
    · by_cases z : q = p
      · subst z; rw [vset_at]; exact hg
      · rw [ne _ (by omega)]; exact k5
    · intro r hr
      rw [ne (72 + 4 * r + 3) (by omega)]
      exact k8 r hr
  · intro c hc
    rw [ne 5 (by omega)] at hc
    obtain ⟨k1, k2, k3, k4, k5⟩ := hC c hc
    unfold VdC
    rw [ne (100 + 3 * c) (by omega), ne (100 + 3 * c + 1) (by omega), ne (100 + 3 * c + 2) (by omega), ne 4 (by omega), ne 5 (by omega)]
    refine ⟨k1, k2, k3, k4, ?_⟩
    intro c' hc'
    rw [ne (100 + 3 * c') (by omega)]
    exact k5 c' hc'
  · intro a b ha hb
    rw [ne _ (by omega)]; exact hF1 a b ha hb
  · intro a b ha hb
    rw [ne _ (by omega), ne _ (by omega), ne _ (by omega)]; exact hF2 a b ha hb
theorem cl_glass {m1 : Mem} {v : Nat → Nat} (h : Cl m1 v) (hv : Vd v) {p g : Nat} (hp : p < v 4) : Cl (up m1 14 p (n32 g)) (vset v (72 + 4 * p + 2) g) := by
  obtain ⟨⟨h4, h5, -⟩, -⟩ := hv
  have ne : ∀ j, j ≠ 72 + 4 * p + 2 → vset v (72 + 4 * p + 2) g j = v j := fun j h => vset_ne h
  obtain ⟨⟨c1, c2, c3, c4, c5, c6, ⟨s, s1, s2, s3⟩, c8, c9⟩, cF⟩ := h
  have m : ∀ s' j, s' ≠ 14 → up m1 14 p (n32 g) s' j = m1 s' j := fun s' j h => up_ms h
  refine ⟨⟨?_, ?_, ?_, ?_, ?_, ?_, ⟨s, s1, ?_, ?_⟩, ?_, ?_⟩, ?_⟩
  · rw [m _ _ (by omega), ne 0 (by omega)]; exact c1
  · rw [m _ _ (by omega), ne 1 (by omega)]; exact c2
  · rw [m _ _ (by omega), ne 6 (by omega)]; exact c3
  · rw [m _ _ (by omega), ne 4 (by omega)]; exact c4
  · rw [m _ _ (by omega), ne 5 (by omega)]; exact c5
  · rw [m _ _ (by omega), ne 7 (by omega)]; exact c6
  · rw [m _ _ (by omega)]; exact s2
  · intro q hq
    rw [ne 4 (by omega), ne _ (by omega)]; exact s3 q hq
  · intro q hq
    rw [ne 4 (by omega)] at hq
    obtain ⟨a1, a2, a3, a4⟩ := c8 q hq
    rw [m 12 _ (by omega), m 13 _ (by omega), m 15 _ (by omega), ne (72 + 4 * q) (by omega), ne (72 + 4 * q + 1) (by omega), ne (72 + 4 * q + 3) (by omega)]
    refine ⟨a1, a2, ?_, a4⟩
    by_cases z : q = p
    · subst z; rw [vset_at, up_at]
    · rw [ne _ (by omega), up_mi z]; exact a3
  · intro c hc
    rw [ne 5 (by omega)] at hc
    obtain ⟨a1, a2, a3⟩ := c9 c hc
    rw [m _ _ (by omega), m _ _ (by omega), m _ _ (by omega), ne (100 + 3 * c) (by omega), ne (100 + 3 * c + 1) (by omega), ne (100 + 3 * c + 2) (by omega)]
    exact ⟨a1, a2, a3⟩
  · intro i hi
    rw [m _ _ (by omega), ne _ (by omega)]; exact cF i hi
theorem ev_glass {e : Nat → Int32} {told : Int32} {m1 : Mem} {v : Nat → Nat} (hE : REv e told m1 v) {p g : Nat} (hp : p < v 4) (hg : g ≤ 99) {e' : Nat → Int32} (he : ∀ i, e' i = if i = 72 + 4 * p + 2 then n32 g else e i) : REv e' told (up m1 14 p (n32 g)) (vset v (72 + 4 * p + 2) g) := by
  obtain ⟨h1, hv, hc, ht, ht2⟩ := hE
  refine ⟨?_, vd_glass hv hp hg, cl_glass hc hv hp, ?_, ht2⟩
  · intro i hi
    rw [he]
    unfold vset
    by_cases z : i = 72 + 4 * p + 2
    · rw [if_pos z, if_pos z]
    · rw [if_neg z, if_neg z]; exact h1 i hi
  · rw [up_ms (by omega)]; exact ht
def DD (v : Nat → Nat) (n : Nat) (wn an : Nat → Nat) (who many : Nat → Int32) (m6 : Mem) : Prop := ∀ i, i < n → wn i < v 4 ∧ an i ≤ 9 ∧ who i = n32 (wn i) ∧ many i = n32 (an i) ∧ m6 1 i = n32 (wn i) ∧ m6 2 i = n32 (an i)
theorem dsum_shift (w a : Nat → Nat) (p : Nat) : ∀ n, dsum w a p (n + 1) = (if w 0 = p then a 0 else 0) + dsum (fun i => w (i + 1)) (fun i => a (i + 1)) p n
  | 0 => by unfold dsum dsum; omega
  | n + 1 => by
    rw [dsum, dsum_shift w a p n, dsum]
    omega
theorem dsum_congr {w a w' a' : Nat → Nat} {p : Nat} : ∀ n, (∀ i, i < n → w i = w' i ∧ a i = a' i) → dsum w a p n = dsum w' a' p n
  | 0, _ => rfl
  | n + 1, h => by
    rw [dsum, dsum, dsum_congr n (fun i hi => h i (by omega)), (h n (by omega)).1, (h n (by omega)).2]
def PDr (s i : Nat) : Prop := s = 9 ∨ s = 10 ∨ s = 6 ∨ (s = 0 ∧ i = 10)
def DrStep (f7 : Option (Int32 × Mem × Mem)) (f8 : Option (Int32 × Mem)) (w : Mem) (v : Nat → Nat) : Prop :=
  ∃ (a : Int32) (m1' m6' w' : Mem) (v' : Nat → Nat), f7 = some (a, m1', m6') ∧ f8 = some (a, w') ∧ Fr PDr w w' ∧ Gl v v' ∧ REv (w' 6) (w' 0 7) m1' v' ∧ RDr (w' 0 10) (w' 9) (w' 10) m6' v'
theorem t_shift (w : Mem) : ∃ w', (∀ k, f_X8_drink_L58 k 100000 (n32 1) w = k (n32 24) w') ∧ ∀ s j, w' s j = if (s = 9 ∨ s = 10) ∧ j + 1 < 24 then w s (j + 1) else w s j := by
  have key : ∀ d i s t, i + d = 24 → 1 ≤ i → d < t → (∀ s' j, s s' j = if (s' = 9 ∨ s' = 10) ∧ j + 1 < i then w s' (j + 1) else w s' j) → ∃ w', (∀ k, f_X8_drink_L58 k t (n32 i) s = k (n32 24) w') ∧ ∀ s j, w' s j = if (s = 9 ∨ s = 10) ∧ j + 1 < 24 then w s (j + 1) else w s j := by
    intro d
    induction d with
    | zero =>
      intro i s t h1 h0 h2 h3
      obtain ⟨t, rfl⟩ : ∃ u, t = u + 1 := ⟨t - 1, by omega⟩
      have : i = 24 := by omega
      subst this
      refine ⟨s, fun k => ?_, h3⟩
      rw [f_X8_drink_L58.eq_2]
      simp (disch := omega) only [n32_lit, n32_add, n32_mul, n32_lt, n32_le, n32_eq, n32_nat, n32_inb, gd_dec, gd_one, nm_eq, jn_eq, Option.bind_some, Nat.reduceAdd, Nat.reduceMul, Nat.reduceSub, Nat.reduceLT, Nat.reduceLeDiff, Nat.reduceEqDiff, ↓reduceIte, decide_true, decide_false, and_true, true_and, and_false, false_and, or_false, false_or, or_true, true_or, not_true_eq_false, not_false_eq_true, eq_self, Nat.zero_add, Nat.add_zero, Nat.mul_zero, Nat.mul_one, Nat.zero_le, Nat.not_lt_zero, bind_sm, bind_sm2]
    | succ d ih =>
      intro i s t h1 h0 h2 h3
      obtain ⟨t, rfl⟩ : ∃ u, t = u + 1 := ⟨t - 1, by omega⟩
      have e1 : n32 i - n32 1 = n32 (i - 1) := n32_sub h0
      have f9 := h3 9 i
      have f10 := h3 10 i
      rw [if_neg (by omega)] at f9 f10
      have hnew : ∀ s' j, (up (up s 9 (i - 1) (w 9 i)) 10 (i - 1) (w 10 i)) s' j = if (s' = 9 ∨ s' = 10) ∧ j + 1 < i + 1 then w s' (j + 1) else w s' j := by
        intro s' j
        rw [up_ap, up_ap, h3]
        by_cases z : j = i - 1
        · subst z
          rw [show i - 1 + 1 = i by omega]
          by_cases z9 : s' = 9
          · subst z9
            rw [if_neg (by omega), if_pos (by omega), if_pos (by omega)]
          · by_cases z10 : s' = 10
            · subst z10
              rw [if_pos (by omega), if_pos (by omega)]
            · rw [if_neg (by omega), if_neg (by omega), if_neg (by omega), if_neg (by omega)]
        · rw [if_neg (by omega), if_neg (by omega)]
          by_cases q : (s' = 9 ∨ s' = 10) ∧ j + 1 < i
          · rw [if_pos q, if_pos (by omega)]
          · rw [if_neg q, if_neg (by omega)]
      obtain ⟨w', j1, j2⟩ := ih (i + 1) (up (up s 9 (i - 1) (w 9 i)) 10 (i - 1) (w 10 i)) t (by omega) (by omega) (by omega) hnew
      refine ⟨w', fun k => ?_, j2⟩
      rw [f_X8_drink_L58.eq_2, ← j1 k]
      simp (disch := omega) only [n32_lit, n32_add, n32_mul, n32_lt, n32_le, n32_eq, n32_nat, n32_inb, gd_dec, gd_one, nm_eq, jn_eq, Option.bind_some, Nat.reduceAdd, Nat.reduceMul, Nat.reduceSub, Nat.reduceLT, Nat.reduceLeDiff, Nat.reduceEqDiff, ↓reduceIte, decide_true, decide_false, and_true, true_and, and_false, false_and, or_false, false_or, or_true, true_or, not_true_eq_false, not_false_eq_true, eq_self, Nat.zero_add, Nat.add_zero, Nat.mul_zero, Nat.mul_one, Nat.zero_le, Nat.not_lt_zero, bind_sm, bind_sm2, up_at, up_ms, up_mi, upA_at, upA_ms, show ¬ 24 ≤ i by omega, e1, show i < 24 by omega, show i - 1 < 24 by omega, f9, f10]
  exact key 23 1 w 100000 (by omega) (by omega) (by omega) (fun s j => by rw [if_neg (by omega)])
theorem t_keep7 {m6 : Mem} {n p k : Nat} (hn : n < 24) (e : m6 0 2 = n32 n) : f_X2_keep m6 (n32 p) (n32 k) = some (up (up (up m6 1 n (n32 p)) 2 n (n32 k)) 0 2 (n32 (n + 1))) := by
  unfold f_X2_keep
  simp (maxSteps := 400000) (disch := omega) only [n32_lit, n32_add, n32_mul, n32_lt, n32_le, n32_eq, n32_nat, n32_inb, gd_dec, gdE, ↓nmE, ↓jnE, ↓bsE, Nat.reduceAdd, Nat.reduceMul, Nat.reduceSub, Nat.reduceLT, Nat.reduceLeDiff, Nat.reduceEqDiff, ↓reduceIte, decide_true, decide_false, and_true, true_and, and_false, false_and, or_false, false_or, or_true, true_or, not_true_eq_false, not_false_eq_true, eq_self, Nat.zero_add, Nat.add_zero, Nat.mul_zero, Nat.mul_one, Nat.zero_le, Nat.not_lt_zero, bind_sm, bind_sm2, up_at, up_ms, up_mi, upA_at, upA_ms, e, show ¬ n = 24 by omega, hn]
def m6s (m6 : Mem) : Mem := up (upA (upA m6 1 (va_cpy (m6 1) (m6 1) 1 0 23)) 2 (va_cpy (m6 2) (m6 2) 1 0 23)) 0 2 (n32 23)
theorem t_keep7s {m6 : Mem} {p k : Nat} (e : m6 0 2 = n32 24) : f_X2_keep m6 (n32 p) (n32 k) = some (up (up (up (m6s m6) 1 23 (n32 p)) 2 23 (n32 k)) 0 2 (n32 24)) := by
  have c1 : cpok (n32 1) (n32 0) (n32 23) 24 24 = true := cpok_n (by omega) (by omega) (by omega) (by omega) (by omega)
  have c2 : n32 24 - n32 1 = n32 23 := n32_sub (by omega)
  have c3 : upA m6 1 (va_cpy (m6 1) (m6 1) 1 0 23) 2 = m6 2 := upA_row _ _ _ _ (by decide)
  unfold f_X2_keep m6s
  rw [jn_eq, e]
  have c0 : n32 24 = (24 : Int32) := rfl
  rw [if_pos c0]
  have c1' : cpok 1 0 23 24 24 = true := c1
  rw [c1']
  simp only [gd_one, nm_eq]
  have k1 : (1 : Int32).toNatClampNeg = 1 := n32_nat (by decide)
  have k0 : (0 : Int32).toNatClampNeg = 0 := n32_nat (by decide)
  have k23 : (23 : Int32).toNatClampNeg = 23 := n32_nat (by decide)
  rw [k1, k0, k23, c3]
  simp (disch := omega) only [up_at, up_ms, up_mi, upA_at, upA_ms, e]
  have c2' : n32 24 - 1 = n32 23 := c2
  rw [c2', n32_nat (by decide), n32_inb (by decide)]
  simp (maxSteps := 400000) (disch := omega) only [n32_lit, n32_add, n32_mul, n32_lt, n32_le, n32_eq, n32_nat, n32_inb, gd_dec, gdE, ↓nmE, ↓jnE, ↓bsE, Nat.reduceAdd, Nat.reduceMul, Nat.reduceSub, Nat.reduceLT, Nat.reduceLeDiff, Nat.reduceEqDiff, ↓reduceIte, decide_true, decide_false, and_true, true_and, and_false, false_and, or_false, false_or, or_true, true_or, not_true_eq_false, not_false_eq_true, eq_self, Nat.zero_add, Nat.add_zero, Nat.mul_zero, Nat.mul_one, Nat.zero_le, Nat.not_lt_zero, bind_sm, bind_sm2, up_at, up_ms, up_mi, upA_at, upA_ms]
theorem t_drink8 {m0 w : Mem} (hw : up m0 0 0 0 = w) {n p k g : Nat} (hp : p < 7) (hk : 1 ≤ k) (hk9 : k ≤ 9) (e1 : f_X8_isPerson w (n32 p) = some (n32 1)) (e2 : f_X8_of w (n32 p) (n32 2) = some (n32 g)) (hg : g + k ≤ 99) (hn : n < 24) (e : w 0 10 = n32 n) : f_X8_drink m0 (n32 p) (n32 k) = some (n32 (g + k), up (up (up (up w 9 n (n32 p)) 10 n (n32 k)) 0 10 (n32 (n + 1))) 6 (72 + 4 * p + 2) (n32 (g + k))) := by
  have e0 : f_X8_in (n32 k).toInt64 1 9 = some (if n32 1 ≤ n32 k ∧ n32 k ≤ n32 9 then n32 1 else n32 0) := t_in (a := 1) (b := 9)
  unfold f_X8_drink
  rw [hw, nm_eq w, e1, e0]
  simp (maxSteps := 400000) (disch := omega) only [n32_lit, n32_add, n32_mul, n32_lt, n32_le, n32_eq, n32_nat, n32_inb, gd_dec, gdE, ↓nmE, ↓jnE, ↓bsE, Nat.reduceAdd, Nat.reduceMul, Nat.reduceSub, Nat.reduceLT, Nat.reduceLeDiff, Nat.reduceEqDiff, ↓reduceIte, decide_true, decide_false, and_true, true_and, and_false, false_and, or_false, false_or, or_true, true_or, not_true_eq_false, not_false_eq_true, eq_self, Nat.zero_add, Nat.add_zero, Nat.mul_zero, Nat.mul_one, Nat.zero_le, Nat.not_lt_zero, bind_sm, bind_sm2, up_at, up_ms, up_mi, upA_at, upA_ms, e2, hk, hk9, hg, e, show ¬ n = 24 by omega, hn, show 72 + 4 * p + 2 < 109 by omega]
theorem t_drink8s {m0 w : Mem} (hw : up m0 0 0 0 = w) {p k g : Nat} (hp : p < 7) (hk : 1 ≤ k) (hk9 : k ≤ 9) (e1 : f_X8_isPerson w (n32 p) = some (n32 1)) (e2 : f_X8_of w (n32 p) (n32 2) = some (n32 g)) (hg : g + k ≤ 99) (e : w 0 10 = n32 24) {w' : Mem} (f1 : ∀ k, f_X8_drink_L58 k 100000 (n32 1) w = k (n32 24) w') (g1 : w' 0 10 = n32 24) : f_X8_drink m0 (n32 p) (n32 k) = some (n32 (g + k), up (up (up (up (up w' 0 10 (n32 23)) 9 23 (n32 p)) 10 23 (n32 k)) 0 10 (n32 24)) 6 (72 + 4 * p + 2) (n32 (g + k))) := by
  have e0 : f_X8_in (n32 k).toInt64 1 9 = some (if n32 1 ≤ n32 k ∧ n32 k ≤ n32 9 then n32 1 else n32 0) := t_in (a := 1) (b := 9)
  have c2 : n32 24 - n32 1 = n32 23 := n32_sub (by omega)
  unfold f_X8_drink
  rw [hw, nm_eq w, e1, e0]
  simp (maxSteps := 400000) (disch := omega) only [n32_lit, n32_add, n32_mul, n32_lt, n32_le, n32_eq, n32_nat, n32_inb, gd_dec, gdE, ↓nmE, ↓jnE, ↓bsE, Nat.reduceAdd, Nat.reduceMul, Nat.reduceSub, Nat.reduceLT, Nat.reduceLeDiff, Nat.reduceEqDiff, ↓reduceIte, decide_true, decide_false, and_true, true_and, and_false, false_and, or_false, false_or, or_true, true_or, not_true_eq_false, not_false_eq_true, eq_self, Nat.zero_add, Nat.add_zero, Nat.mul_zero, Nat.mul_one, Nat.zero_le, Nat.not_lt_zero, bind_sm, bind_sm2, e2, hk, hk9, hg, e, f1, g1, c2]
  simp (maxSteps := 400000) (disch := omega) only [n32_lit, n32_add, n32_mul, n32_lt, n32_le, n32_eq, n32_nat, n32_inb, gd_dec, gdE, ↓nmE, ↓jnE, ↓bsE, Nat.reduceAdd, Nat.reduceMul, Nat.reduceSub, Nat.reduceLT, Nat.reduceLeDiff, Nat.reduceEqDiff, ↓reduceIte, decide_true, decide_false, and_true, true_and, and_false, false_and, or_false, false_or, or_true, true_or, not_true_eq_false, not_false_eq_true, eq_self, Nat.zero_add, Nat.add_zero, Nat.mul_zero, Nat.mul_one, Nat.zero_le, Nat.not_lt_zero, bind_sm, bind_sm2, up_at, up_ms, up_mi, upA_at, upA_ms, show 72 + 4 * p + 2 < 109 by omega]
theorem dr_fin {w m1 : Mem} {v : Nat → Nat} (hE : REv (w 6) (w 0 7) m1 v) {p k : Nat} (hp : p < v 4) (hk : k ≤ 9) (q3 : v (72 + 4 * p + 2) + k ≤ 99) {n : Nat} {wn an : Nat → Nat} {W m6 : Mem} (hn : n < 24) (hF : Fr PDr w W) (h6 : W 6 = w 6) (g3 : DD v n wn an (W 9) (W 10) m6) (g4 : ∀ q, q < v 4 → dsum wn an q n ≤ v (72 + 4 * q + 2)) :
    DrStep (some (n32 (v (72 + 4 * p + 2) + k), up m1 14 p (n32 (v (72 + 4 * p + 2) + k)), up (up (up m6 1 n (n32 p)) 2 n (n32 k)) 0 2 (n32 (n + 1)))) (some (n32 (v (72 + 4 * p + 2) + k), up (up (up (up W 9 n (n32 p)) 10 n (n32 k)) 0 10 (n32 (n + 1))) 6 (72 + 4 * p + 2) (n32 (v (72 + 4 * p + 2) + k)))) w v := by
  have h7 : v 4 ≤ 7 := hE.2.1.1.1
  refine ⟨_, _, _, _, vset v (72 + 4 * p + 2) (v (72 + 4 * p + 2) + k), rfl, rfl, ?_, gl_vset (by omega), ?_, ?_⟩
  · exact (((hF.up 9 _ _ (Or.inl rfl)).up 10 _ _ (Or.inr (Or.inl rfl))).up 0 10 _ (Or.inr (Or.inr (Or.inr ⟨rfl, rfl⟩)))).up 6 _ _ (Or.inr (Or.inr (Or.inl rfl)))
  · simp (disch := omega) only [up_at, up_ms, up_mi, upA_at, upA_ms, hF 0 7 (by unfold PDr; omega)]
    refine ev_glass hE hp q3 ?_
    intro i
    rw [up_ap]
    by_cases z : i = 72 + 4 * p + 2
    · rw [if_pos ⟨rfl, z⟩, if_pos z]
    · rw [if_neg (fun q => z q.2), if_neg z]
      simp (disch := omega) only [up_at, up_ms, up_mi, upA_at, upA_ms]
      rw [h6]
  · have e9 : ∀ j, (up (up (up (up W 9 n (n32 p)) 10 n (n32 k)) 0 10 (n32 (n + 1))) 6 (72 + 4 * p + 2) (n32 (v (72 + 4 * p + 2) + k))) 9 j = if j = n then n32 p else W 9 j := by
      intro j
      by_cases z : j = n
      · subst z; rw [if_pos rfl]; simp (disch := omega) only [up_at, up_ms, up_mi, upA_at, upA_ms]
      · rw [if_neg z]; simp (disch := omega) only [up_at, up_ms, up_mi, upA_at, upA_ms]
    have e10 : ∀ j, (up (up (up (up W 9 n (n32 p)) 10 n (n32 k)) 0 10 (n32 (n + 1))) 6 (72 + 4 * p + 2) (n32 (v (72 + 4 * p + 2) + k))) 10 j = if j = n then n32 k else W 10 j := by
      intro j
      by_cases z : j = n
      · subst z; rw [if_pos rfl]; simp (disch := omega) only [up_at, up_ms, up_mi, upA_at, upA_ms]
      · rw [if_neg z]; simp (disch := omega) only [up_at, up_ms, up_mi, upA_at, upA_ms]
    refine ⟨n + 1, vset wn n p, vset an n k, by omega, ?_, ?_, ?_, ?_⟩
    · simp (disch := omega) only [up_at, up_ms, up_mi, upA_at, upA_ms]
    · simp (disch := omega) only [up_at, up_ms, up_mi, upA_at, upA_ms]
    · intro i hi
      rw [vset_ne (show 4 ≠ 72 + 4 * p + 2 by omega), e9, e10]
      by_cases z : i = n
      · subst z
        rw [if_pos rfl, if_pos rfl, vset_at, vset_at]
        simp (disch := omega) only [up_at, up_ms, up_mi, upA_at, upA_ms]
        exact ⟨hp, hk, trivial, trivial, trivial, trivial⟩
      · rw [if_neg z, if_neg z, vset_ne z, vset_ne z]
        simp (disch := omega) only [up_at, up_ms, up_mi, upA_at, upA_ms]
        exact g3 i (by omega)
    · intro q hq
      rw [vset_ne (show 4 ≠ 72 + 4 * p + 2 by omega)] at hq
      rw [dsum, vset_at, vset_at, dsum_congr (w' := wn) (a' := an) n (fun i hi => ⟨vset_ne (by omega), vset_ne (by omega)⟩)]
      have := g4 q hq
      by_cases z : q = p
      · subst z
        rw [vset_at, if_pos rfl]; omega
      · rw [vset_ne (by omega), if_neg (by omega)]; omega
theorem s_drink {m0 m1 m6 : Mem} {v : Nat → Nat} (hE : REv ((up m0 0 0 0) 6) ((up m0 0 0 0) 0 7) m1 v) (hD : RDr ((up m0 0 0 0) 0 10) ((up m0 0 0 0) 9) ((up m0 0 0 0) 10) m6 v) (x y : Int32) : DrStep (f_X7_drink m1 m6 x y) (f_X8_drink m0 x y) (up m0 0 0 0) v := by
  generalize hw : up m0 0 0 0 = w at *
  have none : ∀ a, DrStep (some (a, m1, m6)) (some (a, w)) w v := fun a => ⟨a, m1, m6, w, v, rfl, rfl, Fr.refl, fun _ _ => rfl, hE, hD⟩
  have hE' := hE
  obtain ⟨h1, hv, hc, ht, ht2⟩ := hE'
  rcases b_person hE x with ⟨p, hp, rfl, e1, e2⟩ | ⟨e1, e2⟩
  · have h7 : v 4 ≤ 7 := hv.1.1
    obtain ⟨a1, a2, a3, a4⟩ := hc.1.2.2.2.2.2.2.2.1 p hp
    have hg := (hv.1.2.2.2.2.2.2.1 p hp).2.2.2.2.1
    have e4 := t_of (k := 2) h1 (p := p) (by omega) (by omega)
    have e0 : f_X8_in y.toInt64 1 9 = some (if n32 1 ≤ y ∧ y ≤ n32 9 then n32 1 else n32 0) := t_in (a := 1) (b := 9)
    by_cases q1 : y < n32 1
    · have c : (n32 1 ≤ y ∧ y ≤ n32 9) = False := eq_false (fun q => by have := q.1; rw [← i32_nlt] at this; exact this q1)
      unfold f_X7_drink f_X8_drink
      rw [hw, nm_eq w, e1, e2, e0]
      simp (maxSteps := 400000) (disch := omega) only [n32_lit, n32_add, n32_mul, n32_lt, n32_le, n32_eq, n32_nat, n32_inb, gd_dec, gdE, ↓nmE, ↓jnE, ↓bsE, Nat.reduceAdd, Nat.reduceMul, Nat.reduceSub, Nat.reduceLT, Nat.reduceLeDiff, Nat.reduceEqDiff, ↓reduceIte, decide_true, decide_false, and_true, true_and, and_false, false_and, or_false, false_or, or_true, true_or, not_true_eq_false, not_false_eq_true, eq_self, Nat.zero_add, Nat.add_zero, Nat.mul_zero, Nat.mul_one, Nat.zero_le, Nat.not_lt_zero, bind_sm, bind_sm2, q1, c]
      exact none _
    · by_cases q2 : y ≤ n32 9
      · obtain ⟨k, hk, rfl⟩ : ∃ n, n ≤ 9 ∧ y = n32 n := by
          rcases tri y (k := 9) (by decide) with h | h | h
          · exact h
          · exact absurd h (fun q => q1 (by rw [Int32.lt_iff_toInt_lt] at q ⊢; have : (n32 0).toInt = 0 := rfl; have : (n32 1).toInt = 1 := rfl; omega))
          · exact absurd q2 (by rw [i32_nle]; exact h)
        have hk1 : 1 ≤ k := by rw [n32_lt (by omega) (by decide)] at q1; omega
        by_cases q3 : v (72 + 4 * p + 2) + k ≤ 99
        · have f7 : ∀ m6', f_X2_keep m6 (n32 p) (n32 k) = some m6' → f_X7_drink m1 m6 (n32 p) (n32 k) = some (n32 (v (72 + 4 * p + 2) + k), up m1 14 p (n32 (v (72 + 4 * p + 2) + k)), m6') := by
            intro m6' hk6
            unfold f_X7_drink
            rw [e2]
            simp (maxSteps := 400000) (disch := omega) only [n32_lit, n32_add, n32_mul, n32_lt, n32_le, n32_eq, n32_nat, n32_inb, gd_dec, gdE, ↓nmE, ↓jnE, ↓bsE, Nat.reduceAdd, Nat.reduceMul, Nat.reduceSub, Nat.reduceLT, Nat.reduceLeDiff, Nat.reduceEqDiff, ↓reduceIte, decide_true, decide_false, and_true, true_and, and_false, false_and, or_false, false_or, or_true, true_or, not_true_eq_false, not_false_eq_true, eq_self, Nat.zero_add, Nat.add_zero, Nat.mul_zero, Nat.mul_one, Nat.zero_le, Nat.not_lt_zero, bind_sm, bind_sm2, up_at, up_ms, up_mi, upA_at, upA_ms, show ¬ k < 1 by omega, hk, a3, show p < 7 by omega, q3, hk6]
          obtain ⟨n, wn, an, hn, d1, d2, d3, d4⟩ := hD
          by_cases q4 : n = 24
          · subst q4
            obtain ⟨w', f1, f2⟩ := t_shift w
            have g1 : w' 0 10 = n32 24 := by rw [f2, if_neg (by omega)]; exact d1
            rw [f7 _ (t_keep7s d2), t_drink8s hw (by omega) hk1 hk e1 e4 q3 d1 f1 g1]
            refine dr_fin (n := 23) (wn := fun i => wn (i + 1)) (an := fun i => an (i + 1)) hE hp hk q3 (by omega) ?_ ?_ ?_ ?_
            · refine Fr.up ?_ 0 10 _ (Or.inr (Or.inr (Or.inr ⟨rfl, rfl⟩)))
              intro s i hn
              unfold PDr at hn
              rw [f2, if_neg (by omega)]
            · rw [up_row _ _ _ _ _ (by decide)]
              funext i
              rw [f2, if_neg (by omega)]
            · intro i hi
              obtain ⟨b1, b2, b3, b4, b5, b6⟩ := d3 (i + 1) (by omega)
              unfold m6s
              simp (disch := omega) only [up_at, up_ms, up_mi, upA_at, upA_ms]
              rw [f2, f2, if_pos (by omega), if_pos (by omega)]
              unfold va_cpy
              rw [if_pos (by omega), if_pos (by omega), show 1 + (i - 0) = i + 1 by omega]
              exact ⟨b1, b2, b3, b4, b5, b6⟩
            · intro q hq
              have := d4 q hq
              rw [dsum_shift] at this
              omega
          · rw [f7 _ (t_keep7 (by omega) d2), t_drink8 hw (by omega) hk1 hk e1 e4 q3 (show n < 24 by omega) d1]
            exact dr_fin hE hp hk q3 (by omega) Fr.refl rfl d3 d4
        · unfold f_X7_drink f_X8_drink
          rw [hw, nm_eq w, e1, e2, e0]
          simp (maxSteps := 400000) (disch := omega) only [n32_lit, n32_add, n32_mul, n32_lt, n32_le, n32_eq, n32_nat, n32_inb, gd_dec, gdE, ↓nmE, ↓jnE, ↓bsE, Nat.reduceAdd, Nat.reduceMul, Nat.reduceSub, Nat.reduceLT, Nat.reduceLeDiff, Nat.reduceEqDiff, ↓reduceIte, decide_true, decide_false, and_true, true_and, and_false, false_and, or_false, false_or, or_true, true_or, not_true_eq_false, not_false_eq_true, eq_self, Nat.zero_add, Nat.add_zero, Nat.mul_zero, Nat.mul_one, Nat.zero_le, Nat.not_lt_zero, bind_sm, bind_sm2, hk1, hk, show ¬ k < 1 by omega, e4, a3, show p < 7 by omega, q3]
          exact none _
      · have c : (n32 1 ≤ y ∧ y ≤ n32 9) = False := eq_false (fun q => q2 q.2)
        unfold f_X7_drink f_X8_drink
        rw [hw, nm_eq w, e1, e2, e0]
        simp (maxSteps := 400000) (disch := omega) only [n32_lit, n32_add, n32_mul, n32_lt, n32_le, n32_eq, n32_nat, n32_inb, gd_dec, gdE, ↓nmE, ↓jnE, ↓bsE, Nat.reduceAdd, Nat.reduceMul, Nat.reduceSub, Nat.reduceLT, Nat.reduceLeDiff, Nat.reduceEqDiff, ↓reduceIte, decide_true, decide_false, and_true, true_and, and_false, false_and, or_false, false_or, or_true, true_or, not_true_eq_false, not_false_eq_true, eq_self, Nat.zero_add, Nat.add_zero, Nat.mul_zero, Nat.mul_one, Nat.zero_le, Nat.not_lt_zero, bind_sm, bind_sm2, q1, q2, c]
        exact none _
  · unfold f_X7_drink f_X8_drink
    rw [hw, nm_eq w, e1, e2]
    simp (maxSteps := 400000) (disch := omega) only [n32_lit, n32_add, n32_mul, n32_lt, n32_le, n32_eq, n32_nat, n32_inb, gd_dec, gdE, ↓nmE, ↓jnE, ↓bsE, Nat.reduceAdd, Nat.reduceMul, Nat.reduceSub, Nat.reduceLT, Nat.reduceLeDiff, Nat.reduceEqDiff, ↓reduceIte, decide_true, decide_false, and_true, true_and, and_false, false_and, or_false, false_or, or_true, true_or, not_true_eq_false, not_false_eq_true, eq_self, Nat.zero_add, Nat.add_zero, Nat.mul_zero, Nat.mul_one, Nat.zero_le, Nat.not_lt_zero, bind_sm, bind_sm2]
    exact none _
theorem s_undo {m0 m1 m6 : Mem} {v : Nat → Nat} (hE : REv ((up m0 0 0 0) 6) ((up m0 0 0 0) 0 7) m1 v) (hD : RDr ((up m0 0 0 0) 0 10) ((up m0 0 0 0) 9) ((up m0 0 0 0) 10) m6 v) : DrStep (f_X7_undo m1 m6) (f_X8_undo m0) (up m0 0 0 0) v := by
  unfold f_X7_undo f_X8_undo
  rw [nm_eq (up m0 0 0 0)]
  generalize hw : up m0 0 0 0 = w at *
  have hD' := hD
  have h7 : v 4 ≤ 7 := hE.2.1.1.1
  obtain ⟨n, wn, an, hn, d1, d2, d3, d4⟩ := hD'
  rw [d1, d2]
  by_cases q : n = 0
  · simp (maxSteps := 400000) (disch := omega) only [n32_lit, n32_add, n32_mul, n32_lt, n32_le, n32_eq, n32_nat, n32_inb, gd_dec, gdE, ↓nmE, ↓jnE, ↓bsE, Nat.reduceAdd, Nat.reduceMul, Nat.reduceSub, Nat.reduceLT, Nat.reduceLeDiff, Nat.reduceEqDiff, ↓reduceIte, decide_true, decide_false, and_true, true_and, and_false, false_and, or_false, false_or, or_true, true_or, not_true_eq_false, not_false_eq_true, eq_self, Nat.zero_add, Nat.add_zero, Nat.mul_zero, Nat.mul_one, Nat.zero_le, Nat.not_lt_zero, bind_sm, bind_sm2, q]
    exact ⟨_, m1, m6, w, v, rfl, rfl, Fr.refl, fun _ _ => rfl, hE, hD⟩
  · obtain ⟨n, rfl⟩ : ∃ k, n = k + 1 := ⟨n - 1, by omega⟩
    obtain ⟨b1, b2, b3, b4, b5, b6⟩ := d3 n (by omega)
    have hg := (hE.2.1.1.2.2.2.2.2.2.1 _ b1).2.2.2.2.1
    have h1 := hE.1 (72 + 4 * wn n + 2) (by omega)
    have a3 := (hE.2.2.1.1.2.2.2.2.2.2.2.1 _ b1).2.2.1
    have hd := d4 _ b1
    rw [dsum, if_pos rfl] at hd
    have e1 : n32 (n + 1) - n32 1 = n32 n := by rw [n32_sub (by omega)]; rfl
    have e2 : n32 (v (72 + 4 * wn n + 2)) - n32 (an n) = n32 (v (72 + 4 * wn n + 2) - an n) := n32_sub (by omega)
    unfold f_X2_takeBack
    simp (maxSteps := 400000) (disch := omega) only [n32_lit, n32_add, n32_mul, n32_lt, n32_le, n32_eq, n32_nat, n32_inb, gd_dec, gdE, ↓nmE, ↓jnE, ↓bsE, Nat.reduceAdd, Nat.reduceMul, Nat.reduceSub, Nat.reduceLT, Nat.reduceLeDiff, Nat.reduceEqDiff, ↓reduceIte, decide_true, decide_false, and_true, true_and, and_false, false_and, or_false, false_or, or_true, true_or, not_true_eq_false, not_false_eq_true, eq_self, Nat.zero_add, Nat.add_zero, Nat.mul_zero, Nat.mul_one, Nat.zero_le, Nat.not_lt_zero, bind_sm, bind_sm2, up_at, up_ms, up_mi, upA_at, upA_ms, q, d2, e1, b3, b4, b5, b6, h1, a3, e2, show ¬ n + 1 ≤ 0 by omega, show n < 24 by omega, show wn n < 7 by omega, show 72 + 4 * wn n + 2 < 109 by omega]
    refine ⟨_, _, _, _, vset v (72 + 4 * wn n + 2) (v (72 + 4 * wn n + 2) - an n), rfl, rfl, ?_, gl_vset (by omega), ?_, ?_⟩
    · exact (Fr.refl.up 0 10 _ (Or.inr (Or.inr (Or.inr ⟨rfl, rfl⟩)))).up 6 _ _ (Or.inr (Or.inr (Or.inl rfl)))
    · simp (disch := omega) only [up_at, up_ms, up_mi, upA_at, upA_ms]
      refine ev_glass hE b1 (by omega) ?_
      intro i
      rw [up_ap]
      by_cases z : i = 72 + 4 * wn n + 2
      · rw [if_pos ⟨rfl, z⟩, if_pos z]
      · rw [if_neg (fun q => z q.2), if_neg z]
        simp (disch := omega) only [up_at, up_ms, up_mi, upA_at, upA_ms]
    · refine ⟨n, wn, an, by omega, ?_, ?_, ?_, ?_⟩
      · simp (disch := omega) only [up_at, up_ms, up_mi, upA_at, upA_ms]
      · simp (disch := omega) only [up_at, up_ms, up_mi, upA_at, upA_ms]
      · intro i hi
        rw [vset_ne (show 4 ≠ 72 + 4 * wn n + 2 by omega)]
        simp (disch := omega) only [up_at, up_ms, up_mi, upA_at, upA_ms]
        exact d3 i (by omega)
      · intro r hr
        rw [vset_ne (show 4 ≠ 72 + 4 * wn n + 2 by omega)] at hr
        have := d4 r hr
        rw [dsum] at this
        by_cases z : r = wn n
        · subst z
          rw [vset_at]
          rw [if_pos rfl] at this
          omega
        · rw [vset_ne (by omega)]; omega
