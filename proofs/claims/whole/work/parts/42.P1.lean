/-! the evening in numbers: v i is cell i of the reference's row -/
def Sh (e : Nat → Int32) (v : Nat → Nat) : Prop := ∀ i, i < 109 → e i = n32 (v i)
def VdP (v : Nat → Nat) (p : Nat) : Prop := 1 ≤ v (72 + 4 * p) ∧ v (72 + 4 * p) ≤ 5 ∧ 1 ≤ v (72 + 4 * p + 1) ∧ v (72 + 4 * p + 1) ≤ 7 ∧ v (72 + 4 * p + 2) ≤ 99 ∧ v (72 + 4 * p + 3) < 128 ∧ (v (72 + 4 * p + 3)).testBit p = false ∧ ∀ q, q < v 4 → (v (72 + 4 * p + 3)).testBit q = (v (72 + 4 * q + 3)).testBit p
def VdC (v : Nat → Nat) (c : Nat) : Prop := v (100 + 3 * c) < v 4 ∧ 1 ≤ v (100 + 3 * c + 1) ∧ v (100 + 3 * c + 1) ≤ 4 ∧ v (100 + 3 * c + 2) ≤ 1 ∧ ∀ c', c' < v 5 → v (100 + 3 * c') = v (100 + 3 * c) → c' = c
def VdF (v : Nat → Nat) : Prop := (∀ a b, a < 8 → b < 8 → v (8 + 8 * a + b) ≤ 900 ∨ v (8 + 8 * a + b) = 10000) ∧ ∀ a b, a < 8 → b < 8 → v (8 + a) < 10000 → v (8 + b) < 10000 → v (8 + 8 * a + b) < 10000
def Vd0 (v : Nat → Nat) : Prop := v 4 ≤ 7 ∧ v 5 ≤ 3 ∧ v 0 ≤ 50 ∧ v 1 ≤ 20 ∧ v 6 ≤ 6 ∧ v 7 < 256 ∧ (∀ p, p < v 4 → VdP v p) ∧ ∀ c, c < v 5 → VdC v c
def Vd (v : Nat → Nat) : Prop := Vd0 v ∧ VdF v
def farC (x : Nat) : Nat := if x < 10000 then x else 1000000
def Cl0 (m : Mem) (v : Nat → Nat) : Prop := m 0 1 = n32 (v 0) ∧ m 0 2 = n32 (v 1) ∧ m 0 5 = n32 (v 6) ∧ m 0 6 = n32 (v 4) ∧ m 0 7 = n32 (v 5) ∧ m 0 8 = n32 (v 7) ∧ (∃ s, s < 128 ∧ m 0 9 = n32 s ∧ ∀ p, p < 7 → s.testBit p = decide (p < v 4 ∧ 4 ≤ v (72 + 4 * p))) ∧
  (∀ p, p < v 4 → m 12 p = n32 (v (72 + 4 * p)) ∧ m 13 p = n32 (v (72 + 4 * p + 1)) ∧ m 14 p = n32 (v (72 + 4 * p + 2)) ∧ m 15 p = n32 (v (72 + 4 * p + 3))) ∧
  ∀ c, c < v 5 → m 16 c = n32 (v (100 + 3 * c)) ∧ m 17 c = n32 (v (100 + 3 * c + 1)) ∧ m 18 c = n32 (v (100 + 3 * c + 2))
def ClF (m : Mem) (v : Nat → Nat) : Prop := ∀ i, i < 64 → m 11 i = n32 (farC (v (8 + i)))
def Cl (m : Mem) (v : Nat → Nat) : Prop := Cl0 m v ∧ ClF m v
def REv (e : Nat → Int32) (told : Int32) (m1 : Mem) (v : Nat → Nat) : Prop := Sh e v ∧ Vd v ∧ Cl m1 v ∧ m1 0 0 = told ∧ (told = n32 0 ∨ told = n32 1)
def RSt (st : Int32) (m11 : Mem) : Prop := m11 0 9 = st ∧ m11 0 7 = 1 ∧ m11 0 8 = 2
def lane (x : Int32) : Prop := x = -1 ∨ x = n32 0 ∨ x = n32 1 ∨ x = n32 2
def RRows (l n it : Nat → Int32) (m5 : Mem) : Prop := ∀ r, r < 8 → lane (l r) ∧ m5 1 r = l r ∧ (∃ k, k ≤ 40 ∧ n r = n32 k ∧ m5 2 r = n32 k) ∧ ∀ i, i < 40 → m5 (10 + r) i = it (40 * r + i)
def RTape (len lat : Int32) (tp : Nat → Int32) (m4 : Mem) : Prop := m4 0 2 = lat ∧ ∃ n, n ≤ 500 ∧ len = n32 n ∧ m4 0 1 = n32 n ∧ ∀ i, i < n → ∃ b, b < 256 ∧ tp i = n32 b ∧ m4 1 i = (n32 b).toInt8.toInt32
/-- glasses of p among the first n drinks -/
def dsum (w a : Nat → Nat) (p : Nat) : Nat → Nat
  | 0 => 0
  | n + 1 => dsum w a p n + if w n = p then a n else 0
def RDr (kept : Int32) (who many : Nat → Int32) (m6 : Mem) (v : Nat → Nat) : Prop := ∃ (n : Nat) (w a : Nat → Nat), n ≤ 24 ∧ kept = n32 n ∧ m6 0 2 = n32 n ∧ (∀ i, i < n → w i < v 4 ∧ a i ≤ 9 ∧ who i = n32 (w i) ∧ many i = n32 (a i) ∧ m6 1 i = n32 (w i) ∧ m6 2 i = n32 (a i)) ∧ ∀ p, p < v 4 → dsum w a p n ≤ v (72 + 4 * p + 2)
def RTr (traced : Int32) (tr : Nat → Int32) (m8 : Mem) : Prop := ∃ n, n ≤ 16 ∧ traced = n32 n ∧ m8 0 1 = n32 n ∧ ∀ i, i < n → m8 1 i = tr i
def RIm1 (k : Nat) (isk kept : Nat → Int32) (m : Mem) : Prop := m 0 0 = isk k ∧ (isk k = n32 0 ∨ (isk k = n32 1 ∧ ∃ v, Sh (fun i => kept (109 * k + i)) v ∧ Vd v ∧ Cl m v))
def RIm (isk kept : Nat → Int32) (m9 m10 : Mem) : Prop := RIm1 0 isk kept m9 ∧ RIm1 1 isk kept m10
/-! the reference's small questions -/
theorem t_of {m0 : Mem} {v : Nat → Nat} (h : Sh (m0 6) v) {p k : Nat} (hp : p < 7) (hk : k < 4) : f_X8_of m0 (n32 p) (n32 k) = some (n32 (v (72 + 4 * p + k))) := by
  unfold f_X8_of
  simp (disch := omega) only [n32_lit, n32_add, n32_mul, n32_lt, n32_le, n32_eq, n32_nat, n32_inb, gd_dec, gd_one, nm_eq, jn_eq, Option.bind_some, Nat.reduceAdd, Nat.reduceMul, Nat.reduceSub, Nat.reduceLT, Nat.reduceLeDiff, Nat.reduceEqDiff, ↓reduceIte, decide_true, decide_false, and_true, true_and, and_false, false_and, or_false, false_or, or_true, true_or, not_true_eq_false, not_false_eq_true, eq_self, Nat.zero_add, Nat.add_zero, Nat.mul_zero, Nat.mul_one, Nat.zero_le, Nat.not_lt_zero, bind_sm, bind_sm2, h _ (show 72 + 4 * p + k < 109 by omega)]
theorem t_car0 {m0 : Mem} {v : Nat → Nat} (h : Sh (m0 6) v) {c k : Nat} (hp : c < 3) (hk : k < 3) : f_X8_car0 m0 (n32 c) (n32 k) = some (n32 (v (100 + 3 * c + k))) := by
  unfold f_X8_car0
  simp (disch := omega) only [n32_lit, n32_add, n32_mul, n32_lt, n32_le, n32_eq, n32_nat, n32_inb, gd_dec, gd_one, nm_eq, jn_eq, Option.bind_some, Nat.reduceAdd, Nat.reduceMul, Nat.reduceSub, Nat.reduceLT, Nat.reduceLeDiff, Nat.reduceEqDiff, ↓reduceIte, decide_true, decide_false, and_true, true_and, and_false, false_and, or_false, false_or, or_true, true_or, not_true_eq_false, not_false_eq_true, eq_self, Nat.zero_add, Nat.add_zero, Nat.mul_zero, Nat.mul_one, Nat.zero_le, Nat.not_lt_zero, bind_sm, bind_sm2, h _ (show 100 + 3 * c + k < 109 by omega)]
theorem t_farOf {m0 : Mem} {v : Nat → Nat} (h : Sh (m0 6) v) {a b : Nat} (hp : a < 8) (hk : b < 8) : f_X8_farOf m0 (n32 a) (n32 b) = some (n32 (v (8 + 8 * a + b))) := by
  unfold f_X8_farOf
  simp (disch := omega) only [n32_lit, n32_add, n32_mul, n32_lt, n32_le, n32_eq, n32_nat, n32_inb, gd_dec, gd_one, nm_eq, jn_eq, Option.bind_some, Nat.reduceAdd, Nat.reduceMul, Nat.reduceSub, Nat.reduceLT, Nat.reduceLeDiff, Nat.reduceEqDiff, ↓reduceIte, decide_true, decide_false, and_true, true_and, and_false, false_and, or_false, false_or, or_true, true_or, not_true_eq_false, not_false_eq_true, eq_self, Nat.zero_add, Nat.add_zero, Nat.mul_zero, Nat.mul_one, Nat.zero_le, Nat.not_lt_zero, bind_sm, bind_sm2, h _ (show 8 + 8 * a + b < 109 by omega)]
theorem cmp_lt (x y : Int64) : (lg_cmp x y < 0) = (x < y) := by
  unfold lg_cmp
  by_cases h : x > y
  · rw [if_pos h]
    exact propext ⟨fun q => absurd q (by decide), fun q => absurd q (by rw [Int64.lt_iff_toInt_lt]; have := Int64.lt_iff_toInt_lt.mp h; omega)⟩
  · rw [if_neg h]
    by_cases h2 : x = y
    · rw [if_pos h2, h2]
      exact propext ⟨fun q => absurd q (by decide), fun q => absurd q (by rw [Int64.lt_iff_toInt_lt]; omega)⟩
    · rw [if_neg h2]
      refine propext ⟨fun _ => ?_, fun _ => by decide⟩
      rw [Int64.lt_iff_toInt_lt]
      have h3 : ¬ y.toInt < x.toInt := fun q => h (Int64.lt_iff_toInt_lt.mpr q)
      have h4 : ¬ x.toInt = y.toInt := fun q => h2 (Int64.toInt_inj.mp q)
      omega
theorem cmp_gt (x y : Int64) : (0 < lg_cmp x y) = (y < x) := by
  unfold lg_cmp
  by_cases h : x > y
  · rw [if_pos h]
    exact propext ⟨fun _ => h, fun _ => by decide⟩
  · rw [if_neg h]
    by_cases h2 : x = y
    · rw [if_pos h2]
      exact propext ⟨fun q => absurd q (by decide), fun q => absurd q h⟩
    · rw [if_neg h2]
      exact propext ⟨fun q => absurd q (by decide), fun q => absurd q h⟩
theorem cmp_eq (x y : Int64) : (lg_cmp x y = 0) = (x = y) := by
  unfold lg_cmp
  by_cases h : x > y
  · rw [if_pos h]
    exact propext ⟨fun q => absurd q (by decide), fun q => absurd h (by rw [q]; intro z; have := Int64.lt_iff_toInt_lt.mp z; omega)⟩
  · rw [if_neg h]
    by_cases h2 : x = y
    · rw [if_pos h2]; exact propext ⟨fun _ => h2, fun _ => rfl⟩
    · rw [if_neg h2]; exact propext ⟨fun q => absurd q (by decide), fun q => absurd q h2⟩
theorem cmp_le (x y : Int64) : (lg_cmp x y ≤ 0) = (x ≤ y) := by
  have h := cmp_gt x y
  rw [← i32_nlt, h]
  refine propext ⟨fun q => ?_, fun q => ?_⟩
  · rw [Int64.le_iff_toInt_le]; exact Int.not_lt.mp (fun z => q (Int64.lt_iff_toInt_lt.mpr z))
  · intro z; have := Int64.lt_iff_toInt_lt.mp z; have := Int64.le_iff_toInt_le.mp q; omega
theorem t_in {x a b : Int32} : f_X8_in x.toInt64 a.toInt64 b.toInt64 = some (if a ≤ x ∧ x ≤ b then n32 1 else n32 0) := by
  unfold f_X8_in
  have e1 : (lg_cmp x.toInt64 a.toInt64 < 0) = (x < a) := (cmp_lt _ _).trans (propext Int32.toInt64_lt)
  have e2 : (0 < lg_cmp x.toInt64 b.toInt64) = (b < x) := (cmp_gt _ _).trans (propext Int32.toInt64_lt)
  by_cases h1 : x < a
  · rw [if_pos (by rw [e1]; exact h1), if_neg (fun q => absurd q.1 (by rw [i32_nle]; exact h1))]; rfl
  · rw [if_neg (by rw [e1]; exact h1)]
    by_cases h2 : b < x
    · rw [if_pos (by rw [e2]; exact h2), if_neg (fun q => absurd q.2 (by rw [i32_nle]; exact h2))]; rfl
    · rw [if_neg (by rw [e2]; exact h2), if_pos ⟨by rw [← i32_nlt]; exact h1, by rw [← i32_nlt]; exact h2⟩]; rfl
theorem t_in0 {x : Int32} {k : Nat} {b : Int64} (hb : b = (n32 k).toInt64) (hk : k < 2147483648) : f_X8_in x.toInt64 0 b = some (if n32 0 ≤ x ∧ x ≤ n32 k then n32 1 else n32 0) := by
  rw [hb]; exact t_in (a := 0)
/-- a number from 0 to k: a small one, or not in -/
theorem rng (x : Int32) {k : Nat} (hk : k < 2147483648) : (∃ n, n ≤ k ∧ x = n32 n ∧ (n32 0 ≤ x ∧ x ≤ n32 k) = True) ∨ ((n32 0 ≤ x ∧ x ≤ n32 k) = False ∧ (x < n32 0 ∨ n32 k < x)) := by
  rcases n32_or x with ⟨n, hn, rfl⟩ | h
  · by_cases h : n ≤ k
    · refine Or.inl ⟨n, h, rfl, ?_⟩
      rw [n32_le (by decide) hn, n32_le hn hk]
      exact eq_true ⟨Nat.zero_le _, h⟩
    · refine Or.inr ⟨?_, Or.inr ?_⟩
      · rw [n32_le hn hk]; exact eq_false (fun q => h q.2)
      · rw [n32_lt hk hn]; omega
  · refine Or.inr ⟨?_, Or.inl h⟩
    rw [neg_nle h (by decide)]; exact eq_false (fun q => q.1)
