/-! tokens -/
def rnf (P : Nat → Bool) : Nat → Nat → Nat
  | 0, i => i
  | f + 1, i => if P i then rnf P f (i + 1) else i
def rn (P : Nat → Bool) (n i : Nat) : Nat := rnf P (n - i) i
theorem rn_step {P : Nat → Bool} {n i : Nat} (h : i < n) (hp : P i = true) : rn P n i = rn P n (i + 1) := by
  unfold rn
  rw [show n - i = (n - (i + 1)) + 1 by omega, rnf, if_pos hp]
theorem rn_no {P : Nat → Bool} {n i : Nat} (hp : P i = false) : rn P n i = i := by
  unfold rn
  cases h : n - i with
  | zero => rfl
  | succ k => rw [rnf, if_neg (by rw [hp]; decide)]
theorem rn_end {P : Nat → Bool} {n i : Nat} (h : n ≤ i) : rn P n i = i := by
  unfold rn
  rw [show n - i = 0 by omega]; rfl
theorem rn_ge (P : Nat → Bool) (n : Nat) : ∀ d i, n - i = d → i ≤ rn P n i ∧ (i ≤ n → rn P n i ≤ n) ∧ (∀ j, i ≤ j → j < rn P n i → P j = true) := by
  intro d
  induction d with
  | zero => intro i h; rw [rn_end (by omega)]; exact ⟨Nat.le_refl _, fun q => q, fun j a b => by omega⟩
  | succ d ih =>
    intro i h
    cases hp : P i with
    | false => rw [rn_no hp]; exact ⟨Nat.le_refl _, fun q => q, fun j a b => by omega⟩
    | true =>
      rw [rn_step (by omega) hp]
      obtain ⟨a, b, c⟩ := ih (i + 1) (by omega)
      refine ⟨by omega, fun _ => b (by omega), fun j j1 j2 => ?_⟩
      by_cases z : j = i
      · rw [z]; exact hp
      · exact c j (by omega) j2
def gapB (b : Nat) : Bool := b == 32 || b == 10
def letB (b : Nat) : Bool := decide (97 ≤ b ∧ b ≤ 122)
def figB (b : Nat) : Bool := decide (48 ≤ b ∧ b ≤ 57)
abbrev sb (b : Nat) : Int32 := (n32 b).toInt8.toInt32
theorem b_gap7 {b : Nat} (h : b < 256) : f_X5_isGap (sb b) = some (n32 (gapB b).toNat) := by
  have : ∀ b, b < 256 → f_X5_isGap (sb b) = some (n32 (gapB b).toNat) := by decide +kernel
  exact this b h
theorem b_let7 {b : Nat} (h : b < 256) : f_X5_isLetter (sb b) = some (n32 (letB b).toNat) := by
  have : ∀ b, b < 256 → f_X5_isLetter (sb b) = some (n32 (letB b).toNat) := by decide +kernel
  exact this b h
theorem b_fig7 {b : Nat} (h : b < 256) : f_X5_isFigure (sb b) = some (n32 (figB b).toNat) := by
  have : ∀ b, b < 256 → f_X5_isFigure (sb b) = some (n32 (figB b).toNat) := by decide +kernel
  exact this b h
theorem b_semi7 {b : Nat} (h : b < 256) : (sb b = n32 59) = (b = 59) := by
  have : ∀ b, b < 256 → ((sb b = n32 59) ↔ (b = 59)) := by decide +kernel
  exact propext (this b h)
theorem b_low7 {b : Nat} (h : b < 128) : sb b = n32 b := by
  have : ∀ b, b < 128 → sb b = n32 b := by decide +kernel
  exact this b h
theorem b_let8 {b : Nat} (h : b < 256) : f_X8_isLetter (n32 b) = some (n32 (letB b).toNat) := by
  have : ∀ b, b < 256 → f_X8_isLetter (n32 b) = some (n32 (letB b).toNat) := by decide +kernel
  exact this b h
theorem b_fig8 {b : Nat} (h : b < 256) : f_X8_isFigure (n32 b) = some (n32 (figB b).toNat) := by
  have : ∀ b, b < 256 → f_X8_isFigure (n32 b) = some (n32 (figB b).toNat) := by decide +kernel
  exact this b h
theorem b_letN : f_X8_isLetter (-n32 1000000) = some (n32 0) := by decide +kernel
theorem b_figN : f_X8_isFigure (-n32 1000000) = some (n32 0) := by decide +kernel
/-- the tape of both sides, while an evening is read -/
/- (place 1000 keeps the number of the latest fault, which a reading without fault leaves) -/
def TP7 (n : Nat) (tp : Nat → Nat) (m4 : Mem) : Prop := (n ≤ 500 ∧ m4 0 2 = n32 (tp 1000)) ∧ m4 0 1 = n32 n ∧ ∀ i, i < n → tp i < 256 ∧ m4 1 i = sb (tp i)
def TP8 (n : Nat) (tp : Nat → Nat) (w : Mem) : Prop := n ≤ 500 ∧ w 0 14 = n32 n ∧ ∀ i, i < n → tp i < 256 ∧ w 12 i = n32 (tp i)
section TK
variable {n : Nat} {tp : Nat → Nat} {m w : Mem}
theorem TP7.up (h : TP7 n tp m) (i : Nat) (x : Int32) (hi : i ≠ 1 ∧ i ≠ 2) : TP7 n tp (up m 0 i x) := by
  refine ⟨⟨h.1.1, by rw [up_mi (by omega)]; exact h.1.2⟩, ?_, fun j hj => ?_⟩
  · rw [up_mi (by omega)]; exact h.2.1
  · rw [up_ms (by omega)]; exact h.2.2 j hj
theorem TP8.up (h : TP8 n tp w) (i : Nat) (x : Int32) (hi : i ≠ 14) : TP8 n tp (up w 0 i x) := by
  refine ⟨h.1, ?_, fun j hj => ?_⟩
  · rw [up_mi (by omega)]; exact h.2.1
  · rw [up_ms (by omega)]; exact h.2.2 j hj
theorem t_byteAt (h : TP8 n tp w) {i : Nat} (hi : i < n) : f_X8_byteAt w (n32 i) = some (n32 (tp i)) := by
  obtain ⟨h1, h2, h3⟩ := h
  unfold f_X8_byteAt
  simp (disch := omega) only [n32_lit, n32_add, n32_mul, n32_lt, n32_le, n32_eq, n32_nat, n32_inb, gd_dec, gd_one, nm_eq, jn_eq, Option.bind_some, Nat.reduceAdd, Nat.reduceMul, Nat.reduceSub, Nat.reduceLT, Nat.reduceLeDiff, Nat.reduceEqDiff, ↓reduceIte, decide_true, decide_false, and_true, true_and, and_false, false_and, or_false, false_or, or_true, true_or, not_true_eq_false, not_false_eq_true, eq_self, Nat.zero_add, Nat.add_zero, Nat.mul_zero, Nat.mul_one, Nat.zero_le, Nat.not_lt_zero, bind_sm, bind_sm2, h2, show ¬ n ≤ i by omega, show i < 500 by omega, (h3 i hi).2]
theorem t_byteEnd (h : TP8 n tp w) {i : Nat} (hi : n ≤ i) (hb : i < 2147483648) : f_X8_byteAt w (n32 i) = some (-n32 1000000) := by
  obtain ⟨h1, h2, h3⟩ := h
  unfold f_X8_byteAt
  simp (disch := omega) only [n32_lit, n32_add, n32_mul, n32_lt, n32_le, n32_eq, n32_nat, n32_inb, gd_dec, gd_one, nm_eq, jn_eq, Option.bind_some, Nat.reduceAdd, Nat.reduceMul, Nat.reduceSub, Nat.reduceLT, Nat.reduceLeDiff, Nat.reduceEqDiff, ↓reduceIte, decide_true, decide_false, and_true, true_and, and_false, false_and, or_false, false_or, or_true, true_or, not_true_eq_false, not_false_eq_true, eq_self, Nat.zero_add, Nat.add_zero, Nat.mul_zero, Nat.mul_one, Nat.zero_le, Nat.not_lt_zero, bind_sm, bind_sm2, h2, hi]
theorem g_gap7 (h : TP7 n tp m) (k : Mem → Option Mem) : ∀ d i t, n - i = d → i ≤ n → d < t → f_X5_readToken_L8 k t (up m 0 5 (n32 i)) = k (up m 0 5 (n32 (rn (fun j => gapB (tp j)) n i))) := by
  intro d
  obtain ⟨⟨h1, -⟩, h2, h3⟩ := h
  induction d with
  | zero =>
    intro i t e1 e2 e3
    obtain ⟨t, rfl⟩ : ∃ u, t = u + 1 := ⟨t - 1, by omega⟩
    rw [rn_end (by omega), f_X5_readToken_L8.eq_2]
    simp (maxSteps := 400000) (disch := omega) only [n32_lit, n32_add, n32_mul, n32_lt, n32_le, n32_eq, n32_nat, n32_inb, gd_dec, gdE, ↓nmE, ↓jnE, ↓bsE, Nat.reduceAdd, Nat.reduceMul, Nat.reduceSub, Nat.reduceLT, Nat.reduceLeDiff, Nat.reduceEqDiff, ↓reduceIte, decide_true, decide_false, and_true, true_and, and_false, false_and, or_false, false_or, or_true, true_or, not_true_eq_false, not_false_eq_true, eq_self, Nat.zero_add, Nat.add_zero, Nat.mul_zero, Nat.mul_one, Nat.zero_le, Nat.not_lt_zero, bind_sm, bind_sm2, up_at, up_ms, up_mi, upA_at, upA_ms, h2, show n ≤ i by omega]
  | succ d ih =>
    intro i t e1 e2 e3
    obtain ⟨t, rfl⟩ : ∃ u, t = u + 1 := ⟨t - 1, by omega⟩
    obtain ⟨a1, a2⟩ := h3 i (by omega)
    have g := b_gap7 a1
    rw [f_X5_readToken_L8.eq_2]
    cases hg : gapB (tp i) with
    | false =>
      rw [rn_no (P := fun j => gapB (tp j)) hg]
      rw [hg] at g
      simp (maxSteps := 400000) (disch := omega) only [n32_lit, n32_add, n32_mul, n32_lt, n32_le, n32_eq, n32_nat, n32_inb, gd_dec, gdE, ↓nmE, ↓jnE, ↓bsE, Nat.reduceAdd, Nat.reduceMul, Nat.reduceSub, Nat.reduceLT, Nat.reduceLeDiff, Nat.reduceEqDiff, ↓reduceIte, decide_true, decide_false, and_true, true_and, and_false, false_and, or_false, false_or, or_true, true_or, not_true_eq_false, not_false_eq_true, eq_self, Nat.zero_add, Nat.add_zero, Nat.mul_zero, Nat.mul_one, Nat.zero_le, Nat.not_lt_zero, bind_sm, bind_sm2, up_at, up_ms, up_mi, upA_at, upA_ms, h2, show ¬ n ≤ i by omega, show i < 500 by omega, a2, g, Bool.toNat_false]
    | true =>
      rw [rn_step (P := fun j => gapB (tp j)) (by omega) hg, ← ih (i + 1) t (by omega) (by omega) (by omega)]
      rw [hg] at g
      simp (maxSteps := 400000) (disch := omega) only [n32_lit, n32_add, n32_mul, n32_lt, n32_le, n32_eq, n32_nat, n32_inb, gd_dec, gdE, ↓nmE, ↓jnE, ↓bsE, Nat.reduceAdd, Nat.reduceMul, Nat.reduceSub, Nat.reduceLT, Nat.reduceLeDiff, Nat.reduceEqDiff, ↓reduceIte, decide_true, decide_false, and_true, true_and, and_false, false_and, or_false, false_or, or_true, true_or, not_true_eq_false, not_false_eq_true, eq_self, Nat.zero_add, Nat.add_zero, Nat.mul_zero, Nat.mul_one, Nat.zero_le, Nat.not_lt_zero, bind_sm, bind_sm2, up_at, up_ms, up_mi, upA_at, upA_ms, h2, show ¬ n ≤ i by omega, show i < 500 by omega, a2, g, Bool.toNat_true, up_up]
theorem g_gap8 (h : TP8 n tp w) (k : Mem → Option Mem) : ∀ d i t, n - i = d → i ≤ n → d < t → f_X8_next_L0 k t (up w 0 15 (n32 i)) = k (up w 0 15 (n32 (rn (fun j => gapB (tp j)) n i))) := by
  intro d
  induction d with
  | zero =>
    intro i t e1 e2 e3
    obtain ⟨t, rfl⟩ : ∃ u, t = u + 1 := ⟨t - 1, by omega⟩
    have b := t_byteEnd (h.up 15 (n32 i) (by omega)) (i := i) (by omega) (by have := h.1; omega)
    rw [rn_end (by omega), f_X8_next_L0.eq_2]
    have c1 : (-n32 1000000 = n32 32) = False := eq_false (by decide)
    have c2 : (-n32 1000000 = n32 10) = False := eq_false (by decide)
    simp (maxSteps := 400000) (disch := omega) only [n32_lit, n32_add, n32_mul, n32_lt, n32_le, n32_eq, n32_nat, n32_inb, gd_dec, gdE, ↓nmE, ↓jnE, ↓bsE, Nat.reduceAdd, Nat.reduceMul, Nat.reduceSub, Nat.reduceLT, Nat.reduceLeDiff, Nat.reduceEqDiff, ↓reduceIte, decide_true, decide_false, and_true, true_and, and_false, false_and, or_false, false_or, or_true, true_or, not_true_eq_false, not_false_eq_true, eq_self, Nat.zero_add, Nat.add_zero, Nat.mul_zero, Nat.mul_one, Nat.zero_le, Nat.not_lt_zero, bind_sm, bind_sm2, up_at, up_ms, up_mi, upA_at, upA_ms, b, c1, c2]
  | succ d ih =>
    intro i t e1 e2 e3
    obtain ⟨t, rfl⟩ : ∃ u, t = u + 1 := ⟨t - 1, by omega⟩
    have b := t_byteAt (h.up 15 (n32 i) (by omega)) (i := i) (by omega)
    have a1 := (h.2.2 i (by omega)).1
    rw [f_X8_next_L0.eq_2]
    cases hg : gapB (tp i) with
    | false =>
      rw [rn_no (P := fun j => gapB (tp j)) hg]
      have c1 : ¬ tp i = 32 := fun z => by rw [z] at hg; exact absurd hg (by decide)
      have c2 : ¬ tp i = 10 := fun z => by rw [z] at hg; exact absurd hg (by decide)
      simp (maxSteps := 400000) (disch := omega) only [n32_lit, n32_add, n32_mul, n32_lt, n32_le, n32_eq, n32_nat, n32_inb, gd_dec, gdE, ↓nmE, ↓jnE, ↓bsE, Nat.reduceAdd, Nat.reduceMul, Nat.reduceSub, Nat.reduceLT, Nat.reduceLeDiff, Nat.reduceEqDiff, ↓reduceIte, decide_true, decide_false, and_true, true_and, and_false, false_and, or_false, false_or, or_true, true_or, not_true_eq_false, not_false_eq_true, eq_self, Nat.zero_add, Nat.add_zero, Nat.mul_zero, Nat.mul_one, Nat.zero_le, Nat.not_lt_zero, bind_sm, bind_sm2, up_at, up_ms, up_mi, upA_at, upA_ms, b, c1, c2]
    | true =>
      rw [rn_step (P := fun j => gapB (tp j)) (by omega) hg, ← ih (i + 1) t (by omega) (by omega) (by omega)]
      by_cases c1 : tp i = 32
      · simp (maxSteps := 400000) (disch := omega) only [n32_lit, n32_add, n32_mul, n32_lt, n32_le, n32_eq, n32_nat, n32_inb, gd_dec, gdE, ↓nmE, ↓jnE, ↓bsE, Nat.reduceAdd, Nat.reduceMul, Nat.reduceSub, Nat.reduceLT, Nat.reduceLeDiff, Nat.reduceEqDiff, ↓reduceIte, decide_true, decide_false, and_true, true_and, and_false, false_and, or_false, false_or, or_true, true_or, not_true_eq_false, not_false_eq_true, eq_self, Nat.zero_add, Nat.add_zero, Nat.mul_zero, Nat.mul_one, Nat.zero_le, Nat.not_lt_zero, bind_sm, bind_sm2, up_at, up_ms, up_mi, upA_at, upA_ms, b, c1, up_up]
      · have c2 : tp i = 10 := by
          unfold gapB at hg
          simp at hg
          omega
        simp (maxSteps := 400000) (disch := omega) only [n32_lit, n32_add, n32_mul, n32_lt, n32_le, n32_eq, n32_nat, n32_inb, gd_dec, gdE, ↓nmE, ↓jnE, ↓bsE, Nat.reduceAdd, Nat.reduceMul, Nat.reduceSub, Nat.reduceLT, Nat.reduceLeDiff, Nat.reduceEqDiff, ↓reduceIte, decide_true, decide_false, and_true, true_and, and_false, false_and, or_false, false_or, or_true, true_or, not_true_eq_false, not_false_eq_true, eq_self, Nat.zero_add, Nat.add_zero, Nat.mul_zero, Nat.mul_one, Nat.zero_le, Nat.not_lt_zero, bind_sm, bind_sm2, up_at, up_ms, up_mi, upA_at, upA_ms, b, c1, c2, up_up]
theorem g_let7 (h : TP7 n tp m) (k : Mem → Option Mem) : ∀ d i t, n - i = d → i ≤ n → d < t → f_X5_readLetters_L5 k t (up m 0 6 (n32 i)) = k (up m 0 6 (n32 (rn (fun j => letB (tp j)) n i))) := by
  intro d
  obtain ⟨⟨h1, -⟩, h2, h3⟩ := h
  induction d with
  | zero =>
    intro i t e1 e2 e3
    obtain ⟨t, rfl⟩ : ∃ u, t = u + 1 := ⟨t - 1, by omega⟩
    rw [rn_end (by omega), f_X5_readLetters_L5.eq_2]
    simp (maxSteps := 400000) (disch := omega) only [n32_lit, n32_add, n32_mul, n32_lt, n32_le, n32_eq, n32_nat, n32_inb, gd_dec, gdE, ↓nmE, ↓jnE, ↓bsE, Nat.reduceAdd, Nat.reduceMul, Nat.reduceSub, Nat.reduceLT, Nat.reduceLeDiff, Nat.reduceEqDiff, ↓reduceIte, decide_true, decide_false, and_true, true_and, and_false, false_and, or_false, false_or, or_true, true_or, not_true_eq_false, not_false_eq_true, eq_self, Nat.zero_add, Nat.add_zero, Nat.mul_zero, Nat.mul_one, Nat.zero_le, Nat.not_lt_zero, bind_sm, bind_sm2, up_at, up_ms, up_mi, upA_at, upA_ms, h2, show n ≤ i by omega]
  | succ d ih =>
    intro i t e1 e2 e3
    obtain ⟨t, rfl⟩ : ∃ u, t = u + 1 := ⟨t - 1, by omega⟩
    obtain ⟨a1, a2⟩ := h3 i (by omega)
    have g := b_let7 a1
    rw [f_X5_readLetters_L5.eq_2]
    cases hg : letB (tp i) with
    | false =>
      rw [rn_no (P := fun j => letB (tp j)) hg]
      rw [hg] at g
      simp (maxSteps := 400000) (disch := omega) only [n32_lit, n32_add, n32_mul, n32_lt, n32_le, n32_eq, n32_nat, n32_inb, gd_dec, gdE, ↓nmE, ↓jnE, ↓bsE, Nat.reduceAdd, Nat.reduceMul, Nat.reduceSub, Nat.reduceLT, Nat.reduceLeDiff, Nat.reduceEqDiff, ↓reduceIte, decide_true, decide_false, and_true, true_and, and_false, false_and, or_false, false_or, or_true, true_or, not_true_eq_false, not_false_eq_true, eq_self, Nat.zero_add, Nat.add_zero, Nat.mul_zero, Nat.mul_one, Nat.zero_le, Nat.not_lt_zero, bind_sm, bind_sm2, up_at, up_ms, up_mi, upA_at, upA_ms, h2, show ¬ n ≤ i by omega, show i < 500 by omega, a2, g, Bool.toNat_false]
    | true =>
      rw [rn_step (P := fun j => letB (tp j)) (by omega) hg, ← ih (i + 1) t (by omega) (by omega) (by omega)]
      rw [hg] at g
      simp (maxSteps := 400000) (disch := omega) only [n32_lit, n32_add, n32_mul, n32_lt, n32_le, n32_eq, n32_nat, n32_inb, gd_dec, gdE, ↓nmE, ↓jnE, ↓bsE, Nat.reduceAdd, Nat.reduceMul, Nat.reduceSub, Nat.reduceLT, Nat.reduceLeDiff, Nat.reduceEqDiff, ↓reduceIte, decide_true, decide_false, and_true, true_and, and_false, false_and, or_false, false_or, or_true, true_or, not_true_eq_false, not_false_eq_true, eq_self, Nat.zero_add, Nat.add_zero, Nat.mul_zero, Nat.mul_one, Nat.zero_le, Nat.not_lt_zero, bind_sm, bind_sm2, up_at, up_ms, up_mi, upA_at, upA_ms, h2, show ¬ n ≤ i by omega, show i < 500 by omega, a2, g, Bool.toNat_true, up_up]
theorem g_let8 (h : TP8 n tp w) (k : Mem → Option Mem) : ∀ d i t, n - i = d → i ≤ n → d < t → f_X8_next_L77 k t (up w 0 15 (n32 i)) = k (up w 0 15 (n32 (rn (fun j => letB (tp j)) n i))) := by
  intro d
  induction d with
  | zero =>
    intro i t e1 e2 e3
    obtain ⟨t, rfl⟩ : ∃ u, t = u + 1 := ⟨t - 1, by omega⟩
    have b := t_byteEnd (h.up 15 (n32 i) (by omega)) (i := i) (by omega) (by have := h.1; omega)
    rw [rn_end (by omega), f_X8_next_L77.eq_2]
    simp (maxSteps := 400000) (disch := omega) only [n32_lit, n32_add, n32_mul, n32_lt, n32_le, n32_eq, n32_nat, n32_inb, gd_dec, gdE, ↓nmE, ↓jnE, ↓bsE, Nat.reduceAdd, Nat.reduceMul, Nat.reduceSub, Nat.reduceLT, Nat.reduceLeDiff, Nat.reduceEqDiff, ↓reduceIte, decide_true, decide_false, and_true, true_and, and_false, false_and, or_false, false_or, or_true, true_or, not_true_eq_false, not_false_eq_true, eq_self, Nat.zero_add, Nat.add_zero, Nat.mul_zero, Nat.mul_one, Nat.zero_le, Nat.not_lt_zero, bind_sm, bind_sm2, up_at, up_ms, up_mi, upA_at, upA_ms, b, b_letN]
  | succ d ih =>
    intro i t e1 e2 e3
    obtain ⟨t, rfl⟩ : ∃ u, t = u + 1 := ⟨t - 1, by omega⟩
    have b := t_byteAt (h.up 15 (n32 i) (by omega)) (i := i) (by omega)
    have g := b_let8 (h.2.2 i (by omega)).1
    rw [f_X8_next_L77.eq_2]
    cases hg : letB (tp i) with
    | false =>
      rw [rn_no (P := fun j => letB (tp j)) hg]
      rw [hg] at g
      simp (maxSteps := 400000) (disch := omega) only [n32_lit, n32_add, n32_mul, n32_lt, n32_le, n32_eq, n32_nat, n32_inb, gd_dec, gdE, ↓nmE, ↓jnE, ↓bsE, Nat.reduceAdd, Nat.reduceMul, Nat.reduceSub, Nat.reduceLT, Nat.reduceLeDiff, Nat.reduceEqDiff, ↓reduceIte, decide_true, decide_false, and_true, true_and, and_false, false_and, or_false, false_or, or_true, true_or, not_true_eq_false, not_false_eq_true, eq_self, Nat.zero_add, Nat.add_zero, Nat.mul_zero, Nat.mul_one, Nat.zero_le, Nat.not_lt_zero, bind_sm, bind_sm2, up_at, up_ms, up_mi, upA_at, upA_ms, b, g, Bool.toNat_false]
    | true =>
      rw [rn_step (P := fun j => letB (tp j)) (by omega) hg, ← ih (i + 1) t (by omega) (by omega) (by omega)]
      rw [hg] at g
      simp (maxSteps := 400000) (disch := omega) only [n32_lit, n32_add, n32_mul, n32_lt, n32_le, n32_eq, n32_nat, n32_inb, gd_dec, gdE, ↓nmE, ↓jnE, ↓bsE, Nat.reduceAdd, Nat.reduceMul, Nat.reduceSub, Nat.reduceLT, Nat.reduceLeDiff, Nat.reduceEqDiff, ↓reduceIte, decide_true, decide_false, and_true, true_and, and_false, false_and, or_false, false_or, or_true, true_or, not_true_eq_false, not_false_eq_true, eq_self, Nat.zero_add, Nat.add_zero, Nat.mul_zero, Nat.mul_one, Nat.zero_le, Nat.not_lt_zero, bind_sm, bind_sm2, up_at, up_ms, up_mi, upA_at, upA_ms, b, g, Bool.toNat_true, up_up]
theorem g_fig8 (h : TP8 n tp w) (k : Mem → Option Mem) : ∀ d i t, n - i = d → i ≤ n → d < t → f_X8_next_L119 k t (up w 0 15 (n32 i)) = k (up w 0 15 (n32 (rn (fun j => figB (tp j)) n i))) := by
  intro d
  induction d with
  | zero =>
    intro i t e1 e2 e3
    obtain ⟨t, rfl⟩ : ∃ u, t = u + 1 := ⟨t - 1, by omega⟩
    have b := t_byteEnd (h.up 15 (n32 i) (by omega)) (i := i) (by omega) (by have := h.1; omega)
    rw [rn_end (by omega), f_X8_next_L119.eq_2]
    simp (maxSteps := 400000) (disch := omega) only [n32_lit, n32_add, n32_mul, n32_lt, n32_le, n32_eq, n32_nat, n32_inb, gd_dec, gdE, ↓nmE, ↓jnE, ↓bsE, Nat.reduceAdd, Nat.reduceMul, Nat.reduceSub, Nat.reduceLT, Nat.reduceLeDiff, Nat.reduceEqDiff, ↓reduceIte, decide_true, decide_false, and_true, true_and, and_false, false_and, or_false, false_or, or_true, true_or, not_true_eq_false, not_false_eq_true, eq_self, Nat.zero_add, Nat.add_zero, Nat.mul_zero, Nat.mul_one, Nat.zero_le, Nat.not_lt_zero, bind_sm, bind_sm2, up_at, up_ms, up_mi, upA_at, upA_ms, b, b_figN]
  | succ d ih =>
    intro i t e1 e2 e3
    obtain ⟨t, rfl⟩ : ∃ u, t = u + 1 := ⟨t - 1, by omega⟩
    have b := t_byteAt (h.up 15 (n32 i) (by omega)) (i := i) (by omega)
    have g := b_fig8 (h.2.2 i (by omega)).1
    rw [f_X8_next_L119.eq_2]
    cases hg : figB (tp i) with
    | false =>
      rw [rn_no (P := fun j => figB (tp j)) hg]
      rw [hg] at g
      simp (maxSteps := 400000) (disch := omega) only [n32_lit, n32_add, n32_mul, n32_lt, n32_le, n32_eq, n32_nat, n32_inb, gd_dec, gdE, ↓nmE, ↓jnE, ↓bsE, Nat.reduceAdd, Nat.reduceMul, Nat.reduceSub, Nat.reduceLT, Nat.reduceLeDiff, Nat.reduceEqDiff, ↓reduceIte, decide_true, decide_false, and_true, true_and, and_false, false_and, or_false, false_or, or_true, true_or, not_true_eq_false, not_false_eq_true, eq_self, Nat.zero_add, Nat.add_zero, Nat.mul_zero, Nat.mul_one, Nat.zero_le, Nat.not_lt_zero, bind_sm, bind_sm2, up_at, up_ms, up_mi, upA_at, upA_ms, b, g, Bool.toNat_false]
    | true =>
      rw [rn_step (P := fun j => figB (tp j)) (by omega) hg, ← ih (i + 1) t (by omega) (by omega) (by omega)]
      rw [hg] at g
      simp (maxSteps := 400000) (disch := omega) only [n32_lit, n32_add, n32_mul, n32_lt, n32_le, n32_eq, n32_nat, n32_inb, gd_dec, gdE, ↓nmE, ↓jnE, ↓bsE, Nat.reduceAdd, Nat.reduceMul, Nat.reduceSub, Nat.reduceLT, Nat.reduceLeDiff, Nat.reduceEqDiff, ↓reduceIte, decide_true, decide_false, and_true, true_and, and_false, false_and, or_false, false_or, or_true, true_or, not_true_eq_false, not_false_eq_true, eq_self, Nat.zero_add, Nat.add_zero, Nat.mul_zero, Nat.mul_one, Nat.zero_le, Nat.not_lt_zero, bind_sm, bind_sm2, up_at, up_ms, up_mi, upA_at, upA_ms, b, g, Bool.toNat_true, up_up]
end TK
