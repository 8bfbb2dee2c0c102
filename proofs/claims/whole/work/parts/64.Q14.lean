/-! whole tokens -/
theorem up_swap {m : Mem} {s i j : Nat} {a b : Int32} (h : i ≠ j) : up (up m s i a) s j b = up (up m s j b) s i a := by
  funext s' k
  rw [up_ap, up_ap, up_ap, up_ap]
  by_cases z : s' = s
  · by_cases z1 : k = j
    · rw [if_pos ⟨z, z1⟩, if_neg (by omega), if_pos ⟨z, z1⟩]
    · by_cases z2 : k = i
      · rw [if_neg (by omega), if_pos ⟨z, z2⟩, if_pos ⟨z, z2⟩]
      · rw [if_neg (by omega), if_neg (by omega), if_neg (by omega), if_neg (by omega)]
  · rw [if_neg (by omega), if_neg (by omega), if_neg (by omega), if_neg (by omega)]
theorem up_self {m : Mem} {s i : Nat} {a : Int32} (h : m s i = a) : up m s i a = m := by
  funext s' k
  rw [up_ap]
  by_cases z : s' = s ∧ k = i
  · rw [if_pos z, z.1, z.2, h]
  · rw [if_neg z]
def figv (tp : Nat → Nat) (st : Nat) : Nat → Nat
  | 0 => 0
  | k + 1 => 10 * figv tp st k + (tp (st + k) - 48)
theorem figv_lt {tp : Nat → Nat} {st : Nat} : ∀ k, (∀ j, j < k → figB (tp (st + j)) = true) → figv tp st k < 10 ^ k
  | 0, _ => by unfold figv; omega
  | k + 1, h => by
    have h1 := figv_lt k (fun j hj => h j (by omega))
    have h2 := h k (by omega)
    unfold figB at h2
    have h2 := of_decide_eq_true h2
    unfold figv
    rw [Nat.pow_succ]; omega
theorem figv3_lt {tp : Nat → Nat} {st k : Nat} (hk : k ≤ 3) (h : ∀ j, j < k → figB (tp (st + j)) = true) : figv tp st k < 1000 :=
  Nat.lt_of_lt_of_le (figv_lt k h) (Nat.pow_le_pow_right (n := 10) (by omega) hk)
section TK
variable {n : Nat} {tp : Nat → Nat} {m w : Mem}
theorem g_fig7 (h : TP7 n tp m) {st : Nat} (hst : m 0 5 = n32 st) (k : Mem → Option Mem) : ∀ d i t, n - i = d → st ≤ i → i ≤ n → d < t → (∀ j, st ≤ j → j < i → figB (tp j) = true) → f_X5_readFigures_L5 k t (up (up m 0 7 (n32 (figv tp st (min (i - st) 3)))) 0 6 (n32 i)) = k (up (up m 0 7 (n32 (figv tp st (min (rn (fun j => figB (tp j)) n i - st) 3)))) 0 6 (n32 (rn (fun j => figB (tp j)) n i))) := by
  intro d
  obtain ⟨⟨h1, -⟩, h2, h3⟩ := h
  induction d with
  | zero =>
    intro i t e1 e0 e2 e3 hf
    obtain ⟨t, rfl⟩ : ∃ u, t = u + 1 := ⟨t - 1, by omega⟩
    rw [rn_end (by omega), f_X5_readFigures_L5.eq_2]
    simp (maxSteps := 400000) (disch := omega) only [n32_lit, n32_add, n32_mul, n32_lt, n32_le, n32_eq, n32_nat, n32_inb, gd_dec, gdE, ↓nmE, ↓jnE, ↓bsE, Nat.reduceAdd, Nat.reduceMul, Nat.reduceSub, Nat.reduceLT, Nat.reduceLeDiff, Nat.reduceEqDiff, ↓reduceIte, decide_true, decide_false, and_true, true_and, and_false, false_and, or_false, false_or, or_true, true_or, not_true_eq_false, not_false_eq_true, eq_self, Nat.zero_add, Nat.add_zero, Nat.mul_zero, Nat.mul_one, Nat.zero_le, Nat.not_lt_zero, bind_sm, bind_sm2, up_at, up_ms, up_mi, upA_at, upA_ms, h2, show n ≤ i by omega]
  | succ d ih =>
    intro i t e1 e0 e2 e3 hf
    obtain ⟨t, rfl⟩ : ∃ u, t = u + 1 := ⟨t - 1, by omega⟩
    obtain ⟨a1, a2⟩ := h3 i (by omega)
    have g := b_fig7 a1
    have es : n32 i - n32 st = n32 (i - st) := n32_sub e0
    rw [f_X5_readFigures_L5.eq_2]
    cases hg : figB (tp i) with
    | false =>
      rw [rn_no (P := fun j => figB (tp j)) hg]
      rw [hg] at g
      simp (maxSteps := 400000) (disch := omega) only [n32_lit, n32_add, n32_mul, n32_lt, n32_le, n32_eq, n32_nat, n32_inb, gd_dec, gdE, ↓nmE, ↓jnE, ↓bsE, Nat.reduceAdd, Nat.reduceMul, Nat.reduceSub, Nat.reduceLT, Nat.reduceLeDiff, Nat.reduceEqDiff, ↓reduceIte, decide_true, decide_false, and_true, true_and, and_false, false_and, or_false, false_or, or_true, true_or, not_true_eq_false, not_false_eq_true, eq_self, Nat.zero_add, Nat.add_zero, Nat.mul_zero, Nat.mul_one, Nat.zero_le, Nat.not_lt_zero, bind_sm, bind_sm2, up_at, up_ms, up_mi, upA_at, upA_ms, h2, show ¬ n ≤ i by omega, show i < 500 by omega, a2, g, Bool.toNat_false]
    | true =>
      rw [rn_step (P := fun j => figB (tp j)) (by omega) hg, ← ih (i + 1) t (by omega) (by omega) (by omega) (by omega) (fun j j1 j2 => by
        by_cases z : j = i
        · rw [z]; exact hg
        · exact hf j j1 (by omega))]
      rw [hg] at g
      have f48 := of_decide_eq_true (show decide (48 ≤ tp i ∧ tp i ≤ 57) = true from hg)
      have lo := b_low7 (b := tp i) (by omega)
      by_cases q : 3 ≤ i - st
      · simp (maxSteps := 400000) (disch := omega) only [n32_lit, n32_add, n32_mul, n32_lt, n32_le, n32_eq, n32_nat, n32_inb, gd_dec, gdE, ↓nmE, ↓jnE, ↓bsE, Nat.reduceAdd, Nat.reduceMul, Nat.reduceSub, Nat.reduceLT, Nat.reduceLeDiff, Nat.reduceEqDiff, ↓reduceIte, decide_true, decide_false, and_true, true_and, and_false, false_and, or_false, false_or, or_true, true_or, not_true_eq_false, not_false_eq_true, eq_self, Nat.zero_add, Nat.add_zero, Nat.mul_zero, Nat.mul_one, Nat.zero_le, Nat.not_lt_zero, bind_sm, bind_sm2, up_at, up_ms, up_mi, upA_at, upA_ms, h2, show ¬ n ≤ i by omega, show i < 500 by omega, a2, g, Bool.toNat_true, up_up, hst, es, q]
        rw [show min (i - st) 3 = 3 by omega, show min (i + 1 - st) 3 = 3 by omega]
      · have fl := figv3_lt (tp := tp) (st := st) (k := i - st) (by omega) (fun j hj => hf (st + j) (by omega) (by omega))
        have e7 : n32 (10 * figv tp st (i - st) + tp i) - n32 48 = n32 (figv tp st (i + 1 - st)) := by
          rw [n32_sub (by omega), show i + 1 - st = (i - st) + 1 by omega, figv, show st + (i - st) = i by omega]
          congr 1; omega
        rw [show min (i - st) 3 = i - st by omega, show min (i + 1 - st) 3 = i + 1 - st by omega]
        rw [lo] at g a2
        simp (maxSteps := 400000) (disch := omega) only [n32_lit, n32_add, n32_mul, n32_lt, n32_le, n32_eq, n32_nat, n32_inb, gd_dec, gdE, ↓nmE, ↓jnE, ↓bsE, Nat.reduceAdd, Nat.reduceMul, Nat.reduceSub, Nat.reduceLT, Nat.reduceLeDiff, Nat.reduceEqDiff, ↓reduceIte, decide_true, decide_false, and_true, true_and, and_false, false_and, or_false, false_or, or_true, true_or, not_true_eq_false, not_false_eq_true, eq_self, Nat.zero_add, Nat.add_zero, Nat.mul_zero, Nat.mul_one, Nat.zero_le, Nat.not_lt_zero, bind_sm, bind_sm2, up_at, up_ms, up_mi, upA_at, upA_ms, h2, show ¬ n ≤ i by omega, show i < 500 by omega, a2, g, Bool.toNat_true, hst, es, q, e7]
        rw [up_swap (i := 6) (j := 7) (by omega), up_up, up_up]
end TK
def tkS (n : Nat) (tp : Nat → Nat) (e : Nat) : Nat := rn (fun j => gapB (tp j)) n e
def tkE (n : Nat) (tp : Nat → Nat) (e : Nat) : Nat := if n ≤ tkS n tp e then tkS n tp e else if letB (tp (tkS n tp e)) then rn (fun j => letB (tp j)) n (tkS n tp e) else if figB (tp (tkS n tp e)) then rn (fun j => figB (tp j)) n (tkS n tp e) else tkS n tp e + 1
def tkK (n : Nat) (tp : Nat → Nat) (e : Nat) : Nat := if n ≤ tkS n tp e then 0 else if letB (tp (tkS n tp e)) then 1 else if figB (tp (tkS n tp e)) then (if tkE n tp e - tkS n tp e ≤ 3 then 2 else 4) else if tp (tkS n tp e) = 59 then 3 else 4
def k8 (k : Nat) : Nat := if k = 4 then 0 else k + 1
theorem tk_le {n : Nat} {tp : Nat → Nat} {e : Nat} (h : e ≤ n) : e ≤ tkS n tp e ∧ tkS n tp e ≤ tkE n tp e ∧ tkE n tp e ≤ n ∧ (tkK n tp e ≠ 0 → tkS n tp e < tkE n tp e) ∧ tkK n tp e ≤ 4 ∧ (tkK n tp e = 1 → ∀ j, tkS n tp e ≤ j → j < tkE n tp e → letB (tp j) = true) ∧ (tkK n tp e = 2 → tkE n tp e - tkS n tp e ≤ 3 ∧ ∀ j, tkS n tp e ≤ j → j < tkE n tp e → figB (tp j) = true) := by
  obtain ⟨a1, a2, a3⟩ := rn_ge (fun j => gapB (tp j)) n _ e rfl
  have a2 := a2 h
  have S : tkS n tp e = rn (fun j => gapB (tp j)) n e := rfl
  rw [← S] at a1 a2 a3
  unfold tkK tkE
  by_cases z : n ≤ tkS n tp e
  · simp only [z, ↓reduceIte, Bool.false_eq_true]
    exact ⟨a1, Nat.le_refl _, a2, fun q => absurd rfl q, by omega, fun q => by omega, fun q => by omega⟩
  · obtain ⟨b1, b2, b3⟩ := rn_ge (fun j => letB (tp j)) n _ (tkS n tp e) rfl
    obtain ⟨c1, c2, c3⟩ := rn_ge (fun j => figB (tp j)) n _ (tkS n tp e) rfl
    have b2 := b2 a2
    have c2 := c2 a2
    simp only [z, ↓reduceIte, Bool.false_eq_true]
    by_cases z1 : letB (tp (tkS n tp e)) = true
    · have := rn_step (P := fun j => letB (tp j)) (n := n) (i := tkS n tp e) (by omega) z1
      have q := (rn_ge (fun j => letB (tp j)) n _ (tkS n tp e + 1) rfl).1
      simp only [z1, ↓reduceIte, Bool.false_eq_true]
      exact ⟨a1, b1, b2, fun _ => by omega, by omega, fun _ j j1 j2 => b3 j j1 j2, fun q => by omega⟩
    · simp only [z1, ↓reduceIte, Bool.false_eq_true]
      by_cases z2 : figB (tp (tkS n tp e)) = true
      · have := rn_step (P := fun j => figB (tp j)) (n := n) (i := tkS n tp e) (by omega) z2
        have q := (rn_ge (fun j => figB (tp j)) n _ (tkS n tp e + 1) rfl).1
        simp only [z2, ↓reduceIte, Bool.false_eq_true]
        by_cases z3 : rn (fun j => figB (tp j)) n (tkS n tp e) - tkS n tp e ≤ 3
        · simp only [z3, ↓reduceIte, Bool.false_eq_true]
          exact ⟨a1, c1, c2, fun _ => by omega, by omega, fun q => by omega, fun _ => ⟨trivial, fun j j1 j2 => c3 j j1 j2⟩⟩
        · simp only [z3, ↓reduceIte, Bool.false_eq_true]
          exact ⟨a1, c1, c2, fun _ => by omega, by omega, fun q => by omega, fun q => by omega⟩
      · simp only [z2, ↓reduceIte, Bool.false_eq_true]
        refine ⟨a1, by omega, by omega, fun _ => by omega, ?_, ?_, ?_⟩
        · split <;> omega
        · intro q; split at q <;> omega
        · intro q; split at q <;> omega
def PT7 (s i : Nat) : Prop := s = 0 ∧ 4 ≤ i ∧ i ≤ 7
def PT8 (s i : Nat) : Prop := s = 0 ∧ 15 ≤ i ∧ i ≤ 18
/-- class: a token has been read from e on -/
def Tok7 (n : Nat) (tp : Nat → Nat) (e : Nat) (m : Mem) : Prop := m 0 4 = n32 (tkK n tp e) ∧ m 0 5 = n32 (tkS n tp e) ∧ m 0 6 = n32 (tkE n tp e) ∧ (tkK n tp e = 2 → m 0 7 = n32 (figv tp (tkS n tp e) (tkE n tp e - tkS n tp e)))
/-- reference: the token from e on stands -/
def Tok8 (n : Nat) (tp : Nat → Nat) (e : Nat) (w : Mem) : Prop := w 0 16 = n32 (k8 (tkK n tp e)) ∧ w 0 17 = n32 (tkS n tp e) ∧ w 0 15 = n32 (tkE n tp e) ∧ w 0 18 = n32 (tkE n tp e)
section TK
variable {n : Nat} {tp : Nat → Nat} {m w : Mem}
theorem t_token7 (h : TP7 n tp m) {e : Nat} (he : e ≤ n) (hm : m 0 6 = n32 e) : ∃ m', f_X5_readToken m = some m' ∧ Fr PT7 m m' ∧ Tok7 n tp e m' := by
  have S : tkS n tp e = rn (fun j => gapB (tp j)) n e := rfl
  obtain ⟨l1, l2, l3, -⟩ := tk_le (tp := tp) he
  have h500 := h.1.1
  have hn := h.2.1
  have g1 := g_gap7 h
  unfold f_X5_readToken
  rw [nm_eq, hm, g1 _ _ e 100000 rfl he (by omega), ← S, nm_eq]
  have P5 : PT7 0 5 := ⟨rfl, by omega, by omega⟩
  have P6 : PT7 0 6 := ⟨rfl, by omega, by omega⟩
  have P4 : PT7 0 4 := ⟨rfl, by omega, by omega⟩
  have P7 : PT7 0 7 := ⟨rfl, by omega, by omega⟩
  have F0 : Fr PT7 m (up (up m 0 5 (n32 (tkS n tp e))) 0 6 (n32 (tkS n tp e))) := (Fr.refl.up 0 5 _ P5).up 0 6 _ P6
  by_cases z : n ≤ tkS n tp e
  · simp (maxSteps := 400000) (disch := omega) only [n32_lit, n32_add, n32_mul, n32_lt, n32_le, n32_eq, n32_nat, n32_inb, gd_dec, gdE, ↓nmE, ↓jnE, ↓bsE, Nat.reduceAdd, Nat.reduceMul, Nat.reduceSub, Nat.reduceLT, Nat.reduceLeDiff, Nat.reduceEqDiff, ↓reduceIte, decide_true, decide_false, and_true, true_and, and_false, false_and, or_false, false_or, or_true, true_or, not_true_eq_false, not_false_eq_true, eq_self, Nat.zero_add, Nat.add_zero, Nat.mul_zero, Nat.mul_one, Nat.zero_le, Nat.not_lt_zero, bind_sm, bind_sm2, up_at, up_ms, up_mi, upA_at, upA_ms, hn, show ¬ tkS n tp e < n by omega]
    refine ⟨_, rfl, F0.up 0 4 _ P4, ?_, ?_, ?_, ?_⟩
    · simp (disch := omega) only [up_at, up_ms, up_mi, upA_at, upA_ms]; unfold tkK; rw [if_pos z]
    · simp (disch := omega) only [up_at, up_ms, up_mi, upA_at, upA_ms]
    · simp (disch := omega) only [up_at, up_ms, up_mi, upA_at, upA_ms]; unfold tkE; rw [if_pos z]
    · intro q; unfold tkK at q; rw [if_pos z] at q; omega
  · obtain ⟨a1, a2⟩ := h.2.2 (tkS n tp e) (by omega)
    have bl := b_let7 a1
    have bf := b_fig7 a1
    cases z1 : letB (tp (tkS n tp e)) with
    | true =>
      rw [z1] at bl
      unfold f_X5_readLetters
      have hh : TP7 n tp (up (up m 0 5 (n32 (tkS n tp e))) 0 4 (n32 1)) := (h.up 5 _ (by omega)).up 4 _ (by omega)
      have g2 := g_let7 hh (fun (w15 : Mem) => (some w15)) _ (tkS n tp e) 100000 rfl (by omega) (by omega)
      have sw : up (up (up m 0 5 (n32 (tkS n tp e))) 0 6 (n32 (tkS n tp e))) 0 4 (n32 1) = up (up (up m 0 5 (n32 (tkS n tp e))) 0 4 (n32 1)) 0 6 (n32 (tkS n tp e)) := up_swap (by omega)
      have E : tkE n tp e = rn (fun j => letB (tp j)) n (tkS n tp e) := by unfold tkE; rw [if_neg z, if_pos z1]
      rw [← E] at g2
      simp (maxSteps := 400000) (disch := omega) only [n32_lit, n32_add, n32_mul, n32_lt, n32_le, n32_eq, n32_nat, n32_inb, gd_dec, gdE, ↓nmE, ↓jnE, ↓bsE, Nat.reduceAdd, Nat.reduceMul, Nat.reduceSub, Nat.reduceLT, Nat.reduceLeDiff, Nat.reduceEqDiff, ↓reduceIte, decide_true, decide_false, and_true, true_and, and_false, false_and, or_false, false_or, or_true, true_or, not_true_eq_false, not_false_eq_true, eq_self, Nat.zero_add, Nat.add_zero, Nat.mul_zero, Nat.mul_one, Nat.zero_le, Nat.not_lt_zero, bind_sm, bind_sm2, up_at, up_ms, up_mi, upA_at, upA_ms, hn, show tkS n tp e < n by omega, show tkS n tp e < 500 by omega, a2, bl, Bool.toNat_true, sw, g2]
      refine ⟨_, rfl, ?_, ?_, ?_, ?_, ?_⟩
      · exact ((Fr.refl.up 0 5 _ P5).up 0 4 _ P4).up 0 6 _ P6
      · simp (disch := omega) only [up_at, up_ms, up_mi, upA_at, upA_ms]; unfold tkK; rw [if_neg z, if_pos z1]
      · simp (disch := omega) only [up_at, up_ms, up_mi, upA_at, upA_ms]
      · simp (disch := omega) only [up_at, up_ms, up_mi, upA_at, upA_ms]
      · intro q; unfold tkK at q; rw [if_neg z, if_pos z1] at q; omega
    | false =>
      rw [z1] at bl
      cases z2 : figB (tp (tkS n tp e)) with
      | true =>
        rw [z2] at bf
        unfold f_X5_readFigures
        have hh : TP7 n tp (up m 0 5 (n32 (tkS n tp e))) := h.up 5 _ (by omega)
        have E : tkE n tp e = rn (fun j => figB (tp j)) n (tkS n tp e) := by unfold tkE; rw [if_neg z, if_neg (by rw [z1]; decide), if_pos z2]
        have g2 := fun k => g_fig7 hh (st := tkS n tp e) (up_at _ _ _ _) k _ (tkS n tp e) 100000 rfl (Nat.le_refl _) (by omega) (by omega) (fun j j1 j2 => by omega)
        rw [← E, Nat.sub_self, show min 0 3 = 0 from rfl] at g2
        have sw : up (up (up m 0 5 (n32 (tkS n tp e))) 0 6 (n32 (tkS n tp e))) 0 7 (n32 0) = up (up (up m 0 5 (n32 (tkS n tp e))) 0 7 (n32 (figv tp (tkS n tp e) 0))) 0 6 (n32 (tkS n tp e)) := up_swap (by omega)
        have es : n32 (tkE n tp e) - n32 (tkS n tp e) = n32 (tkE n tp e - tkS n tp e) := n32_sub l2
        simp (maxSteps := 400000) (disch := omega) only [n32_lit, n32_add, n32_mul, n32_lt, n32_le, n32_eq, n32_nat, n32_inb, gd_dec, gdE, ↓nmE, ↓jnE, ↓bsE, Nat.reduceAdd, Nat.reduceMul, Nat.reduceSub, Nat.reduceLT, Nat.reduceLeDiff, Nat.reduceEqDiff, ↓reduceIte, decide_true, decide_false, and_true, true_and, and_false, false_and, or_false, false_or, or_true, true_or, not_true_eq_false, not_false_eq_true, eq_self, Nat.zero_add, Nat.add_zero, Nat.mul_zero, Nat.mul_one, Nat.zero_le, Nat.not_lt_zero, bind_sm, bind_sm2, up_at, up_ms, up_mi, upA_at, upA_ms, hn, show tkS n tp e < n by omega, show tkS n tp e < 500 by omega, a2, bl, bf, Bool.toNat_true, Bool.toNat_false, sw, g2, es]
        by_cases q : 3 < tkE n tp e - tkS n tp e
        · simp (maxSteps := 400000) (disch := omega) only [n32_lit, n32_add, n32_mul, n32_lt, n32_le, n32_eq, n32_nat, n32_inb, gd_dec, gdE, ↓nmE, ↓jnE, ↓bsE, Nat.reduceAdd, Nat.reduceMul, Nat.reduceSub, Nat.reduceLT, Nat.reduceLeDiff, Nat.reduceEqDiff, ↓reduceIte, decide_true, decide_false, and_true, true_and, and_false, false_and, or_false, false_or, or_true, true_or, not_true_eq_false, not_false_eq_true, eq_self, Nat.zero_add, Nat.add_zero, Nat.mul_zero, Nat.mul_one, Nat.zero_le, Nat.not_lt_zero, bind_sm, bind_sm2, q]
          refine ⟨_, rfl, ?_, ?_, ?_, ?_, ?_⟩
          · exact (((Fr.refl.up 0 5 _ P5).up 0 7 _ P7).up 0 6 _ P6).up 0 4 _ P4
          · simp (disch := omega) only [up_at, up_ms, up_mi, upA_at, upA_ms]; unfold tkK; rw [if_neg z, if_neg (by rw [z1]; decide), if_pos z2, if_neg (by omega)]
          · simp (disch := omega) only [up_at, up_ms, up_mi, upA_at, upA_ms]
          · simp (disch := omega) only [up_at, up_ms, up_mi, upA_at, upA_ms]
          · intro q'; unfold tkK at q'; rw [if_neg z, if_neg (by rw [z1]; decide), if_pos z2, if_neg (by omega)] at q'; omega
        · simp (maxSteps := 400000) (disch := omega) only [n32_lit, n32_add, n32_mul, n32_lt, n32_le, n32_eq, n32_nat, n32_inb, gd_dec, gdE, ↓nmE, ↓jnE, ↓bsE, Nat.reduceAdd, Nat.reduceMul, Nat.reduceSub, Nat.reduceLT, Nat.reduceLeDiff, Nat.reduceEqDiff, ↓reduceIte, decide_true, decide_false, and_true, true_and, and_false, false_and, or_false, false_or, or_true, true_or, not_true_eq_false, not_false_eq_true, eq_self, Nat.zero_add, Nat.add_zero, Nat.mul_zero, Nat.mul_one, Nat.zero_le, Nat.not_lt_zero, bind_sm, bind_sm2, q]
          refine ⟨_, rfl, ?_, ?_, ?_, ?_, ?_⟩
          · exact (((Fr.refl.up 0 5 _ P5).up 0 7 _ P7).up 0 6 _ P6).up 0 4 _ P4
          · simp (disch := omega) only [up_at, up_ms, up_mi, upA_at, upA_ms]; unfold tkK; rw [if_neg z, if_neg (by rw [z1]; decide), if_pos z2, if_pos (by omega)]
          · simp (disch := omega) only [up_at, up_ms, up_mi, upA_at, upA_ms]
          · simp (disch := omega) only [up_at, up_ms, up_mi, upA_at, upA_ms]
          · intro q'
            simp (disch := omega) only [up_at, up_ms, up_mi, upA_at, upA_ms]
            rw [show min (tkE n tp e - tkS n tp e) 3 = tkE n tp e - tkS n tp e by omega]
      | false =>
        rw [z2] at bf
        have E : tkE n tp e = tkS n tp e + 1 := by unfold tkE; rw [if_neg z, if_neg (by rw [z1]; decide), if_neg (by rw [z2]; decide)]
        have sm := b_semi7 a1
        simp (maxSteps := 400000) (disch := omega) only [n32_lit, n32_add, n32_mul, n32_lt, n32_le, n32_eq, n32_nat, n32_inb, gd_dec, gdE, ↓nmE, ↓jnE, ↓bsE, Nat.reduceAdd, Nat.reduceMul, Nat.reduceSub, Nat.reduceLT, Nat.reduceLeDiff, Nat.reduceEqDiff, ↓reduceIte, decide_true, decide_false, and_true, true_and, and_false, false_and, or_false, false_or, or_true, true_or, not_true_eq_false, not_false_eq_true, eq_self, Nat.zero_add, Nat.add_zero, Nat.mul_zero, Nat.mul_one, Nat.zero_le, Nat.not_lt_zero, bind_sm, bind_sm2, up_at, up_ms, up_mi, upA_at, upA_ms, hn, show tkS n tp e < n by omega, show tkS n tp e < 500 by omega, a2, bl, bf, Bool.toNat_false, sm]
        by_cases q : tp (tkS n tp e) = 59
        · simp (maxSteps := 400000) (disch := omega) only [n32_lit, n32_add, n32_mul, n32_lt, n32_le, n32_eq, n32_nat, n32_inb, gd_dec, gdE, ↓nmE, ↓jnE, ↓bsE, Nat.reduceAdd, Nat.reduceMul, Nat.reduceSub, Nat.reduceLT, Nat.reduceLeDiff, Nat.reduceEqDiff, ↓reduceIte, decide_true, decide_false, and_true, true_and, and_false, false_and, or_false, false_or, or_true, true_or, not_true_eq_false, not_false_eq_true, eq_self, Nat.zero_add, Nat.add_zero, Nat.mul_zero, Nat.mul_one, Nat.zero_le, Nat.not_lt_zero, bind_sm, bind_sm2, up_at, up_ms, up_mi, upA_at, upA_ms, q]
          refine ⟨_, rfl, ?_, ?_, ?_, ?_, ?_⟩
          · exact (F0.up 0 4 _ P4).up 0 6 _ P6
          · simp (disch := omega) only [up_at, up_ms, up_mi, upA_at, upA_ms]; unfold tkK; rw [if_neg z, if_neg (by rw [z1]; decide), if_neg (by rw [z2]; decide), if_pos q]
          · simp (disch := omega) only [up_at, up_ms, up_mi, upA_at, upA_ms]
          · simp (disch := omega) only [up_at, up_ms, up_mi, upA_at, upA_ms]; rw [E]
          · intro q'; unfold tkK at q'; rw [if_neg z, if_neg (by rw [z1]; decide), if_neg (by rw [z2]; decide), if_pos q] at q'; omega
        · simp (maxSteps := 400000) (disch := omega) only [n32_lit, n32_add, n32_mul, n32_lt, n32_le, n32_eq, n32_nat, n32_inb, gd_dec, gdE, ↓nmE, ↓jnE, ↓bsE, Nat.reduceAdd, Nat.reduceMul, Nat.reduceSub, Nat.reduceLT, Nat.reduceLeDiff, Nat.reduceEqDiff, ↓reduceIte, decide_true, decide_false, and_true, true_and, and_false, false_and, or_false, false_or, or_true, true_or, not_true_eq_false, not_false_eq_true, eq_self, Nat.zero_add, Nat.add_zero, Nat.mul_zero, Nat.mul_one, Nat.zero_le, Nat.not_lt_zero, bind_sm, bind_sm2, up_at, up_ms, up_mi, upA_at, upA_ms, q]
          refine ⟨_, rfl, ?_, ?_, ?_, ?_, ?_⟩
          · exact (F0.up 0 4 _ P4).up 0 6 _ P6
          · simp (disch := omega) only [up_at, up_ms, up_mi, upA_at, upA_ms]; unfold tkK; rw [if_neg z, if_neg (by rw [z1]; decide), if_neg (by rw [z2]; decide), if_neg q]
          · simp (disch := omega) only [up_at, up_ms, up_mi, upA_at, upA_ms]
          · simp (disch := omega) only [up_at, up_ms, up_mi, upA_at, upA_ms]; rw [E]
          · intro q'; unfold tkK at q'; rw [if_neg z, if_neg (by rw [z1]; decide), if_neg (by rw [z2]; decide), if_neg q] at q'; omega
end TK
section TK
variable {n : Nat} {tp : Nat → Nat} {m w : Mem}
theorem t_token8 (h : TP8 n tp w) {e : Nat} (he : e ≤ n) (hm : w 0 15 = n32 e) : ∃ w', f_X8_next w = some w' ∧ Fr PT8 w w' ∧ Tok8 n tp e w' := by
  have S : tkS n tp e = rn (fun j => gapB (tp j)) n e := rfl
  obtain ⟨l1, l2, l3, -⟩ := tk_le (tp := tp) he
  have h500 := h.1
  have g1 := g_gap8 h
  have h15 : up w 0 15 (n32 e) = w := up_self hm
  have P5 : PT8 0 15 := ⟨rfl, by omega, by omega⟩
  have P6 : PT8 0 16 := ⟨rfl, by omega, by omega⟩
  have P7 : PT8 0 17 := ⟨rfl, by omega, by omega⟩
  have P8 : PT8 0 18 := ⟨rfl, by omega, by omega⟩
  have F0 : Fr PT8 w (up (up w 0 15 (n32 (tkS n tp e))) 0 17 (n32 (tkS n tp e))) := (Fr.refl.up 0 15 _ P5).up 0 17 _ P7
  have hh : TP8 n tp (up (up w 0 15 (n32 (tkS n tp e))) 0 17 (n32 (tkS n tp e))) := (h.up 15 _ (by omega)).up 17 _ (by omega)
  unfold f_X8_next
  rw [← h15, g1 _ _ e 100000 rfl he (by omega), ← S, h15, nm_eq, up_at w 0 15 (n32 (tkS n tp e))]
  by_cases z : n ≤ tkS n tp e
  · have b := t_byteEnd hh (i := tkS n tp e) z (by omega)
    simp (maxSteps := 400000) (disch := omega) only [n32_lit, n32_add, n32_mul, n32_lt, n32_le, n32_eq, n32_nat, n32_inb, gd_dec, gdE, ↓nmE, ↓jnE, ↓bsE, Nat.reduceAdd, Nat.reduceMul, Nat.reduceSub, Nat.reduceLT, Nat.reduceLeDiff, Nat.reduceEqDiff, ↓reduceIte, decide_true, decide_false, and_true, true_and, and_false, false_and, or_false, false_or, or_true, true_or, not_true_eq_false, not_false_eq_true, eq_self, Nat.zero_add, Nat.add_zero, Nat.mul_zero, Nat.mul_one, Nat.zero_le, Nat.not_lt_zero, bind_sm, bind_sm2, up_at, up_ms, up_mi, upA_at, upA_ms, b]
    refine ⟨_, rfl, (F0.up 0 16 _ P6).up 0 18 _ P8, ?_, ?_, ?_, ?_⟩
    · simp (disch := omega) only [up_at, up_ms, up_mi, upA_at, upA_ms]; unfold tkK; rw [if_pos z]; rfl
    · simp (disch := omega) only [up_at, up_ms, up_mi, upA_at, upA_ms]
    · simp (disch := omega) only [up_at, up_ms, up_mi, upA_at, upA_ms]; unfold tkE; rw [if_pos z]
    · simp (disch := omega) only [up_at, up_ms, up_mi, upA_at, upA_ms]; unfold tkE; rw [if_pos z]
  · have b := t_byteAt hh (i := tkS n tp e) (by omega)
    have a1 := (h.2.2 (tkS n tp e) (by omega)).1
    have bl := b_let8 a1
    have bf := b_fig8 a1
    have nn : (n32 (tp (tkS n tp e)) = -n32 1000000) = False := eq_false (fun q => by
      have := neg_ne (x := -n32 1000000) (by decide) (b := tp (tkS n tp e)) (by omega)
      rw [← q] at this; exact of_eq_false this rfl)
    cases z1 : letB (tp (tkS n tp e)) with
    | true =>
      rw [z1] at bl
      have hk : TP8 n tp (up w 0 17 (n32 (tkS n tp e))) := h.up 17 _ (by omega)
      have g2 := fun k => g_let8 hk k _ (tkS n tp e) 100000 rfl (by omega) (by omega)
      have sw : up (up w 0 15 (n32 (tkS n tp e))) 0 17 (n32 (tkS n tp e)) = up (up w 0 17 (n32 (tkS n tp e))) 0 15 (n32 (tkS n tp e)) := up_swap (by omega)
      have E : tkE n tp e = rn (fun j => letB (tp j)) n (tkS n tp e) := by unfold tkE; rw [if_neg z, if_pos z1]
      rw [← E] at g2
      rw [sw] at b ⊢
      simp (maxSteps := 400000) (disch := omega) only [n32_lit, n32_add, n32_mul, n32_lt, n32_le, n32_eq, n32_nat, n32_inb, gd_dec, gdE, ↓nmE, ↓jnE, ↓bsE, Nat.reduceAdd, Nat.reduceMul, Nat.reduceSub, Nat.reduceLT, Nat.reduceLeDiff, Nat.reduceEqDiff, ↓reduceIte, decide_true, decide_false, and_true, true_and, and_false, false_and, or_false, false_or, or_true, true_or, not_true_eq_false, not_false_eq_true, eq_self, Nat.zero_add, Nat.add_zero, Nat.mul_zero, Nat.mul_one, Nat.zero_le, Nat.not_lt_zero, bind_sm, bind_sm2, up_at, up_ms, up_mi, upA_at, upA_ms, b, nn, bl, Bool.toNat_true, g2]
      refine ⟨_, rfl, ?_, ?_, ?_, ?_, ?_⟩
      · exact (((Fr.refl.up 0 17 _ P7).up 0 15 _ P5).up 0 16 _ P6).up 0 18 _ P8
      · simp (disch := omega) only [up_at, up_ms, up_mi, upA_at, upA_ms]; unfold tkK; rw [if_neg z, if_pos z1]; rfl
      · simp (disch := omega) only [up_at, up_ms, up_mi, upA_at, upA_ms]
      · simp (disch := omega) only [up_at, up_ms, up_mi, upA_at, upA_ms]
      · simp (disch := omega) only [up_at, up_ms, up_mi, upA_at, upA_ms]
    | false =>
      rw [z1] at bl
      cases z2 : figB (tp (tkS n tp e)) with
      | true =>
        rw [z2] at bf
        have hk : TP8 n tp (up w 0 17 (n32 (tkS n tp e))) := h.up 17 _ (by omega)
        have g2 := fun k => g_fig8 hk k _ (tkS n tp e) 100000 rfl (by omega) (by omega)
        have sw : up (up w 0 15 (n32 (tkS n tp e))) 0 17 (n32 (tkS n tp e)) = up (up w 0 17 (n32 (tkS n tp e))) 0 15 (n32 (tkS n tp e)) := up_swap (by omega)
        have E : tkE n tp e = rn (fun j => figB (tp j)) n (tkS n tp e) := by unfold tkE; rw [if_neg z, if_neg (by rw [z1]; decide), if_pos z2]
        have es : n32 (tkE n tp e) - n32 (tkS n tp e) = n32 (tkE n tp e - tkS n tp e) := n32_sub l2
        rw [← E] at g2
        rw [sw] at b ⊢
        simp (maxSteps := 400000) (disch := omega) only [n32_lit, n32_add, n32_mul, n32_lt, n32_le, n32_eq, n32_nat, n32_inb, gd_dec, gdE, ↓nmE, ↓jnE, ↓bsE, Nat.reduceAdd, Nat.reduceMul, Nat.reduceSub, Nat.reduceLT, Nat.reduceLeDiff, Nat.reduceEqDiff, ↓reduceIte, decide_true, decide_false, and_true, true_and, and_false, false_and, or_false, false_or, or_true, true_or, not_true_eq_false, not_false_eq_true, eq_self, Nat.zero_add, Nat.add_zero, Nat.mul_zero, Nat.mul_one, Nat.zero_le, Nat.not_lt_zero, bind_sm, bind_sm2, up_at, up_ms, up_mi, upA_at, upA_ms, b, nn, bl, bf, Bool.toNat_true, Bool.toNat_false, g2, es]
        by_cases q : tkE n tp e - tkS n tp e ≤ 3
        · simp (maxSteps := 400000) (disch := omega) only [n32_lit, n32_add, n32_mul, n32_lt, n32_le, n32_eq, n32_nat, n32_inb, gd_dec, gdE, ↓nmE, ↓jnE, ↓bsE, Nat.reduceAdd, Nat.reduceMul, Nat.reduceSub, Nat.reduceLT, Nat.reduceLeDiff, Nat.reduceEqDiff, ↓reduceIte, decide_true, decide_false, and_true, true_and, and_false, false_and, or_false, false_or, or_true, true_or, not_true_eq_false, not_false_eq_true, eq_self, Nat.zero_add, Nat.add_zero, Nat.mul_zero, Nat.mul_one, Nat.zero_le, Nat.not_lt_zero, bind_sm, bind_sm2, up_at, up_ms, up_mi, upA_at, upA_ms, q]
          refine ⟨_, rfl, ?_, ?_, ?_, ?_, ?_⟩
          · exact (((Fr.refl.up 0 17 _ P7).up 0 15 _ P5).up 0 16 _ P6).up 0 18 _ P8
          · simp (disch := omega) only [up_at, up_ms, up_mi, upA_at, upA_ms]; unfold tkK; rw [if_neg z, if_neg (by rw [z1]; decide), if_pos z2, if_pos q]; rfl
          · simp (disch := omega) only [up_at, up_ms, up_mi, upA_at, upA_ms]
          · simp (disch := omega) only [up_at, up_ms, up_mi, upA_at, upA_ms]
          · simp (disch := omega) only [up_at, up_ms, up_mi, upA_at, upA_ms]
        · simp (maxSteps := 400000) (disch := omega) only [n32_lit, n32_add, n32_mul, n32_lt, n32_le, n32_eq, n32_nat, n32_inb, gd_dec, gdE, ↓nmE, ↓jnE, ↓bsE, Nat.reduceAdd, Nat.reduceMul, Nat.reduceSub, Nat.reduceLT, Nat.reduceLeDiff, Nat.reduceEqDiff, ↓reduceIte, decide_true, decide_false, and_true, true_and, and_false, false_and, or_false, false_or, or_true, true_or, not_true_eq_false, not_false_eq_true, eq_self, Nat.zero_add, Nat.add_zero, Nat.mul_zero, Nat.mul_one, Nat.zero_le, Nat.not_lt_zero, bind_sm, bind_sm2, up_at, up_ms, up_mi, upA_at, upA_ms, q]
          refine ⟨_, rfl, ?_, ?_, ?_, ?_, ?_⟩
          · exact (((Fr.refl.up 0 17 _ P7).up 0 15 _ P5).up 0 16 _ P6).up 0 18 _ P8
          · simp (disch := omega) only [up_at, up_ms, up_mi, upA_at, upA_ms]; unfold tkK; rw [if_neg z, if_neg (by rw [z1]; decide), if_pos z2, if_neg q]; rfl
          · simp (disch := omega) only [up_at, up_ms, up_mi, upA_at, upA_ms]
          · simp (disch := omega) only [up_at, up_ms, up_mi, upA_at, upA_ms]
          · simp (disch := omega) only [up_at, up_ms, up_mi, upA_at, upA_ms]
      | false =>
        rw [z2] at bf
        have E : tkE n tp e = tkS n tp e + 1 := by unfold tkE; rw [if_neg z, if_neg (by rw [z1]; decide), if_neg (by rw [z2]; decide)]
        simp (maxSteps := 400000) (disch := omega) only [n32_lit, n32_add, n32_mul, n32_lt, n32_le, n32_eq, n32_nat, n32_inb, gd_dec, gdE, ↓nmE, ↓jnE, ↓bsE, Nat.reduceAdd, Nat.reduceMul, Nat.reduceSub, Nat.reduceLT, Nat.reduceLeDiff, Nat.reduceEqDiff, ↓reduceIte, decide_true, decide_false, and_true, true_and, and_false, false_and, or_false, false_or, or_true, true_or, not_true_eq_false, not_false_eq_true, eq_self, Nat.zero_add, Nat.add_zero, Nat.mul_zero, Nat.mul_one, Nat.zero_le, Nat.not_lt_zero, bind_sm, bind_sm2, up_at, up_ms, up_mi, upA_at, upA_ms, b, nn, bl, bf, Bool.toNat_false]
        by_cases q : tp (tkS n tp e) = 59
        · simp (maxSteps := 400000) (disch := omega) only [n32_lit, n32_add, n32_mul, n32_lt, n32_le, n32_eq, n32_nat, n32_inb, gd_dec, gdE, ↓nmE, ↓jnE, ↓bsE, Nat.reduceAdd, Nat.reduceMul, Nat.reduceSub, Nat.reduceLT, Nat.reduceLeDiff, Nat.reduceEqDiff, ↓reduceIte, decide_true, decide_false, and_true, true_and, and_false, false_and, or_false, false_or, or_true, true_or, not_true_eq_false, not_false_eq_true, eq_self, Nat.zero_add, Nat.add_zero, Nat.mul_zero, Nat.mul_one, Nat.zero_le, Nat.not_lt_zero, bind_sm, bind_sm2, up_at, up_ms, up_mi, upA_at, upA_ms, q]
          refine ⟨_, rfl, ?_, ?_, ?_, ?_, ?_⟩
          · exact ((F0.up 0 15 _ P5).up 0 16 _ P6).up 0 18 _ P8
          · simp (disch := omega) only [up_at, up_ms, up_mi, upA_at, upA_ms]; unfold tkK; rw [if_neg z, if_neg (by rw [z1]; decide), if_neg (by rw [z2]; decide), if_pos q]; rfl
          · simp (disch := omega) only [up_at, up_ms, up_mi, upA_at, upA_ms]
          · simp (disch := omega) only [up_at, up_ms, up_mi, upA_at, upA_ms]; rw [E]
          · simp (disch := omega) only [up_at, up_ms, up_mi, upA_at, upA_ms]; rw [E]
        · simp (maxSteps := 400000) (disch := omega) only [n32_lit, n32_add, n32_mul, n32_lt, n32_le, n32_eq, n32_nat, n32_inb, gd_dec, gdE, ↓nmE, ↓jnE, ↓bsE, Nat.reduceAdd, Nat.reduceMul, Nat.reduceSub, Nat.reduceLT, Nat.reduceLeDiff, Nat.reduceEqDiff, ↓reduceIte, decide_true, decide_false, and_true, true_and, and_false, false_and, or_false, false_or, or_true, true_or, not_true_eq_false, not_false_eq_true, eq_self, Nat.zero_add, Nat.add_zero, Nat.mul_zero, Nat.mul_one, Nat.zero_le, Nat.not_lt_zero, bind_sm, bind_sm2, up_at, up_ms, up_mi, upA_at, upA_ms, q]
          refine ⟨_, rfl, ?_, ?_, ?_, ?_, ?_⟩
          · exact ((F0.up 0 15 _ P5).up 0 16 _ P6).up 0 18 _ P8
          · simp (disch := omega) only [up_at, up_ms, up_mi, upA_at, upA_ms]; unfold tkK; rw [if_neg z, if_neg (by rw [z1]; decide), if_neg (by rw [z2]; decide), if_neg q]; rfl
          · simp (disch := omega) only [up_at, up_ms, up_mi, upA_at, upA_ms]
          · simp (disch := omega) only [up_at, up_ms, up_mi, upA_at, upA_ms]; rw [E]
          · simp (disch := omega) only [up_at, up_ms, up_mi, upA_at, upA_ms]; rw [E]
end TK
