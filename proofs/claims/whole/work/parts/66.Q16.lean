/-! reading, step by step -/
theorem k8_2 : k8 2 = 3 := rfl
theorem k8_3 : k8 3 = 4 := rfl
def S8 (n : Nat) (tp : Nat → Nat) (e : Nat) (w : Mem) : Prop := TP8 n tp w ∧ Tok8 n tp e w ∧ e ≤ n ∧ w 0 19 = n32 0
def F8 (n : Nat) (tp : Nat → Nat) (fk fp : Nat) (w : Mem) : Prop := TP8 n tp w ∧ (∃ e, e ≤ n ∧ Tok8 n tp e w) ∧ (1 ≤ fk ∧ fk ≤ 3) ∧ w 0 19 = n32 fk ∧ w 0 20 = n32 fp
def S7 (n : Nat) (tp : Nat → Nat) (e : Nat) (m : Mem) : Prop := TP7 n tp m ∧ m 0 6 = n32 e ∧ e ≤ n
def F7 (fk fp : Nat) (m : Mem) : Prop := m 0 2 = n32 fk ∧ m 0 3 = n32 fp
def PR8 (s i : Nat) : Prop := s = 0 ∧ 15 ≤ i ∧ i ≤ 20
def PR7 (s i : Nat) : Prop := s = 0 ∧ 2 ≤ i ∧ i ≤ 7
section TK
variable {n e fk fp : Nat} {tp : Nat → Nat} {m w : Mem}
theorem TP8.fr {w' : Mem} (h : TP8 n tp w) (hf : Fr PR8 w w') : TP8 n tp w' := by
  refine ⟨h.1, ?_, fun j hj => ?_⟩
  · rw [hf 0 14 (by unfold PR8; omega)]; exact h.2.1
  · rw [hf 12 j (by unfold PR8; omega)]; exact h.2.2 j hj
theorem TP7.fr {m' : Mem} (h : TP7 n tp m) (hf : Fr PT7 m m') : TP7 n tp m' := by
  refine ⟨⟨h.1.1, ?_⟩, ?_, fun j hj => ?_⟩
  · rw [hf 0 2 (by unfold PT7; omega)]; exact h.1.2
  · rw [hf 0 1 (by unfold PT7; omega)]; exact h.2.1
  · rw [hf 1 j (by unfold PT7; omega)]; exact h.2.2 j hj
theorem tk_k8 (he : e ≤ n) : k8 (tkK n tp e) < 2147483648 ∧ (∀ j, j ≤ 4 → 1 ≤ j → ((k8 (tkK n tp e) = j) = (tkK n tp e = j - 1))) := by
  obtain ⟨l1, l2, l3, l4, l5, l6, l7⟩ := tk_le (tp := tp) he
  unfold k8
  refine ⟨by split <;> omega, fun j h1 h2 => propext (by split <;> omega)⟩
/-- the next token -/
theorem r_next (h : S8 n tp e w) : ∃ w', f_X8_next w = some w' ∧ Fr PR8 w w' ∧ S8 n tp (tkE n tp e) w' := by
  obtain ⟨h1, ⟨t1, t2, t3, t4⟩, he, hf⟩ := h
  obtain ⟨l1, l2, l3, -⟩ := tk_le (tp := tp) he
  obtain ⟨w', e1, e2, e3⟩ := t_token8 h1 l3 t3
  have e2' : Fr PR8 w w' := e2.mono (fun s i q => ⟨q.1, q.2.1, by have := q.2.2; omega⟩)
  refine ⟨w', e1, e2', h1.fr e2', e3, l3, ?_⟩
  rw [e2 0 19 (by unfold PT8; omega)]; exact hf
theorem r_bad (h : S8 n tp e w) {k : Nat} (hk : 1 ≤ k ∧ k ≤ 3) : ∃ w', f_X8_bad w (n32 k) = some w' ∧ Fr PR8 w w' ∧ F8 n tp k (tkS n tp e) w' ∧ w' 0 16 = w 0 16 := by
  obtain ⟨h1, ⟨t1, t2, t3, t4⟩, he, hf⟩ := h
  unfold f_X8_bad
  simp (maxSteps := 400000) (disch := omega) only [n32_lit, n32_add, n32_mul, n32_lt, n32_le, n32_eq, n32_nat, n32_inb, gd_dec, gdE, ↓nmE, ↓jnE, ↓bsE, Nat.reduceAdd, Nat.reduceMul, Nat.reduceSub, Nat.reduceLT, Nat.reduceLeDiff, Nat.reduceEqDiff, ↓reduceIte, decide_true, decide_false, and_true, true_and, and_false, false_and, or_false, false_or, or_true, true_or, not_true_eq_false, not_false_eq_true, eq_self, Nat.zero_add, Nat.add_zero, Nat.mul_zero, Nat.mul_one, Nat.zero_le, Nat.not_lt_zero, bind_sm, bind_sm2, up_at, up_ms, up_mi, upA_at, upA_ms, hf, t2]
  have fr : Fr PR8 w (up (up w 0 19 (n32 k)) 0 20 (n32 (tkS n tp e))) := (Fr.refl.up 0 19 _ ⟨rfl, by omega, by omega⟩).up 0 20 _ ⟨rfl, by omega, by omega⟩
  refine ⟨_, rfl, fr, ⟨h1.fr fr, ⟨e, he, ?_, ?_, ?_, ?_⟩, hk, ?_, ?_⟩, ?_⟩
  · simp (disch := omega) only [up_at, up_ms, up_mi, upA_at, upA_ms]; exact t1
  · simp (disch := omega) only [up_at, up_ms, up_mi, upA_at, upA_ms]; exact t2
  · simp (disch := omega) only [up_at, up_ms, up_mi, upA_at, upA_ms]; exact t3
  · simp (disch := omega) only [up_at, up_ms, up_mi, upA_at, upA_ms]; exact t4
  · simp (disch := omega) only [up_at, up_ms, up_mi, upA_at, upA_ms]
  · simp (disch := omega) only [up_at, up_ms, up_mi, upA_at, upA_ms]
  · simp (disch := omega) only [up_at, up_ms, up_mi, upA_at, upA_ms]
theorem r_must1 (h : S8 n tp e w) : ∃ w', f_X8_must w (n32 1) = some w' ∧ Fr PR8 w w' ∧ S8 n tp (tkE n tp e) w' := by
  obtain ⟨w', e1, e2, e3⟩ := r_next h
  refine ⟨w', ?_, e2, e3⟩
  unfold f_X8_must
  simp (maxSteps := 400000) (disch := omega) only [n32_lit, n32_add, n32_mul, n32_lt, n32_le, n32_eq, n32_nat, n32_inb, gd_dec, gdE, ↓nmE, ↓jnE, ↓bsE, Nat.reduceAdd, Nat.reduceMul, Nat.reduceSub, Nat.reduceLT, Nat.reduceLeDiff, Nat.reduceEqDiff, ↓reduceIte, decide_true, decide_false, and_true, true_and, and_false, false_and, or_false, false_or, or_true, true_or, not_true_eq_false, not_false_eq_true, eq_self, Nat.zero_add, Nat.add_zero, Nat.mul_zero, Nat.mul_one, Nat.zero_le, Nat.not_lt_zero, bind_sm, bind_sm2, h.2.2.2, e1]
theorem F8.ne (h : F8 n tp fk fp w) : (w 0 19 = n32 0) = False := by
  rw [h.2.2.2.1, n32_eq (by have := h.2.2.1.2; omega) (by omega)]
  exact eq_false (by have := h.2.2.1.1; omega)
theorem F8.nle (h : F8 n tp fk fp w) : (w 0 19 ≤ n32 0) = False := by
  rw [h.2.2.2.1, n32_le (by have := h.2.2.1.2; omega) (by omega)]
  exact eq_false (by have := h.2.2.1.1; omega)
theorem r_must1F (h : F8 n tp fk fp w) : f_X8_must w (n32 1) = some w := by
  unfold f_X8_must
  simp (maxSteps := 400000) (disch := omega) only [n32_lit, n32_add, n32_mul, n32_lt, n32_le, n32_eq, n32_nat, n32_inb, gd_dec, gdE, ↓nmE, ↓jnE, ↓bsE, Nat.reduceAdd, Nat.reduceMul, Nat.reduceSub, Nat.reduceLT, Nat.reduceLeDiff, Nat.reduceEqDiff, ↓reduceIte, decide_true, decide_false, and_true, true_and, and_false, false_and, or_false, false_or, or_true, true_or, not_true_eq_false, not_false_eq_true, eq_self, Nat.zero_add, Nat.add_zero, Nat.mul_zero, Nat.mul_one, Nat.zero_le, Nat.not_lt_zero, bind_sm, bind_sm2, h.ne]
theorem r_must0 (h : S8 n tp e w) : ∃ w', f_X8_must w (n32 0) = some w' ∧ Fr PR8 w w' ∧ F8 n tp 1 (tkS n tp e) w' := by
  obtain ⟨w', e1, e2, e3, -⟩ := r_bad h (k := 1) (by omega)
  refine ⟨w', ?_, e2, e3⟩
  unfold f_X8_must
  simp (maxSteps := 400000) (disch := omega) only [n32_lit, n32_add, n32_mul, n32_lt, n32_le, n32_eq, n32_nat, n32_inb, gd_dec, gdE, ↓nmE, ↓jnE, ↓bsE, Nat.reduceAdd, Nat.reduceMul, Nat.reduceSub, Nat.reduceLT, Nat.reduceLeDiff, Nat.reduceEqDiff, ↓reduceIte, decide_true, decide_false, and_true, true_and, and_false, false_and, or_false, false_or, or_true, true_or, not_true_eq_false, not_false_eq_true, eq_self, Nat.zero_add, Nat.add_zero, Nat.mul_zero, Nat.mul_one, Nat.zero_le, Nat.not_lt_zero, bind_sm, bind_sm2, e1, e3.ne]
/-- the value of a number token -/
def nv (n : Nat) (tp : Nat → Nat) (e : Nat) : Nat := figv tp (tkS n tp e) (tkE n tp e - tkS n tp e)
def nok (n : Nat) (tp : Nat → Nat) (e a P : Nat) : Prop := tkK n tp e = 2 ∧ a ≤ nv n tp e ∧ nv n tp e < P
theorem nv_lt (he : e ≤ n) (h : tkK n tp e = 2) : nv n tp e < 1000 := by
  obtain ⟨l1, l2, l3, l4, l5, l6, l7⟩ := tk_le (tp := tp) he
  obtain ⟨a, b⟩ := l7 h
  exact figv3_lt a (fun j hj => b _ (by omega) (by omega))
theorem r_figures (h : S8 n tp e w) : f_X8_figures w = some (n32 (if tkK n tp e = 2 then nv n tp e else 0)) := t_figures h.1 h.2.2.1 h.2.1
theorem r_number (h : S8 n tp e w) (a P : Nat) (ha : a ≤ 1) (hP : P ≤ 200) : ∃ r w', f_X8_number w (n32 a) (dn P) = some (r, w') ∧ Fr PR8 w w' ∧ ((nok n tp e a P ∧ r = n32 (nv n tp e) ∧ S8 n tp (tkE n tp e) w') ∨ (¬ nok n tp e a P ∧ (F8 n tp (if tkK n tp e = 2 then 2 else 1) (tkS n tp e) w'))) := by
  have hs := h
  obtain ⟨h1, ⟨t1, t2, t3, t4⟩, he, hf⟩ := hs
  obtain ⟨k1, k2⟩ := tk_k8 (tp := tp) he
  have k3 : (n32 (k8 (tkK n tp e)) = n32 3) = (tkK n tp e = 2) := by rw [n32_eq k1 (by omega), k2 3 (by omega) (by omega)]
  unfold f_X8_number
  by_cases z : tkK n tp e = 2
  · have fg := r_figures h
    rw [if_pos z] at fg
    have vl := nv_lt he z
    have ein : f_X8_in (n32 (nv n tp e)).toInt64 (n32 a).toInt64 (dn P).toInt64 = some (if a ≤ nv n tp e ∧ nv n tp e < P then n32 1 else n32 0) := by
      refine t_in.trans ?_
      have : (n32 a ≤ n32 (nv n tp e) ∧ n32 (nv n tp e) ≤ dn P) = (a ≤ nv n tp e ∧ nv n tp e < P) := by
        unfold dn
        rw [n32_le (by omega) (by omega), n32_pred P _ (by omega), n32_lt (by omega) (by omega)]
      simp only [this]
    rw [if_pos z]
    by_cases q : a ≤ nv n tp e ∧ nv n tp e < P
    · obtain ⟨w', e1, e2, e3⟩ := r_must1 h
      rw [if_pos q] at ein
      refine ⟨_, w', ?_, e2, Or.inl ⟨⟨z, q⟩, rfl, e3⟩⟩
      simp (maxSteps := 400000) (disch := omega) only [n32_lit, n32_add, n32_mul, n32_lt, n32_le, n32_eq, n32_nat, n32_inb, gd_dec, gdE, ↓nmE, ↓jnE, ↓bsE, Nat.reduceAdd, Nat.reduceMul, Nat.reduceSub, Nat.reduceLT, Nat.reduceLeDiff, Nat.reduceEqDiff, ↓reduceIte, decide_true, decide_false, and_true, true_and, and_false, false_and, or_false, false_or, or_true, true_or, not_true_eq_false, not_false_eq_true, eq_self, Nat.zero_add, Nat.add_zero, Nat.mul_zero, Nat.mul_one, Nat.zero_le, Nat.not_lt_zero, bind_sm, bind_sm2, hf, fg, t1, k3, z, k8_2, k8_3, ein, e1]
    · obtain ⟨w', e1, e2, e3, e4⟩ := r_bad h (k := 2) (by omega)
      rw [if_neg q] at ein
      rw [t1] at e4
      have e5 := r_must1F e3
      refine ⟨n32 (nv n tp e), w', ?_, e2, Or.inr ⟨fun c => q c.2, e3⟩⟩
      simp (maxSteps := 400000) (disch := omega) only [n32_lit, n32_add, n32_mul, n32_lt, n32_le, n32_eq, n32_nat, n32_inb, gd_dec, gdE, ↓nmE, ↓jnE, ↓bsE, Nat.reduceAdd, Nat.reduceMul, Nat.reduceSub, Nat.reduceLT, Nat.reduceLeDiff, Nat.reduceEqDiff, ↓reduceIte, decide_true, decide_false, and_true, true_and, and_false, false_and, or_false, false_or, or_true, true_or, not_true_eq_false, not_false_eq_true, eq_self, Nat.zero_add, Nat.add_zero, Nat.mul_zero, Nat.mul_one, Nat.zero_le, Nat.not_lt_zero, bind_sm, bind_sm2, hf, fg, t1, k3, z, k8_2, k8_3, ein, e1, e4, e5]
  · have fg := r_figures h
    rw [if_neg z] at fg
    obtain ⟨w', e1, e2, e3⟩ := r_must0 h
    rw [if_neg z]
    refine ⟨n32 0, w', ?_, e2, Or.inr ⟨fun c => z c.1, e3⟩⟩
    simp (maxSteps := 400000) (disch := omega) only [n32_lit, n32_add, n32_mul, n32_lt, n32_le, n32_eq, n32_nat, n32_inb, gd_dec, gdE, ↓nmE, ↓jnE, ↓bsE, Nat.reduceAdd, Nat.reduceMul, Nat.reduceSub, Nat.reduceLT, Nat.reduceLeDiff, Nat.reduceEqDiff, ↓reduceIte, decide_true, decide_false, and_true, true_and, and_false, false_and, or_false, false_or, or_true, true_or, not_true_eq_false, not_false_eq_true, eq_self, Nat.zero_add, Nat.add_zero, Nat.mul_zero, Nat.mul_one, Nat.zero_le, Nat.not_lt_zero, bind_sm, bind_sm2, hf, fg, t1, k3, z, k8_2, k8_3, e1]
theorem r_numberF (h : F8 n tp fk fp w) (x y : Int32) : f_X8_number w x y = some (n32 0, w) := by
  unfold f_X8_number
  simp (maxSteps := 400000) (disch := omega) only [n32_lit, n32_add, n32_mul, n32_lt, n32_le, n32_eq, n32_nat, n32_inb, gd_dec, gdE, ↓nmE, ↓jnE, ↓bsE, Nat.reduceAdd, Nat.reduceMul, Nat.reduceSub, Nat.reduceLT, Nat.reduceLeDiff, Nat.reduceEqDiff, ↓reduceIte, decide_true, decide_false, and_true, true_and, and_false, false_and, or_false, false_or, or_true, true_or, not_true_eq_false, not_false_eq_true, eq_self, Nat.zero_add, Nat.add_zero, Nat.mul_zero, Nat.mul_one, Nat.zero_le, Nat.not_lt_zero, bind_sm, bind_sm2, h.nle]
theorem r_mustEnd (h : S8 n tp e w) : ∃ w', f_X8_mustEnd w = some w' ∧ Fr PR8 w w' ∧ ((tkK n tp e = 3 ∧ S8 n tp (tkE n tp e) w') ∨ (tkK n tp e ≠ 3 ∧ F8 n tp 1 (tkS n tp e) w')) := by
  have hs := h
  obtain ⟨h1, ⟨t1, t2, t3, t4⟩, he, hf⟩ := hs
  obtain ⟨k1, k2⟩ := tk_k8 (tp := tp) he
  have k3 : (n32 (k8 (tkK n tp e)) = n32 4) = (tkK n tp e = 3) := by rw [n32_eq k1 (by omega), k2 4 (by omega) (by omega)]
  unfold f_X8_mustEnd
  by_cases z : tkK n tp e = 3
  · obtain ⟨w', e1, e2, e3⟩ := r_must1 h
    refine ⟨w', ?_, e2, Or.inl ⟨z, e3⟩⟩
    simp (maxSteps := 400000) (disch := omega) only [n32_lit, n32_add, n32_mul, n32_lt, n32_le, n32_eq, n32_nat, n32_inb, gd_dec, gdE, ↓nmE, ↓jnE, ↓bsE, Nat.reduceAdd, Nat.reduceMul, Nat.reduceSub, Nat.reduceLT, Nat.reduceLeDiff, Nat.reduceEqDiff, ↓reduceIte, decide_true, decide_false, and_true, true_and, and_false, false_and, or_false, false_or, or_true, true_or, not_true_eq_false, not_false_eq_true, eq_self, Nat.zero_add, Nat.add_zero, Nat.mul_zero, Nat.mul_one, Nat.zero_le, Nat.not_lt_zero, bind_sm, bind_sm2, hf, t1, k3, z, k8_2, k8_3, e1]
  · obtain ⟨w', e1, e2, e3⟩ := r_must0 h
    refine ⟨w', ?_, e2, Or.inr ⟨z, e3⟩⟩
    simp (maxSteps := 400000) (disch := omega) only [n32_lit, n32_add, n32_mul, n32_lt, n32_le, n32_eq, n32_nat, n32_inb, gd_dec, gdE, ↓nmE, ↓jnE, ↓bsE, Nat.reduceAdd, Nat.reduceMul, Nat.reduceSub, Nat.reduceLT, Nat.reduceLeDiff, Nat.reduceEqDiff, ↓reduceIte, decide_true, decide_false, and_true, true_and, and_false, false_and, or_false, false_or, or_true, true_or, not_true_eq_false, not_false_eq_true, eq_self, Nat.zero_add, Nat.add_zero, Nat.mul_zero, Nat.mul_one, Nat.zero_le, Nat.not_lt_zero, bind_sm, bind_sm2, hf, t1, k3, z, k8_2, k8_3, e1]
theorem r_mustEndF (h : F8 n tp fk fp w) : f_X8_mustEnd w = some w := by
  unfold f_X8_mustEnd
  simp (maxSteps := 400000) (disch := omega) only [n32_lit, n32_add, n32_mul, n32_lt, n32_le, n32_eq, n32_nat, n32_inb, gd_dec, gdE, ↓nmE, ↓jnE, ↓bsE, Nat.reduceAdd, Nat.reduceMul, Nat.reduceSub, Nat.reduceLT, Nat.reduceLeDiff, Nat.reduceEqDiff, ↓reduceIte, decide_true, decide_false, and_true, true_and, and_false, false_and, or_false, false_or, or_true, true_or, not_true_eq_false, not_false_eq_true, eq_self, Nat.zero_add, Nat.add_zero, Nat.mul_zero, Nat.mul_one, Nat.zero_le, Nat.not_lt_zero, bind_sm, bind_sm2, h.ne]
theorem r_unlike (h : S8 n tp e w) (P x : Nat) (hP : P ≤ 200) (hx : x < P) : ∃ r w', f_X8_unlike w (n32 0) (dn P) (n32 x) = some (r, w') ∧ Fr PR8 w w' ∧ ((nok n tp e 0 P ∧ nv n tp e ≠ x ∧ r = n32 (nv n tp e) ∧ S8 n tp (tkE n tp e) w') ∨ (¬ (nok n tp e 0 P ∧ nv n tp e ≠ x) ∧ (F8 n tp (if tkK n tp e = 2 then 2 else 1) (tkS n tp e) w'))) := by
  have hs := h
  obtain ⟨h1, ⟨t1, t2, t3, t4⟩, he, hf⟩ := hs
  obtain ⟨k1, k2⟩ := tk_k8 (tp := tp) he
  have k3 : (n32 (k8 (tkK n tp e)) = n32 3) = (tkK n tp e = 2) := by rw [n32_eq k1 (by omega), k2 3 (by omega) (by omega)]
  unfold f_X8_unlike
  by_cases z : tkK n tp e = 2
  · have fg := r_figures h
    rw [if_pos z] at fg
    have vl := nv_lt he z
    by_cases q : nv n tp e = x
    · obtain ⟨w', e1, e2, e3, e4⟩ := r_bad h (k := 2) (by omega)
      have e5 := r_numberF e3 (n32 0) (dn P)
      rw [if_pos z]
      refine ⟨n32 0, w', ?_, e2, Or.inr ⟨fun c => c.2 q, e3⟩⟩
      simp (maxSteps := 400000) (disch := omega) only [n32_lit, n32_add, n32_mul, n32_lt, n32_le, n32_eq, n32_nat, n32_inb, gd_dec, gdE, ↓nmE, ↓jnE, ↓bsE, Nat.reduceAdd, Nat.reduceMul, Nat.reduceSub, Nat.reduceLT, Nat.reduceLeDiff, Nat.reduceEqDiff, ↓reduceIte, decide_true, decide_false, and_true, true_and, and_false, false_and, or_false, false_or, or_true, true_or, not_true_eq_false, not_false_eq_true, eq_self, Nat.zero_add, Nat.add_zero, Nat.mul_zero, Nat.mul_one, Nat.zero_le, Nat.not_lt_zero, bind_sm, bind_sm2, hf, fg, t1, k3, z, k8_2, k8_3, q, e1, e5]
    · obtain ⟨r, w', e1, e2, e3⟩ := r_number h 0 P (by omega) hP
      refine ⟨r, w', ?_, e2, ?_⟩
      · simp (maxSteps := 400000) (disch := omega) only [n32_lit, n32_add, n32_mul, n32_lt, n32_le, n32_eq, n32_nat, n32_inb, gd_dec, gdE, ↓nmE, ↓jnE, ↓bsE, Nat.reduceAdd, Nat.reduceMul, Nat.reduceSub, Nat.reduceLT, Nat.reduceLeDiff, Nat.reduceEqDiff, ↓reduceIte, decide_true, decide_false, and_true, true_and, and_false, false_and, or_false, false_or, or_true, true_or, not_true_eq_false, not_false_eq_true, eq_self, Nat.zero_add, Nat.add_zero, Nat.mul_zero, Nat.mul_one, Nat.zero_le, Nat.not_lt_zero, bind_sm, bind_sm2, hf, fg, t1, k3, z, k8_2, k8_3, q, e1]
      · rcases e3 with ⟨a, b, c⟩ | ⟨a, b⟩
        · exact Or.inl ⟨a, q, b, c⟩
        · exact Or.inr ⟨fun c => a c.1, b⟩
  · obtain ⟨r, w', e1, e2, e3⟩ := r_number h 0 P (by omega) hP
    refine ⟨r, w', ?_, e2, ?_⟩
    · simp (maxSteps := 400000) (disch := omega) only [n32_lit, n32_add, n32_mul, n32_lt, n32_le, n32_eq, n32_nat, n32_inb, gd_dec, gdE, ↓nmE, ↓jnE, ↓bsE, Nat.reduceAdd, Nat.reduceMul, Nat.reduceSub, Nat.reduceLT, Nat.reduceLeDiff, Nat.reduceEqDiff, ↓reduceIte, decide_true, decide_false, and_true, true_and, and_false, false_and, or_false, false_or, or_true, true_or, not_true_eq_false, not_false_eq_true, eq_self, Nat.zero_add, Nat.add_zero, Nat.mul_zero, Nat.mul_one, Nat.zero_le, Nat.not_lt_zero, bind_sm, bind_sm2, hf, t1, k3, z, k8_2, k8_3, e1]
    · rcases e3 with ⟨a, b, c⟩ | ⟨a, b⟩
      · exact absurd a.1 z
      · exact Or.inr ⟨fun c => a c.1, b⟩
theorem r_unlikeF (h : F8 n tp fk fp w) (x y z : Int32) : f_X8_unlike w x y z = some (n32 0, w) := by
  unfold f_X8_unlike
  simp (maxSteps := 400000) (disch := omega) only [n32_lit, n32_add, n32_mul, n32_lt, n32_le, n32_eq, n32_nat, n32_inb, gd_dec, gdE, ↓nmE, ↓jnE, ↓bsE, Nat.reduceAdd, Nat.reduceMul, Nat.reduceSub, Nat.reduceLT, Nat.reduceLeDiff, Nat.reduceEqDiff, ↓reduceIte, decide_true, decide_false, and_true, true_and, and_false, false_and, or_false, false_or, or_true, true_or, not_true_eq_false, not_false_eq_true, eq_self, Nat.zero_add, Nat.add_zero, Nat.mul_zero, Nat.mul_one, Nat.zero_le, Nat.not_lt_zero, bind_sm, bind_sm2, h.ne, r_numberF h x y]
theorem r_begins (h : S8 n tp e w) {s k room : Nat} (hs : s < 109) (hk : w 7 s = n32 k) (hk2 : k < 200) (hr : room < 200) : ∃ w', f_X8_begins w (n32 s) (n32 room) = some w' ∧ Fr PR8 w w' ∧ ((k ≠ room ∧ S8 n tp (tkE n tp e) w') ∨ (k = room ∧ F8 n tp 3 (tkS n tp e) w')) := by
  unfold f_X8_begins
  by_cases z : k = room
  · obtain ⟨w', e1, e2, e3, e4⟩ := r_bad h (k := 3) (by omega)
    have e5 := r_must1F e3
    refine ⟨w', ?_, e2, Or.inr ⟨z, e3⟩⟩
    simp (maxSteps := 400000) (disch := omega) only [n32_lit, n32_add, n32_mul, n32_lt, n32_le, n32_eq, n32_nat, n32_inb, gd_dec, gdE, ↓nmE, ↓jnE, ↓bsE, Nat.reduceAdd, Nat.reduceMul, Nat.reduceSub, Nat.reduceLT, Nat.reduceLeDiff, Nat.reduceEqDiff, ↓reduceIte, decide_true, decide_false, and_true, true_and, and_false, false_and, or_false, false_or, or_true, true_or, not_true_eq_false, not_false_eq_true, eq_self, Nat.zero_add, Nat.add_zero, Nat.mul_zero, Nat.mul_one, Nat.zero_le, Nat.not_lt_zero, bind_sm, bind_sm2, hs, hk, z, e1, e5]
  · obtain ⟨w', e1, e2, e3⟩ := r_must1 h
    refine ⟨w', ?_, e2, Or.inl ⟨z, e3⟩⟩
    simp (maxSteps := 400000) (disch := omega) only [n32_lit, n32_add, n32_mul, n32_lt, n32_le, n32_eq, n32_nat, n32_inb, gd_dec, gdE, ↓nmE, ↓jnE, ↓bsE, Nat.reduceAdd, Nat.reduceMul, Nat.reduceSub, Nat.reduceLT, Nat.reduceLeDiff, Nat.reduceEqDiff, ↓reduceIte, decide_true, decide_false, and_true, true_and, and_false, false_and, or_false, false_or, or_true, true_or, not_true_eq_false, not_false_eq_true, eq_self, Nat.zero_add, Nat.add_zero, Nat.mul_zero, Nat.mul_one, Nat.zero_le, Nat.not_lt_zero, bind_sm, bind_sm2, hs, hk, z, e1]
/-! the class -/
theorem c_token (h : S7 n tp e m) : ∃ m', f_X5_readToken m = some m' ∧ Fr PR7 m m' ∧ TP7 n tp m' ∧ Tok7 n tp e m' := by
  obtain ⟨h1, h2, h3⟩ := h
  obtain ⟨m', e1, e2, e3⟩ := t_token7 h1 h3 h2
  have e2' : Fr PR7 m m' := e2.mono (fun s i q => ⟨q.1, by have := q.2.1; omega, q.2.2⟩)
  exact ⟨m', e1, e2', h1.fr e2, e3⟩
theorem c_fail (ht : Tok7 n tp e m) (k : Nat) : ∃ m', f_X5_fail m (n32 k) = some (n32 0, m') ∧ Fr PR7 m m' ∧ F7 k (tkS n tp e) m' := by
  unfold f_X5_fail
  simp (maxSteps := 400000) (disch := omega) only [n32_lit, n32_add, n32_mul, n32_lt, n32_le, n32_eq, n32_nat, n32_inb, gd_dec, gdE, ↓nmE, ↓jnE, ↓bsE, Nat.reduceAdd, Nat.reduceMul, Nat.reduceSub, Nat.reduceLT, Nat.reduceLeDiff, Nat.reduceEqDiff, ↓reduceIte, decide_true, decide_false, and_true, true_and, and_false, false_and, or_false, false_or, or_true, true_or, not_true_eq_false, not_false_eq_true, eq_self, Nat.zero_add, Nat.add_zero, Nat.mul_zero, Nat.mul_one, Nat.zero_le, Nat.not_lt_zero, bind_sm, bind_sm2, up_at, up_ms, up_mi, upA_at, upA_ms, ht.2.1]
  refine ⟨_, rfl, (Fr.refl.up 0 2 _ ⟨rfl, by omega, by omega⟩).up 0 3 _ ⟨rfl, by omega, by omega⟩, ?_, ?_⟩
  · simp (disch := omega) only [up_at, up_ms, up_mi, upA_at, upA_ms]
  · simp (disch := omega) only [up_at, up_ms, up_mi, upA_at, upA_ms]
theorem c_number (h : S7 n tp e m) (a P : Nat) (ha : a ≤ 1) (hP : P ≤ 200) : ∃ m', Fr PR7 m m' ∧ ((nok n tp e a P ∧ f_X5_readNumber m (n32 a) (dn P) = some (n32 1, m') ∧ m' 0 7 = n32 (nv n tp e) ∧ S7 n tp (tkE n tp e) m' ∧ Tok7 n tp e m') ∨ (¬ nok n tp e a P ∧ f_X5_readNumber m (n32 a) (dn P) = some (n32 0, m') ∧ F7 (if tkK n tp e = 2 then 2 else 1) (tkS n tp e) m')) := by
  obtain ⟨m1, e1, e2, e3, e4⟩ := c_token h
  have he := h.2.2
  obtain ⟨l1, l2, l3, -, l5, -⟩ := tk_le (tp := tp) he
  obtain ⟨t1, t2, t3, t4⟩ := e4
  unfold f_X5_readNumber
  by_cases z : tkK n tp e = 2
  · have vl := nv_lt he z
    have t7 : m1 0 7 = n32 (nv n tp e) := t4 z
    have d1 : (n32 (nv n tp e) ≤ dn P) = (nv n tp e < P) := by unfold dn; rw [n32_pred P _ (by omega), n32_lt (by omega) (by omega)]
    by_cases q1 : nv n tp e < a
    · obtain ⟨m2, f1, f2, f3⟩ := c_fail ⟨t1, t2, t3, t4⟩ 2
      refine ⟨m2, e2.trans f2, Or.inr ⟨fun c => by have := c.2.1; omega, ?_, ?_⟩⟩
      · simp (maxSteps := 400000) (disch := omega) only [n32_lit, n32_add, n32_mul, n32_lt, n32_le, n32_eq, n32_nat, n32_inb, gd_dec, gdE, ↓nmE, ↓jnE, ↓bsE, Nat.reduceAdd, Nat.reduceMul, Nat.reduceSub, Nat.reduceLT, Nat.reduceLeDiff, Nat.reduceEqDiff, ↓reduceIte, decide_true, decide_false, and_true, true_and, and_false, false_and, or_false, false_or, or_true, true_or, not_true_eq_false, not_false_eq_true, eq_self, Nat.zero_add, Nat.add_zero, Nat.mul_zero, Nat.mul_one, Nat.zero_le, Nat.not_lt_zero, bind_sm, bind_sm2, e1, t1, z, t7, q1, f1]
      · rw [if_pos z]; exact f3
    · by_cases q2 : nv n tp e < P
      · refine ⟨m1, e2, Or.inl ⟨⟨z, by omega, q2⟩, ?_, t7, ⟨e3, t3, l3⟩, ⟨t1, t2, t3, t4⟩⟩⟩
        simp (maxSteps := 400000) (disch := omega) only [n32_lit, n32_add, n32_mul, n32_lt, n32_le, n32_eq, n32_nat, n32_inb, gd_dec, gdE, ↓nmE, ↓jnE, ↓bsE, Nat.reduceAdd, Nat.reduceMul, Nat.reduceSub, Nat.reduceLT, Nat.reduceLeDiff, Nat.reduceEqDiff, ↓reduceIte, decide_true, decide_false, and_true, true_and, and_false, false_and, or_false, false_or, or_true, true_or, not_true_eq_false, not_false_eq_true, eq_self, Nat.zero_add, Nat.add_zero, Nat.mul_zero, Nat.mul_one, Nat.zero_le, Nat.not_lt_zero, bind_sm, bind_sm2, e1, t1, z, t7, q1, d1, q2]
      · obtain ⟨m2, f1, f2, f3⟩ := c_fail ⟨t1, t2, t3, t4⟩ 2
        refine ⟨m2, e2.trans f2, Or.inr ⟨fun c => q2 c.2.2, ?_, ?_⟩⟩
        · simp (maxSteps := 400000) (disch := omega) only [n32_lit, n32_add, n32_mul, n32_lt, n32_le, n32_eq, n32_nat, n32_inb, gd_dec, gdE, ↓nmE, ↓jnE, ↓bsE, Nat.reduceAdd, Nat.reduceMul, Nat.reduceSub, Nat.reduceLT, Nat.reduceLeDiff, Nat.reduceEqDiff, ↓reduceIte, decide_true, decide_false, and_true, true_and, and_false, false_and, or_false, false_or, or_true, true_or, not_true_eq_false, not_false_eq_true, eq_self, Nat.zero_add, Nat.add_zero, Nat.mul_zero, Nat.mul_one, Nat.zero_le, Nat.not_lt_zero, bind_sm, bind_sm2, e1, t1, z, t7, q1, d1, q2, f1]
        · rw [if_pos z]; exact f3
  · obtain ⟨m2, f1, f2, f3⟩ := c_fail ⟨t1, t2, t3, t4⟩ 1
    refine ⟨m2, e2.trans f2, Or.inr ⟨fun c => z c.1, ?_, ?_⟩⟩
    · have : gd (decide (n32 0 = n32 0 ∨ n32 0 = n32 1)) (some (n32 0, m2)) = some (n32 0, m2) := rfl
      simp (maxSteps := 400000) (disch := omega) only [n32_lit, n32_add, n32_mul, n32_lt, n32_le, n32_eq, n32_nat, n32_inb, gd_dec, gdE, ↓nmE, ↓jnE, ↓bsE, Nat.reduceAdd, Nat.reduceMul, Nat.reduceSub, Nat.reduceLT, Nat.reduceLeDiff, Nat.reduceEqDiff, ↓reduceIte, decide_true, decide_false, and_true, true_and, and_false, false_and, or_false, false_or, or_true, true_or, not_true_eq_false, not_false_eq_true, eq_self, Nat.zero_add, Nat.add_zero, Nat.mul_zero, Nat.mul_one, Nat.zero_le, Nat.not_lt_zero, bind_sm, bind_sm2, e1, t1, z, f1]
    · rw [if_neg z]; exact f3
theorem c_sign (h : S7 n tp e m) : ∃ m', Fr PR7 m m' ∧ ((tkK n tp e = 3 ∧ f_X5_readSign m = some (n32 1, m') ∧ S7 n tp (tkE n tp e) m') ∨ (tkK n tp e ≠ 3 ∧ f_X5_readSign m = some (n32 0, m') ∧ F7 1 (tkS n tp e) m')) := by
  obtain ⟨m1, e1, e2, e3, e4⟩ := c_token h
  have he := h.2.2
  obtain ⟨l1, l2, l3, -, l5, -⟩ := tk_le (tp := tp) he
  obtain ⟨t1, t2, t3, t4⟩ := e4
  unfold f_X5_readSign
  by_cases z : tkK n tp e = 3
  · refine ⟨m1, e2, Or.inl ⟨z, ?_, ⟨e3, t3, l3⟩⟩⟩
    simp (maxSteps := 400000) (disch := omega) only [n32_lit, n32_add, n32_mul, n32_lt, n32_le, n32_eq, n32_nat, n32_inb, gd_dec, gdE, ↓nmE, ↓jnE, ↓bsE, Nat.reduceAdd, Nat.reduceMul, Nat.reduceSub, Nat.reduceLT, Nat.reduceLeDiff, Nat.reduceEqDiff, ↓reduceIte, decide_true, decide_false, and_true, true_and, and_false, false_and, or_false, false_or, or_true, true_or, not_true_eq_false, not_false_eq_true, eq_self, Nat.zero_add, Nat.add_zero, Nat.mul_zero, Nat.mul_one, Nat.zero_le, Nat.not_lt_zero, bind_sm, bind_sm2, e1, t1, z]
  · obtain ⟨m2, f1, f2, f3⟩ := c_fail ⟨t1, t2, t3, t4⟩ 1
    refine ⟨m2, e2.trans f2, Or.inr ⟨z, ?_, f3⟩⟩
    simp (maxSteps := 400000) (disch := omega) only [n32_lit, n32_add, n32_mul, n32_lt, n32_le, n32_eq, n32_nat, n32_inb, gd_dec, gdE, ↓nmE, ↓jnE, ↓bsE, Nat.reduceAdd, Nat.reduceMul, Nat.reduceSub, Nat.reduceLT, Nat.reduceLeDiff, Nat.reduceEqDiff, ↓reduceIte, decide_true, decide_false, and_true, true_and, and_false, false_and, or_false, false_or, or_true, true_or, not_true_eq_false, not_false_eq_true, eq_self, Nat.zero_add, Nat.add_zero, Nat.mul_zero, Nat.mul_one, Nat.zero_le, Nat.not_lt_zero, bind_sm, bind_sm2, e1, t1, z, f1]
end TK
