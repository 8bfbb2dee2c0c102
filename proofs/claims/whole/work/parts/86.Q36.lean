/-! the class's plan -/
section EV
variable {m1 m3 : Mem} {v : Nat → Nat} {g : Nat}
def Bad (v : Nat → Nat) (g : Nat) (T : Nat → Nat) : Prop := ∃ c, c < 3 ∧ ((g.testBit c = true ∧ ¬ Fit v c (T c)) ∨ (g.testBit c = false ∧ T c ≠ 0))
theorem bad_nval {T : Nat → Nat} (h : Bad v g T) : ¬ Val v g T := by
  obtain ⟨c, hc, h⟩ := h
  intro q
  rcases h with ⟨a, b⟩ | ⟨a, b⟩
  · exact b ((q c hc).1 a)
  · exact b ((q c hc).2 a)
theorem addT_128 {T : Nat → Nat} {d p : Nat} (h : ∀ i, T i < 128) (hp : p < 7) : ∀ i, addT T d p i < 128 := addT_lt (P := 7) h hp
theorem or_pow_ne (x p : Nat) : x ||| 2 ^ p ≠ 0 := by
  intro q
  have : (x ||| 2 ^ p).testBit p = true := by rw [or_bit]; simp
  rw [q, Nat.zero_testBit] at this; cases this
theorem bad_add (hv : Vd v) {T : Nat → Nat} {d p : Nat} (hT : ∀ i, T i < 128) (hp : p < 7) (h : Bad v g T) : Bad v g (addT T d p) := by
  obtain ⟨c, hc, h⟩ := h
  refine ⟨c, hc, ?_⟩
  unfold addT
  by_cases z : c = d
  · rw [if_pos z]
    rcases h with ⟨a, b⟩ | ⟨a, b⟩
    · exact Or.inl ⟨a, fun q => b (fit_less hv (hT c) hp q)⟩
    · exact Or.inr ⟨a, or_pow_ne _ _⟩
  · rw [if_neg z]; exact h
theorem spec_bad (hv : Vd v) : ∀ (ps : List Nat) (acc : Acc) (T : Nat → Nat), (∀ p, p ∈ ps → p < 7) → (∀ i, T i < 128) → Bad v g T → spec v g ps acc T = acc
  | [], acc, T, _, _, h => by unfold spec leaf; rw [if_neg (bad_nval h)]
  | p :: ps, acc, T, hp, hT, h => by
    have hp7 := hp p List.mem_cons_self
    have hps := fun q hq => hp q (List.mem_cons_of_mem _ hq)
    unfold spec
    rw [spec_bad hv ps _ _ hps (addT_128 hT hp7) (bad_add hv hT hp7 h), spec_bad hv ps _ _ hps (addT_128 hT hp7) (bad_add hv hT hp7 h), spec_bad hv ps _ _ hps (addT_128 hT hp7) (bad_add hv hT hp7 h), spec_bad hv ps _ _ hps (addT_128 hT hp7) (bad_add hv hT hp7 h)]
def fw : Acc → Nat
  | none => 8
  | some a => a.1
theorem pop3_add {T : Nat → Nat} {d p : Nat} (hT : ∀ i, T i < 128) (hp : p < 7) : pop7 (T 3) ≤ pop7 (addT T d p 3) := by
  unfold addT
  split
  · exact pop_mono _ (hT 3) p hp
  · exact Nat.le_refl _
theorem spec_prune : ∀ (ps : List Nat) (acc : Acc) (T : Nat → Nat), (∀ p, p ∈ ps → p < 7) → (∀ i, T i < 128) → fw acc < pop7 (T 3) → spec v g ps acc T = acc
  | [], acc, T, _, _, h => by
    unfold spec leaf
    by_cases q : Val v g T
    · rw [if_pos q]
      cases acc with
      | none => have := pop7_le (T 3); have h : 8 < pop7 (T 3) := h; omega
      | some a =>
        have h : a.1 < pop7 (T 3) := h
        show (if _ then _ else _) = _
        rw [if_neg (by omega)]
    · rw [if_neg q]
  | p :: ps, acc, T, hp, hT, h => by
    have hp7 := hp p List.mem_cons_self
    have hps := fun q hq => hp q (List.mem_cons_of_mem _ hq)
    have st : ∀ d, spec v g ps acc (addT T d p) = acc := fun d => spec_prune ps acc _ hps (addT_128 hT hp7) (Nat.lt_of_lt_of_le h (pop3_add hT hp7))
    unfold spec
    rw [st 0, st 1, st 2, st 3]
theorem leaf_some {acc : Acc} {T : Nat → Nat} (h : acc ≠ none ∨ Val v g T) : leaf v g acc T ≠ none := by
  unfold leaf
  by_cases q : Val v g T
  · rw [if_pos q]
    cases acc with
    | none => exact fun z => by cases z
    | some a =>
      show (if _ then _ else _) ≠ none
      split
      · exact fun z => by cases z
      · exact fun z => by cases z
  · rw [if_neg q]
    exact h.resolve_right q
theorem val_couch {T : Nat → Nat} {p : Nat} (h : Val v g T) : Val v g (addT T 3 p) := by
  intro c hc
  have : addT T 3 p c = T c := by unfold addT; rw [if_neg (by omega)]
  rw [this]; exact h c hc
theorem spec_some : ∀ (ps : List Nat) (acc : Acc) (T : Nat → Nat), (acc ≠ none ∨ Val v g T) → spec v g ps acc T ≠ none
  | [], acc, T, h => leaf_some h
  | p :: ps, acc, T, h => by
    unfold spec
    rcases h with h | h
    · exact spec_some ps _ _ (Or.inl (spec_some ps _ _ (Or.inl (spec_some ps _ _ (Or.inl (spec_some ps _ _ (Or.inl h)))))))
    · exact spec_some ps _ _ (Or.inr (val_couch h))
/-! cells of the plan -/
def AC (m3 : Mem) : Acc → Prop
  | none => m3 0 5 = n32 8
  | some a => m3 0 5 = n32 a.1 ∧ (a.1 ≤ 7 ∧ a.2.1 ≤ 20000) ∧ m3 0 4 = n32 a.2.1 ∧ m3 0 3 = n32 (a.2.2 3) ∧ ∀ c, c < 3 → m3 2 c = n32 (a.2.2 c)
theorem AC.fw {acc : Acc} (h : AC m3 acc) : m3 0 5 = n32 (fw acc) ∧ fw acc ≤ 8 := by
  cases acc with
  | none => exact ⟨h, Nat.le_refl _⟩
  | some a => exact ⟨h.1, by have := h.2.1.1; show a.1 ≤ 8; omega⟩
theorem AC.fr {acc : Acc} {m3' : Mem} (h : AC m3 acc) (e : ∀ i, 3 ≤ i → i ≤ 5 → m3' 0 i = m3 0 i) (e2 : ∀ c, m3' 2 c = m3 2 c) : AC m3' acc := by
  cases acc with
  | none => show m3' 0 5 = _; rw [e 5 (by omega) (by omega)]; exact h
  | some a =>
    obtain ⟨a1, a2, a3, a4, a5⟩ := h
    refine ⟨?_, a2, ?_, ?_, fun c hc => ?_⟩
    · rw [e 5 (by omega) (by omega)]; exact a1
    · rw [e 4 (by omega) (by omega)]; exact a3
    · rw [e 3 (by omega) (by omega)]; exact a4
    · rw [e2 c]; exact a5 c hc
def SI (v : Nat → Nat) (g dr : Nat) (m3 : Mem) (T : Nat → Nat) (acc : Acc) : Prop := AC m3 acc ∧ KN v m3 ∧ m3 0 7 = n32 g ∧ m3 0 8 = n32 dr ∧ ∀ c, c < 3 → m3 7 c = n32 (T c)
def PS (s i : Nat) : Prop := s = 1 ∨ s = 2 ∨ s = 7 ∨ s = 10 ∨ s = 11 ∨ (s = 0 ∧ (i = 3 ∨ i = 4 ∨ i = 5 ∨ i = 11))
theorem t_keep (hc : Cl m1 v) (hv : Vd v) (hg : ∀ c, g.testBit c = true → c < v 5) (hg8 : g < 8) {dr : Nat} {T : Nat → Nat} {acc : Acc} (hT : ∀ d, T d < 2 ^ v 4) (hV : Val v g T) (hs : SI v g dr m3 T acc) : ∃ m3', f_X4_keepIfBetter m1 m3 (n32 (T 3)) = some m3' ∧ Fr PS m3 m3' ∧ SI v g dr m3' T (leaf v g acc T) := by
  have h4 := hv.1.1
  have h5 := hv.1.2.1
  have p4 : 2 ^ v 4 ≤ 128 := Nat.pow_le_pow_right (n := 2) (by omega) h4
  obtain ⟨s1, s2, s3, s4, s5⟩ := hs
  have c5 := hc.1.2.2.2.2.1
  have hT3 := hT 3
  have bn := bitc_n (a := T 3) (by omega)
  have pl := pop7_le (T 3)
  unfold f_X4_keepIfBetter
  obtain ⟨s, ⟨i1, i3, i4⟩, i2⟩ := loop_k (S := Int32 × Mem) (fun K t u s => f_X4_keepIfBetter_L5 (fun a b c => K b (a, c)) m1 t s.1 u s.2) (v 5) (fun i s => s.1 = n32 (smT v g T i) ∧ Fr PM m3 s.2 ∧ KN v s.2) (fun K t s _ => by
      refine Eq.trans (f_X4_keepIfBetter_L5.eq_2 _ _ _ _ _ _) ?_
      simp (disch := omega) only [n32_lit, n32_add, n32_mul, n32_lt, n32_le, n32_eq, n32_nat, n32_inb, gd_dec, gd_one, nm_eq, jn_eq, Option.bind_some, Nat.reduceAdd, Nat.reduceMul, Nat.reduceSub, Nat.reduceLT, Nat.reduceLeDiff, Nat.reduceEqDiff, ↓reduceIte, decide_true, decide_false, and_true, true_and, and_false, false_and, or_false, false_or, or_true, true_or, not_true_eq_false, not_false_eq_true, eq_self, Nat.zero_add, Nat.add_zero, Nat.mul_zero, Nat.mul_one, Nat.zero_le, Nat.not_lt_zero, bind_sm, bind_sm2, c5, Nat.le_refl]) (fun i s hi hI => by
      obtain ⟨q1, q2⟩ := s
      obtain ⟨h1, h2, h3⟩ := hI
      have h1 : q1 = n32 (smT v g T i) := h1
      subst h1
      have h2 : Fr PM m3 q2 := h2
      have h3 : KN v q2 := h3
      have e7 : q2 0 7 = n32 g := by rw [h2 0 7 (by unfold PM; omega)]; exact s3
      have t7 : q2 7 i = n32 (T i) := by rw [h2 7 i (by unfold PM; omega)]; exact s5 i (by omega)
      cases hb : g.testBit i with
      | false =>
        refine ⟨(n32 (smT v g T (i + 1)), q2), ⟨rfl, h2, h3⟩, fun K t => ?_⟩
        refine Eq.trans (f_X4_keepIfBetter_L5.eq_2 _ _ _ _ _ _) ?_
        have e : smT v g T (i + 1) = smT v g T i := by
          show smT v g T i + (if g.testBit i then (lst v i (T i)).1 else 0) = _
          rw [hb]; simp
        rw [e]
        simp (disch := omega) only [n32_lit, n32_add, n32_mul, n32_lt, n32_le, n32_eq, n32_nat, n32_inb, gd_dec, gd_one, nm_eq, jn_eq, Option.bind_some, Nat.reduceAdd, Nat.reduceMul, Nat.reduceSub, Nat.reduceLT, Nat.reduceLeDiff, Nat.reduceEqDiff, ↓reduceIte, decide_true, decide_false, and_true, true_and, and_false, false_and, or_false, false_or, or_true, true_or, not_true_eq_false, not_false_eq_true, eq_self, Nat.zero_add, Nat.add_zero, Nat.mul_zero, Nat.mul_one, Nat.zero_le, Nat.not_lt_zero, bind_sm, bind_sm2, c5, show ¬ v 5 ≤ i by omega, e7, t_hasBit, n32_b0, hb]
      | true =>
        have jx := fit_jx hv hi (hT i) ((hV i (by omega)).1 hb)
        obtain ⟨m3', e1, e2, e3⟩ := t_minutesOf hc hv hi jx h3
        refine ⟨(n32 (smT v g T (i + 1)), m3'), ⟨rfl, h2.trans e2, e3⟩, fun K t => ?_⟩
        refine Eq.trans (f_X4_keepIfBetter_L5.eq_2 _ _ _ _ _ _) ?_
        have e : smT v g T (i + 1) = smT v g T i + (lst v i (T i)).1 := by
          show smT v g T i + (if g.testBit i then (lst v i (T i)).1 else 0) = _
          rw [hb]; simp
        rw [e]
        simp (disch := omega) only [n32_lit, n32_add, n32_mul, n32_lt, n32_le, n32_eq, n32_nat, n32_inb, gd_dec, gd_one, nm_eq, jn_eq, Option.bind_some, Nat.reduceAdd, Nat.reduceMul, Nat.reduceSub, Nat.reduceLT, Nat.reduceLeDiff, Nat.reduceEqDiff, ↓reduceIte, decide_true, decide_false, and_true, true_and, and_false, false_and, or_false, false_or, or_true, true_or, not_true_eq_false, not_false_eq_true, eq_self, Nat.zero_add, Nat.add_zero, Nat.mul_zero, Nat.mul_one, Nat.zero_le, Nat.not_lt_zero, bind_sm, bind_sm2, c5, show ¬ v 5 ≤ i by omega, e7, t_hasBit, n32_b0, hb, show i < 3 by omega, t7, e1]
        simp) (v 5) 0 (n32 0, m3) 100000 (by omega) (by omega) ⟨rfl, Fr.refl, s2⟩
  have sm3 : smT v g T (v 5) = smT v g T 3 := by
    have key : ∀ d, v 5 + d ≤ 3 → smT v g T (v 5 + d) = smT v g T (v 5) := by
      intro d
      induction d with
      | zero => intro _; rfl
      | succ d ih =>
        intro hd
        show smT v g T (v 5 + d) + (if g.testBit (v 5 + d) then (lst v (v 5 + d) (T (v 5 + d))).1 else 0) = _
        have : g.testBit (v 5 + d) = false := by
          cases hb : g.testBit (v 5 + d)
          · rfl
          · have := hg _ hb; omega
        rw [this, ih (by omega)]; simp
    have := key (3 - v 5) (by omega)
    rw [show v 5 + (3 - v 5) = 3 by omega] at this
    exact this.symm
  obtain ⟨q1, q2⟩ := s
  have i1 : q1 = n32 (smT v g T 3) := by rw [← sm3]; exact i1
  subst i1
  have i3 : Fr PM m3 q2 := i3
  have i4 : KN v q2 := i4
  have sl := smT_le hv hg hT hV 3 (by omega)
  have ac2 : AC q2 acc := s1.fr (fun i a b => i3 0 i (by unfold PM; omega)) (fun c => i3 2 c (by unfold PM; omega))
  obtain ⟨f5, f8⟩ := ac2.fw
  have PMS : Fr PS m3 q2 := i3.mono (fun s i z => by unfold PS; unfold PM at z; omega)
  have ck : cpok (n32 0) (n32 0) (n32 3) 3 3 = true := cp00 (n := 3) (by omega)
  -- the plan is kept
  have kp : ∃ mk, mk = upA (up (up (up q2 0 5 (n32 (pop7 (T 3)))) 0 4 (n32 (smT v g T 3))) 0 3 (n32 (T 3))) 2 (va_cpy (q2 7) (q2 2) 0 0 3) ∧ Fr PS m3 mk ∧ SI v g dr mk T (some (pop7 (T 3), smT v g T 3, T)) := by
    refine ⟨_, rfl, ?_, ?_⟩
    · refine Fr.upA ?_ 2 _ (fun i => Or.inr (Or.inl rfl))
      exact ((PMS.up 0 5 _ (by unfold PS; omega)).up 0 4 _ (by unfold PS; omega)).up 0 3 _ (by unfold PS; omega)
    · refine ⟨⟨?_, ⟨pl, by show smT v g T 3 ≤ 20000; omega⟩, ?_, ?_, fun c hc => ?_⟩, fun c X hc hX => ?_, ?_, ?_, fun c hc => ?_⟩
      · simp (disch := omega) only [up_at, up_ms, up_mi, upA_at, upA_ms]
      · simp (disch := omega) only [up_at, up_ms, up_mi, upA_at, upA_ms]
      · simp (disch := omega) only [up_at, up_ms, up_mi, upA_at, upA_ms]
      · rw [upA_at, cp_at hc, i3 7 c (by unfold PM; omega)]; exact s5 c hc
      · simp (disch := omega) only [up_at, up_ms, up_mi, upA_at, upA_ms]; exact i4 c X hc hX
      · simp (disch := omega) only [up_at, up_ms, up_mi, upA_at, upA_ms]; rw [i3 0 7 (by unfold PM; omega)]; exact s3
      · simp (disch := omega) only [up_at, up_ms, up_mi, upA_at, upA_ms]; rw [i3 0 8 (by unfold PM; omega)]; exact s4
      · simp (disch := omega) only [up_at, up_ms, up_mi, upA_at, upA_ms]; rw [i3 7 c (by unfold PM; omega)]; exact s5 c hc
  obtain ⟨mk, mk1, mk2, mk3⟩ := kp
  have r7 : ∀ x y z, (up (up (up q2 0 5 x) 0 4 y) 0 3 z) 7 = q2 7 := fun x y z => by rw [up_row _ _ _ _ _ (by decide), up_row _ _ _ _ _ (by decide), up_row _ _ _ _ _ (by decide)]
  have r2 : ∀ x y z, (up (up (up q2 0 5 x) 0 4 y) 0 3 z) 2 = q2 2 := fun x y z => by rw [up_row _ _ _ _ _ (by decide), up_row _ _ _ _ _ (by decide), up_row _ _ _ _ _ (by decide)]
  have ex : ∀ K : Int32 → Int32 → Mem → Option Mem, f_X4_keepIfBetter_L5 K m1 100000 (n32 0) (n32 0) m3 = K (n32 (smT v g T 3)) (n32 (v 5)) q2 := fun K => i2 (fun b ac => K ac.1 b ac.2)
  have same : SI v g dr q2 T acc := by
    refine ⟨ac2, i4, ?_, ?_, fun c hc => ?_⟩
    · rw [i3 0 7 (by unfold PM; omega)]; exact s3
    · rw [i3 0 8 (by unfold PM; omega)]; exact s4
    · rw [i3 7 c (by unfold PM; omega)]; exact s5 c hc
  rw [show (0 : Int32) = n32 0 from rfl, ex]
  cases acc with
  | none =>
    have f5 : q2 0 5 = n32 8 := f5
    have lf : leaf v g none T = some (pop7 (T 3), smT v g T 3, T) := by unfold leaf; rw [if_pos hV]
    rw [lf]
    refine ⟨mk, ?_, mk2, mk3⟩
    rw [mk1]
    simp (maxSteps := 400000) (disch := omega) only [n32_lit, n32_add, n32_mul, n32_lt, n32_le, n32_eq, n32_nat, n32_inb, gd_dec, gdE, ↓nmE, ↓jnE, ↓bsE, Nat.reduceAdd, Nat.reduceMul, Nat.reduceSub, Nat.reduceLT, Nat.reduceLeDiff, Nat.reduceEqDiff, ↓reduceIte, decide_true, decide_false, and_true, true_and, and_false, false_and, or_false, false_or, or_true, true_or, not_true_eq_false, not_false_eq_true, eq_self, Nat.zero_add, Nat.add_zero, Nat.mul_zero, Nat.mul_one, Nat.zero_le, Nat.not_lt_zero, bind_sm, bind_sm2, bn, f5, show pop7 (T 3) < 8 by omega, ck, r7, r2]
  | some a =>
    have f5 : q2 0 5 = n32 a.1 := f5
    have f8 : a.1 ≤ 8 := f8
    have b3 : q2 0 4 = n32 a.2.1 := ac2.2.2.1
    have b2 : a.2.1 ≤ 20000 := ac2.2.1.2
    by_cases q : pop7 (T 3) < a.1 ∨ (pop7 (T 3) = a.1 ∧ smT v g T 3 < a.2.1)
    · have lf : leaf v g (some a) T = some (pop7 (T 3), smT v g T 3, T) := by unfold leaf; rw [if_pos hV]; show (if _ then _ else _) = _; rw [if_pos q]
      rw [lf]
      refine ⟨mk, ?_, mk2, mk3⟩
      rw [mk1]
      by_cases y1 : pop7 (T 3) < a.1
      · simp (maxSteps := 400000) (disch := omega) only [n32_lit, n32_add, n32_mul, n32_lt, n32_le, n32_eq, n32_nat, n32_inb, gd_dec, gdE, ↓nmE, ↓jnE, ↓bsE, Nat.reduceAdd, Nat.reduceMul, Nat.reduceSub, Nat.reduceLT, Nat.reduceLeDiff, Nat.reduceEqDiff, ↓reduceIte, decide_true, decide_false, and_true, true_and, and_false, false_and, or_false, false_or, or_true, true_or, not_true_eq_false, not_false_eq_true, eq_self, Nat.zero_add, Nat.add_zero, Nat.mul_zero, Nat.mul_one, Nat.zero_le, Nat.not_lt_zero, bind_sm, bind_sm2, bn, f5, y1, ck, r7, r2]
      · have y2 : pop7 (T 3) = a.1 := by omega
        have y3 : ¬ a.2.1 ≤ smT v g T 3 := by omega
        simp (maxSteps := 400000) (disch := omega) only [n32_lit, n32_add, n32_mul, n32_lt, n32_le, n32_eq, n32_nat, n32_inb, gd_dec, gdE, ↓nmE, ↓jnE, ↓bsE, Nat.reduceAdd, Nat.reduceMul, Nat.reduceSub, Nat.reduceLT, Nat.reduceLeDiff, Nat.reduceEqDiff, ↓reduceIte, decide_true, decide_false, and_true, true_and, and_false, false_and, or_false, false_or, or_true, true_or, not_true_eq_false, not_false_eq_true, eq_self, Nat.zero_add, Nat.add_zero, Nat.mul_zero, Nat.mul_one, Nat.zero_le, Nat.not_lt_zero, bind_sm, bind_sm2, bn, f5, b3, y3, ck, r7, r2]
        rw [if_neg y1, if_pos y2]
    · have lf : leaf v g (some a) T = some a := by unfold leaf; rw [if_pos hV]; show (if _ then _ else _) = _; rw [if_neg q]
      rw [lf]
      refine ⟨q2, ?_, PMS, same⟩
      have y1 : ¬ pop7 (T 3) < a.1 := by omega
      by_cases y2 : pop7 (T 3) = a.1
      · have y3 : a.2.1 ≤ smT v g T 3 := by omega
        simp (maxSteps := 400000) (disch := omega) only [n32_lit, n32_add, n32_mul, n32_lt, n32_le, n32_eq, n32_nat, n32_inb, gd_dec, gdE, ↓nmE, ↓jnE, ↓bsE, Nat.reduceAdd, Nat.reduceMul, Nat.reduceSub, Nat.reduceLT, Nat.reduceLeDiff, Nat.reduceEqDiff, ↓reduceIte, decide_true, decide_false, and_true, true_and, and_false, false_and, or_false, false_or, or_true, true_or, not_true_eq_false, not_false_eq_true, eq_self, Nat.zero_add, Nat.add_zero, Nat.mul_zero, Nat.mul_one, Nat.zero_le, Nat.not_lt_zero, bind_sm, bind_sm2, bn, f5, y1, y2, Nat.lt_irrefl, b3, y3]
      · simp (maxSteps := 400000) (disch := omega) only [n32_lit, n32_add, n32_mul, n32_lt, n32_le, n32_eq, n32_nat, n32_inb, gd_dec, gdE, ↓nmE, ↓jnE, ↓bsE, Nat.reduceAdd, Nat.reduceMul, Nat.reduceSub, Nat.reduceLT, Nat.reduceLeDiff, Nat.reduceEqDiff, ↓reduceIte, decide_true, decide_false, and_true, true_and, and_false, false_and, or_false, false_or, or_true, true_or, not_true_eq_false, not_false_eq_true, eq_self, Nat.zero_add, Nat.add_zero, Nat.mul_zero, Nat.mul_one, Nat.zero_le, Nat.not_lt_zero, bind_sm, bind_sm2, bn, f5, y1, y2]
end EV
