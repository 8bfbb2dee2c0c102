/-! all ways of going home, in their order -/
def addT (T : Nat → Nat) (d p : Nat) : Nat → Nat := fun i => if i = d then T i ||| 2 ^ p else T i
def Val (v : Nat → Nat) (g : Nat) (T : Nat → Nat) : Prop := ∀ c, c < 3 → (g.testBit c = true → Fit v c (T c)) ∧ (g.testBit c = false → T c = 0)
def smT (v : Nat → Nat) (g : Nat) (T : Nat → Nat) : Nat → Nat := fsm (fun c => if g.testBit c then (lst v c (T c)).1 else 0)
abbrev Acc : Type := Option (Nat × Nat × (Nat → Nat))
noncomputable def leaf (v : Nat → Nat) (g : Nat) (acc : Acc) (T : Nat → Nat) : Acc := @ite _ (Val v g T) (Classical.propDecidable _) (match acc with
  | none => some (pop7 (T 3), smT v g T 3, T)
  | some a => if pop7 (T 3) < a.1 ∨ (pop7 (T 3) = a.1 ∧ smT v g T 3 < a.2.1) then some (pop7 (T 3), smT v g T 3, T) else some a) acc
noncomputable def spec (v : Nat → Nat) (g : Nat) : List Nat → Acc → (Nat → Nat) → Acc
  | [], acc, T => leaf v g acc T
  | p :: ps, acc, T => spec v g ps (spec v g ps (spec v g ps (spec v g ps acc (addT T 0 p)) (addT T 1 p)) (addT T 2 p)) (addT T 3 p)
/-- sets by the digits of a row, the last rider first -/
def Tpre (R : Nat → Nat) : Nat → Nat → Nat → Nat
  | 0, _ => fun _ => 0
  | m + 1, x => addT (Tpre R m (x / 4)) (x % 4) (R m)
section EV
variable {w : Mem} {v : Nat → Nat} {g : Nat}
/-- no driver -/
def ndr (v : Nat → Nat) (g p : Nat) : Bool := decide (¬ ∃ c, c < v 5 ∧ v (100 + 3 * c) = p ∧ g.testBit c = true)
def rdl (v : Nat → Nat) (g n : Nat) : List Nat := (List.range n).filter (fun p => ndr v g p)
theorem rdl_succ (n : Nat) : rdl v g (n + 1) = rdl v g n ++ (if ndr v g n then [n] else []) := by
  unfold rdl
  rw [List.range_succ, List.filter_append]
  congr 1
  cases h : ndr v g n
  · simp [h]
  · simp [h]
theorem rdl_len (n : Nat) : (rdl v g n).length ≤ n := by
  have : (rdl v g n).length ≤ (List.range n).length := List.length_filter_le _ _
  rw [List.length_range] at this; exact this
theorem rdl_mem {n p : Nat} (h : p ∈ rdl v g n) : p < n ∧ ndr v g p = true := by
  unfold rdl at h
  obtain ⟨a, b⟩ := List.mem_filter.mp h
  exact ⟨List.mem_range.mp a, b⟩
def P30 (s i : Nat) : Prop := s = 30 ∨ (s = 0 ∧ i = 30)
theorem t_layRiders (h : Sh (w 6) v) (hv : Vd v) (hg : g < 8) (h27 : w 0 27 = n32 g) : ∃ w', f_X8_layRiders w = some w' ∧ Fr P30 w w' ∧ w' 0 30 = n32 (rdl v g (v 4)).length ∧ ∀ k, k < (rdl v g (v 4)).length → w' 30 k = n32 ((rdl v g (v 4)).getD k 0) := by
  have h4 := hv.1.1
  have h5 := hv.1.2.1
  unfold f_X8_layRiders
  rw [nm_eq]
  obtain ⟨s, ⟨i1, i3, i4⟩, i2⟩ := loop_k (S := Mem) (fun K t u s => f_X8_layRiders_L7 K t u s) (v 4) (fun i s => Fr P30 w s ∧ s 0 30 = n32 (rdl v g i).length ∧ ∀ k, k < (rdl v g i).length → s 30 k = n32 ((rdl v g i).getD k 0)) (fun K t s hI => by
      refine Eq.trans (f_X8_layRiders_L7.eq_2 _ _ _ _) ?_
      have e4 : s 6 4 = n32 (v 4) := by rw [hI.1 6 4 (by unfold P30; omega)]; exact h 4 (by omega)
      simp (disch := omega) only [n32_lit, n32_add, n32_mul, n32_lt, n32_le, n32_eq, n32_nat, n32_inb, gd_dec, gd_one, nm_eq, jn_eq, Option.bind_some, Nat.reduceAdd, Nat.reduceMul, Nat.reduceSub, Nat.reduceLT, Nat.reduceLeDiff, Nat.reduceEqDiff, ↓reduceIte, decide_true, decide_false, and_true, true_and, and_false, false_and, or_false, false_or, or_true, true_or, not_true_eq_false, not_false_eq_true, eq_self, Nat.zero_add, Nat.add_zero, Nat.mul_zero, Nat.mul_one, Nat.zero_le, Nat.not_lt_zero, bind_sm, bind_sm2, e4, Nat.le_refl]) (fun i s hi hI => by
      obtain ⟨h1, h2, h3⟩ := hI
      have sh : Sh (s 6) v := by rw [h1.row 6 (fun j => by unfold P30; omega)]; exact h
      have s27 : s 0 27 = n32 g := by rw [h1 0 27 (by unfold P30; omega)]; exact h27
      have ll := rdl_len (v := v) (g := g) i
      obtain ⟨r, r1, r2⟩ := t_carOf sh hv (p := i) (by omega)
      rw [rdl_succ]
      have put : ndr v g i = true → (∀ K t, f_X8_layRiders_L7 K (t + 1) (n32 i) s = f_X8_layRiders_L7 K t (n32 (i + 1)) (up (up s 30 (rdl v g i).length (n32 i)) 0 30 (n32 ((rdl v g i).length + 1)))) → ∃ s', (Fr P30 w s' ∧ s' 0 30 = n32 (rdl v g i ++ (if ndr v g i then [i] else [])).length ∧ ∀ k, k < (rdl v g i ++ (if ndr v g i then [i] else [])).length → s' 30 k = n32 ((rdl v g i ++ (if ndr v g i then [i] else [])).getD k 0)) ∧ ∀ K t, f_X8_layRiders_L7 K (t + 1) (n32 i) s = f_X8_layRiders_L7 K t (n32 (i + 1)) s' := by
        intro hn hp
        rw [hn, if_pos rfl]
        refine ⟨_, ⟨(h1.up 30 _ _ (Or.inl rfl)).up 0 30 _ (Or.inr ⟨rfl, rfl⟩), ?_, ?_⟩, hp⟩
        · simp (disch := omega) only [up_at, up_ms, up_mi, upA_at, upA_ms]; simp
        · intro k hk
          simp at hk
          by_cases z : k = (rdl v g i).length
          · rw [z, getD_app2]; simp (disch := omega) only [up_at, up_ms, up_mi, upA_at, upA_ms]
          · rw [getD_app1 (by omega)]
            simp (disch := omega) only [up_at, up_ms, up_mi, upA_at, upA_ms]
            exact h3 k (by omega)
      rcases r2 with ⟨c, c1, c2, c3⟩ | ⟨c1, c2⟩
      · have c3' := c3
        cases hb : g.testBit c with
        | false =>
          have hn : ndr v g i = true := decide_eq_true (by
            intro ⟨c', d1, d2, d3⟩
            have := (hv.1.2.2.2.2.2.2.2 c c1).2.2.2.2 c' d1 (by rw [d2, c2])
            rw [this, hb] at d3; cases d3)
          refine put hn (fun K t => ?_)
          refine Eq.trans (f_X8_layRiders_L7.eq_2 _ _ _ _) ?_
          rw [r1, c3]
          have nn := neN (k := c) (by omega)
          simp (maxSteps := 400000) (disch := omega) only [n32_lit, n32_add, n32_mul, n32_lt, n32_le, n32_eq, n32_nat, n32_inb, gd_dec, gdE, ↓nmE, ↓jnE, ↓bsE, Nat.reduceAdd, Nat.reduceMul, Nat.reduceSub, Nat.reduceLT, Nat.reduceLeDiff, Nat.reduceEqDiff, ↓reduceIte, decide_true, decide_false, and_true, true_and, and_false, false_and, or_false, false_or, or_true, true_or, not_true_eq_false, not_false_eq_true, eq_self, Nat.zero_add, Nat.add_zero, Nat.mul_zero, Nat.mul_one, Nat.zero_le, Nat.not_lt_zero, bind_sm, bind_sm2, up_at, up_ms, up_mi, upA_at, upA_ms, sh 4 (by decide), show ¬ v 4 ≤ i by omega, nn, s27, n32_bit, n32_b0, hb, h2, show (rdl v g i).length < 7 by omega]
        | true =>
          have hn : ndr v g i = false := decide_eq_false (by
            intro q
            exact q ⟨c, c1, c2, hb⟩)
          rw [hn]
          refine ⟨s, ⟨h1, by simpa using h2, by simpa using h3⟩, fun K t => ?_⟩
          refine Eq.trans (f_X8_layRiders_L7.eq_2 _ _ _ _) ?_
          rw [r1, c3]
          have nn := neN (k := c) (by omega)
          simp (maxSteps := 400000) (disch := omega) only [n32_lit, n32_add, n32_mul, n32_lt, n32_le, n32_eq, n32_nat, n32_inb, gd_dec, gdE, ↓nmE, ↓jnE, ↓bsE, Nat.reduceAdd, Nat.reduceMul, Nat.reduceSub, Nat.reduceLT, Nat.reduceLeDiff, Nat.reduceEqDiff, ↓reduceIte, decide_true, decide_false, and_true, true_and, and_false, false_and, or_false, false_or, or_true, true_or, not_true_eq_false, not_false_eq_true, eq_self, Nat.zero_add, Nat.add_zero, Nat.mul_zero, Nat.mul_one, Nat.zero_le, Nat.not_lt_zero, bind_sm, bind_sm2, up_at, up_ms, up_mi, upA_at, upA_ms, sh 4 (by decide), show ¬ v 4 ≤ i by omega, nn, s27, n32_bit, n32_b0, hb]
          simp
      · have hn : ndr v g i = true := decide_eq_true (by
          intro ⟨c', d1, d2, d3⟩
          exact c1 c' d1 d2)
        refine put hn (fun K t => ?_)
        refine Eq.trans (f_X8_layRiders_L7.eq_2 _ _ _ _) ?_
        rw [r1, c2]
        simp (maxSteps := 400000) (disch := omega) only [n32_lit, n32_add, n32_mul, n32_lt, n32_le, n32_eq, n32_nat, n32_inb, gd_dec, gdE, ↓nmE, ↓jnE, ↓bsE, Nat.reduceAdd, Nat.reduceMul, Nat.reduceSub, Nat.reduceLT, Nat.reduceLeDiff, Nat.reduceEqDiff, ↓reduceIte, decide_true, decide_false, and_true, true_and, and_false, false_and, or_false, false_or, or_true, true_or, not_true_eq_false, not_false_eq_true, eq_self, Nat.zero_add, Nat.add_zero, Nat.mul_zero, Nat.mul_one, Nat.zero_le, Nat.not_lt_zero, bind_sm, bind_sm2, up_at, up_ms, up_mi, upA_at, upA_ms, sh 4 (by decide), show ¬ v 4 ≤ i by omega, h2, show (rdl v g i).length < 7 by omega]) (v 4) 0 (up w 0 30 (n32 0)) 100000 (by omega) (by omega) ⟨Fr.refl.up 0 30 _ (Or.inr ⟨rfl, rfl⟩), by simp (disch := omega) only [up_at, up_ms, up_mi, upA_at, upA_ms]; rfl, fun k hk => by simp [rdl] at hk⟩
  exact ⟨s, i2 _, i1, i3, i4⟩
/-- what a set of riders takes in a car; none where it can't be -/
noncomputable def tkv (v : Nat → Nat) (g c X : Nat) : Int32 := @ite _ (g.testBit c = true ∧ X < 2 ^ v 4 ∧ Fit v c X) (Classical.propDecidable _) (n32 (lst v c X).1) (-n32 1000000)
def P22 (s _i : Nat) : Prop := s = 22 ∨ s = 23 ∨ s = 24 ∨ s = 25
theorem t_layTakes (h : Sh (w 6) v) (hv : Vd v) (hg : ∀ c, g.testBit c = true → c < v 5) (hg8 : g < 8) (h27 : w 0 27 = n32 g) : ∃ w', f_X8_layTakes w = some w' ∧ Fr P22 w w' ∧ ∀ c, c < 3 → ∀ X, X < 128 → w' 22 (128 * c + X) = tkv v g c X := by
  have h4 := hv.1.1
  have p4 : 2 ^ v 4 ≤ 128 := Nat.pow_le_pow_right (n := 2) (by omega) h4
  -- a row of sets
  have inner : ∀ c, c < 3 → ∀ s0 : Mem, Fr P22 w s0 → (∀ c', c' < c → ∀ X, X < 128 → s0 22 (128 * c' + X) = tkv v g c' X) → ∃ s1, (∀ K, f_X8_layTakes_L9 K (n32 c) 100000 (n32 0) s0 = K (n32 128) s1) ∧ Fr P22 w s1 ∧ ∀ c', c' < c + 1 → ∀ X, X < 128 → s1 22 (128 * c' + X) = tkv v g c' X := by
    intro c hc s0 hs0 hk0
    obtain ⟨s1, ⟨i1, i3, i4⟩, i2⟩ := loop_k (S := Mem) (fun K t u s => f_X8_layTakes_L9 K (n32 c) t u s) 128 (fun i s => Fr P22 w s ∧ (∀ c', c' < c → ∀ X, X < 128 → s 22 (128 * c' + X) = tkv v g c' X) ∧ ∀ X, X < i → s 22 (128 * c + X) = tkv v g c X) (fun K t s _ => by
      refine Eq.trans (f_X8_layTakes_L9.eq_2 _ _ _ _ _) ?_
      simp (disch := omega) only [n32_lit, n32_add, n32_mul, n32_lt, n32_le, n32_eq, n32_nat, n32_inb, gd_dec, gd_one, nm_eq, jn_eq, Option.bind_some, Nat.reduceAdd, Nat.reduceMul, Nat.reduceSub, Nat.reduceLT, Nat.reduceLeDiff, Nat.reduceEqDiff, ↓reduceIte, decide_true, decide_false, and_true, true_and, and_false, false_and, or_false, false_or, or_true, true_or, not_true_eq_false, not_false_eq_true, eq_self, Nat.zero_add, Nat.add_zero, Nat.mul_zero, Nat.mul_one, Nat.zero_le, Nat.not_lt_zero, bind_sm, bind_sm2, Nat.le_refl]) (fun X s hX hI => by
      obtain ⟨h1, h2, h3⟩ := hI
      have sh : Sh (s 6) v := by rw [h1.row 6 (fun j => by unfold P22; omega)]; exact h
      have s27 : s 0 27 = n32 g := by rw [h1 0 27 (by unfold P22; omega)]; exact h27
      have on4 := n32_one (i := v 4) (by omega)
      have fin : ∀ (s2 : Mem) (x : Int32), Fr P22 s s2 → s2 22 = s 22 → x = tkv v g c X → (Fr P22 w (up s2 22 (128 * c + X) x) ∧ (∀ c', c' < c → ∀ Y, Y < 128 → (up s2 22 (128 * c + X) x) 22 (128 * c' + Y) = tkv v g c' Y) ∧ ∀ Y, Y < X + 1 → (up s2 22 (128 * c + X) x) 22 (128 * c + Y) = tkv v g c Y) := by
        intro s2 x f1 f2 f3
        refine ⟨(h1.trans f1).up 22 _ _ (Or.inl rfl), fun c' hc' Y hY => ?_, fun Y hY => ?_⟩
        · rw [up_mi (by omega), f2]; exact h2 c' hc' Y hY
        · by_cases z : Y = X
          · rw [z, up_at, f3]
          · rw [up_mi (by omega), f2]; exact h3 Y (by omega)
      have none' : ¬ (g.testBit c = true ∧ X < 2 ^ v 4 ∧ Fit v c X) → tkv v g c X = -n32 1000000 := fun q => by unfold tkv; rw [if_neg q]
      cases hb : g.testBit c with
      | false =>
        refine ⟨up s 22 (128 * c + X) (-n32 1000000), fin s _ Fr.refl rfl (none' (fun q => by rw [hb] at q; exact absurd q.1 (by decide))).symm, fun K t => ?_⟩
        refine Eq.trans (f_X8_layTakes_L9.eq_2 _ _ _ _ _) ?_
        simp (disch := omega) only [n32_lit, n32_add, n32_mul, n32_lt, n32_le, n32_eq, n32_nat, n32_inb, gd_dec, gd_one, nm_eq, jn_eq, Option.bind_some, Nat.reduceAdd, Nat.reduceMul, Nat.reduceSub, Nat.reduceLT, Nat.reduceLeDiff, Nat.reduceEqDiff, ↓reduceIte, decide_true, decide_false, and_true, true_and, and_false, false_and, or_false, false_or, or_true, true_or, not_true_eq_false, not_false_eq_true, eq_self, Nat.zero_add, Nat.add_zero, Nat.mul_zero, Nat.mul_one, Nat.zero_le, Nat.not_lt_zero, bind_sm, bind_sm2, show ¬ 128 ≤ X by omega, s27, n32_bit, n32_b1, hb, show 128 * c + X < 384 by omega]
        simp
      | true =>
        have hc5 := hg c hb
        by_cases q1 : X < 2 ^ v 4
        · rcases t_fits sh hv hc5 hX with ⟨f1, f2⟩ | ⟨f1, f2⟩
          · have jx := fit_jx hv hc5 q1 f1
            obtain ⟨s2, l1, l2, l3⟩ := t_leastOf sh hv hc5 q1 jx.2.1
            refine ⟨up s2 22 (128 * c + X) (n32 (lst v c X).1), fin s2 _ (l2.mono (fun s i z => by unfold P22; unfold P235 at z; omega)) (l2.row 22 (fun i => by unfold P235; omega)) (by unfold tkv; rw [if_pos ⟨hb, q1, f1⟩]), fun K t => ?_⟩
            refine Eq.trans (f_X8_layTakes_L9.eq_2 _ _ _ _ _) ?_
            simp (disch := omega) only [n32_lit, n32_add, n32_mul, n32_lt, n32_le, n32_eq, n32_nat, n32_inb, gd_dec, gd_one, nm_eq, jn_eq, Option.bind_some, Nat.reduceAdd, Nat.reduceMul, Nat.reduceSub, Nat.reduceLT, Nat.reduceLeDiff, Nat.reduceEqDiff, ↓reduceIte, decide_true, decide_false, and_true, true_and, and_false, false_and, or_false, false_or, or_true, true_or, not_true_eq_false, not_false_eq_true, eq_self, Nat.zero_add, Nat.add_zero, Nat.mul_zero, Nat.mul_one, Nat.zero_le, Nat.not_lt_zero, bind_sm, bind_sm2, show ¬ 128 ≤ X by omega, s27, n32_bit, n32_b1, hb, sh 4 (by decide), on4, show ¬ 2 ^ v 4 ≤ X by omega, f2, l1, show 128 * c + X < 384 by omega]
          · refine ⟨up s 22 (128 * c + X) (-n32 1000000), fin s _ Fr.refl rfl (none' (fun q => f1 q.2.2)).symm, fun K t => ?_⟩
            refine Eq.trans (f_X8_layTakes_L9.eq_2 _ _ _ _ _) ?_
            simp (disch := omega) only [n32_lit, n32_add, n32_mul, n32_lt, n32_le, n32_eq, n32_nat, n32_inb, gd_dec, gd_one, nm_eq, jn_eq, Option.bind_some, Nat.reduceAdd, Nat.reduceMul, Nat.reduceSub, Nat.reduceLT, Nat.reduceLeDiff, Nat.reduceEqDiff, ↓reduceIte, decide_true, decide_false, and_true, true_and, and_false, false_and, or_false, false_or, or_true, true_or, not_true_eq_false, not_false_eq_true, eq_self, Nat.zero_add, Nat.add_zero, Nat.mul_zero, Nat.mul_one, Nat.zero_le, Nat.not_lt_zero, bind_sm, bind_sm2, show ¬ 128 ≤ X by omega, s27, n32_bit, n32_b1, hb, sh 4 (by decide), on4, show ¬ 2 ^ v 4 ≤ X by omega, f2, show 128 * c + X < 384 by omega]
        · refine ⟨up s 22 (128 * c + X) (-n32 1000000), fin s _ Fr.refl rfl (none' (fun q => q1 q.2.1)).symm, fun K t => ?_⟩
          refine Eq.trans (f_X8_layTakes_L9.eq_2 _ _ _ _ _) ?_
          simp (disch := omega) only [n32_lit, n32_add, n32_mul, n32_lt, n32_le, n32_eq, n32_nat, n32_inb, gd_dec, gd_one, nm_eq, jn_eq, Option.bind_some, Nat.reduceAdd, Nat.reduceMul, Nat.reduceSub, Nat.reduceLT, Nat.reduceLeDiff, Nat.reduceEqDiff, ↓reduceIte, decide_true, decide_false, and_true, true_and, and_false, false_and, or_false, false_or, or_true, true_or, not_true_eq_false, not_false_eq_true, eq_self, Nat.zero_add, Nat.add_zero, Nat.mul_zero, Nat.mul_one, Nat.zero_le, Nat.not_lt_zero, bind_sm, bind_sm2, show ¬ 128 ≤ X by omega, s27, n32_bit, n32_b1, hb, sh 4 (by decide), on4, show 2 ^ v 4 ≤ X by omega, show 128 * c + X < 384 by omega]) 128 0 s0 100000 (by omega) (by omega) ⟨hs0, hk0, fun X hX => by omega⟩
    refine ⟨s1, i2, i1, fun c' hc' X hX => ?_⟩
    by_cases z : c' = c
    · rw [z]; exact i4 X hX
    · exact i3 c' (by omega) X hX
  unfold f_X8_layTakes
  obtain ⟨s, ⟨i1, i3⟩, i2⟩ := loop_k (S := Mem) (fun K t u s => f_X8_layTakes_L2 K t u s) 3 (fun c s => Fr P22 w s ∧ ∀ c', c' < c → ∀ X, X < 128 → s 22 (128 * c' + X) = tkv v g c' X) (fun K t s _ => by
      refine Eq.trans (f_X8_layTakes_L2.eq_2 _ _ _ _) ?_
      simp (disch := omega) only [n32_lit, n32_add, n32_mul, n32_lt, n32_le, n32_eq, n32_nat, n32_inb, gd_dec, gd_one, nm_eq, jn_eq, Option.bind_some, Nat.reduceAdd, Nat.reduceMul, Nat.reduceSub, Nat.reduceLT, Nat.reduceLeDiff, Nat.reduceEqDiff, ↓reduceIte, decide_true, decide_false, and_true, true_and, and_false, false_and, or_false, false_or, or_true, true_or, not_true_eq_false, not_false_eq_true, eq_self, Nat.zero_add, Nat.add_zero, Nat.mul_zero, Nat.mul_one, Nat.zero_le, Nat.not_lt_zero, bind_sm, bind_sm2, Nat.le_refl]) (fun c s hc hI => by
      obtain ⟨s1, e1, e2, e3⟩ := inner c hc s hI.1 hI.2
      refine ⟨s1, ⟨e2, e3⟩, fun K t => ?_⟩
      refine Eq.trans (f_X8_layTakes_L2.eq_2 _ _ _ _) ?_
      simp (maxSteps := 400000) (disch := omega) only [n32_lit, n32_add, n32_mul, n32_lt, n32_le, n32_eq, n32_nat, n32_inb, gd_dec, gdE, ↓nmE, ↓jnE, ↓bsE, Nat.reduceAdd, Nat.reduceMul, Nat.reduceSub, Nat.reduceLT, Nat.reduceLeDiff, Nat.reduceEqDiff, ↓reduceIte, decide_true, decide_false, and_true, true_and, and_false, false_and, or_false, false_or, or_true, true_or, not_true_eq_false, not_false_eq_true, eq_self, Nat.zero_add, Nat.add_zero, Nat.mul_zero, Nat.mul_one, Nat.zero_le, Nat.not_lt_zero, bind_sm, bind_sm2, show ¬ 3 ≤ c by omega, e1]) 3 0 w 100000 (by omega) (by omega) ⟨Fr.refl, fun c' hc' => by omega⟩
  exact ⟨s, i2 _, i1, i3⟩
end EV
