/-! the class: walks -/
def wo (X p : Nat) : Nat := if X.testBit p then X - 2 ^ p else X
theorem wo_rl : ∀ X, X < 128 → ∀ p, p < 7 → rl (wo X p) 7 = (rl X 7).filter (fun q => !(q == p)) := by decide +kernel
theorem wo_lt {X p : Nat} : wo X p ≤ X := by
  unfold wo
  split
  · exact Nat.sub_le _ _
  · exact Nat.le_refl _
theorem rl_and : ∀ X, X < 128 → ∀ s, s < 128 → rl (X &&& s) 7 = (rl X 7).filter (fun q => s.testBit q) := by
  intro X _ s _
  unfold rl
  rw [List.filter_filter]
  refine List.filter_congr (fun q _ => ?_)
  rw [Nat.testBit_and, Bool.and_comm]
theorem rl_zero : ∀ X, X < 128 → ((rl X 7 = []) ↔ X = 0) := by decide +kernel
theorem rl_nodup {X p : Nat} (h : X < 128) (hp : p < 7) (hb : X.testBit p = true) : (rl (wo X p) 7).length + 1 = (rl X 7).length := by
  have : ∀ X, X < 128 → ∀ p, p < 7 → X.testBit p = true → (rl (wo X p) 7).length + 1 = (rl X 7).length := by decide +kernel
  exact this X h p hp hb
theorem wo_bit {X p q : Nat} (h : X < 128) (hp : p < 7) (hq : (wo X p).testBit q = true) : X.testBit q = true := by
  by_cases h7 : q < 7
  · have : ∀ X, X < 128 → ∀ p, p < 7 → ∀ q, q < 7 → (wo X p).testBit q = true → X.testBit q = true := by decide +kernel
    exact this X h p hp q h7 hq
  · have : (wo X p).testBit q = false := Nat.testBit_lt_two_pow (Nat.lt_of_le_of_lt wo_lt (Nat.lt_of_lt_of_le h (Nat.pow_le_pow_right (n := 2) (by omega) (show 7 ≤ q by omega))))
    rw [hq] at this; cases this
theorem rl_full {A P : Nat} (hA : A < 2 ^ P) (hP : P ≤ 7) : rl A P = rl A 7 := by
  have key : ∀ d, rl A (P + d) = rl A P := by
    intro d
    induction d with
    | zero => rfl
    | succ d ih =>
      rw [show P + (d + 1) = P + d + 1 by omega, rl_succ, ih]
      have : A.testBit (P + d) = false := Nat.testBit_lt_two_pow (Nat.lt_of_lt_of_le hA (Nat.pow_le_pow_right (n := 2) (by omega) (by omega)))
      rw [this]; simp
  have := key (7 - P)
  rw [show P + (7 - P) = 7 by omega] at this
  exact this.symm
section EV
variable {m1 : Mem} {v : Nat → Nat}
/-- minutes so far and where, after some were set down -/
def wt (v : Nat → Nat) (at_ : Nat) : List Nat → Nat × Nat
  | [] => (0, at_)
  | p :: l => (dst v at_ (hm v p) + (wt v (hm v p) l).1, (wt v (hm v p) l).2)
theorem wt_cst (last : Nat) : ∀ (pre : List Nat) (at_ : Nat) (l : List Nat), cst v last at_ (pre ++ l) = (wt v at_ pre).1 + cst v last (wt v at_ pre).2 l
  | [], at_, l => by unfold wt; simp
  | p :: pre, at_, l => by
    rw [List.cons_append, cst, wt, wt_cst last pre (hm v p) l, Nat.add_assoc]
theorem wt_snoc : ∀ (pre : List Nat) (at_ p : Nat), wt v at_ (pre ++ [p]) = ((wt v at_ pre).1 + dst v (wt v at_ pre).2 (hm v p), hm v p)
  | [], at_, p => by simp [wt]
  | q :: pre, at_, p => by
    rw [List.cons_append, wt, wt_snoc pre (hm v q) p, wt]
    simp only [Nat.add_assoc]
def Jn (v : Nat → Nat) (a : Nat) : Prop := a < 8 ∧ dst v 0 a < 10000
theorem jn_dst (hv : Vd v) {a b : Nat} (ha : a = 0 ∨ Jn v a) (hb : Jn v b) : dst v a b ≤ 900 ∧ farC (dst v a b) = dst v a b := by
  have h8 : a < 8 := by rcases ha with h | h; omega; exact h.1
  have := hv.2.1 a b h8 hb.1
  have f : dst v a b < 10000 := by
    rcases ha with rfl | ha
    · exact hb.2
    · have e := hv.2.2 a b h8 hb.1
      have x1 : v (8 + a) < 10000 := by have := ha.2; unfold dst at this; rw [show 8 + 8 * 0 + a = 8 + a by omega] at this; exact this
      have x2 : v (8 + b) < 10000 := by have := hb.2; unfold dst at this; rw [show 8 + 8 * 0 + b = 8 + b by omega] at this; exact this
      exact e x1 x2
  unfold dst at *
  have h9 : v (8 + 8 * a + b) ≤ 900 := by omega
  exact ⟨h9, farC_900 h9⟩
def PW (s i : Nat) : Prop := s = 10 ∨ s = 11 ∨ (s = 0 ∧ i = 11)
/-- the walk's cells -/
def WS (m3 : Mem) (acc : Nat × List Nat) (pre : List Nat) : Prop := m3 0 11 = n32 acc.1 ∧ (acc.1 ≤ 1000000 ∧ acc.2.length ≤ 4) ∧ (∀ i, i < acc.2.length → m3 11 i = n32 (acc.2.getD i 0)) ∧ ∀ i, i < pre.length → m3 10 i = n32 (pre.getD i 0)
theorem flat_map_pre (pre : List Nat) (p : Nat) (ls : List (List Nat)) : ((ls.map (fun l => p :: l)).map (fun l => pre ++ l)) = ls.map (fun l => (pre ++ [p]) ++ l) := by
  rw [List.map_map]
  apply List.map_congr_left
  intro l _
  show pre ++ p :: l = _
  simp
theorem lines_len {sk : Nat → Bool} : ∀ f (L : List Nat) (l : List Nat), l ∈ lines sk f L → ∀ x, x ∈ l → x ∈ L
  | 0, L, l, h => by simp [lines] at h
  | f + 1, L, l, h => by
    unfold lines at h
    by_cases z : L = []
    · rw [if_pos z] at h
      have : l = [] := by simpa using h
      subst this; intro x hx; cases hx
    · rw [if_neg z] at h
      obtain ⟨p, hp, hl⟩ := List.mem_flatMap.mp h
      obtain ⟨l', hl', rfl⟩ := List.mem_map.mp hl
      have hpL : p ∈ L := by
        unfold nxt at hp
        split at hp
        · exact (List.mem_filter.mp hp).1
        · exact hp
      intro x hx
      rcases List.mem_cons.mp hx with rfl | hx
      · exact hpL
      · exact (List.mem_filter.mp (lines_len f _ l' hl' x hx)).1
theorem t_walk (hc : Cl m1 v) (hv : Vd v) {last : Nat} (hl : Jn v last) : ∀ (N f X : Nat) (pre : List Nat) (m3 : Mem) (acc : Nat × List Nat), (rl X 7).length = N → N < f → Sub v X → (∀ p, X.testBit p = true → Jn v (hm v p)) → pre.length + N ≤ 4 → (wt v 0 pre).2 = 0 ∨ Jn v (wt v 0 pre).2 → (wt v 0 pre).1 ≤ 900 * pre.length → WS m3 acc pre →
    ∃ m3', f_X4_walk f m1 m3 (n32 last) (n32 X) (n32 (wt v 0 pre).2) (n32 (wt v 0 pre).1) (n32 pre.length) = some m3' ∧ Fr PW m3 m3' ∧ WS m3' (best (cst v last 0) acc ((lines (skv v) (N + 1) (rl X 7)).map (fun l => pre ++ l))) pre := by
  have h4 := hv.1.1
  obtain ⟨sm, sm1, sm2, sm3⟩ := hc.1.2.2.2.2.2.2.1
  have c4 := hc.1.2.2.2.1
  have hhm : ∀ p, p < v 4 → m1 13 p = n32 (hm v p) ∧ hm v p ≤ 7 := fun p hp => ⟨(hc.1.2.2.2.2.2.2.2.1 p hp).2.1, (hv.1.2.2.2.2.2.2.1 p hp).2.2.2.1⟩
  intro N
  induction N with
  | zero =>
    intro f X pre m3 acc hN hf hX hJ hp hat hsp hW
    have hX7 := hX.lt h4
    have X0 : X = 0 := (rl_zero X hX7).mp (List.eq_nil_of_length_eq_zero hN)
    subst X0
    obtain ⟨f, rfl⟩ : ∃ x, f = x + 1 := ⟨f - 1, by omega⟩
    obtain ⟨w1, ⟨w2, w2'⟩, w3, w5⟩ := hW
    have hat8 : (wt v 0 pre).2 < 8 := by rcases hat with h | h; omega; exact h.1
    have jd := jn_dst hv hat hl
    have bt := t_between hc (a := (wt v 0 pre).2) (b := last) hat8 hl.1
    have bt' : f_X3_minutesBetween m1 (n32 (wt v 0 pre).2) (n32 last) = some (n32 (dst v (wt v 0 pre).2 last)) := by rw [bt]; show some (n32 (farC (dst v _ _))) = _; rw [jd.2]
    have lz : (lines (skv v) (0 + 1) (rl 0 7)).map (fun l => pre ++ l) = [pre] := by
      have e : rl 0 7 = [] := (rl_zero 0 (by omega)).mpr rfl
      rw [e]; show [pre ++ []] = _; rw [List.append_nil]
    have cs : cst v last 0 pre = (wt v 0 pre).1 + dst v (wt v 0 pre).2 last := by
      have := wt_cst (v := v) last pre 0 []
      rw [List.append_nil] at this
      rw [this]; rfl
    rw [lz]
    show ∃ m3', f_X4_walk_B (f_X4_walk f) m1 m3 (n32 last) (n32 0) (n32 (wt v 0 pre).2) (n32 (wt v 0 pre).1) (n32 pre.length) = some m3' ∧ Fr PW m3 m3' ∧ WS m3' (pick (cst v last 0) acc pre) pre
    unfold f_X4_walk_B
    rw [w1]
    by_cases q1 : acc.1 ≤ (wt v 0 pre).1
    · have pk : pick (cst v last 0) acc pre = acc := by unfold pick; rw [cs, if_neg (by omega)]
      rw [pk]
      refine ⟨m3, ?_, Fr.refl, w1, ⟨w2, w2'⟩, w3, w5⟩
      simp (maxSteps := 400000) (disch := omega) only [n32_lit, n32_add, n32_mul, n32_lt, n32_le, n32_eq, n32_nat, n32_inb, gd_dec, gdE, ↓nmE, ↓jnE, ↓bsE, Nat.reduceAdd, Nat.reduceMul, Nat.reduceSub, Nat.reduceLT, Nat.reduceLeDiff, Nat.reduceEqDiff, ↓reduceIte, decide_true, decide_false, and_true, true_and, and_false, false_and, or_false, false_or, or_true, true_or, not_true_eq_false, not_false_eq_true, eq_self, Nat.zero_add, Nat.add_zero, Nat.mul_zero, Nat.mul_one, Nat.zero_le, Nat.not_lt_zero, bind_sm, bind_sm2, q1]
    · by_cases q2 : acc.1 ≤ (wt v 0 pre).1 + dst v (wt v 0 pre).2 last
      · have pk : pick (cst v last 0) acc pre = acc := by unfold pick; rw [cs, if_neg (by omega)]
        rw [pk]
        refine ⟨m3, ?_, Fr.refl, w1, ⟨w2, w2'⟩, w3, w5⟩
        simp (maxSteps := 400000) (disch := omega) only [n32_lit, n32_add, n32_mul, n32_lt, n32_le, n32_eq, n32_nat, n32_inb, gd_dec, gdE, ↓nmE, ↓jnE, ↓bsE, Nat.reduceAdd, Nat.reduceMul, Nat.reduceSub, Nat.reduceLT, Nat.reduceLeDiff, Nat.reduceEqDiff, ↓reduceIte, decide_true, decide_false, and_true, true_and, and_false, false_and, or_false, false_or, or_true, true_or, not_true_eq_false, not_false_eq_true, eq_self, Nat.zero_add, Nat.add_zero, Nat.mul_zero, Nat.mul_one, Nat.zero_le, Nat.not_lt_zero, bind_sm, bind_sm2, q1, show pre.length ≤ 4 by omega, bt', q2]
      · have pk : pick (cst v last 0) acc pre = ((wt v 0 pre).1 + dst v (wt v 0 pre).2 last, pre) := by unfold pick; rw [cs, if_pos (by omega)]
        rw [pk]
        have ck : cpok (n32 0) (n32 0) (n32 4) 4 4 = true := cp00 (n := 4) (by omega)
        have rw10 : (up m3 0 11 (n32 ((wt v 0 pre).1 + dst v (wt v 0 pre).2 last))) 10 = m3 10 := up_row _ _ _ _ _ (by decide)
        have rw11 : (up m3 0 11 (n32 ((wt v 0 pre).1 + dst v (wt v 0 pre).2 last))) 11 = m3 11 := up_row _ _ _ _ _ (by decide)
        refine ⟨upA (up m3 0 11 (n32 ((wt v 0 pre).1 + dst v (wt v 0 pre).2 last))) 11 (va_cpy (m3 10) (m3 11) 0 0 4), ?_, ?_, ?_, ⟨?_, ?_⟩, ?_, ?_⟩
        · simp (maxSteps := 400000) (disch := omega) only [n32_lit, n32_add, n32_mul, n32_lt, n32_le, n32_eq, n32_nat, n32_inb, gd_dec, gdE, ↓nmE, ↓jnE, ↓bsE, Nat.reduceAdd, Nat.reduceMul, Nat.reduceSub, Nat.reduceLT, Nat.reduceLeDiff, Nat.reduceEqDiff, ↓reduceIte, decide_true, decide_false, and_true, true_and, and_false, false_and, or_false, false_or, or_true, true_or, not_true_eq_false, not_false_eq_true, eq_self, Nat.zero_add, Nat.add_zero, Nat.mul_zero, Nat.mul_one, Nat.zero_le, Nat.not_lt_zero, bind_sm, bind_sm2, q1, show pre.length ≤ 4 by omega, bt', q2, ck, rw10, rw11]
        · exact (Fr.refl.up 0 11 _ (Or.inr (Or.inr ⟨rfl, rfl⟩))).upA 11 _ (fun i => Or.inr (Or.inl rfl))
        · simp (disch := omega) only [up_at, up_ms, up_mi, upA_at, upA_ms]
        · show (wt v 0 pre).1 + dst v (wt v 0 pre).2 last ≤ 1000000
          omega
        · show pre.length ≤ 4
          omega
        · intro i hi
          have hi : i < pre.length := hi
          rw [upA_at, cp_at (by omega)]
          exact w5 i hi
        · intro i hi
          simp (disch := omega) only [up_at, up_ms, up_mi, upA_at, upA_ms]
          exact w5 i hi
  | succ N ih =>
    intro f X pre m3 acc hN hf hX hJ hp hat hsp hW
    have hX7 := hX.lt h4
    have X0 : X ≠ 0 := fun z => by rw [(rl_zero X hX7).mpr z] at hN; simp at hN
    obtain ⟨f, rfl⟩ : ∃ x, f = x + 1 := ⟨f - 1, by omega⟩
    obtain ⟨w1, ⟨w2, w2'⟩, w3, w5⟩ := hW
    have hat8 : (wt v 0 pre).2 < 8 := by rcases hat with h | h; omega; exact h.1
    show ∃ m3', f_X4_walk_B (f_X4_walk f) m1 m3 (n32 last) (n32 X) (n32 (wt v 0 pre).2) (n32 (wt v 0 pre).1) (n32 pre.length) = some m3' ∧ Fr PW m3 m3' ∧ WS m3' (best (cst v last 0) acc ((lines (skv v) (N + 1 + 1) (rl X 7)).map (fun l => pre ++ l))) pre
    unfold f_X4_walk_B
    rw [w1]
    by_cases q1 : acc.1 ≤ (wt v 0 pre).1
    · rw [best_skip _ (fun l hl => by
        obtain ⟨l', -, rfl⟩ := List.mem_map.mp hl
        rw [wt_cst]; omega)]
      refine ⟨m3, ?_, Fr.refl, w1, ⟨w2, w2'⟩, w3, w5⟩
      simp (maxSteps := 400000) (disch := omega) only [n32_lit, n32_add, n32_mul, n32_lt, n32_le, n32_eq, n32_nat, n32_inb, gd_dec, gdE, ↓nmE, ↓jnE, ↓bsE, Nat.reduceAdd, Nat.reduceMul, Nat.reduceSub, Nat.reduceLT, Nat.reduceLeDiff, Nat.reduceEqDiff, ↓reduceIte, decide_true, decide_false, and_true, true_and, and_false, false_and, or_false, false_or, or_true, true_or, not_true_eq_false, not_false_eq_true, eq_self, Nat.zero_add, Nat.add_zero, Nat.mul_zero, Nat.mul_one, Nat.zero_le, Nat.not_lt_zero, bind_sm, bind_sm2, q1]
    · -- who comes next
      obtain ⟨A, hA1, hA2, hA3⟩ : ∃ A, nxt (skv v) (rl X 7) = rl A 7 ∧ A ≤ X ∧ (if n32 X &&& m1 0 9 = n32 0 then n32 X else n32 X &&& m1 0 9) = n32 A := by
        have fl : (rl X 7).filter (skv v) = rl (X &&& sm) 7 := by
          rw [rl_and X hX7 sm sm1]
          refine List.filter_congr (fun q hq => ?_)
          obtain ⟨b1, b2⟩ := rl_lt hq
          rw [sm3 q b1]
          have := hX.mem b2
          unfold skv
          simp [this]
        have e0 := n32_eq (a := X &&& sm) (b := 0) (Nat.lt_of_le_of_lt Nat.and_le_left (by omega)) (by omega)
        simp only [sm2, n32_and, e0]
        by_cases z : X &&& sm = 0
        · refine ⟨X, ?_, Nat.le_refl _, by rw [if_pos z]⟩
          unfold nxt
          rw [if_neg]
          intro c
          have t0 : (rl X 7).filter (skv v) = [] := by rw [fl]; exact (rl_zero _ (by omega)).mpr z
          obtain ⟨q, hq1, hq2⟩ := List.any_eq_true.mp c
          have t1 : q ∈ (rl X 7).filter (skv v) := List.mem_filter.mpr ⟨hq1, hq2⟩
          rw [t0] at t1; cases t1
        · refine ⟨X &&& sm, ?_, Nat.and_le_left, by rw [if_neg z]⟩
          unfold nxt
          rw [if_pos, fl]
          apply Classical.byContradiction
          intro c
          have : (rl X 7).filter (skv v) = [] := List.filter_eq_nil_iff.mpr (fun q hq => fun hs => c (List.any_eq_true.mpr ⟨q, hq, hs⟩))
          rw [fl] at this
          exact z ((rl_zero _ (Nat.lt_of_le_of_lt Nat.and_le_left hX7)).mp this)
      have A7 : A < 128 := by omega
      have AX : ∀ p, A.testBit p = true → p < 7 → X.testBit p = true := fun p hp h7 => by
        have : p ∈ rl A 7 := by unfold rl; exact List.mem_filter.mpr ⟨List.mem_range.mpr h7, hp⟩
        rw [← hA1] at this
        have : p ∈ rl X 7 := by
          unfold nxt at this
          split at this
          · exact (List.mem_filter.mp this).1
          · exact this
        exact (rl_lt this).2
      have subA : A < 2 ^ v 4 := Nat.lt_of_le_of_lt hA2 hX
      have lns : (lines (skv v) (N + 1 + 1) (rl X 7)).map (fun l => pre ++ l) = (rl A (v 4)).flatMap (fun p => (lines (skv v) (N + 1) (rl (wo X p) 7)).map (fun l => (pre ++ [p]) ++ l)) := by
        rw [rl_full subA h4]
        conv => lhs; unfold lines
        rw [if_neg (fun z => X0 ((rl_zero X hX7).mp z)), hA1, List.map_flatMap]
        have : ∀ M : List Nat, (∀ p, p ∈ M → p < 7) → M.flatMap (fun a => List.map (fun l => pre ++ l) (List.map (fun l => a :: l) (lines (skv v) (N + 1) (List.filter (fun q => !(q == a)) (rl X 7))))) = M.flatMap (fun p => (lines (skv v) (N + 1) (rl (wo X p) 7)).map (fun l => (pre ++ [p]) ++ l)) := by
          intro M
          induction M with
          | nil => intro _; rfl
          | cons a M ih2 =>
            intro hM
            rw [List.flatMap_cons, List.flatMap_cons, ih2 (fun p hp => hM p (List.mem_cons_of_mem _ hp)), flat_map_pre, wo_rl X hX7 a (hM a List.mem_cons_self)]
        exact this _ (fun p hp => (rl_lt hp).1)
      rw [lns]
      have dl : pre.length < 4 := by omega
      obtain ⟨s, ⟨i1, i3⟩, i2⟩ := loop_k (S := Mem) (fun K t u s => f_X4_walk_L86 (f_X4_walk f) K (n32 last) (n32 X) (n32 (wt v 0 pre).2) (n32 (wt v 0 pre).1) (n32 pre.length) (n32 A) m1 t u s) (v 4) (fun i r => Fr PW m3 r ∧ WS r (best (cst v last 0) acc ((rl A i).flatMap (fun p => (lines (skv v) (N + 1) (rl (wo X p) 7)).map (fun l => (pre ++ [p]) ++ l)))) pre) (fun K t s _ => by
          refine Eq.trans (f_X4_walk_L86.eq_2 _ _ _ _ _ _ _ _ _ _ _ _) ?_
          simp (disch := omega) only [n32_lit, n32_add, n32_mul, n32_lt, n32_le, n32_eq, n32_nat, n32_inb, gd_dec, gd_one, nm_eq, jn_eq, Option.bind_some, Nat.reduceAdd, Nat.reduceMul, Nat.reduceSub, Nat.reduceLT, Nat.reduceLeDiff, Nat.reduceEqDiff, ↓reduceIte, decide_true, decide_false, and_true, true_and, and_false, false_and, or_false, false_or, or_true, true_or, not_true_eq_false, not_false_eq_true, eq_self, Nat.zero_add, Nat.add_zero, Nat.mul_zero, Nat.mul_one, Nat.zero_le, Nat.not_lt_zero, bind_sm, bind_sm2, c4, Nat.le_refl]) (fun i r hi hI => by
          obtain ⟨h1, h2⟩ := hI
          rw [rl_succ]
          cases hb : A.testBit i with
          | false =>
            refine ⟨r, ⟨h1, by simpa using h2⟩, fun K t => ?_⟩
            refine Eq.trans (f_X4_walk_L86.eq_2 _ _ _ _ _ _ _ _ _ _ _ _) ?_
            simp (disch := omega) only [n32_lit, n32_add, n32_mul, n32_lt, n32_le, n32_eq, n32_nat, n32_inb, gd_dec, gd_one, nm_eq, jn_eq, Option.bind_some, Nat.reduceAdd, Nat.reduceMul, Nat.reduceSub, Nat.reduceLT, Nat.reduceLeDiff, Nat.reduceEqDiff, ↓reduceIte, decide_true, decide_false, and_true, true_and, and_false, false_and, or_false, false_or, or_true, true_or, not_true_eq_false, not_false_eq_true, eq_self, Nat.zero_add, Nat.add_zero, Nat.mul_zero, Nat.mul_one, Nat.zero_le, Nat.not_lt_zero, bind_sm, bind_sm2, c4, show ¬ v 4 ≤ i by omega, show ¬ 4 ≤ pre.length by omega, t_hasBit, n32_b0, hb]
          | true =>
            have hXi := AX i hb (by omega)
            obtain ⟨k1, ⟨k2, k2'⟩, k3, k5⟩ := h2
            have wlQ := rl_nodup hX7 (show i < 7 by omega) hXi
            have hh := hhm i hi
            have Ji := hJ i hXi
            have jd := jn_dst hv hat Ji
            have bt := t_between hc (a := (wt v 0 pre).2) (b := hm v i) hat8 Ji.1
            have bt' : f_X3_minutesBetween m1 (n32 (wt v 0 pre).2) (n32 (hm v i)) = some (n32 (dst v (wt v 0 pre).2 (hm v i))) := by rw [bt]; show some (n32 (farC (dst v _ _))) = _; rw [jd.2]
            have wsn := wt_snoc (v := v) pre 0 i
            obtain ⟨m3', e1, e2, e3⟩ := ih f (wo X i) (pre ++ [i]) (up r 10 pre.length (n32 i)) (best (cst v last 0) acc ((rl A i).flatMap (fun p => (lines (skv v) (N + 1) (rl (wo X p) 7)).map (fun l => (pre ++ [p]) ++ l)))) (by omega) (by omega) (Nat.lt_of_le_of_lt wo_lt hX) (fun p hp => hJ p (wo_bit hX7 (by omega) hp)) (by simp; omega) (by rw [wsn]; exact Or.inr Ji) (by rw [wsn]; simp; omega) ⟨by simp (disch := omega) only [up_at, up_ms, up_mi, upA_at, upA_ms]; exact k1, ⟨k2, k2'⟩, fun j hj => by simp (disch := omega) only [up_at, up_ms, up_mi, upA_at, upA_ms]; exact k3 j hj, fun j hj => by
              simp at hj
              by_cases z : j = pre.length
              · rw [z, getD_app2]; simp (disch := omega) only [up_at, up_ms, up_mi, upA_at, upA_ms]
              · rw [getD_app1 (by omega), up_mi z]; exact k5 j (by omega)⟩
            rw [wsn] at e1
            simp only [List.length_append, List.length_cons, List.length_nil, Nat.zero_add] at e1
            refine ⟨m3', ⟨(h1.up 10 _ _ (Or.inl rfl)).trans e2, ?_⟩, fun K t => ?_⟩
            · rw [if_pos rfl, List.flatMap_append, best_append]
              obtain ⟨g1, g2, g3, g4⟩ := e3
              have fm : ([i] : List Nat).flatMap (fun p => (lines (skv v) (N + 1) (rl (wo X p) 7)).map (fun l => (pre ++ [p]) ++ l)) = (lines (skv v) (N + 1) (rl (wo X i) 7)).map (fun l => (pre ++ [i]) ++ l) := by simp
              rw [fm]
              refine ⟨g1, g2, g3, fun j hj => ?_⟩
              have := g4 j (by simp; omega)
              rw [getD_app1 hj] at this
              exact this
            · refine Eq.trans (f_X4_walk_L86.eq_2 _ _ _ _ _ _ _ _ _ _ _ _) ?_
              have wt' := n32_without (a := X) (i := i) hX7 (by omega)
              have wt'' : n32 X &&& ((n32 1 <<< (n32 i &&& n32 31)) ^^^ (-n32 1)) = n32 (wo X i) := wt'
              simp (disch := omega) only [n32_lit, n32_add, n32_mul, n32_lt, n32_le, n32_eq, n32_nat, n32_inb, gd_dec, gd_one, nm_eq, jn_eq, Option.bind_some, Nat.reduceAdd, Nat.reduceMul, Nat.reduceSub, Nat.reduceLT, Nat.reduceLeDiff, Nat.reduceEqDiff, ↓reduceIte, decide_true, decide_false, and_true, true_and, and_false, false_and, or_false, false_or, or_true, true_or, not_true_eq_false, not_false_eq_true, eq_self, Nat.zero_add, Nat.add_zero, Nat.mul_zero, Nat.mul_one, Nat.zero_le, Nat.not_lt_zero, bind_sm, bind_sm2, c4, show ¬ v 4 ≤ i by omega, show ¬ 4 ≤ pre.length by omega, t_hasBit, n32_b0, hb, show i < 7 by omega, dl, hh.1, bt', wt'', e1]
              simp) (v 4) 0 m3 100000 (by omega) (by omega) ⟨Fr.refl, w1, ⟨w2, w2'⟩, w3, w5⟩
      refine ⟨s, ?_, i1, i3⟩
      have X0' : ¬ X = 0 := X0
      have fin := i2 (fun (u20 : Int32) (w21 : Mem) => (some w21))
      rw [← fin]
      simp (maxSteps := 400000) (disch := omega) only [n32_lit, n32_add, n32_mul, n32_lt, n32_le, n32_eq, n32_nat, n32_inb, gd_dec, gdE, ↓nmE, ↓jnE, ↓bsE, Nat.reduceAdd, Nat.reduceMul, Nat.reduceSub, Nat.reduceLT, Nat.reduceLeDiff, Nat.reduceEqDiff, ↓reduceIte, decide_true, decide_false, and_true, true_and, and_false, false_and, or_false, false_or, or_true, true_or, not_true_eq_false, not_false_eq_true, eq_self, Nat.zero_add, Nat.add_zero, Nat.mul_zero, Nat.mul_one, Nat.zero_le, Nat.not_lt_zero, bind_sm, bind_sm2, q1, show pre.length ≤ 4 by omega, X0', hA3]
end EV
