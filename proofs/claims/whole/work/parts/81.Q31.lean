/-! the class: minutes that are kept -/
theorem lines_ex {sk : Nat → Bool} : ∀ f (L : List Nat), L.length < f → ∃ l, l ∈ lines sk f L
  | 0, L, h => by omega
  | f + 1, L, h => by
    unfold lines
    by_cases z : L = []
    · rw [if_pos z]; exact ⟨[], List.mem_cons_self⟩
    · rw [if_neg z]
      obtain ⟨p, hp⟩ : ∃ p, p ∈ nxt sk L := by
        unfold nxt
        by_cases q : L.any sk = true
        · rw [if_pos q]
          obtain ⟨x, h1, h2⟩ := List.any_eq_true.mp q
          exact ⟨x, List.mem_filter.mpr ⟨h1, h2⟩⟩
        · rw [if_neg q]
          cases L with
          | nil => exact absurd rfl z
          | cons a L => exact ⟨a, List.mem_cons_self⟩
      have hpL : p ∈ L := by
        unfold nxt at hp
        split at hp
        · exact (List.mem_filter.mp hp).1
        · exact hp
      have hlt : (L.filter (fun q => !(q == p))).length < L.length := by
        have h1 : (L.filter (fun q => !(q == p))).length ≤ L.length := List.length_filter_le _ _
        apply Classical.byContradiction
        intro c
        have e : (L.filter (fun q => !(q == p))).length = L.length := by omega
        have := (List.length_filter_eq_length_iff.mp e) p hpL
        simp at this
      obtain ⟨l, hl⟩ := lines_ex f (L.filter (fun q => !(q == p))) (by omega)
      exact ⟨p :: l, List.mem_flatMap.mpr ⟨p, hp, List.mem_map.mpr ⟨l, hl, rfl⟩⟩⟩
theorem lines_length {sk : Nat → Bool} : ∀ N X, X < 128 → (rl X 7).length = N → ∀ l, l ∈ lines sk (N + 1) (rl X 7) → l.length = N
  | 0, X, hX, hN, l, h => by
    have : rl X 7 = [] := List.eq_nil_of_length_eq_zero hN
    rw [this] at h
    have : l = [] := by simpa [lines] using h
    rw [this]; rfl
  | N + 1, X, hX, hN, l, h => by
    unfold lines at h
    rw [if_neg (fun z => by rw [z] at hN; simp at hN)] at h
    obtain ⟨p, hp, hl⟩ := List.mem_flatMap.mp h
    obtain ⟨l', hl', rfl⟩ := List.mem_map.mp hl
    have hpL : p ∈ rl X 7 := by
      unfold nxt at hp
      split at hp
      · exact (List.mem_filter.mp hp).1
      · exact hp
    obtain ⟨p7, pb⟩ := rl_lt hpL
    rw [← wo_rl X hX p p7] at hl'
    have e := rl_nodup hX p7 pb
    have := lines_length N (wo X p) (Nat.lt_of_le_of_lt wo_lt hX) (by omega) l' hl'
    rw [List.length_cons, this]
theorem best_mem {cost : List Nat → Nat} : ∀ (ls : List (List Nat)) (acc : Nat × List Nat), best cost acc ls = acc ∨ ((best cost acc ls).2 ∈ ls ∧ (best cost acc ls).1 = cost (best cost acc ls).2)
  | [], acc => Or.inl rfl
  | l :: ls, acc => by
    show best cost (pick cost acc l) ls = acc ∨ ((best cost (pick cost acc l) ls).2 ∈ l :: ls ∧ (best cost (pick cost acc l) ls).1 = cost (best cost (pick cost acc l) ls).2)
    rcases best_mem ls (pick cost acc l) with e | ⟨e1, e2⟩
    · rw [e]
      unfold pick
      by_cases q : cost l < acc.1
      · rw [if_pos q]; exact Or.inr ⟨List.mem_cons_self, rfl⟩
      · rw [if_neg q]; exact Or.inl rfl
    · exact Or.inr ⟨List.mem_cons_of_mem _ e1, e2⟩
theorem best_init {cost : List Nat → Nat} {a b : Nat × List Nat} : ∀ ls : List (List Nat), ls ≠ [] → (∀ l, l ∈ ls → cost l < a.1 ∧ cost l < b.1) → best cost a ls = best cost b ls
  | [], h, _ => absurd rfl h
  | l :: ls, _, h => by
    obtain ⟨h1, h2⟩ := h l List.mem_cons_self
    show best cost (pick cost a l) ls = best cost (pick cost b l) ls
    unfold pick
    rw [if_pos h1, if_pos h2]
section EV
variable {m1 m3 : Mem} {v : Nat → Nat}
/-- riders whose homes can be come to, and the owner's -/
def JX (v : Nat → Nat) (c X : Nat) : Prop := Sub v X ∧ pop7 X ≤ 4 ∧ (∀ p, X.testBit p = true → Jn v (hm v p)) ∧ Jn v (hm v (v (100 + 3 * c)))
theorem cst_le (hv : Vd v) {last : Nat} (hl : Jn v last) : ∀ (l : List Nat) (a : Nat), a = 0 ∨ Jn v a → (∀ p, p ∈ l → Jn v (hm v p)) → cst v last a l ≤ 900 * (l.length + 1)
  | [], a, ha, _ => by
    have := (jn_dst hv ha hl).1
    unfold cst; simp; exact this
  | p :: l, a, ha, h => by
    have hp := h p List.mem_cons_self
    have h1 := (jn_dst hv ha hp).1
    have h2 := cst_le hv hl l (hm v p) (Or.inr hp) (fun x hx => h x (List.mem_cons_of_mem _ hx))
    unfold cst
    rw [List.length_cons]
    omega
theorem lst_cost (hv : Vd v) {c X : Nat} (h : JX v c X) : ∀ l, l ∈ lines (skv v) ((rl X 7).length + 1) (rl X 7) → cst v (hm v (v (100 + 3 * c))) 0 l ≤ 4500 := by
  intro l hl
  have hX7 := h.1.lt hv.1.1
  have e := lines_length _ X hX7 rfl l hl
  have := cst_le hv h.2.2.2 l 0 (Or.inl rfl) (fun p hp => h.2.2.1 p (rl_lt (lines_len _ _ l hl p hp)).2)
  have := rl_len X hX7
  have := h.2.1
  omega
theorem lst_facts (hv : Vd v) {c X : Nat} (h : JX v c X) : (lst v c X).1 ≤ 4500 ∧ (lst v c X).2.length = pop7 X ∧ (∀ p, p ∈ (lst v c X).2 → p < v 4) ∧ best (cst v (hm v (v (100 + 3 * c))) 0) (1000000, []) (lines (skv v) ((rl X 7).length + 1) (rl X 7)) = lst v c X := by
  have hX7 := h.1.lt hv.1.1
  obtain ⟨l0, hl0⟩ := lines_ex (sk := skv v) ((rl X 7).length + 1) (rl X 7) (by omega)
  have hne : lines (skv v) ((rl X 7).length + 1) (rl X 7) ≠ [] := fun z => by rw [z] at hl0; cases hl0
  have hco := lst_cost hv h
  have bi := best_init (cost := cst v (hm v (v (100 + 3 * c))) 0) (a := (1000000, [])) (b := (10000, [])) (lines (skv v) ((rl X 7).length + 1) (rl X 7)) hne (fun l hl => by have := hco l hl; exact ⟨by show _ < 1000000; omega, by show _ < 10000; omega⟩)
  have mem : (lst v c X).2 ∈ lines (skv v) ((rl X 7).length + 1) (rl X 7) ∧ (lst v c X).1 = cst v (hm v (v (100 + 3 * c))) 0 (lst v c X).2 := by
    unfold lst
    rcases best_mem (cost := cst v (hm v (v (100 + 3 * c))) 0) (lines (skv v) ((rl X 7).length + 1) (rl X 7)) (10000, []) with e | e
    · -- nothing was picked: against the first line
      exfalso
      cases hls : lines (skv v) ((rl X 7).length + 1) (rl X 7) with
      | nil => exact hne hls
      | cons a ls =>
        rw [hls] at e
        have hca := hco a (by rw [hls]; exact List.mem_cons_self)
        have e' : best (cst v (hm v (v (100 + 3 * c))) 0) (pick (cst v (hm v (v (100 + 3 * c))) 0) (10000, []) a) ls = (10000, []) := e
        have := best_le (cost := cst v (hm v (v (100 + 3 * c))) 0) ls (pick (cst v (hm v (v (100 + 3 * c))) 0) (10000, []) a)
        rw [e'] at this
        unfold pick at this
        rw [if_pos (by show _ < 10000; omega)] at this
        have : 10000 ≤ cst v (hm v (v (100 + 3 * c))) 0 a := this
        omega
    · exact e
  refine ⟨by rw [mem.2]; exact hco _ mem.1, ?_, fun p hp => ?_, bi⟩
  · rw [lines_length _ X hX7 rfl _ mem.1]; exact rl_len X hX7
  · exact h.1.mem (rl_lt (lines_len _ _ _ mem.1 p hp)).2
def KN (v : Nat → Nat) (m3 : Mem) : Prop := ∀ c X, c < v 5 → X < 2 ^ v 4 → m3 1 (128 * c + X) = -n32 1 ∨ m3 1 (128 * c + X) = n32 (lst v c X).1
def PM (s i : Nat) : Prop := s = 1 ∨ s = 10 ∨ s = 11 ∨ (s = 0 ∧ i = 11)
theorem t_key : ∀ c, c < 3 → ∀ X, X < 128 → (n32 c <<< (n32 7 &&& n32 31)) ||| n32 X = n32 (128 * c + X) := by decide +kernel
/-- a whole walk -/
theorem t_walk0 (hc : Cl m1 v) (hv : Vd v) {c X : Nat} (hcc : c < v 5) (h : JX v c X) : ∃ m3', f_X4_walk 16 m1 (up m3 0 11 (n32 1000000)) (n32 (hm v (v (100 + 3 * c)))) (n32 X) (n32 0) (n32 0) (n32 0) = some m3' ∧ Fr PW m3 m3' ∧ m3' 0 11 = n32 (lst v c X).1 ∧ ∀ i, i < (lst v c X).2.length → m3' 11 i = n32 ((lst v c X).2.getD i 0) := by
  have hX7 := h.1.lt hv.1.1
  have hlen := rl_len X hX7
  obtain ⟨m3', e1, e2, e3⟩ := t_walk hc hv h.2.2.2 (rl X 7).length 16 X [] (up m3 0 11 (n32 1000000)) (1000000, []) rfl (by have := h.2.1; omega) h.1 h.2.2.1 (by have := h.2.1; simp; omega) (Or.inl rfl) (by simp [wt]) ⟨by simp (disch := omega) only [up_at, up_ms, up_mi, upA_at, upA_ms], ⟨Nat.le_refl _, by simp⟩, fun i hi => by simp at hi, fun i hi => by simp at hi⟩
  have nil : (lines (skv v) ((rl X 7).length + 1) (rl X 7)).map (fun l => [] ++ l) = lines (skv v) ((rl X 7).length + 1) (rl X 7) := by simp
  rw [nil, (lst_facts hv h).2.2.2] at e3
  refine ⟨m3', e1, ?_, e3.1, e3.2.2.1⟩
  exact (Fr.refl.up 0 11 _ (Or.inr (Or.inr ⟨rfl, rfl⟩))).trans e2
theorem t_site (hc : Cl m1 v) (hv : Vd v) {c : Nat} (hcc : c < v 5) : f_X3_siteOfOwner m1 (n32 c) = some (n32 (hm v (v (100 + 3 * c)))) := by
  obtain ⟨⟨h4, h5, h0, h1', h6, h7, hP, hC⟩, hF⟩ := hv
  have o := (hC c hcc).1
  unfold f_X3_siteOfOwner
  simp (disch := omega) only [n32_lit, n32_add, n32_mul, n32_lt, n32_le, n32_eq, n32_nat, n32_inb, gd_dec, gd_one, nm_eq, jn_eq, Option.bind_some, Nat.reduceAdd, Nat.reduceMul, Nat.reduceSub, Nat.reduceLT, Nat.reduceLeDiff, Nat.reduceEqDiff, ↓reduceIte, decide_true, decide_false, and_true, true_and, and_false, false_and, or_false, false_or, or_true, true_or, not_true_eq_false, not_false_eq_true, eq_self, Nat.zero_add, Nat.add_zero, Nat.mul_zero, Nat.mul_one, Nat.zero_le, Nat.not_lt_zero, bind_sm, bind_sm2, show c < 3 by omega, (hc.1.2.2.2.2.2.2.2.2 c hcc).1, show v (100 + 3 * c) < 7 by omega, (hc.1.2.2.2.2.2.2.2.1 _ o).2.1]
  rfl
theorem t_minutesOf (hc : Cl m1 v) (hv : Vd v) {c X : Nat} (hcc : c < v 5) (h : JX v c X) (hk : KN v m3) : ∃ m3', f_X4_minutesOf m1 m3 (n32 c) (n32 X) = some (n32 (lst v c X).1, m3') ∧ Fr PM m3 m3' ∧ KN v m3' := by
  have hX7 := h.1.lt hv.1.1
  have h5 := hv.1.2.1
  have lf := lst_facts hv h
  have ky := t_key c (by omega) X hX7
  unfold f_X4_minutesOf
  rcases hk c X hcc h.1 with q | q
  · obtain ⟨m3', e1, e2, e3, -⟩ := t_walk0 (m3 := m3) hc hv hcc h
    refine ⟨up m3' 1 (128 * c + X) (n32 (lst v c X).1), ?_, ?_, ?_⟩
    · simp (maxSteps := 400000) (disch := omega) only [n32_lit, n32_add, n32_mul, n32_lt, n32_le, n32_eq, n32_nat, n32_inb, gd_dec, gdE, ↓nmE, ↓jnE, ↓bsE, Nat.reduceAdd, Nat.reduceMul, Nat.reduceSub, Nat.reduceLT, Nat.reduceLeDiff, Nat.reduceEqDiff, ↓reduceIte, decide_true, decide_false, and_true, true_and, and_false, false_and, or_false, false_or, or_true, true_or, not_true_eq_false, not_false_eq_true, eq_self, Nat.zero_add, Nat.add_zero, Nat.mul_zero, Nat.mul_one, Nat.zero_le, Nat.not_lt_zero, bind_sm, bind_sm2, up_at, up_ms, up_mi, upA_at, upA_ms, ky, show 128 * c + X < 384 by omega, q, t_site hc hv hcc, e1, e3]
    · refine Fr.up ?_ 1 _ _ (Or.inl rfl)
      exact e2.mono (fun s i z => by unfold PM; unfold PW at z; omega)
    · intro c' X' hc' hX'
      have hX'7 : X' < 128 := Sub.lt (v := v) hv.1.1 hX'
      by_cases z : 128 * c' + X' = 128 * c + X
      · have : c' = c ∧ X' = X := by omega
        rw [this.1, this.2, up_at]; exact Or.inr rfl
      · rw [up_mi z, e2 1 _ (by unfold PW; omega)]; exact hk c' X' hc' hX'
  · refine ⟨m3, ?_, Fr.refl, hk⟩
    have l1 := lf.1
    simp (maxSteps := 400000) (disch := omega) only [n32_lit, n32_add, n32_mul, n32_lt, n32_le, n32_eq, n32_nat, n32_inb, gd_dec, gdE, ↓nmE, ↓jnE, ↓bsE, Nat.reduceAdd, Nat.reduceMul, Nat.reduceSub, Nat.reduceLT, Nat.reduceLeDiff, Nat.reduceEqDiff, ↓reduceIte, decide_true, decide_false, and_true, true_and, and_false, false_and, or_false, false_or, or_true, true_or, not_true_eq_false, not_false_eq_true, eq_self, Nat.zero_add, Nat.add_zero, Nat.mul_zero, Nat.mul_one, Nat.zero_le, Nat.not_lt_zero, bind_sm, bind_sm2, up_at, up_ms, up_mi, upA_at, upA_ms, ky, show 128 * c + X < 384 by omega, q, n32_ne1']
theorem t_setDown (hc : Cl m1 v) (hv : Vd v) {c X : Nat} (hcc : c < v 5) (h : JX v c X) {k : Nat} (hk : k < 2147483648) : ∃ m3', f_X4_setDownAs m1 m3 (n32 c) (n32 X) (n32 k) = some (if k < pop7 X then n32 ((lst v c X).2.getD k 0) else -n32 1000000, m3') ∧ Fr PW m3 m3' := by
  have hX7 := h.1.lt hv.1.1
  have lf := lst_facts hv h
  have bn := bitc_n hX7
  have p4 := h.2.1
  unfold f_X4_setDownAs
  by_cases q : k < pop7 X
  · obtain ⟨m3', e1, e2, e3, e4⟩ := t_walk0 (m3 := m3) hc hv hcc h
    rw [if_pos q]
    refine ⟨m3', ?_, e2⟩
    have e4k := e4 k (by rw [lf.2.1]; exact q)
    simp (maxSteps := 400000) (disch := omega) only [n32_lit, n32_add, n32_mul, n32_lt, n32_le, n32_eq, n32_nat, n32_inb, gd_dec, gdE, ↓nmE, ↓jnE, ↓bsE, Nat.reduceAdd, Nat.reduceMul, Nat.reduceSub, Nat.reduceLT, Nat.reduceLeDiff, Nat.reduceEqDiff, ↓reduceIte, decide_true, decide_false, and_true, true_and, and_false, false_and, or_false, false_or, or_true, true_or, not_true_eq_false, not_false_eq_true, eq_self, Nat.zero_add, Nat.add_zero, Nat.mul_zero, Nat.mul_one, Nat.zero_le, Nat.not_lt_zero, bind_sm, bind_sm2, up_at, up_ms, up_mi, upA_at, upA_ms, bn, show ¬ pop7 X ≤ k by omega, show k < 4 by omega, t_site hc hv hcc, e1, e4k]
  · rw [if_neg q]
    refine ⟨m3, ?_, Fr.refl⟩
    simp (maxSteps := 400000) (disch := omega) only [n32_lit, n32_add, n32_mul, n32_lt, n32_le, n32_eq, n32_nat, n32_inb, gd_dec, gdE, ↓nmE, ↓jnE, ↓bsE, Nat.reduceAdd, Nat.reduceMul, Nat.reduceSub, Nat.reduceLT, Nat.reduceLeDiff, Nat.reduceEqDiff, ↓reduceIte, decide_true, decide_false, and_true, true_and, and_false, false_and, or_false, false_or, or_true, true_or, not_true_eq_false, not_false_eq_true, eq_self, Nat.zero_add, Nat.add_zero, Nat.mul_zero, Nat.mul_one, Nat.zero_le, Nat.not_lt_zero, bind_sm, bind_sm2, up_at, up_ms, up_mi, upA_at, upA_ms, bn, show pop7 X ≤ k by omega]
end EV
