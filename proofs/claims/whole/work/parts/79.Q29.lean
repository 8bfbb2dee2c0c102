/-! the least minutes, as a fold over lines -/
theorem skb_map {r : Nat → Nat} {sk : Nat → Bool} : ∀ l : List Nat, skb sk (l.map r) = skb (fun i => sk (r i)) l
  | [] => rfl
  | [_] => rfl
  | a :: b :: l => by
    show ((sk (r b) && !(sk (r a))) || skb sk ((b :: l).map r)) = _
    rw [skb_map (b :: l)]; rfl
theorem skb_congr {sk sk' : Nat → Bool} : ∀ l : List Nat, (∀ a, a ∈ l → sk a = sk' a) → skb sk l = skb sk' l
  | [], _ => rfl
  | [_], _ => rfl
  | a :: b :: l, h => by
    show ((sk b && !(sk a)) || skb sk (b :: l)) = ((sk' b && !(sk' a)) || skb sk' (b :: l))
    rw [skb_congr (b :: l) (fun x hx => h x (List.mem_cons_of_mem _ hx)), h a List.mem_cons_self, h b (List.mem_cons_of_mem _ List.mem_cons_self)]
theorem any_congr' {p q : Nat → Bool} : ∀ L : List Nat, (∀ x, x ∈ L → p x = q x) → L.any p = L.any q
  | [], _ => rfl
  | a :: l, h => by
    rw [List.any_cons, List.any_cons, h a List.mem_cons_self, any_congr' l (fun x hx => h x (List.mem_cons_of_mem _ hx))]
theorem lines_congr {sk sk' : Nat → Bool} : ∀ f (L : List Nat), (∀ a, a ∈ L → sk a = sk' a) → lines sk f L = lines sk' f L
  | 0, _, _ => rfl
  | f + 1, L, h => by
    unfold lines
    have e : nxt sk L = nxt sk' L := by
      unfold nxt
      rw [any_congr' L h, filter_congr' h]
    rw [e]
    split
    · rfl
    · congr 1
      funext p
      rw [lines_congr f _ (fun a ha => h a (List.mem_filter.mp ha).1)]
theorem pat4 : ∀ b0 b1 b2 b3 : Bool, ∃ s, s < 16 ∧ s.testBit 0 = b0 ∧ s.testBit 1 = b1 ∧ s.testBit 2 = b2 ∧ s.testBit 3 = b3 := by
  intro b0 b1 b2 b3
  cases b0 <;> cases b1 <;> cases b2 <;> cases b3
  · exact ⟨0, by decide⟩
  · exact ⟨8, by decide⟩
  · exact ⟨4, by decide⟩
  · exact ⟨12, by decide⟩
  · exact ⟨2, by decide⟩
  · exact ⟨10, by decide⟩
  · exact ⟨6, by decide⟩
  · exact ⟨14, by decide⟩
  · exact ⟨1, by decide⟩
  · exact ⟨9, by decide⟩
  · exact ⟨5, by decide⟩
  · exact ⟨13, by decide⟩
  · exact ⟨3, by decide⟩
  · exact ⟨11, by decide⟩
  · exact ⟨7, by decide⟩
  · exact ⟨15, by decide⟩
theorem pat (sk : Nat → Bool) : ∃ s, s < 16 ∧ ∀ i, i < 4 → s.testBit i = sk i := by
  obtain ⟨s, h, h0, h1, h2, h3⟩ := pat4 (sk 0) (sk 1) (sk 2) (sk 3)
  refine ⟨s, h, fun i hi => ?_⟩
  rcases (show i = 0 ∨ i = 1 ∨ i = 2 ∨ i = 3 by omega) with rfl | rfl | rfl | rfl
  · exact h0
  · exact h1
  · exact h2
  · exact h3
theorem ixl_lt {n x a : Nat} (h : a ∈ ixl n x) : a < n := by
  unfold ixl at h
  obtain ⟨k, hk, rfl⟩ := List.mem_map.mp h
  exact Nat.mod_lt _ (by have := List.mem_range.mp hk; omega)
/-- lines of a list of riders, by their numbers -/
theorem lines_num {sk : Nat → Bool} {n : Nat} (hn : n ≤ 4) : ((List.range (numb n)).filter (vldi n sk)).map (ixl n) = lines sk (n + 1) (List.range n) := by
  obtain ⟨s, hs, h⟩ := pat sk
  have := lines_ix n (by omega) s hs
  rw [lines_congr (sk := sk) (sk' := fun i => s.testBit i) (n + 1) (List.range n) (fun a ha => (h a (by have := List.mem_range.mp ha; omega)).symm), ← this]
  congr 1
  refine List.filter_congr (fun x _ => ?_)
  unfold vldi
  rw [skb_congr (sk := sk) (sk' := fun i => s.testBit i) (ixl n x) (fun a ha => (h a (by have := ixl_lt ha; omega)).symm)]
section EV
variable {w : Mem} {v : Nat → Nat}
/-- the car's shortest line with these riders, and its minutes -/
def lst (v : Nat → Nat) (c X : Nat) : Nat × List Nat := best (cst v (hm v (v (100 + 3 * c))) 0) (10000, []) (lines (skv v) ((rl X 7).length + 1) (rl X 7))
def cR (v : Nat → Nat) (c n : Nat) (r : Nat → Nat) (x : Nat) : Nat := if usd n x n = 2 ^ n - 1 then (if skb (skv v) ((ixl n x).map r) then 10000 else cst v (hm v (v (100 + 3 * c))) 0 ((ixl n x).map r)) else 10000
def rf (v : Nat → Nat) (c n : Nat) (r : Nat → Nat) (i : Nat) : Nat × List Nat := (List.range i).foldl (fun acc x => if cR v c n r x < acc.1 then (cR v c n r x, (ixl n x).map r) else acc) (10000, [])
theorem rf_succ (c n : Nat) (r : Nat → Nat) (i : Nat) : rf v c n r (i + 1) = if cR v c n r i < (rf v c n r i).1 then (cR v c n r i, (ixl n i).map r) else rf v c n r i := by
  unfold rf
  rw [List.range_succ, List.foldl_append]; rfl
theorem rf_lst {c X : Nat} (hX : X < 128) (h4 : (rl X 7).length ≤ 4) : rf v c (rl X 7).length (fun i => (rl X 7).getD i 0) (numb (rl X 7).length) = lst v c X := by
  generalize hn : (rl X 7).length = n at *
  have e := best_filter (cost := cst v (hm v (v (100 + 3 * c))) 0) (cost' := cst v (hm v (v (100 + 3 * c))) 0) (B := 10000) (fun x => (ixl n x).map (fun i => (rl X 7).getD i 0)) (vldi n (fun i => skv v ((rl X 7).getD i 0))) (cR v c n (fun i => (rl X 7).getD i 0)) (by
    intro x
    unfold cR vldi
    rw [skb_map]
    by_cases q : usd n x n = 2 ^ n - 1
    · rw [if_pos q, beq_iff_eq.mpr q, Bool.true_and]
      cases skb (fun i => skv v ((rl X 7).getD i 0)) (ixl n x) <;> rfl
    · rw [if_neg q, beq_eq_false_iff_ne.mpr q, Bool.false_and]; rfl) (List.range (numb n)) (10000, []) (Nat.le_refl _)
  unfold rf lst
  rw [e, hn]
  congr 1
  have e2 := lines_num (sk := fun i => skv v ((rl X 7).getD i 0)) (n := n) h4
  have e3 := lines_map (r := fun i => (rl X 7).getD i 0) (sk := skv v) (n + 1) (List.range n) (fun a ha b hb hab => rl_inj hX a b (by have := List.mem_range.mp ha; omega) (by have := List.mem_range.mp hb; omega) hab)
  have e4 := list_range_getD (rl X 7)
  rw [hn] at e4
  rw [e4] at e3
  rw [e3, ← e2, List.map_map]
  rfl
def P235 (s _i : Nat) : Prop := s = 23 ∨ s = 24 ∨ s = 25
/-- sets of people -/
def Sub (v : Nat → Nat) (X : Nat) : Prop := X < 2 ^ v 4
theorem Sub.lt (hv : v 4 ≤ 7) {X : Nat} (h : Sub v X) : X < 128 := Nat.lt_of_lt_of_le h (Nat.pow_le_pow_right (n := 2) (by omega) hv)
theorem Sub.mem {X p : Nat} (h : Sub v X) (hp : X.testBit p = true) : p < v 4 := by
  apply Classical.byContradiction
  intro q
  have : X.testBit p = false := Nat.testBit_lt_two_pow (Nat.lt_of_lt_of_le h (Nat.pow_le_pow_right (n := 2) (by omega) (by omega)))
  rw [hp] at this; cases this
theorem getD_mem {L : List Nat} {i : Nat} (h : i < L.length) : L.getD i 0 ∈ L := by
  rw [List.getD_eq_getElem?_getD, List.getElem?_eq_getElem h]
  exact List.getElem_mem h
theorem rf_le (c n : Nat) (r : Nat → Nat) : ∀ i, (rf v c n r i).1 ≤ 10000
  | 0 => Nat.le_refl _
  | i + 1 => by
    have := rf_le c n r i
    rw [rf_succ]
    split
    · show cR v c n r i ≤ 10000; omega
    · exact this
theorem t_leastOf (h : Sh (w 6) v) (hv : Vd v) {c X : Nat} (hc : c < v 5) (hX : Sub v X) (h4 : pop7 X ≤ 4) : ∃ w', f_X8_leastOf w (n32 c) (n32 X) = some (n32 (lst v c X).1, w') ∧ Fr P235 w w' ∧ ∀ k, k < (lst v c X).2.length → w' 25 k = n32 ((lst v c X).2.getD k 0) := by
  have hX7 := hX.lt hv.1.1
  have hlen := rl_len X hX7
  obtain ⟨w1, a1, a2, a3⟩ := t_riders8 hX7 h4 w
  rw [← rf_lst hX7 (by omega)]
  have hrm : ∀ i, i < (rl X 7).length → (rl X 7).getD i 0 < v 4 := fun i hi => hX.mem (rl_lt (getD_mem hi)).2
  generalize hn : (rl X 7).length = n at *
  generalize hr : (fun i => (rl X 7).getD i 0) = r at *
  have hre : ∀ i, (rl X 7).getD i 0 = r i := fun i => by rw [← hr]
  have a3 : ∀ j, j < n → w1 23 j = n32 (r j) := fun j hj => by rw [a3 j hj, hre]
  have hrm : ∀ i, i < n → r i < v 4 := fun i hi => by have := hrm i hi; rw [hre] at this; exact this
  have n4 : n ≤ 4 := by omega
  have nb : numb n ≤ 256 := by unfold numb; repeat' split
                               all_goals omega
  unfold f_X8_leastOf
  have e18 : (if n32 n = (4 : Int32) then (256 : Int32) else (if n32 n = (3 : Int32) then 27 else (if n32 n = (2 : Int32) then 4 else 1))) = n32 (numb n) := by
    rcases (show n = 0 ∨ n = 1 ∨ n = 2 ∨ n = 3 ∨ n = 4 by omega) with rfl | rfl | rfl | rfl | rfl <;> decide
  rw [show (0 : Int32) = n32 0 from rfl, a1, nm_eq, e18]
  -- best is laid
  have cpy : ∀ (s : Mem), ∃ s1, (∀ K, f_X8_leastOf_L125 K (n32 n) 100000 (n32 0) s = K (n32 n) s1) ∧ ∀ s' j, s1 s' j = if s' = 25 ∧ j < n then s 24 j else s s' j := by
    intro s
    obtain ⟨s1, i1, i2⟩ := loop_k (S := Mem) (fun K t u s => f_X8_leastOf_L125 K (n32 n) t u s) n (fun i r => ∀ s' j, r s' j = if s' = 25 ∧ j < i then s 24 j else s s' j) (fun K t s _ => by
      refine Eq.trans (f_X8_leastOf_L125.eq_2 _ _ _ _ _) ?_
      simp (disch := omega) only [n32_lit, n32_add, n32_mul, n32_lt, n32_le, n32_eq, n32_nat, n32_inb, gd_dec, gd_one, nm_eq, jn_eq, Option.bind_some, Nat.reduceAdd, Nat.reduceMul, Nat.reduceSub, Nat.reduceLT, Nat.reduceLeDiff, Nat.reduceEqDiff, ↓reduceIte, decide_true, decide_false, and_true, true_and, and_false, false_and, or_false, false_or, or_true, true_or, not_true_eq_false, not_false_eq_true, eq_self, Nat.zero_add, Nat.add_zero, Nat.mul_zero, Nat.mul_one, Nat.zero_le, Nat.not_lt_zero, bind_sm, bind_sm2, Nat.le_refl]) (fun i q hi hI => ⟨up q 25 i (s 24 i), fun s' j => by
        rw [up_ap, hI]
        by_cases z1 : s' = 25
        · by_cases z2 : j = i
          · rw [if_pos ⟨z1, z2⟩, if_pos (by omega), z2]
          · rw [if_neg (by omega)]
            by_cases z3 : j < i
            · rw [if_pos ⟨z1, z3⟩, if_pos (by omega)]
            · rw [if_neg (by omega), if_neg (by omega)]
        · rw [if_neg (by omega), if_neg (by omega), if_neg (by omega)], fun K t => by
      refine Eq.trans (f_X8_leastOf_L125.eq_2 _ _ _ _ _) ?_
      have := hI 24 i
      rw [if_neg (by omega)] at this
      simp (disch := omega) only [n32_lit, n32_add, n32_mul, n32_lt, n32_le, n32_eq, n32_nat, n32_inb, gd_dec, gd_one, nm_eq, jn_eq, Option.bind_some, Nat.reduceAdd, Nat.reduceMul, Nat.reduceSub, Nat.reduceLT, Nat.reduceLeDiff, Nat.reduceEqDiff, ↓reduceIte, decide_true, decide_false, and_true, true_and, and_false, false_and, or_false, false_or, or_true, true_or, not_true_eq_false, not_false_eq_true, eq_self, Nat.zero_add, Nat.add_zero, Nat.mul_zero, Nat.mul_one, Nat.zero_le, Nat.not_lt_zero, bind_sm, bind_sm2, show ¬ n ≤ i by omega, show i < 4 by omega, this]⟩) n 0 s 100000 (by omega) (by omega) (fun s' j => by rw [if_neg (by omega)])
    exact ⟨s1, i2, i1⟩
  obtain ⟨s, ⟨i1, i3, i4, i5⟩, i2⟩ := loop_k (S := Int32 × Mem) (fun K t u s => f_X8_leastOf_L80 (fun a b c => K b (a, c)) (n32 c) (n32 (numb n)) (n32 n) t s.1 u s.2) (numb n) (fun i s => s.1 = n32 (rf v c n r i).1 ∧ Fr P235 w1 s.2 ∧ (∀ j, j < n → s.2 23 j = n32 (r j)) ∧ ∀ k, k < (rf v c n r i).2.length → s.2 25 k = n32 ((rf v c n r i).2.getD k 0)) (fun K t s _ => by
      refine Eq.trans (f_X8_leastOf_L80.eq_2 _ _ _ _ _ _ _ _) ?_
      simp (disch := omega) only [n32_lit, n32_add, n32_mul, n32_lt, n32_le, n32_eq, n32_nat, n32_inb, gd_dec, gd_one, nm_eq, jn_eq, Option.bind_some, Nat.reduceAdd, Nat.reduceMul, Nat.reduceSub, Nat.reduceLT, Nat.reduceLeDiff, Nat.reduceEqDiff, ↓reduceIte, decide_true, decide_false, and_true, true_and, and_false, false_and, or_false, false_or, or_true, true_or, not_true_eq_false, not_false_eq_true, eq_self, Nat.zero_add, Nat.add_zero, Nat.mul_zero, Nat.mul_one, Nat.zero_le, Nat.not_lt_zero, bind_sm, bind_sm2, Nat.le_refl]) (fun i s hi hI => by
      obtain ⟨s1, s2⟩ := s
      obtain ⟨h1, h2, h3, h5⟩ := hI
      have h1 : s1 = n32 (rf v c n r i).1 := h1
      subst h1
      have h2 : Fr P235 w1 s2 := h2
      have h3 : ∀ j, j < n → s2 23 j = n32 (r j) := h3
      have h5 : ∀ k, k < (rf v c n r i).2.length → s2 25 k = n32 ((rf v c n r i).2.getD k 0) := h5
      obtain ⟨w3, b1, b2, b3⟩ := t_layTried n4 (x := i) (by omega) r s2 h3
      have sh3 : Sh (w3 6) v := by
        rw [b2.row 6 (fun i => by unfold P24; omega), h2.row 6 (fun i => by unfold P235; omega), a2.row 6 (fun i => by unfold P23; omega)]; exact h
      have mb := t_minutesBy sh3 hv hc n4 (fun k => r (djQ n i (n - 1 - k))) (fun k hk => ⟨hrm _ (Nat.mod_lt _ (by omega)), b3 k hk⟩)
      have lm : (List.range n).map (fun k => r (djQ n i (n - 1 - k))) = (ixl n i).map r := by unfold ixl; rw [List.map_map]; rfl
      rw [lm] at mb
      have cb : cR v c n r i ≤ 100000 := by
        unfold cR
        have : ∀ (l : List Nat) (a : Nat), a < 8 → (∀ x, x ∈ l → x < v 4) → cst v (hm v (v (100 + 3 * c))) a l ≤ 10000 * (l.length + 1) := by
          intro l
          induction l with
          | nil =>
            intro a ha _
            have := hv.2.1 a (hm v (v (100 + 3 * c))) ha (by have := (hv.1.2.2.2.2.2.2.1 _ (hv.1.2.2.2.2.2.2.2 c hc).1).2.2.2.1; unfold hm; omega)
            unfold cst dst
            simp
            omega
          | cons p l ih =>
            intro a ha hl
            have hp := hl p List.mem_cons_self
            have h7 : hm v p ≤ 7 := (hv.1.2.2.2.2.2.2.1 p hp).2.2.2.1
            have q := ih (hm v p) (by omega) (fun x hx => hl x (List.mem_cons_of_mem _ hx))
            have := hv.2.1 a (hm v p) ha (by omega)
            unfold cst dst
            rw [List.length_cons]
            omega
        have hl := this ((ixl n i).map r) 0 (by omega) (fun x hx => by obtain ⟨y, hy, rfl⟩ := List.mem_map.mp hx; exact hrm y (ixl_lt hy))
        have : ((ixl n i).map r).length = n := by unfold ixl; simp
        rw [this] at hl
        repeat' split
        all_goals omega
      have rl' := rf_le (v := v) c n r i
      -- the minutes of this number
      have bnd : ∀ (A : Int32 → Option (Int32 × Mem)), (jn (α := Int32) (fun j26 => (if n32 (if usd n i n = 2 ^ n - 1 then 1 else 0) = 0 then (j26 10000) else ((f_X8_minutesBy w3 (n32 c) (n32 n)).bind (fun r24 => (j26 r24))))) A) = A (n32 (cR v c n r i)) := by
        intro A
        unfold cR
        by_cases q : usd n i n = 2 ^ n - 1
        · rw [if_pos q, if_pos q, jnE, if_neg (by decide), mb]; rfl
        · rw [if_neg q, if_neg q, jnE, if_pos (by decide)]; rfl
      by_cases q : cR v c n r i < (rf v c n r i).1
      · obtain ⟨w4, d1, d2⟩ := cpy w3
        refine ⟨(n32 (rf v c n r (i + 1)).1, w4), ⟨rfl, ?_, ?_, ?_⟩, fun K t => ?_⟩
        · intro s' j hn'
          unfold P235 at hn'
          show w4 s' j = _
          rw [d2, if_neg (by omega), b2 s' j (by unfold P24; omega)]
          exact h2 s' j (by unfold P235; omega)
        · intro j hj
          show w4 23 j = _
          rw [d2, if_neg (by omega), b2 23 j (by unfold P24; omega)]; exact h3 j hj
        · rw [rf_succ, if_pos q]
          intro k hk
          have hk' : k < n := by
            have : ((ixl n i).map r).length = n := by unfold ixl; simp
            have hk : k < ((ixl n i).map r).length := hk
            omega
          show w4 25 k = n32 (((ixl n i).map r).getD k 0)
          rw [d2, if_pos ⟨rfl, hk'⟩, b3 k hk', ← lm]
          congr 1
          rw [List.getD_eq_getElem?_getD, List.getElem?_map, List.getElem?_range hk']
          rfl
        · refine Eq.trans (f_X8_leastOf_L80.eq_2 _ _ _ _ _ _ _ _) ?_
          rw [if_neg (by rw [n32_le (by omega) (by omega)]; omega), b1]
          simp only [bsE, bnd]
          rw [rf_succ, if_pos q, if_neg (by rw [n32_le (by omega) (by omega)]; omega), show (0 : Int32) = n32 0 from rfl, d1, n32_lit 1, n32_add]
      · refine ⟨(n32 (rf v c n r (i + 1)).1, w3), ⟨rfl, ?_, ?_, ?_⟩, fun K t => ?_⟩
        · intro s' j hn'
          unfold P235 at hn'
          show w3 s' j = _
          rw [b2 s' j (by unfold P24; omega)]
          exact h2 s' j (by unfold P235; omega)
        · intro j hj
          show w3 23 j = _
          rw [b2 23 j (by unfold P24; omega)]; exact h3 j hj
        · rw [rf_succ, if_neg q]
          intro k hk
          show w3 25 k = _
          rw [b2 25 k (by unfold P24; omega)]; exact h5 k hk
        · refine Eq.trans (f_X8_leastOf_L80.eq_2 _ _ _ _ _ _ _ _) ?_
          rw [if_neg (by rw [n32_le (by omega) (by omega)]; omega), b1]
          simp only [bsE, bnd]
          rw [rf_succ, if_neg q, if_pos (by rw [n32_le (by omega) (by omega)]; omega), n32_lit 1, n32_add]) (numb n) 0 (n32 10000, w1) 100000 (by omega) (by omega) ⟨rfl, Fr.refl, a3, fun k hk => by simp [rf] at hk⟩
  refine ⟨s.2, ?_, ?_, i5⟩
  · have := i2 (fun b ac => some (ac.1, ac.2))
    rw [i1] at this
    exact this
  · exact (a2.mono (fun s i q => Or.inl q)).trans i3
end EV
