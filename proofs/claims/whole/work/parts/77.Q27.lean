/-! lines of riders -/
/-- who may be set down next -/
def nxt (sk : Nat → Bool) (L : List Nat) : List Nat := if L.any sk then L.filter sk else L
def lines (sk : Nat → Bool) : Nat → List Nat → List (List Nat)
  | 0, _ => []
  | f + 1, L => if L = [] then [[]] else (nxt sk L).flatMap (fun p => (lines sk f (L.filter (fun q => !(q == p)))).map (fun l => p :: l))
/-- digits of a number to base n, the last first -/
def djQ (n x j : Nat) : Nat := x / n ^ j % n
def usd (n x : Nat) : Nat → Nat
  | 0 => 0
  | j + 1 => usd n x j ||| 2 ^ djQ n x j
def ixl (n x : Nat) : List Nat := (List.range n).map (fun k => djQ n x (n - 1 - k))
/-- a sick one comes behind one that isn't -/
def skb (sk : Nat → Bool) : List Nat → Bool
  | [] => false
  | [_] => false
  | a :: b :: l => (sk b && !(sk a)) || skb sk (b :: l)
def numb (n : Nat) : Nat := if n = 4 then 256 else if n = 3 then 27 else if n = 2 then 4 else 1
def vldi (n : Nat) (sk : Nat → Bool) (x : Nat) : Bool := usd n x n == 2 ^ n - 1 && !(skb sk (ixl n x))
theorem lines_ix : ∀ n, n < 5 → ∀ s, s < 16 → ((List.range (numb n)).filter (vldi n (fun i => s.testBit i))).map (ixl n) = lines (fun i => s.testBit i) (n + 1) (List.range n) := by decide +kernel
theorem any_map {r : Nat → Nat} {sk : Nat → Bool} (L : List Nat) : (L.map r).any sk = L.any (fun i => sk (r i)) := by
  rw [List.any_map]; rfl
theorem filter_map' {r : Nat → Nat} {p : Nat → Bool} (L : List Nat) : (L.map r).filter p = (L.filter (fun i => p (r i))).map r := by
  rw [List.filter_map]; rfl
theorem filter_congr' {p q : Nat → Bool} {L : List Nat} (h : ∀ x, x ∈ L → p x = q x) : L.filter p = L.filter q := List.filter_congr h
theorem lines_map {r : Nat → Nat} {sk : Nat → Bool} : ∀ f (L : List Nat), (∀ a, a ∈ L → ∀ b, b ∈ L → r a = r b → a = b) → lines sk f (L.map r) = (lines (fun i => sk (r i)) f L).map (List.map r)
  | 0, _, _ => rfl
  | f + 1, L, hi => by
    unfold lines
    by_cases z : L = []
    · subst z; rfl
    · rw [if_neg z, if_neg (by intro q; exact z (List.map_eq_nil_iff.mp q))]
      have e1 : nxt sk (L.map r) = (nxt (fun i => sk (r i)) L).map r := by
        unfold nxt
        rw [any_map, filter_map']
        split <;> rfl
      have sub : ∀ a, a ∈ nxt (fun i => sk (r i)) L → a ∈ L := by
        intro a ha
        unfold nxt at ha
        split at ha
        · exact (List.mem_filter.mp ha).1
        · exact ha
      rw [e1, List.map_flatMap]
      generalize nxt (fun i => sk (r i)) L = M at sub
      have : ∀ M : List Nat, (∀ a, a ∈ M → a ∈ L) → (M.map r).flatMap (fun p => (lines sk f ((L.map r).filter (fun q => !(q == p)))).map (fun l => p :: l)) = M.flatMap (fun a => ((lines (fun i => sk (r i)) f (L.filter (fun q => !(q == a)))).map (fun l => a :: l)).map (List.map r)) := by
        intro M
        induction M with
        | nil => intro _; rfl
        | cons a M ih =>
          intro hs
          rw [List.map_cons, List.flatMap_cons, List.flatMap_cons, ih (fun x hx => hs x (List.mem_cons_of_mem _ hx))]
          congr 1
          have ha : a ∈ L := hs a List.mem_cons_self
          have e2 : (L.map r).filter (fun q => !(q == r a)) = (L.filter (fun q => !(q == a))).map r := by
            rw [filter_map']
            congr 1
            refine filter_congr' (fun x hx => ?_)
            by_cases q : x = a
            · subst q; simp
            · have : ¬ r x = r a := fun c => q (hi x hx a ha c)
              show (!(r x == r a)) = (!(x == a))
              rw [beq_eq_false_iff_ne.mpr this, beq_eq_false_iff_ne.mpr q]
          rw [e2, lines_map f (L.filter (fun q => !(q == a))) (fun x hx y hy => hi x (List.mem_filter.mp hx).1 y (List.mem_filter.mp hy).1), List.map_map, List.map_map]
          rfl
      exact this M sub
/-- riders of a set, in their order -/
def rl (X p : Nat) : List Nat := (List.range p).filter (fun q => X.testBit q)
theorem rl_succ (X p : Nat) : rl X (p + 1) = rl X p ++ (if X.testBit p then [p] else []) := by
  unfold rl
  rw [List.range_succ, List.filter_append]
  congr 1
  cases h : X.testBit p
  · simp [h]
  · simp [h]
theorem rl_len : ∀ X, X < 128 → (rl X 7).length = pop7 X := by decide +kernel
theorem rl_lt {X p q : Nat} (h : q ∈ rl X p) : q < p ∧ X.testBit q = true := by
  unfold rl at h
  obtain ⟨a, b⟩ := List.mem_filter.mp h
  exact ⟨List.mem_range.mp a, b⟩
theorem rl_mono {X p : Nat} : ∀ d, (rl X p).length ≤ (rl X (p + d)).length
  | 0 => Nat.le_refl _
  | d + 1 => by
    have := rl_mono (X := X) (p := p) d
    rw [show p + (d + 1) = p + d + 1 by omega, rl_succ, List.length_append]
    omega
theorem rl_inj {X : Nat} (hX : X < 128) : ∀ i j, i < (rl X 7).length → j < (rl X 7).length → (rl X 7).getD i 0 = (rl X 7).getD j 0 → i = j := by
  have : ∀ X, X < 128 → ∀ i, i < (rl X 7).length → ∀ j, j < (rl X 7).length → (rl X 7).getD i 0 = (rl X 7).getD j 0 → i = j := by decide +kernel
  exact fun i j hi hj => this X hX i hi j hj
theorem list_range_getD (L : List Nat) : (List.range L.length).map (fun i => L.getD i 0) = L := by
  apply List.ext_getElem
  · simp
  · intro i h1 h2
    simp at h1
    rw [List.getElem_map, List.getElem_range, List.getD_eq_getElem?_getD, List.getElem?_eq_getElem h1]
    rfl
/-! what a line takes -/
section EV
variable {v : Nat → Nat}
def hm (v : Nat → Nat) (p : Nat) : Nat := v (72 + 4 * p + 1)
def skv (v : Nat → Nat) (p : Nat) : Bool := decide (4 ≤ v (72 + 4 * p))
def dst (v : Nat → Nat) (a b : Nat) : Nat := v (8 + 8 * a + b)
def cst (v : Nat → Nat) (last : Nat) : Nat → List Nat → Nat
  | at_, [] => dst v at_ last
  | at_, p :: l => dst v at_ (hm v p) + cst v last (hm v p) l
/-- the first of the shortest -/
def pick (cost : List Nat → Nat) (acc : Nat × List Nat) (l : List Nat) : Nat × List Nat := if cost l < acc.1 then (cost l, l) else acc
def best (cost : List Nat → Nat) (acc : Nat × List Nat) (ls : List (List Nat)) : Nat × List Nat := ls.foldl (pick cost) acc
theorem best_append (cost : List Nat → Nat) (acc : Nat × List Nat) (a b : List (List Nat)) : best cost acc (a ++ b) = best cost (best cost acc a) b := List.foldl_append
theorem best_skip {cost : List Nat → Nat} {acc : Nat × List Nat} : ∀ ls : List (List Nat), (∀ l, l ∈ ls → acc.1 ≤ cost l) → best cost acc ls = acc
  | [], _ => rfl
  | l :: ls, h => by
    have h1 := h l List.mem_cons_self
    show best cost (pick cost acc l) ls = acc
    have : pick cost acc l = acc := by unfold pick; rw [if_neg (by omega)]
    rw [this]
    exact best_skip ls (fun x hx => h x (List.mem_cons_of_mem _ hx))
theorem best_le {cost : List Nat → Nat} : ∀ (ls : List (List Nat)) (acc : Nat × List Nat), (best cost acc ls).1 ≤ acc.1
  | [], acc => Nat.le_refl _
  | l :: ls, acc => by
    have := best_le (cost := cost) ls (pick cost acc l)
    have h2 : (pick cost acc l).1 ≤ acc.1 := by unfold pick; split <;> simp <;> omega
    show (best cost (pick cost acc l) ls).1 ≤ acc.1
    omega
/-- only those count that are told -/
theorem best_filter {cost cost' : List Nat → Nat} {B : Nat} {α : Type} (g : α → List Nat) (ok : α → Bool) (c : α → Nat) (hc : ∀ x, c x = if ok x then cost (g x) else B) : ∀ (xs : List α) (acc : Nat × List Nat), acc.1 ≤ B → xs.foldl (fun acc x => if c x < acc.1 then (c x, g x) else acc) acc = best cost acc ((xs.filter ok).map g)
  | [], acc, _ => rfl
  | x :: xs, acc, h => by
    rw [List.foldl_cons]
    cases hx : ok x with
    | true =>
      rw [List.filter_cons_of_pos hx, List.map_cons]
      show _ = best cost (pick cost acc (g x)) _
      have e : c x = cost (g x) := by rw [hc, hx]; rfl
      rw [e]
      refine (best_filter (cost := cost) (cost' := cost') g ok c hc xs _ ?_).trans ?_
      · split
        · simp; omega
        · exact h
      · rfl
    | false =>
      have e : c x = B := by rw [hc, hx]; rfl
      rw [List.filter_cons_of_neg (by rw [hx]; decide), e, if_neg (by omega)]
      exact best_filter (cost := cost) (cost' := cost') g ok c hc xs acc h
end EV
