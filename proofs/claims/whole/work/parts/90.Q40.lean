/-! a plan stands over glasses, and falls with the evening -/
section EV
variable {m3 : Mem} {v v' : Nat → Nat} {g : Nat}
theorem gl_hm (h : Gl v v') (p : Nat) : hm v' p = hm v p := h _ (by intro q hq; omega)
theorem gl_sk (h : Gl v v') : skv v' = skv v := by
  funext p
  unfold skv
  rw [h (72 + 4 * p) (by intro q hq; omega)]
theorem gl_ow (h : Gl v v') (c : Nat) : ow v' c = ow v c := h _ (by intro q hq; omega)
theorem gl_dst (h : Gl v v') {a b : Nat} (ha : a < 8) (hb : b < 8) : dst v' a b = dst v a b := h _ (by intro q hq; omega)
theorem gl_cst (h : Gl v v') {last : Nat} (hl : last < 8) : ∀ (l : List Nat) (a : Nat), a < 8 → (∀ p, p ∈ l → hm v p < 8) → cst v' last a l = cst v last a l
  | [], a, ha, _ => gl_dst h ha hl
  | p :: l, a, ha, hp => by
    have p8 := hp p List.mem_cons_self
    unfold cst
    rw [gl_hm h p, gl_dst h ha p8, gl_cst h hl l (hm v p) p8 (fun q hq => hp q (List.mem_cons_of_mem _ hq))]
theorem best_congr {cost cost' : List Nat → Nat} : ∀ (ls : List (List Nat)) (acc : Nat × List Nat), (∀ l, l ∈ ls → cost l = cost' l) → best cost acc ls = best cost' acc ls
  | [], _, _ => rfl
  | l :: ls, acc, h => by
    show best cost (pick cost acc l) ls = best cost' (pick cost' acc l) ls
    have : pick cost acc l = pick cost' acc l := by unfold pick; rw [h l List.mem_cons_self]
    rw [this]
    exact best_congr ls _ (fun x hx => h x (List.mem_cons_of_mem _ hx))
theorem gl_lst (h : Gl v v') (hv : Vd v) {c X : Nat} (hc : c < v 5) (hX : X < 2 ^ v 4) : lst v' c X = lst v c X := by
  have hh : ∀ p, p < v 4 → hm v p < 8 := fun p hp => by have := (hv.1.2.2.2.2.2.2.1 p hp).2.2.2.1; unfold hm; omega
  have o1 := (hv.1.2.2.2.2.2.2.2 c hc).1
  have eo : v' (100 + 3 * c) = v (100 + 3 * c) := gl_ow h c
  unfold lst
  rw [gl_sk h, eo, gl_hm h]
  exact best_congr _ _ (fun l hl => gl_cst h (hh _ o1) l 0 (by omega) (fun p hp => hh p (Sub.mem (v := v) hX (rl_lt (lines_len _ _ l hl p hp)).2)))
theorem gl_fit (h : Gl v v') (hv : Vd v) (c X : Nat) : Fit v' c X ↔ Fit v c X := by
  have hh : ∀ p, p < v 4 → hm v p < 8 := fun p hp => by have := (hv.1.2.2.2.2.2.2.1 p hp).2.2.2.1; unfold hm; omega
  have e4 : v' 4 = v 4 := h 4 (by intro q hq; omega)
  have e7 : v' 7 = v 7 := h 7 (by intro q hq; omega)
  have s1 : v' (100 + 3 * c + 1) = v (100 + 3 * c + 1) := h _ (by intro q hq; omega)
  have s2 : v' (100 + 3 * c + 2) = v (100 + 3 * c + 2) := h _ (by intro q hq; omega)
  have s3 : ∀ p, v' (72 + 4 * p + 3) = v (72 + 4 * p + 3) := fun p => h _ (by intro q hq; omega)
  have s8 : ∀ p, p < v 4 → v' (8 + hm v p) = v (8 + hm v p) := fun p hp => h _ (by intro q hq; have := hh p hp; omega)
  unfold Fit
  rw [gl_ow h, e4, e7, s1, s2]
  constructor
  · intro ⟨a, b⟩
    refine ⟨a, fun p hp hb => ?_⟩
    have := b p hp hb
    rw [s3 p, gl_hm h p, s8 p hp] at this
    exact this
  · intro ⟨a, b⟩
    refine ⟨a, fun p hp hb => ?_⟩
    rw [s3 p, gl_hm h p, s8 p hp]
    exact b p hp hb
theorem gl_val (h : Gl v v') (hv : Vd v) (T : Nat → Nat) : Val v' g T ↔ Val v g T := by
  unfold Val
  constructor
  · intro q c hc
    exact ⟨fun x => (gl_fit h hv c _).mp ((q c hc).1 x), (q c hc).2⟩
  · intro q c hc
    exact ⟨fun x => (gl_fit h hv c _).mpr ((q c hc).1 x), (q c hc).2⟩
theorem gl_smT (h : Gl v v') (hv : Vd v) (hg : GV v g) {T : Nat → Nat} (hT : ∀ i, T i < 2 ^ v 4) : ∀ n, smT v' g T n = smT v g T n
  | 0 => rfl
  | n + 1 => by
    show smT v' g T n + (if g.testBit n then (lst v' n (T n)).1 else 0) = smT v g T n + (if g.testBit n then (lst v n (T n)).1 else 0)
    rw [gl_smT h hv hg hT n]
    cases hb : g.testBit n with
    | false => rfl
    | true => rw [gl_lst h hv (hg.2 n hb) (hT n)]
theorem gl_spec (h : Gl v v') (hv : Vd v) (hg : GV v g) : ∀ (ps : List Nat) (acc : Acc) (T : Nat → Nat), (∀ p, p ∈ ps → p < v 4) → (∀ i, T i < 2 ^ v 4) → spec v' g ps acc T = spec v g ps acc T
  | [], acc, T, _, hT => by
    unfold spec leaf
    by_cases q : Val v g T
    · rw [if_pos q, if_pos ((gl_val h hv T).mpr q), gl_smT h hv hg hT]
    · rw [if_neg q, if_neg (fun z => q ((gl_val h hv T).mp z))]
  | p :: ps, acc, T, hp, hT => by
    have hp4 := hp p List.mem_cons_self
    have st := fun acc d => gl_spec h hv hg ps acc (addT T d p) (fun q hq => hp q (List.mem_cons_of_mem _ hq)) (addT_lt hT hp4)
    unfold spec
    rw [st, st, st, st]
theorem gl_pl (h : Gl v v') (hv : Vd v) (hR : RPl v m3) : RPl v' m3 := by
  have e4 : v' 4 = v 4 := h 4 (by intro q hq; omega)
  have e5 : v' 5 = v 5 := h 5 (by intro q hq; omega)
  obtain ⟨k1, k2, k3⟩ := hR
  refine ⟨fun c X hc hX => ?_, k2, ?_⟩
  · rw [e5] at hc
    rw [e4] at hX
    rw [gl_lst h hv hc hX]; exact k1 c X hc hX
  · rcases k3 with k3 | ⟨g, a, b, c⟩
    · exact Or.inl k3
    · refine Or.inr ⟨g, ⟨a.1, fun c hc => by rw [e5]; exact a.2 c hc⟩, b, ?_⟩
      have nd : ∀ p, ndr v' g p = ndr v g p := fun p => by
        unfold ndr
        rw [e5]
        have : ∀ c, v' (100 + 3 * c) = v (100 + 3 * c) := fun c => gl_ow h c
        simp only [this]
      have er : rdl v' g (v' 4) = rdl v g (v 4) := by
        unfold rdl
        rw [e4]
        exact List.filter_congr (fun p _ => nd p)
      unfold plan0
      rw [er, gl_spec h hv a _ _ _ (fun p hp => (rdl_mem hp).1) (fun _ => Nat.two_pow_pos _)]
      exact c
theorem fgt_pl {m3' : Mem} (hR : RPl v m3) (h : Fgt m3 m3') (hv' : Vd v') : RPl v' m3' := by
  obtain ⟨h1, h2, h3⟩ := h
  have p7 : 2 ^ v' 4 ≤ 2 ^ 7 := Nat.pow_le_pow_right (n := 2) (by omega) hv'.1.1
  refine ⟨fun c X hc hX => Or.inl (h2 _ (by have := hv'.1.2.1; omega)), fun c hc => ?_, Or.inl h1⟩
  rw [h3 7 c (by omega) (by omega)]; exact hR.2.1 c hc
end EV
