/-! the reference: the least minutes of a car with riders -/
section EV
variable {w : Mem} {v : Nat → Nat}
def P23 (s _i : Nat) : Prop := s = 23
theorem getD_app1 {L : List Nat} {a j : Nat} (h : j < L.length) : (L ++ [a]).getD j 0 = L.getD j 0 := by
  rw [List.getD_eq_getElem?_getD, List.getD_eq_getElem?_getD, List.getElem?_append_left h]
theorem getD_app2 {L : List Nat} {a : Nat} : (L ++ [a]).getD L.length 0 = a := by
  rw [List.getD_eq_getElem?_getD, List.getElem?_append_right (Nat.le_refl _)]; simp
theorem t_riders8 {X : Nat} (hX : X < 128) (h4 : pop7 X ≤ 4) (w : Mem) : ∃ w', (∀ K, f_X8_leastOf_L5 K (n32 X) 100000 (n32 0) (n32 0) w = K (n32 (rl X 7).length) (n32 7) w') ∧ Fr P23 w w' ∧ ∀ j, j < (rl X 7).length → w' 23 j = n32 ((rl X 7).getD j 0) := by
  have hl := rl_len X hX
  obtain ⟨s, ⟨i1, i3, i4⟩, i2⟩ := loop_k (S := Int32 × Mem) (fun K t u s => f_X8_leastOf_L5 (fun a b c => K b (a, c)) (n32 X) t s.1 u s.2) 7 (fun i s => s.1 = n32 (rl X i).length ∧ Fr P23 w s.2 ∧ ∀ j, j < (rl X i).length → s.2 23 j = n32 ((rl X i).getD j 0)) (fun K t s _ => by
      refine Eq.trans (f_X8_leastOf_L5.eq_2 _ _ _ _ _ _) ?_
      simp (disch := omega) only [n32_lit, n32_add, n32_mul, n32_lt, n32_le, n32_eq, n32_nat, n32_inb, gd_dec, gd_one, nm_eq, jn_eq, Option.bind_some, Nat.reduceAdd, Nat.reduceMul, Nat.reduceSub, Nat.reduceLT, Nat.reduceLeDiff, Nat.reduceEqDiff, ↓reduceIte, decide_true, decide_false, and_true, true_and, and_false, false_and, or_false, false_or, or_true, true_or, not_true_eq_false, not_false_eq_true, eq_self, Nat.zero_add, Nat.add_zero, Nat.mul_zero, Nat.mul_one, Nat.zero_le, Nat.not_lt_zero, bind_sm, bind_sm2, Nat.le_refl]) (fun i s hi hI => by
      obtain ⟨s1, s2⟩ := s
      obtain ⟨h1, h2, h3⟩ := hI
      have h1 : s1 = n32 (rl X i).length := h1
      have h3 : ∀ j, j < (rl X i).length → s2 23 j = n32 ((rl X i).getD j 0) := h3
      subst h1
      rw [rl_succ]
      have mo := rl_mono (X := X) (p := i + 1) (6 - i)
      rw [show i + 1 + (6 - i) = 7 by omega, rl_succ, List.length_append] at mo
      cases hb : X.testBit i with
      | false =>
        refine ⟨(n32 (rl X i).length, s2), ⟨by simp, h2, ?_⟩, fun K t => ?_⟩
        · simpa using h3
        · refine Eq.trans (f_X8_leastOf_L5.eq_2 _ _ _ _ _ _) ?_
          simp (disch := omega) only [n32_lit, n32_add, n32_mul, n32_lt, n32_le, n32_eq, n32_nat, n32_inb, gd_dec, gd_one, nm_eq, jn_eq, Option.bind_some, Nat.reduceAdd, Nat.reduceMul, Nat.reduceSub, Nat.reduceLT, Nat.reduceLeDiff, Nat.reduceEqDiff, ↓reduceIte, decide_true, decide_false, and_true, true_and, and_false, false_and, or_false, false_or, or_true, true_or, not_true_eq_false, not_false_eq_true, eq_self, Nat.zero_add, Nat.add_zero, Nat.mul_zero, Nat.mul_one, Nat.zero_le, Nat.not_lt_zero, bind_sm, bind_sm2, show ¬ 7 ≤ i by omega, n32_bit, n32_b1, hb]
          simp
      | true =>
        rw [hb] at mo
        simp at mo
        refine ⟨(n32 ((rl X i).length + 1), up s2 23 (rl X i).length (n32 i)), ⟨by simp, h2.up 23 _ _ rfl, ?_⟩, fun K t => ?_⟩
        · intro j hj
          simp at hj
          rw [if_pos rfl]
          by_cases z : j = (rl X i).length
          · rw [z, getD_app2]; simp (disch := omega) only [up_at, up_ms, up_mi, upA_at, upA_ms]
          · rw [getD_app1 (by omega)]
            show up s2 23 _ _ 23 j = _
            rw [up_mi z]; exact h3 j (by omega)
        · refine Eq.trans (f_X8_leastOf_L5.eq_2 _ _ _ _ _ _) ?_
          simp (disch := omega) only [n32_lit, n32_add, n32_mul, n32_lt, n32_le, n32_eq, n32_nat, n32_inb, gd_dec, gd_one, nm_eq, jn_eq, Option.bind_some, Nat.reduceAdd, Nat.reduceMul, Nat.reduceSub, Nat.reduceLT, Nat.reduceLeDiff, Nat.reduceEqDiff, ↓reduceIte, decide_true, decide_false, and_true, true_and, and_false, false_and, or_false, false_or, or_true, true_or, not_true_eq_false, not_false_eq_true, eq_self, Nat.zero_add, Nat.add_zero, Nat.mul_zero, Nat.mul_one, Nat.zero_le, Nat.not_lt_zero, bind_sm, bind_sm2, show ¬ 7 ≤ i by omega, n32_bit, n32_b1, hb, show (rl X i).length < 4 by omega]) 7 0 (n32 0, w) 100000 (by omega) (by omega) ⟨rfl, Fr.refl, fun j hj => by simp [rl] at hj⟩
  refine ⟨s.2, fun K => ?_, i3, i4⟩
  have := i2 (fun b ac => K ac.1 b ac.2)
  rw [i1] at this
  exact this
def P24 (s _i : Nat) : Prop := s = 24
theorem usd_lt {n x : Nat} (hn : 0 < n) : ∀ j, usd n x j < 2 ^ n
  | 0 => Nat.two_pow_pos n
  | j + 1 => by
    rw [usd]
    exact or_lt (usd_lt hn j) (Nat.mod_lt _ hn)
theorem t_layTried {n x : Nat} (hn : n ≤ 4) (hx : x < 1000) (r : Nat → Nat) (w : Mem) (hr : ∀ j, j < n → w 23 j = n32 (r j)) : ∃ w', f_X8_layTried w (n32 x) (n32 n) = some (n32 (if usd n x n = 2 ^ n - 1 then 1 else 0), w') ∧ Fr P24 w w' ∧ ∀ k, k < n → w' 24 k = n32 (r (djQ n x (n - 1 - k))) := by
  unfold f_X8_layTried
  rw [nm_eq]
  have d : n32 n - 1 = dn n := rfl
  rw [d]
  have key : ok (fun res : Int32 × Mem => res.1 = n32 (if usd n x n = 2 ^ n - 1 then 1 else 0) ∧ Fr P24 w res.2 ∧ ∀ k, k < n → res.2 24 k = n32 (r (djQ n x (n - 1 - k)))) (f_X8_layTried_L10 (fun (u19 : Int32) (u20 : Int32) (u21 : Int32) (w22 : Mem) => (if u20 = ((1 <<< (n32 n &&& 31)) - 1) then (some (1, w22)) else (some (0, w22)))) (n32 n) 100000 (n32 x) (n32 0) (dn n) w) := by
    refine loop_dn (S := Int32 × Int32 × Mem) (fun t u s => f_X8_layTried_L10 (fun (u19 : Int32) (u20 : Int32) (u21 : Int32) (w22 : Mem) => (if u20 = ((1 <<< (n32 n &&& 31)) - 1) then (some (1, w22)) else (some (0, w22)))) (n32 n) t s.1 s.2.1 u s.2.2) (fun i s => i ≤ n ∧ s.1 = n32 (x / n ^ (n - i)) ∧ s.2.1 = n32 (usd n x (n - i)) ∧ Fr P24 w s.2.2 ∧ ∀ k, i ≤ k → k < n → s.2.2 24 k = n32 (r (djQ n x (n - 1 - k)))) _ ?_ ?_ n (n32 x, n32 0, w) 100000 (by omega) ?_
    · intro t s ⟨_, h1, h2, h3, h4⟩
      obtain ⟨s1, s2, s3⟩ := s
      refine ok_eq (f_X8_layTried_L10.eq_2 _ _ _ _ _ _ _) ?_
      have neg : ((-1 : Int32) < 0) = True := eq_true (by decide)
      simp only [neg, ↓reduceIte]
      have h2 : s2 = n32 (usd n x n) := h2
      have ub : usd n x n < 2147483648 := by
        by_cases z : n = 0
        · subst z; unfold usd; omega
        · have := usd_lt (n := n) (x := x) (by omega) n
          have := Nat.pow_le_pow_right (n := 2) (by omega) hn
          omega
      have p2 : 2 ^ n ≤ 16 := Nat.pow_le_pow_right (n := 2) (by omega) hn
      have al := t_all (P := n) (by omega)
      have al' : (1 <<< (n32 n &&& 31)) - 1 = n32 (2 ^ n - 1) := al
      simp only [al', h2, n32_eq ub (show 2 ^ n - 1 < 2147483648 by omega)]
      by_cases q : usd n x n = 2 ^ n - 1
      · simp only [q, ↓reduceIte]; exact ok_some ⟨rfl, h3, fun k hk => h4 k (by omega) hk⟩
      · simp only [q, ↓reduceIte]; exact ok_some ⟨rfl, h3, fun k hk => h4 k (by omega) hk⟩
    · intro i t s ⟨h0, h1, h2, h3, h4⟩
      left
      obtain ⟨s1, s2, s3⟩ := s
      have h1 : s1 = n32 (x / n ^ (n - (i + 1))) := h1
      have h2 : s2 = n32 (usd n x (n - (i + 1))) := h2
      have h3 : Fr P24 w s3 := h3
      have h4 : ∀ k, i + 1 ≤ k → k < n → s3 24 k = n32 (r (djQ n x (n - 1 - k))) := h4
      subst h1 h2
      have h3 : Fr P24 w s3 := h3
      have h4 : ∀ k, i + 1 ≤ k → k < n → s3 24 k = n32 (r (djQ n x (n - 1 - k))) := h4
      have hq : x / n ^ (n - (i + 1)) ≤ x := Nat.div_le_self _ _
      have md := n32_mod (a := x / n ^ (n - (i + 1))) (b := n) (by omega) (by omega)
      have ml : x / n ^ (n - (i + 1)) % n < n := Nat.mod_lt _ (by omega)
      have e1 : n - i = n - (i + 1) + 1 := by omega
      have e2 : n - 1 - i = n - (i + 1) := by omega
      have r3 : s3 23 (x / n ^ (n - (i + 1)) % n) = n32 (r (x / n ^ (n - (i + 1)) % n)) := by rw [h3 23 _ (by unfold P24; omega)]; exact hr _ ml
      refine ⟨(n32 (x / n ^ (n - i)), n32 (usd n x (n - i)), up s3 24 i (n32 (r (djQ n x (n - 1 - i))))), ⟨by omega, rfl, rfl, h3.up 24 _ _ rfl, ?_⟩, ?_⟩
      · intro k k1 k2
        by_cases z : k = i
        · subst z; simp (disch := omega) only [up_at, up_ms, up_mi, upA_at, upA_ms]
        · show up s3 24 i _ 24 k = _
          rw [up_mi z]; exact h4 k (by omega) k2
      · refine Eq.trans (f_X8_layTried_L10.eq_2 _ _ _ _ _ _ _) ?_
        have nz : ¬ n = 0 := by omega
        have dv := n32_div (a := x / n ^ (n - (i + 1))) (b := n) (by omega) (by omega)
        have e3 : x / n ^ (n - (i + 1)) / n = x / n ^ (n - i) := by rw [Nat.div_div_eq_div_mul, e1, Nat.pow_succ]
        have o1 := n32_one (i := x / n ^ (n - (i + 1)) % n) (by omega)
        simp only [md]
        rw [dv, e3]
        rw [e1, usd, e2]
        unfold djQ
        simp (disch := omega) only [n32_lit, n32_add, n32_mul, n32_lt, n32_le, n32_eq, n32_nat, n32_inb, gd_dec, gd_one, nm_eq, jn_eq, Option.bind_some, Nat.reduceAdd, Nat.reduceMul, Nat.reduceSub, Nat.reduceLT, Nat.reduceLeDiff, Nat.reduceEqDiff, ↓reduceIte, decide_true, decide_false, and_true, true_and, and_false, false_and, or_false, false_or, or_true, true_or, not_true_eq_false, not_false_eq_true, eq_self, Nat.zero_add, Nat.add_zero, Nat.mul_zero, Nat.mul_one, Nat.zero_le, Nat.not_lt_zero, bind_sm, bind_sm2, up_at, up_ms, up_mi, upA_at, upA_ms, nz, o1, n32_or', show x / n ^ (n - (i + 1)) % n < 4 by omega, show i < 4 by omega, r3, dn_p]
    · refine ⟨Nat.le_refl _, ?_, ?_, Fr.refl, fun k k1 k2 => by omega⟩
      · show n32 x = n32 (x / n ^ (n - n))
        rw [Nat.sub_self, Nat.pow_zero, Nat.div_one]
      · show n32 0 = n32 (usd n x (n - n))
        rw [Nat.sub_self]; rfl
  obtain ⟨res, e, h1, h2, h3⟩ := key
  exact ⟨res.2, by rw [n32_lit 0] at *; rw [e, ← h1], h2, h3⟩
/-- minutes by an order, with the one who was set down before -/
def mbl (v : Nat → Nat) (last : Nat) : Option Nat → Nat → Nat → List Nat → Nat
  | _, at_, s, [] => s + dst v at_ last
  | pr, at_, s, p :: l => if skv v p && (match pr with | none => false | some q => !(skv v q)) then 10000 else mbl v last (some p) (hm v p) (s + dst v at_ (hm v p)) l
theorem mbl_cst (v : Nat → Nat) (last : Nat) : ∀ (l : List Nat) (at_ s : Nat) (p : Nat), mbl v last (some p) at_ s l = if skb (skv v) (p :: l) then 10000 else s + cst v last at_ l
  | [], at_, s, p => rfl
  | q :: l, at_, s, p => by
    rw [mbl, skb]
    by_cases h : (skv v q && !(skv v p)) = true
    · rw [if_pos h, if_pos (by rw [h]; rfl)]
    · have h' : (skv v q && !(skv v p)) = false := by simpa using h
      rw [if_neg h, mbl_cst v last l (hm v q) _ q, h', Bool.false_or, cst, Nat.add_assoc]
theorem mbl_none (v : Nat → Nat) (last : Nat) (l : List Nat) (at_ s : Nat) : mbl v last none at_ s l = if skb (skv v) l then 10000 else s + cst v last at_ l := by
  cases l with
  | nil => rfl
  | cons p l =>
    rw [mbl, mbl_cst, Bool.and_false, if_neg (by decide), cst, Nat.add_assoc]
def tl (tr : Nat → Nat) : Nat → Nat → List Nat
  | 0, _ => []
  | d + 1, k => tr k :: tl tr d (k + 1)
theorem tl_map (tr : Nat → Nat) : ∀ d k, tl tr d k = (List.range d).map (fun i => tr (k + i))
  | 0, _ => rfl
  | d + 1, k => by
    rw [tl, tl_map tr d (k + 1), List.range_succ_eq_map, List.map_cons, List.map_map]
    congr 1
    apply List.map_congr_left
    intro i _
    show tr (k + 1 + i) = tr (k + (i + 1))
    congr 1; omega
theorem t_minutesBy (h : Sh (w 6) v) (hv : Vd v) {c n : Nat} (hc : c < v 5) (hn : n ≤ 4) (tr : Nat → Nat) (ht : ∀ k, k < n → tr k < v 4 ∧ w 24 k = n32 (tr k)) : f_X8_minutesBy w (n32 c) (n32 n) = some (n32 (if skb (skv v) ((List.range n).map tr) then 10000 else cst v (hm v (v (100 + 3 * c))) 0 ((List.range n).map tr))) := by
  obtain ⟨⟨h4, h5, h0, h1', h6, h7, hP, hC⟩, hF⟩ := hv
  have hh : ∀ p, p < v 4 → hm v p ≤ 7 := fun p hp => (hP p hp).2.2.2.1
  have hd : ∀ a b, a < 8 → b < 8 → dst v a b ≤ 10000 := fun a b ha hb => by have := hF.1 a b ha hb; unfold dst; omega
  obtain ⟨oc1, oc2, oc3, oc4, oc5⟩ := hC c hc
  have e1 := t_car00 h (c := c) (by omega)
  have e2 := t_of (k := 1) h (p := v (100 + 3 * c)) (by omega) (by omega)
  unfold f_X8_minutesBy
  have key : ∀ d k t at_ s, k + d = n → d < t → at_ < 8 → s ≤ 10000 * k → f_X8_minutesBy_L8 (fun (u28 : Int32) (u29 : Int32) (u30 : Int32) => ((f_X8_car0 w (n32 c) (0 : Int32)).bind (fun r31 => ((f_X8_of w r31 (1 : Int32)).bind (fun r32 => ((f_X8_farOf w u28 r32).bind (fun r33 => (some (u29 + r33))))))))) (n32 n) w t (n32 at_) (n32 s) (n32 k) = some (n32 (mbl v (hm v (v (100 + 3 * c))) (if k = 0 then none else some (tr (k - 1))) at_ s (tl tr d k))) := by
    intro d
    induction d with
    | zero =>
      intro k t at_ s h1 h2 h3 h5'
      obtain ⟨t, rfl⟩ : ∃ x, t = x + 1 := ⟨t - 1, by omega⟩
      have e3 := t_farOf h (a := at_) (b := hm v (v (100 + 3 * c))) h3 (by have := hh _ oc1; omega)
      have e2' : f_X8_of w (n32 (v (100 + 3 * c))) (n32 1) = some (n32 (hm v (v (100 + 3 * c)))) := e2
      rw [f_X8_minutesBy_L8.eq_2]
      simp (maxSteps := 400000) (disch := omega) only [n32_lit, n32_add, n32_mul, n32_lt, n32_le, n32_eq, n32_nat, n32_inb, gd_dec, gdE, ↓nmE, ↓jnE, ↓bsE, Nat.reduceAdd, Nat.reduceMul, Nat.reduceSub, Nat.reduceLT, Nat.reduceLeDiff, Nat.reduceEqDiff, ↓reduceIte, decide_true, decide_false, and_true, true_and, and_false, false_and, or_false, false_or, or_true, true_or, not_true_eq_false, not_false_eq_true, eq_self, Nat.zero_add, Nat.add_zero, Nat.mul_zero, Nat.mul_one, Nat.zero_le, Nat.not_lt_zero, bind_sm, bind_sm2, show n ≤ k by omega, e1, e2', e3]
      rfl
    | succ d ih =>
      intro k t at_ s h1 h2 h3 h5'
      obtain ⟨t, rfl⟩ : ∃ x, t = x + 1 := ⟨t - 1, by omega⟩
      obtain ⟨t1, t2⟩ := ht k (by omega)
      have a1 : f_X8_of w (n32 (tr k)) (n32 1) = some (n32 (hm v (tr k))) := t_of (k := 1) h (p := tr k) (by omega) (by omega)
      have a0 := t_of0 h (p := tr k) (by omega)
      have e3 := t_farOf h (a := at_) (b := hm v (tr k)) h3 (by have := hh _ t1; omega)
      have hdb := hd at_ (hm v (tr k)) h3 (by have := hh _ t1; omega)
      have e3' : f_X8_farOf w (n32 at_) (n32 (hm v (tr k))) = some (n32 (dst v at_ (hm v (tr k)))) := e3
      have hk := (hP _ t1).2.1
      have nxt := ih (k + 1) t (hm v (tr k)) (s + dst v at_ (hm v (tr k))) (by omega) (by omega) (by have := hh _ t1; omega) (by omega)
      rw [if_neg (by omega), show k + 1 - 1 = k by omega] at nxt
      rw [f_X8_minutesBy_L8.eq_2, tl]
      by_cases z : k = 0
      · subst z
        have eR : mbl v (hm v (v (100 + 3 * c))) (if 0 = 0 then none else some (tr (0 - 1))) at_ s (tr 0 :: tl tr d (0 + 1)) = mbl v (hm v (v (100 + 3 * c))) (some (tr 0)) (hm v (tr 0)) (s + dst v at_ (hm v (tr 0))) (tl tr d (0 + 1)) := by
          rw [if_pos rfl, mbl, Bool.and_false, if_neg (by decide)]
        rw [eR, ← nxt]
        simp (maxSteps := 400000) (disch := omega) only [n32_lit, n32_add, n32_mul, n32_lt, n32_le, n32_eq, n32_nat, n32_inb, gd_dec, gdE, ↓nmE, ↓jnE, ↓bsE, Nat.reduceAdd, Nat.reduceMul, Nat.reduceSub, Nat.reduceLT, Nat.reduceLeDiff, Nat.reduceEqDiff, ↓reduceIte, decide_true, decide_false, and_true, true_and, and_false, false_and, or_false, false_or, or_true, true_or, not_true_eq_false, not_false_eq_true, eq_self, Nat.zero_add, Nat.add_zero, Nat.mul_zero, Nat.mul_one, Nat.zero_le, Nat.not_lt_zero, bind_sm, bind_sm2, show ¬ n ≤ 0 by omega, show 0 < 4 by omega, t2, a1, e3']
      · obtain ⟨p1, p2⟩ := ht (k - 1) (by omega)
        have b0 := t_of0 h (p := tr (k - 1)) (by omega)
        have hk' := (hP _ p1).2.1
        have es : n32 k - n32 1 = n32 (k - 1) := n32_sub (by omega)
        have eR : mbl v (hm v (v (100 + 3 * c))) (if k = 0 then none else some (tr (k - 1))) at_ s (tr k :: tl tr d (k + 1)) = if (skv v (tr k) && !(skv v (tr (k - 1)))) = true then 10000 else mbl v (hm v (v (100 + 3 * c))) (some (tr k)) (hm v (tr k)) (s + dst v at_ (hm v (tr k))) (tl tr d (k + 1)) := by
          rw [if_neg z, mbl]
        rw [eR]
        by_cases q : v (72 + 4 * tr k) < 4
        · have s0 : skv v (tr k) = false := by unfold skv; exact decide_eq_false (by omega)
          have eS : (if (skv v (tr k) && !(skv v (tr (k - 1)))) = true then 10000 else mbl v (hm v (v (100 + 3 * c))) (some (tr k)) (hm v (tr k)) (s + dst v at_ (hm v (tr k))) (tl tr d (k + 1))) = mbl v (hm v (v (100 + 3 * c))) (some (tr k)) (hm v (tr k)) (s + dst v at_ (hm v (tr k))) (tl tr d (k + 1)) := by rw [s0, Bool.false_and, if_neg (by decide)]
          rw [eS, ← nxt]
          simp (maxSteps := 400000) (disch := omega) only [n32_lit, n32_add, n32_mul, n32_lt, n32_le, n32_eq, n32_nat, n32_inb, gd_dec, gdE, ↓nmE, ↓jnE, ↓bsE, Nat.reduceAdd, Nat.reduceMul, Nat.reduceSub, Nat.reduceLT, Nat.reduceLeDiff, Nat.reduceEqDiff, ↓reduceIte, decide_true, decide_false, and_true, true_and, and_false, false_and, or_false, false_or, or_true, true_or, not_true_eq_false, not_false_eq_true, eq_self, Nat.zero_add, Nat.add_zero, Nat.mul_zero, Nat.mul_one, Nat.zero_le, Nat.not_lt_zero, bind_sm, bind_sm2, show ¬ n ≤ k by omega, show ¬ k ≤ 0 by omega, show k < 4 by omega, t2, a0, q, a1, e3']
        · have s1 : skv v (tr k) = true := by unfold skv; exact decide_eq_true (by omega)
          by_cases q2 : 4 ≤ v (72 + 4 * tr (k - 1))
          · have s2 : skv v (tr (k - 1)) = true := by unfold skv; exact decide_eq_true q2
            have eS : (if (skv v (tr k) && !(skv v (tr (k - 1)))) = true then 10000 else mbl v (hm v (v (100 + 3 * c))) (some (tr k)) (hm v (tr k)) (s + dst v at_ (hm v (tr k))) (tl tr d (k + 1))) = mbl v (hm v (v (100 + 3 * c))) (some (tr k)) (hm v (tr k)) (s + dst v at_ (hm v (tr k))) (tl tr d (k + 1)) := by rw [s1, s2, if_neg (by decide)]
            rw [eS, ← nxt]
            simp (maxSteps := 400000) (disch := omega) only [n32_lit, n32_add, n32_mul, n32_lt, n32_le, n32_eq, n32_nat, n32_inb, gd_dec, gdE, ↓nmE, ↓jnE, ↓bsE, Nat.reduceAdd, Nat.reduceMul, Nat.reduceSub, Nat.reduceLT, Nat.reduceLeDiff, Nat.reduceEqDiff, ↓reduceIte, decide_true, decide_false, and_true, true_and, and_false, false_and, or_false, false_or, or_true, true_or, not_true_eq_false, not_false_eq_true, eq_self, Nat.zero_add, Nat.add_zero, Nat.mul_zero, Nat.mul_one, Nat.zero_le, Nat.not_lt_zero, bind_sm, bind_sm2, show ¬ n ≤ k by omega, show ¬ k ≤ 0 by omega, show k < 4 by omega, t2, a0, q, es, show k - 1 < 4 by omega, p2, b0, q2, a1, e3']
          · have s2 : skv v (tr (k - 1)) = false := by unfold skv; exact decide_eq_false q2
            have eS : (if (skv v (tr k) && !(skv v (tr (k - 1)))) = true then 10000 else mbl v (hm v (v (100 + 3 * c))) (some (tr k)) (hm v (tr k)) (s + dst v at_ (hm v (tr k))) (tl tr d (k + 1))) = 10000 := by rw [s1, s2, if_pos (by decide)]
            rw [eS]
            simp (maxSteps := 400000) (disch := omega) only [n32_lit, n32_add, n32_mul, n32_lt, n32_le, n32_eq, n32_nat, n32_inb, gd_dec, gdE, ↓nmE, ↓jnE, ↓bsE, Nat.reduceAdd, Nat.reduceMul, Nat.reduceSub, Nat.reduceLT, Nat.reduceLeDiff, Nat.reduceEqDiff, ↓reduceIte, decide_true, decide_false, and_true, true_and, and_false, false_and, or_false, false_or, or_true, true_or, not_true_eq_false, not_false_eq_true, eq_self, Nat.zero_add, Nat.add_zero, Nat.mul_zero, Nat.mul_one, Nat.zero_le, Nat.not_lt_zero, bind_sm, bind_sm2, show ¬ n ≤ k by omega, show ¬ k ≤ 0 by omega, show k < 4 by omega, t2, a0, q, es, show k - 1 < 4 by omega, p2, b0, q2]
  have := key n 0 100000 0 0 (by omega) (by omega) (by omega) (by omega)
  rw [if_pos rfl, mbl_none, tl_map] at this
  refine this.trans ?_
  simp only [Nat.zero_add]
end EV
