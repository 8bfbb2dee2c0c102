/-! the reference goes through all rows -/
theorem addT_lt {T : Nat → Nat} {P d p : Nat} (h : ∀ i, T i < 2 ^ P) (hp : p < P) : ∀ i, addT T d p i < 2 ^ P := by
  intro i
  unfold addT
  split
  · exact or_lt (h i) hp
  · exact h i
theorem Tpre_lt {R : Nat → Nat} {P : Nat} : ∀ m x, (∀ k, k < m → R k < P) → ∀ i, Tpre R m x i < 2 ^ P
  | 0, x, _, i => Nat.two_pow_pos P
  | m + 1, x, h, i => addT_lt (Tpre_lt m (x / 4) (fun k hk => h k (by omega))) (h m (by omega)) i
theorem or_swap (a b c : Nat) : a ||| (b ||| c) = (a ||| c) ||| b := by rw [Nat.or_assoc, Nat.or_comm c b]
section EV
variable {w : Mem} {v : Nat → Nat} {g : Nat}
def P32 (s _i : Nat) : Prop := s = 32
theorem t_layRow {K x P : Nat} (hK : K ≤ 7) (hP : P ≤ 7) (hx : x < 100000) {R : Nat → Nat} (hR : ∀ k, k < K → R k < P ∧ w 30 k = n32 (R k)) (h30 : w 0 30 = n32 K) : ∃ w', f_X8_layRow w (n32 x) = some w' ∧ Fr P32 w w' ∧ ∀ d, d < 4 → w' 32 d = n32 (Tpre R K x d) := by
  unfold f_X8_layRow
  obtain ⟨s, i1, i2⟩ := loop_k (S := Mem) (fun K t u s => f_X8_layRow_L4 K t u s) 4 (fun i r => ∀ s j, r s j = if s = 32 ∧ j < i then n32 0 else w s j) (fun K t s _ => by
      refine Eq.trans (f_X8_layRow_L4.eq_2 _ _ _ _) ?_
      simp (disch := omega) only [n32_lit, n32_add, n32_mul, n32_lt, n32_le, n32_eq, n32_nat, n32_inb, gd_dec, gd_one, nm_eq, jn_eq, Option.bind_some, Nat.reduceAdd, Nat.reduceMul, Nat.reduceSub, Nat.reduceLT, Nat.reduceLeDiff, Nat.reduceEqDiff, ↓reduceIte, decide_true, decide_false, and_true, true_and, and_false, false_and, or_false, false_or, or_true, true_or, not_true_eq_false, not_false_eq_true, eq_self, Nat.zero_add, Nat.add_zero, Nat.mul_zero, Nat.mul_one, Nat.zero_le, Nat.not_lt_zero, bind_sm, bind_sm2, Nat.le_refl]) (fun i s hi hI => ⟨up s 32 i (n32 0), fun s' j => by
        rw [up_ap, hI]
        by_cases z1 : s' = 32
        · by_cases z2 : j = i
          · rw [if_pos ⟨z1, z2⟩, if_pos (by omega)]
          · rw [if_neg (by omega)]
            by_cases z3 : j < i
            · rw [if_pos ⟨z1, z3⟩, if_pos (by omega)]
            · rw [if_neg (by omega), if_neg (by omega)]
        · rw [if_neg (by omega), if_neg (by omega), if_neg (by omega)], fun K t => by
      refine Eq.trans (f_X8_layRow_L4.eq_2 _ _ _ _) ?_
      simp (disch := omega) only [n32_lit, n32_add, n32_mul, n32_lt, n32_le, n32_eq, n32_nat, n32_inb, gd_dec, gd_one, nm_eq, jn_eq, Option.bind_some, Nat.reduceAdd, Nat.reduceMul, Nat.reduceSub, Nat.reduceLT, Nat.reduceLeDiff, Nat.reduceEqDiff, ↓reduceIte, decide_true, decide_false, and_true, true_and, and_false, false_and, or_false, false_or, or_true, true_or, not_true_eq_false, not_false_eq_true, eq_self, Nat.zero_add, Nat.add_zero, Nat.mul_zero, Nat.mul_one, Nat.zero_le, Nat.not_lt_zero, bind_sm, bind_sm2, show ¬ 4 ≤ i by omega, hi]⟩) 4 0 w 100000 (by omega) (by omega) (fun s j => by rw [if_neg (by omega)])
  have e := i2 (fun (u14 : Int32) (w15 : Mem) => (nm (α := Int32) ((w15 0 30) - 1) (fun x16 => (f_X8_layRow_L29 (fun (u22 : Int32) (u23 : Int32) (w24 : Mem) => (some w24))  100000 (n32 x) x16 w15))))
  have e' : f_X8_layRow_L4 (fun (u14 : Int32) (w15 : Mem) => (nm (α := Int32) ((w15 0 30) - 1) (fun x16 => (f_X8_layRow_L29 (fun (u22 : Int32) (u23 : Int32) (w24 : Mem) => (some w24))  100000 (n32 x) x16 w15)))) 100000 0 w = _ := e
  rw [e', nm_eq]
  have s30 : s 0 30 = n32 K := by rw [i1, if_neg (by omega)]; exact h30
  have d0 : s 0 30 - 1 = dn K := by rw [s30]; rfl
  rw [d0]
  have p2 : 2 ^ P ≤ 128 := Nat.pow_le_pow_right (n := 2) (by omega) hP
  have key : ok (fun r : Mem => Fr P32 w r ∧ ∀ d, d < 4 → r 32 d = n32 (Tpre R K x d)) (f_X8_layRow_L29 (fun (u22 : Int32) (u23 : Int32) (w24 : Mem) => (some w24)) 100000 (n32 x) (dn K) s) := by
    refine loop_dn (S := Int32 × Mem) (fun t u q => f_X8_layRow_L29 (fun (u22 : Int32) (u23 : Int32) (w24 : Mem) => (some w24)) t q.1 u q.2) (fun i q => i ≤ K ∧ q.1 = n32 (x / 4 ^ (K - i)) ∧ Fr P32 w q.2 ∧ ∃ T : Nat → Nat, (∀ d, T d < 2 ^ P) ∧ (∀ d, d < 4 → q.2 32 d = n32 (T d)) ∧ ∀ d, T d ||| Tpre R i (x / 4 ^ (K - i)) d = Tpre R K x d) _ ?_ ?_ K (n32 x, s) 100000 (by omega) ?_
    · intro t q ⟨_, h1, h2, T, h3, h4, h5⟩
      refine ok_eq (f_X8_layRow_L29.eq_2 _ _ _ _ _) ?_
      have neg : ((-1 : Int32) < 0) = True := eq_true (by decide)
      simp only [neg, ↓reduceIte]
      refine ok_some ⟨h2, fun d hd => ?_⟩
      rw [h4 d hd, ← h5 d]
      show n32 (T d) = n32 (T d ||| 0)
      rw [Nat.or_zero]
    · intro i t q ⟨h0, h1, h2, T, h3, h4, h5⟩
      left
      obtain ⟨q1, q2⟩ := q
      have h1 : q1 = n32 (x / 4 ^ (K - (i + 1))) := h1
      have h2 : Fr P32 w q2 := h2
      have h4 : ∀ d, d < 4 → q2 32 d = n32 (T d) := h4
      have hy : x / 4 ^ (K - (i + 1)) ≤ x := Nat.div_le_self _ _
      have e3 : x / 4 ^ (K - (i + 1)) / 4 = x / 4 ^ (K - i) := by rw [Nat.div_div_eq_div_mul, show K - i = K - (i + 1) + 1 by omega, Nat.pow_succ]
      generalize x / 4 ^ (K - (i + 1)) = y at *
      subst h1
      have h2 : Fr P32 w q2 := h2
      have h4 : ∀ d, d < 4 → q2 32 d = n32 (T d) := h4
      have m4 : y % 4 < 4 := Nat.mod_lt _ (by omega)
      have a3 : n32 y &&& n32 3 = n32 (y % 4) := by rw [n32_and, show (3 : Nat) = 2 ^ 2 - 1 from rfl, Nat.and_two_pow_sub_one_eq_mod]
      have sh2 : n32 y >>> (n32 2 &&& n32 31) = n32 (y / 4) := by rw [n32_shr (by omega) (by omega), Nat.shiftRight_eq_div_pow]
      obtain ⟨r1, r2⟩ := hR i (by omega)
      have r2' : q2 30 i = n32 (R i) := by rw [h2 30 i (by unfold P32; omega)]; exact r2
      have t4 := h4 (y % 4) m4
      have on1 := n32_one (i := R i) (by omega)
      refine ⟨(n32 (x / 4 ^ (K - i)), up q2 32 (y % 4) (n32 (T (y % 4) ||| 2 ^ R i))), ⟨by omega, rfl, h2.up 32 _ _ rfl, addT T (y % 4) (R i), addT_lt h3 r1, fun d hd => ?_, fun d => ?_⟩, ?_⟩
      · unfold addT
        by_cases z : d = y % 4
        · rw [if_pos z, z]; simp (disch := omega) only [up_at, up_ms, up_mi, upA_at, upA_ms]
        · rw [if_neg z]
          show up q2 32 _ _ 32 d = _
          rw [up_mi z]; exact h4 d hd
      · rw [← h5 d, ← e3]
        show addT T (y % 4) (R i) d ||| Tpre R i (y / 4) d = T d ||| addT (Tpre R i (y / 4)) (y % 4) (R i) d
        unfold addT
        by_cases z : d = y % 4
        · rw [if_pos z, if_pos z]; exact (or_swap _ _ _).symm
        · rw [if_neg z, if_neg z]
      · refine Eq.trans (f_X8_layRow_L29.eq_2 _ _ _ _ _) ?_
        rw [← e3]
        simp (disch := omega) only [n32_lit, n32_add, n32_mul, n32_lt, n32_le, n32_eq, n32_nat, n32_inb, gd_dec, gd_one, nm_eq, jn_eq, Option.bind_some, Nat.reduceAdd, Nat.reduceMul, Nat.reduceSub, Nat.reduceLT, Nat.reduceLeDiff, Nat.reduceEqDiff, ↓reduceIte, decide_true, decide_false, and_true, true_and, and_false, false_and, or_false, false_or, or_true, true_or, not_true_eq_false, not_false_eq_true, eq_self, Nat.zero_add, Nat.add_zero, Nat.mul_zero, Nat.mul_one, Nat.zero_le, Nat.not_lt_zero, bind_sm, bind_sm2, up_at, up_ms, up_mi, upA_at, upA_ms, show i < 7 by omega, a3, sh2, m4, r2', t4, on1, n32_or', dn_p]
    · refine ⟨Nat.le_refl _, ?_, ?_, fun _ => 0, fun d => Nat.two_pow_pos P, fun d hd => ?_, fun d => ?_⟩
      · show n32 x = n32 (x / 4 ^ (K - K))
        rw [Nat.sub_self, Nat.pow_zero, Nat.div_one]
      · intro s' j hn
        unfold P32 at hn
        show s s' j = w s' j
        rw [i1, if_neg (by omega)]
      · show s 32 d = n32 0
        rw [i1, if_pos ⟨rfl, hd⟩]
      · rw [Nat.sub_self, Nat.pow_zero, Nat.div_one, Nat.zero_or]
  obtain ⟨r, r1, r2, r3⟩ := key
  exact ⟨r, r1, r2, r3⟩
theorem smT_le (hv : Vd v) (hg : ∀ c, g.testBit c = true → c < v 5) {T : Nat → Nat} (hT : ∀ d, T d < 2 ^ v 4) (h : Val v g T) : ∀ n, n ≤ 3 → smT v g T n ≤ 4500 * n
  | 0, _ => by unfold smT fsm; omega
  | n + 1, hn => by
    have := smT_le hv hg hT h n (by omega)
    show smT v g T n + (if g.testBit n then (lst v n (T n)).1 else 0) ≤ _
    cases hb : g.testBit n with
    | false => simp; omega
    | true =>
      have := (lst_facts hv (fit_jx hv (hg n hb) (hT n) ((h n (by omega)).1 hb))).1
      simp; omega
theorem t_sumOf (hv : Vd v) (hg : ∀ c, g.testBit c = true → c < v 5) (hg8 : g < 8) {T : Nat → Nat} (hT : ∀ d, T d < 2 ^ v 4) (h27 : w 0 27 = n32 g) (h32 : ∀ d, d < 4 → w 32 d = n32 (T d)) (h22 : ∀ c, c < 3 → ∀ X, X < 128 → w 22 (128 * c + X) = tkv v g c X) : (Val v g T ∧ f_X8_sumOf w = some (n32 (smT v g T 3))) ∨ (¬ Val v g T ∧ f_X8_sumOf w = some (-n32 1000000)) := by
  have h4 := hv.1.1
  have p4 : 2 ^ v 4 ≤ 128 := Nat.pow_le_pow_right (n := 2) (by omega) h4
  have key : ok (fun r => (Val v g T ∧ r = n32 (smT v g T 3)) ∨ (¬ Val v g T ∧ r = -n32 1000000)) (f_X8_sumOf w) := by
    unfold f_X8_sumOf
    refine loop_up (S := Int32) (fun t u s => f_X8_sumOf_L4 (fun (u17 : Int32) (u18 : Int32) => (some u17)) w t s u) 3 (fun i s => (s = n32 (smT v g T i) ∧ smT v g T i ≤ 4500 * i ∧ ∀ c, c < i → (g.testBit c = true → Fit v c (T c)) ∧ (g.testBit c = false → T c = 0)) ∨ (s = -n32 1000000 ∧ ¬ Val v g T)) _ ?_ ?_ 3 0 0 100000 (by omega) (by omega) (Or.inl ⟨rfl, by unfold smT fsm; omega, fun c hc => by omega⟩)
    · intro t s hI
      refine ok_eq (f_X8_sumOf_L4.eq_2 _ _ _ _ _) ?_
      simp (disch := omega) only [n32_lit, n32_add, n32_mul, n32_lt, n32_le, n32_eq, n32_nat, n32_inb, gd_dec, gd_one, nm_eq, jn_eq, Option.bind_some, Nat.reduceAdd, Nat.reduceMul, Nat.reduceSub, Nat.reduceLT, Nat.reduceLeDiff, Nat.reduceEqDiff, ↓reduceIte, decide_true, decide_false, and_true, true_and, and_false, false_and, or_false, false_or, or_true, true_or, not_true_eq_false, not_false_eq_true, eq_self, Nat.zero_add, Nat.add_zero, Nat.mul_zero, Nat.mul_one, Nat.zero_le, Nat.not_lt_zero, bind_sm, bind_sm2, Nat.le_refl]
      rcases hI with ⟨a, b, c⟩ | ⟨a, b⟩
      · exact ok_some (Or.inl ⟨c, a⟩)
      · exact ok_some (Or.inr ⟨b, a⟩)
    · intro i t s hi hI
      rcases hI with ⟨rfl, b, c⟩ | ⟨rfl, b⟩
      · left
        have nn := neN (k := smT v g T i) (by omega)
        have t32 := h32 i (by omega)
        have tl := hT i
        have t22 := h22 i hi (T i) (by omega)
        cases hb : g.testBit i with
        | false =>
          by_cases q : T i = 0
          · refine ⟨n32 (smT v g T (i + 1)), Or.inl ⟨rfl, ?_, fun c' hc' => ?_⟩, ?_⟩
            · show smT v g T i + (if g.testBit i then (lst v i (T i)).1 else 0) ≤ _
              rw [hb]; simp; omega
            · by_cases z : c' = i
              · rw [z]; exact ⟨fun x => (by rw [hb] at x; cases x), fun _ => q⟩
              · exact c c' (by omega)
            · refine Eq.trans (f_X8_sumOf_L4.eq_2 _ _ _ _ _) ?_
              have e : smT v g T (i + 1) = smT v g T i := by
                show smT v g T i + (if g.testBit i then (lst v i (T i)).1 else 0) = _
                rw [hb]; simp
              rw [e]
              rw [q] at t32 t22
              simp (disch := omega) only [n32_lit, n32_add, n32_mul, n32_lt, n32_le, n32_eq, n32_nat, n32_inb, gd_dec, gd_one, nm_eq, jn_eq, Option.bind_some, Nat.reduceAdd, Nat.reduceMul, Nat.reduceSub, Nat.reduceLT, Nat.reduceLeDiff, Nat.reduceEqDiff, ↓reduceIte, decide_true, decide_false, and_true, true_and, and_false, false_and, or_false, false_or, or_true, true_or, not_true_eq_false, not_false_eq_true, eq_self, Nat.zero_add, Nat.add_zero, Nat.mul_zero, Nat.mul_one, Nat.zero_le, Nat.not_lt_zero, bind_sm, bind_sm2, show ¬ 3 ≤ i by omega, nn, h27, n32_bit, n32_b1, hb, show i < 4 by omega, t32, show 128 * i < 384 by omega]
              simp
          · refine ⟨-n32 1000000, Or.inr ⟨rfl, fun x => q ((x i hi).2 hb)⟩, ?_⟩
            refine Eq.trans (f_X8_sumOf_L4.eq_2 _ _ _ _ _) ?_
            simp (disch := omega) only [n32_lit, n32_add, n32_mul, n32_lt, n32_le, n32_eq, n32_nat, n32_inb, gd_dec, gd_one, nm_eq, jn_eq, Option.bind_some, Nat.reduceAdd, Nat.reduceMul, Nat.reduceSub, Nat.reduceLT, Nat.reduceLeDiff, Nat.reduceEqDiff, ↓reduceIte, decide_true, decide_false, and_true, true_and, and_false, false_and, or_false, false_or, or_true, true_or, not_true_eq_false, not_false_eq_true, eq_self, Nat.zero_add, Nat.add_zero, Nat.mul_zero, Nat.mul_one, Nat.zero_le, Nat.not_lt_zero, bind_sm, bind_sm2, show ¬ 3 ≤ i by omega, nn, h27, n32_bit, n32_b1, hb, show i < 4 by omega, t32, show 128 * i + T i < 384 by omega, q]
            simp
        | true =>
          by_cases q : Fit v i (T i)
          · have tk : tkv v g i (T i) = n32 (lst v i (T i)).1 := by unfold tkv; rw [if_pos ⟨hb, tl, q⟩]
            have ll := (lst_facts hv (fit_jx hv (hg i hb) tl q)).1
            have nn2 := neN (k := (lst v i (T i)).1) (by omega)
            refine ⟨n32 (smT v g T (i + 1)), Or.inl ⟨rfl, ?_, fun c' hc' => ?_⟩, ?_⟩
            · show smT v g T i + (if g.testBit i then (lst v i (T i)).1 else 0) ≤ _
              rw [hb]; simp; omega
            · by_cases z : c' = i
              · rw [z]; exact ⟨fun _ => q, fun x => by rw [hb] at x; cases x⟩
              · exact c c' (by omega)
            · refine Eq.trans (f_X8_sumOf_L4.eq_2 _ _ _ _ _) ?_
              have e : smT v g T (i + 1) = smT v g T i + (lst v i (T i)).1 := by
                show smT v g T i + (if g.testBit i then (lst v i (T i)).1 else 0) = _
                rw [hb]; simp
              rw [e]
              rw [tk] at t22
              simp (disch := omega) only [n32_lit, n32_add, n32_mul, n32_lt, n32_le, n32_eq, n32_nat, n32_inb, gd_dec, gd_one, nm_eq, jn_eq, Option.bind_some, Nat.reduceAdd, Nat.reduceMul, Nat.reduceSub, Nat.reduceLT, Nat.reduceLeDiff, Nat.reduceEqDiff, ↓reduceIte, decide_true, decide_false, and_true, true_and, and_false, false_and, or_false, false_or, or_true, true_or, not_true_eq_false, not_false_eq_true, eq_self, Nat.zero_add, Nat.add_zero, Nat.mul_zero, Nat.mul_one, Nat.zero_le, Nat.not_lt_zero, bind_sm, bind_sm2, show ¬ 3 ≤ i by omega, nn, h27, n32_bit, n32_b1, hb, show i < 4 by omega, t32, show 128 * i + T i < 384 by omega, t22, nn2]
          · have tk : tkv v g i (T i) = -n32 1000000 := by unfold tkv; rw [if_neg (fun x => q x.2.2)]
            refine ⟨-n32 1000000, Or.inr ⟨rfl, fun x => q ((x i hi).1 hb)⟩, ?_⟩
            refine Eq.trans (f_X8_sumOf_L4.eq_2 _ _ _ _ _) ?_
            rw [tk] at t22
            simp (disch := omega) only [n32_lit, n32_add, n32_mul, n32_lt, n32_le, n32_eq, n32_nat, n32_inb, gd_dec, gd_one, nm_eq, jn_eq, Option.bind_some, Nat.reduceAdd, Nat.reduceMul, Nat.reduceSub, Nat.reduceLT, Nat.reduceLeDiff, Nat.reduceEqDiff, ↓reduceIte, decide_true, decide_false, and_true, true_and, and_false, false_and, or_false, false_or, or_true, true_or, not_true_eq_false, not_false_eq_true, eq_self, Nat.zero_add, Nat.add_zero, Nat.mul_zero, Nat.mul_one, Nat.zero_le, Nat.not_lt_zero, bind_sm, bind_sm2, show ¬ 3 ≤ i by omega, nn, h27, n32_bit, n32_b1, hb, show i < 4 by omega, t32, show 128 * i + T i < 384 by omega, t22]
      · right
        refine ok_eq (f_X8_sumOf_L4.eq_2 _ _ _ _ _) ?_
        simp (disch := omega) only [n32_lit, n32_add, n32_mul, n32_lt, n32_le, n32_eq, n32_nat, n32_inb, gd_dec, gd_one, nm_eq, jn_eq, Option.bind_some, Nat.reduceAdd, Nat.reduceMul, Nat.reduceSub, Nat.reduceLT, Nat.reduceLeDiff, Nat.reduceEqDiff, ↓reduceIte, decide_true, decide_false, and_true, true_and, and_false, false_and, or_false, false_or, or_true, true_or, not_true_eq_false, not_false_eq_true, eq_self, Nat.zero_add, Nat.add_zero, Nat.mul_zero, Nat.mul_one, Nat.zero_le, Nat.not_lt_zero, bind_sm, bind_sm2, show ¬ 3 ≤ i by omega]
        exact ok_some (Or.inr ⟨b, rfl⟩)
  obtain ⟨r, e, hr⟩ := key
  rcases hr with ⟨a, rfl⟩ | ⟨a, rfl⟩
  · exact Or.inl ⟨a, e⟩
  · exact Or.inr ⟨a, e⟩
end EV
