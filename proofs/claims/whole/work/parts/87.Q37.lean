/-! the class seats people -/
theorem wo_or : ∀ X, X < 128 → ∀ p, p < 7 → X.testBit p = false → wo (X ||| 2 ^ p) p = X := by decide +kernel
section EV
variable {m1 m3 : Mem} {v : Nat → Nat} {g : Nat}
def rr (v : Nat → Nat) (g : Nat) : Nat → Nat → List Nat
  | 0, _ => []
  | d + 1, p => if ndr v g p then p :: rr v g d (p + 1) else rr v g d (p + 1)
theorem rdl_rr : ∀ d p, rdl v g (p + d) = rdl v g p ++ rr v g d p
  | 0, p => by unfold rr; rw [Nat.add_zero, List.append_nil]
  | d + 1, p => by
    have := rdl_rr d (p + 1)
    rw [show p + (d + 1) = p + 1 + d by omega, this, rdl_succ, rr]
    cases ndr v g p
    · simp
    · simp
theorem rr_mem : ∀ d p q, q ∈ rr v g d p → p ≤ q ∧ q < p + d
  | 0, p, q, h => by cases h
  | d + 1, p, q, h => by
    unfold rr at h
    split at h
    · rcases List.mem_cons.mp h with rfl | h
      · omega
      · have := rr_mem d (p + 1) q h; omega
    · have := rr_mem d (p + 1) q h; omega
/-- one after another over the cars -/
noncomputable def sq (v : Nat → Nat) (g : Nat) (ps : List Nat) (T : Nat → Nat) (p : Nat) (acc : Acc) : Nat → Acc
  | 0 => acc
  | i + 1 => spec v g ps (sq v g ps T p acc i) (addT T i p)
theorem t_seat (hc : Cl m1 v) (hv : Vd v) (hg : ∀ c, g.testBit c = true → c < v 5) (hg8 : g < 8) {dr : Nat} (hd7 : dr < 128) (hdr : ∀ p, p < v 4 → dr.testBit p = !(ndr v g p)) : ∀ d p f (T : Nat → Nat) (m3 : Mem) (acc : Acc), p + d = v 4 → d < f → (∀ i, T i < 2 ^ p) → Val v g T → SI v g dr m3 T acc →
    ∃ m3', f_X4_seat f m1 m3 (n32 p) (n32 (T 3)) = some m3' ∧ Fr PS m3 m3' ∧ SI v g dr m3' T (spec v g (rr v g d p) acc T) := by
  have h4 := hv.1.1
  have h5 := hv.1.2.1
  have c4 := hc.1.2.2.2.1
  have c5 := hc.1.2.2.2.2.1
  intro d
  induction d with
  | zero =>
    intro p f T m3 acc hp hf hT hV hs
    obtain ⟨f, rfl⟩ : ∃ x, f = x + 1 := ⟨f - 1, by omega⟩
    have hp' : p = v 4 := by omega
    subst hp'
    have p7 : 2 ^ v 4 ≤ 2 ^ 7 := Nat.pow_le_pow_right (n := 2) (by omega) h4
    have hT3 := hT 3
    have bn := bitc_n (a := T 3) (by omega)
    have pl := pop7_le (T 3)
    obtain ⟨f5, f8⟩ := hs.1.fw
    show ∃ m3', f_X4_seat_B (f_X4_seat f) m1 m3 (n32 (v 4)) (n32 (T 3)) = some m3' ∧ Fr PS m3 m3' ∧ SI v g dr m3' T (leaf v g acc T)
    unfold f_X4_seat_B
    by_cases q : pop7 (T 3) ≤ fw acc
    · obtain ⟨m3', e1, e2, e3⟩ := t_keep hc hv hg hg8 hT hV hs
      refine ⟨m3', ?_, e2, e3⟩
      simp (maxSteps := 400000) (disch := omega) only [n32_lit, n32_add, n32_mul, n32_lt, n32_le, n32_eq, n32_nat, n32_inb, gd_dec, gdE, ↓nmE, ↓jnE, ↓bsE, Nat.reduceAdd, Nat.reduceMul, Nat.reduceSub, Nat.reduceLT, Nat.reduceLeDiff, Nat.reduceEqDiff, ↓reduceIte, decide_true, decide_false, and_true, true_and, and_false, false_and, or_false, false_or, or_true, true_or, not_true_eq_false, not_false_eq_true, eq_self, Nat.zero_add, Nat.add_zero, Nat.mul_zero, Nat.mul_one, Nat.zero_le, Nat.not_lt_zero, bind_sm, bind_sm2, bn, f5, q, c4, Nat.lt_irrefl, e1]
    · have := spec_prune (v := v) (g := g) [] acc T (fun p hp => by cases hp) (fun i => by have := hT i; omega) (by omega)
      unfold spec at this
      rw [this]
      refine ⟨m3, ?_, Fr.refl, hs⟩
      simp (maxSteps := 400000) (disch := omega) only [n32_lit, n32_add, n32_mul, n32_lt, n32_le, n32_eq, n32_nat, n32_inb, gd_dec, gdE, ↓nmE, ↓jnE, ↓bsE, Nat.reduceAdd, Nat.reduceMul, Nat.reduceSub, Nat.reduceLT, Nat.reduceLeDiff, Nat.reduceEqDiff, ↓reduceIte, decide_true, decide_false, and_true, true_and, and_false, false_and, or_false, false_or, or_true, true_or, not_true_eq_false, not_false_eq_true, eq_self, Nat.zero_add, Nat.add_zero, Nat.mul_zero, Nat.mul_one, Nat.zero_le, Nat.not_lt_zero, bind_sm, bind_sm2, bn, f5, q]
  | succ d ih =>
    intro p f T m3 acc hp hf hT hV hs
    obtain ⟨f, rfl⟩ : ∃ x, f = x + 1 := ⟨f - 1, by omega⟩
    have hpv : p < v 4 := by omega
    have p7 : 2 ^ p ≤ 2 ^ 7 := Nat.pow_le_pow_right (n := 2) (by omega) (by omega)
    have T128 : ∀ i, T i < 128 := fun i => by have := hT i; omega
    have hT3 := hT 3
    have bn := bitc_n (a := T 3) (by omega)
    have pl := pop7_le (T 3)
    obtain ⟨f5, f8⟩ := hs.1.fw
    have T' : ∀ i, T i < 2 ^ (p + 1) := fun i => Nat.lt_of_lt_of_le (hT i) (Nat.pow_le_pow_right (n := 2) (by omega) (by omega))
    have Tv : ∀ i, T i < 2 ^ v 4 := fun i => Nat.lt_of_lt_of_le (hT i) (Nat.pow_le_pow_right (n := 2) (by omega) (by omega))
    have nob : ∀ i, (T i).testBit p = false := fun i => Nat.testBit_lt_two_pow (hT i)
    have on1 := n32_one (i := p) (by omega)
    have rrm : ∀ q, q ∈ rr v g d (p + 1) → q < 7 := fun q hq => by have := rr_mem d (p + 1) q hq; omega
    have rrm' : ∀ q, q ∈ rr v g (d + 1) p → q < 7 := fun q hq => by have := rr_mem (d + 1) p q hq; omega
    show ∃ m3', f_X4_seat_B (f_X4_seat f) m1 m3 (n32 p) (n32 (T 3)) = some m3' ∧ Fr PS m3 m3' ∧ SI v g dr m3' T (spec v g (rr v g (d + 1) p) acc T)
    unfold f_X4_seat_B
    by_cases q : pop7 (T 3) ≤ fw acc
    · have hdrp := hdr p hpv
      have dan : (n32 dr &&& n32 (2 ^ p) = n32 0) = (dr.testBit p = false) := by
        have : ∀ dr, dr < 128 → ∀ p, p < 7 → ((n32 dr &&& n32 (2 ^ p) = n32 0) ↔ (dr.testBit p = false)) := by decide +kernel
        exact propext (this dr hd7 p (by omega))
      cases hn : ndr v g p with
      | false =>
        rw [hn] at hdrp
        have hrr : rr v g (d + 1) p = rr v g d (p + 1) := by rw [rr, hn]; simp
        rw [hrr]
        obtain ⟨m3', e1, e2, e3⟩ := ih (p + 1) f T m3 acc (by omega) (by omega) T' hV hs
        refine ⟨m3', ?_, e2, e3⟩
        have dan' : (n32 dr &&& n32 (2 ^ p) = n32 0) = False := by rw [dan, hdrp]; exact eq_false (by decide)
        simp (maxSteps := 400000) (disch := omega) only [n32_lit, n32_add, n32_mul, n32_lt, n32_le, n32_eq, n32_nat, n32_inb, gd_dec, gdE, ↓nmE, ↓jnE, ↓bsE, Nat.reduceAdd, Nat.reduceMul, Nat.reduceSub, Nat.reduceLT, Nat.reduceLeDiff, Nat.reduceEqDiff, ↓reduceIte, decide_true, decide_false, and_true, true_and, and_false, false_and, or_false, false_or, or_true, true_or, not_true_eq_false, not_false_eq_true, eq_self, Nat.zero_add, Nat.add_zero, Nat.mul_zero, Nat.mul_one, Nat.zero_le, Nat.not_lt_zero, bind_sm, bind_sm2, bn, f5, q, c4, hpv, on1, hs.2.2.2.1, dan', e1]
      | true =>
        rw [hn] at hdrp
        have hrr : rr v g (d + 1) p = p :: rr v g d (p + 1) := by rw [rr, hn]; simp
        rw [hrr]
        have dan' : (n32 dr &&& n32 (2 ^ p) = n32 0) = True := by rw [dan, hdrp]; exact eq_true (by decide)
        generalize hps : rr v g d (p + 1) = ps at *
        have po : ∀ c, c < v 5 → g.testBit c = true → p ≠ ow v c := fun c hc1 hc2 z => by
          have := of_decide_eq_true (show decide (¬ ∃ c, c < v 5 ∧ v (100 + 3 * c) = p ∧ g.testBit c = true) = true from hn)
          exact this ⟨c, hc1, z.symm, hc2⟩
        have badc : ∀ c, c < 3 → g.testBit c = false → Bad v g (addT T c p) := fun c hc1 hc2 => ⟨c, hc1, Or.inr ⟨hc2, by unfold addT; rw [if_pos rfl]; exact or_pow_ne _ _⟩⟩
        -- over the cars
        obtain ⟨s, ⟨i1, i3⟩, i2⟩ := loop_k (S := Mem) (fun K t u s => f_X4_seat_L55 (f_X4_seat f) K (n32 p) (n32 (T 3)) m1 (n32 (2 ^ p)) t u s) (v 5) (fun i s => Fr PS m3 s ∧ SI v g dr s T (sq v g ps T p acc i)) (fun K t s _ => by
          refine Eq.trans (f_X4_seat_L55.eq_2 _ _ _ _ _ _ _ _ _) ?_
          simp (disch := omega) only [n32_lit, n32_add, n32_mul, n32_lt, n32_le, n32_eq, n32_nat, n32_inb, gd_dec, gd_one, nm_eq, jn_eq, Option.bind_some, Nat.reduceAdd, Nat.reduceMul, Nat.reduceSub, Nat.reduceLT, Nat.reduceLeDiff, Nat.reduceEqDiff, ↓reduceIte, decide_true, decide_false, and_true, true_and, and_false, false_and, or_false, false_or, or_true, true_or, not_true_eq_false, not_false_eq_true, eq_self, Nat.zero_add, Nat.add_zero, Nat.mul_zero, Nat.mul_one, Nat.zero_le, Nat.not_lt_zero, bind_sm, bind_sm2, c5, Nat.le_refl]) (fun i s hi hI => by
          obtain ⟨h1, h2⟩ := hI
          have h2' := h2
          obtain ⟨a1, a2, a3, a4, a5⟩ := h2'
          have t7 := a5 i (by omega)
          cases hb : g.testBit i with
          | false =>
            have sb : sq v g ps T p acc (i + 1) = sq v g ps T p acc i := spec_bad hv ps _ _ rrm (addT_128 T128 (by omega)) (badc i (by omega) hb)
            refine ⟨s, ⟨h1, by rw [sb]; exact h2⟩, fun K t => ?_⟩
            refine Eq.trans (f_X4_seat_L55.eq_2 _ _ _ _ _ _ _ _ _) ?_
            simp (disch := omega) only [n32_lit, n32_add, n32_mul, n32_lt, n32_le, n32_eq, n32_nat, n32_inb, gd_dec, gd_one, nm_eq, jn_eq, Option.bind_some, Nat.reduceAdd, Nat.reduceMul, Nat.reduceSub, Nat.reduceLT, Nat.reduceLeDiff, Nat.reduceEqDiff, ↓reduceIte, decide_true, decide_false, and_true, true_and, and_false, false_and, or_false, false_or, or_true, true_or, not_true_eq_false, not_false_eq_true, eq_self, Nat.zero_add, Nat.add_zero, Nat.mul_zero, Nat.mul_one, Nat.zero_le, Nat.not_lt_zero, bind_sm, bind_sm2, c5, show ¬ v 5 ≤ i by omega, a3, t_hasBit, n32_b0, hb]
          | true =>
            have fi := (hV i (by omega)).1 hb
            rcases t_room hc hv hi (Tv i) hpv (nob i) (po i hi hb) fi with ⟨r1, r2⟩ | ⟨r1, r2⟩
            · have V' : Val v g (addT T i p) := by
                intro c hc1
                unfold addT
                by_cases z : c = i
                · rw [if_pos z, z]; exact ⟨fun _ => r1, fun x => by rw [hb] at x; cases x⟩
                · rw [if_neg z]; exact hV c hc1
              have s' : SI v g dr (up s 7 i (n32 (T i ||| 2 ^ p))) (addT T i p) (sq v g ps T p acc i) := by
                refine ⟨a1.fr (fun j _ _ => up_ms (by omega)) (fun c => up_ms (by omega)), fun c X hc1 hX => ?_, ?_, ?_, fun c hc1 => ?_⟩
                · simp (disch := omega) only [up_at, up_ms, up_mi, upA_at, upA_ms]; exact a2 c X hc1 hX
                · simp (disch := omega) only [up_at, up_ms, up_mi, upA_at, upA_ms]; exact a3
                · simp (disch := omega) only [up_at, up_ms, up_mi, upA_at, upA_ms]; exact a4
                · unfold addT
                  by_cases z : c = i
                  · rw [if_pos z, z]; simp (disch := omega) only [up_at, up_ms, up_mi, upA_at, upA_ms]
                  · rw [if_neg z, up_mi z]; exact a5 c hc1
              obtain ⟨m3', e1, e2, e3⟩ := ih (p + 1) f (addT T i p) (up s 7 i (n32 (T i ||| 2 ^ p))) (sq v g ps T p acc i) (by omega) (by omega) (addT_lt T' (by omega)) V' s'
              have t3 : addT T i p 3 = T 3 := by unfold addT; rw [if_neg (by omega)]
              rw [t3] at e1
              rw [hps] at e3
              obtain ⟨b1, b2, b3, b4, b5⟩ := e3
              have b7 := b5 i (by omega)
              have b7' : m3' 7 i = n32 (T i ||| 2 ^ p) := by rw [b7]; unfold addT; rw [if_pos rfl]
              have wo1 := n32_without (a := T i ||| 2 ^ p) (i := p) (Nat.or_lt_two_pow (n := 7) (T128 i) (Nat.pow_lt_pow_right (by omega) (by omega))) (by omega)
              have wo2 : n32 (T i ||| 2 ^ p) &&& (n32 (2 ^ p) ^^^ (-n32 1)) = n32 (T i) := by
                rw [on1] at wo1
                rw [wo1]
                have := wo_or (T i) (T128 i) p (by omega) (nob i)
                unfold wo at this
                rw [this]
              refine ⟨up m3' 7 i (n32 (T i)), ⟨((h1.up 7 i _ (by unfold PS; omega)).trans e2).up 7 i _ (by unfold PS; omega), b1.fr (fun j _ _ => up_ms (by omega)) (fun c => up_ms (by omega)), fun c X hc1 hX => ?_, ?_, ?_, fun c hc1 => ?_⟩, fun K t => ?_⟩
              · simp (disch := omega) only [up_at, up_ms, up_mi, upA_at, upA_ms]; exact b2 c X hc1 hX
              · simp (disch := omega) only [up_at, up_ms, up_mi, upA_at, upA_ms]; exact b3
              · simp (disch := omega) only [up_at, up_ms, up_mi, upA_at, upA_ms]; exact b4
              · by_cases z : c = i
                · rw [z]; simp (disch := omega) only [up_at, up_ms, up_mi, upA_at, upA_ms]
                · rw [up_mi z, b5 c hc1]; unfold addT; rw [if_neg z]
              · refine Eq.trans (f_X4_seat_L55.eq_2 _ _ _ _ _ _ _ _ _) ?_
                simp (disch := omega) only [n32_lit, n32_add, n32_mul, n32_lt, n32_le, n32_eq, n32_nat, n32_inb, gd_dec, gd_one, nm_eq, jn_eq, Option.bind_some, Nat.reduceAdd, Nat.reduceMul, Nat.reduceSub, Nat.reduceLT, Nat.reduceLeDiff, Nat.reduceEqDiff, ↓reduceIte, decide_true, decide_false, and_true, true_and, and_false, false_and, or_false, false_or, or_true, true_or, not_true_eq_false, not_false_eq_true, eq_self, Nat.zero_add, Nat.add_zero, Nat.mul_zero, Nat.mul_one, Nat.zero_le, Nat.not_lt_zero, bind_sm, bind_sm2, c5, show ¬ v 5 ≤ i by omega, a3, t_hasBit, n32_b0, hb, show i < 3 by omega, t7, r2, n32_or', e1, b7', wo2]
                simp
            · have sb : sq v g ps T p acc (i + 1) = sq v g ps T p acc i := spec_bad hv ps _ _ rrm (addT_128 T128 (by omega)) ⟨i, by omega, Or.inl ⟨hb, by unfold addT; rw [if_pos rfl]; exact r1⟩⟩
              refine ⟨s, ⟨h1, by rw [sb]; exact h2⟩, fun K t => ?_⟩
              refine Eq.trans (f_X4_seat_L55.eq_2 _ _ _ _ _ _ _ _ _) ?_
              simp (disch := omega) only [n32_lit, n32_add, n32_mul, n32_lt, n32_le, n32_eq, n32_nat, n32_inb, gd_dec, gd_one, nm_eq, jn_eq, Option.bind_some, Nat.reduceAdd, Nat.reduceMul, Nat.reduceSub, Nat.reduceLT, Nat.reduceLeDiff, Nat.reduceEqDiff, ↓reduceIte, decide_true, decide_false, and_true, true_and, and_false, false_and, or_false, false_or, or_true, true_or, not_true_eq_false, not_false_eq_true, eq_self, Nat.zero_add, Nat.add_zero, Nat.mul_zero, Nat.mul_one, Nat.zero_le, Nat.not_lt_zero, bind_sm, bind_sm2, c5, show ¬ v 5 ≤ i by omega, a3, t_hasBit, n32_b0, hb, show i < 3 by omega, t7, r2]
              simp) (v 5) 0 m3 100000 (by omega) (by omega) ⟨Fr.refl, hs⟩
        have sq3 : sq v g ps T p acc 3 = sq v g ps T p acc (v 5) := by
          have key : ∀ k, v 5 + k ≤ 3 → sq v g ps T p acc (v 5 + k) = sq v g ps T p acc (v 5) := by
            intro k
            induction k with
            | zero => intro _; rfl
            | succ k ihk =>
              intro hk
              show spec v g ps (sq v g ps T p acc (v 5 + k)) (addT T (v 5 + k) p) = _
              have gb : g.testBit (v 5 + k) = false := by
                cases hb : g.testBit (v 5 + k)
                · rfl
                · have := hg _ hb; omega
              rw [spec_bad hv ps _ _ rrm (addT_128 T128 (by omega)) (badc _ (by omega) gb)]
              exact ihk (by omega)
          have := key (3 - v 5) (by omega)
          rw [show v 5 + (3 - v 5) = 3 by omega] at this
          exact this
        rw [← sq3] at i3
        have s3' : SI v g dr s (addT T 3 p) (sq v g ps T p acc 3) := by
          obtain ⟨b1, b2, b3, b4, b5⟩ := i3
          refine ⟨b1, b2, b3, b4, fun c hc1 => ?_⟩
          rw [b5 c hc1]; unfold addT; rw [if_neg (by omega)]
        obtain ⟨m3', e1, e2, e3⟩ := ih (p + 1) f (addT T 3 p) s (sq v g ps T p acc 3) (by omega) (by omega) (addT_lt T' (by omega)) (val_couch hV) s3'
        have t33 : addT T 3 p 3 = T 3 ||| 2 ^ p := by unfold addT; rw [if_pos rfl]
        rw [t33] at e1
        rw [hps] at e3
        refine ⟨m3', ?_, i1.trans e2, ?_⟩
        · have i2' := i2 (fun (u19 : Int32) (w20 : Mem) => f_X4_seat f m1 w20 (n32 (p + 1)) (n32 (T 3 ||| 2 ^ p)))
          rw [← e1]
          refine Eq.trans ?_ i2'
          simp (maxSteps := 400000) (disch := omega) only [n32_lit, n32_add, n32_mul, n32_lt, n32_le, n32_eq, n32_nat, n32_inb, gd_dec, gdE, ↓nmE, ↓jnE, ↓bsE, Nat.reduceAdd, Nat.reduceMul, Nat.reduceSub, Nat.reduceLT, Nat.reduceLeDiff, Nat.reduceEqDiff, ↓reduceIte, decide_true, decide_false, and_true, true_and, and_false, false_and, or_false, false_or, or_true, true_or, not_true_eq_false, not_false_eq_true, eq_self, Nat.zero_add, Nat.add_zero, Nat.mul_zero, Nat.mul_one, Nat.zero_le, Nat.not_lt_zero, bind_sm, bind_sm2, bn, f5, q, c4, hpv, on1, hs.2.2.2.1, dan', n32_or']
        · obtain ⟨b1, b2, b3, b4, b5⟩ := e3
          refine ⟨b1, b2, b3, b4, fun c hc1 => ?_⟩
          rw [b5 c hc1]; unfold addT; rw [if_neg (by omega)]
    · rw [spec_prune (rr v g (d + 1) p) acc T rrm' T128 (by omega)]
      refine ⟨m3, ?_, Fr.refl, hs⟩
      simp (maxSteps := 400000) (disch := omega) only [n32_lit, n32_add, n32_mul, n32_lt, n32_le, n32_eq, n32_nat, n32_inb, gd_dec, gdE, ↓nmE, ↓jnE, ↓bsE, Nat.reduceAdd, Nat.reduceMul, Nat.reduceSub, Nat.reduceLT, Nat.reduceLeDiff, Nat.reduceEqDiff, ↓reduceIte, decide_true, decide_false, and_true, true_and, and_false, false_and, or_false, false_or, or_true, true_or, not_true_eq_false, not_false_eq_true, eq_self, Nat.zero_add, Nat.add_zero, Nat.mul_zero, Nat.mul_one, Nat.zero_le, Nat.not_lt_zero, bind_sm, bind_sm2, bn, f5, q]
end EV
