/-! fetch, house -/
theorem loop_k {S R : Type} (F : (Int32 → S → Option R) → Nat → Int32 → S → Option R) (hi : Nat) (I : Nat → S → Prop)
    (hstop : ∀ K t s, I hi s → F K (t + 1) (n32 hi) s = K (n32 hi) s)
    (hstep : ∀ i s, i < hi → I i s → ∃ s', I (i + 1) s' ∧ ∀ K t, F K (t + 1) (n32 i) s = F K t (n32 (i + 1)) s') :
    ∀ (d i : Nat) (s : S) (t : Nat), i + d = hi → d < t → I i s → ∃ s', I hi s' ∧ ∀ K, F K t (n32 i) s = K (n32 hi) s' := by
  intro d
  induction d with
  | zero =>
    intro i s t h1 h2 h3
    obtain ⟨t, rfl⟩ : ∃ u, t = u + 1 := ⟨t - 1, by omega⟩
    have : i = hi := by omega
    subst this
    exact ⟨s, h3, fun K => hstop K t s h3⟩
  | succ d ih =>
    intro i s t h1 h2 h3
    obtain ⟨t, rfl⟩ : ∃ u, t = u + 1 := ⟨t - 1, by omega⟩
    obtain ⟨s', h4, h5⟩ := hstep i s (by omega) h3
    obtain ⟨s'', h6, h7⟩ := ih (i + 1) s' t (by omega) (by omega) h4
    exact ⟨s'', h6, fun K => (h5 K t).trans (h7 K)⟩
def mxs (v : Nat → Nat) (g : Nat) : Nat → Nat
  | 0 => 0
  | c + 1 => if g.testBit c ∧ mxs v g c < v (100 + 3 * c + 1) then v (100 + 3 * c + 1) else mxs v g c
def nch (v : Nat → Nat) : Nat → Nat
  | 0 => 0
  | p + 1 => nch v p + if v (72 + 4 * p) = 5 then 0 else 1
theorem mxs_le {v : Nat → Nat} {g : Nat} (h : ∀ c, c < v 5 → v (100 + 3 * c + 1) ≤ 4) : ∀ n, n ≤ v 5 → mxs v g n ≤ 4
  | 0, _ => by unfold mxs; omega
  | n + 1, hn => by
    unfold mxs
    have := mxs_le (g := g) h n (by omega)
    have := h n (by omega)
    split <;> omega
theorem nch_le (v : Nat → Nat) : ∀ n, nch v n ≤ n
  | 0 => by unfold nch; omega
  | n + 1 => by
    unfold nch
    have := nch_le v n
    split <;> omega
theorem i32_lele {x y : Int32} : (if x ≤ y then x else y) = (if x < y then x else y) := by
  by_cases h : x < y
  · rw [if_pos h, if_pos (by rw [Int32.le_iff_toInt_le]; rw [Int32.lt_iff_toInt_lt] at h; omega)]
  · rw [if_neg h]
    by_cases h2 : x ≤ y
    · rw [if_pos h2]
      apply Int32.toInt_inj.mp
      rw [Int32.le_iff_toInt_le] at h2; rw [Int32.lt_iff_toInt_lt] at h; omega
    · rw [if_neg h2]
section EV
variable {m0 m1 : Mem} {told : Int32} {v : Nat → Nat}
theorem t_seats8 {w : Mem} (h1 : Sh (w 6) v) (hv : Vd v) {g : Nat} (hg : g < 8) (K : Int32 → Int32 → Option (Int32 × Mem)) : f_X8_fetch_L49 K (n32 g) w 100000 (n32 0) (n32 0) = K (n32 (mxs v g (v 5))) (n32 (v 5)) := by
  obtain ⟨⟨h4, h5, h0, h1', h6, h7, hP, hC⟩, hF⟩ := hv
  have hs : ∀ c, c < v 5 → v (100 + 3 * c + 1) ≤ 4 := fun c hc => (hC c hc).2.2.1
  obtain ⟨s, i1, i2⟩ := loop_k (S := Int32) (fun K t u s => f_X8_fetch_L49 (fun a b => K b a) (n32 g) w t s u) (v 5) (fun i s => s = n32 (mxs v g i)) (fun K t s _ => by
      refine Eq.trans (f_X8_fetch_L49.eq_2 _ _ _ _ _ _) ?_
      simp (disch := omega) only [n32_lit, n32_add, n32_mul, n32_lt, n32_le, n32_eq, n32_nat, n32_inb, gd_dec, gd_one, nm_eq, jn_eq, Option.bind_some, Nat.reduceAdd, Nat.reduceMul, Nat.reduceSub, Nat.reduceLT, Nat.reduceLeDiff, Nat.reduceEqDiff, ↓reduceIte, decide_true, decide_false, and_true, true_and, and_false, false_and, or_false, false_or, or_true, true_or, not_true_eq_false, not_false_eq_true, eq_self, Nat.zero_add, Nat.add_zero, Nat.mul_zero, Nat.mul_one, Nat.zero_le, Nat.not_lt_zero, bind_sm, bind_sm2, h1 5 (by decide), Nat.le_refl]) (fun i s hi hI => ⟨n32 (mxs v g (i + 1)), rfl, fun K t => by
      refine Eq.trans (f_X8_fetch_L49.eq_2 _ _ _ _ _ _) ?_
      have e := t_car0 (k := 1) h1 (c := i) (by omega) (by omega)
      have hm := mxs_le (g := g) hs i (by omega)
      have hsi := hs i hi
      subst hI
      rw [mxs]
      simp (disch := omega) only [n32_lit, n32_add, n32_mul, n32_lt, n32_le, n32_eq, n32_nat, n32_inb, gd_dec, gd_one, nm_eq, jn_eq, Option.bind_some, Nat.reduceAdd, Nat.reduceMul, Nat.reduceSub, Nat.reduceLT, Nat.reduceLeDiff, Nat.reduceEqDiff, ↓reduceIte, decide_true, decide_false, and_true, true_and, and_false, false_and, or_false, false_or, or_true, true_or, not_true_eq_false, not_false_eq_true, eq_self, Nat.zero_add, Nat.add_zero, Nat.mul_zero, Nat.mul_one, Nat.zero_le, Nat.not_lt_zero, bind_sm, bind_sm2, h1 5 (by decide), show ¬ v 5 ≤ i by omega, n32_bit, n32_b1, e]
      cases g.testBit i
      · simp
      · by_cases z : mxs v g i < v (100 + 3 * i + 1)
        · simp [z, show ¬ v (100 + 3 * i + 1) ≤ mxs v g i by omega]
        · simp [z, show v (100 + 3 * i + 1) ≤ mxs v g i by omega]⟩) (v 5) 0 (n32 0) 100000 (by omega) (by omega) rfl
  rw [i1] at i2
  exact i2 (fun b a => K a b)
theorem t_seats7 (hc : Cl m1 v) (hv : Vd v) {g : Nat} (hg : g < 8) (K : Int32 → Int32 → Option Int32) : f_X3_tripsFor_L21 K (n32 g) m1 100000 (n32 0) (n32 0) = K (n32 (mxs v g (v 5))) (n32 (v 5)) := by
  obtain ⟨⟨h4, h5, h0, h1', h6, h7, hP, hC⟩, hF⟩ := hv
  have hs : ∀ c, c < v 5 → v (100 + 3 * c + 1) ≤ 4 := fun c hc => (hC c hc).2.2.1
  have c5 := hc.1.2.2.2.2.1
  obtain ⟨s, i1, i2⟩ := loop_k (S := Int32) (fun K t u s => f_X3_tripsFor_L21 (fun a b => K b a) (n32 g) m1 t s u) (v 5) (fun i s => s = n32 (mxs v g i)) (fun K t s _ => by
      refine Eq.trans (f_X3_tripsFor_L21.eq_2 _ _ _ _ _ _) ?_
      simp (disch := omega) only [n32_lit, n32_add, n32_mul, n32_lt, n32_le, n32_eq, n32_nat, n32_inb, gd_dec, gd_one, nm_eq, jn_eq, Option.bind_some, Nat.reduceAdd, Nat.reduceMul, Nat.reduceSub, Nat.reduceLT, Nat.reduceLeDiff, Nat.reduceEqDiff, ↓reduceIte, decide_true, decide_false, and_true, true_and, and_false, false_and, or_false, false_or, or_true, true_or, not_true_eq_false, not_false_eq_true, eq_self, Nat.zero_add, Nat.add_zero, Nat.mul_zero, Nat.mul_one, Nat.zero_le, Nat.not_lt_zero, bind_sm, bind_sm2, c5, Nat.le_refl]) (fun i s hi hI => ⟨n32 (mxs v g (i + 1)), rfl, fun K t => by
      refine Eq.trans (f_X3_tripsFor_L21.eq_2 _ _ _ _ _ _) ?_
      have e := (hc.1.2.2.2.2.2.2.2.2 i hi).2.1
      have hm := mxs_le (g := g) hs i (by omega)
      have hsi := hs i hi
      subst hI
      rw [mxs]
      simp (disch := omega) only [n32_lit, n32_add, n32_mul, n32_lt, n32_le, n32_eq, n32_nat, n32_inb, gd_dec, gd_one, nm_eq, jn_eq, Option.bind_some, Nat.reduceAdd, Nat.reduceMul, Nat.reduceSub, Nat.reduceLT, Nat.reduceLeDiff, Nat.reduceEqDiff, ↓reduceIte, decide_true, decide_false, and_true, true_and, and_false, false_and, or_false, false_or, or_true, true_or, not_true_eq_false, not_false_eq_true, eq_self, Nat.zero_add, Nat.add_zero, Nat.mul_zero, Nat.mul_one, Nat.zero_le, Nat.not_lt_zero, bind_sm, bind_sm2, c5, show ¬ v 5 ≤ i by omega, t_hasBit, n32_b0, e, show i < 3 by omega]
      cases g.testBit i
      · simp
      · by_cases z : mxs v g i < v (100 + 3 * i + 1)
        · simp [z]
        · simp [z]⟩) (v 5) 0 (n32 0) 100000 (by omega) (by omega) rfl
  rw [i1] at i2
  exact i2 (fun b a => K a b)
theorem t_drive8 {w : Mem} (h1 : Sh (w 6) v) (hv : Vd v) (K : Int32 → Int32 → Option (Int32 × Mem)) : f_X8_fetch_L108 K w 100000 (-n32 1) (n32 0) = K (dn (nch v (v 4))) (n32 (v 4)) := by
  obtain ⟨⟨h4, h5, h0, h1', h6, h7, hP, hC⟩, hF⟩ := hv
  obtain ⟨s, i1, i2⟩ := loop_k (S := Int32) (fun K t u s => f_X8_fetch_L108 (fun a b => K b a) w t s u) (v 4) (fun i s => s = dn (nch v i)) (fun K t s _ => by
      refine Eq.trans (f_X8_fetch_L108.eq_2 _ _ _ _ _) ?_
      simp (disch := omega) only [n32_lit, n32_add, n32_mul, n32_lt, n32_le, n32_eq, n32_nat, n32_inb, gd_dec, gd_one, nm_eq, jn_eq, Option.bind_some, Nat.reduceAdd, Nat.reduceMul, Nat.reduceSub, Nat.reduceLT, Nat.reduceLeDiff, Nat.reduceEqDiff, ↓reduceIte, decide_true, decide_false, and_true, true_and, and_false, false_and, or_false, false_or, or_true, true_or, not_true_eq_false, not_false_eq_true, eq_self, Nat.zero_add, Nat.add_zero, Nat.mul_zero, Nat.mul_one, Nat.zero_le, Nat.not_lt_zero, bind_sm, bind_sm2, h1 4 (by decide), Nat.le_refl]) (fun i s hi hI => ⟨dn (nch v (i + 1)), rfl, fun K t => by
      refine Eq.trans (f_X8_fetch_L108.eq_2 _ _ _ _ _) ?_
      have e := t_of0 h1 (p := i) (by omega)
      have hk := hP i hi
      have hk2 := hk.2.1
      subst hI
      rw [nch]
      have d1 : dn (nch v i) + n32 1 = dn (nch v i + 1) := by
        unfold dn
        rw [← n32_add]
        show n32 (nch v i) - n32 1 + n32 1 = n32 (nch v i) + n32 1 - n32 1
        rw [Int32.sub_add_cancel, Int32.add_sub_cancel]
      have d0 : dn (nch v i) + n32 0 = dn (nch v i) := Int32.add_zero _
      simp (disch := omega) only [n32_lit, n32_add, n32_mul, n32_lt, n32_le, n32_eq, n32_nat, n32_inb, gd_dec, gd_one, nm_eq, jn_eq, Option.bind_some, Nat.reduceAdd, Nat.reduceMul, Nat.reduceSub, Nat.reduceLT, Nat.reduceLeDiff, Nat.reduceEqDiff, ↓reduceIte, decide_true, decide_false, and_true, true_and, and_false, false_and, or_false, false_or, or_true, true_or, not_true_eq_false, not_false_eq_true, eq_self, Nat.zero_add, Nat.add_zero, Nat.mul_zero, Nat.mul_one, Nat.zero_le, Nat.not_lt_zero, bind_sm, bind_sm2, h1 4 (by decide), show ¬ v 4 ≤ i by omega, e, d1, d0]
      by_cases z : v (72 + 4 * i) = 5
      · simp [z]
      · simp [z]⟩) (v 4) 0 (-n32 1) 100000 (by omega) (by omega) rfl
  rw [i1] at i2
  exact i2 (fun b a => K a b)
theorem t_drive7 (hc : Cl m1 v) (hv : Vd v) : f_X3_peopleWhoDriveOnSunday m1 = some (n32 (nch v (v 4))) := by
  obtain ⟨⟨h4, h5, h0, h1', h6, h7, hP, hC⟩, hF⟩ := hv
  have c4 := hc.1.2.2.2.1
  obtain ⟨s, i1, i2⟩ := loop_k (S := Int32) (fun K t u s => f_X3_peopleWhoDriveOnSunday_L4 (fun a b => K b a) m1 t s u) (v 4) (fun i s => s = n32 (nch v i)) (fun K t s _ => by
      refine Eq.trans (f_X3_peopleWhoDriveOnSunday_L4.eq_2 _ _ _ _ _) ?_
      simp (disch := omega) only [n32_lit, n32_add, n32_mul, n32_lt, n32_le, n32_eq, n32_nat, n32_inb, gd_dec, gd_one, nm_eq, jn_eq, Option.bind_some, Nat.reduceAdd, Nat.reduceMul, Nat.reduceSub, Nat.reduceLT, Nat.reduceLeDiff, Nat.reduceEqDiff, ↓reduceIte, decide_true, decide_false, and_true, true_and, and_false, false_and, or_false, false_or, or_true, true_or, not_true_eq_false, not_false_eq_true, eq_self, Nat.zero_add, Nat.add_zero, Nat.mul_zero, Nat.mul_one, Nat.zero_le, Nat.not_lt_zero, bind_sm, bind_sm2, c4, Nat.le_refl]) (fun i s hi hI => ⟨n32 (nch v (i + 1)), rfl, fun K t => by
      refine Eq.trans (f_X3_peopleWhoDriveOnSunday_L4.eq_2 _ _ _ _ _) ?_
      have e := (hc.1.2.2.2.2.2.2.2.1 i hi).1
      have hk := hP i hi
      have e5 := t_isOfKind (k := v (72 + 4 * i)) (w := 5) ⟨hk.1, hk.2.1⟩ (by omega)
      subst hI
      rw [nch]
      simp (disch := omega) only [n32_lit, n32_add, n32_mul, n32_lt, n32_le, n32_eq, n32_nat, n32_inb, gd_dec, gd_one, nm_eq, jn_eq, Option.bind_some, Nat.reduceAdd, Nat.reduceMul, Nat.reduceSub, Nat.reduceLT, Nat.reduceLeDiff, Nat.reduceEqDiff, ↓reduceIte, decide_true, decide_false, and_true, true_and, and_false, false_and, or_false, false_or, or_true, true_or, not_true_eq_false, not_false_eq_true, eq_self, Nat.zero_add, Nat.add_zero, Nat.mul_zero, Nat.mul_one, Nat.zero_le, Nat.not_lt_zero, bind_sm, bind_sm2, c4, show ¬ v 4 ≤ i by omega, e, e5, show i < 7 by omega]
      unfold isofk
      by_cases z : v (72 + 4 * i) = 5
      · simp [z, n32_10]
      · simp [z]⟩) (v 4) 0 (n32 0) 100000 (by omega) (by omega) rfl
  rw [i1] at i2
  exact i2 (fun b a => some a)
theorem s_fetch (hE : REv ((up m0 0 0 0) 6) ((up m0 0 0 0) 0 7) m1 v) (x : Int32) : Same (f_X7_fetch m1 x) (f_X8_fetch m0 x) m0 := by
  unfold f_X7_fetch f_X8_fetch Same
  rw [nm_eq (up m0 0 0 0)]
  generalize hw : up m0 0 0 0 = w at *
  obtain ⟨h1, hv, hc, ht, ht2⟩ := hE
  rw [ht]
  rcases ht2 with t0 | t0
  · simp (maxSteps := 400000) (disch := omega) only [n32_lit, n32_add, n32_mul, n32_lt, n32_le, n32_eq, n32_nat, n32_inb, gd_dec, gdE, ↓nmE, ↓jnE, ↓bsE, Nat.reduceAdd, Nat.reduceMul, Nat.reduceSub, Nat.reduceLT, Nat.reduceLeDiff, Nat.reduceEqDiff, ↓reduceIte, decide_true, decide_false, and_true, true_and, and_false, false_and, or_false, false_or, or_true, true_or, not_true_eq_false, not_false_eq_true, eq_self, Nat.zero_add, Nat.add_zero, Nat.mul_zero, Nat.mul_one, Nat.zero_le, Nat.not_lt_zero, bind_sm, bind_sm2, t0]
    exact ⟨_, rfl, rfl⟩
  · rcases b_min x with ⟨n, hn, rfl, e5, e6⟩ | ⟨e5, e6⟩
    · have e1 := t_goingAt h1 hv hn
      have e2 := t_carsThatGo hc hv hn
      have hg : gs v n (v 5) < 8 := gs_lt8 hv.1.2.1
      have e3 := t_bits (a := gs v n (v 5)) (by omega)
      have e4 := bitc_n (a := gs v n (v 5)) (by omega)
      have c5 := hc.1.2.2.2.2.1
      have h4 := hv.1.1
      have h5 := hv.1.2.1
      rw [e5, e6]
      unfold f_X3_tripsFor
      simp (maxSteps := 400000) (disch := omega) only [n32_lit, n32_add, n32_mul, n32_lt, n32_le, n32_eq, n32_nat, n32_inb, gd_dec, gdE, ↓nmE, ↓jnE, ↓bsE, Nat.reduceAdd, Nat.reduceMul, Nat.reduceSub, Nat.reduceLT, Nat.reduceLeDiff, Nat.reduceEqDiff, ↓reduceIte, decide_true, decide_false, and_true, true_and, and_false, false_and, or_false, false_or, or_true, true_or, not_true_eq_false, not_false_eq_true, eq_self, Nat.zero_add, Nat.add_zero, Nat.mul_zero, Nat.mul_one, Nat.zero_le, Nat.not_lt_zero, bind_sm, bind_sm2, t0, e1, e2, e3, e4, c5, h1 5 (by decide), t_seats8 h1 hv hg, t_seats7 hc hv hg, t_drive8 h1 hv, t_drive7 hc hv]
      have d : n32 (nch v (v 4)) - n32 1 = dn (nch v (v 4)) := rfl
      rw [d, ← i32_lele]
      generalize (if dn (nch v (v 4)) ≤ n32 (mxs v (gs v n (v 5)) (v 5)) then dn (nch v (v 4)) else n32 (mxs v (gs v n (v 5)) (v 5))) = ea
      generalize n32 (v 5) - n32 (pop7 (gs v n (v 5))) = x
      by_cases z1 : x = n32 0
      · simp (maxSteps := 400000) (disch := omega) only [n32_lit, n32_add, n32_mul, n32_lt, n32_le, n32_eq, n32_nat, n32_inb, gd_dec, gdE, ↓nmE, ↓jnE, ↓bsE, Nat.reduceAdd, Nat.reduceMul, Nat.reduceSub, Nat.reduceLT, Nat.reduceLeDiff, Nat.reduceEqDiff, ↓reduceIte, decide_true, decide_false, and_true, true_and, and_false, false_and, or_false, false_or, or_true, true_or, not_true_eq_false, not_false_eq_true, eq_self, Nat.zero_add, Nat.add_zero, Nat.mul_zero, Nat.mul_one, Nat.zero_le, Nat.not_lt_zero, bind_sm, bind_sm2, z1]
        exact ⟨_, rfl, rfl⟩
      · by_cases z2 : n32 1 ≤ ea
        · have z3 : ¬ ea = n32 0 := fun z => by rw [z] at z2; exact absurd z2 (by decide)
          simp (maxSteps := 400000) (disch := omega) only [n32_lit, n32_add, n32_mul, n32_lt, n32_le, n32_eq, n32_nat, n32_inb, gd_dec, gdE, ↓nmE, ↓jnE, ↓bsE, Nat.reduceAdd, Nat.reduceMul, Nat.reduceSub, Nat.reduceLT, Nat.reduceLeDiff, Nat.reduceEqDiff, ↓reduceIte, decide_true, decide_false, and_true, true_and, and_false, false_and, or_false, false_or, or_true, true_or, not_true_eq_false, not_false_eq_true, eq_self, Nat.zero_add, Nat.add_zero, Nat.mul_zero, Nat.mul_one, Nat.zero_le, Nat.not_lt_zero, bind_sm, bind_sm2, z1, z2, z3]
          exact ⟨_, rfl, rfl⟩
        · simp (maxSteps := 400000) (disch := omega) only [n32_lit, n32_add, n32_mul, n32_lt, n32_le, n32_eq, n32_nat, n32_inb, gd_dec, gdE, ↓nmE, ↓jnE, ↓bsE, Nat.reduceAdd, Nat.reduceMul, Nat.reduceSub, Nat.reduceLT, Nat.reduceLeDiff, Nat.reduceEqDiff, ↓reduceIte, decide_true, decide_false, and_true, true_and, and_false, false_and, or_false, false_or, or_true, true_or, not_true_eq_false, not_false_eq_true, eq_self, Nat.zero_add, Nat.add_zero, Nat.mul_zero, Nat.mul_one, Nat.zero_le, Nat.not_lt_zero, bind_sm, bind_sm2, z1, z2]
          exact ⟨_, rfl, rfl⟩
    · rw [e5, e6]
      simp (maxSteps := 400000) (disch := omega) only [n32_lit, n32_add, n32_mul, n32_lt, n32_le, n32_eq, n32_nat, n32_inb, gd_dec, gdE, ↓nmE, ↓jnE, ↓bsE, Nat.reduceAdd, Nat.reduceMul, Nat.reduceSub, Nat.reduceLT, Nat.reduceLeDiff, Nat.reduceEqDiff, ↓reduceIte, decide_true, decide_false, and_true, true_and, and_false, false_and, or_false, false_or, or_true, true_or, not_true_eq_false, not_false_eq_true, eq_self, Nat.zero_add, Nat.add_zero, Nat.mul_zero, Nat.mul_one, Nat.zero_le, Nat.not_lt_zero, bind_sm, bind_sm2, t0]
      exact ⟨_, rfl, rfl⟩
end EV
