/-! plans on both sides -/
section EV
variable {m0 m1 m3 w : Mem} {v : Nat → Nat} {g : Nat}
def GV (v : Nat → Nat) (g : Nat) : Prop := g < 8 ∧ ∀ c, g.testBit c = true → c < v 5
noncomputable def plan0 (v : Nat → Nat) (g : Nat) : Acc := spec v g (rdl v g (v 4)) none (fun _ => 0)
def RPl (v : Nat → Nat) (m3 : Mem) : Prop := KN v m3 ∧ (∀ c, c < 3 → m3 7 c = n32 0) ∧ (m3 0 2 = -n32 1 ∨ ∃ g, GV v g ∧ m3 0 2 = n32 g ∧ AC m3 (plan0 v g))
theorem gs_gv (hv : Vd v) (mn : Nat) : GV v (gs v mn (v 5)) := by
  refine ⟨gs_lt8 hv.1.2.1, fun c hc => ?_⟩
  rw [gs_bit] at hc
  simp at hc
  exact hc.1
theorem fit0 (hv : Vd v) {mn c : Nat} (h : (gs v mn (v 5)).testBit c = true) : Fit v c 0 := by
  have hc := (gs_gv hv mn).2 c h
  rw [gs_bit] at h
  have hd : dg v mn c = true := by simp at h; exact h.2
  have hd' := of_decide_eq_true (show decide (md v (v (100 + 3 * c)) (v (72 + 4 * v (100 + 3 * c) + 2)) mn = 1 ∧ v (8 + v (72 + 4 * v (100 + 3 * c) + 1)) < 10000 ∧ ((v 7).testBit (v (72 + 4 * v (100 + 3 * c) + 1)) = false ∨ v (100 + 3 * c + 2) = 1)) = true from hd)
  obtain ⟨⟨h4, h5, h0, h1', h6, h7, hP, hC⟩, hF⟩ := hv
  obtain ⟨o1, o2, o3, o4, o5⟩ := hC c hc
  refine ⟨?_, fun p hp hb => ?_⟩
  · have : pop7 0 = 0 := by decide
    omega
  · rw [or_bit, Nat.zero_testBit, Bool.false_or, decide_eq_true_eq] at hb
    subst hb
    refine ⟨and_zero.mpr (fun i z => ?_), fun q => q.1 rfl, hd'.2.1⟩
    have zi : ow v c = i := by
      have := z.2
      rw [or_bit, Nat.zero_testBit, Bool.false_or, decide_eq_true_eq] at this
      exact this
    have z1 := z.1
    rw [← zi, (hP _ hp).2.2.2.2.2.2.1] at z1
    cases z1
theorem val0 (hv : Vd v) (mn : Nat) : Val v (gs v mn (v 5)) (fun _ => 0) := fun c _ => ⟨fun h => fit0 hv h, fun _ => rfl⟩
/-- what a plan is -/
def GA (v : Nat → Nat) (g : Nat) (acc : Acc) : Prop := ∀ a, acc = some a → Val v g a.2.2 ∧ (∀ i, a.2.2 i < 2 ^ v 4) ∧ a.1 = pop7 (a.2.2 3)
theorem leaf_ga {acc : Acc} {T : Nat → Nat} (h : GA v g acc) (hT : ∀ i, T i < 2 ^ v 4) : GA v g (leaf v g acc T) := by
  unfold leaf
  by_cases q : Val v g T
  · rw [if_pos q]
    have new : GA v g (some (pop7 (T 3), smT v g T 3, T)) := fun a e => by
      have := Option.some.inj e
      subst this
      exact ⟨q, hT, rfl⟩
    cases acc with
    | none => exact new
    | some a =>
      show GA v g (if _ then _ else _)
      split
      · exact new
      · exact h
  · rw [if_neg q]; exact h
theorem spec_ga : ∀ (ps : List Nat) (acc : Acc) (T : Nat → Nat), (∀ p, p ∈ ps → p < v 4) → GA v g acc → (∀ i, T i < 2 ^ v 4) → GA v g (spec v g ps acc T)
  | [], acc, T, _, h, hT => leaf_ga h hT
  | p :: ps, acc, T, hp, h, hT => by
    have hp4 := hp p List.mem_cons_self
    have hps := fun q hq => hp q (List.mem_cons_of_mem _ hq)
    unfold spec
    exact spec_ga ps _ _ hps (spec_ga ps _ _ hps (spec_ga ps _ _ hps (spec_ga ps _ _ hps h (addT_lt hT hp4)) (addT_lt hT hp4)) (addT_lt hT hp4)) (addT_lt hT hp4)
theorem plan_ex (hv : Vd v) (mn : Nat) : ∃ a, plan0 v (gs v mn (v 5)) = some a ∧ Val v (gs v mn (v 5)) a.2.2 ∧ (∀ i, a.2.2 i < 2 ^ v 4) ∧ a.1 = pop7 (a.2.2 3) := by
  have h1 := spec_some (v := v) (g := gs v mn (v 5)) (rdl v (gs v mn (v 5)) (v 4)) none (fun _ => 0) (Or.inr (val0 hv mn))
  have h2 := spec_ga (v := v) (g := gs v mn (v 5)) (rdl v (gs v mn (v 5)) (v 4)) none (fun _ => 0) (fun p hp => (rdl_mem hp).1) (fun a e => by cases e) (fun _ => Nat.two_pow_pos _)
  unfold plan0
  cases h : spec v (gs v mn (v 5)) (rdl v (gs v mn (v 5)) (v 4)) none (fun _ => 0) with
  | none => exact absurd h h1
  | some a => exact ⟨a, rfl, h2 a h⟩
def drv (v : Nat → Nat) (g : Nat) : Nat → Nat
  | 0 => 0
  | c + 1 => drv v g c ||| (if g.testBit c then 2 ^ ow v c else 0)
theorem drv_bit (p : Nat) : ∀ n, (drv v g n).testBit p = true ↔ ∃ c, c < n ∧ g.testBit c = true ∧ ow v c = p
  | 0 => by simp [drv]
  | n + 1 => by
    rw [drv, Nat.testBit_or, Bool.or_eq_true, drv_bit p n]
    constructor
    · rintro (⟨c, h1, h2, h3⟩ | h)
      · exact ⟨c, by omega, h2, h3⟩
      · cases hb : g.testBit n with
        | false => rw [hb] at h; simp at h
        | true =>
          rw [hb, if_pos rfl, Nat.testBit_two_pow, decide_eq_true_eq] at h
          exact ⟨n, by omega, hb, h⟩
    · rintro ⟨c, h1, h2, h3⟩
      by_cases z : c = n
      · right
        rw [← z, h2, if_pos rfl, Nat.testBit_two_pow, decide_eq_true_eq]; exact h3
      · exact Or.inl ⟨c, by omega, h2, h3⟩
theorem drv_lt (hv : Vd v) (hg : GV v g) : ∀ n, drv v g n < 128
  | 0 => by unfold drv; omega
  | n + 1 => by
    unfold drv
    refine Nat.or_lt_two_pow (n := 7) (drv_lt hv hg n) ?_
    cases hb : g.testBit n with
    | false => simp
    | true =>
      rw [if_pos rfl]
      have := (hv.1.2.2.2.2.2.2.2 n (hg.2 n hb)).1
      have h4 := hv.1.1
      exact Nat.pow_lt_pow_right (by omega) (by unfold ow; omega)
def PPl (s i : Nat) : Prop := PS s i ∨ (s = 0 ∧ (i = 2 ∨ i = 7 ∨ i = 8))
theorem t_plan (hc : Cl m1 v) (hv : Vd v) (hR : RPl v m3) (mn : Nat) : ∃ m3', f_X4_plan m1 m3 (n32 (gs v mn (v 5))) = some m3' ∧ RPl v m3' ∧ m3' 0 2 = n32 (gs v mn (v 5)) ∧ AC m3' (plan0 v (gs v mn (v 5))) := by
  have gv := gs_gv hv mn
  have vl0 := val0 hv mn
  generalize gs v mn (v 5) = g at *
  obtain ⟨k1, k2, k3⟩ := hR
  have h4 := hv.1.1
  have h5 := hv.1.2.1
  have hg8 := gv.1
  unfold f_X4_plan
  by_cases q : m3 0 2 = n32 g
  · have ac : AC m3 (plan0 v g) := by
      rcases k3 with k3 | ⟨g', a, b, c⟩
      · rw [q] at k3
        exact absurd k3 (by rw [n32_ne1' (by omega)]; exact id)
      · rw [q, n32_eq (by omega) (by have := a.1; omega)] at b
        rw [b]; exact c
    refine ⟨m3, by rw [if_pos q], ⟨k1, k2, Or.inr ⟨g, gv, q, ac⟩⟩, q, ac⟩
  · rw [if_neg q]
    simp only [nmE]
    -- drivers
    obtain ⟨s, ⟨i1, i3⟩, i2⟩ := loop_k (S := Mem) (fun K t u s => f_X4_plan_L26 K m1 t u s) 3 (fun i s => Fr (fun s i => s = 0 ∧ i = 8) (up (up (up m3 0 2 (n32 g)) 0 7 (n32 g)) 0 8 (n32 0)) s ∧ s 0 8 = n32 (drv v g i)) (fun K t s _ => by
      refine Eq.trans (f_X4_plan_L26.eq_2 _ _ _ _ _) ?_
      simp (disch := omega) only [n32_lit, n32_add, n32_mul, n32_lt, n32_le, n32_eq, n32_nat, n32_inb, gd_dec, gd_one, nm_eq, jn_eq, Option.bind_some, Nat.reduceAdd, Nat.reduceMul, Nat.reduceSub, Nat.reduceLT, Nat.reduceLeDiff, Nat.reduceEqDiff, ↓reduceIte, decide_true, decide_false, and_true, true_and, and_false, false_and, or_false, false_or, or_true, true_or, not_true_eq_false, not_false_eq_true, eq_self, Nat.zero_add, Nat.add_zero, Nat.mul_zero, Nat.mul_one, Nat.zero_le, Nat.not_lt_zero, bind_sm, bind_sm2, Nat.le_refl]) (fun i s hi hI => by
      obtain ⟨h1, h2⟩ := hI
      have e7 : s 0 7 = n32 g := by rw [h1 0 7 (by omega)]; simp (disch := omega) only [up_at, up_ms, up_mi, upA_at, upA_ms]
      cases hb : g.testBit i with
      | false =>
        refine ⟨s, ⟨h1, ?_⟩, fun K t => ?_⟩
        · rw [h2]; show _ = n32 (drv v g i ||| _); rw [hb]; simp
        · refine Eq.trans (f_X4_plan_L26.eq_2 _ _ _ _ _) ?_
          simp (disch := omega) only [n32_lit, n32_add, n32_mul, n32_lt, n32_le, n32_eq, n32_nat, n32_inb, gd_dec, gd_one, nm_eq, jn_eq, Option.bind_some, Nat.reduceAdd, Nat.reduceMul, Nat.reduceSub, Nat.reduceLT, Nat.reduceLeDiff, Nat.reduceEqDiff, ↓reduceIte, decide_true, decide_false, and_true, true_and, and_false, false_and, or_false, false_or, or_true, true_or, not_true_eq_false, not_false_eq_true, eq_self, Nat.zero_add, Nat.add_zero, Nat.mul_zero, Nat.mul_one, Nat.zero_le, Nat.not_lt_zero, bind_sm, bind_sm2, show ¬ 3 ≤ i by omega, e7, t_hasBit, n32_b0, hb]
      | true =>
        have hc5 := gv.2 i hb
        have o1 := (hv.1.2.2.2.2.2.2.2 i hc5).1
        have ow1 : m1 16 i = n32 (ow v i) := (hc.1.2.2.2.2.2.2.2.2 i hc5).1
        have on1 := n32_one (i := ow v i) (by unfold ow; omega)
        refine ⟨up s 0 8 (n32 (drv v g (i + 1))), ⟨h1.up 0 8 _ ⟨rfl, rfl⟩, by simp (disch := omega) only [up_at, up_ms, up_mi, upA_at, upA_ms]⟩, fun K t => ?_⟩
        refine Eq.trans (f_X4_plan_L26.eq_2 _ _ _ _ _) ?_
        have e : drv v g (i + 1) = drv v g i ||| 2 ^ ow v i := by show drv v g i ||| _ = _; rw [hb]; simp
        rw [e]
        simp (disch := omega) only [n32_lit, n32_add, n32_mul, n32_lt, n32_le, n32_eq, n32_nat, n32_inb, gd_dec, gd_one, nm_eq, jn_eq, Option.bind_some, Nat.reduceAdd, Nat.reduceMul, Nat.reduceSub, Nat.reduceLT, Nat.reduceLeDiff, Nat.reduceEqDiff, ↓reduceIte, decide_true, decide_false, and_true, true_and, and_false, false_and, or_false, false_or, or_true, true_or, not_true_eq_false, not_false_eq_true, eq_self, Nat.zero_add, Nat.add_zero, Nat.mul_zero, Nat.mul_one, Nat.zero_le, Nat.not_lt_zero, bind_sm, bind_sm2, show ¬ 3 ≤ i by omega, e7, t_hasBit, n32_b0, hb, show i < 3 by omega, ow1, on1, h2, n32_or']
        simp) 3 0 (up (up (up m3 0 2 (n32 g)) 0 7 (n32 g)) 0 8 (n32 0)) 100000 (by omega) (by omega) ⟨Fr.refl, by simp (disch := omega) only [up_at, up_ms, up_mi, upA_at, upA_ms]; rfl⟩
    have so : ∀ s' j, ¬ (s' = 0 ∧ (j = 2 ∨ j = 7 ∨ j = 8)) → s s' j = m3 s' j := fun s' j hn => by
      rw [i1 s' j (by omega), up_ap, if_neg (by omega), up_ap, if_neg (by omega), up_ap, if_neg (by omega)]
    have s7 : s 0 7 = n32 g := by rw [i1 0 7 (by omega)]; simp (disch := omega) only [up_at, up_ms, up_mi, upA_at, upA_ms]
    have s2 : s 0 2 = n32 g := by rw [i1 0 2 (by omega)]; simp (disch := omega) only [up_at, up_ms, up_mi, upA_at, upA_ms]
    have SI0 : SI v g (drv v g 3) (up s 0 5 (n32 8)) (fun _ => 0) none := by
      refine ⟨by show (up s 0 5 (n32 8)) 0 5 = n32 8; simp (disch := omega) only [up_at, up_ms, up_mi, upA_at, upA_ms], fun c X hc1 hX => ?_, ?_, ?_, fun c hc1 => ?_⟩
      · rw [up_ms (by omega), so 1 _ (by omega)]; exact k1 c X hc1 hX
      · simp (disch := omega) only [up_at, up_ms, up_mi, upA_at, upA_ms]; exact s7
      · simp (disch := omega) only [up_at, up_ms, up_mi, upA_at, upA_ms]; exact i3
      · rw [up_ms (by omega), so 7 _ (by omega)]; exact k2 c hc1
    have hdr : ∀ p, p < v 4 → (drv v g 3).testBit p = !(ndr v g p) := fun p hp => by
      have e : ((drv v g 3).testBit p = true) ↔ ¬ (ndr v g p = true) := by
        rw [drv_bit]
        unfold ndr
        rw [decide_eq_true_eq, Classical.not_not]
        constructor
        · rintro ⟨c, h1, h2, h3⟩
          exact ⟨c, gv.2 c h2, h3, h2⟩
        · rintro ⟨c, h1, h2, h3⟩
          exact ⟨c, by omega, h3, h2⟩
      cases h1 : ndr v g p
      · rw [h1] at e; exact e.mpr (by decide)
      · rw [h1] at e
        cases h2 : (drv v g 3).testBit p
        · rfl
        · rw [h2] at e; exact absurd rfl (e.mp rfl)
    obtain ⟨m3', e1, e2, e3⟩ := t_seat hc hv gv.2 hg8 (drv_lt hv gv 3) hdr (v 4) 0 16 (fun _ => 0) (up s 0 5 (n32 8)) none (by omega) (by omega) (fun _ => Nat.two_pow_pos _) vl0 SI0
    have rre : rr v g (v 4) 0 = rdl v g (v 4) := by
      have := rdl_rr (v := v) (g := g) (v 4) 0
      rw [Nat.zero_add] at this
      rw [this]; rfl
    rw [rre] at e3
    have m2' : m3' 0 2 = n32 g := by rw [e2 0 2 (by unfold PS; omega)]; simp (disch := omega) only [up_at, up_ms, up_mi, upA_at, upA_ms]; exact s2
    refine ⟨m3', ?_, ⟨e3.2.1, fun c hc1 => e3.2.2.2.2 c hc1, Or.inr ⟨g, gv, m2', e3.1⟩⟩, m2', e3.1⟩
    have i2' := i2 (fun (u18 : Int32) (w19 : Mem) => f_X4_seat 16 m1 (up w19 0 5 (n32 8)) (n32 0) (n32 0))
    rw [← e1]
    refine Eq.trans ?_ i2'
    simp (maxSteps := 400000) (disch := omega) only [n32_lit, n32_add, n32_mul, n32_lt, n32_le, n32_eq, n32_nat, n32_inb, gd_dec, gdE, ↓nmE, ↓jnE, ↓bsE, Nat.reduceAdd, Nat.reduceMul, Nat.reduceSub, Nat.reduceLT, Nat.reduceLeDiff, Nat.reduceEqDiff, ↓reduceIte, decide_true, decide_false, and_true, true_and, and_false, false_and, or_false, false_or, or_true, true_or, not_true_eq_false, not_false_eq_true, eq_self, Nat.zero_add, Nat.add_zero, Nat.mul_zero, Nat.mul_one, Nat.zero_le, Nat.not_lt_zero, bind_sm, bind_sm2]
end EV
