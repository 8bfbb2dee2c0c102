/-! an evening -/
def fwn (d : Nat → Nat → Nat) : Nat → Nat → Nat → Nat
  | 0 => d
  | m + 1 => nx m (fwn d m)
theorem fi_all {d : Nat → Nat → Nat} (h : FI 0 d) : ∀ m, m ≤ 8 → FI m (fwn d m)
  | 0, _ => h
  | m + 1, hm => fi_step (fi_all h m (by omega)) (by omega)
theorem t_layFar {d : Nat → Nat → Nat} (h : FI 0 d) (w : Mem) (hc : C8 w d) : ∃ w', f_X8_layFar w = some w' ∧ Fr PF8 w w' ∧ C8 w' (fwn d 8) := by
  unfold f_X8_layFar
  obtain ⟨s, ⟨i1, i3⟩, i2⟩ := loop_k (S := Mem) (fun K t u s => f_X8_layFar_L2 K t u s) 8 (fun m r => Fr PF8 w r ∧ C8 r (fwn d m)) (fun K t s _ => by
      refine Eq.trans (f_X8_layFar_L2.eq_2 _ _ _ _) ?_
      simp (disch := omega) only [n32_lit, n32_add, n32_mul, n32_lt, n32_le, n32_eq, n32_nat, n32_inb, gd_dec, gd_one, nm_eq, jn_eq, Option.bind_some, Nat.reduceAdd, Nat.reduceMul, Nat.reduceSub, Nat.reduceLT, Nat.reduceLeDiff, Nat.reduceEqDiff, ↓reduceIte, decide_true, decide_false, and_true, true_and, and_false, false_and, or_false, false_or, or_true, true_or, not_true_eq_false, not_false_eq_true, eq_self, Nat.zero_add, Nat.add_zero, Nat.mul_zero, Nat.mul_one, Nat.zero_le, Nat.not_lt_zero, bind_sm, bind_sm2, Nat.le_refl]) (fun m s hm hI => by
      obtain ⟨h1, h2⟩ := hI
      obtain ⟨w', e1, e2, e3⟩ := fw_mid8 (fi_gd (fi_all h m (by omega))) hm s h2
      refine ⟨w', ⟨h1.trans e2, e3⟩, fun K t => ?_⟩
      refine Eq.trans (f_X8_layFar_L2.eq_2 _ _ _ _) ?_
      simp (maxSteps := 400000) (disch := omega) only [n32_lit, n32_add, n32_mul, n32_lt, n32_le, n32_eq, n32_nat, n32_inb, gd_dec, gdE, ↓nmE, ↓jnE, ↓bsE, Nat.reduceAdd, Nat.reduceMul, Nat.reduceSub, Nat.reduceLT, Nat.reduceLeDiff, Nat.reduceEqDiff, ↓reduceIte, decide_true, decide_false, and_true, true_and, and_false, false_and, or_false, false_or, or_true, true_or, not_true_eq_false, not_false_eq_true, eq_self, Nat.zero_add, Nat.add_zero, Nat.mul_zero, Nat.mul_one, Nat.zero_le, Nat.not_lt_zero, bind_sm, bind_sm2, show ¬ 8 ≤ m by omega, e1]) 8 0 w 100000 (by omega) (by omega) ⟨Fr.refl, hc⟩
  exact ⟨s, i2 _, i1, i3⟩
theorem t_finish {d : Nat → Nat → Nat} (h : FI 0 d) (w : Mem) (hc : C7 w d) : ∃ w', f_X3_finish w = some (up w' 0 0 (n32 1)) ∧ Fr PF7 w w' ∧ C7 w' (fwn d 8) := by
  unfold f_X3_finish
  obtain ⟨s, ⟨i1, i3⟩, i2⟩ := loop_k (S := Mem) (fun K t u s => f_X3_finish_L2 K t u s) 8 (fun m r => Fr PF7 w r ∧ C7 r (fwn d m)) (fun K t s _ => by
      refine Eq.trans (f_X3_finish_L2.eq_2 _ _ _ _) ?_
      simp (disch := omega) only [n32_lit, n32_add, n32_mul, n32_lt, n32_le, n32_eq, n32_nat, n32_inb, gd_dec, gd_one, nm_eq, jn_eq, Option.bind_some, Nat.reduceAdd, Nat.reduceMul, Nat.reduceSub, Nat.reduceLT, Nat.reduceLeDiff, Nat.reduceEqDiff, ↓reduceIte, decide_true, decide_false, and_true, true_and, and_false, false_and, or_false, false_or, or_true, true_or, not_true_eq_false, not_false_eq_true, eq_self, Nat.zero_add, Nat.add_zero, Nat.mul_zero, Nat.mul_one, Nat.zero_le, Nat.not_lt_zero, bind_sm, bind_sm2, Nat.le_refl]) (fun m s hm hI => by
      obtain ⟨h1, h2⟩ := hI
      obtain ⟨w', e1, e2, e3⟩ := fw_mid7 (fi_gd (fi_all h m (by omega))) hm s h2
      refine ⟨w', ⟨h1.trans e2, e3⟩, fun K t => ?_⟩
      refine Eq.trans (f_X3_finish_L2.eq_2 _ _ _ _) ?_
      simp (maxSteps := 400000) (disch := omega) only [n32_lit, n32_add, n32_mul, n32_lt, n32_le, n32_eq, n32_nat, n32_inb, gd_dec, gdE, ↓nmE, ↓jnE, ↓bsE, Nat.reduceAdd, Nat.reduceMul, Nat.reduceSub, Nat.reduceLT, Nat.reduceLeDiff, Nat.reduceEqDiff, ↓reduceIte, decide_true, decide_false, and_true, true_and, and_false, false_and, or_false, false_or, or_true, true_or, not_true_eq_false, not_false_eq_true, eq_self, Nat.zero_add, Nat.add_zero, Nat.mul_zero, Nat.mul_one, Nat.zero_le, Nat.not_lt_zero, bind_sm, bind_sm2, show ¬ 8 ≤ m by omega, e1]) 8 0 w 100000 (by omega) (by omega) ⟨Fr.refl, hc⟩
  exact ⟨s, i2 _, i1, i3⟩
/-- an evening's numbers with new minutes -/
def vfar (v : Nat → Nat) (d : Nat → Nat → Nat) : Nat → Nat := fun i => if 8 ≤ i ∧ i < 72 then d ((i - 8) / 8) ((i - 8) % 8) else v i
theorem vfar_at {v : Nat → Nat} {d : Nat → Nat → Nat} {a b : Nat} (ha : a < 8) (hb : b < 8) : vfar v d (8 + 8 * a + b) = d a b := by
  unfold vfar
  rw [if_pos (by omega), show (8 + 8 * a + b - 8) / 8 = a by omega, show (8 + 8 * a + b - 8) % 8 = b by omega]
theorem vfar_ne {v : Nat → Nat} {d : Nat → Nat → Nat} {i : Nat} (h : i < 8 ∨ 72 ≤ i) : vfar v d i = v i := by unfold vfar; rw [if_neg (by omega)]
theorem vm_fi {v : Nat → Nat} (h : VM v) : FI 0 (fun a b => v (8 + 8 * a + b)) := by
  refine ⟨fun a ha => (h a a ha ha).2.2 rfl, fun a b ha hb => ?_, fun a b x _ _ hx => by omega, fun a b ha hb q => ?_⟩
  · rcases (h a b ha hb).1 with q | q
    · exact Or.inr ⟨by show v _ < _; omega, fun _ => false, by show v _ ≤ _; omega, fun x _ c => by cases c⟩
    · exact Or.inl q
  · show v (8 + 8 * b + a) < 10000
    rw [← (h a b ha hb).2.1]; exact q
theorem dr_done {v : Nat → Nat} {w m2 w1 m3 : Mem} (hd : DR v w m2) (hf8 : Fr PF8 w w1) (hf7 : Fr PF7 m2 m3) (h8 : C8 w1 (fwn (fun a b => v (8 + 8 * a + b)) 8)) (h7 : C7 m3 (fwn (fun a b => v (8 + 8 * a + b)) 8)) : ∃ v', Sh (w1 7) v' ∧ Vd v' ∧ Cl (up m3 0 0 (n32 1)) v' := by
  obtain ⟨h1, ⟨⟨c1, c2, c3, c4, c5, c6, ⟨s, s1, s2, s3⟩, c8, c9⟩, cF, c10, c11⟩, ⟨v4, v5, v0, v1, v6, v7, vP, vC⟩, vM, ⟨vq, vq2⟩, v2, v3⟩ := hd
  have fi := fi_all (vm_fi vM) 8 (by omega)
  have gd := fi_gd fi
  generalize fwn (fun a b => v (8 + 8 * a + b)) 8 = d at *
  have ne : ∀ i, i < 8 ∨ 72 ≤ i → vfar v d i = v i := fun i h => vfar_ne h
  have mm : ∀ s j, s ≠ 11 → ¬ (s = 0 ∧ j = 0) → (up m3 0 0 (n32 1)) s j = m2 s j := fun s j h h' => by rw [up_ap, if_neg h', hf7 s j h]
  refine ⟨vfar v d, ?_, ⟨⟨?_, ?_, ?_, ?_, ?_, ?_, ?_, ?_⟩, ?_, ?_⟩, ⟨?_, ?_, ?_, ?_, ?_, ?_, ⟨s, s1, ?_, ?_⟩, ?_, ?_⟩, ?_⟩
  · intro i hi
    by_cases q : 8 ≤ i ∧ i < 72
    · have := h8 ((i - 8) / 8) ((i - 8) % 8) (by omega) (by omega)
      rw [show 8 + 8 * ((i - 8) / 8) + (i - 8) % 8 = i by omega] at this
      rw [this]; unfold vfar; rw [if_pos q]
    · rw [ne i (by omega), hf8 7 i (by unfold PF8; omega)]; exact h1 i hi
  · rw [ne _ (by omega)]; exact v4
  · rw [ne _ (by omega)]; exact v5
  · rw [ne _ (by omega)]; exact v0
  · rw [ne _ (by omega)]; exact v1
  · rw [ne _ (by omega)]; exact v6
  · rw [ne _ (by omega)]; exact v7
  · intro p hp
    rw [ne 4 (by omega)] at hp
    unfold VdP
    rw [ne (72 + 4 * p) (by omega), ne (72 + 4 * p + 1) (by omega), ne (72 + 4 * p + 2) (by omega), ne (72 + 4 * p + 3) (by omega), ne 4 (by omega)]
    obtain ⟨k1, k2, k3, k4, k5, k6, k7, k8⟩ := vP p hp
    refine ⟨k1, k2, k3, k4, k5, k6, k7, fun q hq => ?_⟩
    rw [ne (72 + 4 * q + 3) (by omega)]; exact k8 q hq
  · intro c hc
    rw [ne 5 (by omega)] at hc
    unfold VdC
    rw [ne (100 + 3 * c) (by omega), ne (100 + 3 * c + 1) (by omega), ne (100 + 3 * c + 2) (by omega), ne 4 (by omega), ne 5 (by omega)]
    obtain ⟨k1, k2, k3, k4, k5⟩ := vC c hc
    refine ⟨k1, k2, k3, k4, fun c' hc' => ?_⟩
    rw [ne (100 + 3 * c') (by omega)]; exact k5 c' hc'
  · intro a b ha hb
    rw [vfar_at ha hb]; exact gd.1 a b ha hb
  · intro a b ha hb p1 p2
    rw [vfar_at ha hb]
    have q1 := vfar_at (v := v) (d := d) (a := 0) (b := a) (by omega) ha
    have q2 := vfar_at (v := v) (d := d) (a := 0) (b := b) (by omega) hb
    rw [show 8 + 8 * 0 + a = 8 + a by omega] at q1
    rw [show 8 + 8 * 0 + b = 8 + b by omega] at q2
    rw [q1] at p1
    rw [q2] at p2
    exact fi.2.2.1 a b 0 ha hb (by omega) (by omega) (fi.2.2.2 0 a (by omega) ha p1) p2
  · rw [mm _ _ (by omega) (by omega), ne _ (by omega)]; exact c1
  · rw [mm _ _ (by omega) (by omega), ne _ (by omega)]; exact c2
  · rw [mm _ _ (by omega) (by omega), ne _ (by omega)]; exact c3
  · rw [mm _ _ (by omega) (by omega), ne _ (by omega)]; exact c4
  · rw [mm _ _ (by omega) (by omega), ne _ (by omega)]; exact c5
  · rw [mm _ _ (by omega) (by omega), ne _ (by omega)]; exact c6
  · rw [mm _ _ (by omega) (by omega)]; exact s2
  · intro p hp
    rw [ne _ (by omega), ne _ (by omega)]; exact s3 p hp
  · intro p hp
    rw [ne 4 (by omega)] at hp
    rw [mm 12 p (by omega) (by omega), mm 13 p (by omega) (by omega), mm 14 p (by omega) (by omega), mm 15 p (by omega) (by omega), ne (72 + 4 * p) (by omega), ne (72 + 4 * p + 1) (by omega), ne (72 + 4 * p + 2) (by omega), ne (72 + 4 * p + 3) (by omega)]
    exact c8 p hp
  · intro c hc
    rw [ne 5 (by omega)] at hc
    rw [mm 16 c (by omega) (by omega), mm 17 c (by omega) (by omega), mm 18 c (by omega) (by omega), ne (100 + 3 * c) (by omega), ne (100 + 3 * c + 1) (by omega), ne (100 + 3 * c + 2) (by omega)]
    exact c9 c hc
  · intro i hi
    rw [up_ms (by omega)]
    have := h7 (i / 8) (i % 8) (by omega) (by omega)
    rw [show i / 8 * 8 + i % 8 = i by omega] at this
    rw [this, show 8 + i = 8 + 8 * (i / 8) + i % 8 by omega, vfar_at (by omega) (by omega)]
theorem t_copyEv (w : Mem) : ∃ w', (∀ K, f_X8_evening_L274 K 100000 (n32 0) w = K (n32 109) w') ∧ ∀ s j, w' s j = if s = 6 ∧ j < 109 then w 7 j else w s j := by
  obtain ⟨s, i1, i2⟩ := loop_k (S := Mem) (fun K t u s => f_X8_evening_L274 K t u s) 109 (fun i r => ∀ s j, r s j = if s = 6 ∧ j < i then w 7 j else w s j) (fun K t s _ => by
      refine Eq.trans (f_X8_evening_L274.eq_2 _ _ _ _) ?_
      simp (disch := omega) only [n32_lit, n32_add, n32_mul, n32_lt, n32_le, n32_eq, n32_nat, n32_inb, gd_dec, gd_one, nm_eq, jn_eq, Option.bind_some, Nat.reduceAdd, Nat.reduceMul, Nat.reduceSub, Nat.reduceLT, Nat.reduceLeDiff, Nat.reduceEqDiff, ↓reduceIte, decide_true, decide_false, and_true, true_and, and_false, false_and, or_false, false_or, or_true, true_or, not_true_eq_false, not_false_eq_true, eq_self, Nat.zero_add, Nat.add_zero, Nat.mul_zero, Nat.mul_one, Nat.zero_le, Nat.not_lt_zero, bind_sm, bind_sm2, Nat.le_refl]) (fun i s hi hI => ⟨up s 6 i (w 7 i), fun s' j => by
        rw [up_ap, hI]
        by_cases z1 : s' = 6
        · by_cases z2 : j = i
          · rw [if_pos ⟨z1, z2⟩, if_pos (by omega), z2]
          · rw [if_neg (by omega)]
            by_cases z3 : j < i
            · rw [if_pos ⟨z1, z3⟩, if_pos (by omega)]
            · rw [if_neg (by omega), if_neg (by omega)]
        · rw [if_neg (by omega), if_neg (by omega), if_neg (by omega)], fun K t => by
      refine Eq.trans (f_X8_evening_L274.eq_2 _ _ _ _) ?_
      have := hI 7 i
      rw [if_neg (by omega)] at this
      simp (disch := omega) only [n32_lit, n32_add, n32_mul, n32_lt, n32_le, n32_eq, n32_nat, n32_inb, gd_dec, gd_one, nm_eq, jn_eq, Option.bind_some, Nat.reduceAdd, Nat.reduceMul, Nat.reduceSub, Nat.reduceLT, Nat.reduceLeDiff, Nat.reduceEqDiff, ↓reduceIte, decide_true, decide_false, and_true, true_and, and_false, false_and, or_false, false_or, or_true, true_or, not_true_eq_false, not_false_eq_true, eq_self, Nat.zero_add, Nat.add_zero, Nat.mul_zero, Nat.mul_one, Nat.zero_le, Nat.not_lt_zero, bind_sm, bind_sm2, show ¬ 109 ≤ i by omega, hi, this]⟩) 109 0 w 100000 (by omega) (by omega) (fun s j => by rw [if_neg (by omega)])
  exact ⟨s, i2, i1⟩
def KGe (a55 : Mem) : Option (Int32 × Mem) :=
  (if (a55 0 19) ≤ 0 then (nm (α := Mem) (up a55 0 7 1) (fun w57 => (nm (α := Mem) (up w57 0 10 0) (fun w58 => ((f_X8_layFar w58).bind (fun r59 => (f_X8_evening_L274 (fun (u63 : Int32) (w64 : Mem) => (gd (inb 4 109) (some (w64 6 (4 : Int32).toNatClampNeg, w64))))  100000 0 r59))))))) else (nm (α := Mem) (up a55 0 13 (a55 0 19)) (fun w65 => (some ((-1000100) - (w65 0 20), w65)))))
theorem ph1_fun : PH KGe 1 100000 = fun w => f_X8_evening_L125 (PH2 KGe 100000) 100000 w := by
  funext w
  unfold PH
  rw [if_pos rfl]
  unfold PH1
  exact Eq.refl _
theorem ev_eq (m0 : Mem) : f_X8_evening m0 = (f_X8_begin (up m0 0 0 0)).bind (fun r12 => (f_X8_evening_L11 (fun (u18 : Int32) (w19 : Mem) => (f_X8_evening_L50 (fun (u23 : Int32) (w24 : Mem) => lawP w24 (PH KGe 1 100000))  100000 0 w19))  100000 0 r12)) := by
  rw [ph1_fun]
  unfold f_X8_evening
  rw [nmE (up m0 0 0 0)]
  unfold lawP PH2 PH3 PH4 PH5 KF KGe
  exact Eq.refl _
