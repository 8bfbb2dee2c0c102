/-! figures and names -/
def n64 (a : Nat) : Int64 := Int64.ofNat a
theorem n64_bv (a : Nat) : (n64 a).toBitVec = BitVec.ofNat 64 a := rfl
theorem n64_n32 {b : Nat} (h : b < 2147483648) : (n32 b).toInt64 = n64 b := by
  apply Int64.toInt_inj.mp
  rw [n64_int h]
  unfold n64
  rw [Int64.toInt_ofNat_of_lt (by omega)]
theorem n64_shl8 {a b : Nat} (hb : b < 256) : (n64 a <<< ((8 : Int32).toInt64 &&& 63)) ||| n64 b = n64 (256 * a + b) := by
  have e8 : ((8 : Int32).toInt64 &&& 63) = (8 : Int64) := by decide
  rw [e8]
  apply Int64.toBitVec_inj.mp
  rw [Int64.toBitVec_or, Int64.toBitVec_shiftLeft, n64_bv, n64_bv, n64_bv]
  have e : ((8 : Int64).toBitVec.smod 64) = 8#64 := by decide
  rw [e, BitVec.shiftLeft_eq', show (8#64).toNat = 8 from rfl]
  have : BitVec.ofNat 64 a <<< 8 = BitVec.ofNat 64 (a <<< 8) := by
    apply BitVec.eq_of_toNat_eq
    rw [BitVec.toNat_shiftLeft, BitVec.toNat_ofNat, BitVec.toNat_ofNat, Nat.shiftLeft_eq, Nat.shiftLeft_eq, Nat.mod_mul_mod]
  rw [this, ← BitVec.ofNat_or, ← Nat.shiftLeft_add_eq_or_of_lt (show b < 2 ^ 8 from hb), Nat.shiftLeft_eq]
  congr 1; omega
theorem n64_eq {a b : Nat} (ha : a < 9223372036854775808) (hb : b < 9223372036854775808) : (n64 a = n64 b) = (a = b) := by
  unfold n64
  rw [← Int64.toInt_inj, Int64.toInt_ofNat_of_lt ha, Int64.toInt_ofNat_of_lt hb]
  exact propext (by omega)
def nmv (f : Nat → Nat) : Nat → Nat
  | 0 => 0
  | k + 1 => 256 * nmv f k + f k
theorem nmv_lt {f : Nat → Nat} : ∀ k, (∀ j, j < k → f j < 256) → nmv f k < 256 ^ k
  | 0, _ => by unfold nmv; omega
  | k + 1, h => by
    have h1 := nmv_lt k (fun j hj => h j (by omega))
    have h2 := h k (by omega)
    unfold nmv
    rw [Nat.pow_succ]; omega
theorem nmv_ge {f : Nat → Nat} (h0 : 1 ≤ f 0) : ∀ k, 256 ^ k ≤ nmv f (k + 1)
  | 0 => by unfold nmv; unfold nmv; omega
  | k + 1 => by
    have h1 := nmv_ge h0 k
    rw [nmv, Nat.pow_succ]; omega
theorem nmv_inj {f g : Nat → Nat} : ∀ k, (∀ j, j < k → f j < 256 ∧ g j < 256) → nmv f k = nmv g k → ∀ j, j < k → f j = g j
  | 0, _, _ => fun j hj => by omega
  | k + 1, h, e => by
    have h2 := h k (by omega)
    unfold nmv at e
    have e1 : nmv f k = nmv g k := by omega
    have := nmv_inj k (fun j hj => h j (by omega)) e1
    intro j hj
    by_cases z : j = k
    · subst z; omega
    · exact this j (by omega)
theorem nmv_congr {f g : Nat → Nat} : ∀ k, (∀ j, j < k → f j = g j) → nmv f k = nmv g k
  | 0, _ => rfl
  | k + 1, h => by
    unfold nmv
    rw [nmv_congr k (fun j hj => h j (by omega)), h k (by omega)]
def wB : List (List Nat) := [[108, 97, 119], [119, 97, 121], [104, 105, 108, 108], [112, 101, 114, 115, 111, 110], [99, 97, 114], [113, 117, 97, 114, 114, 101, 108], [112, 108, 97, 105, 110], [115, 105, 99, 107], [99, 104, 105, 108, 100], [100, 114, 105, 118, 101, 114], [115, 116, 114, 97, 110, 103, 101, 114]]
def wb (i j : Nat) : Nat := (wB.getD i []).getD j 0
def wlQ (i : Nat) : Nat := (wB.getD i []).length
def wc (i : Nat) : Nat := nmv (wb i) (wlQ i)
theorem wb_stc : ∀ i, i < 11 → ∀ j, j < wlQ i → stc i j = n32 (wb i j) := by decide +kernel
theorem wl_stl : ∀ i, i < 11 → stl i = n32 (wlQ i) ∧ swL.getD i 0 = wlQ i ∧ 3 ≤ wlQ i ∧ wlQ i ≤ 8 := by decide +kernel
theorem wb_lt : ∀ i, i < 11 → ∀ j, j < wlQ i → 97 ≤ wb i j ∧ wb i j < 123 := by decide +kernel
/-- the word of a token -/
def wdQ (n : Nat) (tp : Nat → Nat) (e i : Nat) : Prop := tkK n tp e = 1 ∧ tkE n tp e - tkS n tp e = wlQ i ∧ ∀ j, j < wlQ i → tp (tkS n tp e + j) = wb i j
def wv (n : Nat) (tp : Nat → Nat) (e : Nat) : Nat := if tkK n tp e = 1 ∧ tkE n tp e - tkS n tp e < 9 then nmv (fun j => tp (tkS n tp e + j)) (tkE n tp e - tkS n tp e) else 0
theorem wv_lt {n : Nat} {tp : Nat → Nat} {e : Nat} (he : e ≤ n) : wv n tp e < 9223372036854775808 := by
  obtain ⟨l1, l2, l3, l4, l5, l6, l7⟩ := tk_le (tp := tp) he
  unfold wv
  by_cases z : tkK n tp e = 1 ∧ tkE n tp e - tkS n tp e < 9
  · rw [if_pos z]
    have hl := l6 z.1
    have hs := l4 (by omega)
    have hb : ∀ j, j < tkE n tp e - tkS n tp e → tp (tkS n tp e + j) < 128 := fun j hj => by
      have := of_decide_eq_true (show decide (97 ≤ tp (tkS n tp e + j) ∧ tp (tkS n tp e + j) ≤ 122) = true from hl _ (by omega) (by omega))
      omega
    -- the first byte is below 128
    obtain ⟨k, hk⟩ : ∃ k, tkE n tp e - tkS n tp e = k + 1 := ⟨tkE n tp e - tkS n tp e - 1, by omega⟩
    rw [hk]
    rw [hk] at hb z
    have sh : ∀ k, (∀ j, j < k + 1 → tp (tkS n tp e + j) < 128) → nmv (fun j => tp (tkS n tp e + j)) (k + 1) < 128 * 256 ^ k := by
      intro k
      induction k with
      | zero => intro h; have := h 0 (by omega); unfold nmv; unfold nmv; show 256 * 0 + tp (tkS n tp e + 0) < _; omega
      | succ k ih =>
        intro h
        have a := ih (fun j hj => h j (by omega))
        have b := h (k + 1) (by omega)
        rw [nmv, Nat.pow_succ]
        show 256 * _ + tp (tkS n tp e + (k + 1)) < _
        omega
    have a := sh k hb
    have b : 128 * 256 ^ k ≤ 128 * 256 ^ 7 := Nat.mul_le_mul_left _ (Nat.pow_le_pow_right (by omega) (by omega))
    omega
  · rw [if_neg z]; omega
theorem wd_wv {n : Nat} {tp : Nat → Nat} {e : Nat} (he : e ≤ n) {i : Nat} (hi : i < 11) : (wv n tp e = wc i) ↔ wdQ n tp e i := by
  obtain ⟨l1, l2, l3, l4, l5, l6, l7⟩ := tk_le (tp := tp) he
  obtain ⟨-, -, w3, w8⟩ := wl_stl i hi
  have wbl := wb_lt i hi
  have c1 : 256 ^ (wlQ i - 1) ≤ wc i := by
    have := nmv_ge (f := wb i) (by have := wbl 0 (by omega); omega) (wlQ i - 1)
    rw [show wlQ i - 1 + 1 = wlQ i by omega] at this; exact this
  have c2 : wc i < 256 ^ wlQ i := nmv_lt _ (fun j hj => by have := wbl j hj; omega)
  have c0 : 0 < 256 ^ (wlQ i - 1) := Nat.pow_pos (by omega)
  constructor
  · intro h
    unfold wv at h
    by_cases z : tkK n tp e = 1 ∧ tkE n tp e - tkS n tp e < 9
    · rw [if_pos z] at h
      have hl := l6 z.1
      have hs := l4 (by omega)
      have hb : ∀ j, j < tkE n tp e - tkS n tp e → 97 ≤ tp (tkS n tp e + j) ∧ tp (tkS n tp e + j) ≤ 122 := fun j hj => of_decide_eq_true (show decide (97 ≤ tp (tkS n tp e + j) ∧ tp (tkS n tp e + j) ≤ 122) = true from hl _ (by omega) (by omega))
      have d1 : 256 ^ (tkE n tp e - tkS n tp e - 1) ≤ nmv (fun j => tp (tkS n tp e + j)) (tkE n tp e - tkS n tp e) := by
        have := nmv_ge (f := fun j => tp (tkS n tp e + j)) (by show 1 ≤ tp (tkS n tp e + 0); have := hb 0 (by omega); omega) (tkE n tp e - tkS n tp e - 1)
        rw [show tkE n tp e - tkS n tp e - 1 + 1 = tkE n tp e - tkS n tp e by omega] at this; exact this
      have d2 : nmv (fun j => tp (tkS n tp e + j)) (tkE n tp e - tkS n tp e) < 256 ^ (tkE n tp e - tkS n tp e) := nmv_lt _ (fun j hj => by have := hb j hj; show tp _ < 256; omega)
      have el : tkE n tp e - tkS n tp e = wlQ i := by
        rcases Nat.lt_trichotomy (tkE n tp e - tkS n tp e) (wlQ i) with q | q | q
        · have : 256 ^ (tkE n tp e - tkS n tp e) ≤ 256 ^ (wlQ i - 1) := Nat.pow_le_pow_right (by omega) (by omega)
          omega
        · exact q
        · have : 256 ^ wlQ i ≤ 256 ^ (tkE n tp e - tkS n tp e - 1) := Nat.pow_le_pow_right (by omega) (by omega)
          omega
      refine ⟨z.1, el, ?_⟩
      rw [el] at h hb
      exact nmv_inj (f := fun j => tp (tkS n tp e + j)) (wlQ i) (fun j hj => ⟨by have := hb j hj; show tp _ < 256; omega, by have := wbl j hj; omega⟩) h
    · rw [if_neg z] at h; omega
  · intro ⟨h1, h2, h3⟩
    unfold wv
    rw [if_pos ⟨h1, by omega⟩, h2]
    exact nmv_congr _ h3
theorem wd_one {n : Nat} {tp : Nat → Nat} {e i i' : Nat} (hi : i < 11) (hi' : i' < 11) (h : wdQ n tp e i) (h' : wdQ n tp e i') : i = i' := by
  have key : ∀ i, i < 11 → ∀ i', i' < 11 → wlQ i = wlQ i' → (∀ j, j < wlQ i → wb i j = wb i' j) → i = i' := by decide +kernel
  refine key i hi i' hi' (h.2.1.symm.trans h'.2.1) (fun j hj => ?_)
  rw [← h.2.2 j hj, h'.2.2 j (by rw [← h'.2.1, h.2.1]; exact hj)]
section TK
variable {n : Nat} {tp : Nat → Nat} {m w : Mem}
theorem t_figures (h : TP8 n tp w) {e : Nat} (he : e ≤ n) (ht : Tok8 n tp e w) : f_X8_figures w = some (n32 (if tkK n tp e = 2 then figv tp (tkS n tp e) (tkE n tp e - tkS n tp e) else 0)) := by
  obtain ⟨l1, l2, l3, l4, l5, l6, l7⟩ := tk_le (tp := tp) he
  obtain ⟨t1, t2, t3, t4⟩ := ht
  have h500 := h.1
  unfold f_X8_figures
  rw [nm_eq, t2]
  by_cases z : tkK n tp e = 2
  · rw [if_pos z]
    obtain ⟨l8, l9⟩ := l7 z
    have k3 : w 0 16 = n32 3 := by rw [t1, z]; rfl
    obtain ⟨s, i1, i2⟩ := loop_k (S := Int32) (fun K t u s => f_X8_figures_L7 (fun a b => K b a) w t s u) (tkE n tp e) (fun i s => tkS n tp e ≤ i ∧ s = n32 (figv tp (tkS n tp e) (i - tkS n tp e))) (fun K t s _ => by
      refine Eq.trans (f_X8_figures_L7.eq_2 _ _ _ _ _) ?_
      simp (disch := omega) only [n32_lit, n32_add, n32_mul, n32_lt, n32_le, n32_eq, n32_nat, n32_inb, gd_dec, gd_one, nm_eq, jn_eq, Option.bind_some, Nat.reduceAdd, Nat.reduceMul, Nat.reduceSub, Nat.reduceLT, Nat.reduceLeDiff, Nat.reduceEqDiff, ↓reduceIte, decide_true, decide_false, and_true, true_and, and_false, false_and, or_false, false_or, or_true, true_or, not_true_eq_false, not_false_eq_true, eq_self, Nat.zero_add, Nat.add_zero, Nat.mul_zero, Nat.mul_one, Nat.zero_le, Nat.not_lt_zero, bind_sm, bind_sm2, t4, Nat.le_refl]) (fun i s hi hI => ⟨n32 (figv tp (tkS n tp e) (i + 1 - tkS n tp e)), ⟨by omega, rfl⟩, fun K t => by
      refine Eq.trans (f_X8_figures_L7.eq_2 _ _ _ _ _) ?_
      obtain ⟨i1, rfl⟩ := hI
      obtain ⟨a1, a2⟩ := h.2.2 i (by omega)
      have f48 := of_decide_eq_true (show decide (48 ≤ tp i ∧ tp i ≤ 57) = true from l9 i i1 hi)
      have fl := figv3_lt (tp := tp) (st := tkS n tp e) (k := i - tkS n tp e) (by omega) (fun j hj => l9 _ (by omega) (by omega))
      have e7 : n32 (10 * figv tp (tkS n tp e) (i - tkS n tp e) + tp i) - n32 48 = n32 (figv tp (tkS n tp e) (i + 1 - tkS n tp e)) := by
        rw [n32_sub (by omega), show i + 1 - tkS n tp e = (i - tkS n tp e) + 1 by omega, figv, show tkS n tp e + (i - tkS n tp e) = i by omega]
        congr 1; omega
      simp (disch := omega) only [n32_lit, n32_add, n32_mul, n32_lt, n32_le, n32_eq, n32_nat, n32_inb, gd_dec, gd_one, nm_eq, jn_eq, Option.bind_some, Nat.reduceAdd, Nat.reduceMul, Nat.reduceSub, Nat.reduceLT, Nat.reduceLeDiff, Nat.reduceEqDiff, ↓reduceIte, decide_true, decide_false, and_true, true_and, and_false, false_and, or_false, false_or, or_true, true_or, not_true_eq_false, not_false_eq_true, eq_self, Nat.zero_add, Nat.add_zero, Nat.mul_zero, Nat.mul_one, Nat.zero_le, Nat.not_lt_zero, bind_sm, bind_sm2, t4, k3, show ¬ tkE n tp e ≤ i by omega, show i < 500 by omega, a2, e7]⟩) (tkE n tp e - tkS n tp e) (tkS n tp e) (n32 0) 100000 (by omega) (by omega) ⟨Nat.le_refl _, by rw [Nat.sub_self]; rfl⟩
    rw [i1.2] at i2
    exact i2 (fun b a => some a)
  · rw [if_neg z]
    refine Eq.trans (f_X8_figures_L7.eq_2 _ _ _ _ 99999) ?_
    rw [t4, t1]
    have k3 : (n32 (k8 (tkK n tp e)) = n32 3) = False := by
      rw [n32_eq (by unfold k8; split <;> omega) (by omega)]
      unfold k8
      exact eq_false (by split <;> omega)
    by_cases q : tkE n tp e ≤ tkS n tp e
    · simp (disch := omega) only [n32_lit, n32_add, n32_mul, n32_lt, n32_le, n32_eq, n32_nat, n32_inb, gd_dec, gd_one, nm_eq, jn_eq, Option.bind_some, Nat.reduceAdd, Nat.reduceMul, Nat.reduceSub, Nat.reduceLT, Nat.reduceLeDiff, Nat.reduceEqDiff, ↓reduceIte, decide_true, decide_false, and_true, true_and, and_false, false_and, or_false, false_or, or_true, true_or, not_true_eq_false, not_false_eq_true, eq_self, Nat.zero_add, Nat.add_zero, Nat.mul_zero, Nat.mul_one, Nat.zero_le, Nat.not_lt_zero, bind_sm, bind_sm2, q]
    · simp (disch := omega) only [n32_lit, n32_add, n32_mul, n32_lt, n32_le, n32_eq, n32_nat, n32_inb, gd_dec, gd_one, nm_eq, jn_eq, Option.bind_some, Nat.reduceAdd, Nat.reduceMul, Nat.reduceSub, Nat.reduceLT, Nat.reduceLeDiff, Nat.reduceEqDiff, ↓reduceIte, decide_true, decide_false, and_true, true_and, and_false, false_and, or_false, false_or, or_true, true_or, not_true_eq_false, not_false_eq_true, eq_self, Nat.zero_add, Nat.add_zero, Nat.mul_zero, Nat.mul_one, Nat.zero_le, Nat.not_lt_zero, bind_sm, bind_sm2, q, k3]
theorem t_name (h : TP8 n tp w) {e : Nat} (he : e ≤ n) (ht : Tok8 n tp e w) (hf : w 0 19 = n32 0) : f_X8_name w = some (n64 (wv n tp e)) := by
  obtain ⟨l1, l2, l3, l4, l5, l6, l7⟩ := tk_le (tp := tp) he
  obtain ⟨t1, t2, t3, t4⟩ := ht
  have h500 := h.1
  unfold f_X8_name wv
  rw [nm_eq, t2, hf]
  have es : n32 (tkE n tp e) - n32 (tkS n tp e) = n32 (tkE n tp e - tkS n tp e) := n32_sub l2
  have k32 : (n32 (k8 (tkK n tp e)) = n32 2) = (tkK n tp e = 1) := by
    rw [n32_eq (by unfold k8; split <;> omega) (by omega)]
    unfold k8
    exact propext (by split <;> omega)
  by_cases z : tkK n tp e = 1 ∧ tkE n tp e - tkS n tp e < 9
  · rw [if_pos z]
    have hl := l6 z.1
    obtain ⟨s, i1, i2⟩ := loop_k (S := Int64) (fun K t u s => f_X8_name_L7 (fun a b => K b a) w t s u) (tkE n tp e) (fun i s => tkS n tp e ≤ i ∧ s = n64 (nmv (fun j => tp (tkS n tp e + j)) (i - tkS n tp e))) (fun K t s _ => by
      refine Eq.trans (f_X8_name_L7.eq_2 _ _ _ _ _) ?_
      simp (disch := omega) only [n32_lit, n32_add, n32_mul, n32_lt, n32_le, n32_eq, n32_nat, n32_inb, gd_dec, gd_one, nm_eq, jn_eq, Option.bind_some, Nat.reduceAdd, Nat.reduceMul, Nat.reduceSub, Nat.reduceLT, Nat.reduceLeDiff, Nat.reduceEqDiff, ↓reduceIte, decide_true, decide_false, and_true, true_and, and_false, false_and, or_false, false_or, or_true, true_or, not_true_eq_false, not_false_eq_true, eq_self, Nat.zero_add, Nat.add_zero, Nat.mul_zero, Nat.mul_one, Nat.zero_le, Nat.not_lt_zero, bind_sm, bind_sm2, t4, Nat.le_refl]) (fun i s hi hI => ⟨n64 (nmv (fun j => tp (tkS n tp e + j)) (i + 1 - tkS n tp e)), ⟨by omega, rfl⟩, fun K t => by
      refine Eq.trans (f_X8_name_L7.eq_2 _ _ _ _ _) ?_
      obtain ⟨i1, rfl⟩ := hI
      obtain ⟨a1, a2⟩ := h.2.2 i (by omega)
      have e7 := n64_shl8 (a := nmv (fun j => tp (tkS n tp e + j)) (i - tkS n tp e)) (b := tp i) a1
      rw [show i + 1 - tkS n tp e = (i - tkS n tp e) + 1 by omega, nmv, show tp (tkS n tp e + (i - tkS n tp e)) = tp i by rw [show tkS n tp e + (i - tkS n tp e) = i by omega], ← e7]
      simp (disch := omega) only [n32_lit, n32_add, n32_mul, n32_lt, n32_le, n32_eq, n32_nat, n32_inb, gd_dec, gd_one, nm_eq, jn_eq, Option.bind_some, Nat.reduceAdd, Nat.reduceMul, Nat.reduceSub, Nat.reduceLT, Nat.reduceLeDiff, Nat.reduceEqDiff, ↓reduceIte, decide_true, decide_false, and_true, true_and, and_false, false_and, or_false, false_or, or_true, true_or, not_true_eq_false, not_false_eq_true, eq_self, Nat.zero_add, Nat.add_zero, Nat.mul_zero, Nat.mul_one, Nat.zero_le, Nat.not_lt_zero, bind_sm, bind_sm2, t4, show w 0 16 = n32 2 by rw [t1, z.1]; rfl, t2, es, show ¬ 9 ≤ tkE n tp e - tkS n tp e by omega, show ¬ tkE n tp e ≤ i by omega, show i < 500 by omega, a2, n64_n32]⟩) (tkE n tp e - tkS n tp e) (tkS n tp e) (n64 0) 100000 (by omega) (by omega) ⟨Nat.le_refl _, by rw [Nat.sub_self]; rfl⟩
    rw [i1.2] at i2
    exact i2 (fun b a => if n32 0 = 0 then some a else some 0)
  · rw [if_neg z]
    refine Eq.trans (f_X8_name_L7.eq_2 _ _ _ _ 99999) ?_
    rw [t4, t1, t2]
    by_cases q : tkE n tp e ≤ tkS n tp e
    · simp (disch := omega) only [n32_lit, n32_add, n32_mul, n32_lt, n32_le, n32_eq, n32_nat, n32_inb, gd_dec, gd_one, nm_eq, jn_eq, Option.bind_some, Nat.reduceAdd, Nat.reduceMul, Nat.reduceSub, Nat.reduceLT, Nat.reduceLeDiff, Nat.reduceEqDiff, ↓reduceIte, decide_true, decide_false, and_true, true_and, and_false, false_and, or_false, false_or, or_true, true_or, not_true_eq_false, not_false_eq_true, eq_self, Nat.zero_add, Nat.add_zero, Nat.mul_zero, Nat.mul_one, Nat.zero_le, Nat.not_lt_zero, bind_sm, bind_sm2, q]
      rfl
    · by_cases q2 : tkK n tp e = 1
      · simp (disch := omega) only [n32_lit, n32_add, n32_mul, n32_lt, n32_le, n32_eq, n32_nat, n32_inb, gd_dec, gd_one, nm_eq, jn_eq, Option.bind_some, Nat.reduceAdd, Nat.reduceMul, Nat.reduceSub, Nat.reduceLT, Nat.reduceLeDiff, Nat.reduceEqDiff, ↓reduceIte, decide_true, decide_false, and_true, true_and, and_false, false_and, or_false, false_or, or_true, true_or, not_true_eq_false, not_false_eq_true, eq_self, Nat.zero_add, Nat.add_zero, Nat.mul_zero, Nat.mul_one, Nat.zero_le, Nat.not_lt_zero, bind_sm, bind_sm2, q, k32, q2, es, show 9 ≤ tkE n tp e - tkS n tp e by omega]
        rfl
      · simp (disch := omega) only [n32_lit, n32_add, n32_mul, n32_lt, n32_le, n32_eq, n32_nat, n32_inb, gd_dec, gd_one, nm_eq, jn_eq, Option.bind_some, Nat.reduceAdd, Nat.reduceMul, Nat.reduceSub, Nat.reduceLT, Nat.reduceLeDiff, Nat.reduceEqDiff, ↓reduceIte, decide_true, decide_false, and_true, true_and, and_false, false_and, or_false, false_or, or_true, true_or, not_true_eq_false, not_false_eq_true, eq_self, Nat.zero_add, Nat.add_zero, Nat.mul_zero, Nat.mul_one, Nat.zero_le, Nat.not_lt_zero, bind_sm, bind_sm2, q, k32, q2]
        rfl
theorem t_nameF (h : TP8 n tp w) {e : Nat} (he : e ≤ n) (ht : Tok8 n tp e w) {k : Nat} (hk : 1 ≤ k ∧ k ≤ 3) (hf : w 0 19 = n32 k) : f_X8_name w = some (n64 0) := by
  have h' : TP8 n tp (up w 0 19 (n32 0)) := h.up 19 _ (by omega)
  have ht' : Tok8 n tp e (up w 0 19 (n32 0)) := by
    obtain ⟨t1, t2, t3, t4⟩ := ht
    refine ⟨?_, ?_, ?_, ?_⟩
    · simp (disch := omega) only [up_at, up_ms, up_mi, upA_at, upA_ms]; exact t1
    · simp (disch := omega) only [up_at, up_ms, up_mi, upA_at, upA_ms]; exact t2
    · simp (disch := omega) only [up_at, up_ms, up_mi, upA_at, upA_ms]; exact t3
    · simp (disch := omega) only [up_at, up_ms, up_mi, upA_at, upA_ms]; exact t4
  obtain ⟨l1, l2, l3, l4, l5, l6, l7⟩ := tk_le (tp := tp) he
  obtain ⟨t1, t2, t3, t4⟩ := ht
  have h500 := h.1
  have fin : ∀ (v : Int64) (u : Int32), (if (w 0 19) = 0 then (some v) else (some 0)) = some (n64 0) := by
    intro v u
    rw [hf, if_neg (by rw [n32_lit 0, n32_eq (by omega) (by omega)]; omega)]
    rfl
  unfold f_X8_name
  rw [nm_eq, t2]
  have key : ok (fun r => r = n64 0) (f_X8_name_L7 (fun (u15 : Int64) (u16 : Int32) => (if (w 0 19) = 0 then (some u15) else (some 0))) w 100000 0 (n32 (tkS n tp e))) := by
    refine loop_up (S := Int64) (fun t u s => f_X8_name_L7 (fun (u15 : Int64) (u16 : Int32) => (if (w 0 19) = 0 then (some u15) else (some 0))) w t s u) (tkE n tp e) (fun _ _ => True) _ ?_ ?_ (tkE n tp e - tkS n tp e) (tkS n tp e) 0 100000 (by omega) (by omega) trivial
    · intro t s _
      refine ok_eq (f_X8_name_L7.eq_2 _ _ _ _ _) ?_
      rw [t4, if_pos (by rw [n32_le (by omega) (by omega)]; exact Nat.le_refl _), fin s 0]
      exact ok_some rfl
    · intro i t s hi _
      by_cases q2 : w 0 16 = 2
      · by_cases q3 : (9 : Int32) ≤ w 0 18 - w 0 17
        · right
          refine ok_eq (f_X8_name_L7.eq_2 _ _ _ _ _) ?_
          rw [if_pos q2, if_pos q3, fin s 0, t4, if_neg (by rw [n32_le (by omega) (by omega)]; omega)]
          exact ok_some rfl
        · left
          refine ⟨(s <<< ((8 : Int32).toInt64 &&& 63)) ||| ((w 12 (n32 i).toNatClampNeg).toInt64), trivial, ?_⟩
          refine Eq.trans (f_X8_name_L7.eq_2 _ _ _ _ _) ?_
          rw [if_pos q2, if_neg q3, t4, if_neg (by rw [n32_le (by omega) (by omega)]; omega), n32_inb (by omega), gd_dec (by omega), nm_eq, n32_lit 1, n32_add]
      · right
        refine ok_eq (f_X8_name_L7.eq_2 _ _ _ _ _) ?_
        rw [if_neg q2, fin s 0, t4, if_neg (by rw [n32_le (by omega) (by omega)]; omega)]
        exact ok_some rfl
  obtain ⟨r, e1, e2⟩ := key
  rw [e1, e2]
theorem t_isWord (h : TP7 n tp m) {e : Nat} (he : e ≤ n) (ht : Tok7 n tp e m) {i : Nat} (hi : i < 11) : (wdQ n tp e i ∧ f_X5_isWord m i = some (n32 1)) ∨ (¬ wdQ n tp e i ∧ f_X5_isWord m i = some (n32 0)) := by
  obtain ⟨l1, l2, l3, l4, l5, l6, l7⟩ := tk_le (tp := tp) he
  obtain ⟨t1, t2, t3, t4⟩ := ht
  obtain ⟨w1, w2, w3, w8⟩ := wl_stl i hi
  have h500 := h.1.1
  have es : n32 (tkE n tp e) - n32 (tkS n tp e) = n32 (tkE n tp e - tkS n tp e) := n32_sub l2
  unfold f_X5_isWord
  rw [t1, t2, t3, w1]
  by_cases z1 : tkK n tp e = 1
  · by_cases z2 : tkE n tp e - tkS n tp e = wlQ i
    · simp (disch := omega) only [n32_lit, n32_add, n32_mul, n32_lt, n32_le, n32_eq, n32_nat, n32_inb, gd_dec, gd_one, nm_eq, jn_eq, Option.bind_some, Nat.reduceAdd, Nat.reduceMul, Nat.reduceSub, Nat.reduceLT, Nat.reduceLeDiff, Nat.reduceEqDiff, ↓reduceIte, decide_true, decide_false, and_true, true_and, and_false, false_and, or_false, false_or, or_true, true_or, not_true_eq_false, not_false_eq_true, eq_self, Nat.zero_add, Nat.add_zero, Nat.mul_zero, Nat.mul_one, Nat.zero_le, Nat.not_lt_zero, bind_sm, bind_sm2, z1, es, z2]
      have hl := l6 z1
      have key : ok (fun r => (wdQ n tp e i ∧ r = n32 1) ∨ (¬ wdQ n tp e i ∧ r = n32 0)) (f_X5_isWord_L28 (fun (u12 : Int32) => (some (n32 1))) i m 100000 (n32 0)) := by
        refine loop_up (S := Unit) (fun t u _ => f_X5_isWord_L28 (fun (u12 : Int32) => (some (n32 1))) i m t u) (wlQ i) (fun k _ => ∀ j, j < k → tp (tkS n tp e + j) = wb i j) _ ?_ ?_ (wlQ i) 0 () 100000 (by omega) (by omega) (fun j hj => by omega)
        · intro t s hI
          refine ok_eq (f_X5_isWord_L28.eq_2 _ _ _ _ _) ?_
          rw [w1]
          simp (disch := omega) only [n32_lit, n32_add, n32_mul, n32_lt, n32_le, n32_eq, n32_nat, n32_inb, gd_dec, gd_one, nm_eq, jn_eq, Option.bind_some, Nat.reduceAdd, Nat.reduceMul, Nat.reduceSub, Nat.reduceLT, Nat.reduceLeDiff, Nat.reduceEqDiff, ↓reduceIte, decide_true, decide_false, and_true, true_and, and_false, false_and, or_false, false_or, or_true, true_or, not_true_eq_false, not_false_eq_true, eq_self, Nat.zero_add, Nat.add_zero, Nat.mul_zero, Nat.mul_one, Nat.zero_le, Nat.not_lt_zero, bind_sm, bind_sm2, Nat.le_refl]
          exact ok_some (Or.inl ⟨⟨z1, z2, hI⟩, rfl⟩)
        · intro k t s hk hI
          obtain ⟨a1, a2⟩ := h.2.2 (tkS n tp e + k) (by omega)
          have lt := of_decide_eq_true (show decide (97 ≤ tp (tkS n tp e + k) ∧ tp (tkS n tp e + k) ≤ 122) = true from hl _ (by omega) (by omega))
          have lo := b_low7 (b := tp (tkS n tp e + k)) (by omega)
          have wbk := wb_stc i hi k hk
          have wlk := wb_lt i hi k hk
          rw [lo] at a2
          by_cases q : tp (tkS n tp e + k) = wb i k
          · left
            refine ⟨(), fun j hj => ?_, ?_⟩
            · by_cases z : j = k
              · rw [z]; exact q
              · exact hI j (by omega)
            · refine Eq.trans (f_X5_isWord_L28.eq_2 _ _ _ _ _) ?_
              rw [w1, w2]
              simp (disch := omega) only [n32_lit, n32_add, n32_mul, n32_lt, n32_le, n32_eq, n32_nat, n32_inb, gd_dec, gd_one, nm_eq, jn_eq, Option.bind_some, Nat.reduceAdd, Nat.reduceMul, Nat.reduceSub, Nat.reduceLT, Nat.reduceLeDiff, Nat.reduceEqDiff, ↓reduceIte, decide_true, decide_false, and_true, true_and, and_false, false_and, or_false, false_or, or_true, true_or, not_true_eq_false, not_false_eq_true, eq_self, Nat.zero_add, Nat.add_zero, Nat.mul_zero, Nat.mul_one, Nat.zero_le, Nat.not_lt_zero, bind_sm, bind_sm2, show ¬ wlQ i ≤ k by omega, t2, show tkS n tp e + k < 500 by omega, hk, a2, wbk, q]
          · right
            refine ok_eq (f_X5_isWord_L28.eq_2 _ _ _ _ _) ?_
            rw [w1, w2]
            simp (disch := omega) only [n32_lit, n32_add, n32_mul, n32_lt, n32_le, n32_eq, n32_nat, n32_inb, gd_dec, gd_one, nm_eq, jn_eq, Option.bind_some, Nat.reduceAdd, Nat.reduceMul, Nat.reduceSub, Nat.reduceLT, Nat.reduceLeDiff, Nat.reduceEqDiff, ↓reduceIte, decide_true, decide_false, and_true, true_and, and_false, false_and, or_false, false_or, or_true, true_or, not_true_eq_false, not_false_eq_true, eq_self, Nat.zero_add, Nat.add_zero, Nat.mul_zero, Nat.mul_one, Nat.zero_le, Nat.not_lt_zero, bind_sm, bind_sm2, show ¬ wlQ i ≤ k by omega, t2, show tkS n tp e + k < 500 by omega, hk, a2, wbk, q]
            exact ok_some (Or.inr ⟨fun c => q (c.2.2 k hk), rfl⟩)
      obtain ⟨r, e1, e2⟩ := key
      rw [e1]
      rcases e2 with ⟨a, b⟩ | ⟨a, b⟩
      · exact Or.inl ⟨a, by rw [b]⟩
      · exact Or.inr ⟨a, by rw [b]⟩
    · right
      refine ⟨fun c => z2 c.2.1, ?_⟩
      simp (disch := omega) only [n32_lit, n32_add, n32_mul, n32_lt, n32_le, n32_eq, n32_nat, n32_inb, gd_dec, gd_one, nm_eq, jn_eq, Option.bind_some, Nat.reduceAdd, Nat.reduceMul, Nat.reduceSub, Nat.reduceLT, Nat.reduceLeDiff, Nat.reduceEqDiff, ↓reduceIte, decide_true, decide_false, and_true, true_and, and_false, false_and, or_false, false_or, or_true, true_or, not_true_eq_false, not_false_eq_true, eq_self, Nat.zero_add, Nat.add_zero, Nat.mul_zero, Nat.mul_one, Nat.zero_le, Nat.not_lt_zero, bind_sm, bind_sm2, z1, es, z2]
  · right
    refine ⟨fun c => z1 c.1, ?_⟩
    simp (disch := omega) only [n32_lit, n32_add, n32_mul, n32_lt, n32_le, n32_eq, n32_nat, n32_inb, gd_dec, gd_one, nm_eq, jn_eq, Option.bind_some, Nat.reduceAdd, Nat.reduceMul, Nat.reduceSub, Nat.reduceLT, Nat.reduceLeDiff, Nat.reduceEqDiff, ↓reduceIte, decide_true, decide_false, and_true, true_and, and_false, false_and, or_false, false_or, or_true, true_or, not_true_eq_false, not_false_eq_true, eq_self, Nat.zero_add, Nat.add_zero, Nat.mul_zero, Nat.mul_one, Nat.zero_le, Nat.not_lt_zero, bind_sm, bind_sm2, z1]
end TK
