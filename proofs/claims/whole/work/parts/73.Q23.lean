/-! statement after statement -/
def KF (KG : Mem → Option (Int32 × Mem)) (w53 : Mem) : Option (Int32 × Mem) :=
  (jn (α := Mem) (fun j56 => (if (w53 0 19) = 0 then (if (w53 0 16) = (1 : Int32) then (j56 w53) else ((f_X8_bad w53 (1 : Int32)).bind (fun r54 => (j56 r54)))) else (j56 w53))) KG)
def PH5 (KG : Mem → Option (Int32 × Mem)) (t : Nat) (w : Mem) : Option (Int32 × Mem) := f_X8_evening_L197 (KF KG) t w
def PH4 (KG : Mem → Option (Int32 × Mem)) (t : Nat) (w : Mem) : Option (Int32 × Mem) := f_X8_evening_L179 (PH5 KG 100000) t w
def PH3 (KG : Mem → Option (Int32 × Mem)) (t : Nat) (w : Mem) : Option (Int32 × Mem) := f_X8_evening_L161 (PH4 KG 100000) t w
def PH2 (KG : Mem → Option (Int32 × Mem)) (t : Nat) (w : Mem) : Option (Int32 × Mem) := f_X8_evening_L143 (PH3 KG 100000) t w
def PH1 (KG : Mem → Option (Int32 × Mem)) (t : Nat) (w : Mem) : Option (Int32 × Mem) := f_X8_evening_L125 (PH2 KG 100000) t w
def PH (KG : Mem → Option (Int32 × Mem)) (ph t : Nat) (w : Mem) : Option (Int32 × Mem) := if ph = 1 then PH1 KG t w else if ph = 2 then PH2 KG t w else if ph = 3 then PH3 KG t w else if ph = 4 then PH4 KG t w else PH5 KG t w
def rd8 (q : Nat) (w : Mem) : Option Mem := if q = 1 then f_X8_readWay w else if q = 2 then f_X8_readHill w else if q = 3 then f_X8_readPerson w else if q = 4 then f_X8_readCar w else f_X8_readQuarrel w
def rd7 (q : Nat) (m2 m : Mem) : Option (Int32 × Mem × Mem) := if q = 1 then f_X5_readWay m2 m else if q = 2 then f_X5_readHill m2 m else if q = 3 then f_X5_readPerson m2 m else if q = 4 then f_X5_readCar m2 m else f_X5_readQuarrel m2 m
section TK
variable {n e fk fp : Nat} {tp : Nat → Nat} {m w m2 : Mem} {v : Nat → Nat} {KG : Mem → Option (Int32 × Mem)}
theorem ph_step {ph t : Nat} (hp : 1 ≤ ph ∧ ph ≤ 5) {x : Nat} (hx : f_X8_name w = some (n64 x)) : PH KG ph (t + 1) w = if lg_cmp (n64 x) (n64 (wc ph)) = n32 0 then (rd8 ph w).bind (PH KG ph t) else if ph = 5 then KF KG w else PH KG (ph + 1) 100000 w := by
  rcases (show ph = 1 ∨ ph = 2 ∨ ph = 3 ∨ ph = 4 ∨ ph = 5 by omega) with rfl | rfl | rfl | rfl | rfl
  · show f_X8_evening_L125 (PH2 KG 100000) (t + 1) w = _
    rw [f_X8_evening_L125.eq_2, hx, k_way]
    rfl
  · show f_X8_evening_L143 (PH3 KG 100000) (t + 1) w = _
    rw [f_X8_evening_L143.eq_2, hx, k_hill]
    rfl
  · show f_X8_evening_L161 (PH4 KG 100000) (t + 1) w = _
    rw [f_X8_evening_L161.eq_2, hx, k_person]
    rfl
  · show f_X8_evening_L179 (PH5 KG 100000) (t + 1) w = _
    rw [f_X8_evening_L179.eq_2, hx, k_car]
    rfl
  · show f_X8_evening_L197 (KF KG) (t + 1) w = _
    rw [f_X8_evening_L197.eq_2, hx, k_quarrel]
    rfl
theorem ph_hit {ph t : Nat} (hp : 1 ≤ ph ∧ ph ≤ 5) (h : S8 n tp e w) (hw : wdQ n tp e ph) : PH KG ph (t + 1) w = (rd8 ph w).bind (PH KG ph t) := by
  rw [ph_step hp h.name, if_pos]
  rw [wcmp h.e_le (by omega)]; exact hw
theorem ph_skip {ph t : Nat} (hp : 1 ≤ ph ∧ ph ≤ 4) (h : S8 n tp e w) (hw : ¬ wdQ n tp e ph) : PH KG ph (t + 1) w = PH KG (ph + 1) 100000 w := by
  rw [ph_step ⟨hp.1, by omega⟩ h.name, if_neg, if_neg (by omega)]
  rw [wcmp h.e_le (by omega)]; exact hw
theorem ph_end {t : Nat} (h : S8 n tp e w) (hw : ¬ wdQ n tp e 5) : PH KG 5 (t + 1) w = KF KG w := by
  rw [ph_step (by omega) h.name, if_neg, if_pos rfl]
  rw [wcmp h.e_le (by omega)]; exact hw
theorem ph_jump {q : Nat} (hq : q ≤ 5) (h : S8 n tp e w) (hw : wdQ n tp e q) : ∀ d ph t, ph + d = q → 1 ≤ ph → PH KG ph (t + 1) w = PH KG q ((if d = 0 then t else 99999) + 1) w := by
  intro d
  induction d with
  | zero => intro ph t h1 h2; rw [if_pos rfl, show ph = q by omega]
  | succ d ih =>
    intro ph t h1 h2
    rw [ph_skip ⟨h2, by omega⟩ h (fun c => by have := wd_one (by omega) (by omega) c hw; omega), if_neg (by omega)]
    have := ih (ph + 1) 99999 (by omega) (by omega)
    rw [show (if d = 0 then 99999 else 99999) = 99999 by split <;> rfl] at this
    exact this
theorem ph_none (h : S8 n tp e w) : ∀ d ph t, ph + d = 5 → 1 ≤ ph → (∀ i, ph ≤ i → i ≤ 5 → ¬ wdQ n tp e i) → PH KG ph (t + 1) w = KF KG w := by
  intro d
  induction d with
  | zero => intro ph t h1 h2 h3; rw [show ph = 5 by omega]; exact ph_end h (h3 5 (by omega) (by omega))
  | succ d ih =>
    intro ph t h1 h2 h3
    rw [ph_skip ⟨h2, by omega⟩ h (h3 ph (by omega) (by omega))]
    exact ih (ph + 1) 99999 (by omega) (by omega) (fun i a b => h3 i (by omega) b)
theorem ph_F (h : F8 n tp fk fp w) : ∀ d ph t, ph + d = 5 → 1 ≤ ph → PH KG ph (t + 1) w = KG w := by
  intro d
  induction d with
  | zero =>
    intro ph t h1 h2
    rw [show ph = 5 by omega, ph_step (by omega) h.name, if_neg (by rw [wcmp0 (by omega)]; exact id), if_pos rfl]
    unfold KF
    simp (maxSteps := 400000) (disch := omega) only [n32_lit, n32_add, n32_mul, n32_lt, n32_le, n32_eq, n32_nat, n32_inb, gd_dec, gdE, ↓nmE, ↓jnE, ↓bsE, Nat.reduceAdd, Nat.reduceMul, Nat.reduceSub, Nat.reduceLT, Nat.reduceLeDiff, Nat.reduceEqDiff, ↓reduceIte, decide_true, decide_false, and_true, true_and, and_false, false_and, or_false, false_or, or_true, true_or, not_true_eq_false, not_false_eq_true, eq_self, Nat.zero_add, Nat.add_zero, Nat.mul_zero, Nat.mul_one, Nat.zero_le, Nat.not_lt_zero, bind_sm, bind_sm2, h.ne]
  | succ d ih =>
    intro ph t h1 h2
    rw [ph_step (by omega) h.name, if_neg (by rw [wcmp0 (by omega)]; exact id), if_neg (by omega)]
    exact ih (ph + 1) 99999 (by omega) (by omega)
theorem kf_end (h : S8 n tp e w) (hk : tkK n tp e = 0) : KF KG w = KG w := by
  unfold KF
  have t16 : w 0 16 = n32 1 := by rw [h.2.1.1, hk]; rfl
  simp (maxSteps := 400000) (disch := omega) only [n32_lit, n32_add, n32_mul, n32_lt, n32_le, n32_eq, n32_nat, n32_inb, gd_dec, gdE, ↓nmE, ↓jnE, ↓bsE, Nat.reduceAdd, Nat.reduceMul, Nat.reduceSub, Nat.reduceLT, Nat.reduceLeDiff, Nat.reduceEqDiff, ↓reduceIte, decide_true, decide_false, and_true, true_and, and_false, false_and, or_false, false_or, or_true, true_or, not_true_eq_false, not_false_eq_true, eq_self, Nat.zero_add, Nat.add_zero, Nat.mul_zero, Nat.mul_one, Nat.zero_le, Nat.not_lt_zero, bind_sm, bind_sm2, h.2.2.2, t16]
theorem kf_bad (h : S8 n tp e w) (hk : tkK n tp e ≠ 0) : ∃ w', KF KG w = KG w' ∧ Fr PR8 w w' ∧ F8 n tp 1 (tkS n tp e) w' := by
  obtain ⟨w', e1, e2, e3, -⟩ := r_bad h (k := 1) (by omega)
  obtain ⟨k1, k2⟩ := tk_k8 (tp := tp) h.e_le
  have k3 : (n32 (k8 (tkK n tp e)) = n32 1) = False := by rw [n32_eq k1 (by omega), k2 1 (by omega) (by omega)]; exact eq_false hk
  refine ⟨w', ?_, e2, e3⟩
  unfold KF
  simp (maxSteps := 400000) (disch := omega) only [n32_lit, n32_add, n32_mul, n32_lt, n32_le, n32_eq, n32_nat, n32_inb, gd_dec, gdE, ↓nmE, ↓jnE, ↓bsE, Nat.reduceAdd, Nat.reduceMul, Nat.reduceSub, Nat.reduceLT, Nat.reduceLeDiff, Nat.reduceEqDiff, ↓reduceIte, decide_true, decide_false, and_true, true_and, and_false, false_and, or_false, false_or, or_true, true_or, not_true_eq_false, not_false_eq_true, eq_self, Nat.zero_add, Nat.add_zero, Nat.mul_zero, Nat.mul_one, Nat.zero_le, Nat.not_lt_zero, bind_sm, bind_sm2, h.2.2.2, h.2.1.1, k3, e1]
theorem word_both (he : e ≤ n) (h7 : TP7 n tp m) (ht : Tok7 n tp e m) : ∃ q, q ≤ 5 ∧ f_X5_statementWord m = some (n32 q) ∧ (q = 0 → ∀ i, 1 ≤ i → i ≤ 5 → ¬ wdQ n tp e i) ∧ (q ≠ 0 → wdQ n tp e q) := by
  unfold f_X5_statementWord
  rcases t_isWord h7 he ht (i := 1) (by omega) with ⟨a, b⟩ | ⟨a, b⟩
  · exact ⟨1, by omega, by simp (maxSteps := 400000) (disch := omega) only [n32_lit, n32_add, n32_mul, n32_lt, n32_le, n32_eq, n32_nat, n32_inb, gd_dec, gdE, ↓nmE, ↓jnE, ↓bsE, Nat.reduceAdd, Nat.reduceMul, Nat.reduceSub, Nat.reduceLT, Nat.reduceLeDiff, Nat.reduceEqDiff, ↓reduceIte, decide_true, decide_false, and_true, true_and, and_false, false_and, or_false, false_or, or_true, true_or, not_true_eq_false, not_false_eq_true, eq_self, Nat.zero_add, Nat.add_zero, Nat.mul_zero, Nat.mul_one, Nat.zero_le, Nat.not_lt_zero, bind_sm, bind_sm2, b], fun q => by omega, fun _ => a⟩
  rcases t_isWord h7 he ht (i := 2) (by omega) with ⟨a1, b1⟩ | ⟨a1, b1⟩
  · exact ⟨2, by omega, by simp (maxSteps := 400000) (disch := omega) only [n32_lit, n32_add, n32_mul, n32_lt, n32_le, n32_eq, n32_nat, n32_inb, gd_dec, gdE, ↓nmE, ↓jnE, ↓bsE, Nat.reduceAdd, Nat.reduceMul, Nat.reduceSub, Nat.reduceLT, Nat.reduceLeDiff, Nat.reduceEqDiff, ↓reduceIte, decide_true, decide_false, and_true, true_and, and_false, false_and, or_false, false_or, or_true, true_or, not_true_eq_false, not_false_eq_true, eq_self, Nat.zero_add, Nat.add_zero, Nat.mul_zero, Nat.mul_one, Nat.zero_le, Nat.not_lt_zero, bind_sm, bind_sm2, b, b1], fun q => by omega, fun _ => a1⟩
  rcases t_isWord h7 he ht (i := 3) (by omega) with ⟨a2, b2⟩ | ⟨a2, b2⟩
  · exact ⟨3, by omega, by simp (maxSteps := 400000) (disch := omega) only [n32_lit, n32_add, n32_mul, n32_lt, n32_le, n32_eq, n32_nat, n32_inb, gd_dec, gdE, ↓nmE, ↓jnE, ↓bsE, Nat.reduceAdd, Nat.reduceMul, Nat.reduceSub, Nat.reduceLT, Nat.reduceLeDiff, Nat.reduceEqDiff, ↓reduceIte, decide_true, decide_false, and_true, true_and, and_false, false_and, or_false, false_or, or_true, true_or, not_true_eq_false, not_false_eq_true, eq_self, Nat.zero_add, Nat.add_zero, Nat.mul_zero, Nat.mul_one, Nat.zero_le, Nat.not_lt_zero, bind_sm, bind_sm2, b, b1, b2], fun q => by omega, fun _ => a2⟩
  rcases t_isWord h7 he ht (i := 4) (by omega) with ⟨a3, b3⟩ | ⟨a3, b3⟩
  · exact ⟨4, by omega, by simp (maxSteps := 400000) (disch := omega) only [n32_lit, n32_add, n32_mul, n32_lt, n32_le, n32_eq, n32_nat, n32_inb, gd_dec, gdE, ↓nmE, ↓jnE, ↓bsE, Nat.reduceAdd, Nat.reduceMul, Nat.reduceSub, Nat.reduceLT, Nat.reduceLeDiff, Nat.reduceEqDiff, ↓reduceIte, decide_true, decide_false, and_true, true_and, and_false, false_and, or_false, false_or, or_true, true_or, not_true_eq_false, not_false_eq_true, eq_self, Nat.zero_add, Nat.add_zero, Nat.mul_zero, Nat.mul_one, Nat.zero_le, Nat.not_lt_zero, bind_sm, bind_sm2, b, b1, b2, b3], fun q => by omega, fun _ => a3⟩
  rcases t_isWord h7 he ht (i := 5) (by omega) with ⟨a4, b4⟩ | ⟨a4, b4⟩
  · exact ⟨5, by omega, by simp (maxSteps := 400000) (disch := omega) only [n32_lit, n32_add, n32_mul, n32_lt, n32_le, n32_eq, n32_nat, n32_inb, gd_dec, gdE, ↓nmE, ↓jnE, ↓bsE, Nat.reduceAdd, Nat.reduceMul, Nat.reduceSub, Nat.reduceLT, Nat.reduceLeDiff, Nat.reduceEqDiff, ↓reduceIte, decide_true, decide_false, and_true, true_and, and_false, false_and, or_false, false_or, or_true, true_or, not_true_eq_false, not_false_eq_true, eq_self, Nat.zero_add, Nat.add_zero, Nat.mul_zero, Nat.mul_one, Nat.zero_le, Nat.not_lt_zero, bind_sm, bind_sm2, b, b1, b2, b3, b4], fun q => by omega, fun _ => a4⟩
  · refine ⟨0, by omega, by simp (maxSteps := 400000) (disch := omega) only [n32_lit, n32_add, n32_mul, n32_lt, n32_le, n32_eq, n32_nat, n32_inb, gd_dec, gdE, ↓nmE, ↓jnE, ↓bsE, Nat.reduceAdd, Nat.reduceMul, Nat.reduceSub, Nat.reduceLT, Nat.reduceLeDiff, Nat.reduceEqDiff, ↓reduceIte, decide_true, decide_false, and_true, true_and, and_false, false_and, or_false, false_or, or_true, true_or, not_true_eq_false, not_false_eq_true, eq_self, Nat.zero_add, Nat.add_zero, Nat.mul_zero, Nat.mul_one, Nat.zero_le, Nat.not_lt_zero, bind_sm, bind_sm2, b, b1, b2, b3, b4], fun _ i h1 h2 => ?_, fun q => absurd rfl q⟩
    rcases (show i = 1 ∨ i = 2 ∨ i = 3 ∨ i = 4 ∨ i = 5 by omega) with rfl | rfl | rfl | rfl | rfl
    · exact a
    · exact a1
    · exact a2
    · exact a3
    · exact a4
theorem st_any {q : Nat} (hq : 1 ≤ q ∧ q ≤ 5) (hd : DR v w m2) (h8 : S8 n tp e w) (h7 : TP7 n tp m) (ht : Tok7 n tp e m) (hk0 : tkK n tp e ≠ 0) : StO n tp e w m (rd7 q m2 m) (rd8 q w) := by
  rcases (show q = 1 ∨ q = 2 ∨ q = 3 ∨ q = 4 ∨ q = 5 by omega) with rfl | rfl | rfl | rfl | rfl
  · exact st_way hd h8 h7 ht hk0
  · exact st_hill hd h8 h7 ht hk0
  · exact st_person hd h8 h7 ht hk0
  · exact st_car hd h8 h7 ht hk0
  · exact st_quarrel hd h8 h7 ht hk0
theorem t_stmt {q rc : Nat} (hq : q ≤ 5) (hr : rc ≤ 5) (hm : m 0 8 = n32 rc) (hw : f_X5_statementWord m = some (n32 q)) {r : Int32} (hr01 : r = n32 0 ∨ r = n32 1) {m2' m' : Mem} (h1 : 1 ≤ q) (h2 : rc ≤ q) (h3 : rd7 q m2 (up m 0 8 (n32 q)) = some (r, m2', m')) : f_X5_readStatement m2 m = some (r, m2', m') := by
  unfold f_X5_readStatement
  have g : gd (decide (r = n32 0 ∨ r = n32 1)) (some (r, m2', m')) = some (r, m2', m') := gd_t' (decide_eq_true hr01)
  rcases (show q = 1 ∨ q = 2 ∨ q = 3 ∨ q = 4 ∨ q = 5 by omega) with rfl | rfl | rfl | rfl | rfl
  · have h3 : f_X5_readWay m2 (up m 0 8 (n32 1)) = some (r, m2', m') := h3
    simp (maxSteps := 400000) (disch := omega) only [n32_lit, n32_add, n32_mul, n32_lt, n32_le, n32_eq, n32_nat, n32_inb, gd_dec, gdE, ↓nmE, ↓jnE, ↓bsE, Nat.reduceAdd, Nat.reduceMul, Nat.reduceSub, Nat.reduceLT, Nat.reduceLeDiff, Nat.reduceEqDiff, ↓reduceIte, decide_true, decide_false, and_true, true_and, and_false, false_and, or_false, false_or, or_true, true_or, not_true_eq_false, not_false_eq_true, eq_self, Nat.zero_add, Nat.add_zero, Nat.mul_zero, Nat.mul_one, Nat.zero_le, Nat.not_lt_zero, bind_sm, bind_sm2, hw, hm, h2, h3, g]
  · have h3 : f_X5_readHill m2 (up m 0 8 (n32 2)) = some (r, m2', m') := h3
    simp (maxSteps := 400000) (disch := omega) only [n32_lit, n32_add, n32_mul, n32_lt, n32_le, n32_eq, n32_nat, n32_inb, gd_dec, gdE, ↓nmE, ↓jnE, ↓bsE, Nat.reduceAdd, Nat.reduceMul, Nat.reduceSub, Nat.reduceLT, Nat.reduceLeDiff, Nat.reduceEqDiff, ↓reduceIte, decide_true, decide_false, and_true, true_and, and_false, false_and, or_false, false_or, or_true, true_or, not_true_eq_false, not_false_eq_true, eq_self, Nat.zero_add, Nat.add_zero, Nat.mul_zero, Nat.mul_one, Nat.zero_le, Nat.not_lt_zero, bind_sm, bind_sm2, hw, hm, h2, h3, g]
  · have h3 : f_X5_readPerson m2 (up m 0 8 (n32 3)) = some (r, m2', m') := h3
    simp (maxSteps := 400000) (disch := omega) only [n32_lit, n32_add, n32_mul, n32_lt, n32_le, n32_eq, n32_nat, n32_inb, gd_dec, gdE, ↓nmE, ↓jnE, ↓bsE, Nat.reduceAdd, Nat.reduceMul, Nat.reduceSub, Nat.reduceLT, Nat.reduceLeDiff, Nat.reduceEqDiff, ↓reduceIte, decide_true, decide_false, and_true, true_and, and_false, false_and, or_false, false_or, or_true, true_or, not_true_eq_false, not_false_eq_true, eq_self, Nat.zero_add, Nat.add_zero, Nat.mul_zero, Nat.mul_one, Nat.zero_le, Nat.not_lt_zero, bind_sm, bind_sm2, hw, hm, h2, h3, g]
  · have h3 : f_X5_readCar m2 (up m 0 8 (n32 4)) = some (r, m2', m') := h3
    simp (maxSteps := 400000) (disch := omega) only [n32_lit, n32_add, n32_mul, n32_lt, n32_le, n32_eq, n32_nat, n32_inb, gd_dec, gdE, ↓nmE, ↓jnE, ↓bsE, Nat.reduceAdd, Nat.reduceMul, Nat.reduceSub, Nat.reduceLT, Nat.reduceLeDiff, Nat.reduceEqDiff, ↓reduceIte, decide_true, decide_false, and_true, true_and, and_false, false_and, or_false, false_or, or_true, true_or, not_true_eq_false, not_false_eq_true, eq_self, Nat.zero_add, Nat.add_zero, Nat.mul_zero, Nat.mul_one, Nat.zero_le, Nat.not_lt_zero, bind_sm, bind_sm2, hw, hm, h2, h3, g]
  · have h3 : f_X5_readQuarrel m2 (up m 0 8 (n32 5)) = some (r, m2', m') := h3
    simp (maxSteps := 400000) (disch := omega) only [n32_lit, n32_add, n32_mul, n32_lt, n32_le, n32_eq, n32_nat, n32_inb, gd_dec, gdE, ↓nmE, ↓jnE, ↓bsE, Nat.reduceAdd, Nat.reduceMul, Nat.reduceSub, Nat.reduceLT, Nat.reduceLeDiff, Nat.reduceEqDiff, ↓reduceIte, decide_true, decide_false, and_true, true_and, and_false, false_and, or_false, false_or, or_true, true_or, not_true_eq_false, not_false_eq_true, eq_self, Nat.zero_add, Nat.add_zero, Nat.mul_zero, Nat.mul_one, Nat.zero_le, Nat.not_lt_zero, bind_sm, bind_sm2, hw, hm, h2, h3, g]
theorem t_stmtBad {q rc : Nat} (hq : q ≤ 5) (hr : rc ≤ 5) (hm : m 0 8 = n32 rc) (hw : f_X5_statementWord m = some (n32 q)) {m' : Mem} (h : q = 0 ∨ q < rc) (h3 : f_X5_fail m (n32 1) = some (n32 0, m')) : f_X5_readStatement m2 m = some (n32 0, m2, m') := by
  unfold f_X5_readStatement
  by_cases q0 : q = 0
  · simp (maxSteps := 400000) (disch := omega) only [n32_lit, n32_add, n32_mul, n32_lt, n32_le, n32_eq, n32_nat, n32_inb, gd_dec, gdE, ↓nmE, ↓jnE, ↓bsE, Nat.reduceAdd, Nat.reduceMul, Nat.reduceSub, Nat.reduceLT, Nat.reduceLeDiff, Nat.reduceEqDiff, ↓reduceIte, decide_true, decide_false, and_true, true_and, and_false, false_and, or_false, false_or, or_true, true_or, not_true_eq_false, not_false_eq_true, eq_self, Nat.zero_add, Nat.add_zero, Nat.mul_zero, Nat.mul_one, Nat.zero_le, Nat.not_lt_zero, bind_sm, bind_sm2, hw, q0, h3, dec01]
  · simp (maxSteps := 400000) (disch := omega) only [n32_lit, n32_add, n32_mul, n32_lt, n32_le, n32_eq, n32_nat, n32_inb, gd_dec, gdE, ↓nmE, ↓jnE, ↓bsE, Nat.reduceAdd, Nat.reduceMul, Nat.reduceSub, Nat.reduceLT, Nat.reduceLeDiff, Nat.reduceEqDiff, ↓reduceIte, decide_true, decide_false, and_true, true_and, and_false, false_and, or_false, false_or, or_true, true_or, not_true_eq_false, not_false_eq_true, eq_self, Nat.zero_add, Nat.add_zero, Nat.mul_zero, Nat.mul_one, Nat.zero_le, Nat.not_lt_zero, bind_sm, bind_sm2, hw, q0, hm, show ¬ rc ≤ q by omega, h3, dec01]
def PL7 (s i : Nat) : Prop := s = 0 ∧ 2 ≤ i ∧ i ≤ 8
theorem Fr.l {m m' : Mem} (h : Fr PR7 m m') : Fr PL7 m m' := h.mono (fun _ _ q => ⟨q.1, q.2.1, by have := q.2.2; omega⟩)
/-- both sides over all statements -/
theorem ev_loop (KG : Mem → Option (Int32 × Mem)) (k : Int32 → Int32 → Mem → Mem → Option (Int32 × Mem × Mem)) : ∀ N e t7 t8 u rc (v : Nat → Nat) (w m m2 : Mem), n - e ≤ N → N ≤ 1000 → N < t7 → N + 1 < t8 → u ≤ e → rc ≤ 5 → S8 n tp e w → S7 n tp e m → DR v w m2 → m 0 8 = n32 rc →
    ∃ (u' : Int32) (m2' m' w' : Mem), Fr PE8 w w' ∧ Fr PL7 m m' ∧ PH KG (if rc = 0 then 1 else rc) t8 w = KG w' ∧
      ((f_X5_readInto_L22 k t7 (n32 1) (n32 u) m2 m = k (n32 1) u' m2' m' ∧ w' 0 19 = n32 0 ∧ TP7 n tp m' ∧ ∃ v', DR v' w' m2') ∨
       (f_X5_readInto_L22 k t7 (n32 1) (n32 u) m2 m = k (n32 0) u' m2' m' ∧ ∃ fk fp, F7 fk fp m' ∧ F8 n tp fk fp w')) := by
  intro N
  induction N with
  | zero =>
    intro e t7 t8 u rc v w m m2 hN hN1 h7t h8t hu hrc h8 h7 hd hm
    obtain ⟨t7, rfl⟩ : ∃ x, t7 = x + 1 := ⟨t7 - 1, by omega⟩
    obtain ⟨t8, rfl⟩ : ∃ x, t8 = x + 1 := ⟨t8 - 1, by omega⟩
    have he := h8.e_le
    have h500 := h8.1.1
    obtain ⟨m1, t1, t2, t3, t4⟩ := c_token h7
    have hk : tkK n tp e = 0 := by
      obtain ⟨l1, l2, l3, l4, -⟩ := tk_le (tp := tp) he
      exact Classical.byContradiction (fun c => by have := l4 c; omega)
    refine ⟨n32 u, m2, m1, w, Fr.refl, t2.l, ?_, Or.inl ⟨?_, h8.2.2.2, t3, v, hd⟩⟩
    · rw [ph_none h8 (5 - (if rc = 0 then 1 else rc)) _ _ (by split <;> omega) (by split <;> omega) (fun i _ _ c => by have := c.1; omega)]
      exact kf_end h8 hk
    · rw [f_X5_readInto_L22.eq_2]
      simp (maxSteps := 400000) (disch := omega) only [n32_lit, n32_add, n32_mul, n32_lt, n32_le, n32_eq, n32_nat, n32_inb, gd_dec, gdE, ↓nmE, ↓jnE, ↓bsE, Nat.reduceAdd, Nat.reduceMul, Nat.reduceSub, Nat.reduceLT, Nat.reduceLeDiff, Nat.reduceEqDiff, ↓reduceIte, decide_true, decide_false, and_true, true_and, and_false, false_and, or_false, false_or, or_true, true_or, not_true_eq_false, not_false_eq_true, eq_self, Nat.zero_add, Nat.add_zero, Nat.mul_zero, Nat.mul_one, Nat.zero_le, Nat.not_lt_zero, bind_sm, bind_sm2, show ¬ 500 < u by omega, t1, t4.1, hk]
  | succ N ih =>
    intro e t7 t8 u rc v w m m2 hN hN1 h7t h8t hu hrc h8 h7 hd hm
    obtain ⟨t7, rfl⟩ : ∃ x, t7 = x + 1 := ⟨t7 - 1, by omega⟩
    obtain ⟨t8, rfl⟩ : ∃ x, t8 = x + 1 := ⟨t8 - 1, by omega⟩
    have he := h8.e_le
    have h500 := h8.1.1
    obtain ⟨m1, t1, t2, t3, t4⟩ := c_token h7
    have hm1 : m1 0 8 = n32 rc := by rw [t2 0 8 (by unfold PR7; omega)]; exact hm
    have tl := (tk_le (tp := tp) he).2.2.2.2.1
    by_cases hk : tkK n tp e = 0
    · refine ⟨n32 u, m2, m1, w, Fr.refl, t2.l, ?_, Or.inl ⟨?_, h8.2.2.2, t3, v, hd⟩⟩
      · rw [ph_none h8 (5 - (if rc = 0 then 1 else rc)) _ _ (by split <;> omega) (by split <;> omega) (fun i _ _ c => by have := c.1; omega)]
        exact kf_end h8 hk
      · rw [f_X5_readInto_L22.eq_2]
        simp (maxSteps := 400000) (disch := omega) only [n32_lit, n32_add, n32_mul, n32_lt, n32_le, n32_eq, n32_nat, n32_inb, gd_dec, gdE, ↓nmE, ↓jnE, ↓bsE, Nat.reduceAdd, Nat.reduceMul, Nat.reduceSub, Nat.reduceLT, Nat.reduceLeDiff, Nat.reduceEqDiff, ↓reduceIte, decide_true, decide_false, and_true, true_and, and_false, false_and, or_false, false_or, or_true, true_or, not_true_eq_false, not_false_eq_true, eq_self, Nat.zero_add, Nat.add_zero, Nat.mul_zero, Nat.mul_one, Nat.zero_le, Nat.not_lt_zero, bind_sm, bind_sm2, show ¬ 500 < u by omega, t1, t4.1, hk]
    · obtain ⟨q, hq, w1, w2, w3⟩ := word_both he t3 t4
      have e0 : ∀ (x : Int32) (m2' m' : Mem), f_X5_readStatement m2 m1 = some (x, m2', m') → f_X5_readInto_L22 k (t7 + 1) (n32 1) (n32 u) m2 m = f_X5_readInto_L22 k t7 x (n32 (u + 1)) m2' m' := by
        intro x m2' m' hst
        rw [f_X5_readInto_L22.eq_2]
        simp (maxSteps := 400000) (disch := omega) only [n32_lit, n32_add, n32_mul, n32_lt, n32_le, n32_eq, n32_nat, n32_inb, gd_dec, gdE, ↓nmE, ↓jnE, ↓bsE, Nat.reduceAdd, Nat.reduceMul, Nat.reduceSub, Nat.reduceLT, Nat.reduceLeDiff, Nat.reduceEqDiff, ↓reduceIte, decide_true, decide_false, and_true, true_and, and_false, false_and, or_false, false_or, or_true, true_or, not_true_eq_false, not_false_eq_true, eq_self, Nat.zero_add, Nat.add_zero, Nat.mul_zero, Nat.mul_one, Nat.zero_le, Nat.not_lt_zero, bind_sm, bind_sm2, show ¬ 500 < u by omega, t1, t4.1, hk, hst]
      have out : ∀ m2' m', f_X5_readInto_L22 k t7 (n32 0) (n32 (u + 1)) m2' m' = k (n32 0) (n32 (u + 1)) m2' m' := by
        intro m2' m'
        obtain ⟨t7, rfl⟩ : ∃ x, t7 = x + 1 := ⟨t7 - 1, by omega⟩
        rw [f_X5_readInto_L22.eq_2]
        simp (maxSteps := 400000) (disch := omega) only [n32_lit, n32_add, n32_mul, n32_lt, n32_le, n32_eq, n32_nat, n32_inb, gd_dec, gdE, ↓nmE, ↓jnE, ↓bsE, Nat.reduceAdd, Nat.reduceMul, Nat.reduceSub, Nat.reduceLT, Nat.reduceLeDiff, Nat.reduceEqDiff, ↓reduceIte, decide_true, decide_false, and_true, true_and, and_false, false_and, or_false, false_or, or_true, true_or, not_true_eq_false, not_false_eq_true, eq_self, Nat.zero_add, Nat.add_zero, Nat.mul_zero, Nat.mul_one, Nat.zero_le, Nat.not_lt_zero, bind_sm, bind_sm2]
      by_cases hgood : q ≠ 0 ∧ rc ≤ q
      · have t3' : TP7 n tp (up m1 0 8 (n32 q)) := t3.up 8 _ (by omega)
        have t4' : Tok7 n tp e (up m1 0 8 (n32 q)) := by
          obtain ⟨a, b, c, d⟩ := t4
          refine ⟨?_, ?_, ?_, fun z => ?_⟩
          · simp (disch := omega) only [up_at, up_ms, up_mi, upA_at, upA_ms]; exact a
          · simp (disch := omega) only [up_at, up_ms, up_mi, upA_at, upA_ms]; exact b
          · simp (disch := omega) only [up_at, up_ms, up_mi, upA_at, upA_ms]; exact c
          · simp (disch := omega) only [up_at, up_ms, up_mi, upA_at, upA_ms]; exact d z
        have f8' : Fr PL7 m1 (up m1 0 8 (n32 q)) := Fr.refl.up 0 8 _ ⟨rfl, by omega, by omega⟩
        obtain ⟨r, m2', m', w', s1, s2, s3, s4, s5⟩ := st_any (q := q) ⟨by omega, hq⟩ hd h8 t3' t4' hk
        have r01 : r = n32 0 ∨ r = n32 1 := by rcases s5 with ⟨a, -⟩ | ⟨a, -⟩; exact Or.inr a; exact Or.inl a
        have hst := t_stmt hq hrc hm1 w1 r01 (by omega) hgood.2 s1
        have frm : Fr PL7 m m' := t2.l.trans (f8'.trans s4.l)
        have jmp := ph_jump (KG := KG) hq h8 (w3 hgood.1) (q - (if rc = 0 then 1 else rc)) (if rc = 0 then 1 else rc) t8 (by split <;> omega) (by split <;> omega)
        rw [ph_hit ⟨by omega, hq⟩ h8 (w3 hgood.1), s2] at jmp
        rw [e0 _ _ _ hst]
        generalize htt : (if q - (if rc = 0 then 1 else rc) = 0 then t8 else 99999) = t9 at jmp
        have t9b : N + 1 < t9 := by
          by_cases hz : q - (if rc = 0 then 1 else rc) = 0
          · rw [if_pos hz] at htt; omega
          · rw [if_neg hz] at htt; omega
        rcases s5 with ⟨rfl, e', v', a1, a2, a3, a4⟩ | ⟨rfl, fk, fp, a1, a2⟩
        · have hm' : m' 0 8 = n32 q := by rw [s4 0 8 (by unfold PR7; omega), up_at]
          obtain ⟨u', m2'', m'', w'', i1, i2, i3, i4⟩ := ih e' t7 t9 (u + 1) q v' w' m' m2' (by omega) (by omega) (by omega) t9b (by omega) hq a3 a2 a4 hm'
          rw [if_neg hgood.1] at i3
          exact ⟨u', m2'', m'', w'', s3.trans i1, frm.trans i2, jmp.trans i3, i4⟩
        · refine ⟨n32 (u + 1), m2', m', w', s3, frm, ?_, Or.inr ⟨out m2' m', fk, fp, a1, a2⟩⟩
          obtain ⟨t9, rfl⟩ : ∃ x, t9 = x + 1 := ⟨t9 - 1, by omega⟩
          exact jmp.trans (ph_F a2 (5 - q) q t9 (by omega) (by omega))
      · obtain ⟨m3, f1, f2, f3⟩ := c_fail t4 1
        have hst : f_X5_readStatement m2 m1 = some (n32 0, m2, m3) := t_stmtBad hq hrc hm1 w1 (by omega) f1
        obtain ⟨w', b1, b2, b3⟩ := kf_bad (KG := KG) h8 hk
        refine ⟨n32 (u + 1), m2, m3, w', b2.e, (t2.trans f2).l, ?_, Or.inr ⟨?_, 1, tkS n tp e, f3, b3⟩⟩
        · rw [ph_none h8 (5 - (if rc = 0 then 1 else rc)) _ _ (by split <;> omega) (by split <;> omega)]
          · exact b1
          · intro i i1 i2 c
            by_cases q0 : q = 0
            · exact w2 q0 i (by split at i1 <;> omega) i2 c
            · have := wd_one (by omega) (by omega) c (w3 q0)
              split at i1 <;> omega
        · rw [e0 _ _ _ hst]
          exact out m2 m3
end TK
