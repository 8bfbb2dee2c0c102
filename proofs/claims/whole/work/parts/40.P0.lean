/-! small numbers -/
def n32 (n : Nat) : Int32 := Int32.ofNat n
theorem n32_lit (k : Nat) : (OfNat.ofNat k : Int32) = n32 k := Eq.trans rfl rfl
theorem n32_int {a : Nat} (h : a < 2147483648) : (n32 a).toInt = (a : Int) := Int32.toInt_ofNat_of_lt h
theorem n32_add (a b : Nat) : n32 a + n32 b = n32 (a + b) := (Int32.ofNat_add a b).symm
theorem n32_mul (a b : Nat) : n32 a * n32 b = n32 (a * b) := (Int32.ofNat_mul a b).symm
theorem n32_lt {a b : Nat} (ha : a < 2147483648) (hb : b < 2147483648) : (n32 a < n32 b) = (a < b) := by
  rw [Int32.lt_iff_toInt_lt, n32_int ha, n32_int hb]; exact propext (by omega)
theorem n32_le {a b : Nat} (ha : a < 2147483648) (hb : b < 2147483648) : (n32 a ≤ n32 b) = (a ≤ b) := by
  rw [Int32.le_iff_toInt_le, n32_int ha, n32_int hb]; exact propext (by omega)
theorem n32_eq {a b : Nat} (ha : a < 2147483648) (hb : b < 2147483648) : (n32 a = n32 b) = (a = b) := by
  rw [← Int32.toInt_inj, n32_int ha, n32_int hb]; exact propext (by omega)
theorem n32_sub {a b : Nat} (h : b ≤ a) : n32 a - n32 b = n32 (a - b) := by
  have h1 : n32 a = n32 (a - b) + n32 b := by rw [n32_add, Nat.sub_add_cancel h]
  rw [h1]; exact Int32.add_sub_cancel _ _
theorem n32_nat {a : Nat} (h : a < 2147483648) : (n32 a).toNatClampNeg = a := by
  show (n32 a).toInt.toNat = a
  rw [n32_int h]; rfl
theorem n32_inb {a n : Nat} (h : a < 2147483648) : inb (n32 a) n = decide (a < n) := by
  have h0 : ¬ n32 a < 0 := by rw [n32_lit 0, n32_lt h (by decide)]; omega
  refine decide_eq_decide.mpr ?_
  rw [n32_nat h]
  constructor
  · intro q
    exact Nat.not_le.mp (fun z => q (Or.inr z))
  · intro q z
    rcases z with z | z
    · exact h0 z
    · omega
theorem n32_neg1 (a : Nat) : n32 (a + 1) + (-1) = n32 a := by
  rw [← n32_add]
  show n32 a + 1 + (-1) = n32 a
  rw [Int32.add_assoc]
  exact Int32.add_zero _
theorem n32_m1 : n32 0 + (-1) = (-1 : Int32) := rfl
/-- every int: small, or below zero -/
theorem n32_or (x : Int32) : (∃ n, n < 2147483648 ∧ x = n32 n) ∨ x < 0 := by
  by_cases h : x.toInt < 0
  · exact Or.inr (Int32.lt_iff_toInt_lt.mpr h)
  · refine Or.inl ⟨x.toInt.toNat, ?_, ?_⟩
    · have := Int32.toInt_lt x
      omega
    · have := Int32.toInt_lt x
      apply Int32.toInt_inj.mp
      rw [n32_int (by omega)]
      omega
theorem neg_lt {x : Int32} (h : x < 0) {b : Nat} (hb : b < 2147483648) : (x < n32 b) = True := by
  rw [Int32.lt_iff_toInt_lt, n32_int hb]
  have := Int32.lt_iff_toInt_lt.mp h
  exact propext ⟨fun _ => trivial, fun _ => by have : (0 : Int32).toInt = 0 := rfl; omega⟩
theorem neg_le {x : Int32} (h : x < 0) {b : Nat} (hb : b < 2147483648) : (x ≤ n32 b) = True := by
  rw [Int32.le_iff_toInt_le, n32_int hb]
  have := Int32.lt_iff_toInt_lt.mp h
  exact propext ⟨fun _ => trivial, fun _ => by have : (0 : Int32).toInt = 0 := rfl; omega⟩
theorem neg_nle {x : Int32} (h : x < 0) {b : Nat} (hb : b < 2147483648) : (n32 b ≤ x) = False := by
  rw [Int32.le_iff_toInt_le, n32_int hb]
  have := Int32.lt_iff_toInt_lt.mp h
  exact propext ⟨fun _ => by have : (0 : Int32).toInt = 0 := rfl; omega, fun h => h.elim⟩
theorem neg_nlt {x : Int32} (h : x < 0) {b : Nat} (hb : b < 2147483648) : (n32 b < x) = False := by
  rw [Int32.lt_iff_toInt_lt, n32_int hb]
  have := Int32.lt_iff_toInt_lt.mp h
  exact propext ⟨fun _ => by have : (0 : Int32).toInt = 0 := rfl; omega, fun h => h.elim⟩
theorem neg_ne {x : Int32} (h : x < 0) {b : Nat} (hb : b < 2147483648) : (x = n32 b) = False := by
  refine propext ⟨fun e => ?_, fun h => h.elim⟩
  rw [e, n32_lit 0, n32_lt hb (by decide)] at h
  omega
theorem n32_ltn {x : Int32} {b : Nat} (hb : b < 2147483648) : (¬ x < n32 b) = (n32 b ≤ x) := by
  rw [Int32.lt_iff_toInt_lt, Int32.le_iff_toInt_le]; exact propext (by omega)
theorem i32_nlt {x y : Int32} : (¬ x < y) = (y ≤ x) := by rw [Int32.lt_iff_toInt_lt, Int32.le_iff_toInt_le]; exact propext (by omega)
theorem i32_nle {x y : Int32} : (¬ x ≤ y) = (y < x) := by rw [Int32.lt_iff_toInt_lt, Int32.le_iff_toInt_le]; exact propext (by omega)
/-! memory -/
theorem up_at (m : Mem) (s i : Nat) (v : Int32) : up m s i v s i = v := by simp [up, upA, upd]
theorem up_ap (m : Mem) (s i : Nat) (v : Int32) (s' j : Nat) : up m s i v s' j = if s' = s ∧ j = i then v else m s' j := by
  unfold up upA upd
  by_cases h : s' = s
  · subst h
    by_cases h2 : j = i <;> simp [h2]
  · simp [h]
theorem up_row (m : Mem) (s i : Nat) (v : Int32) (s' : Nat) (h : s' ≠ s) : up m s i v s' = m s' := by
  funext j; rw [up_ap, if_neg (fun q => h q.1)]
theorem upA_ap (m : Mem) (s : Nat) (f : Nat → Int32) (s' j : Nat) : upA m s f s' j = if s' = s then f j else m s' j := by
  unfold upA; by_cases h : s' = s <;> simp [h]
theorem upA_row (m : Mem) (s : Nat) (f : Nat → Int32) (s' : Nat) (h : s' ≠ s) : upA m s f s' = m s' := by
  unfold upA; simp [h]
/-! programs that come to an end -/
def ok {R : Type} (Q : R → Prop) (x : Option R) : Prop := ∃ r, x = some r ∧ Q r
theorem ok_some {R : Type} {Q : R → Prop} {r : R} (h : Q r) : ok Q (some r) := ⟨r, rfl, h⟩
theorem ok_bind {R S : Type} {Q : R → Prop} {x : Option S} {f : S → Option R} (h : ok (fun s => ok Q (f s)) x) : ok Q (x.bind f) := by
  obtain ⟨s, e, h⟩ := h
  rw [e]; exact h
theorem ok_nm {α R : Type} {Q : R → Prop} {a : α} {k : α → Option R} (h : ok Q (k a)) : ok Q (nm a k) := h
theorem ok_gd {R : Type} {Q : R → Prop} {b : Bool} {x : Option R} (hb : b = true) (h : ok Q x) : ok Q (gd b x) := by
  unfold gd; rw [if_pos hb]; exact h
theorem ok_mono {R : Type} {P Q : R → Prop} {x : Option R} (h : ok P x) (hp : ∀ r, P r → Q r) : ok Q x := by
  obtain ⟨r, e, h⟩ := h
  exact ⟨r, e, hp r h⟩
theorem ok_eq {R : Type} {Q : R → Prop} {x y : Option R} (e : x = y) (h : ok Q y) : ok Q x := e ▸ h
theorem gd_t' {R : Type} {b : Bool} {x : Option R} (hb : b = true) : gd b x = x := by unfold gd; rw [if_pos hb]
theorem nm_eq {α R : Type} (a : α) (k : α → Option R) : nm a k = k a := rfl
theorem jn_eq {α R : Type} (X : (α → Option R) → Option R) (k : α → Option R) : jn X k = X k := rfl
/-- a counting loop, some steps of which may end it -/
theorem loop_up {S R : Type} (F : Nat → Int32 → S → Option R) (hi : Nat) (I : Nat → S → Prop) (Q : R → Prop)
    (hstop : ∀ t s, I hi s → ok Q (F (t + 1) (n32 hi) s))
    (hstep : ∀ i t s, i < hi → I i s → (∃ s', I (i + 1) s' ∧ F (t + 1) (n32 i) s = F t (n32 (i + 1)) s') ∨ ok Q (F (t + 1) (n32 i) s)) :
    ∀ (d i : Nat) (s : S) (t : Nat), i + d = hi → d < t → I i s → ok Q (F t (n32 i) s) := by
  intro d
  induction d with
  | zero =>
    intro i s t h1 h2 h3
    obtain ⟨t, rfl⟩ : ∃ u, t = u + 1 := ⟨t - 1, by omega⟩
    have : i = hi := by omega
    subst this
    exact hstop t s h3
  | succ d ih =>
    intro i s t h1 h2 h3
    obtain ⟨t, rfl⟩ : ∃ u, t = u + 1 := ⟨t - 1, by omega⟩
    rcases hstep i t s (by omega) h3 with ⟨s', h4, h5⟩ | h4
    · rw [h5]
      exact ih (i + 1) s' t (by omega) (by omega) h4
    · exact h4
theorem gd_dec {R : Type} {a n : Nat} {x : Option R} (h : a < n) : gd (decide (a < n)) x = x := gd_t' (decide_eq_true h)
theorem gd_one {R : Type} {x : Option R} : gd true x = x := rfl
theorem n32_lesucc {k : Nat} (hk : k + 1 < 2147483648) (x : Int32) : (n32 (k + 1) ≤ x) = (n32 k < x) := by
  rw [Int32.le_iff_toInt_le, n32_int hk, Int32.lt_iff_toInt_lt, n32_int (by omega)]; exact propext (by omega)
theorem n32_10 : (n32 1 = n32 0) = False := eq_false (by decide)
theorem bind_sm {R : Type} (x : Option R) : (x.bind fun r => some r) = x := by cases x <;> rfl
theorem bind_sm2 {R S : Type} (x : Option (R × S)) : (x.bind fun r => some (r.1, r.2)) = x := by cases x <;> rfl
