/-! statements: the draft, hills, ways -/
def VM (v : Nat → Nat) : Prop := ∀ a b, a < 8 → b < 8 → (v (8 + 8 * a + b) ≤ 99 ∨ v (8 + 8 * a + b) = 10000) ∧ v (8 + 8 * a + b) = v (8 + 8 * b + a) ∧ (a = b → v (8 + 8 * a + b) = 0)
def Qz (v : Nat → Nat) (m2 : Mem) : Prop := (∀ q, q < 7 → v 4 ≤ q → v (72 + 4 * q + 3) = 0 ∧ m2 15 q = n32 0) ∧ ∀ q, q < v 4 → v (72 + 4 * q + 3) < 2 ^ v 4
def DR (v : Nat → Nat) (w m2 : Mem) : Prop := Sh (w 7) v ∧ (Cl0 m2 v ∧ ClF m2 v ∧ m2 0 3 = n32 (v 2) ∧ m2 0 4 = n32 (v 3)) ∧ Vd0 v ∧ VM v ∧ Qz v m2 ∧ v 2 ≤ 16 ∧ v 3 ≤ 7
def PE8 (s i : Nat) : Prop := s = 7 ∨ (s = 0 ∧ 15 ≤ i ∧ i ≤ 20)
theorem PR8.e {s i : Nat} (h : PR8 s i) : PE8 s i := Or.inr h
theorem Fr.e {w w' : Mem} (h : Fr PR8 w w') : Fr PE8 w w' := h.mono (fun _ _ q => q.e)
theorem dn_n (k : Nat) : n32 k - n32 1 = dn k := Eq.trans rfl rfl
/-- what a statement's reading comes to, on both sides -/
def StO (n : Nat) (tp : Nat → Nat) (e : Nat) (w m : Mem) (f7 : Option (Int32 × Mem × Mem)) (f8 : Option Mem) : Prop :=
  ∃ (r : Int32) (m2' m' w' : Mem), f7 = some (r, m2', m') ∧ f8 = some w' ∧ Fr PE8 w w' ∧ Fr PR7 m m' ∧
    ((r = n32 1 ∧ ∃ e' v', e < e' ∧ S7 n tp e' m' ∧ S8 n tp e' w' ∧ DR v' w' m2') ∨ (r = n32 0 ∧ ∃ fk fp, F7 fk fp m' ∧ F8 n tp fk fp w'))
theorem DR.fr {v : Nat → Nat} {w w' m2 : Mem} (h : DR v w m2) (hf : Fr PR8 w w') : DR v w' m2 := by
  refine ⟨?_, h.2⟩
  rw [hf.row 7 (fun i => by unfold PR8; omega)]; exact h.1
section TK
variable {n e fk fp : Nat} {tp : Nat → Nat} {m w m2 : Mem} {v : Nat → Nat}
theorem S8.e_le (h : S8 n tp e w) : e ≤ n := h.2.2.1
theorem tkE_gt (he : e ≤ n) (hk : tkK n tp e ≠ 0) : e < tkE n tp e := by
  obtain ⟨l1, l2, l3, l4, -⟩ := tk_le (tp := tp) he
  have := l4 hk; omega
theorem tkE_ge (he : e ≤ n) : e ≤ tkE n tp e ∧ tkE n tp e ≤ n := by
  obtain ⟨l1, l2, l3, l4, -⟩ := tk_le (tp := tp) he
  omega
theorem n32_l0 : (0 : Int32) = n32 0 := rfl
theorem dec01 {R : Type} {x : Option R} : gd (decide (n32 0 = n32 0 ∨ n32 0 = n32 1)) x = x := Eq.trans rfl rfl
theorem dec11 {R : Type} {x : Option R} : gd (decide (n32 1 = n32 0 ∨ n32 1 = n32 1)) x = x := gd_t' (by decide)
theorem sh_up {u : Mem} {v : Nat → Nat} (h : Sh (u 7) v) (i x : Nat) : Sh ((up u 7 i (n32 x)) 7) (vset v i x) := by
  intro j hj
  unfold vset
  by_cases z : j = i
  · rw [if_pos z, z, up_at]
  · rw [if_neg z, up_mi z]; exact h j hj
theorem S8.up7 (h : S8 n tp e w) (i : Nat) (x : Int32) : S8 n tp e (up w 7 i x) := by
  obtain ⟨j1, ⟨t1, t2, t3, t4⟩, j3, j4⟩ := h
  refine ⟨⟨j1.1, ?_, fun i hi => ?_⟩, ⟨?_, ?_, ?_, ?_⟩, j3, ?_⟩
  · simp (disch := omega) only [up_at, up_ms, up_mi, upA_at, upA_ms]; exact j1.2.1
  · simp (disch := omega) only [up_at, up_ms, up_mi, upA_at, upA_ms]; exact j1.2.2 i hi
  · simp (disch := omega) only [up_at, up_ms, up_mi, upA_at, upA_ms]; exact t1
  · simp (disch := omega) only [up_at, up_ms, up_mi, upA_at, upA_ms]; exact t2
  · simp (disch := omega) only [up_at, up_ms, up_mi, upA_at, upA_ms]; exact t3
  · simp (disch := omega) only [up_at, up_ms, up_mi, upA_at, upA_ms]; exact t4
  · simp (disch := omega) only [up_at, up_ms, up_mi, upA_at, upA_ms]; exact j4
/-- both sides read a number -/
theorem both_number (h8 : S8 n tp e w) (h7 : S7 n tp e m) (a P : Nat) (ha : a ≤ 1) (hP : P ≤ 200) : ∃ w' m', Fr PR8 w w' ∧ Fr PR7 m m' ∧
    ((nok n tp e a P ∧ f_X8_number w (n32 a) (dn P) = some (n32 (nv n tp e), w') ∧ f_X5_readNumber m (n32 a) (dn P) = some (n32 1, m') ∧ m' 0 7 = n32 (nv n tp e) ∧ S8 n tp (tkE n tp e) w' ∧ S7 n tp (tkE n tp e) m' ∧ Tok7 n tp e m') ∨
     (∃ r fk fp, f_X8_number w (n32 a) (dn P) = some (r, w') ∧ f_X5_readNumber m (n32 a) (dn P) = some (n32 0, m') ∧ F8 n tp fk fp w' ∧ F7 fk fp m')) := by
  obtain ⟨r, w', e1, e2, e3⟩ := r_number h8 a P ha hP
  obtain ⟨m', d1, d2⟩ := c_number h7 a P ha hP
  refine ⟨w', m', e2, d1, ?_⟩
  rcases e3 with ⟨a1, a2, a3⟩ | ⟨a1, a2⟩
  · rcases d2 with ⟨b1, b2, b3, b4, b5⟩ | ⟨b1, -⟩
    · exact Or.inl ⟨a1, by rw [e1, a2], b2, b3, a3, b4, b5⟩
    · exact absurd a1 b1
  · rcases d2 with ⟨b1, -⟩ | ⟨b1, b2, b3⟩
    · exact absurd b1 a1
    · exact Or.inr ⟨r, _, _, e1, b2, a2, b3⟩
/-- both sides read a number unlike another -/
theorem both_unlike (h8 : S8 n tp e w) (h7 : S7 n tp e m) (P x : Nat) (hP : P ≤ 200) (hx : x < P) : ∃ w' m', Fr PR8 w w' ∧ Fr PR7 m m' ∧
    ((nv n tp e < P ∧ nv n tp e ≠ x ∧ f_X8_unlike w (n32 0) (dn P) (n32 x) = some (n32 (nv n tp e), w') ∧ f_X5_readNumber m (n32 0) (dn P) = some (n32 1, m') ∧ m' 0 7 = n32 (nv n tp e) ∧ S8 n tp (tkE n tp e) w' ∧ S7 n tp (tkE n tp e) m') ∨
     (∃ r fk fp, f_X8_unlike w (n32 0) (dn P) (n32 x) = some (r, w') ∧ F8 n tp fk fp w' ∧ ((f_X5_readNumber m (n32 0) (dn P) = some (n32 0, m') ∧ F7 fk fp m') ∨ ∃ m'', f_X5_readNumber m (n32 0) (dn P) = some (n32 1, m'') ∧ m'' 0 7 = n32 x ∧ f_X5_fail m'' (n32 2) = some (n32 0, m') ∧ F7 fk fp m'))) := by
  obtain ⟨r, w', e1, e2, e3⟩ := r_unlike h8 P x hP hx
  obtain ⟨m', d1, d2⟩ := c_number h7 0 P (by omega) hP
  rcases d2 with ⟨b1, b2, b3, b4, b5⟩ | ⟨b1, b2, b3⟩
  · rcases e3 with ⟨a1, a2, a3, a4⟩ | ⟨a1, a2⟩
    · exact ⟨w', m', e2, d1, Or.inl ⟨a1.2.2, a2, by rw [e1, a3], b2, b3, a4, b4⟩⟩
    · have q : nv n tp e = x := Classical.byContradiction (fun c => a1 ⟨b1, c⟩)
      obtain ⟨m'', f1, f2, f3⟩ := c_fail b5 2
      rw [if_pos b1.1] at a2
      exact ⟨w', m'', e2, d1.trans f2, Or.inr ⟨r, _, _, e1, a2, Or.inr ⟨m', b2, by rw [b3, q], f1, f3⟩⟩⟩
  · rcases e3 with ⟨a1, -⟩ | ⟨a1, a2⟩
    · exact absurd a1 b1
    · exact ⟨w', m', e2, d1, Or.inr ⟨r, _, _, e1, a2, Or.inl ⟨b2, b3⟩⟩⟩
theorem both_sign (h8 : S8 n tp e w) (h7 : S7 n tp e m) : ∃ w' m', Fr PR8 w w' ∧ Fr PR7 m m' ∧
    ((f_X8_mustEnd w = some w' ∧ f_X5_readSign m = some (n32 1, m') ∧ S8 n tp (tkE n tp e) w' ∧ S7 n tp (tkE n tp e) m') ∨
     (∃ fk fp, f_X8_mustEnd w = some w' ∧ f_X5_readSign m = some (n32 0, m') ∧ F8 n tp fk fp w' ∧ F7 fk fp m')) := by
  obtain ⟨w', e1, e2, e3⟩ := r_mustEnd h8
  obtain ⟨m', d1, d2⟩ := c_sign h7
  refine ⟨w', m', e2, d1, ?_⟩
  rcases e3 with ⟨a1, a2⟩ | ⟨a1, a2⟩
  · rcases d2 with ⟨b1, b2, b3⟩ | ⟨b1, -⟩
    · exact Or.inl ⟨e1, b2, a2, b3⟩
    · exact absurd a1 b1
  · rcases d2 with ⟨b1, -⟩ | ⟨b1, b2, b3⟩
    · exact absurd b1 a1
    · exact Or.inr ⟨_, _, e1, b2, a2, b3⟩
end TK
