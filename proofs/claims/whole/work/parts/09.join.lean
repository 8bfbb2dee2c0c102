/-! joins, bits, fills -/
def jn {α : Type} {R : Type} (X : (α → Option R) → Option R) (k : α → Option R) : Option R := X k
section JROWS
variable {G : GE} {M : MI} {R : Type} {E : R → Option Value × List Mem} {pc : Nat} {lv : List (Nat × Value)} {st : List Value} {Ms : List Mem} {x : Option R}
theorem K_jn {α : Type} {X : (α → Option R) → Option R} {k : α → Option R} (P : (α → Option R) → Prop) (hk : P k) (h : ∀ j, P j → K G M E pc lv st Ms (X j)) : K G M E pc lv st Ms (jn X k) := h k hk
theorem K_pick {a : Int32} {k : Int32 → Option R} (X : (Int32 → Option R) → Option R) (P : (Int32 → Option R) → Prop) (hX : ∀ j, X j = j a) (hk : P k) (h : ∀ j, P j → K G M E pc lv st Ms (X j)) : K G M E pc lv st Ms (nm a k) := by
  show K G M E pc lv st Ms (k a)
  rw [← hX k]
  exact h k hk
theorem K_putB {idx ci k c : Nat} {fcs : List Nat} {v : Int32} {Ms' : List Mem} (hd : decode M.2.1 pc = .ok (.putfield idx, 3)) (hf : FP M.1 idx ci k .boolean) (hk : kd c = some (.inl (ci, fcs))) (hc : fcs[k]? = some 0) (hlen : c / 1000 < Ms.length) (hM : setc Ms c (upd (xs Ms c) k v) = Ms') (kk : K G M E (pc + 3) lv st Ms' x) : K G M E pc lv (.int v :: .ref c :: st) Ms (gd (decide (v = 0 ∨ v = 1)) x) := by
  intro p e s m args below meth cd Rm cells slots Q H locs ls r C hx hq hw hS hl
  obtain ⟨h1, hx⟩ := gd_some hx
  have h1 := of_decide_eq_true h1
  refine K_put hd hf hk hc ?_ ?_ hlen hM kk p e s m args below meth cd Rm cells slots Q H locs ls r C hx hq hw hS hl
  · rcases h1 with rfl | rfl <;> rfl
  · rcases h1 with rfl | rfl <;> rfl
theorem nd_ref {f : Nat → Int32} {c k : Nat} {v : Int32} (h : f k = v) : av f c k 2 = .ref (1000 * v.toNatClampNeg) := by
  show Value.ref (1000 * (f k).toNatClampNeg) = _
  rw [h]
end JROWS
