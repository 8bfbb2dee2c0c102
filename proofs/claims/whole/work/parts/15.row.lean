/-! the rows of items, and the two fields of HomeDrives that change -/
theorem inb8 {i : Int32} (h : inb i 8 = true) : i.toNatClampNeg < 8 := Nat.not_le.mp fun q => inb_in h (Or.inr q)
theorem kd_row {i : Int32} (h : inb i 8 = true) : kd (5010 + 1 * i.toNatClampNeg) = some (.inr (.inl (0, 40))) := by
  have h8 := inb8 h
  generalize i.toNatClampNeg = k at h8
  rcases (show k = 0 ∨ k = 1 ∨ k = 2 ∨ k = 3 ∨ k = 4 ∨ k = 5 ∨ k = 6 ∨ k = 7 by omega) with rfl | rfl | rfl | rfl | rfl | rfl | rfl | rfl <;> rfl
theorem row_div {i : Int32} (h : inb i 8 = true) : (5010 + 1 * i.toNatClampNeg) / 1000 = 5 ∧ (5010 + 1 * i.toNatClampNeg) % 1000 = 10 + i.toNatClampNeg := by
  have h8 := inb8 h
  omega
theorem xs_row {Ms : List Mem} {i : Int32} (h : inb i 8 = true) : xs Ms (5010 + 1 * i.toNatClampNeg) = (Ms.getD 5 z0) (10 + i.toNatClampNeg) := by
  unfold xs
  rw [(row_div h).1, (row_div h).2]
theorem row_len {i : Int32} (h : inb i 8 = true) {n : Nat} (hn : 6 ≤ n) : (5010 + 1 * i.toNatClampNeg) / 1000 < n := by
  rw [(row_div h).1]
  exact hn
theorem setc_row {Ms : List Mem} {i : Int32} (h : inb i 8 = true) (f : Nat → Int32) : setc Ms (5010 + 1 * i.toNatClampNeg) f = Ms.set 5 (upA (Ms.getD 5 z0) (10 + i.toNatClampNeg) f) := by
  unfold setc
  rw [(row_div h).1, (row_div h).2]
theorem setc_rowU {Ms : List Mem} {i : Int32} (h : inb i 8 = true) {j : Nat} {v : Int32} : setc Ms (5010 + 1 * i.toNatClampNeg) (upd (xs Ms (5010 + 1 * i.toNatClampNeg)) j v) = Ms.set 5 (up (Ms.getD 5 z0) (10 + i.toNatClampNeg) j v) := by
  rw [setc_row h, xs_row h]
  rfl
theorem setc_rowF {Ms : List Mem} {i : Int32} (h : inb i 8 = true) {v : Int32} : setc Ms (5010 + 1 * i.toNatClampNeg) (fillf 40 v (xs Ms (5010 + 1 * i.toNatClampNeg))) = Ms.set 5 (upA (Ms.getD 5 z0) (10 + i.toNatClampNeg) (fillf 40 v ((Ms.getD 5 z0) (10 + i.toNatClampNeg)))) := by
  rw [setc_row h, xs_row h]
theorem setc_rowC {Ms : List Mem} {i i' : Int32} (h0 : inb i 8 = true) (h : inb i' 8 = true) {a b n : Nat} : setc Ms (5010 + 1 * i'.toNatClampNeg) (va_cpy (xs Ms (5010 + 1 * i.toNatClampNeg)) (xs Ms (5010 + 1 * i'.toNatClampNeg)) a b n) = Ms.set 5 (upA (Ms.getD 5 z0) (10 + i'.toNatClampNeg) (va_cpy ((Ms.getD 5 z0) (10 + i.toNatClampNeg)) ((Ms.getD 5 z0) (10 + i'.toNatClampNeg)) a b n)) := by
  rw [setc_row h, xs_row h, xs_row h0]
theorem avs_setR {f : Nat → Int32} {c : Nat} {fcs : List Nat} {k n : Nat} (h : fcs[k]? = some 2) (hn : n < 2 ^ 31) (ad : Nat → Nat) : ((avs f c fcs).map (tv ad)).set k (.ref (ad (1000 * n))) = (avs (upd f k (Int32.ofNat n)) c fcs).map (tv ad) := by
  apply List.ext_getElem?
  intro j
  unfold avs
  by_cases hj : k = j
  · subst hj
    have hl : k < fcs.length := (List.getElem?_eq_some_iff.mp h).1
    rw [List.getElem?_set_self (by simpa using hl), List.getElem?_map, List.getElem?_mapIdx, h]
    have e : (Int32.ofNat n).toNatClampNeg = n := nI_clamp hn
    simp [av, tv, upd, e]
  · rw [List.getElem?_set_ne hj, List.getElem?_map, List.getElem?_mapIdx, List.getElem?_map, List.getElem?_mapIdx]
    cases fcs[j]? with
    | none => rfl
    | some fc =>
      have : upd f k (Int32.ofNat n) j = f j := by simp [upd, Ne.symm hj]
      simp only [Option.map_some, Option.some.injEq]
      congr 1
      match fc with
      | 0 => simp only [av, this]
      | 1 => rfl
      | 2 => simp only [av, this]
      | n + 3 => rfl
section RROWS
variable {G : GE} {M : MI} {R : Type} {E : R → Option Value × List Mem} {pc : Nat} {lv : List (Nat × Value)} {st : List Value} {Ms : List Mem} {x : Option R}
theorem K_putR {idx ci k c n : Nat} {fcs : List Nat} {Ms' : List Mem} (hd : decode M.2.1 pc = .ok (.putfield idx, 3)) (hf : FP M.1 idx ci k (.object RX3)) (hk : kd c = some (.inl (ci, fcs))) (hc : fcs[k]? = some 2) (hn : n < 2 ^ 31) (hlen : c / 1000 < Ms.length) (hM : setc Ms c (upd (xs Ms c) k (Int32.ofNat n)) = Ms') (kk : K G M E (pc + 3) lv st Ms' x) : K G M E pc lv (.ref (1000 * n) :: .ref c :: st) Ms x := by
  intro p e s m args below meth cd Rm cells slots Q H locs ls r C hx hq hw hS hl
  subst hM
  obtain ⟨q, h1, h2⟩ := wl_at (G := G) (Ms := Ms) hk
  obtain ⟨Cn, T, N, hCI, hkN, hln, hfin, hty⟩ := hf
  obtain ⟨ty0, hty0⟩ := hCI.2.2.1
  have hts := okl_at C.2.2.2.2.2.2.1 args
  have hl9 : k < ((avs (xs Ms c) c fcs).map (tv (gA G))).length := (List.getElem?_eq_some_iff.mp (avs_at hc _)).1
  have fin : ∀ (H1 : Heap) (locs1 : List Loc), va_P (gD G) vwCl ((wl G Ms).set q (gA G c, .inr (ci, ((avs (xs Ms c) c fcs).map (tv (gA G))).set k (.ref (gA G (1000 * n)))))) H1 → va_S (gZ G) s.heap H1 locs1 → W p G.1 e Rm s m args below meth cd H1 locs1 cells slots Q (F0 m (pc + 3) ls (st.map (tv (gA G)))) := by
    intro H1 locs1 hP1 hS1
    rw [avs_setR hc hn] at hP1
    exact kk p e s m args below meth cd Rm cells slots Q H1 locs1 ls r C hx hq (wl_set h1 hk hlen hP1) hS1 hl
  rcases hln with hln | ⟨host, hln⟩
  · exact va_put C.1 C.2.1 hts hCI.2.1 ty0 hty0 hCI.2.2.2 C.2.2.2.2.2.1 C.2.2.2.2.2.2.1.2.1 (wl_P hw) (wl_D C.2.2.2.2.2.2.2.2.1) hS q h2 hCI.1 k hkN (hts _ hln) (fun _ h => h) hfin hty rfl rfl hl9 hd (fun H1 locs1 hP1 _ hS1 => fin H1 locs1 hP1 hS1)
  · exact va_putN C.1 C.2.1 hts hCI.2.1 ty0 hty0 hCI.2.2.2 C.2.2.2.2.2.1 C.2.2.2.2.2.2.1.2.1 (wl_P hw) (wl_D C.2.2.2.2.2.2.2.2.1) hS q h2 hCI.1 k hkN (hts _ hln) (fun _ h => h) hfin hty rfl rfl hl9 hd (fun H1 locs1 hP1 _ hS1 => fin H1 locs1 hP1 hS1)
end RROWS
