/-! the world as a list, for the kit's rows -/
def codesL : List Nat := (List.range 12000).filter (fun c => (kd c).isSome)
def wl (G : GE) (Ms : List Mem) : va_W := codesL.map fun c => (gA G c, ((kd c).map (el (gA G) (gC G) c (xs Ms c))).getD (.inr (0, [])))
theorem kd_lt {c : Nat} {k : KD} (h : kd c = some k) : c < 12000 := by
  rcases Nat.lt_or_ge c 12000 with h1 | h1
  · exact h1
  · exfalso
    unfold kd at h
    have h2 : kdL.length ≤ c / 1000 := by
      show 12 ≤ c / 1000
      omega
    rw [show kdL.getD (c / 1000) [] = [] by rw [List.getD_eq_getElem?_getD, List.getElem?_eq_none h2]; rfl] at h
    simp at h
theorem codes_mem {c : Nat} {k : KD} (h : kd c = some k) : c ∈ codesL := List.mem_filter.mpr ⟨List.mem_range.mpr (kd_lt h), by rw [h]; rfl⟩
theorem wl_at {G : GE} {Ms : List Mem} {c : Nat} {k : KD} (h : kd c = some k) : ∃ q : Nat, codesL[q]? = some c ∧ (wl G Ms)[q]? = some (gA G c, el (gA G) (gC G) c (xs Ms c) k) := by
  obtain ⟨q, hq⟩ := List.getElem?_of_mem (codes_mem h)
  refine ⟨q, hq, ?_⟩
  unfold wl
  rw [List.getElem?_map, hq, Option.map_some, h]
  rfl
theorem wl_back {G : GE} {Ms : List Mem} {q : Nat} {x : Nat × va_E} (h : (wl G Ms)[q]? = some x) : ∃ c k, codesL[q]? = some c ∧ kd c = some k ∧ x = (gA G c, el (gA G) (gC G) c (xs Ms c) k) := by
  unfold wl at h
  rw [List.getElem?_map] at h
  cases hc : codesL[q]? with
  | none => rw [hc] at h; cases h
  | some c =>
    rw [hc] at h
    have hm := (List.mem_filter.mp (List.mem_of_getElem? hc)).2
    obtain ⟨k, hk⟩ := Option.isSome_iff_exists.mp hm
    refine ⟨c, k, rfl, hk, ?_⟩
    simp only [Option.map_some, hk] at h
    exact (Option.some.inj h).symm
theorem wl_P {G : GE} {Ms : List Mem} {H : Heap} (h : wd G Ms H) : va_P (gD G) vwCl (wl G Ms) H := by
  intro q x hx
  obtain ⟨c, k, -, hk, rfl⟩ := wl_back hx
  exact h c k hk
theorem nodup_at {l : List Nat} (h : l.Nodup) {i j a : Nat} (hi : l[i]? = some a) (hj : l[j]? = some a) : i = j := by
  obtain ⟨h1, e1⟩ := List.getElem?_eq_some_iff.mp hi
  obtain ⟨h2, e2⟩ := List.getElem?_eq_some_iff.mp hj
  have hp := List.pairwise_iff_getElem.mp h
  rcases Nat.lt_trichotomy i j with q | q | q
  · exact absurd (e1.trans e2.symm) (hp i j h1 h2 q)
  · exact q
  · exact absurd (e2.trans e1.symm) (hp j i h2 h1 q)
theorem codes_nodup : codesL.Nodup := List.Pairwise.filter _ List.nodup_range
theorem wl_D {G : GE} {Ms : List Mem} (h : dj G) : va_D (gZ G) (wl G Ms) := by
  refine ⟨fun i j x y hi hj hxy => ?_, fun q x hx => ?_⟩
  · obtain ⟨c, k, h1, hk, rfl⟩ := wl_back hi
    obtain ⟨c', k', h2, hk', rfl⟩ := wl_back hj
    have e := h.1 c c' k k' hk hk' hxy
    subst e
    exact nodup_at codes_nodup h1 h2
  · obtain ⟨c, k, -, hk, rfl⟩ := wl_back hx
    exact h.2 c k hk
theorem xs_set {Ms : List Mem} {c : Nat} (f : Nat → Int32) (hc : c / 1000 < Ms.length) (c' : Nat) : xs (Ms.set (c / 1000) (upA (Ms.getD (c / 1000) z0) (c % 1000) f)) c' = if c' = c then f else xs Ms c' := by
  unfold xs
  by_cases h1 : c' / 1000 = c / 1000
  · have e : (Ms.set (c / 1000) (upA (Ms.getD (c / 1000) z0) (c % 1000) f)).getD (c' / 1000) z0 = upA (Ms.getD (c / 1000) z0) (c % 1000) f := by
      rw [h1]
      simp [List.getD, hc]
    rw [e]
    unfold upA
    by_cases h2 : c' % 1000 = c % 1000
    · have : c' = c := by omega
      subst this
      simp
    · have : ¬ c' = c := fun q => h2 (by rw [q])
      rw [if_neg h2, if_neg this, h1]
  · have : ¬ c' = c := fun q => h1 (by rw [q])
    rw [if_neg this]
    congr 1
    simp only [List.getD, List.getElem?_set, Ne.symm h1, if_false]
/-- what the memories become when one cell's contents do -/
def setc (Ms : List Mem) (c : Nat) (f : Nat → Int32) : List Mem := Ms.set (c / 1000) (upA (Ms.getD (c / 1000) z0) (c % 1000) f)
theorem wl_set {G : GE} {Ms : List Mem} {H : Heap} {q c : Nat} {k : KD} {f : Nat → Int32} (hq : codesL[q]? = some c) (hk : kd c = some k) (hc : c / 1000 < Ms.length) (h : va_P (gD G) vwCl ((wl G Ms).set q (gA G c, el (gA G) (gC G) c f k)) H) : wd G (setc Ms c f) H := by
  intro c' k' hk'
  unfold setc
  rw [xs_set f hc c']
  obtain ⟨q', h1, h2⟩ := wl_at (G := G) (Ms := Ms) hk'
  by_cases e : c' = c
  · subst e
    rw [if_pos rfl]
    have : q' = q := nodup_at codes_nodup h1 hq
    subst this
    have e2 : k' = k := Option.some.inj (hk'.symm.trans hk)
    subst e2
    exact h q' _ (List.getElem?_set_self (List.getElem?_eq_some_iff.mp h2).1)
  · rw [if_neg e]
    have hne : ¬ q = q' := fun z => e (by rw [z, h1] at hq; exact Option.some.inj hq)
    exact h q' _ ((List.getElem?_set_ne hne).trans h2)
/-! fields -/
/-- class ci of vwCl, with what its words say -/
def CI (ci : Nat) (C : String) (T : u_T) (N : Nat) : Prop := vwCl[ci]? = some (C, T, N) ∧ (∀ w ∈ u_ws C T N, w ∈ okl) ∧ (∃ ty0 : Nat → FieldType, ∀ k, k < N → parseFieldDescriptor (T k).2.2.1 = some (ty0 k)) ∧ ∀ a, a < N → ∀ b, b < N → a ≠ b → (T a).2.1 ≠ (T b).2.1
/-- entry idx of class own names field k of class ci -/
def FL (own : String) (idx ci k : Nat) : Prop := ∃ (C : String) (T : u_T) (N : Nat), CI ci C T N ∧ k < N ∧ (Cond.fieldLink own idx (T k).1 (T k).2.1 (T k).2.2.1 ∈ okl ∨ ∃ host, Cond.fieldLinkNest own idx (T k).1 (T k).2.1 (T k).2.2.1 host ∈ okl)
/-- and that one may be written, a number of type ty -/
def FP (own : String) (idx ci k : Nat) (ty : FieldType) : Prop := ∃ (C : String) (T : u_T) (N : Nat), CI ci C T N ∧ k < N ∧ (Cond.fieldLink own idx (T k).1 (T k).2.1 (T k).2.2.1 ∈ okl ∨ ∃ host, Cond.fieldLinkNest own idx (T k).1 (T k).2.1 (T k).2.2.1 host ∈ okl) ∧ (T k).2.2.2 = false ∧ parseFieldDescriptor (T k).2.2.1 = some ty
theorem avs_at {f : Nat → Int32} {c : Nat} {fcs : List Nat} {k fc : Nat} (h : fcs[k]? = some fc) (ad : Nat → Nat) : ((avs f c fcs).map (tv ad))[k]? = some (tv ad (av f c k fc)) := by
  unfold avs
  rw [List.getElem?_map, List.getElem?_mapIdx, h]
  rfl
section HROWS
variable {G : GE} {M : MI} {R : Type} {E : R → Option Value × List Mem} {pc : Nat} {lv : List (Nat × Value)} {st : List Value} {Ms : List Mem} {x : Option R}
theorem K_get {idx ci k c fc : Nat} {fcs : List Nat} {v : Value} (hd : decode M.2.1 pc = .ok (.getfield idx, 3)) (hf : FL M.1 idx ci k) (hk : kd c = some (.inl (ci, fcs))) (hc : fcs[k]? = some fc) (hv : av (xs Ms c) c k fc = v) (kk : K G M E (pc + 3) lv (v :: st) Ms x) : K G M E pc lv (.ref c :: st) Ms x := by
  intro p e s m args below meth cd Rm cells slots Q H locs ls r C hx hq hw hS hl
  subst hv
  obtain ⟨q, -, h2⟩ := wl_at (G := G) (Ms := Ms) hk
  obtain ⟨Cn, T, N, hCI, hkN, hln⟩ := hf
  have hts := okl_at C.2.2.2.2.2.2.1 args
  rcases hln with hln | ⟨host, hln⟩
  · exact va_get C.1 C.2.1 hts hCI.2.1 C.2.2.2.2.2.1 C.2.2.2.2.2.2.1.2.1 (wl_P hw) q h2 hCI.1 k hkN (hts _ hln) (fun _ h => h) (avs_at hc _) hd (kk p e s m args below meth cd Rm cells slots Q H locs ls r C hx hq hw hS hl)
  · exact va_getN C.1 C.2.1 hts hCI.2.1 C.2.2.2.2.2.1 C.2.2.2.2.2.2.1.2.1 (wl_P hw) q h2 hCI.1 k hkN (hts _ hln) (fun _ h => h) (avs_at hc _) hd (kk p e s m args below meth cd Rm cells slots Q H locs ls r C hx hq hw hS hl)
theorem avs_set {f : Nat → Int32} {c : Nat} {fcs : List Nat} {k : Nat} {v : Int32} (h : fcs[k]? = some 0) (ad : Nat → Nat) : ((avs f c fcs).map (tv ad)).set k (.int v) = (avs (upd f k v) c fcs).map (tv ad) := by
  apply List.ext_getElem?
  intro j
  unfold avs
  by_cases hj : k = j
  · subst hj
    have hl : k < fcs.length := (List.getElem?_eq_some_iff.mp h).1
    rw [List.getElem?_set_self (by simpa using hl), List.getElem?_map, List.getElem?_mapIdx, h]
    simp [av, tv, upd]
  · rw [List.getElem?_set_ne hj, List.getElem?_map, List.getElem?_mapIdx, List.getElem?_map, List.getElem?_mapIdx]
    cases fcs[j]? with
    | none => rfl
    | some fc =>
      have : upd f k v j = f j := by simp [upd, Ne.symm hj]
      simp only [Option.map_some, Option.some.injEq]
      congr 1
      match fc with
      | 0 => simp only [av, this]
      | 1 => rfl
      | 2 => simp only [av, this]
      | n + 3 => rfl
/-- a number into a field; ty is .int, or .boolean where the number is known to be 0 or 1 -/
theorem K_put {idx ci k c : Nat} {fcs : List Nat} {v : Int32} {ty : FieldType} {Ms' : List Mem} (hd : decode M.2.1 pc = .ok (.putfield idx, 3)) (hf : FP M.1 idx ci k ty) (hk : kd c = some (.inl (ci, fcs))) (hc : fcs[k]? = some 0) (hn : narrow ty (.int v) = .int v) (hfit : fits ty (.int v) = true) (hlen : c / 1000 < Ms.length) (hM : setc Ms c (upd (xs Ms c) k v) = Ms') (kk : K G M E (pc + 3) lv st Ms' x) : K G M E pc lv (.int v :: .ref c :: st) Ms x := by
  intro p e s m args below meth cd Rm cells slots Q H locs ls r C hx hq hw hS hl
  subst hM
  obtain ⟨q, h1, h2⟩ := wl_at (G := G) (Ms := Ms) hk
  obtain ⟨Cn, T, N, hCI, hkN, hln, hfin, hty⟩ := hf
  obtain ⟨ty0, hty0⟩ := hCI.2.2.1
  have hts := okl_at C.2.2.2.2.2.2.1 args
  have hl9 : k < ((avs (xs Ms c) c fcs).map (tv (gA G))).length := (List.getElem?_eq_some_iff.mp (avs_at hc _)).1
  have fin : ∀ (H1 : Heap) (locs1 : List Loc), va_P (gD G) vwCl ((wl G Ms).set q (gA G c, .inr (ci, ((avs (xs Ms c) c fcs).map (tv (gA G))).set k (.int v)))) H1 → va_S (gZ G) s.heap H1 locs1 → W p G.1 e Rm s m args below meth cd H1 locs1 cells slots Q (F0 m (pc + 3) ls (st.map (tv (gA G)))) := by
    intro H1 locs1 hP1 hS1
    rw [avs_set hc] at hP1
    exact kk p e s m args below meth cd Rm cells slots Q H1 locs1 ls r C hx hq (wl_set h1 hk hlen hP1) hS1 hl
  rcases hln with hln | ⟨host, hln⟩
  · exact va_put C.1 C.2.1 hts hCI.2.1 ty0 hty0 hCI.2.2.2 C.2.2.2.2.2.1 C.2.2.2.2.2.2.1.2.1 (wl_P hw) (wl_D C.2.2.2.2.2.2.2.2.1) hS q h2 hCI.1 k hkN (hts _ hln) (fun _ h => h) hfin hty hn hfit hl9 hd (fun H1 locs1 hP1 _ hS1 => fin H1 locs1 hP1 hS1)
  · exact va_putN C.1 C.2.1 hts hCI.2.1 ty0 hty0 hCI.2.2.2 C.2.2.2.2.2.1 C.2.2.2.2.2.2.1.2.1 (wl_P hw) (wl_D C.2.2.2.2.2.2.2.2.1) hS q h2 hCI.1 k hkN (hts _ hln) (fun _ h => h) hfin hty hn hfit hl9 hd (fun H1 locs1 hP1 _ hS1 => fin H1 locs1 hP1 hS1)
/-! arrays -/
theorem K_iald {c n : Nat} {i : Int32} {f : Nat → Int32} (hd : decode M.2.1 pc = .ok (.iaload, 1)) (hk : kd c = some (.inr (.inl (0, n)))) (hf : xs Ms c = f) (kk : K G M E (pc + 1) lv (.int (f i.toNatClampNeg) :: st) Ms x) : K G M E pc lv (.int i :: .ref c :: st) Ms (gd (inb i n) x) := by
  intro p e s m args below meth cd Rm cells slots Q H locs ls r C hx hq hw hS hl
  subst hf
  obtain ⟨h1, hx⟩ := gd_some hx
  obtain ⟨q, -, h2⟩ := wl_at (G := G) (Ms := Ms) hk
  exact va_iald C.1 C.2.1 C.2.2.2.2.2.2.1.2.1 (wl_P hw) q 0 h2 rfl (inb_in h1) hd (kk p e s m args below meth cd Rm cells slots Q H locs ls r C hx hq hw hS hl)
theorem K_bald {c n : Nat} {i : Int32} {f : Nat → Int32} (hd : decode M.2.1 pc = .ok (.baload, 1)) (hk : kd c = some (.inr (.inl (1, n)))) (hf : xs Ms c = f) (kk : K G M E (pc + 1) lv (.int (f i.toNatClampNeg) :: st) Ms x) : K G M E pc lv (.int i :: .ref c :: st) Ms (gd (inb i n) x) := by
  intro p e s m args below meth cd Rm cells slots Q H locs ls r C hx hq hw hS hl
  subst hf
  obtain ⟨h1, hx⟩ := gd_some hx
  obtain ⟨q, -, h2⟩ := wl_at (G := G) (Ms := Ms) hk
  exact va_bald C.1 C.2.1 C.2.2.2.2.2.2.1.2.1 (wl_P hw) q 1 h2 rfl (inb_in h1) hd (kk p e s m args below meth cd Rm cells slots Q H locs ls r C hx hq hw hS hl)
theorem K_zald {c n : Nat} {i : Int32} {f : Nat → Int32} (hd : decode M.2.1 pc = .ok (.baload, 1)) (hk : kd c = some (.inr (.inl (2, n)))) (hf : xs Ms c = f) (kk : K G M E (pc + 1) lv (.int (f i.toNatClampNeg) :: st) Ms x) : K G M E pc lv (.int i :: .ref c :: st) Ms (gd (inb i n) x) := by
  intro p e s m args below meth cd Rm cells slots Q H locs ls r C hx hq hw hS hl
  subst hf
  obtain ⟨h1, hx⟩ := gd_some hx
  obtain ⟨q, -, h2⟩ := wl_at (G := G) (Ms := Ms) hk
  exact va_zald C.1 C.2.1 C.2.2.2.2.2.2.1.2.1 (wl_P hw) q 2 h2 rfl (inb_in h1) hd (kk p e s m args below meth cd Rm cells slots Q H locs ls r C hx hq hw hS hl)
theorem K_iast {c n : Nat} {i v : Int32} {Ms' : List Mem} (hd : decode M.2.1 pc = .ok (.iastore, 1)) (hk : kd c = some (.inr (.inl (0, n)))) (hlen : c / 1000 < Ms.length) (hM : setc Ms c (upd (xs Ms c) i.toNatClampNeg v) = Ms') (kk : K G M E (pc + 1) lv st Ms' x) : K G M E pc lv (.int v :: .int i :: .ref c :: st) Ms (gd (inb i n) x) := by
  intro p e s m args below meth cd Rm cells slots Q H locs ls r C hx hq hw hS hl
  subst hM
  obtain ⟨h1, hx⟩ := gd_some hx
  obtain ⟨q, h9, h2⟩ := wl_at (G := G) (Ms := Ms) hk
  exact va_iast C.1 C.2.1 C.2.2.2.2.2.2.1.2.1 (wl_P hw) (wl_D C.2.2.2.2.2.2.2.2.1) hS q 0 h2 rfl (inb_in h1) hd (fun H1 locs1 hP1 _ hS1 => kk p e s m args below meth cd Rm cells slots Q H1 locs1 ls r C hx hq (wl_set h9 hk hlen hP1) hS1 hl)
theorem K_bast {c n : Nat} {i v : Int32} {Ms' : List Mem} (hd : decode M.2.1 pc = .ok (.bastore, 1)) (hk : kd c = some (.inr (.inl (1, n)))) (hlen : c / 1000 < Ms.length) (hM : setc Ms c (upd (xs Ms c) i.toNatClampNeg (vp_nar .byte v)) = Ms') (kk : K G M E (pc + 1) lv st Ms' x) : K G M E pc lv (.int v :: .int i :: .ref c :: st) Ms (gd (inb i n) x) := by
  intro p e s m args below meth cd Rm cells slots Q H locs ls r C hx hq hw hS hl
  subst hM
  obtain ⟨h1, hx⟩ := gd_some hx
  obtain ⟨q, h9, h2⟩ := wl_at (G := G) (Ms := Ms) hk
  exact va_bast C.1 C.2.1 C.2.2.2.2.2.2.1.2.1 (wl_P hw) (wl_D C.2.2.2.2.2.2.2.2.1) hS q 1 h2 rfl (inb_in h1) hd (fun H1 locs1 hP1 _ hS1 => kk p e s m args below meth cd Rm cells slots Q H1 locs1 ls r C hx hq (wl_set h9 hk hlen hP1) hS1 hl)
theorem K_zast {c n : Nat} {i v : Int32} {Ms' : List Mem} (hd : decode M.2.1 pc = .ok (.bastore, 1)) (hk : kd c = some (.inr (.inl (2, n)))) (hlen : c / 1000 < Ms.length) (hM : setc Ms c (upd (xs Ms c) i.toNatClampNeg (vp_nar .boolean v)) = Ms') (kk : K G M E (pc + 1) lv st Ms' x) : K G M E pc lv (.int v :: .int i :: .ref c :: st) Ms (gd (inb i n) x) := by
  intro p e s m args below meth cd Rm cells slots Q H locs ls r C hx hq hw hS hl
  subst hM
  obtain ⟨h1, hx⟩ := gd_some hx
  obtain ⟨q, h9, h2⟩ := wl_at (G := G) (Ms := Ms) hk
  exact va_zast C.1 C.2.1 C.2.2.2.2.2.2.1.2.1 (wl_P hw) (wl_D C.2.2.2.2.2.2.2.2.1) hS q 2 h2 rfl (inb_in h1) hd (fun H1 locs1 hP1 _ hS1 => kk p e s m args below meth cd Rm cells slots Q H1 locs1 ls r C hx hq (wl_set h9 hk hlen hP1) hS1 hl)
theorem K_alen {c n t : Nat} {v : Int32} (hd : decode M.2.1 pc = .ok (.arraylength, 1)) (hk : kd c = some (.inr (.inl (t, n)))) (ht : t < 3) (hv : Int32.ofNat n = v) (kk : K G M E (pc + 1) lv (.int v :: st) Ms x) : K G M E pc lv (.ref c :: st) Ms x := by
  intro p e s m args below meth cd Rm cells slots Q H locs ls r C hx hq hw hS hl
  obtain ⟨q, -, h2⟩ := wl_at (G := G) (Ms := Ms) hk
  have h3 : ∃ ty, (tysL (gC G))[t]? = some (gC G t, ty) := by
    rcases (show t = 0 ∨ t = 1 ∨ t = 2 by omega) with rfl | rfl | rfl
    · exact ⟨_, rfl⟩
    · exact ⟨_, rfl⟩
    · exact ⟨_, rfl⟩
  obtain ⟨ty, h3⟩ := h3
  exact va_alen C.1 C.2.1 C.2.2.2.2.2.2.1.2.1 (wl_P hw) q t h2 h3 hv hd (kk p e s m args below meth cd Rm cells slots Q H locs ls r C hx hq hw hS hl)
theorem K_lcmp {a b : Int64} (hd : decode M.2.1 pc = .ok (.lcmp, 1)) (k : K G M E (pc + 1) lv (.int (lg_cmp a b) :: st) Ms x) : K G M E pc lv (.long b :: .long a :: st) Ms x := by
  intro p e s m args below meth c Rm cells slots Q H locs ls r C hx hq hw hS hl
  exact W.lcmp C.1 C.2.1 hd (k p e s m args below meth c Rm cells slots Q H locs ls r C hx hq hw hS hl)
/-- names for what is computed -/
theorem K_nmi {a : Int32} {k : Int32 → Option R} (h : ∀ v : Int32, K G M E pc lv (.int v :: st) Ms (k v)) : K G M E pc lv (.int a :: st) Ms (nm a k) := h a
theorem K_nml {a : Int64} {k : Int64 → Option R} (h : ∀ v : Int64, K G M E pc lv (.long v :: st) Ms (k v)) : K G M E pc lv (.long a :: st) Ms (nm a k) := h a
theorem K_nmm (F : Mem → List Mem) {a : Mem} {k : Mem → Option R} (hM : F a = Ms) (h : ∀ v : Mem, K G M E pc lv st (F v) (k v)) : K G M E pc lv st Ms (nm a k) := hM ▸ h a
/-- the method's end -/
theorem K_ret {r : R} {rv : Option Value} (hd : decode M.2.1 pc = .ok (rti rv, 1)) (hR : rok M.2.2.2.1 rv) (hE : E r = (rv, Ms)) (hst : rv.toList = st) : K G M E pc lv st Ms (some r) := by
  intro p e s m args below meth c Rm cells slots Q H locs ls r' C hx hq hw hS hl
  cases hx
  subst hst
  have h := hq pc H locs ls (by rw [hE]; exact hd) (by rw [hE]; exact hR) (by rw [hE]; exact hw) hS
  rw [hE] at h
  exact h
theorem K_retB {r : R} {v : Int32} (hd : decode M.2.1 pc = .ok (.ireturn, 1)) (hR : M.2.2.2.1 = some .boolean) (hE : E r = (some (.int v), Ms)) : K G M E pc lv [.int v] Ms (gd (decide (v = 0 ∨ v = 1)) (some r)) := by
  intro p e s m args below meth c Rm cells slots Q H locs ls r' C hx hq hw hS hl
  obtain ⟨h1, hx⟩ := gd_some hx
  have h1 := of_decide_eq_true h1
  refine K_ret (rv := some (.int v)) hd ?_ hE rfl p e s m args below meth c Rm cells slots Q H locs ls r' C hx hq hw hS hl
  rw [hR]
  rcases h1 with rfl | rfl <;> rfl
end HROWS
