/-! the two evenings of a HomeDrives change places: addresses and memories with them -/
abbrev M12 : Type := Mem × Mem × Mem × Mem × Mem × Mem × Mem × Mem × Mem × Mem × Mem × Mem
abbrev e_law : M12 → Option Value × List Mem := fun r => (some (.int 1), [r.1, r.2.1, r.2.2.1, r.2.2.2.1, r.2.2.2.2.1, r.2.2.2.2.2.1, r.2.2.2.2.2.2.1, r.2.2.2.2.2.2.2.1, r.2.2.2.2.2.2.2.2.1, r.2.2.2.2.2.2.2.2.2.1, r.2.2.2.2.2.2.2.2.2.2.1, r.2.2.2.2.2.2.2.2.2.2.2])
abbrev mi_law : MI := (RL, cL_law, 4, some .boolean, 100)
def swc (c : Nat) : Nat := if c / 1000 = 1 then c + 1000 else if c / 1000 = 2 then c - 1000 else c
def swv (v : Int32) : Int32 := if v = 1 then 2 else if v = 2 then 1 else v
def sw11 (m : Mem) : Mem := up (up m 0 7 (swv (m 0 7))) 0 8 (swv (m 0 8))
def swapG (G : GE) : GE := (G.1, G.2.1, fun c => G.2.2.1 (swc c), G.2.2.2)
def swap12 (r : M12) : M12 := (r.1, r.2.2.1, r.2.1, r.2.2.2.1, r.2.2.2.2.1, r.2.2.2.2.2.1, r.2.2.2.2.2.2.1, r.2.2.2.2.2.2.2.1, r.2.2.2.2.2.2.2.2.1, r.2.2.2.2.2.2.2.2.2.1, r.2.2.2.2.2.2.2.2.2.2.1, sw11 r.2.2.2.2.2.2.2.2.2.2.2)
theorem swc_big {c : Nat} (h : 3000 ≤ c) : swc c = c := by
  unfold swc
  rw [if_neg (by omega), if_neg (by omega)]
theorem swc_swc (c : Nat) : swc (swc c) = c := by
  unfold swc
  by_cases h1 : c / 1000 = 1
  · rw [if_pos h1, if_neg (by omega), if_pos (by omega)]; omega
  · by_cases h2 : c / 1000 = 2
    · rw [if_neg h1, if_pos h2, if_pos (by omega)]; omega
    · rw [if_neg h1, if_neg h2, if_neg h1, if_neg h2]
theorem swv_ref (v : Int32) : swc (1000 * (swv v).toNatClampNeg) = 1000 * v.toNatClampNeg := by
  unfold swv
  by_cases h1 : v = 1
  · subst h1; rfl
  · by_cases h2 : v = 2
    · subst h2; rfl
    · rw [if_neg h1, if_neg h2]
      have key : ∀ n : Nat, n < 2 ^ 31 → v.toNatClampNeg = n → 0 < n → v = Int32.ofNat n := by
        intro n hn e hp
        by_cases hv : v < 0
        · exfalso
          have h3 : v.toInt < 0 := by simpa using Int32.lt_iff_toInt_lt.mp hv
          have h4 : v.toNatClampNeg = v.toInt.toNat := rfl
          rw [h4] at e
          omega
        · obtain ⟨j, hj, ej⟩ := nI_of hv
          rw [ej, nI_clamp hj] at e
          rw [ej, e]; rfl
      unfold swc
      rw [if_neg, if_neg]
      · intro h
        exact h2 (key 2 (by omega) (by omega) (by omega))
      · intro h
        exact h1 (key 1 (by omega) (by omega) (by omega))
def clist : List Nat := [0, 3, 4, 5, 6, 7, 9, 10, 12, 22, 23, 24, 25, 26, 30, 32, 33, 34, 35, 36, 1000, 1011, 1012, 1013, 1014, 1015, 1016, 1017, 1018, 2000, 2011, 2012, 2013, 2014, 2015, 2016, 2017, 2018, 3000, 3001, 3002, 3007, 3010, 3011, 4000, 4001, 5000, 5001, 5002, 5003, 5010, 5011, 5012, 5013, 5014, 5015, 5016, 5017, 6000, 6001, 6002, 7000, 7001, 8000, 8001, 9000, 9011, 9012, 9013, 9014, 9015, 9016, 9017, 9018, 10000, 10011, 10012, 10013, 10014, 10015, 10016, 10017, 10018, 11000, 11003]
theorem kd_mem {c : Nat} {k : KD} (h : kd c = some k) : c ∈ clist := by
  have hc := kd_lt h
  have key : ∀ g, g < 12 → ∀ s, s < 40 → (kd (1000 * g + s)).isSome = true → 1000 * g + s ∈ clist := by decide +kernel
  have hs : c % 1000 < 40 := by
    rcases Nat.lt_or_ge (c % 1000) 40 with h1 | h1
    · exact h1
    · exfalso
      have hl : ∀ l ∈ kdL, l.length ≤ 40 := by decide +kernel
      have h2 : (kdL.getD (c / 1000) []).length ≤ 40 := by
        rw [List.getD_eq_getElem?_getD]
        cases h3 : kdL[c / 1000]? with
        | none => exact Nat.zero_le _
        | some l => exact hl l (List.mem_of_getElem? h3)
      unfold kd at h
      rw [List.getD_eq_getElem?_getD, List.getElem?_eq_none (by omega)] at h
      cases h
  have e : c = 1000 * (c / 1000) + c % 1000 := by omega
  have := key (c / 1000) (by omega) (c % 1000) hs (by rw [← e, h]; rfl)
  rw [← e] at this
  exact this
theorem el_main (ad : Nat → Nat) (cy : Nat → ClassId) (m : Mem) : el (fun c => ad (swc c)) cy 11000 (sw11 m 0) (.inl (7, [8, 7, 1, 9, 6, 10, 11, 2, 2, 0])) = el ad cy 11000 (m 0) (.inl (7, [8, 7, 1, 9, 6, 10, 11, 2, 2, 0])) := by
  have e7 : sw11 m 0 7 = swv (m 0 7) := rfl
  have e8 : sw11 m 0 8 = swv (m 0 8) := rfl
  have e9 : sw11 m 0 9 = m 0 9 := rfl
  simp only [el, avs, List.mapIdx_cons, List.mapIdx_nil, List.map_cons, List.map_nil, av, tv, e7, e8, e9, swv_ref]
  rfl
theorem el_refs (ad : Nat → Nat) (cy : Nat → ClassId) {c c' t n b st : Nat} (hb : 3000 ≤ b) (f g : Nat → Int32) : el (fun c => ad (swc c)) cy c f (.inr (.inr (t, n, b, st))) = el ad cy c' g (.inr (.inr (t, n, b, st))) := by
  have e : (fun j => if j < n then some (ad (swc (b + st * j))) else none) = fun j => if j < n then some (ad (b + st * j)) else none := by
    funext j
    rw [swc_big (Nat.le_trans hb (Nat.le_add_right _ _))]
  simp only [el]
  rw [e]
theorem el_obj (ad : Nat → Nat) (cy : Nat → ClassId) {c ci : Nat} {fcs : List Nat} (f : Nat → Int32) (hc : c % 1000 = 0) (hl : fcs.length ≤ 40) (hf : ∀ fc ∈ fcs, fc ≠ 2 ∧ fc ≠ 4 ∧ fc ≠ 5) : el (fun c => ad (swc c)) cy c f (.inl (ci, fcs)) = el ad cy (swc c) f (.inl (ci, fcs)) := by
  simp only [el]
  congr 2
  apply List.ext_getElem?
  intro j
  unfold avs
  rw [List.getElem?_map, List.getElem?_map, List.getElem?_mapIdx, List.getElem?_mapIdx]
  cases h : fcs[j]? with
  | none => rfl
  | some fc =>
    have hj : j < fcs.length := (List.getElem?_eq_some_iff.mp h).1
    obtain ⟨h2, h4, h5⟩ := hf fc (List.mem_of_getElem? h)
    simp only [Option.map_some, Option.some.injEq]
    match fc, h2, h4, h5 with
    | 0, _, _, _ => rfl
    | 1, _, _, _ =>
      show Value.ref (ad (swc (c + j + 1))) = Value.ref (ad (swc c + j + 1))
      have : swc (c + j + 1) = swc c + j + 1 := by
        unfold swc
        by_cases h1 : c / 1000 = 1
        · rw [if_pos h1, if_pos (by omega)]; omega
        · by_cases h9 : c / 1000 = 2
          · rw [if_neg h1, if_pos h9, if_neg (by omega), if_pos (by omega)]; omega
          · rw [if_neg h1, if_neg h9, if_neg (by omega), if_neg (by omega)]
      rw [this]
    | 2, h, _, _ => exact absurd rfl h
    | 4, _, h, _ => exact absurd rfl h
    | 5, _, _, h => exact absurd rfl h
    | 3, _, _, _ => rfl
    | n + 6, _, _, _ =>
      show Value.ref (ad (swc (1000 * (n + 3)))) = Value.ref (ad (1000 * (n + 3)))
      rw [swc_big (by omega)]
theorem el_sw (ad : Nat → Nat) (cy : Nat → ClassId) (m0 m1 m2 m3 m4 m5 m6 m7 m8 m9 m10 m11 : Mem) : ∀ c ∈ clist, ∀ k : KD, kd c = some k → kd (swc c) = some k ∧ el (fun c => ad (swc c)) cy c (xs [m0, m2, m1, m3, m4, m5, m6, m7, m8, m9, m10, sw11 m11] c) k = el ad cy (swc c) (xs [m0, m1, m2, m3, m4, m5, m6, m7, m8, m9, m10, m11] (swc c)) k := by
  unfold clist
  refine List.forall_mem_cons.mpr ⟨fun k hk => by cases hk; exact ⟨rfl, el_obj ad cy (xs [m0, m2, m1, m3, m4, m5, m6, m7, m8, m9, m10, sw11 m11] 0) (by decide) (by decide) (by decide)⟩, ?_⟩
  refine List.forall_mem_cons.mpr ⟨fun k hk => by cases hk; exact ⟨rfl, rfl⟩, ?_⟩
  refine List.forall_mem_cons.mpr ⟨fun k hk => by cases hk; exact ⟨rfl, rfl⟩, ?_⟩
  refine List.forall_mem_cons.mpr ⟨fun k hk => by cases hk; exact ⟨rfl, rfl⟩, ?_⟩
  refine List.forall_mem_cons.mpr ⟨fun k hk => by cases hk; exact ⟨rfl, rfl⟩, ?_⟩
  refine List.forall_mem_cons.mpr ⟨fun k hk => by cases hk; exact ⟨rfl, rfl⟩, ?_⟩
  refine List.forall_mem_cons.mpr ⟨fun k hk => by cases hk; exact ⟨rfl, rfl⟩, ?_⟩
  refine List.forall_mem_cons.mpr ⟨fun k hk => by cases hk; exact ⟨rfl, rfl⟩, ?_⟩
  refine List.forall_mem_cons.mpr ⟨fun k hk => by cases hk; exact ⟨rfl, rfl⟩, ?_⟩
  refine List.forall_mem_cons.mpr ⟨fun k hk => by cases hk; exact ⟨rfl, rfl⟩, ?_⟩
  refine List.forall_mem_cons.mpr ⟨fun k hk => by cases hk; exact ⟨rfl, rfl⟩, ?_⟩
  refine List.forall_mem_cons.mpr ⟨fun k hk => by cases hk; exact ⟨rfl, rfl⟩, ?_⟩
  refine List.forall_mem_cons.mpr ⟨fun k hk => by cases hk; exact ⟨rfl, rfl⟩, ?_⟩
  refine List.forall_mem_cons.mpr ⟨fun k hk => by cases hk; exact ⟨rfl, rfl⟩, ?_⟩
  refine List.forall_mem_cons.mpr ⟨fun k hk => by cases hk; exact ⟨rfl, rfl⟩, ?_⟩
  refine List.forall_mem_cons.mpr ⟨fun k hk => by cases hk; exact ⟨rfl, rfl⟩, ?_⟩
  refine List.forall_mem_cons.mpr ⟨fun k hk => by cases hk; exact ⟨rfl, rfl⟩, ?_⟩
  refine List.forall_mem_cons.mpr ⟨fun k hk => by cases hk; exact ⟨rfl, rfl⟩, ?_⟩
  refine List.forall_mem_cons.mpr ⟨fun k hk => by cases hk; exact ⟨rfl, rfl⟩, ?_⟩
  refine List.forall_mem_cons.mpr ⟨fun k hk => by cases hk; exact ⟨rfl, rfl⟩, ?_⟩
  refine List.forall_mem_cons.mpr ⟨fun k hk => by cases hk; exact ⟨rfl, el_obj ad cy (xs [m0, m2, m1, m3, m4, m5, m6, m7, m8, m9, m10, sw11 m11] 1000) (by decide) (by decide) (by decide)⟩, ?_⟩
  refine List.forall_mem_cons.mpr ⟨fun k hk => by cases hk; exact ⟨rfl, rfl⟩, ?_⟩
  refine List.forall_mem_cons.mpr ⟨fun k hk => by cases hk; exact ⟨rfl, rfl⟩, ?_⟩
  refine List.forall_mem_cons.mpr ⟨fun k hk => by cases hk; exact ⟨rfl, rfl⟩, ?_⟩
  refine List.forall_mem_cons.mpr ⟨fun k hk => by cases hk; exact ⟨rfl, rfl⟩, ?_⟩
  refine List.forall_mem_cons.mpr ⟨fun k hk => by cases hk; exact ⟨rfl, rfl⟩, ?_⟩
  refine List.forall_mem_cons.mpr ⟨fun k hk => by cases hk; exact ⟨rfl, rfl⟩, ?_⟩
  refine List.forall_mem_cons.mpr ⟨fun k hk => by cases hk; exact ⟨rfl, rfl⟩, ?_⟩
  refine List.forall_mem_cons.mpr ⟨fun k hk => by cases hk; exact ⟨rfl, rfl⟩, ?_⟩
  refine List.forall_mem_cons.mpr ⟨fun k hk => by cases hk; exact ⟨rfl, el_obj ad cy (xs [m0, m2, m1, m3, m4, m5, m6, m7, m8, m9, m10, sw11 m11] 2000) (by decide) (by decide) (by decide)⟩, ?_⟩
  refine List.forall_mem_cons.mpr ⟨fun k hk => by cases hk; exact ⟨rfl, rfl⟩, ?_⟩
  refine List.forall_mem_cons.mpr ⟨fun k hk => by cases hk; exact ⟨rfl, rfl⟩, ?_⟩
  refine List.forall_mem_cons.mpr ⟨fun k hk => by cases hk; exact ⟨rfl, rfl⟩, ?_⟩
  refine List.forall_mem_cons.mpr ⟨fun k hk => by cases hk; exact ⟨rfl, rfl⟩, ?_⟩
  refine List.forall_mem_cons.mpr ⟨fun k hk => by cases hk; exact ⟨rfl, rfl⟩, ?_⟩
  refine List.forall_mem_cons.mpr ⟨fun k hk => by cases hk; exact ⟨rfl, rfl⟩, ?_⟩
  refine List.forall_mem_cons.mpr ⟨fun k hk => by cases hk; exact ⟨rfl, rfl⟩, ?_⟩
  refine List.forall_mem_cons.mpr ⟨fun k hk => by cases hk; exact ⟨rfl, rfl⟩, ?_⟩
  refine List.forall_mem_cons.mpr ⟨fun k hk => by cases hk; exact ⟨rfl, el_obj ad cy (xs [m0, m2, m1, m3, m4, m5, m6, m7, m8, m9, m10, sw11 m11] 3000) (by decide) (by decide) (by decide)⟩, ?_⟩
  refine List.forall_mem_cons.mpr ⟨fun k hk => by cases hk; exact ⟨rfl, rfl⟩, ?_⟩
  refine List.forall_mem_cons.mpr ⟨fun k hk => by cases hk; exact ⟨rfl, rfl⟩, ?_⟩
  refine List.forall_mem_cons.mpr ⟨fun k hk => by cases hk; exact ⟨rfl, rfl⟩, ?_⟩
  refine List.forall_mem_cons.mpr ⟨fun k hk => by cases hk; exact ⟨rfl, rfl⟩, ?_⟩
  refine List.forall_mem_cons.mpr ⟨fun k hk => by cases hk; exact ⟨rfl, rfl⟩, ?_⟩
  refine List.forall_mem_cons.mpr ⟨fun k hk => by cases hk; exact ⟨rfl, el_obj ad cy (xs [m0, m2, m1, m3, m4, m5, m6, m7, m8, m9, m10, sw11 m11] 4000) (by decide) (by decide) (by decide)⟩, ?_⟩
  refine List.forall_mem_cons.mpr ⟨fun k hk => by cases hk; exact ⟨rfl, rfl⟩, ?_⟩
  refine List.forall_mem_cons.mpr ⟨fun k hk => by cases hk; exact ⟨rfl, el_obj ad cy (xs [m0, m2, m1, m3, m4, m5, m6, m7, m8, m9, m10, sw11 m11] 5000) (by decide) (by decide) (by decide)⟩, ?_⟩
  refine List.forall_mem_cons.mpr ⟨fun k hk => by cases hk; exact ⟨rfl, rfl⟩, ?_⟩
  refine List.forall_mem_cons.mpr ⟨fun k hk => by cases hk; exact ⟨rfl, rfl⟩, ?_⟩
  refine List.forall_mem_cons.mpr ⟨fun k hk => by cases hk; exact ⟨rfl, el_refs ad cy (by omega) _ _⟩, ?_⟩
  refine List.forall_mem_cons.mpr ⟨fun k hk => by cases hk; exact ⟨rfl, rfl⟩, ?_⟩
  refine List.forall_mem_cons.mpr ⟨fun k hk => by cases hk; exact ⟨rfl, rfl⟩, ?_⟩
  refine List.forall_mem_cons.mpr ⟨fun k hk => by cases hk; exact ⟨rfl, rfl⟩, ?_⟩
  refine List.forall_mem_cons.mpr ⟨fun k hk => by cases hk; exact ⟨rfl, rfl⟩, ?_⟩
  refine List.forall_mem_cons.mpr ⟨fun k hk => by cases hk; exact ⟨rfl, rfl⟩, ?_⟩
  refine List.forall_mem_cons.mpr ⟨fun k hk => by cases hk; exact ⟨rfl, rfl⟩, ?_⟩
  refine List.forall_mem_cons.mpr ⟨fun k hk => by cases hk; exact ⟨rfl, rfl⟩, ?_⟩
  refine List.forall_mem_cons.mpr ⟨fun k hk => by cases hk; exact ⟨rfl, rfl⟩, ?_⟩
  refine List.forall_mem_cons.mpr ⟨fun k hk => by cases hk; exact ⟨rfl, el_obj ad cy (xs [m0, m2, m1, m3, m4, m5, m6, m7, m8, m9, m10, sw11 m11] 6000) (by decide) (by decide) (by decide)⟩, ?_⟩
  refine List.forall_mem_cons.mpr ⟨fun k hk => by cases hk; exact ⟨rfl, rfl⟩, ?_⟩
  refine List.forall_mem_cons.mpr ⟨fun k hk => by cases hk; exact ⟨rfl, rfl⟩, ?_⟩
  refine List.forall_mem_cons.mpr ⟨fun k hk => by cases hk; exact ⟨rfl, el_obj ad cy (xs [m0, m2, m1, m3, m4, m5, m6, m7, m8, m9, m10, sw11 m11] 7000) (by decide) (by decide) (by decide)⟩, ?_⟩
  refine List.forall_mem_cons.mpr ⟨fun k hk => by cases hk; exact ⟨rfl, rfl⟩, ?_⟩
  refine List.forall_mem_cons.mpr ⟨fun k hk => by cases hk; exact ⟨rfl, el_obj ad cy (xs [m0, m2, m1, m3, m4, m5, m6, m7, m8, m9, m10, sw11 m11] 8000) (by decide) (by decide) (by decide)⟩, ?_⟩
  refine List.forall_mem_cons.mpr ⟨fun k hk => by cases hk; exact ⟨rfl, rfl⟩, ?_⟩
  refine List.forall_mem_cons.mpr ⟨fun k hk => by cases hk; exact ⟨rfl, el_obj ad cy (xs [m0, m2, m1, m3, m4, m5, m6, m7, m8, m9, m10, sw11 m11] 9000) (by decide) (by decide) (by decide)⟩, ?_⟩
  refine List.forall_mem_cons.mpr ⟨fun k hk => by cases hk; exact ⟨rfl, rfl⟩, ?_⟩
  refine List.forall_mem_cons.mpr ⟨fun k hk => by cases hk; exact ⟨rfl, rfl⟩, ?_⟩
  refine List.forall_mem_cons.mpr ⟨fun k hk => by cases hk; exact ⟨rfl, rfl⟩, ?_⟩
  refine List.forall_mem_cons.mpr ⟨fun k hk => by cases hk; exact ⟨rfl, rfl⟩, ?_⟩
  refine List.forall_mem_cons.mpr ⟨fun k hk => by cases hk; exact ⟨rfl, rfl⟩, ?_⟩
  refine List.forall_mem_cons.mpr ⟨fun k hk => by cases hk; exact ⟨rfl, rfl⟩, ?_⟩
  refine List.forall_mem_cons.mpr ⟨fun k hk => by cases hk; exact ⟨rfl, rfl⟩, ?_⟩
  refine List.forall_mem_cons.mpr ⟨fun k hk => by cases hk; exact ⟨rfl, rfl⟩, ?_⟩
  refine List.forall_mem_cons.mpr ⟨fun k hk => by cases hk; exact ⟨rfl, el_obj ad cy (xs [m0, m2, m1, m3, m4, m5, m6, m7, m8, m9, m10, sw11 m11] 10000) (by decide) (by decide) (by decide)⟩, ?_⟩
  refine List.forall_mem_cons.mpr ⟨fun k hk => by cases hk; exact ⟨rfl, rfl⟩, ?_⟩
  refine List.forall_mem_cons.mpr ⟨fun k hk => by cases hk; exact ⟨rfl, rfl⟩, ?_⟩
  refine List.forall_mem_cons.mpr ⟨fun k hk => by cases hk; exact ⟨rfl, rfl⟩, ?_⟩
  refine List.forall_mem_cons.mpr ⟨fun k hk => by cases hk; exact ⟨rfl, rfl⟩, ?_⟩
  refine List.forall_mem_cons.mpr ⟨fun k hk => by cases hk; exact ⟨rfl, rfl⟩, ?_⟩
  refine List.forall_mem_cons.mpr ⟨fun k hk => by cases hk; exact ⟨rfl, rfl⟩, ?_⟩
  refine List.forall_mem_cons.mpr ⟨fun k hk => by cases hk; exact ⟨rfl, rfl⟩, ?_⟩
  refine List.forall_mem_cons.mpr ⟨fun k hk => by cases hk; exact ⟨rfl, rfl⟩, ?_⟩
  refine List.forall_mem_cons.mpr ⟨fun k hk => by cases hk; exact ⟨rfl, el_main ad cy m11⟩, ?_⟩
  refine List.forall_mem_cons.mpr ⟨fun k hk => by cases hk; exact ⟨rfl, el_refs ad cy (by omega) _ _⟩, ?_⟩
  exact fun _ h => absurd h List.not_mem_nil
theorem wd_swap {G : GE} {m0 m1 m2 m3 m4 m5 m6 m7 m8 m9 m10 m11 : Mem} {H : Heap} (h : wd G [m0, m1, m2, m3, m4, m5, m6, m7, m8, m9, m10, m11] H) : wd (swapG G) [m0, m2, m1, m3, m4, m5, m6, m7, m8, m9, m10, sw11 m11] H := by
  intro c k hk
  obtain ⟨h1, h2⟩ := el_sw (gA G) (gC G) m0 m1 m2 m3 m4 m5 m6 m7 m8 m9 m10 m11 c (kd_mem hk) k hk
  have h3 := h (swc c) k h1
  rw [← h2] at h3
  exact h3
theorem swapG_swapG (G : GE) : swapG (swapG G) = G := by
  obtain ⟨l, D, ad, cy⟩ := G
  show (l, D, (fun c => ad (swc (swc c))), cy) = _
  congr 3
  funext c
  rw [swc_swc]
theorem dj_swap {G : GE} (h : dj G) : dj (swapG G) := by
  have hk : ∀ c k, kd c = some k → kd (swc c) = some k := fun c k hk => (el_sw (gA G) (gC G) z0 z0 z0 z0 z0 z0 z0 z0 z0 z0 z0 z0 c (kd_mem hk) k hk).1
  refine ⟨fun c c' k k' h1 h2 e => ?_, fun c k h1 => h.2 (swc c) k (hk c k h1)⟩
  have := h.1 (swc c) (swc c') k k' (hk c k h1) (hk c' k' h2) e
  rw [← swc_swc c, this, swc_swc]
theorem FX_swap {G : GE} {U : State} {H : Heap} (h : FX G U H) : FX (swapG G) U H := by
  obtain ⟨h1, h2, h3, h4, h5, h6, h7, h8, h9, h10⟩ := h
  have e0 : (fun i => gA (swapG G) (20000 + i)) = fun i => gA G (20000 + i) := by funext i; show gA G (swc (20000 + i)) = _; rw [swc_big (by omega)]
  have e1 : (fun i => gA (swapG G) (21000 + i)) = fun i => gA G (21000 + i) := by funext i; show gA G (swc (21000 + i)) = _; rw [swc_big (by omega)]
  have e2 : ∀ i, gA (swapG G) (22000 + i) = gA G (22000 + i) := by intro i; show gA G (swc (22000 + i)) = _; rw [swc_big (by omega)]
  have e3 : ∀ i, gA (swapG G) (20000 + i) = gA G (20000 + i) := fun i => congrFun e0 i
  refine ⟨h1, h2, fun i hi => ?_, ?_, fun i hi => ?_, h6, h7, h8, h9, h10⟩
  · rw [e2]; exact h3 i hi
  · rw [e0, e1]; exact h4
  · rw [e3]; exact h5 i hi
theorem CX_swap {G : GE} {M : MI} {p : Program} {s : State} {m : MethodId} {meth : Method} {c : Code} {R : Room} {cells slots : Nat} (h : CX G M p s m meth c R cells slots) : CX (swapG G) M p s m meth c R cells slots :=
  ⟨h.1, h.2.1, h.2.2.1, h.2.2.2.1, h.2.2.2.2.1, h.2.2.2.2.2.1, FX_swap h.2.2.2.2.2.2.1, h.2.2.2.2.2.2.2.1, dj_swap h.2.2.2.2.2.2.2.2.1, h.2.2.2.2.2.2.2.2.2⟩
theorem K_swap {G : GE} {M : MI} {pc : Nat} {lv : List (Nat × Value)} {st : List Value} {m0 m1 m2 m3 m4 m5 m6 m7 m8 m9 m10 m11 : Mem} {x : Option M12} (hlv : lv.map (tvp (gA (swapG G))) = lv.map (tvp (gA G))) (hst : st.map (tv (gA (swapG G))) = st.map (tv (gA G))) (k : K (swapG G) M e_law pc lv st [m0, m2, m1, m3, m4, m5, m6, m7, m8, m9, m10, sw11 m11] x) : K G M e_law pc lv st [m0, m1, m2, m3, m4, m5, m6, m7, m8, m9, m10, m11] (x.map swap12) := by
  intro p e s m args below meth c Rm cells slots Q H locs ls r C hx hq hw hS hl
  obtain ⟨r0, hr0, er⟩ := Option.map_eq_some_iff.mp hx
  have := k p e s m args below meth c Rm cells slots Q H locs ls r0 (CX_swap C) hr0 (fun pc' H' locs' ls' hd hR hw' hS' => ?_) (wd_swap hw) hS (by rw [hlv]; exact hl)
  · rw [hst] at this
    exact this
  · have h9 := wd_swap hw'
    rw [swapG_swapG] at h9
    refine hq pc' H' locs' ls' hd hR ?_ hS'
    rw [← er]
    exact h9
section CVH
variable {G : GE} {M : MI} {R : Type} {E : R → Option Value × List Mem} {pc : Nat} {lv : List (Nat × Value)} {Ms : List Mem}
theorem K_callVh {R' : Type} {E' : R' → Option Value × List Mem} {f : Option R'} {k : R' → Option R} {idx n b : Nat} {y : MethodName} {M' : MI} {As rest st : List Value}
    (hd : decode M.2.1 pc = .ok (.invokevirtual idx, 3)) (hM : ML M.1 idx y) (hF : MF y M' n) (hV : MV y) (hC : dj G → ∀ r', f = some r' → Ctr G y M' (.ref b :: As) Ms (E' r').1 (E' r').2)
    (hrc : RCV G Ms b y.cls) (hn : As.length = n) (hst : st = As.reverse ++ .ref b :: rest) (hcat : (rest.map fun v => v.category).sum ≤ 8) (hlev : M'.2.2.2.2 < M.2.2.2.2)
    (kk : ∀ r', f = some r' → K G M E (pc + 3) lv ((E' r').1.toList ++ rest) (E' r').2 (k r')) : K G M E pc lv st Ms (f.bind k) := by
  cases hf : f with
  | none => exact K_none
  | some r0 =>
    exact K_callV (E' := fun _ : Unit => E' r0) (f := some ()) (k := fun _ => k r0) hd hM hF hV (fun hj _ _ => hC hj r0 hf) hrc hn hst hcat hlev (fun _ => kk r0 hf)
end CVH
