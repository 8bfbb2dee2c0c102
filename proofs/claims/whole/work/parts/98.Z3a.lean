/-! the law's loop from the cells of the start -/
theorem whole_run {p : Program} {e : Env} {s : State} {m : MethodId} {below : List Frame} {meth : Method} {c : Code} (l : Launch) {b L : Nat} {xs : Nat → Int32} (hL : L ≤ 3072) (C0 : lw_At p s m meth c b L xs) {D : va_G} {cI cB cZ c3 k6 : ClassId} (hTW : TW D cI cB cZ s) {tab : List (List Nat)} {adK adV adS : Nat → Nat} {fm : Nat}
    (hSt : vk_S 11 swL swB adK adV (fun q : Nat => s.heap.size ≤ q) s s.heap) (hRf : ∀ i : Nat, i < 11 → vk_R RX5 (swK.getD i 0) (swT.getD i "") (adK i) s)
    (h0 : va_Z RX7 "KIND_ABOVE" "[I" (.ref (adS 0)) (fun q : Nat => s.heap.size ≤ q) s s.heap ∧ va_T .int (adS 0) 6 (fun j => .int ((stV.getD 0 []).getD j 0)) (fun q : Nat => s.heap.size ≤ q) s s.heap)
    (h1 : va_Z RX7 "SIZE_BODIES" "[I" (.ref (adS 1)) (fun q : Nat => s.heap.size ≤ q) s s.heap ∧ va_T .int (adS 1) 6 (fun j => .int ((stV.getD 1 []).getD j 0)) (fun q : Nat => s.heap.size ≤ q) s s.heap)
    (h2 : va_Z RX7 "MARK_BODIES" "[I" (.ref (adS 2)) (fun q : Nat => s.heap.size ≤ q) s s.heap ∧ va_T .int (adS 2) 6 (fun j => .int ((stV.getD 2 []).getD j 0)) (fun q : Nat => s.heap.size ≤ q) s s.heap)
    (hcs : va_Z RJ0 "COMPACT_STRINGS" "Z" (.int 1) (fun q : Nat => s.heap.size ≤ q) s s.heap) (hfm : va_Z RJ3 "SIOOBE_FORMATTER" "Ljava/util/function/BiFunction;" .null (fun q : Nat => s.heap.size ≤ q) s s.heap ∨ va_Z RJ3 "SIOOBE_FORMATTER" "Ljava/util/function/BiFunction;" (.ref fm) (fun q : Nat => s.heap.size ≤ q) s s.heap)
    (hK2 : va_K D vwCl [(c3, .object RX3), (k6, .array .int)] s) {H : Heap} {locs : List Loc} {ls : Array Slot} {o7 o8 cells slots : Nat}
    (hP : va_P D vwCl (csL.map (cell1 (adF tab adK adV adS b fm) (cyF cI cB cZ c3 k6))) H) (hD : va_D (fun q : Nat => s.heap.size ≤ q) (csL.map (cell1 (adF tab adK adV adS b fm) (cyF cI cB cZ c3 k6)))) (hS : va_S (fun q : Nat => s.heap.size ≤ q) s.heap H locs) (hl : lv_has ls 4 [(0, .ref b), (1, .ref o7), (2, .ref o8), (3, .int 0)])
    (e7 : adF tab adK adV adS b fm 11000 = o7) (e8 : adF tab adK adV adS b fm 0 = o8) (hcs2 : (Nat.ble cells 600000 && Nat.ble slots 7302250) = true) {r : M12} (hlaw : f_law L xs (L + 1) I0 z0 z0 I3 z0 I5 z0 z0 z0 z0 z0 I11 0 = some r) :
    W p l e room_1 s m #[Value.ref b] below meth c H locs cells slots (lw_Z below #[Value.ref b] s) (F0 m 18 ls []) := by
  obtain ⟨hx, hb, hr, hml, hown, htl, hX, hbl, hlocks, hgv⟩ := id C0
  have hc1 : cells ≤ 600000 := Nat.le_of_ble_eq_true (Bool.and_eq_true_iff.mp hcs2).1
  have hc2 : slots ≤ 7302250 := Nat.le_of_ble_eq_true (Bool.and_eq_true_iff.mp hcs2).2
  obtain ⟨G, hG⟩ : ∃ G : GE, G = (l, D, adF tab adK adV adS b fm, cyF cI cB cZ c3 k6, s.heap.size, L, xs) := ⟨_, rfl⟩
  have eK : ∀ i : Nat, i < 1000 → gA G (20000 + i) = adK i := fun i hi => by
    subst hG
    show adF tab adK adV adS b fm (20000 + i) = adK i
    unfold adF
    rw [if_neg (by omega), if_pos (by omega), Nat.add_sub_cancel_left]
  have eV : ∀ i : Nat, i < 1000 → gA G (21000 + i) = adV i := fun i hi => by
    subst hG
    show adF tab adK adV adS b fm (21000 + i) = adV i
    unfold adF
    rw [if_neg (by omega), if_neg (by omega), if_pos (by omega), Nat.add_sub_cancel_left]
  have eS : ∀ i : Nat, i < 1000 → gA G (22000 + i) = adS i := fun i hi => by
    subst hG
    show adF tab adK adV adS b fm (22000 + i) = adS i
    unfold adF
    rw [if_neg (by omega), if_neg (by omega), if_neg (by omega), if_pos (by omega), Nat.add_sub_cancel_left]
  have eb : gA G 23000 = b := by subst hG; rfl
  have ef : gA G 24000 = fm := by subst hG; rfl
  have eZ : gZ G = (fun q : Nat => s.heap.size ≤ q) := by subst hG; rfl
  have hwd : wd G M0 H := lay_wd (by subst hG; exact hP)
  have hdj : dj G := lay_dj (by subst hG; exact hD)
  have hFX : FX G s s.heap := by
    refine ⟨hTW.1, ?_, ?_, ?_, ?_, by rw [eZ]; exact hcs, by rw [eZ, ef]; exact hfm, ?_, ?_, ?_⟩
    · subst hG
      exact hTW.2.2.1.app hK2
    · intro i hi
      rw [eZ, eS i (by omega)]
      rcases (show i = 0 ∨ i = 1 ∨ i = 2 by omega) with rfl | rfl | rfl
      · exact h0
      · exact h1
      · exact h2
    · rw [eZ]
      refine ⟨fun i hi => ?_, fun i j hi hj => ?_⟩
      · dsimp only
        rw [eK i (by omega), eV i (by omega)]
        exact hSt.1 i hi
      · dsimp only
        rw [eK i (by omega), eK j (by omega)]
        exact hSt.2 i j hi hj
    · intro i hi
      rw [eK i (by omega)]
      exact hRf i hi
    · rw [eb]
      subst hG
      exact hX
    · rw [eZ, eb]
      exact Nat.not_le.mpr hbl
    · rw [eb]
      exact hbl
  have hCX : CX G mi_law p s m meth c room_1 cells slots := ⟨hx, hb, hml, hr, hlocks, hown, hFX, by subst hG; exact Nat.le_refl _, hdj, by exact Nat.le_of_ble_eq_true rfl, by exact Nat.le_of_ble_eq_true rfl, hc1, hc2⟩
  have hl2 : lv_has ls 4 ([(0, Value.ref 23000), (1, .ref 11000), (2, .ref 0), (3, .int 0)].map (tvp (gA G))) := by
    have e1 : gA G 11000 = o7 := by subst hG; exact e7
    have e2 : gA G 0 = o8 := by subst hG; exact e8
    show lv_has ls 4 [(0, .ref (gA G 23000)), (1, .ref (gA G 11000)), (2, .ref (gA G 0)), (3, .int 0)]
    rw [eb, e1, e2]
    exact hl
  have k := k_law_loop (L + 1) G I0 z0 z0 I3 z0 I5 z0 z0 z0 z0 z0 I11 0 rfl rfl p e s m #[Value.ref b] below meth c room_1 cells slots (lw_Z below #[Value.ref b] s) H locs ls r hCX (by subst hG; exact hlaw) (fun pc' H' locs' ls' hd _ _ hS' => ?_) hwd (by rw [eZ]; exact hS) hl2
  · subst hG
    exact k
  · rw [eZ] at hS'
    refine va_forget hS'.2.2 ?_
    refine W.widen (k := 600000) (n := 7302250) hc1 hc2 ?_
    subst hG
    exact lw_ret hx hb hr hlocks hd
