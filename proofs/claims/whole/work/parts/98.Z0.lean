/-! the start: what the Statement gives of texts, statics, classes -/
theorem lw_at {s : State} {A : Array Value} {w : Cond} (hts : ∀ w ∈ lw_tbl, w.before A s = true) (i : Nat) (h : lw_tbl[i]? = some w) : w.before A s = true := hts w (List.mem_of_getElem? h)
def tmS (i : Nat) : Term := Term.string RX5 (swK.getD i 0)
section ZS
variable {s : State} {b : Nat}
theorem zs_ex (hgv : (Jvm.Cond.and given_1 narrow_1).before #[Value.ref b] s = true) : ∀ i : Nat, i < 11 → (Cond.exactly (tmS i) "java/lang/String").before #[Value.ref b] s = true := by
  have hs := flat_of_before _ hgv
  intro i hi
  rcases (show i = 0 ∨ i = 1 ∨ i = 2 ∨ i = 3 ∨ i = 4 ∨ i = 5 ∨ i = 6 ∨ i = 7 ∨ i = 8 ∨ i = 9 ∨ i = 10 by omega) with rfl | rfl | rfl | rfl | rfl | rfl | rfl | rfl | rfl | rfl | rfl <;> exact hs _ (by decide +kernel)
theorem zs_co (hgv : (Jvm.Cond.and given_1 narrow_1).before #[Value.ref b] s = true) : ∀ i : Nat, i < 11 → (Cond.eq (.field (tmS i) "java/lang/String" "coder" "B") (.int 0)).before #[Value.ref b] s = true := by
  have hs := flat_of_before _ hgv
  intro i hi
  rcases (show i = 0 ∨ i = 1 ∨ i = 2 ∨ i = 3 ∨ i = 4 ∨ i = 5 ∨ i = 6 ∨ i = 7 ∨ i = 8 ∨ i = 9 ∨ i = 10 by omega) with rfl | rfl | rfl | rfl | rfl | rfl | rfl | rfl | rfl | rfl | rfl <;> exact hs _ (by decide +kernel)
theorem zs_ar (hgv : (Jvm.Cond.and given_1 narrow_1).before #[Value.ref b] s = true) : ∀ i : Nat, i < 11 → (Cond.arrayOf (.field (tmS i) "java/lang/String" "value" "[B") .byte).before #[Value.ref b] s = true := by
  have hs := flat_of_before _ hgv
  intro i hi
  rcases (show i = 0 ∨ i = 1 ∨ i = 2 ∨ i = 3 ∨ i = 4 ∨ i = 5 ∨ i = 6 ∨ i = 7 ∨ i = 8 ∨ i = 9 ∨ i = 10 by omega) with rfl | rfl | rfl | rfl | rfl | rfl | rfl | rfl | rfl | rfl | rfl <;> exact hs _ (by decide +kernel)
theorem zs_le (hgv : (Jvm.Cond.and given_1 narrow_1).before #[Value.ref b] s = true) : ∀ i : Nat, i < 11 → (Cond.eq (.length (.field (tmS i) "java/lang/String" "value" "[B")) (.int (Int32.ofNat (swL.getD i 0)))).before #[Value.ref b] s = true := by
  have hs := flat_of_before _ hgv
  intro i hi
  rcases (show i = 0 ∨ i = 1 ∨ i = 2 ∨ i = 3 ∨ i = 4 ∨ i = 5 ∨ i = 6 ∨ i = 7 ∨ i = 8 ∨ i = 9 ∨ i = 10 by omega) with rfl | rfl | rfl | rfl | rfl | rfl | rfl | rfl | rfl | rfl | rfl <;> exact hs _ (by decide +kernel)
theorem zs_el0 (hgv : (Jvm.Cond.and given_1 narrow_1).before #[Value.ref b] s = true) : ∀ j : Nat, j < 3 → (Cond.eq (.elem (.field (tmS 0) "java/lang/String" "value" "[B") (.int (Int32.ofNat j))) (.int ((swB.getD 0 []).getD j 0))).before #[Value.ref b] s = true := by
  have hs := flat_of_before _ hgv
  intro j hj
  rcases (show j = 0 ∨ j = 1 ∨ j = 2 by omega) with rfl | rfl | rfl <;> exact hs _ (by decide +kernel)
theorem zs_el1 (hgv : (Jvm.Cond.and given_1 narrow_1).before #[Value.ref b] s = true) : ∀ j : Nat, j < 3 → (Cond.eq (.elem (.field (tmS 1) "java/lang/String" "value" "[B") (.int (Int32.ofNat j))) (.int ((swB.getD 1 []).getD j 0))).before #[Value.ref b] s = true := by
  have hs := flat_of_before _ hgv
  intro j hj
  rcases (show j = 0 ∨ j = 1 ∨ j = 2 by omega) with rfl | rfl | rfl <;> exact hs _ (by decide +kernel)
theorem zs_el2 (hgv : (Jvm.Cond.and given_1 narrow_1).before #[Value.ref b] s = true) : ∀ j : Nat, j < 4 → (Cond.eq (.elem (.field (tmS 2) "java/lang/String" "value" "[B") (.int (Int32.ofNat j))) (.int ((swB.getD 2 []).getD j 0))).before #[Value.ref b] s = true := by
  have hs := flat_of_before _ hgv
  intro j hj
  rcases (show j = 0 ∨ j = 1 ∨ j = 2 ∨ j = 3 by omega) with rfl | rfl | rfl | rfl <;> exact hs _ (by decide +kernel)
theorem zs_el3 (hgv : (Jvm.Cond.and given_1 narrow_1).before #[Value.ref b] s = true) : ∀ j : Nat, j < 6 → (Cond.eq (.elem (.field (tmS 3) "java/lang/String" "value" "[B") (.int (Int32.ofNat j))) (.int ((swB.getD 3 []).getD j 0))).before #[Value.ref b] s = true := by
  have hs := flat_of_before _ hgv
  intro j hj
  rcases (show j = 0 ∨ j = 1 ∨ j = 2 ∨ j = 3 ∨ j = 4 ∨ j = 5 by omega) with rfl | rfl | rfl | rfl | rfl | rfl <;> exact hs _ (by decide +kernel)
theorem zs_el4 (hgv : (Jvm.Cond.and given_1 narrow_1).before #[Value.ref b] s = true) : ∀ j : Nat, j < 3 → (Cond.eq (.elem (.field (tmS 4) "java/lang/String" "value" "[B") (.int (Int32.ofNat j))) (.int ((swB.getD 4 []).getD j 0))).before #[Value.ref b] s = true := by
  have hs := flat_of_before _ hgv
  intro j hj
  rcases (show j = 0 ∨ j = 1 ∨ j = 2 by omega) with rfl | rfl | rfl <;> exact hs _ (by decide +kernel)
theorem zs_el5 (hgv : (Jvm.Cond.and given_1 narrow_1).before #[Value.ref b] s = true) : ∀ j : Nat, j < 7 → (Cond.eq (.elem (.field (tmS 5) "java/lang/String" "value" "[B") (.int (Int32.ofNat j))) (.int ((swB.getD 5 []).getD j 0))).before #[Value.ref b] s = true := by
  have hs := flat_of_before _ hgv
  intro j hj
  rcases (show j = 0 ∨ j = 1 ∨ j = 2 ∨ j = 3 ∨ j = 4 ∨ j = 5 ∨ j = 6 by omega) with rfl | rfl | rfl | rfl | rfl | rfl | rfl <;> exact hs _ (by decide +kernel)
theorem zs_el6 (hgv : (Jvm.Cond.and given_1 narrow_1).before #[Value.ref b] s = true) : ∀ j : Nat, j < 5 → (Cond.eq (.elem (.field (tmS 6) "java/lang/String" "value" "[B") (.int (Int32.ofNat j))) (.int ((swB.getD 6 []).getD j 0))).before #[Value.ref b] s = true := by
  have hs := flat_of_before _ hgv
  intro j hj
  rcases (show j = 0 ∨ j = 1 ∨ j = 2 ∨ j = 3 ∨ j = 4 by omega) with rfl | rfl | rfl | rfl | rfl <;> exact hs _ (by decide +kernel)
theorem zs_el7 (hgv : (Jvm.Cond.and given_1 narrow_1).before #[Value.ref b] s = true) : ∀ j : Nat, j < 4 → (Cond.eq (.elem (.field (tmS 7) "java/lang/String" "value" "[B") (.int (Int32.ofNat j))) (.int ((swB.getD 7 []).getD j 0))).before #[Value.ref b] s = true := by
  have hs := flat_of_before _ hgv
  intro j hj
  rcases (show j = 0 ∨ j = 1 ∨ j = 2 ∨ j = 3 by omega) with rfl | rfl | rfl | rfl <;> exact hs _ (by decide +kernel)
theorem zs_el8 (hgv : (Jvm.Cond.and given_1 narrow_1).before #[Value.ref b] s = true) : ∀ j : Nat, j < 5 → (Cond.eq (.elem (.field (tmS 8) "java/lang/String" "value" "[B") (.int (Int32.ofNat j))) (.int ((swB.getD 8 []).getD j 0))).before #[Value.ref b] s = true := by
  have hs := flat_of_before _ hgv
  intro j hj
  rcases (show j = 0 ∨ j = 1 ∨ j = 2 ∨ j = 3 ∨ j = 4 by omega) with rfl | rfl | rfl | rfl | rfl <;> exact hs _ (by decide +kernel)
theorem zs_el9 (hgv : (Jvm.Cond.and given_1 narrow_1).before #[Value.ref b] s = true) : ∀ j : Nat, j < 6 → (Cond.eq (.elem (.field (tmS 9) "java/lang/String" "value" "[B") (.int (Int32.ofNat j))) (.int ((swB.getD 9 []).getD j 0))).before #[Value.ref b] s = true := by
  have hs := flat_of_before _ hgv
  intro j hj
  rcases (show j = 0 ∨ j = 1 ∨ j = 2 ∨ j = 3 ∨ j = 4 ∨ j = 5 by omega) with rfl | rfl | rfl | rfl | rfl | rfl <;> exact hs _ (by decide +kernel)
theorem zs_el10 (hgv : (Jvm.Cond.and given_1 narrow_1).before #[Value.ref b] s = true) : ∀ j : Nat, j < 8 → (Cond.eq (.elem (.field (tmS 10) "java/lang/String" "value" "[B") (.int (Int32.ofNat j))) (.int ((swB.getD 10 []).getD j 0))).before #[Value.ref b] s = true := by
  have hs := flat_of_before _ hgv
  intro j hj
  rcases (show j = 0 ∨ j = 1 ∨ j = 2 ∨ j = 3 ∨ j = 4 ∨ j = 5 ∨ j = 6 ∨ j = 7 by omega) with rfl | rfl | rfl | rfl | rfl | rfl | rfl | rfl <;> exact hs _ (by decide +kernel)
theorem zs_el (hgv : (Jvm.Cond.and given_1 narrow_1).before #[Value.ref b] s = true) : ∀ i : Nat, i < 11 → ∀ j : Nat, j < swL.getD i 0 → (Cond.eq (.elem (.field (tmS i) "java/lang/String" "value" "[B") (.int (Int32.ofNat j))) (.int ((swB.getD i []).getD j 0))).before #[Value.ref b] s = true := by
  intro i hi
  rcases (show i = 0 ∨ i = 1 ∨ i = 2 ∨ i = 3 ∨ i = 4 ∨ i = 5 ∨ i = 6 ∨ i = 7 ∨ i = 8 ∨ i = 9 ∨ i = 10 by omega) with rfl | rfl | rfl | rfl | rfl | rfl | rfl | rfl | rfl | rfl | rfl
  · exact zs_el0 hgv
  · exact zs_el1 hgv
  · exact zs_el2 hgv
  · exact zs_el3 hgv
  · exact zs_el4 hgv
  · exact zs_el5 hgv
  · exact zs_el6 hgv
  · exact zs_el7 hgv
  · exact zs_el8 hgv
  · exact zs_el9 hgv
  · exact zs_el10 hgv
def zs_pr (i j : Nat) : Cond := Cond.not (Cond.eq (tmS i) (tmS j))
theorem zs_ne1 (hgv : (Jvm.Cond.and given_1 narrow_1).before #[Value.ref b] s = true) : ∀ i : Nat, i < 1 → (zs_pr i 1).before #[Value.ref b] s = true := by
  have hs := flat_of_before _ hgv
  intro i hi
  obtain rfl : i = 0 := by omega
  exact hs _ (by decide +kernel)
theorem zs_ne2 (hgv : (Jvm.Cond.and given_1 narrow_1).before #[Value.ref b] s = true) : ∀ i : Nat, i < 2 → (zs_pr i 2).before #[Value.ref b] s = true := by
  have hs := flat_of_before _ hgv
  intro i hi
  rcases (show i = 0 ∨ i = 1 by omega) with rfl | rfl <;> exact hs _ (by decide +kernel)
theorem zs_ne3 (hgv : (Jvm.Cond.and given_1 narrow_1).before #[Value.ref b] s = true) : ∀ i : Nat, i < 3 → (zs_pr i 3).before #[Value.ref b] s = true := by
  have hs := flat_of_before _ hgv
  intro i hi
  rcases (show i = 0 ∨ i = 1 ∨ i = 2 by omega) with rfl | rfl | rfl <;> exact hs _ (by decide +kernel)
theorem zs_ne4 (hgv : (Jvm.Cond.and given_1 narrow_1).before #[Value.ref b] s = true) : ∀ i : Nat, i < 4 → (zs_pr i 4).before #[Value.ref b] s = true := by
  have hs := flat_of_before _ hgv
  intro i hi
  rcases (show i = 0 ∨ i = 1 ∨ i = 2 ∨ i = 3 by omega) with rfl | rfl | rfl | rfl <;> exact hs _ (by decide +kernel)
theorem zs_ne5 (hgv : (Jvm.Cond.and given_1 narrow_1).before #[Value.ref b] s = true) : ∀ i : Nat, i < 5 → (zs_pr i 5).before #[Value.ref b] s = true := by
  have hs := flat_of_before _ hgv
  intro i hi
  rcases (show i = 0 ∨ i = 1 ∨ i = 2 ∨ i = 3 ∨ i = 4 by omega) with rfl | rfl | rfl | rfl | rfl <;> exact hs _ (by decide +kernel)
theorem zs_ne6 (hgv : (Jvm.Cond.and given_1 narrow_1).before #[Value.ref b] s = true) : ∀ i : Nat, i < 6 → (zs_pr i 6).before #[Value.ref b] s = true := by
  have hs := flat_of_before _ hgv
  intro i hi
  rcases (show i = 0 ∨ i = 1 ∨ i = 2 ∨ i = 3 ∨ i = 4 ∨ i = 5 by omega) with rfl | rfl | rfl | rfl | rfl | rfl <;> exact hs _ (by decide +kernel)
theorem zs_ne7 (hgv : (Jvm.Cond.and given_1 narrow_1).before #[Value.ref b] s = true) : ∀ i : Nat, i < 7 → (zs_pr i 7).before #[Value.ref b] s = true := by
  have hs := flat_of_before _ hgv
  intro i hi
  rcases (show i = 0 ∨ i = 1 ∨ i = 2 ∨ i = 3 ∨ i = 4 ∨ i = 5 ∨ i = 6 by omega) with rfl | rfl | rfl | rfl | rfl | rfl | rfl <;> exact hs _ (by decide +kernel)
theorem zs_ne8 (hgv : (Jvm.Cond.and given_1 narrow_1).before #[Value.ref b] s = true) : ∀ i : Nat, i < 8 → (zs_pr i 8).before #[Value.ref b] s = true := by
  have hs := flat_of_before _ hgv
  intro i hi
  rcases (show i = 0 ∨ i = 1 ∨ i = 2 ∨ i = 3 ∨ i = 4 ∨ i = 5 ∨ i = 6 ∨ i = 7 by omega) with rfl | rfl | rfl | rfl | rfl | rfl | rfl | rfl <;> exact hs _ (by decide +kernel)
theorem zs_ne9 (hgv : (Jvm.Cond.and given_1 narrow_1).before #[Value.ref b] s = true) : ∀ i : Nat, i < 9 → (zs_pr i 9).before #[Value.ref b] s = true := by
  have hs := flat_of_before _ hgv
  intro i hi
  rcases (show i = 0 ∨ i = 1 ∨ i = 2 ∨ i = 3 ∨ i = 4 ∨ i = 5 ∨ i = 6 ∨ i = 7 ∨ i = 8 by omega) with rfl | rfl | rfl | rfl | rfl | rfl | rfl | rfl | rfl <;> exact hs _ (by decide +kernel)
theorem zs_ne10 (hgv : (Jvm.Cond.and given_1 narrow_1).before #[Value.ref b] s = true) : ∀ i : Nat, i < 10 → (zs_pr i 10).before #[Value.ref b] s = true := by
  have hs := flat_of_before _ hgv
  intro i hi
  rcases (show i = 0 ∨ i = 1 ∨ i = 2 ∨ i = 3 ∨ i = 4 ∨ i = 5 ∨ i = 6 ∨ i = 7 ∨ i = 8 ∨ i = 9 by omega) with rfl | rfl | rfl | rfl | rfl | rfl | rfl | rfl | rfl | rfl <;> exact hs _ (by decide +kernel)
theorem zs_ne (hgv : (Jvm.Cond.and given_1 narrow_1).before #[Value.ref b] s = true) : ∀ i j : Nat, i < j → j < 11 → (zs_pr i j).before #[Value.ref b] s = true := by
  intro i j hij hj
  rcases (show j = 0 ∨ j = 1 ∨ j = 2 ∨ j = 3 ∨ j = 4 ∨ j = 5 ∨ j = 6 ∨ j = 7 ∨ j = 8 ∨ j = 9 ∨ j = 10 by omega) with rfl | rfl | rfl | rfl | rfl | rfl | rfl | rfl | rfl | rfl | rfl
  · exact absurd hij (Nat.not_lt_zero _)
  · exact zs_ne1 hgv i hij
  · exact zs_ne2 hgv i hij
  · exact zs_ne3 hgv i hij
  · exact zs_ne4 hgv i hij
  · exact zs_ne5 hgv i hij
  · exact zs_ne6 hgv i hij
  · exact zs_ne7 hgv i hij
  · exact zs_ne8 hgv i hij
  · exact zs_ne9 hgv i hij
  · exact zs_ne10 hgv i hij
theorem zs_rf (hts : ∀ w ∈ lw_tbl, w.before #[Value.ref b] s = true) : ∀ i : Nat, i < 11 → (Cond.stringRef RX5 (swK.getD i 0) (swT.getD i "")).before #[Value.ref b] s = true := by
  intro i hi
  rcases (show i = 0 ∨ i = 1 ∨ i = 2 ∨ i = 3 ∨ i = 4 ∨ i = 5 ∨ i = 6 ∨ i = 7 ∨ i = 8 ∨ i = 9 ∨ i = 10 by omega) with rfl | rfl | rfl | rfl | rfl | rfl | rfl | rfl | rfl | rfl | rfl
  · exact lw_at hts 481 (by decide +kernel)
  · exact lw_at hts 554 (by decide +kernel)
  · exact lw_at hts 555 (by decide +kernel)
  · exact lw_at hts 556 (by decide +kernel)
  · exact lw_at hts 557 (by decide +kernel)
  · exact lw_at hts 558 (by decide +kernel)
  · exact lw_at hts 590 (by decide +kernel)
  · exact lw_at hts 591 (by decide +kernel)
  · exact lw_at hts 592 (by decide +kernel)
  · exact lw_at hts 593 (by decide +kernel)
  · exact lw_at hts 594 (by decide +kernel)
theorem start_texts (hts : ∀ w ∈ lw_tbl, w.before #[Value.ref b] s = true) (hgv : (Jvm.Cond.and given_1 narrow_1).before #[Value.ref b] s = true) : ∃ adK adV : Nat → Nat, vk_S 11 swL swB adK adV (fun q => s.heap.size ≤ q) s s.heap ∧ ∀ i : Nat, i < 11 → vk_R RX5 (swK.getD i 0) (swT.getD i "") (adK i) s := by
  obtain ⟨adK, adV, h1, h2⟩ := vk_Sof (N := 11) (tm := tmS) (len := swL) (byt := swB) (A := fun q => s.heap.size ≤ q) (by decide) (zs_ex hgv) (zs_co hgv) (zs_ar hgv) (zs_le hgv) (zs_el hgv) (fun i j hi hj hij => by
    rcases Nat.lt_or_ge i j with q | q
    · exact Or.inl (zs_ne hgv i j q hj)
    · exact Or.inr (zs_ne hgv j i (by omega) hi)) (fun a h => Nat.not_le.mpr h)
  exact ⟨adK, adV, h1, fun i hi => vk_R.of (zs_rf hts i hi) (h2 i hi)⟩
theorem start_st0 (hts : ∀ w ∈ lw_tbl, w.before #[Value.ref b] s = true) (hgv : (Jvm.Cond.and given_1 narrow_1).before #[Value.ref b] s = true) : ∃ t : Nat, va_Z RX7 "KIND_ABOVE" "[I" (.ref t) (fun q => s.heap.size ≤ q) s s.heap ∧ va_T .int t 6 (fun j => .int ((stV.getD 0 []).getD j 0)) (fun q => s.heap.size ≤ q) s s.heap := by
  have hs := flat_of_before _ hgv
  obtain ⟨t, h1, h2⟩ := va_Tof (tm := Term.static RX7 "KIND_ABOVE" "[I") (ty := .int) (N := 6) (f := fun j => .int ((stV.getD 0 []).getD j 0)) (A := fun q => s.heap.size ≤ q) (by decide) (hs _ (by decide +kernel)) (va_eqt (hs _ (by decide +kernel))) (fun j hj => by
    rcases (show j = 0 ∨ j = 1 ∨ j = 2 ∨ j = 3 ∨ j = 4 ∨ j = 5 by omega) with rfl | rfl | rfl | rfl | rfl | rfl <;> exact va_eqt (hs _ (by decide +kernel))) (fun a h => Nat.not_le.mpr h)
  exact ⟨t, va_Zref (lw_at hts 603 (by decide +kernel)) (lw_at hts 73 (by decide +kernel)) h1 (fun a h => Nat.not_le.mpr h), h2⟩
theorem start_st1 (hts : ∀ w ∈ lw_tbl, w.before #[Value.ref b] s = true) (hgv : (Jvm.Cond.and given_1 narrow_1).before #[Value.ref b] s = true) : ∃ t : Nat, va_Z RX7 "SIZE_BODIES" "[I" (.ref t) (fun q => s.heap.size ≤ q) s s.heap ∧ va_T .int t 6 (fun j => .int ((stV.getD 1 []).getD j 0)) (fun q => s.heap.size ≤ q) s s.heap := by
  have hs := flat_of_before _ hgv
  obtain ⟨t, h1, h2⟩ := va_Tof (tm := Term.static RX7 "SIZE_BODIES" "[I") (ty := .int) (N := 6) (f := fun j => .int ((stV.getD 1 []).getD j 0)) (A := fun q => s.heap.size ≤ q) (by decide) (hs _ (by decide +kernel)) (va_eqt (hs _ (by decide +kernel))) (fun j hj => by
    rcases (show j = 0 ∨ j = 1 ∨ j = 2 ∨ j = 3 ∨ j = 4 ∨ j = 5 by omega) with rfl | rfl | rfl | rfl | rfl | rfl <;> exact va_eqt (hs _ (by decide +kernel))) (fun a h => Nat.not_le.mpr h)
  exact ⟨t, va_Zref (lw_at hts 898 (by decide +kernel)) (lw_at hts 73 (by decide +kernel)) h1 (fun a h => Nat.not_le.mpr h), h2⟩
theorem start_st2 (hts : ∀ w ∈ lw_tbl, w.before #[Value.ref b] s = true) (hgv : (Jvm.Cond.and given_1 narrow_1).before #[Value.ref b] s = true) : ∃ t : Nat, va_Z RX7 "MARK_BODIES" "[I" (.ref t) (fun q => s.heap.size ≤ q) s s.heap ∧ va_T .int t 6 (fun j => .int ((stV.getD 2 []).getD j 0)) (fun q => s.heap.size ≤ q) s s.heap := by
  have hs := flat_of_before _ hgv
  obtain ⟨t, h1, h2⟩ := va_Tof (tm := Term.static RX7 "MARK_BODIES" "[I") (ty := .int) (N := 6) (f := fun j => .int ((stV.getD 2 []).getD j 0)) (A := fun q => s.heap.size ≤ q) (by decide) (hs _ (by decide +kernel)) (va_eqt (hs _ (by decide +kernel))) (fun j hj => by
    rcases (show j = 0 ∨ j = 1 ∨ j = 2 ∨ j = 3 ∨ j = 4 ∨ j = 5 by omega) with rfl | rfl | rfl | rfl | rfl | rfl <;> exact va_eqt (hs _ (by decide +kernel))) (fun a h => Nat.not_le.mpr h)
  exact ⟨t, va_Zref (lw_at hts 900 (by decide +kernel)) (lw_at hts 73 (by decide +kernel)) h1 (fun a h => Nat.not_le.mpr h), h2⟩
theorem start_cs (hts : ∀ w ∈ lw_tbl, w.before #[Value.ref b] s = true) (hgv : (Jvm.Cond.and given_1 narrow_1).before #[Value.ref b] s = true) : va_Z RJ0 "COMPACT_STRINGS" "Z" (.int 1) (fun q => s.heap.size ≤ q) s s.heap := by
  have hs := flat_of_before _ hgv
  exact va_Zof (lw_at hts 495 (by decide +kernel)) (lw_at hts 84 (by decide +kernel)) (va_eqt (hs _ (by decide +kernel))) (fun a h => Nat.not_le.mpr h)
theorem start_fm (hts : ∀ w ∈ lw_tbl, w.before #[Value.ref b] s = true) (hgv : (Jvm.Cond.and given_1 narrow_1).before #[Value.ref b] s = true) : ∃ t : Nat, va_Z RJ3 "SIOOBE_FORMATTER" "Ljava/util/function/BiFunction;" .null (fun q => s.heap.size ≤ q) s s.heap ∨ va_Z RJ3 "SIOOBE_FORMATTER" "Ljava/util/function/BiFunction;" (.ref t) (fun q => s.heap.size ≤ q) s s.heap := by
  have hs := flat_of_before _ hgv
  rcases va_Zqof (C := RJ3) (n := "SIOOBE_FORMATTER") (d := "Ljava/util/function/BiFunction;") (A := fun q => s.heap.size ≤ q) (lw_at hts 511 (by decide +kernel)) (lw_at hts 86 (by decide +kernel)) (hs _ (by decide +kernel)) (fun a h => Nat.not_le.mpr h) with h | ⟨t, h⟩
  · exact ⟨0, Or.inl h⟩
  · exact ⟨t, Or.inr h⟩
end ZS
