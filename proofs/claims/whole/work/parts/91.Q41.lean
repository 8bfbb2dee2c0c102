/-! the invariant of both sides -/
def IV (v : Nat → Nat) (w m1 m3 m4 m5 m6 m8 m9 m10 m11 : Mem) : Prop := REv (w 6) (w 0 7) m1 v ∧ RSt (w 0 1) m11 ∧ RRows (w 3) (w 4) (w 5) m5 ∧ RTape (w 0 12) (w 0 13) (w 12) m4 ∧ RDr (w 0 10) (w 9) (w 10) m6 v ∧ RTr (w 0 36) (w 36) m8 ∧ RIm (w 34) (w 35) m9 m10 ∧ (∀ k, k < 2 → w 34 k = n32 1 → w 0 7 = n32 1) ∧ RPl v m3
def Inv (w m1 m3 m4 m5 m6 m8 m9 m10 m11 : Mem) : Prop := ∃ v, IV v w m1 m3 m4 m5 m6 m8 m9 m10 m11
def P00 (s i : Nat) : Prop := s = 0 ∧ i = 0
theorem inv_up {w m1 m3 m4 m5 m6 m8 m9 m10 m11 : Mem} {v : Nat → Nat} (h : IV v w m1 m3 m4 m5 m6 m8 m9 m10 m11) : IV v (up w 0 0 0) m1 m3 m4 m5 m6 m8 m9 m10 m11 := by
  obtain ⟨iE, iS, iR, iT, iD, iTr, iI, iIt, iP⟩ := h
  have fr : Fr P00 w (up w 0 0 0) := Fr.refl.up 0 0 _ ⟨rfl, rfl⟩
  exact ⟨by rw [fr.row 6 (fun i => by unfold P00; omega), fr 0 7 (by unfold P00; omega)]; exact iE, by rw [fr 0 1 (by unfold P00; omega)]; exact iS, by rw [fr.row 3 (fun i => by unfold P00; omega), fr.row 4 (fun i => by unfold P00; omega), fr.row 5 (fun i => by unfold P00; omega)]; exact iR, by rw [fr.row 12 (fun i => by unfold P00; omega), fr 0 12 (by unfold P00; omega), fr 0 13 (by unfold P00; omega)]; exact iT, by rw [fr.row 9 (fun i => by unfold P00; omega), fr.row 10 (fun i => by unfold P00; omega), fr 0 10 (by unfold P00; omega)]; exact iD, by rw [fr.row 36 (fun i => by unfold P00; omega), fr 0 36 (by unfold P00; omega)]; exact iTr, by rw [fr.row 34 (fun i => by unfold P00; omega), fr.row 35 (fun i => by unfold P00; omega)]; exact iI, by intro k hk; rw [fr.row 34 (fun i => by unfold P00; omega), fr 0 7 (by unfold P00; omega)]; exact iIt k hk, by exact iP⟩
section LAW
variable {L a : Nat} {sx : Nat → Int32} {m0 m1 m2 m3 m4 m5 m6 m7 m8 m9 m10 m11 : Mem} {k : Mem → Mem → Mem → Mem → Mem → Mem → Mem → Mem → Mem → Mem → Mem → Mem → Option M12}
def HK (k : Mem → Mem → Mem → Mem → Mem → Mem → Mem → Mem → Mem → Mem → Mem → Mem → Option M12) : Prop := ∀ m0 m1 m2 m3 m4 m5 m6 m7 m8 m9 m10 m11 : Mem, Inv m0 m1 m3 m4 m5 m6 m8 m9 m10 m11 → ∃ r, k m0 m1 m2 m3 m4 m5 m6 m7 m8 m9 m10 m11 = some r
theorem law_gd {R : Type} {a L c : Nat} (h : a + c < L) (hL : L ≤ 3072) (x : Option R) : gd (inb (n32 a + n32 c) L) x = x := by
  rw [n32_add, n32_inb (by omega), gd_dec h]
theorem law_nt {a L c : Nat} (h : a + c < L) (hL : L ≤ 3072) : (n32 a + n32 c).toNatClampNeg = a + c := by
  rw [n32_add, n32_nat (by omega)]
theorem law_0 (ha : a + 6 ≤ L) (hL : L ≤ 3072) (hI : Inv m0 m1 m3 m4 m5 m6 m8 m9 m10 m11) (hk : HK k) : ∃ r, f_law_0 L sx m0 m1 m2 m3 m4 m5 m6 m7 m8 m9 m10 m11 (n32 a) k = some r := by
  obtain ⟨v, hV⟩ := hI
  have hU := inv_up hV
  have hU' := hU
  obtain ⟨iE, iS, iR, iT, iD, iTr, iI, iIt, iP⟩ := hU'
  have g1 : ∀ x : Option M12, gd (inb (n32 a + 1) L) x = x := fun x => law_gd (c := 1) (by omega) hL x
  have t1 : (n32 a + 1).toNatClampNeg = a + 1 := law_nt (c := 1) (L := L) (by omega) hL
  have g2 : ∀ x : Option M12, gd (inb (n32 a + 2) L) x = x := fun x => law_gd (c := 2) (by omega) hL x
  have t2 : (n32 a + 2).toNatClampNeg = a + 2 := law_nt (c := 2) (L := L) (by omega) hL
  have g3 : ∀ x : Option M12, gd (inb (n32 a + 3) L) x = x := fun x => law_gd (c := 3) (by omega) hL x
  have t3 : (n32 a + 3).toNatClampNeg = a + 3 := law_nt (c := 3) (L := L) (by omega) hL
  unfold f_law_0
  obtain ⟨x, m5', m11', w', e1, e2, fr, r1, r2⟩ := s_row iR iS (sx (a + 1)) (sx (a + 2)) (sx (a + 3))
  simp only [g1, t1, g2, t2, g3, t3, e1, e2, bsE, ↓reduceIte]
  exact hk _ _ _ _ _ _ _ _ _ _ _ _ ⟨v, by rw [fr.row 6 (fun i => by unfold PRow; omega), fr 0 7 (by unfold PRow; omega)]; exact iE, by exact r2, by exact r1, by rw [fr.row 12 (fun i => by unfold PRow; omega), fr 0 12 (by unfold PRow; omega), fr 0 13 (by unfold PRow; omega)]; exact iT, by rw [fr.row 9 (fun i => by unfold PRow; omega), fr.row 10 (fun i => by unfold PRow; omega), fr 0 10 (by unfold PRow; omega)]; exact iD, by rw [fr.row 36 (fun i => by unfold PRow; omega), fr 0 36 (by unfold PRow; omega)]; exact iTr, by rw [fr.row 34 (fun i => by unfold PRow; omega), fr.row 35 (fun i => by unfold PRow; omega)]; exact iI, by intro k hk; rw [fr.row 34 (fun i => by unfold PRow; omega), fr 0 7 (by unfold PRow; omega)]; exact iIt k hk, by exact iP⟩
theorem law_1 (ha : a + 6 ≤ L) (hL : L ≤ 3072) (hI : Inv m0 m1 m3 m4 m5 m6 m8 m9 m10 m11) (hk : HK k) : ∃ r, f_law_1 L sx m0 m1 m2 m3 m4 m5 m6 m7 m8 m9 m10 m11 (n32 a) k = some r := by
  obtain ⟨v, hV⟩ := hI
  have hU := inv_up hV
  have hU' := hU
  obtain ⟨iE, iS, iR, iT, iD, iTr, iI, iIt, iP⟩ := hU'
  have g1 : ∀ x : Option M12, gd (inb (n32 a + 1) L) x = x := fun x => law_gd (c := 1) (by omega) hL x
  have t1 : (n32 a + 1).toNatClampNeg = a + 1 := law_nt (c := 1) (L := L) (by omega) hL
  have g2 : ∀ x : Option M12, gd (inb (n32 a + 2) L) x = x := fun x => law_gd (c := 2) (by omega) hL x
  have t2 : (n32 a + 2).toNatClampNeg = a + 2 := law_nt (c := 2) (L := L) (by omega) hL
  have g3 : ∀ x : Option M12, gd (inb (n32 a + 3) L) x = x := fun x => law_gd (c := 3) (by omega) hL x
  have t3 : (n32 a + 3).toNatClampNeg = a + 3 := law_nt (c := 3) (L := L) (by omega) hL
  unfold f_law_1
  obtain ⟨x, m5', m11', w', e1, e2, fr, r1, r2⟩ := s_set iR iS (sx (a + 1)) (sx (a + 2)) (sx (a + 3))
  simp only [g1, t1, g2, t2, g3, t3, e1, e2, bsE, ↓reduceIte]
  exact hk _ _ _ _ _ _ _ _ _ _ _ _ ⟨v, by rw [fr.row 6 (fun i => by unfold PRow; omega), fr 0 7 (by unfold PRow; omega)]; exact iE, by exact r2, by exact r1, by rw [fr.row 12 (fun i => by unfold PRow; omega), fr 0 12 (by unfold PRow; omega), fr 0 13 (by unfold PRow; omega)]; exact iT, by rw [fr.row 9 (fun i => by unfold PRow; omega), fr.row 10 (fun i => by unfold PRow; omega), fr 0 10 (by unfold PRow; omega)]; exact iD, by rw [fr.row 36 (fun i => by unfold PRow; omega), fr 0 36 (by unfold PRow; omega)]; exact iTr, by rw [fr.row 34 (fun i => by unfold PRow; omega), fr.row 35 (fun i => by unfold PRow; omega)]; exact iI, by intro k hk; rw [fr.row 34 (fun i => by unfold PRow; omega), fr 0 7 (by unfold PRow; omega)]; exact iIt k hk, by exact iP⟩
theorem law_2 (ha : a + 6 ≤ L) (hL : L ≤ 3072) (hI : Inv m0 m1 m3 m4 m5 m6 m8 m9 m10 m11) (hk : HK k) : ∃ r, f_law_2 L sx m0 m1 m2 m3 m4 m5 m6 m7 m8 m9 m10 m11 (n32 a) k = some r := by
  obtain ⟨v, hV⟩ := hI
  have hU := inv_up hV
  have hU' := hU
  obtain ⟨iE, iS, iR, iT, iD, iTr, iI, iIt, iP⟩ := hU'
  have g1 : ∀ x : Option M12, gd (inb (n32 a + 1) L) x = x := fun x => law_gd (c := 1) (by omega) hL x
  have t1 : (n32 a + 1).toNatClampNeg = a + 1 := law_nt (c := 1) (L := L) (by omega) hL
  have g2 : ∀ x : Option M12, gd (inb (n32 a + 2) L) x = x := fun x => law_gd (c := 2) (by omega) hL x
  have t2 : (n32 a + 2).toNatClampNeg = a + 2 := law_nt (c := 2) (L := L) (by omega) hL
  have g3 : ∀ x : Option M12, gd (inb (n32 a + 3) L) x = x := fun x => law_gd (c := 3) (by omega) hL x
  have t3 : (n32 a + 3).toNatClampNeg = a + 3 := law_nt (c := 3) (L := L) (by omega) hL
  have g4 : ∀ x : Option M12, gd (inb (n32 a + 4) L) x = x := fun x => law_gd (c := 4) (by omega) hL x
  have t4 : (n32 a + 4).toNatClampNeg = a + 4 := law_nt (c := 4) (L := L) (by omega) hL
  have g5 : ∀ x : Option M12, gd (inb (n32 a + 5) L) x = x := fun x => law_gd (c := 5) (by omega) hL x
  have t5 : (n32 a + 5).toNatClampNeg = a + 5 := law_nt (c := 5) (L := L) (by omega) hL
  unfold f_law_2
  obtain ⟨x, m5', m11', w', e1, e2, fr, r1, r2⟩ := s_copy iR iS (sx (a + 1)) (sx (a + 2)) (sx (a + 3)) (sx (a + 4)) (sx (a + 5))
  simp only [g1, t1, g2, t2, g3, t3, g4, t4, g5, t5, e1, e2, bsE, ↓reduceIte]
  exact hk _ _ _ _ _ _ _ _ _ _ _ _ ⟨v, by rw [fr.row 6 (fun i => by unfold PRow; omega), fr 0 7 (by unfold PRow; omega)]; exact iE, by exact r2, by exact r1, by rw [fr.row 12 (fun i => by unfold PRow; omega), fr 0 12 (by unfold PRow; omega), fr 0 13 (by unfold PRow; omega)]; exact iT, by rw [fr.row 9 (fun i => by unfold PRow; omega), fr.row 10 (fun i => by unfold PRow; omega), fr 0 10 (by unfold PRow; omega)]; exact iD, by rw [fr.row 36 (fun i => by unfold PRow; omega), fr 0 36 (by unfold PRow; omega)]; exact iTr, by rw [fr.row 34 (fun i => by unfold PRow; omega), fr.row 35 (fun i => by unfold PRow; omega)]; exact iI, by intro k hk; rw [fr.row 34 (fun i => by unfold PRow; omega), fr 0 7 (by unfold PRow; omega)]; exact iIt k hk, by exact iP⟩
theorem law_3 (ha : a + 6 ≤ L) (hL : L ≤ 3072) (hI : Inv m0 m1 m3 m4 m5 m6 m8 m9 m10 m11) (hk : HK k) : ∃ r, f_law_3 L sx m0 m1 m2 m3 m4 m5 m6 m7 m8 m9 m10 m11 (n32 a) k = some r := by
  obtain ⟨v, hV⟩ := hI
  have hU := inv_up hV
  have hU' := hU
  obtain ⟨iE, iS, iR, iT, iD, iTr, iI, iIt, iP⟩ := hU'
  have g1 : ∀ x : Option M12, gd (inb (n32 a + 1) L) x = x := fun x => law_gd (c := 1) (by omega) hL x
  have t1 : (n32 a + 1).toNatClampNeg = a + 1 := law_nt (c := 1) (L := L) (by omega) hL
  unfold f_law_3
  obtain ⟨x, m5', m11', w', e1, e2, fr, r1, r2⟩ := s_drop iR iS (sx (a + 1))
  simp only [g1, t1, e1, e2, bsE, ↓reduceIte]
  exact hk _ _ _ _ _ _ _ _ _ _ _ _ ⟨v, by rw [fr.row 6 (fun i => by unfold PRow; omega), fr 0 7 (by unfold PRow; omega)]; exact iE, by exact r2, by exact r1, by rw [fr.row 12 (fun i => by unfold PRow; omega), fr 0 12 (by unfold PRow; omega), fr 0 13 (by unfold PRow; omega)]; exact iT, by rw [fr.row 9 (fun i => by unfold PRow; omega), fr.row 10 (fun i => by unfold PRow; omega), fr 0 10 (by unfold PRow; omega)]; exact iD, by rw [fr.row 36 (fun i => by unfold PRow; omega), fr 0 36 (by unfold PRow; omega)]; exact iTr, by rw [fr.row 34 (fun i => by unfold PRow; omega), fr.row 35 (fun i => by unfold PRow; omega)]; exact iI, by intro k hk; rw [fr.row 34 (fun i => by unfold PRow; omega), fr 0 7 (by unfold PRow; omega)]; exact iIt k hk, by exact iP⟩
theorem law_4 (ha : a + 6 ≤ L) (hL : L ≤ 3072) (hI : Inv m0 m1 m3 m4 m5 m6 m8 m9 m10 m11) (hk : HK k) : ∃ r, f_law_4 L sx m0 m1 m2 m3 m4 m5 m6 m7 m8 m9 m10 m11 (n32 a) k = some r := by
  obtain ⟨v, hV⟩ := hI
  have hU := inv_up hV
  have hU' := hU
  obtain ⟨iE, iS, iR, iT, iD, iTr, iI, iIt, iP⟩ := hU'
  have g1 : ∀ x : Option M12, gd (inb (n32 a + 1) L) x = x := fun x => law_gd (c := 1) (by omega) hL x
  have t1 : (n32 a + 1).toNatClampNeg = a + 1 := law_nt (c := 1) (L := L) (by omega) hL
  have g2 : ∀ x : Option M12, gd (inb (n32 a + 2) L) x = x := fun x => law_gd (c := 2) (by omega) hL x
  have t2 : (n32 a + 2).toNatClampNeg = a + 2 := law_nt (c := 2) (L := L) (by omega) hL
  have g3 : ∀ x : Option M12, gd (inb (n32 a + 3) L) x = x := fun x => law_gd (c := 3) (by omega) hL x
  have t3 : (n32 a + 3).toNatClampNeg = a + 3 := law_nt (c := 3) (L := L) (by omega) hL
  unfold f_law_4
  obtain ⟨x, m4', w', e1, e2, fr, r1⟩ := s_feed iT ((((sx (a + 1)).toInt64) <<< ((32 : Int32).toInt64 &&& 63)) ||| (((sx (a + 2)).toInt64) &&& 4294967295)) (sx (a + 3))
  simp only [g1, t1, g2, t2, g3, t3, e1, e2, bsE, ↓reduceIte]
  exact hk _ _ _ _ _ _ _ _ _ _ _ _ ⟨v, by rw [fr.row 6 (fun i => by unfold PFeed; omega), fr 0 7 (by unfold PFeed; omega)]; exact iE, by rw [fr 0 1 (by unfold PFeed; omega)]; exact iS, by rw [fr.row 3 (fun i => by unfold PFeed; omega), fr.row 4 (fun i => by unfold PFeed; omega), fr.row 5 (fun i => by unfold PFeed; omega)]; exact iR, by exact r1, by rw [fr.row 9 (fun i => by unfold PFeed; omega), fr.row 10 (fun i => by unfold PFeed; omega), fr 0 10 (by unfold PFeed; omega)]; exact iD, by rw [fr.row 36 (fun i => by unfold PFeed; omega), fr 0 36 (by unfold PFeed; omega)]; exact iTr, by rw [fr.row 34 (fun i => by unfold PFeed; omega), fr.row 35 (fun i => by unfold PFeed; omega)]; exact iI, by intro k hk; rw [fr.row 34 (fun i => by unfold PFeed; omega), fr 0 7 (by unfold PFeed; omega)]; exact iIt k hk, by exact iP⟩
theorem law_5 (ha : a + 6 ≤ L) (hL : L ≤ 3072) (hI : Inv m0 m1 m3 m4 m5 m6 m8 m9 m10 m11) (hk : HK k) : ∃ r, f_law_5 L sx m0 m1 m2 m3 m4 m5 m6 m7 m8 m9 m10 m11 (n32 a) k = some r := by
  obtain ⟨v, hV⟩ := hI
  have hU := inv_up hV
  have hU' := hU
  obtain ⟨iE, iS, iR, iT, iD, iTr, iI, iIt, iP⟩ := hU'
  unfold f_law_5
  obtain ⟨x, mD, m3', m4', m6', m11', w', e1, e2, r1, r2⟩ := s_evening (m1 := m1) (m2 := m2) (m3 := m3) (m6 := m6) (m11 := m11) iT
  simp only [e1, e2, bsE, ↓reduceIte]
  rcases r2 with ⟨rfl, rfl, rfl, fr⟩ | ⟨rfl, fr, r7, rf, v', rE, rD⟩
  · rw [if_pos iS.2.1]
    exact hk _ _ _ _ _ _ _ _ _ _ _ _ ⟨v, by rw [fr.row 6 (fun i => by unfold PEvF; omega), fr 0 7 (by unfold PEvF; omega)]; exact iE, by rw [fr 0 1 (by unfold PEvF; omega)]; exact iS, by rw [fr.row 3 (fun i => by unfold PEvF; omega), fr.row 4 (fun i => by unfold PEvF; omega), fr.row 5 (fun i => by unfold PEvF; omega)]; exact iR, by exact r1, by rw [fr.row 9 (fun i => by unfold PEvF; omega), fr.row 10 (fun i => by unfold PEvF; omega), fr 0 10 (by unfold PEvF; omega)]; exact iD, by rw [fr.row 36 (fun i => by unfold PEvF; omega), fr 0 36 (by unfold PEvF; omega)]; exact iTr, by rw [fr.row 34 (fun i => by unfold PEvF; omega), fr.row 35 (fun i => by unfold PEvF; omega)]; exact iI, by intro k hk; rw [fr.row 34 (fun i => by unfold PEvF; omega), fr 0 7 (by unfold PEvF; omega)]; exact iIt k hk, by exact iP⟩
  · have h7 : ¬ (up (up m11 0 7 2) 0 8 1) 0 7 = 1 := by rw [up_mi (by omega), up_at]; decide
    rw [if_neg h7]
    have sS : RSt ((up m0 0 0 0) 0 1) (sw11 (up (up m11 0 7 2) 0 8 1)) := by
      have a7 : (up (up m11 0 7 2) 0 8 1) 0 7 = 2 := by rw [up_mi (by omega), up_at]
      have a8 : (up (up m11 0 7 2) 0 8 1) 0 8 = 1 := up_at _ _ _ _
      unfold sw11
      rw [a7, a8]
      refine ⟨?_, ?_, ?_⟩
      · rw [up_mi (by omega), up_mi (by omega), up_mi (by omega), up_mi (by omega)]; exact iS.1
      · rw [up_mi (by omega), up_at]; rfl
      · rw [up_at]; rfl
    have iv : Inv w' mD m3' m4' m5 m6' m8 m9 m10 (sw11 (up (up m11 0 7 2) 0 8 1)) := ⟨v', by exact rE, by rw [fr 0 1 (by unfold PEv; omega)]; exact sS, by rw [fr.row 3 (fun i => by unfold PEv; omega), fr.row 4 (fun i => by unfold PEv; omega), fr.row 5 (fun i => by unfold PEv; omega)]; exact iR, by exact r1, by exact rD, by rw [fr.row 36 (fun i => by unfold PEv; omega), fr 0 36 (by unfold PEv; omega)]; exact iTr, by rw [fr.row 34 (fun i => by unfold PEv; omega), fr.row 35 (fun i => by unfold PEv; omega)]; exact iI, by intro k _ _; exact r7, by exact fgt_pl iP rf rE.2.1⟩
    obtain ⟨r, e⟩ := hk w' mD m1 m3' m4' m5 m6' m7 m8 m9 m10 (sw11 (up (up m11 0 7 2) 0 8 1)) iv
    exact ⟨swap12 r, by rw [e]; rfl⟩
theorem law_6 (ha : a + 6 ≤ L) (hL : L ≤ 3072) (hI : Inv m0 m1 m3 m4 m5 m6 m8 m9 m10 m11) (hk : HK k) : ∃ r, f_law_6 L sx m0 m1 m2 m3 m4 m5 m6 m7 m8 m9 m10 m11 (n32 a) k = some r := by
  obtain ⟨v, hV⟩ := hI
  have hU := inv_up hV
  have hU' := hU
  obtain ⟨iE, iS, iR, iT, iD, iTr, iI, iIt, iP⟩ := hU'
  unfold f_law_6
  obtain ⟨x, e1, e2⟩ := s_fault (m4 := m4) iT.1
  simp only [e1, e2, bsE, ↓reduceIte]
  exact hk _ _ _ _ _ _ _ _ _ _ _ _ ⟨v, hU⟩
theorem law_7 (ha : a + 6 ≤ L) (hL : L ≤ 3072) (hI : Inv m0 m1 m3 m4 m5 m6 m8 m9 m10 m11) (hk : HK k) : ∃ r, f_law_7 L sx m0 m1 m2 m3 m4 m5 m6 m7 m8 m9 m10 m11 (n32 a) k = some r := by
  obtain ⟨v, hV⟩ := hI
  have hU := inv_up hV
  have hU' := hU
  obtain ⟨iE, iS, iR, iT, iD, iTr, iI, iIt, iP⟩ := hU'
  have g1 : ∀ x : Option M12, gd (inb (n32 a + 1) L) x = x := fun x => law_gd (c := 1) (by omega) hL x
  have t1 : (n32 a + 1).toNatClampNeg = a + 1 := law_nt (c := 1) (L := L) (by omega) hL
  have g2 : ∀ x : Option M12, gd (inb (n32 a + 2) L) x = x := fun x => law_gd (c := 2) (by omega) hL x
  have t2 : (n32 a + 2).toNatClampNeg = a + 2 := law_nt (c := 2) (L := L) (by omega) hL
  unfold f_law_7
  obtain ⟨x, m1', m6', w', v', e1, e2, fr, gl, rE, rD⟩ := s_drink iE iD (sx (a + 1)) (sx (a + 2))
  simp only [g1, t1, g2, t2, e1, e2, bsE, ↓reduceIte]
  exact hk _ _ _ _ _ _ _ _ _ _ _ _ ⟨v', by exact rE, by rw [fr 0 1 (by unfold PDr; omega)]; exact iS, by rw [fr.row 3 (fun i => by unfold PDr; omega), fr.row 4 (fun i => by unfold PDr; omega), fr.row 5 (fun i => by unfold PDr; omega)]; exact iR, by rw [fr.row 12 (fun i => by unfold PDr; omega), fr 0 12 (by unfold PDr; omega), fr 0 13 (by unfold PDr; omega)]; exact iT, by exact rD, by rw [fr.row 36 (fun i => by unfold PDr; omega), fr 0 36 (by unfold PDr; omega)]; exact iTr, by rw [fr.row 34 (fun i => by unfold PDr; omega), fr.row 35 (fun i => by unfold PDr; omega)]; exact iI, by intro k hk; rw [fr.row 34 (fun i => by unfold PDr; omega), fr 0 7 (by unfold PDr; omega)]; exact iIt k hk, by exact gl_pl gl iE.2.1 iP⟩
theorem law_8 (ha : a + 6 ≤ L) (hL : L ≤ 3072) (hI : Inv m0 m1 m3 m4 m5 m6 m8 m9 m10 m11) (hk : HK k) : ∃ r, f_law_8 L sx m0 m1 m2 m3 m4 m5 m6 m7 m8 m9 m10 m11 (n32 a) k = some r := by
  obtain ⟨v, hV⟩ := hI
  have hU := inv_up hV
  have hU' := hU
  obtain ⟨iE, iS, iR, iT, iD, iTr, iI, iIt, iP⟩ := hU'
  unfold f_law_8
  obtain ⟨x, m1', m6', w', v', e1, e2, fr, gl, rE, rD⟩ := s_undo iE iD 
  simp only [e1, e2, bsE, ↓reduceIte]
  exact hk _ _ _ _ _ _ _ _ _ _ _ _ ⟨v', by exact rE, by rw [fr 0 1 (by unfold PDr; omega)]; exact iS, by rw [fr.row 3 (fun i => by unfold PDr; omega), fr.row 4 (fun i => by unfold PDr; omega), fr.row 5 (fun i => by unfold PDr; omega)]; exact iR, by rw [fr.row 12 (fun i => by unfold PDr; omega), fr 0 12 (by unfold PDr; omega), fr 0 13 (by unfold PDr; omega)]; exact iT, by exact rD, by rw [fr.row 36 (fun i => by unfold PDr; omega), fr 0 36 (by unfold PDr; omega)]; exact iTr, by rw [fr.row 34 (fun i => by unfold PDr; omega), fr.row 35 (fun i => by unfold PDr; omega)]; exact iI, by intro k hk; rw [fr.row 34 (fun i => by unfold PDr; omega), fr 0 7 (by unfold PDr; omega)]; exact iIt k hk, by exact gl_pl gl iE.2.1 iP⟩
theorem law_9 (ha : a + 6 ≤ L) (hL : L ≤ 3072) (hI : Inv m0 m1 m3 m4 m5 m6 m8 m9 m10 m11) (hk : HK k) : ∃ r, f_law_9 L sx m0 m1 m2 m3 m4 m5 m6 m7 m8 m9 m10 m11 (n32 a) k = some r := by
  obtain ⟨v, hV⟩ := hI
  have hU := inv_up hV
  have hU' := hU
  obtain ⟨iE, iS, iR, iT, iD, iTr, iI, iIt, iP⟩ := hU'
  have g1 : ∀ x : Option M12, gd (inb (n32 a + 1) L) x = x := fun x => law_gd (c := 1) (by omega) hL x
  have t1 : (n32 a + 1).toNatClampNeg = a + 1 := law_nt (c := 1) (L := L) (by omega) hL
  have g2 : ∀ x : Option M12, gd (inb (n32 a + 2) L) x = x := fun x => law_gd (c := 2) (by omega) hL x
  have t2 : (n32 a + 2).toNatClampNeg = a + 2 := law_nt (c := 2) (L := L) (by omega) hL
  unfold f_law_9
  obtain ⟨x, e1, e2⟩ := s_person iE (sx (a + 1)) (sx (a + 2))
  simp only [g1, t1, g2, t2, e1, e2, bsE, ↓reduceIte]
  exact hk _ _ _ _ _ _ _ _ _ _ _ _ ⟨v, hU⟩
theorem law_10 (ha : a + 6 ≤ L) (hL : L ≤ 3072) (hI : Inv m0 m1 m3 m4 m5 m6 m8 m9 m10 m11) (hk : HK k) : ∃ r, f_law_10 L sx m0 m1 m2 m3 m4 m5 m6 m7 m8 m9 m10 m11 (n32 a) k = some r := by
  obtain ⟨v, hV⟩ := hI
  have hU := inv_up hV
  have hU' := hU
  obtain ⟨iE, iS, iR, iT, iD, iTr, iI, iIt, iP⟩ := hU'
  have g1 : ∀ x : Option M12, gd (inb (n32 a + 1) L) x = x := fun x => law_gd (c := 1) (by omega) hL x
  have t1 : (n32 a + 1).toNatClampNeg = a + 1 := law_nt (c := 1) (L := L) (by omega) hL
  have g2 : ∀ x : Option M12, gd (inb (n32 a + 2) L) x = x := fun x => law_gd (c := 2) (by omega) hL x
  have t2 : (n32 a + 2).toNatClampNeg = a + 2 := law_nt (c := 2) (L := L) (by omega) hL
  unfold f_law_10
  obtain ⟨x, e1, e2⟩ := s_car iE (sx (a + 1)) (sx (a + 2))
  simp only [g1, t1, g2, t2, e1, e2, bsE, ↓reduceIte]
  exact hk _ _ _ _ _ _ _ _ _ _ _ _ ⟨v, hU⟩
theorem law_11 (ha : a + 6 ≤ L) (hL : L ≤ 3072) (hI : Inv m0 m1 m3 m4 m5 m6 m8 m9 m10 m11) (hk : HK k) : ∃ r, f_law_11 L sx m0 m1 m2 m3 m4 m5 m6 m7 m8 m9 m10 m11 (n32 a) k = some r := by
  obtain ⟨v, hV⟩ := hI
  have hU := inv_up hV
  have hU' := hU
  obtain ⟨iE, iS, iR, iT, iD, iTr, iI, iIt, iP⟩ := hU'
  have g1 : ∀ x : Option M12, gd (inb (n32 a + 1) L) x = x := fun x => law_gd (c := 1) (by omega) hL x
  have t1 : (n32 a + 1).toNatClampNeg = a + 1 := law_nt (c := 1) (L := L) (by omega) hL
  have g2 : ∀ x : Option M12, gd (inb (n32 a + 2) L) x = x := fun x => law_gd (c := 2) (by omega) hL x
  have t2 : (n32 a + 2).toNatClampNeg = a + 2 := law_nt (c := 2) (L := L) (by omega) hL
  unfold f_law_11
  obtain ⟨x, e1, e2⟩ := s_far iE (sx (a + 1)) (sx (a + 2))
  simp only [g1, t1, g2, t2, e1, e2, bsE, ↓reduceIte]
  exact hk _ _ _ _ _ _ _ _ _ _ _ _ ⟨v, hU⟩
theorem law_12 (ha : a + 6 ≤ L) (hL : L ≤ 3072) (hI : Inv m0 m1 m3 m4 m5 m6 m8 m9 m10 m11) (hk : HK k) : ∃ r, f_law_12 L sx m0 m1 m2 m3 m4 m5 m6 m7 m8 m9 m10 m11 (n32 a) k = some r := by
  obtain ⟨v, hV⟩ := hI
  have hU := inv_up hV
  have hU' := hU
  obtain ⟨iE, iS, iR, iT, iD, iTr, iI, iIt, iP⟩ := hU'
  have g1 : ∀ x : Option M12, gd (inb (n32 a + 1) L) x = x := fun x => law_gd (c := 1) (by omega) hL x
  have t1 : (n32 a + 1).toNatClampNeg = a + 1 := law_nt (c := 1) (L := L) (by omega) hL
  have g2 : ∀ x : Option M12, gd (inb (n32 a + 2) L) x = x := fun x => law_gd (c := 2) (by omega) hL x
  have t2 : (n32 a + 2).toNatClampNeg = a + 2 := law_nt (c := 2) (L := L) (by omega) hL
  have g3 : ∀ x : Option M12, gd (inb (n32 a + 3) L) x = x := fun x => law_gd (c := 3) (by omega) hL x
  have t3 : (n32 a + 3).toNatClampNeg = a + 3 := law_nt (c := 3) (L := L) (by omega) hL
  unfold f_law_12
  obtain ⟨x, e1, e2⟩ := s_may iE (sx (a + 1)) (sx (a + 2)) (sx (a + 3))
  simp only [g1, t1, g2, t2, g3, t3, e1, e2, bsE, ↓reduceIte]
  exact hk _ _ _ _ _ _ _ _ _ _ _ _ ⟨v, hU⟩
theorem law_13 (ha : a + 6 ≤ L) (hL : L ≤ 3072) (hI : Inv m0 m1 m3 m4 m5 m6 m8 m9 m10 m11) (hk : HK k) : ∃ r, f_law_13 L sx m0 m1 m2 m3 m4 m5 m6 m7 m8 m9 m10 m11 (n32 a) k = some r := by
  obtain ⟨v, hV⟩ := hI
  have hU := inv_up hV
  have hU' := hU
  obtain ⟨iE, iS, iR, iT, iD, iTr, iI, iIt, iP⟩ := hU'
  have g1 : ∀ x : Option M12, gd (inb (n32 a + 1) L) x = x := fun x => law_gd (c := 1) (by omega) hL x
  have t1 : (n32 a + 1).toNatClampNeg = a + 1 := law_nt (c := 1) (L := L) (by omega) hL
  unfold f_law_13
  obtain ⟨x, e1, e2⟩ := s_soon iE (sx (a + 1))
  simp only [g1, t1, e1, e2, bsE, ↓reduceIte]
  exact hk _ _ _ _ _ _ _ _ _ _ _ _ ⟨v, hU⟩
theorem law_14 (ha : a + 6 ≤ L) (hL : L ≤ 3072) (hI : Inv m0 m1 m3 m4 m5 m6 m8 m9 m10 m11) (hk : HK k) : ∃ r, f_law_14 L sx m0 m1 m2 m3 m4 m5 m6 m7 m8 m9 m10 m11 (n32 a) k = some r := by
  obtain ⟨v, hV⟩ := hI
  have hU := inv_up hV
  have hU' := hU
  obtain ⟨iE, iS, iR, iT, iD, iTr, iI, iIt, iP⟩ := hU'
  have g1 : ∀ x : Option M12, gd (inb (n32 a + 1) L) x = x := fun x => law_gd (c := 1) (by omega) hL x
  have t1 : (n32 a + 1).toNatClampNeg = a + 1 := law_nt (c := 1) (L := L) (by omega) hL
  have g2 : ∀ x : Option M12, gd (inb (n32 a + 2) L) x = x := fun x => law_gd (c := 2) (by omega) hL x
  have t2 : (n32 a + 2).toNatClampNeg = a + 2 := law_nt (c := 2) (L := L) (by omega) hL
  have g3 : ∀ x : Option M12, gd (inb (n32 a + 3) L) x = x := fun x => law_gd (c := 3) (by omega) hL x
  have t3 : (n32 a + 3).toNatClampNeg = a + 3 := law_nt (c := 3) (L := L) (by omega) hL
  have g4 : ∀ x : Option M12, gd (inb (n32 a + 4) L) x = x := fun x => law_gd (c := 4) (by omega) hL x
  have t4 : (n32 a + 4).toNatClampNeg = a + 4 := law_nt (c := 4) (L := L) (by omega) hL
  unfold f_law_14
  obtain ⟨x, e1, e2⟩ := s_odds iE (sx (a + 1)) (sx (a + 2)) (sx (a + 3)) (sx (a + 4))
  simp only [g1, t1, g2, t2, g3, t3, g4, t4, e1, e2, bsE, ↓reduceIte]
  exact hk _ _ _ _ _ _ _ _ _ _ _ _ ⟨v, hU⟩
theorem law_15 (ha : a + 6 ≤ L) (hL : L ≤ 3072) (hI : Inv m0 m1 m3 m4 m5 m6 m8 m9 m10 m11) (hk : HK k) : ∃ r, f_law_15 L sx m0 m1 m2 m3 m4 m5 m6 m7 m8 m9 m10 m11 (n32 a) k = some r := by
  obtain ⟨v, hV⟩ := hI
  have hU := inv_up hV
  have hU' := hU
  obtain ⟨iE, iS, iR, iT, iD, iTr, iI, iIt, iP⟩ := hU'
  have g1 : ∀ x : Option M12, gd (inb (n32 a + 1) L) x = x := fun x => law_gd (c := 1) (by omega) hL x
  have t1 : (n32 a + 1).toNatClampNeg = a + 1 := law_nt (c := 1) (L := L) (by omega) hL
  unfold f_law_15
  obtain ⟨x, e1, e2⟩ := s_goes iE (sx (a + 1))
  simp only [g1, t1, e1, e2, bsE, ↓reduceIte]
  exact hk _ _ _ _ _ _ _ _ _ _ _ _ ⟨v, hU⟩
theorem law_16 (ha : a + 6 ≤ L) (hL : L ≤ 3072) (hI : Inv m0 m1 m3 m4 m5 m6 m8 m9 m10 m11) (hk : HK k) : ∃ r, f_law_16 L sx m0 m1 m2 m3 m4 m5 m6 m7 m8 m9 m10 m11 (n32 a) k = some r := by
  obtain ⟨v, hV⟩ := hI
  have hU := inv_up hV
  have hU' := hU
  obtain ⟨iE, iS, iR, iT, iD, iTr, iI, iIt, iP⟩ := hU'
  have g1 : ∀ x : Option M12, gd (inb (n32 a + 1) L) x = x := fun x => law_gd (c := 1) (by omega) hL x
  have t1 : (n32 a + 1).toNatClampNeg = a + 1 := law_nt (c := 1) (L := L) (by omega) hL
  have g2 : ∀ x : Option M12, gd (inb (n32 a + 2) L) x = x := fun x => law_gd (c := 2) (by omega) hL x
  have t2 : (n32 a + 2).toNatClampNeg = a + 2 := law_nt (c := 2) (L := L) (by omega) hL
  unfold f_law_16
  obtain ⟨x, m3', w', e1, e2, fr, r1⟩ := s_home iE iP (sx (a + 1)) (sx (a + 2))
  simp only [g1, t1, g2, t2, e1, e2, bsE, ↓reduceIte]
  exact hk _ _ _ _ _ _ _ _ _ _ _ _ ⟨v, by rw [fr.row 6 (fun i => by unfold PHm P26 P22 P30; omega), fr 0 7 (by unfold PHm P26 P22 P30; omega)]; exact iE, by rw [fr 0 1 (by unfold PHm P26 P22 P30; omega)]; exact iS, by rw [fr.row 3 (fun i => by unfold PHm P26 P22 P30; omega), fr.row 4 (fun i => by unfold PHm P26 P22 P30; omega), fr.row 5 (fun i => by unfold PHm P26 P22 P30; omega)]; exact iR, by rw [fr.row 12 (fun i => by unfold PHm P26 P22 P30; omega), fr 0 12 (by unfold PHm P26 P22 P30; omega), fr 0 13 (by unfold PHm P26 P22 P30; omega)]; exact iT, by rw [fr.row 9 (fun i => by unfold PHm P26 P22 P30; omega), fr.row 10 (fun i => by unfold PHm P26 P22 P30; omega), fr 0 10 (by unfold PHm P26 P22 P30; omega)]; exact iD, by rw [fr.row 36 (fun i => by unfold PHm P26 P22 P30; omega), fr 0 36 (by unfold PHm P26 P22 P30; omega)]; exact iTr, by rw [fr.row 34 (fun i => by unfold PHm P26 P22 P30; omega), fr.row 35 (fun i => by unfold PHm P26 P22 P30; omega)]; exact iI, by intro k hk; rw [fr.row 34 (fun i => by unfold PHm P26 P22 P30; omega), fr 0 7 (by unfold PHm P26 P22 P30; omega)]; exact iIt k hk, by exact r1⟩
theorem law_17 (ha : a + 6 ≤ L) (hL : L ≤ 3072) (hI : Inv m0 m1 m3 m4 m5 m6 m8 m9 m10 m11) (hk : HK k) : ∃ r, f_law_17 L sx m0 m1 m2 m3 m4 m5 m6 m7 m8 m9 m10 m11 (n32 a) k = some r := by
  obtain ⟨v, hV⟩ := hI
  have hU := inv_up hV
  have hU' := hU
  obtain ⟨iE, iS, iR, iT, iD, iTr, iI, iIt, iP⟩ := hU'
  have g1 : ∀ x : Option M12, gd (inb (n32 a + 1) L) x = x := fun x => law_gd (c := 1) (by omega) hL x
  have t1 : (n32 a + 1).toNatClampNeg = a + 1 := law_nt (c := 1) (L := L) (by omega) hL
  have g2 : ∀ x : Option M12, gd (inb (n32 a + 2) L) x = x := fun x => law_gd (c := 2) (by omega) hL x
  have t2 : (n32 a + 2).toNatClampNeg = a + 2 := law_nt (c := 2) (L := L) (by omega) hL
  have g3 : ∀ x : Option M12, gd (inb (n32 a + 3) L) x = x := fun x => law_gd (c := 3) (by omega) hL x
  have t3 : (n32 a + 3).toNatClampNeg = a + 3 := law_nt (c := 3) (L := L) (by omega) hL
  unfold f_law_17
  obtain ⟨x, m3', w', e1, e2, fr, r1⟩ := s_order iE iP (sx (a + 1)) (sx (a + 2)) (sx (a + 3))
  simp only [g1, t1, g2, t2, g3, t3, e1, e2, bsE, ↓reduceIte]
  exact hk _ _ _ _ _ _ _ _ _ _ _ _ ⟨v, by rw [fr.row 6 (fun i => by unfold PHm P26 P22 P30; omega), fr 0 7 (by unfold PHm P26 P22 P30; omega)]; exact iE, by rw [fr 0 1 (by unfold PHm P26 P22 P30; omega)]; exact iS, by rw [fr.row 3 (fun i => by unfold PHm P26 P22 P30; omega), fr.row 4 (fun i => by unfold PHm P26 P22 P30; omega), fr.row 5 (fun i => by unfold PHm P26 P22 P30; omega)]; exact iR, by rw [fr.row 12 (fun i => by unfold PHm P26 P22 P30; omega), fr 0 12 (by unfold PHm P26 P22 P30; omega), fr 0 13 (by unfold PHm P26 P22 P30; omega)]; exact iT, by rw [fr.row 9 (fun i => by unfold PHm P26 P22 P30; omega), fr.row 10 (fun i => by unfold PHm P26 P22 P30; omega), fr 0 10 (by unfold PHm P26 P22 P30; omega)]; exact iD, by rw [fr.row 36 (fun i => by unfold PHm P26 P22 P30; omega), fr 0 36 (by unfold PHm P26 P22 P30; omega)]; exact iTr, by rw [fr.row 34 (fun i => by unfold PHm P26 P22 P30; omega), fr.row 35 (fun i => by unfold PHm P26 P22 P30; omega)]; exact iI, by intro k hk; rw [fr.row 34 (fun i => by unfold PHm P26 P22 P30; omega), fr 0 7 (by unfold PHm P26 P22 P30; omega)]; exact iIt k hk, by exact r1⟩
theorem law_18 (ha : a + 6 ≤ L) (hL : L ≤ 3072) (hI : Inv m0 m1 m3 m4 m5 m6 m8 m9 m10 m11) (hk : HK k) : ∃ r, f_law_18 L sx m0 m1 m2 m3 m4 m5 m6 m7 m8 m9 m10 m11 (n32 a) k = some r := by
  obtain ⟨v, hV⟩ := hI
  have hU := inv_up hV
  have hU' := hU
  obtain ⟨iE, iS, iR, iT, iD, iTr, iI, iIt, iP⟩ := hU'
  have g1 : ∀ x : Option M12, gd (inb (n32 a + 1) L) x = x := fun x => law_gd (c := 1) (by omega) hL x
  have t1 : (n32 a + 1).toNatClampNeg = a + 1 := law_nt (c := 1) (L := L) (by omega) hL
  have g2 : ∀ x : Option M12, gd (inb (n32 a + 2) L) x = x := fun x => law_gd (c := 2) (by omega) hL x
  have t2 : (n32 a + 2).toNatClampNeg = a + 2 := law_nt (c := 2) (L := L) (by omega) hL
  unfold f_law_18
  obtain ⟨x, m3', w', e1, e2, fr, r1⟩ := s_detour iE iP (sx (a + 1)) (sx (a + 2))
  simp only [g1, t1, g2, t2, e1, e2, bsE, ↓reduceIte]
  exact hk _ _ _ _ _ _ _ _ _ _ _ _ ⟨v, by rw [fr.row 6 (fun i => by unfold PHm P26 P22 P30; omega), fr 0 7 (by unfold PHm P26 P22 P30; omega)]; exact iE, by rw [fr 0 1 (by unfold PHm P26 P22 P30; omega)]; exact iS, by rw [fr.row 3 (fun i => by unfold PHm P26 P22 P30; omega), fr.row 4 (fun i => by unfold PHm P26 P22 P30; omega), fr.row 5 (fun i => by unfold PHm P26 P22 P30; omega)]; exact iR, by rw [fr.row 12 (fun i => by unfold PHm P26 P22 P30; omega), fr 0 12 (by unfold PHm P26 P22 P30; omega), fr 0 13 (by unfold PHm P26 P22 P30; omega)]; exact iT, by rw [fr.row 9 (fun i => by unfold PHm P26 P22 P30; omega), fr.row 10 (fun i => by unfold PHm P26 P22 P30; omega), fr 0 10 (by unfold PHm P26 P22 P30; omega)]; exact iD, by rw [fr.row 36 (fun i => by unfold PHm P26 P22 P30; omega), fr 0 36 (by unfold PHm P26 P22 P30; omega)]; exact iTr, by rw [fr.row 34 (fun i => by unfold PHm P26 P22 P30; omega), fr.row 35 (fun i => by unfold PHm P26 P22 P30; omega)]; exact iI, by intro k hk; rw [fr.row 34 (fun i => by unfold PHm P26 P22 P30; omega), fr 0 7 (by unfold PHm P26 P22 P30; omega)]; exact iIt k hk, by exact r1⟩
theorem law_19 (ha : a + 6 ≤ L) (hL : L ≤ 3072) (hI : Inv m0 m1 m3 m4 m5 m6 m8 m9 m10 m11) (hk : HK k) : ∃ r, f_law_19 L sx m0 m1 m2 m3 m4 m5 m6 m7 m8 m9 m10 m11 (n32 a) k = some r := by
  obtain ⟨v, hV⟩ := hI
  have hU := inv_up hV
  have hU' := hU
  obtain ⟨iE, iS, iR, iT, iD, iTr, iI, iIt, iP⟩ := hU'
  have g1 : ∀ x : Option M12, gd (inb (n32 a + 1) L) x = x := fun x => law_gd (c := 1) (by omega) hL x
  have t1 : (n32 a + 1).toNatClampNeg = a + 1 := law_nt (c := 1) (L := L) (by omega) hL
  unfold f_law_19
  obtain ⟨x, e1, e2⟩ := s_fetch iE (sx (a + 1))
  simp only [g1, t1, e1, e2, bsE, ↓reduceIte]
  exact hk _ _ _ _ _ _ _ _ _ _ _ _ ⟨v, hU⟩
theorem law_20 (ha : a + 6 ≤ L) (hL : L ≤ 3072) (hI : Inv m0 m1 m3 m4 m5 m6 m8 m9 m10 m11) (hk : HK k) : ∃ r, f_law_20 L sx m0 m1 m2 m3 m4 m5 m6 m7 m8 m9 m10 m11 (n32 a) k = some r := by
  obtain ⟨v, hV⟩ := hI
  have hU := inv_up hV
  have hU' := hU
  obtain ⟨iE, iS, iR, iT, iD, iTr, iI, iIt, iP⟩ := hU'
  have g1 : ∀ x : Option M12, gd (inb (n32 a + 1) L) x = x := fun x => law_gd (c := 1) (by omega) hL x
  have t1 : (n32 a + 1).toNatClampNeg = a + 1 := law_nt (c := 1) (L := L) (by omega) hL
  unfold f_law_20
  obtain ⟨x, e1, e2⟩ := s_house iE (sx (a + 1))
  simp only [g1, t1, e1, e2, bsE, ↓reduceIte]
  exact hk _ _ _ _ _ _ _ _ _ _ _ _ ⟨v, hU⟩
theorem law_21 (ha : a + 6 ≤ L) (hL : L ≤ 3072) (hI : Inv m0 m1 m3 m4 m5 m6 m8 m9 m10 m11) (hk : HK k) : ∃ r, f_law_21 L sx m0 m1 m2 m3 m4 m5 m6 m7 m8 m9 m10 m11 (n32 a) k = some r := by
  obtain ⟨v, hV⟩ := hI
  have hU := inv_up hV
  have hU' := hU
  obtain ⟨iE, iS, iR, iT, iD, iTr, iI, iIt, iP⟩ := hU'
  have g1 : ∀ x : Option M12, gd (inb (n32 a + 1) L) x = x := fun x => law_gd (c := 1) (by omega) hL x
  have t1 : (n32 a + 1).toNatClampNeg = a + 1 := law_nt (c := 1) (L := L) (by omega) hL
  have g2 : ∀ x : Option M12, gd (inb (n32 a + 2) L) x = x := fun x => law_gd (c := 2) (by omega) hL x
  have t2 : (n32 a + 2).toNatClampNeg = a + 2 := law_nt (c := 2) (L := L) (by omega) hL
  have g3 : ∀ x : Option M12, gd (inb (n32 a + 3) L) x = x := fun x => law_gd (c := 3) (by omega) hL x
  have t3 : (n32 a + 3).toNatClampNeg = a + 3 := law_nt (c := 3) (L := L) (by omega) hL
  unfold f_law_21
  obtain ⟨x, m7', m11', w', e1, e2, fr, r1⟩ := s_turn (m7 := m7) iE iR iS (sx (a + 1)) (sx (a + 2)) (sx (a + 3))
  simp only [g1, t1, g2, t2, g3, t3, e1, e2, bsE, ↓reduceIte]
  exact hk _ _ _ _ _ _ _ _ _ _ _ _ ⟨v, by rw [fr.row 6 (fun i => by unfold PTu; omega), fr 0 7 (by unfold PTu; omega)]; exact iE, by exact r1, by rw [fr.row 3 (fun i => by unfold PTu; omega), fr.row 4 (fun i => by unfold PTu; omega), fr.row 5 (fun i => by unfold PTu; omega)]; exact iR, by rw [fr.row 12 (fun i => by unfold PTu; omega), fr 0 12 (by unfold PTu; omega), fr 0 13 (by unfold PTu; omega)]; exact iT, by rw [fr.row 9 (fun i => by unfold PTu; omega), fr.row 10 (fun i => by unfold PTu; omega), fr 0 10 (by unfold PTu; omega)]; exact iD, by rw [fr.row 36 (fun i => by unfold PTu; omega), fr 0 36 (by unfold PTu; omega)]; exact iTr, by rw [fr.row 34 (fun i => by unfold PTu; omega), fr.row 35 (fun i => by unfold PTu; omega)]; exact iI, by intro k hk; rw [fr.row 34 (fun i => by unfold PTu; omega), fr 0 7 (by unfold PTu; omega)]; exact iIt k hk, by exact iP⟩
theorem law_22 (ha : a + 6 ≤ L) (hL : L ≤ 3072) (hI : Inv m0 m1 m3 m4 m5 m6 m8 m9 m10 m11) (hk : HK k) : ∃ r, f_law_22 L sx m0 m1 m2 m3 m4 m5 m6 m7 m8 m9 m10 m11 (n32 a) k = some r := by
  obtain ⟨v, hV⟩ := hI
  have hU := inv_up hV
  have hU' := hU
  obtain ⟨iE, iS, iR, iT, iD, iTr, iI, iIt, iP⟩ := hU'
  have g1 : ∀ x : Option M12, gd (inb (n32 a + 1) L) x = x := fun x => law_gd (c := 1) (by omega) hL x
  have t1 : (n32 a + 1).toNatClampNeg = a + 1 := law_nt (c := 1) (L := L) (by omega) hL
  have g2 : ∀ x : Option M12, gd (inb (n32 a + 2) L) x = x := fun x => law_gd (c := 2) (by omega) hL x
  have t2 : (n32 a + 2).toNatClampNeg = a + 2 := law_nt (c := 2) (L := L) (by omega) hL
  have g3 : ∀ x : Option M12, gd (inb (n32 a + 3) L) x = x := fun x => law_gd (c := 3) (by omega) hL x
  have t3 : (n32 a + 3).toNatClampNeg = a + 3 := law_nt (c := 3) (L := L) (by omega) hL
  unfold f_law_22
  obtain ⟨x, m7', m11', w', e1, e2, fr, r1⟩ := s_gloves (m7 := m7) iE iR iS (sx (a + 1)) (sx (a + 2)) (sx (a + 3))
  simp only [g1, t1, g2, t2, g3, t3, e1, e2, bsE, ↓reduceIte]
  exact hk _ _ _ _ _ _ _ _ _ _ _ _ ⟨v, by rw [fr.row 6 (fun i => by unfold PTu; omega), fr 0 7 (by unfold PTu; omega)]; exact iE, by exact r1, by rw [fr.row 3 (fun i => by unfold PTu; omega), fr.row 4 (fun i => by unfold PTu; omega), fr.row 5 (fun i => by unfold PTu; omega)]; exact iR, by rw [fr.row 12 (fun i => by unfold PTu; omega), fr 0 12 (by unfold PTu; omega), fr 0 13 (by unfold PTu; omega)]; exact iT, by rw [fr.row 9 (fun i => by unfold PTu; omega), fr.row 10 (fun i => by unfold PTu; omega), fr 0 10 (by unfold PTu; omega)]; exact iD, by rw [fr.row 36 (fun i => by unfold PTu; omega), fr 0 36 (by unfold PTu; omega)]; exact iTr, by rw [fr.row 34 (fun i => by unfold PTu; omega), fr.row 35 (fun i => by unfold PTu; omega)]; exact iI, by intro k hk; rw [fr.row 34 (fun i => by unfold PTu; omega), fr 0 7 (by unfold PTu; omega)]; exact iIt k hk, by exact iP⟩
theorem law_23 (ha : a + 6 ≤ L) (hL : L ≤ 3072) (hI : Inv m0 m1 m3 m4 m5 m6 m8 m9 m10 m11) (hk : HK k) : ∃ r, f_law_23 L sx m0 m1 m2 m3 m4 m5 m6 m7 m8 m9 m10 m11 (n32 a) k = some r := by
  obtain ⟨v, hV⟩ := hI
  have hU := inv_up hV
  have hU' := hU
  obtain ⟨iE, iS, iR, iT, iD, iTr, iI, iIt, iP⟩ := hU'
  have g1 : ∀ x : Option M12, gd (inb (n32 a + 1) L) x = x := fun x => law_gd (c := 1) (by omega) hL x
  have t1 : (n32 a + 1).toNatClampNeg = a + 1 := law_nt (c := 1) (L := L) (by omega) hL
  unfold f_law_23
  obtain ⟨x, m9', m10', w', e1, e2, fr, r1, r2⟩ := s_image iE iI (sx (a + 1))
  simp only [g1, t1, e1, e2, bsE, ↓reduceIte]
  have r3 : ∀ k, k < 2 → w' 34 k = n32 1 → w' 0 7 = n32 1 := by
    intro k hk hq
    rw [fr 0 7 (by unfold PIm; omega)]
    rcases r2 with rfl | r2
    · exact iIt k hk hq
    · exact r2
  exact hk _ _ _ _ _ _ _ _ _ _ _ _ ⟨v, by rw [fr.row 6 (fun i => by unfold PIm; omega), fr 0 7 (by unfold PIm; omega)]; exact iE, by rw [fr 0 1 (by unfold PIm; omega)]; exact iS, by rw [fr.row 3 (fun i => by unfold PIm; omega), fr.row 4 (fun i => by unfold PIm; omega), fr.row 5 (fun i => by unfold PIm; omega)]; exact iR, by rw [fr.row 12 (fun i => by unfold PIm; omega), fr 0 12 (by unfold PIm; omega), fr 0 13 (by unfold PIm; omega)]; exact iT, by rw [fr.row 9 (fun i => by unfold PIm; omega), fr.row 10 (fun i => by unfold PIm; omega), fr 0 10 (by unfold PIm; omega)]; exact iD, by rw [fr.row 36 (fun i => by unfold PIm; omega), fr 0 36 (by unfold PIm; omega)]; exact iTr, by exact r1, by exact r3, by exact iP⟩
theorem law_24 (ha : a + 6 ≤ L) (hL : L ≤ 3072) (hI : Inv m0 m1 m3 m4 m5 m6 m8 m9 m10 m11) (hk : HK k) : ∃ r, f_law_24 L sx m0 m1 m2 m3 m4 m5 m6 m7 m8 m9 m10 m11 (n32 a) k = some r := by
  obtain ⟨v, hV⟩ := hI
  have hU := inv_up hV
  have hU' := hU
  obtain ⟨iE, iS, iR, iT, iD, iTr, iI, iIt, iP⟩ := hU'
  have g1 : ∀ x : Option M12, gd (inb (n32 a + 1) L) x = x := fun x => law_gd (c := 1) (by omega) hL x
  have t1 : (n32 a + 1).toNatClampNeg = a + 1 := law_nt (c := 1) (L := L) (by omega) hL
  unfold f_law_24
  obtain ⟨x, m1', m3', m6', w', v', e1, e2, fr, rE, rD, rp⟩ := s_restore (m3 := m3) iE iD iI iIt (sx (a + 1))
  simp only [g1, t1, e1, e2, bsE, ↓reduceIte]
  have rP : RPl v' m3' := by
    rcases rp with ⟨rfl, rfl⟩ | rp
    · exact iP
    · exact fgt_pl iP rp rE.2.1
  exact hk _ _ _ _ _ _ _ _ _ _ _ _ ⟨v', by exact rE, by rw [fr 0 1 (by unfold PRes; omega)]; exact iS, by rw [fr.row 3 (fun i => by unfold PRes; omega), fr.row 4 (fun i => by unfold PRes; omega), fr.row 5 (fun i => by unfold PRes; omega)]; exact iR, by rw [fr.row 12 (fun i => by unfold PRes; omega), fr 0 12 (by unfold PRes; omega), fr 0 13 (by unfold PRes; omega)]; exact iT, by exact rD, by rw [fr.row 36 (fun i => by unfold PRes; omega), fr 0 36 (by unfold PRes; omega)]; exact iTr, by rw [fr.row 34 (fun i => by unfold PRes; omega), fr.row 35 (fun i => by unfold PRes; omega)]; exact iI, by intro k hk; rw [fr.row 34 (fun i => by unfold PRes; omega), fr 0 7 (by unfold PRes; omega)]; exact iIt k hk, by exact rP⟩
theorem law_25 (ha : a + 6 ≤ L) (hL : L ≤ 3072) (hI : Inv m0 m1 m3 m4 m5 m6 m8 m9 m10 m11) (hk : HK k) : ∃ r, f_law_25 L sx m0 m1 m2 m3 m4 m5 m6 m7 m8 m9 m10 m11 (n32 a) k = some r := by
  obtain ⟨v, hV⟩ := hI
  have hU := inv_up hV
  have hU' := hU
  obtain ⟨iE, iS, iR, iT, iD, iTr, iI, iIt, iP⟩ := hU'
  have g1 : ∀ x : Option M12, gd (inb (n32 a + 1) L) x = x := fun x => law_gd (c := 1) (by omega) hL x
  have t1 : (n32 a + 1).toNatClampNeg = a + 1 := law_nt (c := 1) (L := L) (by omega) hL
  unfold f_law_25
  obtain ⟨x, e1, e2⟩ := s_kind iE (sx (a + 1))
  simp only [g1, t1, e1, e2, bsE, ↓reduceIte]
  exact hk _ _ _ _ _ _ _ _ _ _ _ _ ⟨v, hU⟩
theorem law_26 (ha : a + 6 ≤ L) (hL : L ≤ 3072) (hI : Inv m0 m1 m3 m4 m5 m6 m8 m9 m10 m11) (hk : HK k) : ∃ r, f_law_26 L sx m0 m1 m2 m3 m4 m5 m6 m7 m8 m9 m10 m11 (n32 a) k = some r := by
  obtain ⟨v, hV⟩ := hI
  have hU := inv_up hV
  have hU' := hU
  obtain ⟨iE, iS, iR, iT, iD, iTr, iI, iIt, iP⟩ := hU'
  have g1 : ∀ x : Option M12, gd (inb (n32 a + 1) L) x = x := fun x => law_gd (c := 1) (by omega) hL x
  have t1 : (n32 a + 1).toNatClampNeg = a + 1 := law_nt (c := 1) (L := L) (by omega) hL
  have g2 : ∀ x : Option M12, gd (inb (n32 a + 2) L) x = x := fun x => law_gd (c := 2) (by omega) hL x
  have t2 : (n32 a + 2).toNatClampNeg = a + 2 := law_nt (c := 2) (L := L) (by omega) hL
  unfold f_law_26
  obtain ⟨x, m11', w', e1, e2, fr, r1⟩ := s_as iE iS (sx (a + 1)) (sx (a + 2))
  simp only [g1, t1, g2, t2, e1, e2, bsE, ↓reduceIte]
  exact hk _ _ _ _ _ _ _ _ _ _ _ _ ⟨v, by rw [fr.row 6 (fun i => by unfold PSt; omega), fr 0 7 (by unfold PSt; omega)]; exact iE, by exact r1, by rw [fr.row 3 (fun i => by unfold PSt; omega), fr.row 4 (fun i => by unfold PSt; omega), fr.row 5 (fun i => by unfold PSt; omega)]; exact iR, by rw [fr.row 12 (fun i => by unfold PSt; omega), fr 0 12 (by unfold PSt; omega), fr 0 13 (by unfold PSt; omega)]; exact iT, by rw [fr.row 9 (fun i => by unfold PSt; omega), fr.row 10 (fun i => by unfold PSt; omega), fr 0 10 (by unfold PSt; omega)]; exact iD, by rw [fr.row 36 (fun i => by unfold PSt; omega), fr 0 36 (by unfold PSt; omega)]; exact iTr, by rw [fr.row 34 (fun i => by unfold PSt; omega), fr.row 35 (fun i => by unfold PSt; omega)]; exact iI, by intro k hk; rw [fr.row 34 (fun i => by unfold PSt; omega), fr 0 7 (by unfold PSt; omega)]; exact iIt k hk, by exact iP⟩
theorem law_27 (ha : a + 6 ≤ L) (hL : L ≤ 3072) (hI : Inv m0 m1 m3 m4 m5 m6 m8 m9 m10 m11) (hk : HK k) : ∃ r, f_law_27 L sx m0 m1 m2 m3 m4 m5 m6 m7 m8 m9 m10 m11 (n32 a) k = some r := by
  obtain ⟨v, hV⟩ := hI
  have hU := inv_up hV
  have hU' := hU
  obtain ⟨iE, iS, iR, iT, iD, iTr, iI, iIt, iP⟩ := hU'
  have g1 : ∀ x : Option M12, gd (inb (n32 a + 1) L) x = x := fun x => law_gd (c := 1) (by omega) hL x
  have t1 : (n32 a + 1).toNatClampNeg = a + 1 := law_nt (c := 1) (L := L) (by omega) hL
  have g2 : ∀ x : Option M12, gd (inb (n32 a + 2) L) x = x := fun x => law_gd (c := 2) (by omega) hL x
  have t2 : (n32 a + 2).toNatClampNeg = a + 2 := law_nt (c := 2) (L := L) (by omega) hL
  unfold f_law_27
  obtain ⟨x, m8', w', e1, e2, fr, r1⟩ := s_ask iE iTr (sx (a + 1)) (sx (a + 2))
  simp only [g1, t1, g2, t2, e1, e2, bsE, ↓reduceIte]
  exact hk _ _ _ _ _ _ _ _ _ _ _ _ ⟨v, by rw [fr.row 6 (fun i => by unfold PTr; omega), fr 0 7 (by unfold PTr; omega)]; exact iE, by rw [fr 0 1 (by unfold PTr; omega)]; exact iS, by rw [fr.row 3 (fun i => by unfold PTr; omega), fr.row 4 (fun i => by unfold PTr; omega), fr.row 5 (fun i => by unfold PTr; omega)]; exact iR, by rw [fr.row 12 (fun i => by unfold PTr; omega), fr 0 12 (by unfold PTr; omega), fr 0 13 (by unfold PTr; omega)]; exact iT, by rw [fr.row 9 (fun i => by unfold PTr; omega), fr.row 10 (fun i => by unfold PTr; omega), fr 0 10 (by unfold PTr; omega)]; exact iD, by exact r1, by rw [fr.row 34 (fun i => by unfold PTr; omega), fr.row 35 (fun i => by unfold PTr; omega)]; exact iI, by intro k hk; rw [fr.row 34 (fun i => by unfold PTr; omega), fr 0 7 (by unfold PTr; omega)]; exact iIt k hk, by exact iP⟩
theorem law_28 (ha : a + 6 ≤ L) (hL : L ≤ 3072) (hI : Inv m0 m1 m3 m4 m5 m6 m8 m9 m10 m11) (hk : HK k) : ∃ r, f_law_28 L sx m0 m1 m2 m3 m4 m5 m6 m7 m8 m9 m10 m11 (n32 a) k = some r := by
  obtain ⟨v, hV⟩ := hI
  have hU := inv_up hV
  have hU' := hU
  obtain ⟨iE, iS, iR, iT, iD, iTr, iI, iIt, iP⟩ := hU'
  have g1 : ∀ x : Option M12, gd (inb (n32 a + 1) L) x = x := fun x => law_gd (c := 1) (by omega) hL x
  have t1 : (n32 a + 1).toNatClampNeg = a + 1 := law_nt (c := 1) (L := L) (by omega) hL
  unfold f_law_28
  obtain ⟨x, e1, e2⟩ := s_trace iTr (sx (a + 1))
  simp only [g1, t1, e1, e2, bsE, ↓reduceIte]
  exact hk _ _ _ _ _ _ _ _ _ _ _ _ ⟨v, hU⟩
theorem law_29 (ha : a + 6 ≤ L) (hL : L ≤ 3072) (hI : Inv m0 m1 m3 m4 m5 m6 m8 m9 m10 m11) (hk : HK k) : ∃ r, f_law_29 L sx m0 m1 m2 m3 m4 m5 m6 m7 m8 m9 m10 m11 (n32 a) k = some r := by
  obtain ⟨v, hV⟩ := hI
  have hU := inv_up hV
  have hU' := hU
  obtain ⟨iE, iS, iR, iT, iD, iTr, iI, iIt, iP⟩ := hU'
  have g1 : ∀ x : Option M12, gd (inb (n32 a + 1) L) x = x := fun x => law_gd (c := 1) (by omega) hL x
  have t1 : (n32 a + 1).toNatClampNeg = a + 1 := law_nt (c := 1) (L := L) (by omega) hL
  unfold f_law_29
  have kp : m6 0 2 = (up m0 0 0 0) 0 10 := by obtain ⟨q, _, _, _, h1, h2, _⟩ := iD; rw [h1, h2]
  have lp : m4 0 1 = (up m0 0 0 0) 0 12 := by obtain ⟨_, q, _, h1, h2, _⟩ := iT; rw [h1, h2]
  obtain ⟨x, e1, e2⟩ := s_count iE iR kp lp (sx (a + 1))
  simp only [g1, t1, e1, e2, bsE, ↓reduceIte]
  exact hk _ _ _ _ _ _ _ _ _ _ _ _ ⟨v, hU⟩
theorem law_30 (ha : a + 6 ≤ L) (hL : L ≤ 3072) (hI : Inv m0 m1 m3 m4 m5 m6 m8 m9 m10 m11) (hk : HK k) : ∃ r, f_law_30 L sx m0 m1 m2 m3 m4 m5 m6 m7 m8 m9 m10 m11 (n32 a) k = some r := by
  obtain ⟨v, hV⟩ := hI
  have hU := inv_up hV
  have hU' := hU
  obtain ⟨iE, iS, iR, iT, iD, iTr, iI, iIt, iP⟩ := hU'
  unfold f_law_30
  obtain ⟨x, e1, e2⟩ := s_status (m11 := m11) iS.1
  simp only [e1, e2, bsE, ↓reduceIte]
  exact hk _ _ _ _ _ _ _ _ _ _ _ _ ⟨v, hU⟩
theorem pure_law (hL : L ≤ 3072) : ∀ (t a : Nat) (m0 m1 m2 m3 m4 m5 m6 m7 m8 m9 m10 m11 : Mem), L - a < t → a ≤ L + 6 → Inv m0 m1 m3 m4 m5 m6 m8 m9 m10 m11 → ∃ r, f_law L sx t m0 m1 m2 m3 m4 m5 m6 m7 m8 m9 m10 m11 (n32 a) = some r := by
  intro t
  induction t with
  | zero => intro a m0 m1 m2 m3 m4 m5 m6 m7 m8 m9 m10 m11 ht; omega
  | succ t ih =>
    intro a m0 m1 m2 m3 m4 m5 m6 m7 m8 m9 m10 m11 ht ha hI
    rw [f_law]
    have c : (Int32.ofNat L - 6 < n32 a) = ¬ (a + 6 ≤ L) := by
      show (n32 L - n32 6 < n32 a) = _
      by_cases q : 6 ≤ L
      · rw [n32_sub q, n32_lt (by omega) (by omega)]; exact propext (by omega)
      · have := n32_subneg (a := L) (b := 6) (by omega) (by omega)
        rw [neg_lt this (by omega)]; exact (eq_true (by omega)).symm
    by_cases q : a + 6 ≤ L
    · rw [if_neg (by rw [c]; exact fun z => z q)]
      have gu : ∀ x : Option M12, gd (inb (n32 a) L) x = x := fun x => by rw [n32_inb (by omega), gd_dec (by omega)]
      rw [gu, nmE]
      have hk : HK (fun m0 m1 m2 m3 m4 m5 m6 m7 m8 m9 m10 m11 => f_law L sx t m0 m1 m2 m3 m4 m5 m6 m7 m8 m9 m10 m11 (n32 a + 6)) := by
        intro m0 m1 m2 m3 m4 m5 m6 m7 m8 m9 m10 m11 hI'
        have e : n32 a + 6 = n32 (a + 6) := n32_add a 6
        rw [e]
        exact ih (a + 6) m0 m1 m2 m3 m4 m5 m6 m7 m8 m9 m10 m11 (by omega) (by omega) hI'
      by_cases q0 : sx (n32 a).toNatClampNeg &&& 31 = 0
      · rw [if_pos q0]; exact law_0 q hL hI hk
      rw [if_neg q0]
      by_cases q1 : sx (n32 a).toNatClampNeg &&& 31 = 1
      · rw [if_pos q1]; exact law_1 q hL hI hk
      rw [if_neg q1]
      by_cases q2 : sx (n32 a).toNatClampNeg &&& 31 = 2
      · rw [if_pos q2]; exact law_2 q hL hI hk
      rw [if_neg q2]
      by_cases q3 : sx (n32 a).toNatClampNeg &&& 31 = 3
      · rw [if_pos q3]; exact law_3 q hL hI hk
      rw [if_neg q3]
      by_cases q4 : sx (n32 a).toNatClampNeg &&& 31 = 4
      · rw [if_pos q4]; exact law_4 q hL hI hk
      rw [if_neg q4]
      by_cases q5 : sx (n32 a).toNatClampNeg &&& 31 = 5
      · rw [if_pos q5]; exact law_5 q hL hI hk
      rw [if_neg q5]
      by_cases q6 : sx (n32 a).toNatClampNeg &&& 31 = 6
      · rw [if_pos q6]; exact law_6 q hL hI hk
      rw [if_neg q6]
      by_cases q7 : sx (n32 a).toNatClampNeg &&& 31 = 7
      · rw [if_pos q7]; exact law_7 q hL hI hk
      rw [if_neg q7]
      by_cases q8 : sx (n32 a).toNatClampNeg &&& 31 = 8
      · rw [if_pos q8]; exact law_8 q hL hI hk
      rw [if_neg q8]
      by_cases q9 : sx (n32 a).toNatClampNeg &&& 31 = 9
      · rw [if_pos q9]; exact law_9 q hL hI hk
      rw [if_neg q9]
      by_cases q10 : sx (n32 a).toNatClampNeg &&& 31 = 10
      · rw [if_pos q10]; exact law_10 q hL hI hk
      rw [if_neg q10]
      by_cases q11 : sx (n32 a).toNatClampNeg &&& 31 = 11
      · rw [if_pos q11]; exact law_11 q hL hI hk
      rw [if_neg q11]
      by_cases q12 : sx (n32 a).toNatClampNeg &&& 31 = 12
      · rw [if_pos q12]; exact law_12 q hL hI hk
      rw [if_neg q12]
      by_cases q13 : sx (n32 a).toNatClampNeg &&& 31 = 13
      · rw [if_pos q13]; exact law_13 q hL hI hk
      rw [if_neg q13]
      by_cases q14 : sx (n32 a).toNatClampNeg &&& 31 = 14
      · rw [if_pos q14]; exact law_14 q hL hI hk
      rw [if_neg q14]
      by_cases q15 : sx (n32 a).toNatClampNeg &&& 31 = 15
      · rw [if_pos q15]; exact law_15 q hL hI hk
      rw [if_neg q15]
      by_cases q16 : sx (n32 a).toNatClampNeg &&& 31 = 16
      · rw [if_pos q16]; exact law_16 q hL hI hk
      rw [if_neg q16]
      by_cases q17 : sx (n32 a).toNatClampNeg &&& 31 = 17
      · rw [if_pos q17]; exact law_17 q hL hI hk
      rw [if_neg q17]
      by_cases q18 : sx (n32 a).toNatClampNeg &&& 31 = 18
      · rw [if_pos q18]; exact law_18 q hL hI hk
      rw [if_neg q18]
      by_cases q19 : sx (n32 a).toNatClampNeg &&& 31 = 19
      · rw [if_pos q19]; exact law_19 q hL hI hk
      rw [if_neg q19]
      by_cases q20 : sx (n32 a).toNatClampNeg &&& 31 = 20
      · rw [if_pos q20]; exact law_20 q hL hI hk
      rw [if_neg q20]
      by_cases q21 : sx (n32 a).toNatClampNeg &&& 31 = 21
      · rw [if_pos q21]; exact law_21 q hL hI hk
      rw [if_neg q21]
      by_cases q22 : sx (n32 a).toNatClampNeg &&& 31 = 22
      · rw [if_pos q22]; exact law_22 q hL hI hk
      rw [if_neg q22]
      by_cases q23 : sx (n32 a).toNatClampNeg &&& 31 = 23
      · rw [if_pos q23]; exact law_23 q hL hI hk
      rw [if_neg q23]
      by_cases q24 : sx (n32 a).toNatClampNeg &&& 31 = 24
      · rw [if_pos q24]; exact law_24 q hL hI hk
      rw [if_neg q24]
      by_cases q25 : sx (n32 a).toNatClampNeg &&& 31 = 25
      · rw [if_pos q25]; exact law_25 q hL hI hk
      rw [if_neg q25]
      by_cases q26 : sx (n32 a).toNatClampNeg &&& 31 = 26
      · rw [if_pos q26]; exact law_26 q hL hI hk
      rw [if_neg q26]
      by_cases q27 : sx (n32 a).toNatClampNeg &&& 31 = 27
      · rw [if_pos q27]; exact law_27 q hL hI hk
      rw [if_neg q27]
      by_cases q28 : sx (n32 a).toNatClampNeg &&& 31 = 28
      · rw [if_pos q28]; exact law_28 q hL hI hk
      rw [if_neg q28]
      by_cases q29 : sx (n32 a).toNatClampNeg &&& 31 = 29
      · rw [if_pos q29]; exact law_29 q hL hI hk
      rw [if_neg q29]
      by_cases q30 : sx (n32 a).toNatClampNeg &&& 31 = 30
      · rw [if_pos q30]; exact law_30 q hL hI hk
      rw [if_neg q30]
      exact hk m0 m1 m2 m3 m4 m5 m6 m7 m8 m9 m10 m11 hI
    · rw [if_pos (by rw [c]; exact q)]
      exact ⟨_, rfl⟩
end LAW
