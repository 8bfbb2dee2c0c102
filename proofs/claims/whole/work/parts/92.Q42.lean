/-! the memories of the start -/
def lane8 : Nat → Int32 := upd (upd (upd (upd (upd (upd (upd (upd (fun _ => 0) 0 (-1)) 1 (-1)) 2 (-1)) 3 (-1)) 4 (-1)) 5 (-1)) 6 (-1)) 7 (-1)
def I0 : Mem := upA z0 3 lane8
def I3 : Mem := up z0 0 2 (-1)
def I5 : Mem := upA z0 1 lane8
def I11 : Mem := up (up z0 0 7 1) 0 8 2
theorem lane8_at {r : Nat} (h : r < 8) : lane8 r = -1 := by
  rcases (show r = 0 ∨ r = 1 ∨ r = 2 ∨ r = 3 ∨ r = 4 ∨ r = 5 ∨ r = 6 ∨ r = 7 by omega) with rfl | rfl | rfl | rfl | rfl | rfl | rfl | rfl <;> decide
theorem I0_ne {s : Nat} (h : s ≠ 3) : I0 s = fun _ => 0 := by
  unfold I0 upA z0
  rw [if_neg h]
theorem I5_ne {s : Nat} (h : s ≠ 1) : I5 s = fun _ => 0 := by
  unfold I5 upA z0
  rw [if_neg h]
theorem vd_0 : Vd (fun _ => 0) := by
  refine ⟨⟨Nat.zero_le _, Nat.zero_le _, Nat.zero_le _, Nat.zero_le _, Nat.zero_le _, by decide, fun p hp => absurd hp (Nat.not_lt_zero _), fun p hp => absurd hp (Nat.not_lt_zero _)⟩, ⟨fun a b _ _ => Or.inl (Nat.zero_le _), fun a b _ _ _ _ => show (0 : Nat) < 10000 by decide⟩⟩
theorem cl_0 : Cl z0 (fun _ => 0) := by
  refine ⟨⟨rfl, rfl, rfl, rfl, rfl, rfl, ⟨0, by decide, rfl, fun p _ => ?_⟩, fun p hp => absurd hp (Nat.not_lt_zero _), fun p hp => absurd hp (Nat.not_lt_zero _)⟩, fun i _ => rfl⟩
  rw [Nat.zero_testBit]
  exact (decide_eq_false (fun q => absurd q.1 (Nat.not_lt_zero _))).symm
theorem init_inv : Inv I0 z0 I3 z0 I5 z0 z0 z0 z0 I11 := by
  refine ⟨fun _ => 0, ⟨?_, vd_0, cl_0, ?_, Or.inl ?_⟩, ⟨?_, by decide, by decide⟩, ?_, ?_, ?_, ?_, ?_, ?_, ?_⟩
  · intro i _
    rw [I0_ne (by decide)]; rfl
  · rw [I0_ne (by decide)]; rfl
  · rw [I0_ne (by decide)]; rfl
  · rw [I0_ne (by decide)]; decide
  · intro r hr
    have e1 : I0 3 r = -1 := lane8_at hr
    have e2 : I5 1 r = -1 := lane8_at hr
    refine ⟨Or.inl e1, by rw [e1, e2], ⟨0, by decide, by rw [I0_ne (by decide)]; rfl, by rw [I5_ne (by decide)]; rfl⟩, fun i _ => ?_⟩
    rw [I0_ne (by decide), I5_ne (by omega)]
  · refine ⟨by rw [I0_ne (by decide)]; rfl, 0, by decide, by rw [I0_ne (by decide)]; rfl, rfl, fun i hi => absurd hi (Nat.not_lt_zero _)⟩
  · refine ⟨0, fun _ => 0, fun _ => 0, by decide, by rw [I0_ne (by decide)]; rfl, rfl, fun i hi => absurd hi (Nat.not_lt_zero _), fun i hi => absurd hi (Nat.not_lt_zero _)⟩
  · refine ⟨0, by decide, by rw [I0_ne (by decide)]; rfl, rfl, fun i hi => absurd hi (Nat.not_lt_zero _)⟩
  · refine ⟨⟨by rw [I0_ne (by decide)]; rfl, Or.inl (by rw [I0_ne (by decide)]; rfl)⟩, ⟨by rw [I0_ne (by decide)]; rfl, Or.inl (by rw [I0_ne (by decide)]; rfl)⟩⟩
  · intro k _ h
    rw [I0_ne (by decide)] at h
    exact absurd h (show ¬ (0 : Int32) = n32 1 by decide)
  · refine ⟨fun c X hc _ => absurd hc (Nat.not_lt_zero _), fun c _ => ?_, Or.inl (by decide)⟩
    show I3 7 c = n32 0
    rfl
/-- the law of the whole: whatever the script, from the start -/
theorem pure_start {L : Nat} (hL : L ≤ 3072) (sx : Nat → Int32) : ∃ r, f_law L sx (L + 1) I0 z0 z0 I3 z0 I5 z0 z0 z0 z0 z0 I11 0 = some r := by
  exact pure_law hL (L + 1) 0 I0 z0 z0 I3 z0 I5 z0 z0 z0 z0 z0 I11 (by omega) (by omega) init_inv
