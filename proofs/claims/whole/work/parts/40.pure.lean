def lane8 : Nat → Int32 := upd (upd (upd (upd (upd (upd (upd (upd (fun _ => 0) 0 (-1)) 1 (-1)) 2 (-1)) 3 (-1)) 4 (-1)) 5 (-1)) 6 (-1)) 7 (-1)
def I0 : Mem := upA z0 3 lane8
def I3 : Mem := up z0 0 2 (-1)
def I5 : Mem := upA z0 1 lane8
def I11 : Mem := up (up z0 0 7 1) 0 8 2
theorem pure_start {L : Nat} (hL : L ≤ 3072) (sx : Nat → Int32) : ∃ r, f_law L sx (L + 1) I0 z0 z0 I3 z0 I5 z0 z0 z0 z0 z0 I11 0 = some r := sorry
