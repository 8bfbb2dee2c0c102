/-! the two evenings of a HomeDrives change places: addresses and memories with them -/
abbrev M12 : Type := Mem × Mem × Mem × Mem × Mem × Mem × Mem × Mem × Mem × Mem × Mem × Mem
abbrev e_law : M12 → Option Value × List Mem := fun r => (some (.int 1), [r.1, r.2.1, r.2.2.1, r.2.2.2.1, r.2.2.2.2.1, r.2.2.2.2.2.1, r.2.2.2.2.2.2.1, r.2.2.2.2.2.2.2.1, r.2.2.2.2.2.2.2.2.1, r.2.2.2.2.2.2.2.2.2.1, r.2.2.2.2.2.2.2.2.2.2.1, r.2.2.2.2.2.2.2.2.2.2.2])
abbrev mi_law : MI := (RL, cL_law, 4, some .boolean, 100)
def swc (c : Nat) : Nat := if c / 1000 = 1 then c + 1000 else if c / 1000 = 2 then c - 1000 else c
def swv (v : Int32) : Int32 := if v = 1 then 2 else if v = 2 then 1 else v
def sw11 (m : Mem) : Mem := up (up m 0 7 (swv (m 0 7))) 0 8 (swv (m 0 8))
def swapG (G : GE) : GE := (G.1, G.2.1, fun c => G.2.2.1 (swc c), G.2.2.2)
def swap12 (r : M12) : M12 := (r.1, r.2.2.1, r.2.1, r.2.2.2.1, r.2.2.2.2.1, r.2.2.2.2.2.1, r.2.2.2.2.2.2.1, r.2.2.2.2.2.2.2.1, r.2.2.2.2.2.2.2.2.1, r.2.2.2.2.2.2.2.2.2.1, r.2.2.2.2.2.2.2.2.2.2.1, sw11 r.2.2.2.2.2.2.2.2.2.2.2)
theorem swc_big {c : Nat} (h : 3000 ≤ c) : swc c = c := sorry
theorem swc_swc (c : Nat) : swc (swc c) = c := sorry
theorem swv_ref (v : Int32) : swc (1000 * (swv v).toNatClampNeg) = 1000 * v.toNatClampNeg := sorry
def clist : List Nat := [0, 3, 4, 5, 6, 7, 9, 10, 12, 22, 23, 24, 25, 26, 30, 32, 33, 34, 35, 36, 1000, 1011, 1012, 1013, 1014, 1015, 1016, 1017, 1018, 2000, 2011, 2012, 2013, 2014, 2015, 2016, 2017, 2018, 3000, 3001, 3002, 3007, 3010, 3011, 4000, 4001, 5000, 5001, 5002, 5003, 5010, 5011, 5012, 5013, 5014, 5015, 5016, 5017, 6000, 6001, 6002, 7000, 7001, 8000, 8001, 9000, 9011, 9012, 9013, 9014, 9015, 9016, 9017, 9018, 10000, 10011, 10012, 10013, 10014, 10015, 10016, 10017, 10018, 11000, 11003]
theorem kd_mem {c : Nat} {k : KD} (h : kd c = some k) : c ∈ clist := sorry
theorem el_main (ad : Nat → Nat) (cy : Nat → ClassId) (m : Mem) : el (fun c => ad (swc c)) cy 11000 (sw11 m 0) (.inl (7, [8, 7, 1, 9, 6, 10, 11, 2, 2, 0])) = el ad cy 11000 (m 0) (.inl (7, [8, 7, 1, 9, 6, 10, 11, 2, 2, 0])) := sorry
theorem el_refs (ad : Nat → Nat) (cy : Nat → ClassId) {c c' t n b st : Nat} (hb : 3000 ≤ b) (f g : Nat → Int32) : el (fun c => ad (swc c)) cy c f (.inr (.inr (t, n, b, st))) = el ad cy c' g (.inr (.inr (t, n, b, st))) := sorry
theorem el_obj (ad : Nat → Nat) (cy : Nat → ClassId) {c ci : Nat} {fcs : List Nat} (f : Nat → Int32) (hc : c % 1000 = 0) (hl : fcs.length ≤ 40) (hf : ∀ fc ∈ fcs, fc ≠ 2 ∧ fc ≠ 4 ∧ fc ≠ 5) : el (fun c => ad (swc c)) cy c f (.inl (ci, fcs)) = el ad cy (swc c) f (.inl (ci, fcs)) := sorry
theorem el_sw (ad : Nat → Nat) (cy : Nat → ClassId) (m0 m1 m2 m3 m4 m5 m6 m7 m8 m9 m10 m11 : Mem) : ∀ c ∈ clist, ∀ k : KD, kd c = some k → kd (swc c) = some k ∧ el (fun c => ad (swc c)) cy c (xs [m0, m2, m1, m3, m4, m5, m6, m7, m8, m9, m10, sw11 m11] c) k = el ad cy (swc c) (xs [m0, m1, m2, m3, m4, m5, m6, m7, m8, m9, m10, m11] (swc c)) k := sorry
theorem wd_swap {G : GE} {m0 m1 m2 m3 m4 m5 m6 m7 m8 m9 m10 m11 : Mem} {H : Heap} (h : wd G [m0, m1, m2, m3, m4, m5, m6, m7, m8, m9, m10, m11] H) : wd (swapG G) [m0, m2, m1, m3, m4, m5, m6, m7, m8, m9, m10, sw11 m11] H := sorry
theorem swapG_swapG (G : GE) : swapG (swapG G) = G := sorry
theorem dj_swap {G : GE} (h : dj G) : dj (swapG G) := sorry
theorem FX_swap {G : GE} {U : State} {H : Heap} (h : FX G U H) : FX (swapG G) U H := sorry
theorem CX_swap {G : GE} {M : MI} {p : Program} {s : State} {m : MethodId} {meth : Method} {c : Code} {R : Room} {cells slots : Nat} (h : CX G M p s m meth c R cells slots) : CX (swapG G) M p s m meth c R cells slots := sorry
theorem K_swap {G : GE} {M : MI} {pc : Nat} {lv : List (Nat × Value)} {st : List Value} {m0 m1 m2 m3 m4 m5 m6 m7 m8 m9 m10 m11 : Mem} {x : Option M12} (hlv : lv.map (tvp (gA (swapG G))) = lv.map (tvp (gA G))) (hst : st.map (tv (gA (swapG G))) = st.map (tv (gA G))) (k : K (swapG G) M e_law pc lv st [m0, m2, m1, m3, m4, m5, m6, m7, m8, m9, m10, sw11 m11] x) : K G M e_law pc lv st [m0, m1, m2, m3, m4, m5, m6, m7, m8, m9, m10, m11] (x.map swap12) := sorry
section CVH
variable {G : GE} {M : MI} {R : Type} {E : R → Option Value × List Mem} {pc : Nat} {lv : List (Nat × Value)} {Ms : List Mem}
theorem K_callVh {R' : Type} {E' : R' → Option Value × List Mem} {f : Option R'} {k : R' → Option R} {idx n b : Nat} {y : MethodName} {M' : MI} {As rest st : List Value}
    (hd : decode M.2.1 pc = .ok (.invokevirtual idx, 3)) (hM : ML M.1 idx y) (hF : MF y M' n) (hV : MV y) (hC : dj G → ∀ r', f = some r' → Ctr G y M' (.ref b :: As) Ms (E' r').1 (E' r').2)
    (hrc : RCV G Ms b y.cls) (hn : As.length = n) (hst : st = As.reverse ++ .ref b :: rest) (hcat : (rest.map fun v => v.category).sum ≤ 8) (hlev : M'.2.2.2.2 < M.2.2.2.2)
    (kk : ∀ r', f = some r' → K G M E (pc + 3) lv ((E' r').1.toList ++ rest) (E' r').2 (k r')) : K G M E pc lv st Ms (f.bind k) := sorry
end CVH
