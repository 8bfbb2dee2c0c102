theorem FX_moved {G : GE} {s U : State} {H : Heap} {locs : List Loc} (h : FX G s s.heap) (hW : s.WarmedH U.vm) (hS : va_S (gZ G) s.heap H locs) (hU : U.heap = H) : FX G U U.heap := sorry
theorem FX_call {G : GE} {U : State} {g : JFrame} {mk : MethodId} {a : Array Value} (h : FX G U U.heap) : FX G (U.calling g mk a) (U.calling g mk a).heap := sorry
/-- THE CONTRACT of a method, one run: with these abstract arguments, over these memories, it answers rv and leaves those -/
def Pre (G : GE) (Ms : List Mem) (U : State) : Prop := FX G U U.heap ∧ gZ G U.heap.size ∧ wd G Ms U.heap
def Post (G : GE) (rv : Option Value) (Ms' : List Mem) : State → Outcome → State → Prop := fun st oc t => oc = .returned (rv.map (tv (gA G))) ∧ wd G Ms' t.heap ∧ va_F (gZ G) st t
def rmL (d : Nat) : Room := { frames := d, cells := 0, slots := 0, locals := 60 * d }
def Ctr (G : GE) (y : MethodName) (M : MI) (av : List Value) (Ms : List Mem) (rv : Option Value) (Ms' : List Mem) : Prop :=
  Met G.1 y [.code y M.2.1 M.2.2.1 M.2.2.2.1] (rmL M.2.2.2.2) (va_Pc (av.map (tv (gA G))) (Pre G Ms)) (fun _ => Post G rv Ms') 0 0 (gZ G)
theorem lv_args_tv (ad : Nat → Nat) : ∀ (av : List Value) (i : Nat), lv_args i (av.map (tv ad)) = (lv_args i av).map (tvp ad)
  | [], _ => rfl
  | v :: vs, i => by
    show (i, tv ad v) :: lv_args (if (tv ad v).category = 2 then i + 2 else i + 1) (vs.map (tv ad)) = (i, tv ad v) :: (lv_args (if v.category = 2 then i + 2 else i + 1) vs).map (tvp ad)
    rw [tv_cat, lv_args_tv ad vs]
theorem lg_sl_tv (ad : Nat → Nat) : ∀ (av : List Value), (lg_sl (av.map (tv ad))).length = (lg_sl av).length
  | [] => rfl
  | v :: vs => by
    have ih := lg_sl_tv ad vs
    unfold lg_sl at ih ⊢
    rw [List.map_cons, List.flatMap_cons, List.flatMap_cons, List.length_append, List.length_append, ih, tv_cat]
    by_cases h : v.category = 2 <;> simp [h]
theorem Ctr_of {G : GE} {y : MethodName} {M : MI} {R : Type} {E : R → Option Value × List Mem} {av : List Value} {lv : List (Nat × Value)} {Ms : List Mem} {f : Option R} {r : R} (hj : dj G) (hy : plainName y.cls = true) (hown : y.cls = M.1) (hf : f = some r) (hlv : lv_args 0 av = lv) (hsl : (lg_sl av).length ≤ M.2.2.1) (k : K G M E 0 lv [] Ms f) : Ctr G y M av Ms (E r).1 (E r).2 := sorry
/-- what the tables say of a method: its code is known, its class ready, so many arguments -/
def MF (y : MethodName) (M : MI) (n : Nat) : Prop := Cond.code y M.2.1 M.2.2.1 M.2.2.2.1 ∈ okl ∧ Cond.initialized y.cls ∈ okl ∧ (y.cls ≠ "java/lang/invoke/MethodHandle" ∧ y.cls ≠ "java/lang/invoke/VarHandle" ∧ (parseMethodDescriptor y.desc).map (fun d => d.parameters.length) = some n) ∧ M.2.2.1 ≤ 41
/-- entry idx of own names method y -/
def ML (own : String) (idx : Nat) (y : MethodName) : Prop := Cond.methodLink own idx y ∈ okl ∨ ∃ host, Cond.methodLinkNest own idx y host ∈ okl
def MV (y : MethodName) : Prop := Cond.instanceMethod y ∈ okl ∧ Cond.selects y.cls y y ∈ okl
def MS (y : MethodName) : Prop := Cond.static y ∈ okl
theorem code_good {y : MethodName} {b : ByteArray} {n : Nat} {r : Option FieldType} {args : Array Value} {s : State} (h : (Cond.code y b n r).before args s = true) : ∀ w ∈ [Cond.code y b n r], ∀ (a' : Array Value) (U : State), s.WarmedH U.vm → w.before a' U = true := sorry
section CALLS
variable {p : Program} {e : Env} {s : State} {m : MethodId} {args : Array Value} {below : List Frame} {meth : Method} {c : Code} {Rm : Room} {cells slots : Nat} {Q : State → Prop} {H : Heap} {locs : List Loc} {ls : Array Slot} {pc : Nat}
theorem run_go {G : GE} {rv : Option Value} {Ms' : List Mem} {st0 rest : List Value} (run : va_Run p G.1 e Rm s m args below meth c H locs cells slots 0 0 (F0 m pc ls st0) rest (Post G rv Ms') (gZ G)) (hS : va_S (gZ G) s.heap H locs)
    (kk : ∀ (H1 : Heap) (locs1 : List Loc), wd G Ms' H1 → va_S (gZ G) s.heap H1 locs1 → W p G.1 e Rm s m args below meth c H1 locs1 cells slots Q (F0 m (pc + 3) ls ((rv.map (tv (gA G))).toList ++ rest))) : W p G.1 e Rm s m args below meth c H locs cells slots Q (F0 m pc ls st0) := sorry
end CALLS
section CROWS
variable {G : GE} {M : MI} {R : Type} {E : R → Option Value × List Mem} {pc : Nat} {lv : List (Nat × Value)} {Ms : List Mem}
theorem cat_tv (ad : Nat → Nat) : ∀ (l : List Value), ((l.map (tv ad)).map fun v => v.category).sum = (l.map fun v => v.category).sum
  | [] => rfl
  | v :: l => by rw [List.map_cons, List.map_cons, List.sum_cons, cat_tv ad l, tv_cat, List.map_cons, List.sum_cons]
theorem room_ok {M M' : MI} {Rm : Room} (h1 : M.2.2.2.2 ≤ Rm.frames) (h2 : 60 * M.2.2.2.2 ≤ Rm.locals) (hlev : M'.2.2.2.2 < M.2.2.2.2) (hn : M'.2.2.1 ≤ 41) : (rmL M'.2.2.2.2).frames + 1 ≤ Rm.frames ∧ 8 + (M'.2.2.1 + 11) + (rmL M'.2.2.2.2).locals ≤ Rm.locals := sorry
theorem pre_ok {s : State} {H : Heap} {locs : List Loc} {av : List Value} (hF : FX G s s.heap) (hZ : gZ G s.heap.size) (hw : wd G Ms H) (hS : va_S (gZ G) s.heap H locs) : FrameBlind (va_Pc (av.map (tv (gA G))) (Pre G Ms)) ∧ ∀ U : State, U.heap = H → s.WarmedH U.vm → va_Pc (av.map (tv (gA G))) (Pre G Ms) (av.map (tv (gA G))).toArray U := sorry
/-- the cell of code b is an object of class C, for a call of it -/
def RCV (G : GE) (Ms : List Mem) (b : Nat) (C : String) : Prop := ∀ (s : State) (H : Heap) (locs : List Loc), FX G s s.heap → wd G Ms H → va_S (gZ G) s.heap H locs → ∃ cellB : Cell, H[gA G b]? = some cellB ∧ cellB.vm.isStatics = false ∧ s.vm.findClass C = some cellB.cls
theorem rcv_obj {b ci : Nat} {fcs : List Nat} {q : vw_C} (hk : kd b = some (.inl (ci, fcs))) (hci : vwCl[ci]? = some q) : RCV G Ms b q.1 := sorry
theorem rcv_str {i : Nat} (hi : i < 11) : RCV G Ms (20000 + i) RJ0 := sorry
theorem K_callV {R' : Type} {E' : R' → Option Value × List Mem} {f : Option R'} {k : R' → Option R} {idx n b : Nat} {y : MethodName} {M' : MI} {As rest st : List Value}
    (hd : decode M.2.1 pc = .ok (.invokevirtual idx, 3)) (hM : ML M.1 idx y) (hF : MF y M' n) (hV : MV y) (hC : dj G → ∀ r', f = some r' → Ctr G y M' (.ref b :: As) Ms (E' r').1 (E' r').2)
    (hrc : RCV G Ms b y.cls) (hn : As.length = n) (hst : st = As.reverse ++ .ref b :: rest) (hcat : (rest.map fun v => v.category).sum ≤ 8) (hlev : M'.2.2.2.2 < M.2.2.2.2)
    (kk : ∀ r', K G M E (pc + 3) lv ((E' r').1.toList ++ rest) (E' r').2 (k r')) : K G M E pc lv st Ms (f.bind k) := sorry
theorem K_callS {R' : Type} {E' : R' → Option Value × List Mem} {f : Option R'} {k : R' → Option R} {idx n : Nat} {y : MethodName} {M' : MI} {As rest st : List Value}
    (hd : decode M.2.1 pc = .ok (.invokestatic idx, 3)) (hM : ML M.1 idx y) (hF : MF y M' n) (hV : MS y) (hC : dj G → ∀ r', f = some r' → Ctr G y M' As Ms (E' r').1 (E' r').2)
    (hn : As.length = n) (hst : st = As.reverse ++ rest) (hcat : (rest.map fun v => v.category).sum ≤ 8) (hlev : M'.2.2.2.2 < M.2.2.2.2)
    (kk : ∀ r', K G M E (pc + 3) lv ((E' r').1.toList ++ rest) (E' r').2 (k r')) : K G M E pc lv st Ms (f.bind k) := sorry
end CROWS
