theorem FX_moved {G : GE} {s U : State} {H : Heap} {locs : List Loc} (h : FX G s s.heap) (hW : s.WarmedH U.vm) (hS : va_S (gZ G) s.heap H locs) (hU : U.heap = H) : FX G U U.heap := by
  obtain ⟨h1, h2, h3, h4, h5, h6, h7, h8, h9, h10⟩ := h
  have hk : ∀ a : Nat, a < s.heap.size → ¬ gZ G a → U.heap[a]? = s.heap[a]? := fun a q1 q2 => by rw [hU]; exact hS.2.1 a q1 q2
  refine ⟨fun w hw => ?_, h2.moved hW.alike, fun i hi => ⟨((h3 i hi).1.moved hW.alike).kept hk, ((h3 i hi).2.moved hW.alike).kept hk⟩, (h4.moved hW.alike).kept hk, fun i hi => (h5 i hi).warm hW, (h6.moved hW.alike).kept hk, h7.imp (fun q => (q.moved hW.alike).kept hk) (fun q => (q.moved hW.alike).kept hk), (h8.moved hW.alike).kept (hk _ h10 h9), h9, by rw [hU]; exact Nat.lt_of_lt_of_le h10 hS.1⟩
  have hg := (List.mem_filter.mp hw).2
  have hb := h1 w hw
  cases w <;> first
    | exact va_Nw.warmF hW hb
    | exact va_Nw.warmM hW hb
    | exact word_at hW (Or.inl hg) hb
theorem FX_call {G : GE} {U : State} {g : JFrame} {mk : MethodId} {a : Array Value} (h : FX G U U.heap) : FX G (U.calling g mk a) (U.calling g mk a).heap :=
  FX_moved (s := U) (U := U.calling g mk a) (H := U.heap) (locs := []) h (State.WarmedH.refl U) va_S.rf rfl
/-- THE CONTRACT of a method, one run: with these abstract arguments, over these memories, it answers rv and leaves those -/
def Pre (G : GE) (Ms : List Mem) (U : State) : Prop := FX G U U.heap ∧ gZ G U.heap.size ∧ wd G Ms U.heap
def Post (G : GE) (rv : Option Value) (Ms' : List Mem) : State → Outcome → State → Prop := fun st oc t => oc = .returned (rv.map (tv (gA G))) ∧ wd G Ms' t.heap ∧ va_F (gZ G) st t
def rmL (d : Nat) : Room := { frames := d, cells := 0, slots := 0, locals := 60 * d }
def Ctr (G : GE) (y : MethodName) (M : MI) (av : List Value) (Ms : List Mem) (rv : Option Value) (Ms' : List Mem) : Prop :=
  Met G.1 y [.code y M.2.1 M.2.2.1 M.2.2.2.1] (rmL M.2.2.2.2) (va_Pc (av.map (tv (gA G))) (Pre G Ms)) (fun _ => Post G rv Ms') 0 0 (gZ G)
theorem lv_args_tv (ad : Nat → Nat) : ∀ (av : List Value) (i : Nat), lv_args i (av.map (tv ad)) = (lv_args i av).map (tvp ad)
  | [], _ => rfl
  | v :: vs, i => by
    show (i, tv ad v) :: lv_args (if (tv ad v).category = 2 then i + 2 else i + 1) (vs.map (tv ad)) = (i, tv ad v) :: (lv_args (if v.category = 2 then i + 2 else i + 1) vs).map (tvp ad)
    rw [tv_cat, lv_args_tv ad vs]
theorem lg_sl_tv (ad : Nat → Nat) : ∀ (av : List Value), (lg_sl (av.map (tv ad))).length = (lg_sl av).length
  | [] => rfl
  | v :: vs => by
    have ih := lg_sl_tv ad vs
    unfold lg_sl at ih ⊢
    rw [List.map_cons, List.flatMap_cons, List.flatMap_cons, List.length_append, List.length_append, ih, tv_cat]
    by_cases h : v.category = 2 <;> simp [h]
theorem Ctr_of {G : GE} {y : MethodName} {M : MI} {R : Type} {E : R → Option Value × List Mem} {av : List Value} {lv : List (Nat × Value)} {Ms : List Mem} {f : Option R} {r : R} (hj : dj G) (hy : plainName y.cls = true) (hown : y.cls = M.1) (hf : f = some r) (hlv : lv_args 0 av = lv) (hsl : (lg_sl av).length ≤ M.2.2.1) (k : K G M E 0 lv [] Ms f) : Ctr G y M av Ms (E r).1 (E r).2 := by
  unfold Ctr
  refine Met.ofW (cc := M.2.1) (maxL := M.2.2.1) (ret := M.2.2.2.1) hy rfl ?_
  intro p e s m args below meth c s₁ B hml hv
  obtain ⟨rfl, hFX, hZ, hwd⟩ := hv
  have hr := B.returns
  have hown' : s.vm.findClass M.1 = some m.cls := by rw [← hown]; exact findClass_of_methodNamed B.named
  have hlocks := B.notSynchronized
  have hl := lv_entry (av.map (tv (gA G))) (n := M.2.2.1) (by rw [lg_sl_tv]; exact hsl)
  rw [lg_entry_eq]
  generalize (lg_sl (av.map (tv (gA G))) ++ List.replicate (M.2.2.1 - (lg_sl (av.map (tv (gA G)))).length) Slot.unset).toArray = ls at hl ⊢
  rw [lv_args_tv, hlv] at hl
  refine k p e s m _ below meth c (rmL M.2.2.2.2) 0 0 _ s.heap [] ls r ⟨B.exec, B.bytes, hml, hr, hlocks, hown', hFX, hZ, hj, Nat.le_refl _, Nat.le_refl _, Nat.le_refl _, Nat.le_refl _⟩ hf ?_ hwd va_S.rf hl
  intro pc' H' locs' ls' hd hR hw hS
  generalize (E r).1 = rv at hd hR ⊢
  generalize (E r).2 = Ms' at hw ⊢
  have fin : ∀ t : State, t.heap = H' → Post G rv Ms' s (.returned (rv.map (tv (gA G)))) t := fun t ht => ⟨rfl, by rw [ht]; exact hw, hS.F ht⟩
  cases rv with
  | none =>
    cases hret : M.2.2.2.1 with
    | none => exact W.vret B.exec B.bytes (hr.trans hret) (fun t ht _ => fin t ht) hS.2.2 hd
    | some ty =>
      rw [hret] at hR
      cases ty <;> exact hR.elim
  | some v =>
    cases hret : M.2.2.2.1 with
    | none => rw [hret] at hR; exact hR.elim
    | some ty =>
      rw [hret] at hR
      cases v with
      | int z =>
        have hn : narrow ty (.int z) = .int z := by cases ty <;> exact hR
        exact W.zret B.exec B.bytes (hr.trans hret) hn (fun t ht _ => fin t ht) hS.2.2 hd
      | long z =>
        have e1 : ty = .long := by
          cases ty <;> first | rfl | exact hR.elim
        subst e1
        exact W.lret B.exec B.bytes (hr.trans hret) (fun t ht _ => fin t ht) hS.2.2 hd
      | _ => cases ty <;> exact hR.elim
/-- what the tables say of a method: its code is known, its class ready, so many arguments -/
def MF (y : MethodName) (M : MI) (n : Nat) : Prop := Cond.code y M.2.1 M.2.2.1 M.2.2.2.1 ∈ okl ∧ Cond.initialized y.cls ∈ okl ∧ (y.cls ≠ "java/lang/invoke/MethodHandle" ∧ y.cls ≠ "java/lang/invoke/VarHandle" ∧ (parseMethodDescriptor y.desc).map (fun d => d.parameters.length) = some n) ∧ M.2.2.1 ≤ 41
/-- entry idx of own names method y -/
def ML (own : String) (idx : Nat) (y : MethodName) : Prop := Cond.methodLink own idx y ∈ okl ∨ ∃ host, Cond.methodLinkNest own idx y host ∈ okl
def MV (y : MethodName) : Prop := Cond.instanceMethod y ∈ okl ∧ Cond.selects y.cls y y ∈ okl
def MS (y : MethodName) : Prop := Cond.static y ∈ okl
theorem code_good {y : MethodName} {b : ByteArray} {n : Nat} {r : Option FieldType} {args : Array Value} {s : State} (h : (Cond.code y b n r).before args s = true) : ∀ w ∈ [Cond.code y b n r], ∀ (a' : Array Value) (U : State), s.WarmedH U.vm → w.before a' U = true := by
  intro w hw a' U hW
  rw [List.mem_singleton.mp hw]
  exact word_at hW (Or.inl rfl) h
section CALLS
variable {p : Program} {e : Env} {s : State} {m : MethodId} {args : Array Value} {below : List Frame} {meth : Method} {c : Code} {Rm : Room} {cells slots : Nat} {Q : State → Prop} {H : Heap} {locs : List Loc} {ls : Array Slot} {pc : Nat}
theorem run_go {G : GE} {rv : Option Value} {Ms' : List Mem} {st0 rest : List Value} (run : va_Run p G.1 e Rm s m args below meth c H locs cells slots 0 0 (F0 m pc ls st0) rest (Post G rv Ms') (gZ G)) (hS : va_S (gZ G) s.heap H locs)
    (kk : ∀ (H1 : Heap) (locs1 : List Loc), wd G Ms' H1 → va_S (gZ G) s.heap H1 locs1 → W p G.1 e Rm s m args below meth c H1 locs1 cells slots Q (F0 m (pc + 3) ls ((rv.map (tv (gA G))).toList ++ rest))) : W p G.1 e Rm s m args below meth c H locs cells slots Q (F0 m pc ls st0) := by
  intro T hT X
  obtain ⟨v, st₀, t, T', L, h0, X', hL, e1, e2, ⟨hv, hw, hz, hk⟩, st⟩ := run T hT X
  cases hv
  rw [h0] at hz hk
  obtain ⟨t2, a1, b1⟩ := kk T'.heap (locs ++ L) (by rw [e1]; exact hw) ⟨Nat.le_trans hS.1 (by rw [e1]; exact hz), fun q h1 h2 => by rw [e1, hk q (Nat.lt_of_lt_of_le h1 hS.1) h2]; exact hS.2.1 q h1 h2, fun q hq => by
      rcases List.mem_append.mp hq with h | h
      · exact hS.2.2 q h
      · exact hL q h⟩ T' rfl X'
  exact ⟨t2, st t2 a1, b1⟩
end CALLS
section CROWS
variable {G : GE} {M : MI} {R : Type} {E : R → Option Value × List Mem} {pc : Nat} {lv : List (Nat × Value)} {Ms : List Mem}
theorem cat_tv (ad : Nat → Nat) : ∀ (l : List Value), ((l.map (tv ad)).map fun v => v.category).sum = (l.map fun v => v.category).sum
  | [] => rfl
  | v :: l => by rw [List.map_cons, List.map_cons, List.sum_cons, cat_tv ad l, tv_cat, List.map_cons, List.sum_cons]
theorem room_ok {M M' : MI} {Rm : Room} (h1 : M.2.2.2.2 ≤ Rm.frames) (h2 : 60 * M.2.2.2.2 ≤ Rm.locals) (hlev : M'.2.2.2.2 < M.2.2.2.2) (hn : M'.2.2.1 ≤ 41) : (rmL M'.2.2.2.2).frames + 1 ≤ Rm.frames ∧ 8 + (M'.2.2.1 + 11) + (rmL M'.2.2.2.2).locals ≤ Rm.locals := by
  simp only [rmL]
  omega
theorem pre_ok {s : State} {H : Heap} {locs : List Loc} {av : List Value} (hF : FX G s s.heap) (hZ : gZ G s.heap.size) (hw : wd G Ms H) (hS : va_S (gZ G) s.heap H locs) : FrameBlind (va_Pc (av.map (tv (gA G))) (Pre G Ms)) ∧ ∀ U : State, U.heap = H → s.WarmedH U.vm → va_Pc (av.map (tv (gA G))) (Pre G Ms) (av.map (tv (gA G))).toArray U :=
  ⟨fun _ _ _ _ q => ⟨q.1, FX_call q.2.1, q.2.2.1, q.2.2.2⟩, fun U hU hW => ⟨rfl, FX_moved hF hW hS hU, by rw [hU]; exact Nat.le_trans hZ hS.1, by rw [hU]; exact hw⟩⟩
/-- the cell of code b is an object of class C, for a call of it -/
def RCV (G : GE) (Ms : List Mem) (b : Nat) (C : String) : Prop := ∀ (s : State) (H : Heap) (locs : List Loc), FX G s s.heap → wd G Ms H → va_S (gZ G) s.heap H locs → ∃ cellB : Cell, H[gA G b]? = some cellB ∧ cellB.vm.isStatics = false ∧ s.vm.findClass C = some cellB.cls
theorem rcv_obj {b ci : Nat} {fcs : List Nat} {q : vw_C} (hk : kd b = some (.inl (ci, fcs))) (hci : vwCl[ci]? = some q) : RCV G Ms b q.1 := by
  intro s H locs hF hw hS
  obtain ⟨i, -, h2⟩ := wl_at (G := G) (Ms := Ms) hk
  exact va_recv hF.2.1 (wl_P hw) hci h2
theorem rcv_str {i : Nat} (hi : i < 11) : RCV G Ms (20000 + i) RJ0 := by
  intro s H locs hF hw hS
  exact vk_recv (adK := fun i => gA G (20000 + i)) (i := i) hF.2.2.2.1 hi hS
theorem K_callV {R' : Type} {E' : R' → Option Value × List Mem} {f : Option R'} {k : R' → Option R} {idx n b : Nat} {y : MethodName} {M' : MI} {As rest st : List Value}
    (hd : decode M.2.1 pc = .ok (.invokevirtual idx, 3)) (hM : ML M.1 idx y) (hF : MF y M' n) (hV : MV y) (hC : dj G → ∀ r', f = some r' → Ctr G y M' (.ref b :: As) Ms (E' r').1 (E' r').2)
    (hrc : RCV G Ms b y.cls) (hn : As.length = n) (hst : st = As.reverse ++ .ref b :: rest) (hcat : (rest.map fun v => v.category).sum ≤ 8) (hlev : M'.2.2.2.2 < M.2.2.2.2)
    (kk : ∀ r', K G M E (pc + 3) lv ((E' r').1.toList ++ rest) (E' r').2 (k r')) : K G M E pc lv st Ms (f.bind k) := by
  intro p e s m args below meth c Rm cells slots Q H locs ls r X hx hq hw hS hl
  obtain ⟨r', hr', hx⟩ := Option.bind_eq_some_iff.mp hx
  have hc := hC X.2.2.2.2.2.2.2.2.1 r' hr'
  have hts := okl_at X.2.2.2.2.2.2.1 args
  subst hst
  have hrecv := hrc s H locs X.2.2.2.2.2.2.1 hw hS
  have hpre := pre_ok (av := .ref b :: As) X.2.2.2.2.2.2.1 X.2.2.2.2.2.2.2.1 hw hS
  have hroom := room_ok (M' := M') X.2.2.2.2.2.2.2.2.2.1 X.2.2.2.2.2.2.2.2.2.2.1 hlev hF.2.2.2
  have hlen : ∀ sig, parseMethodDescriptor y.desc = some sig → n = sig.parameters.length := fun sig h => by
    have h9 := hF.2.2.1.2.2
    rw [h] at h9
    exact (Option.some.inj h9).symm
  have fin := fun run => run_go (rv := (E' r').1) (Ms' := (E' r').2) (st0 := (As.reverse ++ .ref b :: rest).map (tv (gA G))) (rest := rest.map (tv (gA G))) (Q := Q) (pc := pc) (ls := ls) run hS (fun H1 locs1 hw1 hS1 => by
    have := kk r' p e s m args below meth c Rm cells slots Q H1 locs1 ls r X hx hq hw1 hS1 hl
    have e9 : ((E' r').1.map (tv (gA G))).toList = (E' r').1.toList.map (tv (gA G)) := by cases (E' r').1 <;> rfl
    rw [e9, ← List.map_append]
    exact this)
  have hst9 : (As.reverse ++ Value.ref b :: rest).map (tv (gA G)) = (As.map (tv (gA G))).reverse ++ .ref (gA G b) :: rest.map (tv (gA G)) := by rw [List.map_append, List.map_reverse]; rfl
  have hcat9 : 2 * (F0 m pc ls ((As.reverse ++ Value.ref b :: rest).map (tv (gA G)))).monitorRoom + ((rest.map (tv (gA G))).map fun v => v.category).sum ≤ 8 := by rw [cat_tv]; show 2 * 0 + _ ≤ 8; omega
  rcases hM with hM | ⟨host, hM⟩
  · exact fin (va_runV (C := y.cls) (As := As.map (tv (gA G))) (n := n) ⟨X.1, X.2.1, X.2.2.1, X.2.2.2.2.2.1, hts⟩ hc ⟨⟨rfl, rfl, hroom.1, hroom.2, code_good (hts _ hF.1), List.mem_cons_self, hts _ hF.1, hts _ hF.2.1, ⟨hF.2.2.1.1, hF.2.2.1.2.1⟩, hlen, hts _ hM⟩, hts _ hV.1, hts _ hV.2⟩
      ⟨hpre.1, hrecv, hpre.2⟩ rfl (by rw [List.length_map]; exact hn) hl.1 hst9 hcat9 hd ⟨X.2.2.2.2.2.2.2.2.2.2.2.1, X.2.2.2.2.2.2.2.2.2.2.2.2⟩)
  · exact fin (va_runVN (C := y.cls) (As := As.map (tv (gA G))) (n := n) ⟨X.1, X.2.1, X.2.2.1, X.2.2.2.2.2.1, hts⟩ hc ⟨⟨⟨rfl, rfl, hroom.1, hroom.2, code_good (hts _ hF.1), List.mem_cons_self⟩, hts _ hF.1, hts _ hF.2.1, ⟨hF.2.2.1.1, hF.2.2.1.2.1⟩, hlen, hts _ hM⟩, hts _ hV.1, hts _ hV.2⟩
      ⟨hpre.1, hrecv, hpre.2⟩ rfl (by rw [List.length_map]; exact hn) hl.1 hst9 hcat9 hd ⟨X.2.2.2.2.2.2.2.2.2.2.2.1, X.2.2.2.2.2.2.2.2.2.2.2.2⟩)
theorem K_callS {R' : Type} {E' : R' → Option Value × List Mem} {f : Option R'} {k : R' → Option R} {idx n : Nat} {y : MethodName} {M' : MI} {As rest st : List Value}
    (hd : decode M.2.1 pc = .ok (.invokestatic idx, 3)) (hM : ML M.1 idx y) (hF : MF y M' n) (hV : MS y) (hC : dj G → ∀ r', f = some r' → Ctr G y M' As Ms (E' r').1 (E' r').2)
    (hn : As.length = n) (hst : st = As.reverse ++ rest) (hcat : (rest.map fun v => v.category).sum ≤ 8) (hlev : M'.2.2.2.2 < M.2.2.2.2)
    (kk : ∀ r', K G M E (pc + 3) lv ((E' r').1.toList ++ rest) (E' r').2 (k r')) : K G M E pc lv st Ms (f.bind k) := by
  intro p e s m args below meth c Rm cells slots Q H locs ls r X hx hq hw hS hl
  obtain ⟨r', hr', hx⟩ := Option.bind_eq_some_iff.mp hx
  have hc := hC X.2.2.2.2.2.2.2.2.1 r' hr'
  have hts := okl_at X.2.2.2.2.2.2.1 args
  subst hst
  have hpre := pre_ok (av := As) X.2.2.2.2.2.2.1 X.2.2.2.2.2.2.2.1 hw hS
  have hroom := room_ok (M' := M') X.2.2.2.2.2.2.2.2.2.1 X.2.2.2.2.2.2.2.2.2.2.1 hlev hF.2.2.2
  have hlen : ∀ sig, parseMethodDescriptor y.desc = some sig → n = sig.parameters.length := fun sig h => by
    have h9 := hF.2.2.1.2.2
    rw [h] at h9
    exact (Option.some.inj h9).symm
  have fin := fun run => run_go (rv := (E' r').1) (Ms' := (E' r').2) (st0 := (As.reverse ++ rest).map (tv (gA G))) (rest := rest.map (tv (gA G))) (Q := Q) (pc := pc) (ls := ls) run hS (fun H1 locs1 hw1 hS1 => by
    have := kk r' p e s m args below meth c Rm cells slots Q H1 locs1 ls r X hx hq hw1 hS1 hl
    have e9 : ((E' r').1.map (tv (gA G))).toList = (E' r').1.toList.map (tv (gA G)) := by cases (E' r').1 <;> rfl
    rw [e9, ← List.map_append]
    exact this)
  have hst9 : (As.reverse ++ rest).map (tv (gA G)) = (As.map (tv (gA G))).reverse ++ rest.map (tv (gA G)) := by rw [List.map_append, List.map_reverse]
  have hcat9 : 2 * (F0 m pc ls ((As.reverse ++ rest).map (tv (gA G)))).monitorRoom + ((rest.map (tv (gA G))).map fun v => v.category).sum ≤ 8 := by rw [cat_tv]; show 2 * 0 + _ ≤ 8; omega
  rcases hM with hM | ⟨host, hM⟩
  · exact fin (va_runS (As := As.map (tv (gA G))) (n := n) ⟨X.1, X.2.1, X.2.2.1, X.2.2.2.2.2.1, hts⟩ hc ⟨⟨rfl, rfl, hroom.1, hroom.2, code_good (hts _ hF.1), List.mem_cons_self, hts _ hF.1, hts _ hF.2.1, ⟨hF.2.2.1.1, hF.2.2.1.2.1⟩, hlen, hts _ hM⟩, hts _ hV⟩
      hpre rfl (by rw [List.length_map]; exact hn) hl.1 hst9 hcat9 hd ⟨X.2.2.2.2.2.2.2.2.2.2.2.1, X.2.2.2.2.2.2.2.2.2.2.2.2⟩)
  · exact fin (va_runSN (As := As.map (tv (gA G))) (n := n) ⟨X.1, X.2.1, X.2.2.1, X.2.2.2.2.2.1, hts⟩ hc ⟨⟨⟨rfl, rfl, hroom.1, hroom.2, code_good (hts _ hF.1), List.mem_cons_self⟩, hts _ hF.1, hts _ hF.2.1, ⟨hF.2.2.1.1, hF.2.2.1.2.1⟩, hlen, hts _ hM⟩, hts _ hV, trivial⟩
      hpre rfl (by rw [List.length_map]; exact hn) hl.1 hst9 hcat9 hd ⟨X.2.2.2.2.2.2.2.2.2.2.2.1, X.2.2.2.2.2.2.2.2.2.2.2.2⟩)
end CROWS
