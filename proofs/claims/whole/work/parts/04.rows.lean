theorem okl_at {G : GE} {s : State} (h : FX G s s.heap) (args : Array Value) : ∀ w ∈ okl, w.before args s = true := fun w hw => by
  have h1 := h.1 w hw
  have h2 := (List.mem_filter.mp hw).2
  refine va_tabs ?_ rfl h1
  cases w <;> first | rfl | (simp only [okw, Bool.and_eq_true] at h2; exact h2.1)
section ROWS
variable {G : GE} {M : MI} {R : Type} {E : R → Option Value × List Mem} {pc : Nat} {lv : List (Nat × Value)} {st : List Value} {Ms : List Mem} {x : Option R}
theorem K_none : K G M E pc lv st Ms (none : Option R) := by
  intro p e s m args below meth c Rm cells slots Q H locs ls r C hx
  cases hx
theorem K_iconst {n : Int} {v : Int32} (hd : decode M.2.1 pc = .ok (.iconst n, 1)) (hv : Int32.ofInt n = v) (k : K G M E (pc + 1) lv (.int v :: st) Ms x) : K G M E pc lv st Ms x := by
  intro p e s m args below meth c Rm cells slots Q H locs ls r C hx hq hw hS hl
  exact lv_iconst C.1 C.2.1 hd hv (k p e s m args below meth c Rm cells slots Q H locs ls r C hx hq hw hS hl)
theorem K_bipush {n : Int} {v : Int32} (hd : decode M.2.1 pc = .ok (.bipush n, 2)) (hv : (Int8.ofInt n).toInt32 = v) (k : K G M E (pc + 2) lv (.int v :: st) Ms x) : K G M E pc lv st Ms x := by
  intro p e s m args below meth c Rm cells slots Q H locs ls r C hx hq hw hS hl
  exact lv_bipush C.1 C.2.1 hd hv (k p e s m args below meth c Rm cells slots Q H locs ls r C hx hq hw hS hl)
theorem K_sipush {n : Int} {v : Int32} (hd : decode M.2.1 pc = .ok (.sipush n, 3)) (hv : (Int16.ofInt n).toInt32 = v) (k : K G M E (pc + 3) lv (.int v :: st) Ms x) : K G M E pc lv st Ms x := by
  intro p e s m args below meth c Rm cells slots Q H locs ls r C hx hq hw hS hl
  exact lv_sipush C.1 C.2.1 hd hv (k p e s m args below meth c Rm cells slots Q H locs ls r C hx hq hw hS hl)
theorem K_lconst {n : Fin 2} {v : Int64} (hd : decode M.2.1 pc = .ok (.lconst n, 1)) (hv : Int64.ofNat (n : Nat) = v) (k : K G M E (pc + 1) lv (.long v :: st) Ms x) : K G M E pc lv st Ms x := by
  intro p e s m args below meth c Rm cells slots Q H locs ls r C hx hq hw hS hl
  exact lv_lconst C.1 C.2.1 hd hv (k p e s m args below meth c Rm cells slots Q H locs ls r C hx hq hw hS hl)
theorem K_ldc {idx : Nat} {v : Int32} (hd : decode M.2.1 pc = .ok (.ldc idx, 2)) (hc : Cond.constant M.1 idx v ∈ okl) (k : K G M E (pc + 2) lv (.int v :: st) Ms x) : K G M E pc lv st Ms x := by
  intro p e s m args below meth c Rm cells slots Q H locs ls r C hx hq hw hS hl
  exact lv_ldc C.1 C.2.1 C.2.2.2.2.2.1 (okl_at C.2.2.2.2.2.2.1 args _ hc) hd (k p e s m args below meth c Rm cells slots Q H locs ls r C hx hq hw hS hl)
theorem K_ldcw {idx : Nat} {v : Int32} (hd : decode M.2.1 pc = .ok (.ldc_w idx, 3)) (hc : Cond.constant M.1 idx v ∈ okl) (k : K G M E (pc + 3) lv (.int v :: st) Ms x) : K G M E pc lv st Ms x := by
  intro p e s m args below meth c Rm cells slots Q H locs ls r C hx hq hw hS hl
  exact lv_ldcw C.1 C.2.1 C.2.2.2.2.2.1 (okl_at C.2.2.2.2.2.2.1 args _ hc) hd (k p e s m args below meth c Rm cells slots Q H locs ls r C hx hq hw hS hl)
theorem K_ldc2 {idx : Nat} {v : Int64} (hd : decode M.2.1 pc = .ok (.ldc2_w idx, 3)) (hc : Cond.constantLong M.1 idx v ∈ okl) (k : K G M E (pc + 3) lv (.long v :: st) Ms x) : K G M E pc lv st Ms x := by
  intro p e s m args below meth c Rm cells slots Q H locs ls r C hx hq hw hS hl
  exact lv_ldc2 C.1 C.2.1 C.2.2.2.2.2.1 (okl_at C.2.2.2.2.2.2.1 args _ hc) hd (k p e s m args below meth c Rm cells slots Q H locs ls r C hx hq hw hS hl)
/-- a local's value, by its place in the list -/
theorem lv_atv {ad : Nat → Nat} {ls : Array Slot} {nL : Nat} {lv : List (Nat × Value)} (h : lv_has ls nL (lv.map (tvp ad))) (j : Nat) {i : Nat} {v : Value} (hk : lv[j]? = some (i, v)) : ls[i]? = some (.val (tv ad v)) :=
  lv_at h j (by rw [List.getElem?_map, hk]; rfl)
theorem K_iload_n (j : Nat) {n : Fin 4} {v : Int32} (hd : decode M.2.1 pc = .ok (.iload_n n, 1)) (hj : lv[j]? = some ((n : Nat), .int v)) (k : K G M E (pc + 1) lv (.int v :: st) Ms x) : K G M E pc lv st Ms x := by
  intro p e s m args below meth c Rm cells slots Q H locs ls r C hx hq hw hS hl
  exact lv_iload_n C.1 C.2.1 hd rfl (lv_atv hl j hj) (k p e s m args below meth c Rm cells slots Q H locs ls r C hx hq hw hS hl)
theorem K_iload (j : Nat) {i : Nat} {v : Int32} (hd : decode M.2.1 pc = .ok (.iload i, 2)) (hj : lv[j]? = some (i, .int v)) (k : K G M E (pc + 2) lv (.int v :: st) Ms x) : K G M E pc lv st Ms x := by
  intro p e s m args below meth c Rm cells slots Q H locs ls r C hx hq hw hS hl
  exact lv_iload C.1 C.2.1 hd (lv_atv hl j hj) (k p e s m args below meth c Rm cells slots Q H locs ls r C hx hq hw hS hl)
theorem K_lload_n (j : Nat) {n : Fin 4} {v : Int64} (hd : decode M.2.1 pc = .ok (.lload_n n, 1)) (hj : lv[j]? = some ((n : Nat), .long v)) (k : K G M E (pc + 1) lv (.long v :: st) Ms x) : K G M E pc lv st Ms x := by
  intro p e s m args below meth c Rm cells slots Q H locs ls r C hx hq hw hS hl
  exact lv_lload_n C.1 C.2.1 hd rfl (lv_atv hl j hj) (k p e s m args below meth c Rm cells slots Q H locs ls r C hx hq hw hS hl)
theorem K_lload (j : Nat) {i : Nat} {v : Int64} (hd : decode M.2.1 pc = .ok (.lload i, 2)) (hj : lv[j]? = some (i, .long v)) (k : K G M E (pc + 2) lv (.long v :: st) Ms x) : K G M E pc lv st Ms x := by
  intro p e s m args below meth c Rm cells slots Q H locs ls r C hx hq hw hS hl
  exact lv_lload C.1 C.2.1 hd (lv_atv hl j hj) (k p e s m args below meth c Rm cells slots Q H locs ls r C hx hq hw hS hl)
theorem K_aload_n (j : Nat) {n : Fin 4} {v : Nat} (hd : decode M.2.1 pc = .ok (.aload_n n, 1)) (hj : lv[j]? = some ((n : Nat), .ref v)) (k : K G M E (pc + 1) lv (.ref v :: st) Ms x) : K G M E pc lv st Ms x := by
  intro p e s m args below meth c Rm cells slots Q H locs ls r C hx hq hw hS hl
  exact lv_aload_n C.1 C.2.1 hd rfl (lv_atv hl j hj) (k p e s m args below meth c Rm cells slots Q H locs ls r C hx hq hw hS hl)
theorem K_aload (j : Nat) {i : Nat} {v : Nat} (hd : decode M.2.1 pc = .ok (.aload i, 2)) (hj : lv[j]? = some (i, .ref v)) (k : K G M E (pc + 2) lv (.ref v :: st) Ms x) : K G M E pc lv st Ms x := by
  intro p e s m args below meth c Rm cells slots Q H locs ls r C hx hq hw hS hl
  exact lv_aload C.1 C.2.1 hd (lv_atv hl j hj) (k p e s m args below meth c Rm cells slots Q H locs ls r C hx hq hw hS hl)
theorem tv_cat (ad : Nat → Nat) (v : Value) : (tv ad v).category = v.category := by cases v <;> rfl
def sto1 (i : Nat) (v : Value) (lv : List (Nat × Value)) : List (Nat × Value) := (i, v) :: lv.filter (fun q => !(q.1 == i) && !(q.1 + 1 == i && q.2.category == 2))
def sto2 (i : Nat) (v : Value) (lv : List (Nat × Value)) : List (Nat × Value) := (i, v) :: lv.filter (fun q => !(q.1 == i) && (!(q.1 == i + 1) && !(q.1 + 1 == i && q.2.category == 2)))
theorem sto1_tv (ad : Nat → Nat) (i : Nat) (v : Value) (lv : List (Nat × Value)) : (i, tv ad v) :: (lv.map (tvp ad)).filter (fun q => !(q.1 == i) && !(q.1 + 1 == i && q.2.category == 2)) = (sto1 i v lv).map (tvp ad) := by
  unfold sto1
  rw [List.map_cons, List.filter_map]
  congr 2
  apply congrArg (fun f => List.filter f lv)
  funext q
  simp only [Function.comp, tvp, tv_cat]
theorem sto2_tv (ad : Nat → Nat) (i : Nat) (v : Value) (lv : List (Nat × Value)) : (i, tv ad v) :: (lv.map (tvp ad)).filter (fun q => !(q.1 == i) && (!(q.1 == i + 1) && !(q.1 + 1 == i && q.2.category == 2))) = (sto2 i v lv).map (tvp ad) := by
  unfold sto2
  rw [List.map_cons, List.filter_map]
  congr 2
  apply congrArg (fun f => List.filter f lv)
  funext q
  simp only [Function.comp, tvp, tv_cat]
theorem K_istore_n {lv' : List (Nat × Value)} {n : Fin 4} {v : Int32} (hd : decode M.2.1 pc = .ok (.istore_n n, 1)) (hn : (n : Nat) < M.2.2.1) (hl' : sto1 n (.int v) lv = lv') (k : K G M E (pc + 1) lv' st Ms x) : K G M E pc lv (.int v :: st) Ms x := by
  intro p e s m args below meth c Rm cells slots Q H locs ls r C hx hq hw hS hl
  exact lv_istore_n C.1 C.2.1 hd rfl hl hn (by rw [← hl']; exact sto1_tv (gA G) n (.int v) lv) (fun ls' hl2 => k p e s m args below meth c Rm cells slots Q H locs ls' r C hx hq hw hS hl2)
theorem K_istore {lv' : List (Nat × Value)} {i : Nat} {v : Int32} (hd : decode M.2.1 pc = .ok (.istore i, 2)) (hn : i < M.2.2.1) (hl' : sto1 i (.int v) lv = lv') (k : K G M E (pc + 2) lv' st Ms x) : K G M E pc lv (.int v :: st) Ms x := by
  intro p e s m args below meth c Rm cells slots Q H locs ls r C hx hq hw hS hl
  exact lv_istore C.1 C.2.1 hd hl hn (by rw [← hl']; exact sto1_tv (gA G) i (.int v) lv) (fun ls' hl2 => k p e s m args below meth c Rm cells slots Q H locs ls' r C hx hq hw hS hl2)
theorem K_lstore_n {lv' : List (Nat × Value)} {n : Fin 4} {v : Int64} (hd : decode M.2.1 pc = .ok (.lstore_n n, 1)) (hn : (n : Nat) + 1 < M.2.2.1) (hl' : sto2 n (.long v) lv = lv') (k : K G M E (pc + 1) lv' st Ms x) : K G M E pc lv (.long v :: st) Ms x := by
  intro p e s m args below meth c Rm cells slots Q H locs ls r C hx hq hw hS hl
  exact lv_lstore_n C.1 C.2.1 hd rfl hl hn (by rw [← hl']; exact sto2_tv (gA G) n (.long v) lv) (fun ls' hl2 => k p e s m args below meth c Rm cells slots Q H locs ls' r C hx hq hw hS hl2)
theorem K_astore_n {lv' : List (Nat × Value)} {n : Fin 4} {v : Nat} (hd : decode M.2.1 pc = .ok (.astore_n n, 1)) (hn : (n : Nat) < M.2.2.1) (hl' : sto1 n (.ref v) lv = lv') (k : K G M E (pc + 1) lv' st Ms x) : K G M E pc lv (.ref v :: st) Ms x := by
  intro p e s m args below meth c Rm cells slots Q H locs ls r C hx hq hw hS hl
  exact lv_astore_n C.1 C.2.1 hd rfl hl hn (by rw [← hl']; exact sto1_tv (gA G) n (.ref v) lv) (fun ls' hl2 => k p e s m args below meth c Rm cells slots Q H locs ls' r C hx hq hw hS hl2)
theorem K_astore {lv' : List (Nat × Value)} {i : Nat} {v : Nat} (hd : decode M.2.1 pc = .ok (.astore i, 2)) (hn : i < M.2.2.1) (hl' : sto1 i (.ref v) lv = lv') (k : K G M E (pc + 2) lv' st Ms x) : K G M E pc lv (.ref v :: st) Ms x := by
  intro p e s m args below meth c Rm cells slots Q H locs ls r C hx hq hw hS hl
  exact lv_astore C.1 C.2.1 hd hl hn (by rw [← hl']; exact sto1_tv (gA G) i (.ref v) lv) (fun ls' hl2 => k p e s m args below meth c Rm cells slots Q H locs ls' r C hx hq hw hS hl2)
theorem K_iinc (j : Nat) {lv' : List (Nat × Value)} {i : Nat} {n : Int} {v w : Int32} (hd : decode M.2.1 pc = .ok (.iinc i n, 3)) (hj : lv[j]? = some (i, .int v)) (hv : v + Int32.ofInt n = w) (hn : i < M.2.2.1) (hl' : sto1 i (.int w) lv = lv') (k : K G M E (pc + 3) lv' st Ms x) : K G M E pc lv st Ms x := by
  intro p e s m args below meth c Rm cells slots Q H locs ls r C hx hq hw hS hl
  exact lv_iinc (k := j) C.1 C.2.1 hd hl (by rw [List.getElem?_map, hj]; rfl) hv hn (by rw [← hl']; exact sto1_tv (gA G) i (.int w) lv) (fun ls' hl2 => k p e s m args below meth c Rm cells slots Q H locs ls' r C hx hq hw hS hl2)
/-- fewer locals, in another order -/
theorem K_loc (js : List Nat) {lv' : List (Nat × Value)} (h : lv_pick lv js = lv') (k : K G M E pc lv' st Ms x) : K G M E pc lv st Ms x := by
  intro p e s m args below meth c Rm cells slots Q H locs ls r C hx hq hw hS hl
  refine k p e s m args below meth c Rm cells slots Q H locs ls r C hx hq hw hS (lv_sub hl js ?_)
  rw [← h]
  unfold lv_pick
  rw [List.map_filterMap]
  congr 1
  funext j
  rw [List.getElem?_map]
theorem K_iadd {a b : Int32} (hd : decode M.2.1 pc = .ok (.iadd, 1)) (k : K G M E (pc + 1) lv (.int (a + b) :: st) Ms x) : K G M E pc lv (.int b :: .int a :: st) Ms x := by
  intro p e s m args below meth c Rm cells slots Q H locs ls r C hx hq hw hS hl
  exact lv_iadd C.1 C.2.1 hd (k p e s m args below meth c Rm cells slots Q H locs ls r C hx hq hw hS hl)
theorem K_isub {a b : Int32} (hd : decode M.2.1 pc = .ok (.isub, 1)) (k : K G M E (pc + 1) lv (.int (a - b) :: st) Ms x) : K G M E pc lv (.int b :: .int a :: st) Ms x := by
  intro p e s m args below meth c Rm cells slots Q H locs ls r C hx hq hw hS hl
  exact lv_isub C.1 C.2.1 hd (k p e s m args below meth c Rm cells slots Q H locs ls r C hx hq hw hS hl)
theorem K_imul {a b : Int32} (hd : decode M.2.1 pc = .ok (.imul, 1)) (k : K G M E (pc + 1) lv (.int (a * b) :: st) Ms x) : K G M E pc lv (.int b :: .int a :: st) Ms x := by
  intro p e s m args below meth c Rm cells slots Q H locs ls r C hx hq hw hS hl
  exact lv_imul C.1 C.2.1 hd (k p e s m args below meth c Rm cells slots Q H locs ls r C hx hq hw hS hl)
theorem K_iand {a b : Int32} (hd : decode M.2.1 pc = .ok (.iand, 1)) (k : K G M E (pc + 1) lv (.int (a &&& b) :: st) Ms x) : K G M E pc lv (.int b :: .int a :: st) Ms x := by
  intro p e s m args below meth c Rm cells slots Q H locs ls r C hx hq hw hS hl
  exact lv_iand C.1 C.2.1 hd (k p e s m args below meth c Rm cells slots Q H locs ls r C hx hq hw hS hl)
theorem K_ior {a b : Int32} (hd : decode M.2.1 pc = .ok (.ior, 1)) (k : K G M E (pc + 1) lv (.int (a ||| b) :: st) Ms x) : K G M E pc lv (.int b :: .int a :: st) Ms x := by
  intro p e s m args below meth c Rm cells slots Q H locs ls r C hx hq hw hS hl
  exact lv_ior C.1 C.2.1 hd (k p e s m args below meth c Rm cells slots Q H locs ls r C hx hq hw hS hl)
theorem K_ixor {a b : Int32} (hd : decode M.2.1 pc = .ok (.ixor, 1)) (k : K G M E (pc + 1) lv (.int (a ^^^ b) :: st) Ms x) : K G M E pc lv (.int b :: .int a :: st) Ms x := by
  intro p e s m args below meth c Rm cells slots Q H locs ls r C hx hq hw hS hl
  exact lv_ixor C.1 C.2.1 hd (k p e s m args below meth c Rm cells slots Q H locs ls r C hx hq hw hS hl)
theorem K_ishl {a b : Int32} (hd : decode M.2.1 pc = .ok (.ishl, 1)) (k : K G M E (pc + 1) lv (.int (a <<< (b &&& 31)) :: st) Ms x) : K G M E pc lv (.int b :: .int a :: st) Ms x := by
  intro p e s m args below meth c Rm cells slots Q H locs ls r C hx hq hw hS hl
  exact lv_ishl C.1 C.2.1 hd (k p e s m args below meth c Rm cells slots Q H locs ls r C hx hq hw hS hl)
theorem K_ishr {a b : Int32} (hd : decode M.2.1 pc = .ok (.ishr, 1)) (k : K G M E (pc + 1) lv (.int (a >>> (b &&& 31)) :: st) Ms x) : K G M E pc lv (.int b :: .int a :: st) Ms x := by
  intro p e s m args below meth c Rm cells slots Q H locs ls r C hx hq hw hS hl
  exact lv_ishr C.1 C.2.1 hd (k p e s m args below meth c Rm cells slots Q H locs ls r C hx hq hw hS hl)
theorem K_iushr {a b : Int32} (hd : decode M.2.1 pc = .ok (.iushr, 1)) (k : K G M E (pc + 1) lv (.int ((a.toUInt32 >>> (b.toUInt32 &&& Int32.toUInt32 31)).toInt32) :: st) Ms x) : K G M E pc lv (.int b :: .int a :: st) Ms x := by
  intro p e s m args below meth c Rm cells slots Q H locs ls r C hx hq hw hS hl
  exact lv_iushr C.1 C.2.1 hd rfl (k p e s m args below meth c Rm cells slots Q H locs ls r C hx hq hw hS hl)
theorem K_ineg {a : Int32} (hd : decode M.2.1 pc = .ok (.ineg, 1)) (k : K G M E (pc + 1) lv (.int (-a) :: st) Ms x) : K G M E pc lv (.int a :: st) Ms x := by
  intro p e s m args below meth c Rm cells slots Q H locs ls r C hx hq hw hS hl
  exact lv_ineg C.1 C.2.1 hd (k p e s m args below meth c Rm cells slots Q H locs ls r C hx hq hw hS hl)
/-- division: the divisor is no 0 -/
theorem K_idiv {a b : Int32} (hd : decode M.2.1 pc = .ok (.idiv, 1)) (k : K G M E (pc + 1) lv (.int (a / b) :: st) Ms x) : K G M E pc lv (.int b :: .int a :: st) Ms (gd (decide (¬ b = 0)) x) := by
  intro p e s m args below meth c Rm cells slots Q H locs ls r C hx hq hw hS hl
  obtain ⟨h1, hx⟩ := gd_some hx
  exact lv_idiv C.1 C.2.1 hd (of_decide_eq_true h1) (k p e s m args below meth c Rm cells slots Q H locs ls r C hx hq hw hS hl)
theorem K_irem {a b : Int32} (hd : decode M.2.1 pc = .ok (.irem, 1)) (k : K G M E (pc + 1) lv (.int (a - a / b * b) :: st) Ms x) : K G M E pc lv (.int b :: .int a :: st) Ms (gd (decide (¬ b = 0)) x) := by
  intro p e s m args below meth c Rm cells slots Q H locs ls r C hx hq hw hS hl
  obtain ⟨h1, hx⟩ := gd_some hx
  exact lv_irem C.1 C.2.1 hd (of_decide_eq_true h1) (k p e s m args below meth c Rm cells slots Q H locs ls r C hx hq hw hS hl)
/-- division by a written number -/
theorem K_idivC {a b : Int32} (hd : decode M.2.1 pc = .ok (.idiv, 1)) (hb : ¬ b = 0) (k : K G M E (pc + 1) lv (.int (a / b) :: st) Ms x) : K G M E pc lv (.int b :: .int a :: st) Ms x := by
  intro p e s m args below meth c Rm cells slots Q H locs ls r C hx hq hw hS hl
  exact lv_idiv C.1 C.2.1 hd hb (k p e s m args below meth c Rm cells slots Q H locs ls r C hx hq hw hS hl)
theorem K_land {a b : Int64} (hd : decode M.2.1 pc = .ok (.land, 1)) (k : K G M E (pc + 1) lv (.long (a &&& b) :: st) Ms x) : K G M E pc lv (.long b :: .long a :: st) Ms x := by
  intro p e s m args below meth c Rm cells slots Q H locs ls r C hx hq hw hS hl
  exact lv_land C.1 C.2.1 hd (k p e s m args below meth c Rm cells slots Q H locs ls r C hx hq hw hS hl)
theorem K_lor {a b : Int64} (hd : decode M.2.1 pc = .ok (.lor, 1)) (k : K G M E (pc + 1) lv (.long (a ||| b) :: st) Ms x) : K G M E pc lv (.long b :: .long a :: st) Ms x := by
  intro p e s m args below meth c Rm cells slots Q H locs ls r C hx hq hw hS hl
  exact lv_lor C.1 C.2.1 hd (k p e s m args below meth c Rm cells slots Q H locs ls r C hx hq hw hS hl)
theorem K_ladd {a b : Int64} (hd : decode M.2.1 pc = .ok (.ladd, 1)) (k : K G M E (pc + 1) lv (.long (a + b) :: st) Ms x) : K G M E pc lv (.long b :: .long a :: st) Ms x := by
  intro p e s m args below meth c Rm cells slots Q H locs ls r C hx hq hw hS hl
  exact lv_ladd C.1 C.2.1 hd (k p e s m args below meth c Rm cells slots Q H locs ls r C hx hq hw hS hl)
theorem K_lshl {a : Int64} {b : Int32} (hd : decode M.2.1 pc = .ok (.lshl, 1)) (k : K G M E (pc + 1) lv (.long (a <<< (b.toInt64 &&& 63)) :: st) Ms x) : K G M E pc lv (.int b :: .long a :: st) Ms x := by
  intro p e s m args below meth c Rm cells slots Q H locs ls r C hx hq hw hS hl
  exact lv_lshl C.1 C.2.1 hd rfl (k p e s m args below meth c Rm cells slots Q H locs ls r C hx hq hw hS hl)
theorem K_lshr {a : Int64} {b : Int32} (hd : decode M.2.1 pc = .ok (.lshr, 1)) (k : K G M E (pc + 1) lv (.long (a >>> (b.toInt64 &&& 63)) :: st) Ms x) : K G M E pc lv (.int b :: .long a :: st) Ms x := by
  intro p e s m args below meth c Rm cells slots Q H locs ls r C hx hq hw hS hl
  exact lv_lshr C.1 C.2.1 hd rfl (k p e s m args below meth c Rm cells slots Q H locs ls r C hx hq hw hS hl)
theorem K_i2l {a : Int32} (hd : decode M.2.1 pc = .ok (.i2l, 1)) (k : K G M E (pc + 1) lv (.long a.toInt64 :: st) Ms x) : K G M E pc lv (.int a :: st) Ms x := by
  intro p e s m args below meth c Rm cells slots Q H locs ls r C hx hq hw hS hl
  exact lv_i2l C.1 C.2.1 hd rfl (k p e s m args below meth c Rm cells slots Q H locs ls r C hx hq hw hS hl)
theorem K_l2i {a : Int64} (hd : decode M.2.1 pc = .ok (.l2i, 1)) (k : K G M E (pc + 1) lv (.int a.toInt32 :: st) Ms x) : K G M E pc lv (.long a :: st) Ms x := by
  intro p e s m args below meth c Rm cells slots Q H locs ls r C hx hq hw hS hl
  exact lv_l2i C.1 C.2.1 hd rfl (k p e s m args below meth c Rm cells slots Q H locs ls r C hx hq hw hS hl)
theorem K_i2b {a : Int32} (hd : decode M.2.1 pc = .ok (.i2b, 1)) (k : K G M E (pc + 1) lv (.int a.toInt8.toInt32 :: st) Ms x) : K G M E pc lv (.int a :: st) Ms x := by
  intro p e s m args below meth c Rm cells slots Q H locs ls r C hx hq hw hS hl
  exact lv_i2b C.1 C.2.1 hd rfl (k p e s m args below meth c Rm cells slots Q H locs ls r C hx hq hw hS hl)
theorem K_i2s {a : Int32} (hd : decode M.2.1 pc = .ok (.i2s, 1)) (k : K G M E (pc + 1) lv (.int a.toInt16.toInt32 :: st) Ms x) : K G M E pc lv (.int a :: st) Ms x := by
  intro p e s m args below meth c Rm cells slots Q H locs ls r C hx hq hw hS hl
  exact lv_i2s C.1 C.2.1 hd rfl (k p e s m args below meth c Rm cells slots Q H locs ls r C hx hq hw hS hl)
theorem K_i2c {a : Int32} (hd : decode M.2.1 pc = .ok (.i2c, 1)) (k : K G M E (pc + 1) lv (.int (a.toUInt32 % 65536).toInt32 :: st) Ms x) : K G M E pc lv (.int a :: st) Ms x := by
  intro p e s m args below meth c Rm cells slots Q H locs ls r C hx hq hw hS hl
  exact lv_i2c C.1 C.2.1 hd rfl (k p e s m args below meth c Rm cells slots Q H locs ls r C hx hq hw hS hl)
theorem K_dup {v : Value} (hd : decode M.2.1 pc = .ok (.dup, 1)) (hv : v.category = 1) (k : K G M E (pc + 1) lv (v :: v :: st) Ms x) : K G M E pc lv (v :: st) Ms x := by
  intro p e s m args below meth c Rm cells slots Q H locs ls r C hx hq hw hS hl
  exact lv_dup C.1 C.2.1 hd ((tv_cat _ v).trans hv) (k p e s m args below meth c Rm cells slots Q H locs ls r C hx hq hw hS hl)
theorem K_pop {v : Value} (hd : decode M.2.1 pc = .ok (.pop, 1)) (hv : v.category = 1) (k : K G M E (pc + 1) lv st Ms x) : K G M E pc lv (v :: st) Ms x := by
  intro p e s m args below meth c Rm cells slots Q H locs ls r C hx hq hw hS hl
  exact lv_pop C.1 C.2.1 hd ((tv_cat _ v).trans hv) (k p e s m args below meth c Rm cells slots Q H locs ls r C hx hq hw hS hl)
theorem K_dup_x1 {v w : Value} (hd : decode M.2.1 pc = .ok (.dup_x1, 1)) (hv : v.category = 1) (hw' : w.category = 1) (k : K G M E (pc + 1) lv (v :: w :: v :: st) Ms x) : K G M E pc lv (v :: w :: st) Ms x := by
  intro p e s m args below meth c Rm cells slots Q H locs ls r C hx hq hw hS hl
  exact lv_dup_x1 C.1 C.2.1 hd ((tv_cat _ v).trans hv) ((tv_cat _ w).trans hw') (k p e s m args below meth c Rm cells slots Q H locs ls r C hx hq hw hS hl)
theorem K_dup_x2 {v w u : Value} (hd : decode M.2.1 pc = .ok (.dup_x2, 1)) (hv : v.category = 1) (hw' : w.category = 1) (hu : u.category = 1) (k : K G M E (pc + 1) lv (v :: w :: u :: v :: st) Ms x) : K G M E pc lv (v :: w :: u :: st) Ms x := by
  intro p e s m args below meth c Rm cells slots Q H locs ls r C hx hq hw hS hl
  exact lv_dup_x2 C.1 C.2.1 hd ((tv_cat _ v).trans hv) ((tv_cat _ w).trans hw') ((tv_cat _ u).trans hu) (k p e s m args below meth c Rm cells slots Q H locs ls r C hx hq hw hS hl)
theorem K_dup2 {v w : Value} (hd : decode M.2.1 pc = .ok (.dup2, 1)) (hv : v.category = 1) (hw' : w.category = 1) (k : K G M E (pc + 1) lv (v :: w :: v :: w :: st) Ms x) : K G M E pc lv (v :: w :: st) Ms x := by
  intro p e s m args below meth c Rm cells slots Q H locs ls r C hx hq hw hS hl
  exact lv_dup2_11 C.1 C.2.1 hd ((tv_cat _ v).trans hv) ((tv_cat _ w).trans hw') (k p e s m args below meth c Rm cells slots Q H locs ls r C hx hq hw hS hl)
theorem K_goto {off : Int} (tgt : Nat) (hd : decode M.2.1 pc = .ok (.goto off, 3)) (ht : (pc : Int) + off = (tgt : Int)) (k : K G M E tgt lv st Ms x) : K G M E pc lv st Ms x := by
  intro p e s m args below meth c Rm cells slots Q H locs ls r C hx hq hw hS hl
  exact lv_goto C.1 C.2.1 hd ht (k p e s m args below meth c Rm cells slots Q H locs ls r C hx hq hw hS hl)
variable {y : Option R}
theorem K_if_eq {a : Int32} {off : Int} (tgt : Nat) (hd : decode M.2.1 pc = .ok (.ifCond .eq off, 3)) (ht : (pc : Int) + off = (tgt : Int)) (kt : a = 0 → K G M E tgt lv st Ms x) (kf : ¬ a = 0 → K G M E (pc + 3) lv st Ms y) : K G M E pc lv (.int a :: st) Ms (if a = 0 then x else y) := by
  intro p e s m args below meth c Rm cells slots Q H locs ls r C hx hq hw hS hl
  exact lv_if_eq C.1 C.2.1 hd ht (fun h => kt h p e s m args below meth c Rm cells slots Q H locs ls r C (by rw [if_pos h] at hx; exact hx) hq hw hS hl) (fun h => kf h p e s m args below meth c Rm cells slots Q H locs ls r C (by rw [if_neg h] at hx; exact hx) hq hw hS hl)
theorem K_if_ne {a : Int32} {off : Int} (tgt : Nat) (hd : decode M.2.1 pc = .ok (.ifCond .ne off, 3)) (ht : (pc : Int) + off = (tgt : Int)) (kt : ¬ a = 0 → K G M E tgt lv st Ms y) (kf : a = 0 → K G M E (pc + 3) lv st Ms x) : K G M E pc lv (.int a :: st) Ms (if a = 0 then x else y) := by
  intro p e s m args below meth c Rm cells slots Q H locs ls r C hx hq hw hS hl
  exact lv_if_ne C.1 C.2.1 hd ht (fun h => kt h p e s m args below meth c Rm cells slots Q H locs ls r C (by rw [if_neg h] at hx; exact hx) hq hw hS hl) (fun h => kf h p e s m args below meth c Rm cells slots Q H locs ls r C (by rw [if_pos h] at hx; exact hx) hq hw hS hl)
theorem K_if_lt {a : Int32} {off : Int} (tgt : Nat) (hd : decode M.2.1 pc = .ok (.ifCond .lt off, 3)) (ht : (pc : Int) + off = (tgt : Int)) (kt : a < 0 → K G M E tgt lv st Ms x) (kf : ¬ a < 0 → K G M E (pc + 3) lv st Ms y) : K G M E pc lv (.int a :: st) Ms (if a < 0 then x else y) := by
  intro p e s m args below meth c Rm cells slots Q H locs ls r C hx hq hw hS hl
  exact lv_if_lt C.1 C.2.1 hd ht (fun h => kt h p e s m args below meth c Rm cells slots Q H locs ls r C (by rw [if_pos h] at hx; exact hx) hq hw hS hl) (fun h => kf h p e s m args below meth c Rm cells slots Q H locs ls r C (by rw [if_neg h] at hx; exact hx) hq hw hS hl)
theorem K_if_ge {a : Int32} {off : Int} (tgt : Nat) (hd : decode M.2.1 pc = .ok (.ifCond .ge off, 3)) (ht : (pc : Int) + off = (tgt : Int)) (kt : 0 ≤ a → K G M E tgt lv st Ms x) (kf : ¬ 0 ≤ a → K G M E (pc + 3) lv st Ms y) : K G M E pc lv (.int a :: st) Ms (if 0 ≤ a then x else y) := by
  intro p e s m args below meth c Rm cells slots Q H locs ls r C hx hq hw hS hl
  exact lv_if_ge C.1 C.2.1 hd ht (fun h => kt h p e s m args below meth c Rm cells slots Q H locs ls r C (by rw [if_pos h] at hx; exact hx) hq hw hS hl) (fun h => kf h p e s m args below meth c Rm cells slots Q H locs ls r C (by rw [if_neg h] at hx; exact hx) hq hw hS hl)
theorem K_if_gt {a : Int32} {off : Int} (tgt : Nat) (hd : decode M.2.1 pc = .ok (.ifCond .gt off, 3)) (ht : (pc : Int) + off = (tgt : Int)) (kt : 0 < a → K G M E tgt lv st Ms x) (kf : ¬ 0 < a → K G M E (pc + 3) lv st Ms y) : K G M E pc lv (.int a :: st) Ms (if 0 < a then x else y) := by
  intro p e s m args below meth c Rm cells slots Q H locs ls r C hx hq hw hS hl
  exact lv_if_gt C.1 C.2.1 hd ht (fun h => kt h p e s m args below meth c Rm cells slots Q H locs ls r C (by rw [if_pos h] at hx; exact hx) hq hw hS hl) (fun h => kf h p e s m args below meth c Rm cells slots Q H locs ls r C (by rw [if_neg h] at hx; exact hx) hq hw hS hl)
theorem K_if_le {a : Int32} {off : Int} (tgt : Nat) (hd : decode M.2.1 pc = .ok (.ifCond .le off, 3)) (ht : (pc : Int) + off = (tgt : Int)) (kt : a ≤ 0 → K G M E tgt lv st Ms x) (kf : ¬ a ≤ 0 → K G M E (pc + 3) lv st Ms y) : K G M E pc lv (.int a :: st) Ms (if a ≤ 0 then x else y) := by
  intro p e s m args below meth c Rm cells slots Q H locs ls r C hx hq hw hS hl
  exact lv_if_le C.1 C.2.1 hd ht (fun h => kt h p e s m args below meth c Rm cells slots Q H locs ls r C (by rw [if_pos h] at hx; exact hx) hq hw hS hl) (fun h => kf h p e s m args below meth c Rm cells slots Q H locs ls r C (by rw [if_neg h] at hx; exact hx) hq hw hS hl)
theorem K_icmp_eq {a b : Int32} {off : Int} (tgt : Nat) (hd : decode M.2.1 pc = .ok (.if_icmp .eq off, 3)) (ht : (pc : Int) + off = (tgt : Int)) (kt : a = b → K G M E tgt lv st Ms x) (kf : ¬ a = b → K G M E (pc + 3) lv st Ms y) : K G M E pc lv (.int b :: .int a :: st) Ms (if a = b then x else y) := by
  intro p e s m args below meth c Rm cells slots Q H locs ls r C hx hq hw hS hl
  exact lv_icmp_eq C.1 C.2.1 hd ht (fun h => kt h p e s m args below meth c Rm cells slots Q H locs ls r C (by rw [if_pos h] at hx; exact hx) hq hw hS hl) (fun h => kf h p e s m args below meth c Rm cells slots Q H locs ls r C (by rw [if_neg h] at hx; exact hx) hq hw hS hl)
theorem K_icmp_ne {a b : Int32} {off : Int} (tgt : Nat) (hd : decode M.2.1 pc = .ok (.if_icmp .ne off, 3)) (ht : (pc : Int) + off = (tgt : Int)) (kt : ¬ a = b → K G M E tgt lv st Ms y) (kf : a = b → K G M E (pc + 3) lv st Ms x) : K G M E pc lv (.int b :: .int a :: st) Ms (if a = b then x else y) := by
  intro p e s m args below meth c Rm cells slots Q H locs ls r C hx hq hw hS hl
  exact lv_icmp_ne C.1 C.2.1 hd ht (fun h => kt h p e s m args below meth c Rm cells slots Q H locs ls r C (by rw [if_neg h] at hx; exact hx) hq hw hS hl) (fun h => kf h p e s m args below meth c Rm cells slots Q H locs ls r C (by rw [if_pos h] at hx; exact hx) hq hw hS hl)
theorem K_icmp_lt {a b : Int32} {off : Int} (tgt : Nat) (hd : decode M.2.1 pc = .ok (.if_icmp .lt off, 3)) (ht : (pc : Int) + off = (tgt : Int)) (kt : a < b → K G M E tgt lv st Ms x) (kf : ¬ a < b → K G M E (pc + 3) lv st Ms y) : K G M E pc lv (.int b :: .int a :: st) Ms (if a < b then x else y) := by
  intro p e s m args below meth c Rm cells slots Q H locs ls r C hx hq hw hS hl
  exact lv_icmp_lt C.1 C.2.1 hd ht (fun h => kt h p e s m args below meth c Rm cells slots Q H locs ls r C (by rw [if_pos h] at hx; exact hx) hq hw hS hl) (fun h => kf h p e s m args below meth c Rm cells slots Q H locs ls r C (by rw [if_neg h] at hx; exact hx) hq hw hS hl)
theorem K_icmp_ge {a b : Int32} {off : Int} (tgt : Nat) (hd : decode M.2.1 pc = .ok (.if_icmp .ge off, 3)) (ht : (pc : Int) + off = (tgt : Int)) (kt : b ≤ a → K G M E tgt lv st Ms x) (kf : ¬ b ≤ a → K G M E (pc + 3) lv st Ms y) : K G M E pc lv (.int b :: .int a :: st) Ms (if b ≤ a then x else y) := by
  intro p e s m args below meth c Rm cells slots Q H locs ls r C hx hq hw hS hl
  exact lv_icmp_ge C.1 C.2.1 hd ht (fun h => kt h p e s m args below meth c Rm cells slots Q H locs ls r C (by rw [if_pos h] at hx; exact hx) hq hw hS hl) (fun h => kf h p e s m args below meth c Rm cells slots Q H locs ls r C (by rw [if_neg h] at hx; exact hx) hq hw hS hl)
theorem K_icmp_gt {a b : Int32} {off : Int} (tgt : Nat) (hd : decode M.2.1 pc = .ok (.if_icmp .gt off, 3)) (ht : (pc : Int) + off = (tgt : Int)) (kt : b < a → K G M E tgt lv st Ms x) (kf : ¬ b < a → K G M E (pc + 3) lv st Ms y) : K G M E pc lv (.int b :: .int a :: st) Ms (if b < a then x else y) := by
  intro p e s m args below meth c Rm cells slots Q H locs ls r C hx hq hw hS hl
  exact lv_icmp_gt C.1 C.2.1 hd ht (fun h => kt h p e s m args below meth c Rm cells slots Q H locs ls r C (by rw [if_pos h] at hx; exact hx) hq hw hS hl) (fun h => kf h p e s m args below meth c Rm cells slots Q H locs ls r C (by rw [if_neg h] at hx; exact hx) hq hw hS hl)
theorem K_icmp_le {a b : Int32} {off : Int} (tgt : Nat) (hd : decode M.2.1 pc = .ok (.if_icmp .le off, 3)) (ht : (pc : Int) + off = (tgt : Int)) (kt : a ≤ b → K G M E tgt lv st Ms x) (kf : ¬ a ≤ b → K G M E (pc + 3) lv st Ms y) : K G M E pc lv (.int b :: .int a :: st) Ms (if a ≤ b then x else y) := by
  intro p e s m args below meth c Rm cells slots Q H locs ls r C hx hq hw hS hl
  exact lv_icmp_le C.1 C.2.1 hd ht (fun h => kt h p e s m args below meth c Rm cells slots Q H locs ls r C (by rw [if_pos h] at hx; exact hx) hq hw hS hl) (fun h => kf h p e s m args below meth c Rm cells slots Q H locs ls r C (by rw [if_neg h] at hx; exact hx) hq hw hS hl)
end ROWS
