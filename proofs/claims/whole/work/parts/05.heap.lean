/-! the world as a list, for the kit's rows -/
def codesL : List Nat := (List.range 12000).filter (fun c => (kd c).isSome)
def wl (G : GE) (Ms : List Mem) : va_W := codesL.map fun c => (gA G c, ((kd c).map (el (gA G) (gC G) c (xs Ms c))).getD (.inr (0, [])))
theorem kd_lt {c : Nat} {k : KD} (h : kd c = some k) : c < 12000 := sorry
theorem codes_mem {c : Nat} {k : KD} (h : kd c = some k) : c ∈ codesL := sorry
theorem wl_at {G : GE} {Ms : List Mem} {c : Nat} {k : KD} (h : kd c = some k) : ∃ q : Nat, codesL[q]? = some c ∧ (wl G Ms)[q]? = some (gA G c, el (gA G) (gC G) c (xs Ms c) k) := sorry
theorem wl_back {G : GE} {Ms : List Mem} {q : Nat} {x : Nat × va_E} (h : (wl G Ms)[q]? = some x) : ∃ c k, codesL[q]? = some c ∧ kd c = some k ∧ x = (gA G c, el (gA G) (gC G) c (xs Ms c) k) := sorry
theorem wl_P {G : GE} {Ms : List Mem} {H : Heap} (h : wd G Ms H) : va_P (gD G) vwCl (wl G Ms) H := sorry
theorem nodup_at {l : List Nat} (h : l.Nodup) {i j a : Nat} (hi : l[i]? = some a) (hj : l[j]? = some a) : i = j := sorry
theorem codes_nodup : codesL.Nodup := sorry
theorem wl_D {G : GE} {Ms : List Mem} (h : dj G) : va_D (gZ G) (wl G Ms) := sorry
theorem xs_set {Ms : List Mem} {c : Nat} (f : Nat → Int32) (hc : c / 1000 < Ms.length) (c' : Nat) : xs (Ms.set (c / 1000) (upA (Ms.getD (c / 1000) z0) (c % 1000) f)) c' = if c' = c then f else xs Ms c' := sorry
/-- what the memories become when one cell's contents do -/
def setc (Ms : List Mem) (c : Nat) (f : Nat → Int32) : List Mem := Ms.set (c / 1000) (upA (Ms.getD (c / 1000) z0) (c % 1000) f)
theorem wl_set {G : GE} {Ms : List Mem} {H : Heap} {q c : Nat} {k : KD} {f : Nat → Int32} (hq : codesL[q]? = some c) (hk : kd c = some k) (hc : c / 1000 < Ms.length) (h : va_P (gD G) vwCl ((wl G Ms).set q (gA G c, el (gA G) (gC G) c f k)) H) : wd G (setc Ms c f) H := sorry
/-! fields -/
/-- class ci of vwCl, with what its words say -/
def CI (ci : Nat) (C : String) (T : u_T) (N : Nat) : Prop := vwCl[ci]? = some (C, T, N) ∧ (∀ w ∈ u_ws C T N, w ∈ okl) ∧ (∃ ty0 : Nat → FieldType, ∀ k, k < N → parseFieldDescriptor (T k).2.2.1 = some (ty0 k)) ∧ ∀ a, a < N → ∀ b, b < N → a ≠ b → (T a).2.1 ≠ (T b).2.1
/-- entry idx of class own names field k of class ci -/
def FL (own : String) (idx ci k : Nat) : Prop := ∃ (C : String) (T : u_T) (N : Nat), CI ci C T N ∧ k < N ∧ (Cond.fieldLink own idx (T k).1 (T k).2.1 (T k).2.2.1 ∈ okl ∨ ∃ host, Cond.fieldLinkNest own idx (T k).1 (T k).2.1 (T k).2.2.1 host ∈ okl)
/-- and that one may be written, a number of type ty -/
def FP (own : String) (idx ci k : Nat) (ty : FieldType) : Prop := ∃ (C : String) (T : u_T) (N : Nat), CI ci C T N ∧ k < N ∧ (Cond.fieldLink own idx (T k).1 (T k).2.1 (T k).2.2.1 ∈ okl ∨ ∃ host, Cond.fieldLinkNest own idx (T k).1 (T k).2.1 (T k).2.2.1 host ∈ okl) ∧ (T k).2.2.2 = false ∧ parseFieldDescriptor (T k).2.2.1 = some ty
theorem avs_at {f : Nat → Int32} {c : Nat} {fcs : List Nat} {k fc : Nat} (h : fcs[k]? = some fc) (ad : Nat → Nat) : ((avs f c fcs).map (tv ad))[k]? = some (tv ad (av f c k fc)) := sorry
section HROWS
variable {G : GE} {M : MI} {R : Type} {E : R → Option Value × List Mem} {pc : Nat} {lv : List (Nat × Value)} {st : List Value} {Ms : List Mem} {x : Option R}
theorem K_get {idx ci k c fc : Nat} {fcs : List Nat} {v : Value} (hd : decode M.2.1 pc = .ok (.getfield idx, 3)) (hf : FL M.1 idx ci k) (hk : kd c = some (.inl (ci, fcs))) (hc : fcs[k]? = some fc) (hv : av (xs Ms c) c k fc = v) (kk : K G M E (pc + 3) lv (v :: st) Ms x) : K G M E pc lv (.ref c :: st) Ms x := sorry
theorem avs_set {f : Nat → Int32} {c : Nat} {fcs : List Nat} {k : Nat} {v : Int32} (h : fcs[k]? = some 0) (ad : Nat → Nat) : ((avs f c fcs).map (tv ad)).set k (.int v) = (avs (upd f k v) c fcs).map (tv ad) := sorry
/-- a number into a field; ty is .int, or .boolean where the number is known to be 0 or 1 -/
theorem K_put {idx ci k c : Nat} {fcs : List Nat} {v : Int32} {ty : FieldType} {Ms' : List Mem} (hd : decode M.2.1 pc = .ok (.putfield idx, 3)) (hf : FP M.1 idx ci k ty) (hk : kd c = some (.inl (ci, fcs))) (hc : fcs[k]? = some 0) (hn : narrow ty (.int v) = .int v) (hfit : fits ty (.int v) = true) (hlen : c / 1000 < Ms.length) (hM : setc Ms c (upd (xs Ms c) k v) = Ms') (kk : K G M E (pc + 3) lv st Ms' x) : K G M E pc lv (.int v :: .ref c :: st) Ms x := sorry
/-! arrays -/
theorem K_iald {c n : Nat} {i : Int32} {f : Nat → Int32} (hd : decode M.2.1 pc = .ok (.iaload, 1)) (hk : kd c = some (.inr (.inl (0, n)))) (hf : xs Ms c = f) (kk : K G M E (pc + 1) lv (.int (f i.toNatClampNeg) :: st) Ms x) : K G M E pc lv (.int i :: .ref c :: st) Ms (gd (inb i n) x) := sorry
theorem K_bald {c n : Nat} {i : Int32} {f : Nat → Int32} (hd : decode M.2.1 pc = .ok (.baload, 1)) (hk : kd c = some (.inr (.inl (1, n)))) (hf : xs Ms c = f) (kk : K G M E (pc + 1) lv (.int (f i.toNatClampNeg) :: st) Ms x) : K G M E pc lv (.int i :: .ref c :: st) Ms (gd (inb i n) x) := sorry
theorem K_zald {c n : Nat} {i : Int32} {f : Nat → Int32} (hd : decode M.2.1 pc = .ok (.baload, 1)) (hk : kd c = some (.inr (.inl (2, n)))) (hf : xs Ms c = f) (kk : K G M E (pc + 1) lv (.int (f i.toNatClampNeg) :: st) Ms x) : K G M E pc lv (.int i :: .ref c :: st) Ms (gd (inb i n) x) := sorry
theorem K_iast {c n : Nat} {i v : Int32} {Ms' : List Mem} (hd : decode M.2.1 pc = .ok (.iastore, 1)) (hk : kd c = some (.inr (.inl (0, n)))) (hlen : c / 1000 < Ms.length) (hM : setc Ms c (upd (xs Ms c) i.toNatClampNeg v) = Ms') (kk : K G M E (pc + 1) lv st Ms' x) : K G M E pc lv (.int v :: .int i :: .ref c :: st) Ms (gd (inb i n) x) := sorry
theorem K_bast {c n : Nat} {i v : Int32} {Ms' : List Mem} (hd : decode M.2.1 pc = .ok (.bastore, 1)) (hk : kd c = some (.inr (.inl (1, n)))) (hlen : c / 1000 < Ms.length) (hM : setc Ms c (upd (xs Ms c) i.toNatClampNeg (vp_nar .byte v)) = Ms') (kk : K G M E (pc + 1) lv st Ms' x) : K G M E pc lv (.int v :: .int i :: .ref c :: st) Ms (gd (inb i n) x) := sorry
theorem K_zast {c n : Nat} {i v : Int32} {Ms' : List Mem} (hd : decode M.2.1 pc = .ok (.bastore, 1)) (hk : kd c = some (.inr (.inl (2, n)))) (hlen : c / 1000 < Ms.length) (hM : setc Ms c (upd (xs Ms c) i.toNatClampNeg (vp_nar .boolean v)) = Ms') (kk : K G M E (pc + 1) lv st Ms' x) : K G M E pc lv (.int v :: .int i :: .ref c :: st) Ms (gd (inb i n) x) := sorry
theorem K_alen {c n t : Nat} {v : Int32} (hd : decode M.2.1 pc = .ok (.arraylength, 1)) (hk : kd c = some (.inr (.inl (t, n)))) (ht : t < 3) (hv : Int32.ofNat n = v) (kk : K G M E (pc + 1) lv (.int v :: st) Ms x) : K G M E pc lv (.ref c :: st) Ms x := sorry
theorem K_lcmp {a b : Int64} (hd : decode M.2.1 pc = .ok (.lcmp, 1)) (k : K G M E (pc + 1) lv (.int (lg_cmp a b) :: st) Ms x) : K G M E pc lv (.long b :: .long a :: st) Ms x := sorry
/-- names for what is computed -/
theorem K_nmi {a : Int32} {k : Int32 → Option R} (h : ∀ v : Int32, K G M E pc lv (.int v :: st) Ms (k v)) : K G M E pc lv (.int a :: st) Ms (nm a k) := sorry
theorem K_nml {a : Int64} {k : Int64 → Option R} (h : ∀ v : Int64, K G M E pc lv (.long v :: st) Ms (k v)) : K G M E pc lv (.long a :: st) Ms (nm a k) := sorry
theorem K_nmm (F : Mem → List Mem) {a : Mem} {k : Mem → Option R} (hM : F a = Ms) (h : ∀ v : Mem, K G M E pc lv st (F v) (k v)) : K G M E pc lv st Ms (nm a k) := sorry
/-- the method's end -/
theorem K_ret {r : R} {rv : Option Value} (hd : decode M.2.1 pc = .ok (rti rv, 1)) (hR : rok M.2.2.2.1 rv) (hE : E r = (rv, Ms)) (hst : rv.toList = st) : K G M E pc lv st Ms (some r) := sorry
theorem K_retB {r : R} {v : Int32} (hd : decode M.2.1 pc = .ok (.ireturn, 1)) (hR : M.2.2.2.1 = some .boolean) (hE : E r = (some (.int v), Ms)) : K G M E pc lv [.int v] Ms (gd (decide (v = 0 ∨ v = 1)) (some r)) := sorry
end HROWS
