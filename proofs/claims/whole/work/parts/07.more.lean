section MROWS
variable {G : GE} {M : MI} {R : Type} {E : R → Option Value × List Mem} {pc : Nat} {lv : List (Nat × Value)} {st : List Value} {Ms : List Mem} {x : Option R}
/-! switches -/
theorem K_tabOut {dflt lo hi : Int} {offs : Array Int} {len : Nat} {a : Int32} (tgt : Nat) (hd : decode M.2.1 pc = .ok (.tableswitch dflt lo hi offs, len)) (h : a.toInt < lo ∨ hi < a.toInt) (ht : (pc : Int) + dflt = (tgt : Int)) (k : K G M E tgt lv st Ms x) : K G M E pc lv (.int a :: st) Ms x := by
  intro p e s m args below meth c Rm cells slots Q H locs ls r C hx hq hw hS hl
  exact lv_tableOut C.1 C.2.1 hd h ht (k p e s m args below meth c Rm cells slots Q H locs ls r C hx hq hw hS hl)
theorem K_tabIn {dflt lo hi off : Int} {offs : Array Int} {len : Nat} {a : Int32} (tgt : Nat) (hd : decode M.2.1 pc = .ok (.tableswitch dflt lo hi offs, len)) (h1 : ¬ a.toInt < lo) (h2 : ¬ hi < a.toInt) (ho : offs[(a.toInt - lo).toNat]? = some off) (ht : (pc : Int) + off = (tgt : Int)) (k : K G M E tgt lv st Ms x) : K G M E pc lv (.int a :: st) Ms x := by
  intro p e s m args below meth c Rm cells slots Q H locs ls r C hx hq hw hS hl
  exact lv_tableIn C.1 C.2.1 hd h1 h2 ho ht (k p e s m args below meth c Rm cells slots Q H locs ls r C hx hq hw hS hl)
theorem K_ite {c : Prop} [Decidable c] {y : Option R} (kt : c → K G M E pc lv st Ms x) (kf : ¬ c → K G M E pc lv st Ms y) : K G M E pc lv st Ms (if c then x else y) := by
  by_cases h : c
  · rw [if_pos h]; exact kt h
  · rw [if_neg h]; exact kf h
/-! Math -/
theorem lvl1 {M : MI} {Rm : Room} (h : 1 ≤ M.2.2.2.2) (h1 : M.2.2.2.2 ≤ Rm.frames) (h2 : 60 * M.2.2.2.2 ≤ Rm.locals) : 1 ≤ Rm.frames ∧ 60 ≤ Rm.locals := by omega
theorem K_max {idx : Nat} {a b : Int32} (hd : decode M.2.1 pc = .ok (.invokestatic idx, 3)) (hM : Cond.methodLink M.1 idx Lib.Math.max.name ∈ okl) (hS' : Cond.static Lib.Math.max.name ∈ okl) (hI : Cond.initialized "java/lang/Math" ∈ okl) (hC : Cond.code Lib.Math.max.name Lib.Math.max.code 2 (some .int) ∈ okl) (hlev : 1 ≤ M.2.2.2.2) (hcat : (st.map fun v => v.category).sum ≤ 8) (k : K G M E (pc + 3) lv (.int (if a < b then b else a) :: st) Ms x) : K G M E pc lv (.int b :: .int a :: st) Ms x := by
  intro p e s m args below meth c Rm cells slots Q H locs ls r C hx hq hw hS hl
  have hts := okl_at C.2.2.2.2.2.2.1 args
  have hl1 := lvl1 hlev C.2.2.2.2.2.2.2.2.2.1 C.2.2.2.2.2.2.2.2.2.2.1
  exact va_mmax C.1 C.2.1 (by rw [C.2.2.1]; exact hl.1.symm) C.2.2.2.2.2.1 (hts _ hM) (hts _ hS') (hts _ hI) (hts _ hC) hl1.1 (by rw [cat_tv]; omega) C.2.2.2.2.2.2.2.2.2.2.2.1 C.2.2.2.2.2.2.2.2.2.2.2.2 hd (k p e s m args below meth c Rm cells slots Q H locs ls r C hx hq hw hS hl)
theorem K_min {idx : Nat} {a b : Int32} (hd : decode M.2.1 pc = .ok (.invokestatic idx, 3)) (hM : Cond.methodLink M.1 idx Lib.Math.min.name ∈ okl) (hS' : Cond.static Lib.Math.min.name ∈ okl) (hI : Cond.initialized "java/lang/Math" ∈ okl) (hC : Cond.code Lib.Math.min.name Lib.Math.min.code 2 (some .int) ∈ okl) (hlev : 1 ≤ M.2.2.2.2) (hcat : (st.map fun v => v.category).sum ≤ 8) (k : K G M E (pc + 3) lv (.int (if b < a then b else a) :: st) Ms x) : K G M E pc lv (.int b :: .int a :: st) Ms x := by
  intro p e s m args below meth c Rm cells slots Q H locs ls r C hx hq hw hS hl
  have hts := okl_at C.2.2.2.2.2.2.1 args
  have hl1 := lvl1 hlev C.2.2.2.2.2.2.2.2.2.1 C.2.2.2.2.2.2.2.2.2.2.1
  exact va_mmin C.1 C.2.1 (by rw [C.2.2.1]; exact hl.1.symm) C.2.2.2.2.2.1 (hts _ hM) (hts _ hS') (hts _ hI) (hts _ hC) hl1.1 (by rw [cat_tv]; omega) C.2.2.2.2.2.2.2.2.2.2.2.1 C.2.2.2.2.2.2.2.2.2.2.2.2 hd (k p e s m args below meth c Rm cells slots Q H locs ls r C hx hq hw hS hl)
/-! System.arraycopy between arrays of ints -/
def cpok (sp dp n : Int32) (n0 n1 : Nat) : Bool := decide ((¬ sp < 0) ∧ (¬ dp < 0) ∧ (¬ n < 0) ∧ sp.toNatClampNeg + n.toNatClampNeg ≤ n0 ∧ dp.toNatClampNeg + n.toNatClampNeg ≤ n1)
theorem K_copy {idx c0 c1 n0 n1 : Nat} {sp dp n : Int32} {Ms' : List Mem} (hd : decode M.2.1 pc = .ok (.invokestatic idx, 3)) (hM : Cond.methodLink M.1 idx arraycopyName ∈ okl) (hN : Cond.native arraycopyName ∈ okl) (hS' : Cond.static arraycopyName ∈ okl) (hI : Cond.initialized "java/lang/System" ∈ okl) (hlev : 1 ≤ M.2.2.2.2) (hcat : (st.map fun v => v.category).sum ≤ 8)
    (hk0 : kd c0 = some (.inr (.inl (0, n0)))) (hk1 : kd c1 = some (.inr (.inl (0, n1)))) (hlen : c1 / 1000 < Ms.length) (hMs : setc Ms c1 (va_cpy (xs Ms c0) (xs Ms c1) sp.toNatClampNeg dp.toNatClampNeg n.toNatClampNeg) = Ms') (k : K G M E (pc + 3) lv st Ms' x) : K G M E pc lv (.int n :: .int dp :: .ref c1 :: .int sp :: .ref c0 :: st) Ms (gd (cpok sp dp n n0 n1) x) := by
  intro p e s m args below meth c Rm cells slots Q H locs ls r C hx hq hw hS hl
  subst hMs
  obtain ⟨hg, hx⟩ := gd_some hx
  obtain ⟨g1, g2, g3, g4, g5⟩ := of_decide_eq_true hg
  have hts := okl_at C.2.2.2.2.2.2.1 args
  have hl1 := lvl1 hlev C.2.2.2.2.2.2.2.2.2.1 C.2.2.2.2.2.2.2.2.2.2.1
  obtain ⟨q0, -, a0⟩ := wl_at (G := G) (Ms := Ms) hk0
  obtain ⟨q1, e1, a1⟩ := wl_at (G := G) (Ms := Ms) hk1
  refine va_copyi (ty := .int) C.1 C.2.1 (by rw [C.2.2.1]; exact hl.1.symm) C.2.2.2.2.2.1 (hts _ hM) (hts _ hN) (hts _ hS') (hts _ hI) C.2.2.2.2.2.2.1.2.1 (wl_P hw) (wl_D C.2.2.2.2.2.2.2.2.1) hS q0 q1 0 0 a0 a1 rfl rfl rfl g1 g2 g3 g4 g5 (fun _ _ => rfl) hl1.1 ?_ hd (fun H1 locs1 hP1 _ hS1 => k p e s m args below meth c Rm cells slots Q H1 locs1 ls r C hx hq (wl_set e1 hk1 hlen hP1) hS1 hl)
  rw [cat_tv]
  have : nativeFrameWords "java/lang/System" "arraycopy" 5 = 7 := by decide
  omega
/-! static arrays -/
def SL (own : String) (idx i : Nat) : Prop := i < 3 ∧ (Cond.fieldLink own idx RX7 (stN.getD i "") "[I" ∈ okl ∨ ∃ host, Cond.fieldLinkNest own idx RX7 (stN.getD i "") "[I" host ∈ okl)
theorem K_gets {idx i : Nat} (hd : decode M.2.1 pc = .ok (.getstatic idx, 3)) (hf : SL M.1 idx i) (k : K G M E (pc + 3) lv (.ref (22000 + i) :: st) Ms x) : K G M E pc lv st Ms x := by
  intro p e s m args below meth c Rm cells slots Q H locs ls r C hx hq hw hS hl
  have hts := okl_at C.2.2.2.2.2.2.1 args
  have hZ := (C.2.2.2.2.2.2.1.2.2.1 i hf.1).1
  rcases hf.2 with h | ⟨host, h⟩
  · exact va_gets C.1 C.2.1 hZ hS C.2.2.2.2.2.1 (hts _ h) (fun _ q => q) hd (k p e s m args below meth c Rm cells slots Q H locs ls r C hx hq hw hS hl)
  · exact va_getsN C.1 C.2.1 hZ hS C.2.2.2.2.2.1 (hts _ h) (fun _ q => q) hd (k p e s m args below meth c Rm cells slots Q H locs ls r C hx hq hw hS hl)
/-- what a static array holds -/
def sta (i : Nat) (j : Nat) : Int32 := (stV.getD i []).getD j 0
theorem K_tald {i : Nat} {j : Int32} (hi : i < 3) (hd : decode M.2.1 pc = .ok (.iaload, 1)) (k : K G M E (pc + 1) lv (.int (sta i j.toNatClampNeg) :: st) Ms x) : K G M E pc lv (.int j :: .ref (22000 + i) :: st) Ms (gd (inb j 6) x) := by
  intro p e s m args below meth c Rm cells slots Q H locs ls r C hx hq hw hS hl
  obtain ⟨h1, hx⟩ := gd_some hx
  exact va_ti C.1 C.2.1 (C.2.2.2.2.2.2.1.2.2.1 i hi).2 hS (inb_in h1) rfl hd (k p e s m args below meth c Rm cells slots Q H locs ls r C hx hq hw hS hl)
theorem K_tlen {i : Nat} (hi : i < 3) (hd : decode M.2.1 pc = .ok (.arraylength, 1)) (k : K G M E (pc + 1) lv (.int 6 :: st) Ms x) : K G M E pc lv (.ref (22000 + i) :: st) Ms x := by
  intro p e s m args below meth c Rm cells slots Q H locs ls r C hx hq hw hS hl
  exact va_tlen C.1 C.2.1 (C.2.2.2.2.2.2.1.2.2.1 i hi).2 hS rfl hd (k p e s m args below meth c Rm cells slots Q H locs ls r C hx hq hw hS hl)
/-! arrays of references -/
theorem K_aald {c t n b sp : Nat} {i : Int32} (hd : decode M.2.1 pc = .ok (.aaload, 1)) (hk : kd c = some (.inr (.inr (t, n, b, sp)))) (ht : t = 3 ∨ t = 4) (kk : inb i n = true → K G M E (pc + 1) lv (.ref (b + sp * i.toNatClampNeg) :: st) Ms x) : K G M E pc lv (.int i :: .ref c :: st) Ms (gd (inb i n) x) := by
  intro p e s m args below meth cd Rm cells slots Q H locs ls r C hx hq hw hS hl
  obtain ⟨h1, hx⟩ := gd_some hx
  have hin := inb_in h1
  have hlt : i.toNatClampNeg < n := Nat.not_le.mp fun q => hin (Or.inr q)
  obtain ⟨q, -, h2⟩ := wl_at (G := G) (Ms := Ms) hk
  have go := kk h1 p e s m args below meth cd Rm cells slots Q H locs ls r C hx hq hw hS hl
  have hval : va_rf ((fun j => if j < n then some (gA G (b + sp * j)) else none) i.toNatClampNeg) = tv (gA G) (.ref (b + sp * i.toNatClampNeg)) := by simp [hlt, va_rf, tv]
  have hKK := C.2.2.2.2.2.2.1.2.1
  rcases ht with rfl | rfl
  · refine W.aald (v := va_rf ((fun j => if j < n then some (gA G (b + sp * j)) else none) i.toNatClampNeg)) (ty := .object RX3) C.1 C.2.1 (wl_P hw q _ h2) ((hKK.2 3 _ rfl).1 n (fun j => va_rf ((fun j => if j < n then some (gA G (b + sp * j)) else none) j))) rfl (fun q => by cases q) (by show ¬ (i < 0 ∨ (arrV _ _ _).slots.size ≤ _); rw [arrV_size]; exact hin) (by show (arrV _ _ _).slots[_]? = _; rw [arrV_read _ _ hlt]) rfl rfl hd ?_
    rw [hval]
    exact go
  · refine W.aald (v := va_rf ((fun j => if j < n then some (gA G (b + sp * j)) else none) i.toNatClampNeg)) (ty := .array .int) C.1 C.2.1 (wl_P hw q _ h2) ((hKK.2 4 _ rfl).1 n (fun j => va_rf ((fun j => if j < n then some (gA G (b + sp * j)) else none) j))) rfl (fun q => by cases q) (by show ¬ (i < 0 ∨ (arrV _ _ _).slots.size ≤ _); rw [arrV_size]; exact hin) (by show (arrV _ _ _).slots[_]? = _; rw [arrV_read _ _ hlt]) rfl rfl hd ?_
    rw [hval]
    exact go
/-! texts -/
theorem K_ldcS {i idx : Nat} (hi : i < 11) (hd : decode M.2.1 pc = .ok (.ldc idx, 2)) (hown : M.1 = RX5) (hidx : swK.getD i 0 = idx) (k : K G M E (pc + 2) lv (.ref (20000 + i) :: st) Ms x) : K G M E pc lv st Ms x := by
  intro p e s m args below meth c Rm cells slots Q H locs ls r C hx hq hw hS hl
  subst hidx
  have h5 := C.2.2.2.2.2.2.1.2.2.2.2.1 i hi
  have ho := C.2.2.2.2.2.1
  rw [hown] at ho
  exact va_ldcS C.1 C.2.1 ho h5 hd (k p e s m args below meth c Rm cells slots Q H locs ls r C hx hq hw hS hl)
theorem K_getSv {i idx : Nat} (hi : i < 11) (hd : decode M.2.1 pc = .ok (.getfield idx, 3)) (hf : Cond.fieldLink M.1 idx RJ0 "value" "[B" ∈ okl) (k : K G M E (pc + 3) lv (.ref (21000 + i) :: st) Ms x) : K G M E pc lv (.ref (20000 + i) :: st) Ms x := by
  intro p e s m args below meth c Rm cells slots Q H locs ls r C hx hq hw hS hl
  have hts := okl_at C.2.2.2.2.2.2.1 args
  exact vk_getf C.1 C.2.1 (C.2.2.2.2.2.2.1.2.2.2.1.1 i hi).2.2.1 hS C.2.2.2.2.2.1 (hts _ hf) (fun _ q => q) hd (k p e s m args below meth c Rm cells slots Q H locs ls r C hx hq hw hS hl)
theorem K_getSc {i idx : Nat} (hi : i < 11) (hd : decode M.2.1 pc = .ok (.getfield idx, 3)) (hf : Cond.fieldLink M.1 idx RJ0 "coder" "B" ∈ okl) (k : K G M E (pc + 3) lv (.int 0 :: st) Ms x) : K G M E pc lv (.ref (20000 + i) :: st) Ms x := by
  intro p e s m args below meth c Rm cells slots Q H locs ls r C hx hq hw hS hl
  have hts := okl_at C.2.2.2.2.2.2.1 args
  exact vk_getf C.1 C.2.1 (C.2.2.2.2.2.2.1.2.2.2.1.1 i hi).2.1 hS C.2.2.2.2.2.1 (hts _ hf) (fun _ q => q) hd (k p e s m args below meth c Rm cells slots Q H locs ls r C hx hq hw hS hl)
theorem K_slen {i : Nat} {v : Int32} (hi : i < 11) (hd : decode M.2.1 pc = .ok (.arraylength, 1)) (hv : Int32.ofNat (swL.getD i 0) = v) (k : K G M E (pc + 1) lv (.int v :: st) Ms x) : K G M E pc lv (.ref (21000 + i) :: st) Ms x := by
  intro p e s m args below meth c Rm cells slots Q H locs ls r C hx hq hw hS hl
  exact va_tlen C.1 C.2.1 (C.2.2.2.2.2.2.1.2.2.2.1.1 i hi).2.2.2 hS hv hd (k p e s m args below meth c Rm cells slots Q H locs ls r C hx hq hw hS hl)
theorem K_sbld {i : Nat} {j : Int32} (hi : i < 11) (hin : inb j (swL.getD i 0) = true) (hd : decode M.2.1 pc = .ok (.baload, 1)) (k : K G M E (pc + 1) lv (.int ((swB.getD i []).getD j.toNatClampNeg 0) :: st) Ms x) : K G M E pc lv (.int j :: .ref (21000 + i) :: st) Ms x := by
  intro p e s m args below meth c Rm cells slots Q H locs ls r C hx hq hw hS hl
  exact va_tb C.1 C.2.1 (C.2.2.2.2.2.2.1.2.2.2.1.1 i hi).2.2.2 hS (inb_in hin) rfl hd (k p e s m args below meth c Rm cells slots Q H locs ls r C hx hq hw hS hl)
theorem K_getsCS {idx : Nat} (hd : decode M.2.1 pc = .ok (.getstatic idx, 3)) (hf : Cond.fieldLink M.1 idx RJ0 "COMPACT_STRINGS" "Z" ∈ okl) (k : K G M E (pc + 3) lv (.int 1 :: st) Ms x) : K G M E pc lv st Ms x := by
  intro p e s m args below meth c Rm cells slots Q H locs ls r C hx hq hw hS hl
  have hts := okl_at C.2.2.2.2.2.2.1 args
  exact va_gets C.1 C.2.1 C.2.2.2.2.2.2.1.2.2.2.2.2.1 hS C.2.2.2.2.2.1 (hts _ hf) (fun _ q => q) hd (k p e s m args below meth c Rm cells slots Q H locs ls r C hx hq hw hS hl)
theorem K_getsQ {idx : Nat} (hd : decode M.2.1 pc = .ok (.getstatic idx, 3)) (hf : Cond.fieldLink M.1 idx RJ3 "SIOOBE_FORMATTER" "Ljava/util/function/BiFunction;" ∈ okl) (k : ∀ v, v = Value.null ∨ v = .ref 24000 → K G M E (pc + 3) lv (v :: st) Ms x) : K G M E pc lv st Ms x := by
  intro p e s m args below meth c Rm cells slots Q H locs ls r C hx hq hw hS hl
  have hts := okl_at C.2.2.2.2.2.2.1 args
  rcases C.2.2.2.2.2.2.1.2.2.2.2.2.2.1 with hz | hz
  · exact va_gets C.1 C.2.1 hz hS C.2.2.2.2.2.1 (hts _ hf) (fun _ q => q) hd (k _ (Or.inl rfl) p e s m args below meth c Rm cells slots Q H locs ls r C hx hq hw hS hl)
  · exact va_gets C.1 C.2.1 hz hS C.2.2.2.2.2.1 (hts _ hf) (fun _ q => q) hd (k _ (Or.inr rfl) p e s m args below meth c Rm cells slots Q H locs ls r C hx hq hw hS hl)
/-! the script -/
theorem K_sld {j : Int32} (hd : decode M.2.1 pc = .ok (.iaload, 1)) (k : K G M E (pc + 1) lv (.int (G.2.2.2.2.2.2 j.toNatClampNeg) :: st) Ms x) : K G M E pc lv (.int j :: .ref 23000 :: st) Ms (gd (inb j G.2.2.2.2.2.1) x) := by
  intro p e s m args below meth c Rm cells slots Q H locs ls r C hx hq hw hS hl
  obtain ⟨h1, hx⟩ := gd_some hx
  have hX := C.2.2.2.2.2.2.1.2.2.2.2.2.2.2
  exact va_sld C.1 C.2.1 hX.1 hX.2.2 hX.2.1 hS (inb_in h1) hd (k p e s m args below meth c Rm cells slots Q H locs ls r C hx hq hw hS hl)
theorem K_slenX (hd : decode M.2.1 pc = .ok (.arraylength, 1)) (k : K G M E (pc + 1) lv (.int (Int32.ofNat G.2.2.2.2.2.1) :: st) Ms x) : K G M E pc lv (.ref 23000 :: st) Ms x := by
  intro p e s m args below meth c Rm cells slots Q H locs ls r C hx hq hw hS hl
  have hX := C.2.2.2.2.2.2.1.2.2.2.2.2.2.2
  exact va_slen C.1 C.2.1 hX.1 hX.2.2 hX.2.1 hS hd (k p e s m args below meth c Rm cells slots Q H locs ls r C hx hq hw hS hl)
end MROWS
