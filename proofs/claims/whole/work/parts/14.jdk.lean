def f_J6_bitCount_0f7a4 (x0 : Int32) : Option (Int32) :=
  (nm (α := Int32) (x0 - (((x0.toUInt32 >>> ((1 : Int32).toUInt32 &&& Int32.toUInt32 31)).toInt32) &&& 1431655765)) (fun x11 => (nm (α := Int32) ((x11 &&& 858993459) + (((x11.toUInt32 >>> ((2 : Int32).toUInt32 &&& Int32.toUInt32 31)).toInt32) &&& 858993459)) (fun x12 => (nm (α := Int32) ((x12 + ((x12.toUInt32 >>> ((4 : Int32).toUInt32 &&& Int32.toUInt32 31)).toInt32)) &&& 252645135) (fun x13 => (nm (α := Int32) (x13 + ((x13.toUInt32 >>> ((8 : Int32).toUInt32 &&& Int32.toUInt32 31)).toInt32)) (fun x14 => (nm (α := Int32) (x14 + ((x14.toUInt32 >>> ((16 : Int32).toUInt32 &&& Int32.toUInt32 31)).toInt32)) (fun x15 => (some (x15 &&& 63))))))))))))
abbrev e_J6_bitCount_0f7a4 (Ms : List Mem) : Int32 → Option Value × List Mem := fun r => (some (.int r), Ms)
theorem k_J6_bitCount_0f7a4 {G : GE} (Ms : List Mem) (x0 : Int32) : K G (mi_J6_bitCount_0f7a4 1) (e_J6_bitCount_0f7a4 Ms) 0 [(0, .int x0)] [] Ms (f_J6_bitCount_0f7a4 x0) := sorry
theorem c_J6_bitCount_0f7a4 {G : GE} (hj : dj G) (Ms : List Mem) (x0 : Int32) {r : Int32} (hr : f_J6_bitCount_0f7a4 x0 = some r) : Ctr G yJ6_bitCount_0f7a4 (mi_J6_bitCount_0f7a4 1) [.int x0] Ms ((e_J6_bitCount_0f7a4 Ms) r).1 ((e_J6_bitCount_0f7a4 Ms) r).2 := sorry
def bitc (x : Int32) : Int32 := ((f_J6_bitCount_0f7a4 x).getD 0)
theorem bitc_ok (x : Int32) : f_J6_bitCount_0f7a4 x = some (bitc x) := sorry
section STK
variable {G : GE} {M : MI} {R : Type} {E : R → Option Value × List Mem} {pc : Nat} {lv : List (Nat × Value)} {st st' : List Value} {Ms : List Mem} {x y : Option R}
theorem K_st (h : st = st') (k : K G M E pc lv st' Ms x) : K G M E pc lv st Ms x := sorry
theorem K_x (h : x = y) (k : K G M E pc lv st Ms y) : K G M E pc lv st Ms x := sorry
theorem K_Ms {Ms' : List Mem} (h : Ms = Ms') (k : K G M E pc lv st Ms' x) : K G M E pc lv st Ms x := sorry
theorem gd_t {b : Bool} (h : b = true) : x = gd b x := sorry
end STK
/-! texts: length and charAt of the eleven words -/
def stl (i : Nat) : Int32 := Int32.ofNat (swL.getD i 0)
def stc (i j : Nat) : Int32 := (swB.getD i []).getD j 0
theorem stc_ok : ∀ i, i < 11 → ∀ j, j < 8 → (((stc i j &&& 255).toUInt32 % 65536).toInt32) = stc i j := sorry
theorem swL_ok : ∀ i, i < 11 → swL.getD i 0 ≤ 8 := sorry
section JDK
variable {G : GE}
theorem k_coder (Ms : List Mem) {i : Nat} (hi : i < 11) : K G (mi_J0_coder_7d493 1) (fun _ : Unit => (some (.int 0), Ms)) 0 [(0, .ref (20000 + i))] [] Ms (some ()) := sorry
theorem k_isLatin1 (Ms : List Mem) {i : Nat} (hi : i < 11) : K G (mi_J0_isLatin1_aae02 1) (fun _ : Unit => (some (.int 1), Ms)) 0 [(0, .ref (20000 + i))] [] Ms (some ()) := sorry
theorem k_length (Ms : List Mem) {i : Nat} (hi : i < 11) : K G (mi_J0_length_8abf5 2) (fun _ : Unit => (some (.int (stl i)), Ms)) 0 [(0, .ref (20000 + i))] [] Ms (some ()) := sorry
theorem k_pcheck (Ms : List Mem) {x0 x1 : Int32} {w : Value} (h0 : ¬ x0 < 0) (h1 : x0 < x1) : K G (mi_J3_checkIndex_8e157 1) (fun _ : Unit => (some (.int x0), Ms)) 0 [(0, .int x0), (1, .int x1), (2, w)] [] Ms (some ()) := sorry
theorem k_scheck (Ms : List Mem) {x0 x1 : Int32} (h0 : ¬ x0 < 0) (h1 : x0 < x1) : K G (mi_J0_checkIndex_df160 2) (fun _ : Unit => (none, Ms)) 0 [(0, .int x0), (1, .int x1)] [] Ms (some ()) := sorry
theorem inb_lt {j : Int32} {n : Nat} (hn : n ≤ 1000) (h : inb j n = true) : ¬ j < 0 ∧ j < Int32.ofNat n ∧ j.toNatClampNeg < n := sorry
theorem k_lchar (Ms : List Mem) {i : Nat} (hi : i < 11) {j : Int32} (hin : inb j (swL.getD i 0) = true) : K G (mi_J1_charAt_3b067 3) (fun _ : Unit => (some (.int (stc i j.toNatClampNeg)), Ms)) 0 [(0, .ref (21000 + i)), (1, .int j)] [] Ms (some ()) := sorry
theorem k_charAt (Ms : List Mem) {i : Nat} (hi : i < 11) {j : Int32} (hin : inb j (swL.getD i 0) = true) : K G (mi_J0_charAt_5068e 4) (fun _ : Unit => (some (.int (stc i j.toNatClampNeg)), Ms)) 0 [(0, .ref (20000 + i)), (1, .int j)] [] Ms (some ()) := sorry
variable {M : MI} {R : Type} {E : R → Option Value × List Mem} {pc : Nat} {lv : List (Nat × Value)} {st : List Value} {Ms : List Mem} {x : Option R}
theorem K_strlen {idx i : Nat} (hi : i < 11) (hd : decode M.2.1 pc = .ok (.invokevirtual idx, 3)) (hM : ML M.1 idx yJ0_length_8abf5) (hlev : 3 ≤ M.2.2.2.2) (hcat : (st.map fun v => v.category).sum ≤ 8) (k : K G M E (pc + 3) lv (.int (stl i) :: st) Ms x) : K G M E pc lv (.ref (20000 + i) :: st) Ms x := sorry
theorem K_charAt {idx i : Nat} {j : Int32} (hi : i < 11) (hd : decode M.2.1 pc = .ok (.invokevirtual idx, 3)) (hM : ML M.1 idx yJ0_charAt_5068e) (hlev : 5 ≤ M.2.2.2.2) (hcat : (st.map fun v => v.category).sum ≤ 8) (k : K G M E (pc + 3) lv (.int (stc i j.toNatClampNeg) :: st) Ms x) : K G M E pc lv (.int j :: .ref (20000 + i) :: st) Ms (gd (inb j (swL.getD i 0)) x) := sorry
/-! Arrays.fill -/
def fillf (n : Nat) (v : Int32) (f : Nat → Int32) : Nat → Int32 := fun j => if j < n then v else f j
theorem xs_setc {c : Nat} (hc : c / 1000 < Ms.length) (f : Nat → Int32) : xs (setc Ms c f) c = f := sorry
theorem setc_setc {c : Nat} (hc : c / 1000 < Ms.length) (f g : Nat → Int32) : setc (setc Ms c f) c g = setc Ms c g := sorry
theorem setc_len {c : Nat} (f : Nat → Int32) : (setc Ms c f).length = Ms.length := sorry
theorem setc_self {c : Nat} (hc : c / 1000 < Ms.length) : setc Ms c (xs Ms c) = Ms := sorry
theorem k_fill_L (Ms0 : List Mem) {c n : Nat} (hk : kd c = some (.inr (.inl (0, n)))) (hn : n < 2 ^ 31) (hlen : c / 1000 < Ms0.length) (v : Int32) : ∀ (t i : Nat), i + t = n → K G (mi_J7_fill_53178 1) (fun _ : Unit => (none, setc Ms0 c (fillf n v (xs Ms0 c)))) 5 [(0, .ref c), (1, .int v), (2, .int (nI i)), (3, .int (nI n))] [] (setc Ms0 c (fillf i v (xs Ms0 c))) (some ()) := sorry
theorem k_fill (Ms0 : List Mem) {c n : Nat} (hk : kd c = some (.inr (.inl (0, n)))) (hn : n < 2 ^ 31) (hlen : c / 1000 < Ms0.length) (v : Int32) : K G (mi_J7_fill_53178 1) (fun _ : Unit => (none, setc Ms0 c (fillf n v (xs Ms0 c)))) 0 [(0, .ref c), (1, .int v)] [] Ms0 (some ()) := sorry
theorem kd_small {c t n : Nat} (h : kd c = some (.inr (.inl (t, n)))) : n < 2 ^ 31 := sorry
theorem K_fill {idx c n : Nat} {v : Int32} {Ms' : List Mem} (hd : decode M.2.1 pc = .ok (.invokestatic idx, 3)) (hM : ML M.1 idx yJ7_fill_53178) (hlev : 2 ≤ M.2.2.2.2) (hcat : (st.map fun v => v.category).sum ≤ 8) (hk : kd c = some (.inr (.inl (0, n)))) (hlen : c / 1000 < Ms.length) (hMs : setc Ms c (fillf n v (xs Ms c)) = Ms') (k : K G M E (pc + 3) lv st Ms' x) : K G M E pc lv (.int v :: .ref c :: st) Ms x := sorry
/-! Integer.bitCount -/
theorem K_bitc {idx : Nat} {a : Int32} (hd : decode M.2.1 pc = .ok (.invokestatic idx, 3)) (hM : ML M.1 idx yJ6_bitCount_0f7a4) (hlev : 2 ≤ M.2.2.2.2) (hcat : (st.map fun v => v.category).sum ≤ 8) (k : K G M E (pc + 3) lv (.int (bitc a) :: st) Ms x) : K G M E pc lv (.int a :: st) Ms x := sorry
end JDK
