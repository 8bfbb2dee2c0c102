def f_J6_bitCount_0f7a4 (x0 : Int32) : Option (Int32) :=
  (nm (α := Int32) (x0 - (((x0.toUInt32 >>> ((1 : Int32).toUInt32 &&& Int32.toUInt32 31)).toInt32) &&& 1431655765)) (fun x11 => (nm (α := Int32) ((x11 &&& 858993459) + (((x11.toUInt32 >>> ((2 : Int32).toUInt32 &&& Int32.toUInt32 31)).toInt32) &&& 858993459)) (fun x12 => (nm (α := Int32) ((x12 + ((x12.toUInt32 >>> ((4 : Int32).toUInt32 &&& Int32.toUInt32 31)).toInt32)) &&& 252645135) (fun x13 => (nm (α := Int32) (x13 + ((x13.toUInt32 >>> ((8 : Int32).toUInt32 &&& Int32.toUInt32 31)).toInt32)) (fun x14 => (nm (α := Int32) (x14 + ((x14.toUInt32 >>> ((16 : Int32).toUInt32 &&& Int32.toUInt32 31)).toInt32)) (fun x15 => (some (x15 &&& 63))))))))))))
abbrev e_J6_bitCount_0f7a4 (Ms : List Mem) : Int32 → Option Value × List Mem := fun r => (some (.int r), Ms)
theorem k_J6_bitCount_0f7a4 {G : GE} (Ms : List Mem) (x0 : Int32) : K G (mi_J6_bitCount_0f7a4 1) (e_J6_bitCount_0f7a4 Ms) 0 [(0, .int x0)] [] Ms (f_J6_bitCount_0f7a4 x0) := by
  unfold f_J6_bitCount_0f7a4
  refine K_iload_n 0 dJ6_bitCount_0f7a4_0 rfl ?_
  refine K_iload_n 0 dJ6_bitCount_0f7a4_1 rfl ?_
  refine K_iconst (v := 1) dJ6_bitCount_0f7a4_2 (by decide) ?_
  refine K_iushr dJ6_bitCount_0f7a4_3 ?_
  refine K_ldcw (v := 1431655765) dJ6_bitCount_0f7a4_4 cst_J6_265 ?_
  refine K_iand dJ6_bitCount_0f7a4_7 ?_
  refine K_isub dJ6_bitCount_0f7a4_8 ?_
  refine K_nmi (fun x11 => ?_)
  refine K_istore_n (lv' := [(0, .int x11)]) dJ6_bitCount_0f7a4_9 (by decide) rfl ?_
  refine K_iload_n 0 dJ6_bitCount_0f7a4_10 rfl ?_
  refine K_ldcw (v := 858993459) dJ6_bitCount_0f7a4_11 cst_J6_266 ?_
  refine K_iand dJ6_bitCount_0f7a4_14 ?_
  refine K_iload_n 0 dJ6_bitCount_0f7a4_15 rfl ?_
  refine K_iconst (v := 2) dJ6_bitCount_0f7a4_16 (by decide) ?_
  refine K_iushr dJ6_bitCount_0f7a4_17 ?_
  refine K_ldcw (v := 858993459) dJ6_bitCount_0f7a4_18 cst_J6_266 ?_
  refine K_iand dJ6_bitCount_0f7a4_21 ?_
  refine K_iadd dJ6_bitCount_0f7a4_22 ?_
  refine K_nmi (fun x12 => ?_)
  refine K_istore_n (lv' := [(0, .int x12)]) dJ6_bitCount_0f7a4_23 (by decide) rfl ?_
  refine K_iload_n 0 dJ6_bitCount_0f7a4_24 rfl ?_
  refine K_iload_n 0 dJ6_bitCount_0f7a4_25 rfl ?_
  refine K_iconst (v := 4) dJ6_bitCount_0f7a4_26 (by decide) ?_
  refine K_iushr dJ6_bitCount_0f7a4_27 ?_
  refine K_iadd dJ6_bitCount_0f7a4_28 ?_
  refine K_ldcw (v := 252645135) dJ6_bitCount_0f7a4_29 cst_J6_267 ?_
  refine K_iand dJ6_bitCount_0f7a4_32 ?_
  refine K_nmi (fun x13 => ?_)
  refine K_istore_n (lv' := [(0, .int x13)]) dJ6_bitCount_0f7a4_33 (by decide) rfl ?_
  refine K_iload_n 0 dJ6_bitCount_0f7a4_34 rfl ?_
  refine K_iload_n 0 dJ6_bitCount_0f7a4_35 rfl ?_
  refine K_bipush (v := 8) dJ6_bitCount_0f7a4_36 (by decide) ?_
  refine K_iushr dJ6_bitCount_0f7a4_38 ?_
  refine K_iadd dJ6_bitCount_0f7a4_39 ?_
  refine K_nmi (fun x14 => ?_)
  refine K_istore_n (lv' := [(0, .int x14)]) dJ6_bitCount_0f7a4_40 (by decide) rfl ?_
  refine K_iload_n 0 dJ6_bitCount_0f7a4_41 rfl ?_
  refine K_iload_n 0 dJ6_bitCount_0f7a4_42 rfl ?_
  refine K_bipush (v := 16) dJ6_bitCount_0f7a4_43 (by decide) ?_
  refine K_iushr dJ6_bitCount_0f7a4_45 ?_
  refine K_iadd dJ6_bitCount_0f7a4_46 ?_
  refine K_nmi (fun x15 => ?_)
  refine K_istore_n (lv' := [(0, .int x15)]) dJ6_bitCount_0f7a4_47 (by decide) rfl ?_
  refine K_iload_n 0 dJ6_bitCount_0f7a4_48 rfl ?_
  refine K_bipush (v := 63) dJ6_bitCount_0f7a4_49 (by decide) ?_
  refine K_iand dJ6_bitCount_0f7a4_51 ?_
  exact K_ret (rv := some (.int (x15 &&& 63))) dJ6_bitCount_0f7a4_52 rfl rfl rfl
theorem c_J6_bitCount_0f7a4 {G : GE} (hj : dj G) (Ms : List Mem) (x0 : Int32) {r : Int32} (hr : f_J6_bitCount_0f7a4 x0 = some r) : Ctr G yJ6_bitCount_0f7a4 (mi_J6_bitCount_0f7a4 1) [.int x0] Ms ((e_J6_bitCount_0f7a4 Ms) r).1 ((e_J6_bitCount_0f7a4 Ms) r).2 := Ctr_of hj (by decide) rfl hr rfl (Nat.le_of_ble_eq_true rfl) (k_J6_bitCount_0f7a4 Ms x0)
def bitc (x : Int32) : Int32 := ((f_J6_bitCount_0f7a4 x).getD 0)
theorem bitc_ok (x : Int32) : f_J6_bitCount_0f7a4 x = some (bitc x) := rfl
section STK
variable {G : GE} {M : MI} {R : Type} {E : R → Option Value × List Mem} {pc : Nat} {lv : List (Nat × Value)} {st st' : List Value} {Ms : List Mem} {x y : Option R}
theorem K_st (h : st = st') (k : K G M E pc lv st' Ms x) : K G M E pc lv st Ms x := h ▸ k
theorem K_x (h : x = y) (k : K G M E pc lv st Ms y) : K G M E pc lv st Ms x := h ▸ k
theorem K_Ms {Ms' : List Mem} (h : Ms = Ms') (k : K G M E pc lv st Ms' x) : K G M E pc lv st Ms x := h ▸ k
theorem gd_t {b : Bool} (h : b = true) : x = gd b x := by rw [h]; rfl
end STK
/-! texts: length and charAt of the eleven words -/
def stl (i : Nat) : Int32 := Int32.ofNat (swL.getD i 0)
def stc (i j : Nat) : Int32 := (swB.getD i []).getD j 0
theorem stc_ok : ∀ i, i < 11 → ∀ j, j < 8 → (((stc i j &&& 255).toUInt32 % 65536).toInt32) = stc i j := by decide +kernel
theorem swL_ok : ∀ i, i < 11 → swL.getD i 0 ≤ 8 := by decide +kernel
section JDK
variable {G : GE}
theorem k_coder (Ms : List Mem) {i : Nat} (hi : i < 11) : K G (mi_J0_coder_7d493 1) (fun _ : Unit => (some (.int 0), Ms)) 0 [(0, .ref (20000 + i))] [] Ms (some ()) := by
  refine K_getsCS dJ0_coder_7d493_0 tk_494 ?_
  refine K_x (y := if (1 : Int32) = 0 then none else some ()) rfl ?_
  refine K_if_eq 13 dJ0_coder_7d493_3 rfl (fun h => absurd h (by decide)) (fun _ => ?_)
  refine K_aload_n 0 dJ0_coder_7d493_6 rfl ?_
  refine K_getSc hi dJ0_coder_7d493_7 tk_1419 ?_
  refine K_goto 14 dJ0_coder_7d493_10 rfl ?_
  exact K_ret (rv := some (.int 0)) dJ0_coder_7d493_14 rfl rfl rfl
theorem k_isLatin1 (Ms : List Mem) {i : Nat} (hi : i < 11) : K G (mi_J0_isLatin1_aae02 1) (fun _ : Unit => (some (.int 1), Ms)) 0 [(0, .ref (20000 + i))] [] Ms (some ()) := by
  refine K_getsCS dJ0_isLatin1_aae02_0 tk_494 ?_
  refine K_x (y := if (1 : Int32) = 0 then none else some ()) rfl ?_
  refine K_if_eq 17 dJ0_isLatin1_aae02_3 rfl (fun h => absurd h (by decide)) (fun _ => ?_)
  refine K_aload_n 0 dJ0_isLatin1_aae02_6 rfl ?_
  refine K_getSc hi dJ0_isLatin1_aae02_7 tk_1419 ?_
  refine K_x (y := if (0 : Int32) = 0 then some () else none) rfl ?_
  refine K_if_ne 17 dJ0_isLatin1_aae02_10 rfl (fun h => absurd rfl h) (fun _ => ?_)
  refine K_iconst (v := 1) dJ0_isLatin1_aae02_13 (by decide) ?_
  refine K_goto 18 dJ0_isLatin1_aae02_14 rfl ?_
  exact K_ret (rv := some (.int 1)) dJ0_isLatin1_aae02_18 rfl rfl rfl
theorem k_length (Ms : List Mem) {i : Nat} (hi : i < 11) : K G (mi_J0_length_8abf5 2) (fun _ : Unit => (some (.int (stl i)), Ms)) 0 [(0, .ref (20000 + i))] [] Ms (some ()) := by
  refine K_aload_n 0 dJ0_length_8abf5_0 rfl ?_
  refine K_getSv hi dJ0_length_8abf5_1 tk_1418 ?_
  refine K_slen (v := stl i) hi dJ0_length_8abf5_4 rfl ?_
  refine K_aload_n 0 dJ0_length_8abf5_5 rfl ?_
  refine K_x (y := (some ()).bind (fun _ => some ())) rfl ?_
  refine K_callV (E' := fun _ : Unit => (some (.int 0), Ms)) (b := 20000 + i) (As := []) (rest := [.int (stl i)]) dJ0_length_8abf5_6 ml_J0_335 (mf_J0_coder_7d493 1) mv_J0_coder_7d493 (fun hj r hr => Ctr_of (E := fun _ : Unit => (some (.int 0), Ms)) hj (by decide) rfl hr rfl (Nat.le_of_ble_eq_true rfl) (k_coder Ms hi)) (rcv_str hi) rfl rfl (Nat.le_of_ble_eq_true rfl) (Nat.le_of_ble_eq_true rfl) (fun r => ?_)
  refine K_ishr dJ0_length_8abf5_9 ?_
  refine K_st (st' := [.int (stl i)]) (by rw [sb_shr0]) ?_
  exact K_ret (rv := some (.int (stl i))) dJ0_length_8abf5_10 rfl rfl rfl
theorem k_pcheck (Ms : List Mem) {x0 x1 : Int32} {w : Value} (h0 : ¬ x0 < 0) (h1 : x0 < x1) : K G (mi_J3_checkIndex_8e157 1) (fun _ : Unit => (some (.int x0), Ms)) 0 [(0, .int x0), (1, .int x1), (2, w)] [] Ms (some ()) := by
  refine K_iload_n 0 dJ3_checkIndex_8e157_0 rfl ?_
  refine K_x (y := if x0 < 0 then none else some ()) (by rw [if_neg h0]) ?_
  refine K_if_lt 9 dJ3_checkIndex_8e157_1 rfl (fun h => absurd h h0) (fun _ => ?_)
  refine K_iload_n 0 dJ3_checkIndex_8e157_4 rfl ?_
  refine K_iload_n 1 dJ3_checkIndex_8e157_5 rfl ?_
  refine K_x (y := if x0 < x1 then some () else none) (by rw [if_pos h1]) ?_
  refine K_icmp_lt 16 dJ3_checkIndex_8e157_6 rfl (fun _ => ?_) (fun h => absurd h1 h)
  refine K_iload_n 0 dJ3_checkIndex_8e157_16 rfl ?_
  exact K_ret (rv := some (.int x0)) dJ3_checkIndex_8e157_17 rfl rfl rfl
theorem k_scheck (Ms : List Mem) {x0 x1 : Int32} (h0 : ¬ x0 < 0) (h1 : x0 < x1) : K G (mi_J0_checkIndex_df160 2) (fun _ : Unit => (none, Ms)) 0 [(0, .int x0), (1, .int x1)] [] Ms (some ()) := by
  refine K_iload_n 0 dJ0_checkIndex_df160_0 rfl ?_
  refine K_iload_n 1 dJ0_checkIndex_df160_1 rfl ?_
  refine K_getsQ dJ0_checkIndex_df160_2 tk_510 (fun w hw => ?_)
  refine K_x (y := (some ()).bind (fun _ => some ())) rfl ?_
  refine K_callS (E' := fun _ : Unit => (some (.int x0), Ms)) (As := [.int x0, .int x1, w]) (rest := []) dJ0_checkIndex_df160_5 ml_J0_1059 (mf_J3_checkIndex_8e157 1) ms_J3_checkIndex_8e157 (fun hj r hr => Ctr_of (E := fun _ : Unit => (some (.int x0), Ms)) hj (by decide) rfl hr (by rcases hw with rfl | rfl <;> rfl) (by rcases hw with rfl | rfl <;> exact Nat.le_of_ble_eq_true rfl) (k_pcheck Ms (w := w) h0 h1)) rfl rfl (Nat.le_of_ble_eq_true rfl) (Nat.le_of_ble_eq_true rfl) (fun r => ?_)
  refine K_pop dJ0_checkIndex_df160_8 rfl ?_
  exact K_ret (rv := none) dJ0_checkIndex_df160_9 trivial rfl rfl
theorem inb_lt {j : Int32} {n : Nat} (hn : n ≤ 1000) (h : inb j n = true) : ¬ j < 0 ∧ j < Int32.ofNat n ∧ j.toNatClampNeg < n := by
  have hin := inb_in h
  obtain ⟨a, ha, e⟩ := vp_in_of hin (by omega)
  have h1 : ¬ j < 0 := fun q => hin (Or.inl q)
  refine ⟨h1, ?_, Nat.not_le.mp fun q => hin (Or.inr q)⟩
  rw [e]
  exact nI_lt ha (by omega)
theorem k_lchar (Ms : List Mem) {i : Nat} (hi : i < 11) {j : Int32} (hin : inb j (swL.getD i 0) = true) : K G (mi_J1_charAt_3b067 3) (fun _ : Unit => (some (.int (stc i j.toNatClampNeg)), Ms)) 0 [(0, .ref (21000 + i)), (1, .int j)] [] Ms (some ()) := by
  have hl := inb_lt (Nat.le_trans (swL_ok i hi) (by omega)) hin
  refine K_iload_n 1 dJ1_charAt_3b067_0 rfl ?_
  refine K_aload_n 0 dJ1_charAt_3b067_1 rfl ?_
  refine K_slen (v := stl i) hi dJ1_charAt_3b067_2 rfl ?_
  refine K_x (y := (some ()).bind (fun _ => some ())) rfl ?_
  refine K_callS (E' := fun _ : Unit => (none, Ms)) (As := [.int j, .int (stl i)]) (rest := []) dJ1_charAt_3b067_3 ml_J1_9 (mf_J0_checkIndex_df160 2) ms_J0_checkIndex_df160 (fun hj r hr => Ctr_of (E := fun _ : Unit => (none, Ms)) hj (by decide) rfl hr rfl (Nat.le_of_ble_eq_true rfl) (k_scheck Ms hl.1 hl.2.1)) rfl rfl (Nat.le_of_ble_eq_true rfl) (Nat.le_of_ble_eq_true rfl) (fun r => ?_)
  refine K_aload_n 0 dJ1_charAt_3b067_6 rfl ?_
  refine K_iload_n 1 dJ1_charAt_3b067_7 rfl ?_
  refine K_sbld hi hin dJ1_charAt_3b067_8 ?_
  refine K_sipush (v := 255) dJ1_charAt_3b067_9 (by decide) ?_
  refine K_iand dJ1_charAt_3b067_12 ?_
  refine K_i2c dJ1_charAt_3b067_13 ?_
  have e := stc_ok i hi j.toNatClampNeg (Nat.lt_of_lt_of_le hl.2.2 (swL_ok i hi))
  refine K_st (st' := [.int (stc i j.toNatClampNeg)]) (by rw [← e]; rfl) ?_
  refine K_ret (rv := some (.int (stc i j.toNatClampNeg))) dJ1_charAt_3b067_14 ?_ rfl rfl
  show narrow .char (.int (stc i j.toNatClampNeg)) = .int (stc i j.toNatClampNeg)
  rw [← e]
  exact pk_nc _
theorem k_charAt (Ms : List Mem) {i : Nat} (hi : i < 11) {j : Int32} (hin : inb j (swL.getD i 0) = true) : K G (mi_J0_charAt_5068e 4) (fun _ : Unit => (some (.int (stc i j.toNatClampNeg)), Ms)) 0 [(0, .ref (20000 + i)), (1, .int j)] [] Ms (some ()) := by
  have hl := inb_lt (Nat.le_trans (swL_ok i hi) (by omega)) hin
  refine K_aload_n 0 dJ0_charAt_5068e_0 rfl ?_
  refine K_x (y := (some ()).bind (fun _ => some ())) rfl ?_
  refine K_callV (E' := fun _ : Unit => (some (.int 1), Ms)) (b := 20000 + i) (As := []) (rest := []) dJ0_charAt_5068e_1 ml_J0_492 (mf_J0_isLatin1_aae02 1) mv_J0_isLatin1_aae02 (fun hj r hr => Ctr_of (E := fun _ : Unit => (some (.int 1), Ms)) hj (by decide) rfl hr rfl (Nat.le_of_ble_eq_true rfl) (k_isLatin1 Ms hi)) (rcv_str hi) rfl rfl (Nat.le_of_ble_eq_true rfl) (Nat.le_of_ble_eq_true rfl) (fun r => ?_)
  refine K_x (y := if (1 : Int32) = 0 then none else some ()) rfl ?_
  refine K_if_eq 16 dJ0_charAt_5068e_4 rfl (fun h => absurd h (by decide)) (fun _ => ?_)
  refine K_aload_n 0 dJ0_charAt_5068e_7 rfl ?_
  refine K_getSv hi dJ0_charAt_5068e_8 tk_1418 ?_
  refine K_iload_n 1 dJ0_charAt_5068e_11 rfl ?_
  refine K_x (y := (some ()).bind (fun _ => some ())) rfl ?_
  refine K_callS (E' := fun _ : Unit => (some (.int (stc i j.toNatClampNeg)), Ms)) (As := [.ref (21000 + i), .int j]) (rest := []) dJ0_charAt_5068e_12 ml_J0_495 (mf_J1_charAt_3b067 3) ms_J1_charAt_3b067 (fun hj r hr => Ctr_of (E := fun _ : Unit => (some (.int (stc i j.toNatClampNeg)), Ms)) hj (by decide) rfl hr rfl (Nat.le_of_ble_eq_true rfl) (k_lchar Ms hi hin)) rfl rfl (Nat.le_of_ble_eq_true rfl) (Nat.le_of_ble_eq_true rfl) (fun r => ?_)
  have e := stc_ok i hi j.toNatClampNeg (Nat.lt_of_lt_of_le hl.2.2 (swL_ok i hi))
  refine K_ret (rv := some (.int (stc i j.toNatClampNeg))) dJ0_charAt_5068e_15 ?_ rfl rfl
  show narrow .char (.int (stc i j.toNatClampNeg)) = .int (stc i j.toNatClampNeg)
  rw [← e]
  exact pk_nc _
variable {M : MI} {R : Type} {E : R → Option Value × List Mem} {pc : Nat} {lv : List (Nat × Value)} {st : List Value} {Ms : List Mem} {x : Option R}
theorem K_strlen {idx i : Nat} (hi : i < 11) (hd : decode M.2.1 pc = .ok (.invokevirtual idx, 3)) (hM : ML M.1 idx yJ0_length_8abf5) (hlev : 3 ≤ M.2.2.2.2) (hcat : (st.map fun v => v.category).sum ≤ 8) (k : K G M E (pc + 3) lv (.int (stl i) :: st) Ms x) : K G M E pc lv (.ref (20000 + i) :: st) Ms x := by
  refine K_x (y := (some ()).bind (fun _ => x)) rfl ?_
  exact K_callV (E' := fun _ : Unit => (some (.int (stl i)), Ms)) (b := 20000 + i) (As := []) (rest := st) hd hM (mf_J0_length_8abf5 2) mv_J0_length_8abf5 (fun hj r hr => Ctr_of (E := fun _ : Unit => (some (.int (stl i)), Ms)) hj (by decide) rfl hr rfl (Nat.le_of_ble_eq_true rfl) (k_length Ms hi)) (rcv_str hi) rfl rfl hcat hlev (fun r => k)
theorem K_charAt {idx i : Nat} {j : Int32} (hi : i < 11) (hd : decode M.2.1 pc = .ok (.invokevirtual idx, 3)) (hM : ML M.1 idx yJ0_charAt_5068e) (hlev : 5 ≤ M.2.2.2.2) (hcat : (st.map fun v => v.category).sum ≤ 8) (k : K G M E (pc + 3) lv (.int (stc i j.toNatClampNeg) :: st) Ms x) : K G M E pc lv (.int j :: .ref (20000 + i) :: st) Ms (gd (inb j (swL.getD i 0)) x) := by
  by_cases hin : inb j (swL.getD i 0) = true
  · rw [← gd_t hin]
    refine K_x (y := (some ()).bind (fun _ => x)) rfl ?_
    exact K_callV (E' := fun _ : Unit => (some (.int (stc i j.toNatClampNeg)), Ms)) (b := 20000 + i) (As := [.int j]) (rest := st) hd hM (mf_J0_charAt_5068e 4) mv_J0_charAt_5068e (fun hj r hr => Ctr_of (E := fun _ : Unit => (some (.int (stc i j.toNatClampNeg)), Ms)) hj (by decide) rfl hr rfl (Nat.le_of_ble_eq_true rfl) (k_charAt Ms hi hin)) (rcv_str hi) rfl rfl hcat hlev (fun r => k)
  · unfold gd
    rw [if_neg hin]
    exact K_none
/-! Arrays.fill -/
def fillf (n : Nat) (v : Int32) (f : Nat → Int32) : Nat → Int32 := fun j => if j < n then v else f j
theorem xs_setc {c : Nat} (hc : c / 1000 < Ms.length) (f : Nat → Int32) : xs (setc Ms c f) c = f := by
  unfold setc
  rw [xs_set f hc c, if_pos rfl]
theorem setc_setc {c : Nat} (hc : c / 1000 < Ms.length) (f g : Nat → Int32) : setc (setc Ms c f) c g = setc Ms c g := by
  unfold setc
  rw [List.set_set]
  congr 1
  rw [show (Ms.set (c / 1000) (upA (Ms.getD (c / 1000) z0) (c % 1000) f)).getD (c / 1000) z0 = upA (Ms.getD (c / 1000) z0) (c % 1000) f by simp [List.getD, hc]]
  funext s'
  unfold upA
  by_cases h : s' = c % 1000
  · rw [if_pos h, if_pos h]
  · rw [if_neg h, if_neg h, if_neg h]
theorem setc_len {c : Nat} (f : Nat → Int32) : (setc Ms c f).length = Ms.length := by unfold setc; rw [List.length_set]
theorem setc_self {c : Nat} (hc : c / 1000 < Ms.length) : setc Ms c (xs Ms c) = Ms := by
  unfold setc xs
  have : upA (Ms.getD (c / 1000) z0) (c % 1000) (Ms.getD (c / 1000) z0 (c % 1000)) = Ms.getD (c / 1000) z0 := by
    funext s'
    unfold upA
    by_cases h : s' = c % 1000
    · rw [if_pos h, h]
    · rw [if_neg h]
  rw [this]
  apply List.ext_getElem?
  intro j
  by_cases h : c / 1000 = j
  · subst h
    rw [List.getElem?_set_self hc]
    simp [List.getD, hc]
  · rw [List.getElem?_set_ne h]
theorem k_fill_L (Ms0 : List Mem) {c n : Nat} (hk : kd c = some (.inr (.inl (0, n)))) (hn : n < 2 ^ 31) (hlen : c / 1000 < Ms0.length) (v : Int32) : ∀ (t i : Nat), i + t = n → K G (mi_J7_fill_53178 1) (fun _ : Unit => (none, setc Ms0 c (fillf n v (xs Ms0 c)))) 5 [(0, .ref c), (1, .int v), (2, .int (nI i)), (3, .int (nI n))] [] (setc Ms0 c (fillf i v (xs Ms0 c))) (some ()) := by
  intro t
  induction t with
  | zero =>
    intro i hi
    have e : i = n := by omega
    subst e
    refine K_iload_n 2 dJ7_fill_53178_5 rfl ?_
    refine K_iload_n 3 dJ7_fill_53178_6 rfl ?_
    refine K_x (y := if nI i ≤ nI i then some () else none) (by rw [if_pos (Int32.le_refl _)]) ?_
    refine K_icmp_ge 20 dJ7_fill_53178_7 rfl (fun _ => ?_) (fun h => absurd (Int32.le_refl _) h)
    exact K_ret (rv := none) dJ7_fill_53178_20 trivial rfl rfl
  | succ t ih =>
    intro i hi
    refine K_iload_n 2 dJ7_fill_53178_5 rfl ?_
    refine K_iload_n 3 dJ7_fill_53178_6 rfl ?_
    have hlt : ¬ nI n ≤ nI i := nI_ge (by omega) hn
    refine K_x (y := if nI n ≤ nI i then none else some ()) (by rw [if_neg hlt]) ?_
    refine K_icmp_ge 20 dJ7_fill_53178_7 rfl (fun h => absurd h hlt) (fun _ => ?_)
    refine K_aload_n 0 dJ7_fill_53178_10 rfl ?_
    refine K_iload_n 2 dJ7_fill_53178_11 rfl ?_
    refine K_iload_n 1 dJ7_fill_53178_12 rfl ?_
    have hin : inb (nI i) n = true := decide_eq_true (nI_in (by omega) hn)
    refine K_x (gd_t hin) ?_
    refine K_iast (Ms' := setc Ms0 c (fillf (i + 1) v (xs Ms0 c))) dJ7_fill_53178_13 hk (by rw [setc_len]; exact hlen) ?_ ?_
    · rw [xs_setc hlen, setc_setc hlen]
      congr 1
      rw [nI_clamp (by omega)]
      funext j
      unfold upd fillf
      by_cases h1 : j = i
      · subst h1; simp
      · by_cases h2 : j < i
        · simp [h1, h2, show j < i + 1 by omega]
        · simp [h1, h2, show ¬ j < i + 1 by omega]
    · refine K_iinc 2 (w := nI (i + 1)) (lv' := [(2, .int (nI (i + 1))), (0, .ref c), (1, .int v), (3, .int (nI n))]) dJ7_fill_53178_14 rfl (nI_1 i) (by decide) rfl ?_
      refine K_goto 5 dJ7_fill_53178_17 rfl ?_
      refine K_loc [1, 2, 0, 3] (lv' := [(0, .ref c), (1, .int v), (2, .int (nI (i + 1))), (3, .int (nI n))]) rfl ?_
      exact ih (i + 1) (by omega)
theorem k_fill (Ms0 : List Mem) {c n : Nat} (hk : kd c = some (.inr (.inl (0, n)))) (hn : n < 2 ^ 31) (hlen : c / 1000 < Ms0.length) (v : Int32) : K G (mi_J7_fill_53178 1) (fun _ : Unit => (none, setc Ms0 c (fillf n v (xs Ms0 c)))) 0 [(0, .ref c), (1, .int v)] [] Ms0 (some ()) := by
  refine K_iconst (v := 0) dJ7_fill_53178_0 (by decide) ?_
  refine K_istore_n (lv' := [(2, .int 0), (0, .ref c), (1, .int v)]) dJ7_fill_53178_1 (by decide) rfl ?_
  refine K_aload_n 1 dJ7_fill_53178_2 rfl ?_
  refine K_alen (v := nI n) dJ7_fill_53178_3 hk (by decide) rfl ?_
  refine K_istore_n (lv' := [(3, .int (nI n)), (2, .int 0), (0, .ref c), (1, .int v)]) dJ7_fill_53178_4 (by decide) rfl ?_
  refine K_loc [2, 3, 1, 0] (lv' := [(0, .ref c), (1, .int v), (2, .int (nI 0)), (3, .int (nI n))]) rfl ?_
  refine K_Ms (Ms' := setc Ms0 c (fillf 0 v (xs Ms0 c))) ?_ (k_fill_L Ms0 hk hn hlen v n 0 (by omega))
  have : fillf 0 v (xs Ms0 c) = xs Ms0 c := by funext j; simp [fillf]
  rw [this, setc_self hlen]
theorem kd_small {c t n : Nat} (h : kd c = some (.inr (.inl (t, n)))) : n < 2 ^ 31 := by
  have hc := kd_lt h
  have key : ∀ c, c < 12000 → ∀ t n, kd c = some (.inr (.inl (t, n))) → n < 2 ^ 31 := by
    intro c hc t n h
    have hm : some (.inr (.inl (t, n)) : KD) ∈ kdL.flatten := by
      unfold kd at h
      rw [List.getD_eq_getElem?_getD] at h
      cases h1 : (kdL.getD (c / 1000) [])[c % 1000]? with
      | none => rw [h1] at h; cases h
      | some w =>
        rw [h1] at h
        have hw : w = some (.inr (.inl (t, n))) := h
        subst hw
        have h2 := List.mem_of_getElem? h1
        rw [List.getD_eq_getElem?_getD] at h2
        cases h3 : kdL[c / 1000]? with
        | none => rw [h3] at h2; cases h2
        | some l => rw [h3] at h2; exact List.mem_flatten.mpr ⟨l, List.mem_of_getElem? h3, h2⟩
    have hall : ∀ w ∈ kdL.flatten, (match w with | some (.inr (.inl (_, n))) => decide (n < 2 ^ 31) | _ => true) = true := by decide +kernel
    exact of_decide_eq_true (hall _ hm)
  exact key c hc t n h
theorem K_fill {idx c n : Nat} {v : Int32} {Ms' : List Mem} (hd : decode M.2.1 pc = .ok (.invokestatic idx, 3)) (hM : ML M.1 idx yJ7_fill_53178) (hlev : 2 ≤ M.2.2.2.2) (hcat : (st.map fun v => v.category).sum ≤ 8) (hk : kd c = some (.inr (.inl (0, n)))) (hlen : c / 1000 < Ms.length) (hMs : setc Ms c (fillf n v (xs Ms c)) = Ms') (k : K G M E (pc + 3) lv st Ms' x) : K G M E pc lv (.int v :: .ref c :: st) Ms x := by
  subst hMs
  refine K_x (y := (some ()).bind (fun _ => x)) rfl ?_
  exact K_callS (E' := fun _ : Unit => (none, setc Ms c (fillf n v (xs Ms c)))) (As := [.ref c, .int v]) (rest := st) hd hM (mf_J7_fill_53178 1) ms_J7_fill_53178 (fun hj r hr => Ctr_of (E := fun _ : Unit => (none, setc Ms c (fillf n v (xs Ms c)))) hj (by decide) rfl hr rfl (Nat.le_of_ble_eq_true rfl) (k_fill Ms hk (kd_small hk) hlen v)) rfl rfl hcat hlev (fun r => k)
/-! Integer.bitCount -/
theorem K_bitc {idx : Nat} {a : Int32} (hd : decode M.2.1 pc = .ok (.invokestatic idx, 3)) (hM : ML M.1 idx yJ6_bitCount_0f7a4) (hlev : 2 ≤ M.2.2.2.2) (hcat : (st.map fun v => v.category).sum ≤ 8) (k : K G M E (pc + 3) lv (.int (bitc a) :: st) Ms x) : K G M E pc lv (.int a :: st) Ms x := by
  refine K_x (y := (some ()).bind (fun _ => x)) rfl ?_
  exact K_callS (E' := fun _ : Unit => (some (.int (bitc a)), Ms)) (As := [.int a]) (rest := st) hd hM (mf_J6_bitCount_0f7a4 1) ms_J6_bitCount_0f7a4 (fun hj r hr => c_J6_bitCount_0f7a4 hj Ms a (bitc_ok a)) rfl rfl hcat hlev (fun r => k)
end JDK
