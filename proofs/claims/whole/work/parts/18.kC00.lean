abbrev e_X7_isRow (Ms : List Mem) : Int32 → Option Value × List Mem := fun r => (some (.int r), Ms)
theorem k_X7_isRow {G : GE} (Ms : List Mem) (x0 : Int32) : K G (mi_X7_isRow 1) (e_X7_isRow Ms) 0 [(0, .int x0)] [] Ms (f_X7_isRow x0) := by
  unfold f_X7_isRow
  refine K_iload_n 0 dX7_isRow_0 rfl ?_
  refine K_if_lt 14 dX7_isRow_1 rfl (fun _ => ?_) (fun _ => ?_)
  · refine K_iconst (v := 0) dX7_isRow_14 (by decide) ?_
    exact K_ret (rv := some (.int 0)) dX7_isRow_15 rfl rfl rfl
  · refine K_iload_n 0 dX7_isRow_4 rfl ?_
    refine K_bipush (v := 8) dX7_isRow_5 (by decide) ?_
    refine K_icmp_ge 14 dX7_isRow_7 rfl (fun _ => ?_) (fun _ => ?_)
    · refine K_iconst (v := 0) dX7_isRow_14 (by decide) ?_
      exact K_ret (rv := some (.int 0)) dX7_isRow_15 rfl rfl rfl
    · refine K_iconst (v := 1) dX7_isRow_10 (by decide) ?_
      refine K_goto 15 dX7_isRow_11 rfl ?_
      exact K_ret (rv := some (.int 1)) dX7_isRow_15 rfl rfl rfl
theorem c_X7_isRow {G : GE} (hj : dj G) (Ms : List Mem) (x0 : Int32) {r : Int32} (hr : f_X7_isRow x0 = some r) : Ctr G yX7_isRow (mi_X7_isRow 1) [.int x0] Ms ((e_X7_isRow Ms) r).1 ((e_X7_isRow Ms) r).2 := Ctr_of hj (by decide) rfl hr rfl (Nat.le_of_ble_eq_true rfl) (k_X7_isRow Ms x0)
abbrev e_X7_found (m0 m1 m2 m3 m4 m5 m6 m7 m8 m9 m10 m11 : Mem) : (Int32 × Mem) → Option Value × List Mem := fun r => (some (.int r.1), [m0, m1, m2, m3, m4, m5, m6, m7, m8, m9, m10, r.2])
theorem k_X7_found {G : GE} (m0 m1 m2 m3 m4 m5 m6 m7 m8 m9 m10 m11 : Mem) (x1 : Int32) : K G (mi_X7_found 1) (e_X7_found m0 m1 m2 m3 m4 m5 m6 m7 m8 m9 m10 m11) 0 [(0, .ref 11000), (1, .int x1)] [] [m0, m1, m2, m3, m4, m5, m6, m7, m8, m9, m10, m11] (f_X7_found m11 x1) := by
  unfold f_X7_found
  refine K_aload_n 0 dX7_found_0 rfl ?_
  refine K_iload_n 1 dX7_found_1 rfl ?_
  refine K_put (Ms' := [m0, m1, m2, m3, m4, m5, m6, m7, m8, m9, m10, (up m11 0 9 x1)]) dX7_found_2 fp_X7_65 kl_11000 rfl rfl rfl (Nat.le_of_ble_eq_true rfl) rfl ?_
  refine K_nmm (fun w => [m0, m1, m2, m3, m4, m5, m6, m7, m8, m9, m10, w]) rfl (fun w11 => ?_)
  refine K_ldcw (v := (-1000010)) dX7_found_5 cst_X7_293 ?_
  refine K_iload_n 1 dX7_found_8 rfl ?_
  refine K_isub dX7_found_9 ?_
  exact K_ret (rv := some (.int ((-1000010) - x1))) dX7_found_10 rfl rfl rfl
theorem c_X7_found {G : GE} (hj : dj G) (m0 m1 m2 m3 m4 m5 m6 m7 m8 m9 m10 m11 : Mem) (x1 : Int32) {r : Int32 × Mem} (hr : f_X7_found m11 x1 = some r) : Ctr G yX7_found (mi_X7_found 1) [.ref 11000, .int x1] [m0, m1, m2, m3, m4, m5, m6, m7, m8, m9, m10, m11] ((e_X7_found m0 m1 m2 m3 m4 m5 m6 m7 m8 m9 m10 m11) r).1 ((e_X7_found m0 m1 m2 m3 m4 m5 m6 m7 m8 m9 m10 m11) r).2 := Ctr_of hj (by decide) rfl hr rfl (Nat.le_of_ble_eq_true rfl) (k_X7_found m0 m1 m2 m3 m4 m5 m6 m7 m8 m9 m10 m11 x1)
abbrev e_X6_make (m0 m1 m2 m3 m4 m5 m6 m7 m8 m9 m10 m11 : Mem) : Mem → Option Value × List Mem := fun r => (none, [m0, m1, m2, m3, m4, r, m6, m7, m8, m9, m10, m11])
theorem k_X6_make {G : GE} (m0 m1 m2 m3 m4 m5 m6 m7 m8 m9 m10 m11 : Mem) (x1 : Int32) (x2 : Int32) (x3 : Int32) : K G (mi_X6_make 2) (e_X6_make m0 m1 m2 m3 m4 m5 m6 m7 m8 m9 m10 m11) 0 [(0, .ref 5000), (1, .int x1), (2, .int x2), (3, .int x3)] [] [m0, m1, m2, m3, m4, m5, m6, m7, m8, m9, m10, m11] (f_X6_make m5 x1 x2 x3) := by
  unfold f_X6_make
  refine K_aload_n 0 dX6_make_0 rfl ?_
  refine K_get (v := .ref 5001) dX6_make_1 fl_X6_9 kl_5000 rfl rfl ?_
  refine K_iload_n 1 dX6_make_4 rfl ?_
  refine K_iload_n 2 dX6_make_5 rfl ?_
  refine K_iast (Ms' := [m0, m1, m2, m3, m4, (up m5 1 x1.toNatClampNeg x2), m6, m7, m8, m9, m10, m11]) dX6_make_6 kl_5001 (Nat.le_of_ble_eq_true rfl) rfl ?_
  refine K_nmm (fun w => [m0, m1, m2, m3, m4, w, m6, m7, m8, m9, m10, m11]) rfl (fun w11 => ?_)
  refine K_aload_n 0 dX6_make_7 rfl ?_
  refine K_get (v := .ref 5002) dX6_make_8 fl_X6_15 kl_5000 rfl rfl ?_
  refine K_iload_n 1 dX6_make_11 rfl ?_
  refine K_iload_n 3 dX6_make_12 rfl ?_
  refine K_iast (Ms' := [m0, m1, m2, m3, m4, (up w11 2 x1.toNatClampNeg x3), m6, m7, m8, m9, m10, m11]) dX6_make_13 kl_5002 (Nat.le_of_ble_eq_true rfl) rfl ?_
  refine K_nmm (fun w => [m0, m1, m2, m3, m4, w, m6, m7, m8, m9, m10, m11]) rfl (fun w12 => ?_)
  refine K_aload_n 0 dX6_make_14 rfl ?_
  refine K_get (v := .ref 5003) dX6_make_15 fl_X6_20 kl_5000 rfl rfl ?_
  refine K_iload_n 1 dX6_make_18 rfl ?_
  refine K_aald dX6_make_19 kl_5003 (Or.inr rfl) (fun hb13 => ?_)
  refine K_iconst (v := 0) dX6_make_20 (by decide) ?_
  refine K_fill (Ms' := [m0, m1, m2, m3, m4, (upA w12 (10 + x1.toNatClampNeg) (fillf 40 0 (w12 (10 + x1.toNatClampNeg)))), m6, m7, m8, m9, m10, m11]) dX6_make_21 ml_X6_23 (Nat.le_of_ble_eq_true rfl) (Nat.le_of_ble_eq_true rfl) (kd_row hb13) (row_len hb13 (Nat.le_of_ble_eq_true rfl)) (setc_rowF hb13) ?_
  refine K_nmm (fun w => [m0, m1, m2, m3, m4, w, m6, m7, m8, m9, m10, m11]) rfl (fun w14 => ?_)
  exact K_ret (rv := none) dX6_make_24 trivial rfl rfl
theorem c_X6_make {G : GE} (hj : dj G) (m0 m1 m2 m3 m4 m5 m6 m7 m8 m9 m10 m11 : Mem) (x1 : Int32) (x2 : Int32) (x3 : Int32) {r : Mem} (hr : f_X6_make m5 x1 x2 x3 = some r) : Ctr G yX6_make (mi_X6_make 2) [.ref 5000, .int x1, .int x2, .int x3] [m0, m1, m2, m3, m4, m5, m6, m7, m8, m9, m10, m11] ((e_X6_make m0 m1 m2 m3 m4 m5 m6 m7 m8 m9 m10 m11) r).1 ((e_X6_make m0 m1 m2 m3 m4 m5 m6 m7 m8 m9 m10 m11) r).2 := Ctr_of hj (by decide) rfl hr rfl (Nat.le_of_ble_eq_true rfl) (k_X6_make m0 m1 m2 m3 m4 m5 m6 m7 m8 m9 m10 m11 x1 x2 x3)
abbrev e_X7_fine (m0 m1 m2 m3 m4 m5 m6 m7 m8 m9 m10 m11 : Mem) : (Int32 × Mem) → Option Value × List Mem := fun r => (some (.int r.1), [m0, m1, m2, m3, m4, m5, m6, m7, m8, m9, m10, r.2])
theorem k_X7_fine {G : GE} (m0 m1 m2 m3 m4 m5 m6 m7 m8 m9 m10 m11 : Mem) (x1 : Int32) : K G (mi_X7_fine 1) (e_X7_fine m0 m1 m2 m3 m4 m5 m6 m7 m8 m9 m10 m11) 0 [(0, .ref 11000), (1, .int x1)] [] [m0, m1, m2, m3, m4, m5, m6, m7, m8, m9, m10, m11] (f_X7_fine m11 x1) := by
  unfold f_X7_fine
  refine K_aload_n 0 dX7_fine_0 rfl ?_
  refine K_iconst (v := 0) dX7_fine_1 (by decide) ?_
  refine K_put (Ms' := [m0, m1, m2, m3, m4, m5, m6, m7, m8, m9, m10, (up m11 0 9 0)]) dX7_fine_2 fp_X7_65 kl_11000 rfl rfl rfl (Nat.le_of_ble_eq_true rfl) rfl ?_
  refine K_nmm (fun w => [m0, m1, m2, m3, m4, m5, m6, m7, m8, m9, m10, w]) rfl (fun w11 => ?_)
  refine K_iload_n 1 dX7_fine_5 rfl ?_
  exact K_ret (rv := some (.int x1)) dX7_fine_6 rfl rfl rfl
theorem c_X7_fine {G : GE} (hj : dj G) (m0 m1 m2 m3 m4 m5 m6 m7 m8 m9 m10 m11 : Mem) (x1 : Int32) {r : Int32 × Mem} (hr : f_X7_fine m11 x1 = some r) : Ctr G yX7_fine (mi_X7_fine 1) [.ref 11000, .int x1] [m0, m1, m2, m3, m4, m5, m6, m7, m8, m9, m10, m11] ((e_X7_fine m0 m1 m2 m3 m4 m5 m6 m7 m8 m9 m10 m11) r).1 ((e_X7_fine m0 m1 m2 m3 m4 m5 m6 m7 m8 m9 m10 m11) r).2 := Ctr_of hj (by decide) rfl hr rfl (Nat.le_of_ble_eq_true rfl) (k_X7_fine m0 m1 m2 m3 m4 m5 m6 m7 m8 m9 m10 m11 x1)
abbrev e_X7_row (m0 m1 m2 m3 m4 m5 m6 m7 m8 m9 m10 m11 : Mem) : (Int32 × Mem × Mem) → Option Value × List Mem := fun r => (some (.int r.1), [m0, m1, m2, m3, m4, r.2.1, m6, m7, m8, m9, m10, r.2.2])
theorem k_X7_row {G : GE} (m0 m1 m2 m3 m4 m5 m6 m7 m8 m9 m10 m11 : Mem) (x1 : Int32) (x2 : Int32) (x3 : Int32) : K G (mi_X7_row 3) (e_X7_row m0 m1 m2 m3 m4 m5 m6 m7 m8 m9 m10 m11) 0 [(0, .ref 11000), (1, .int x1), (2, .int x2), (3, .int x3)] [] [m0, m1, m2, m3, m4, m5, m6, m7, m8, m9, m10, m11] (f_X7_row m5 m11 x1 x2 x3) := by
  unfold f_X7_row
  refine K_iload_n 1 dX7_row_0 rfl ?_
  refine K_callS (E' := e_X7_isRow [m0, m1, m2, m3, m4, m5, m6, m7, m8, m9, m10, m11]) (As := [.int x1]) (rest := []) dX7_row_1 ml_X7_69 (mf_X7_isRow 1) ms_X7_isRow (fun hj r hr => c_X7_isRow hj [m0, m1, m2, m3, m4, m5, m6, m7, m8, m9, m10, m11] x1 hr) rfl rfl (Nat.le_of_ble_eq_true rfl) (Nat.le_of_ble_eq_true rfl) (fun r11 => ?_)
  show K G (mi_X7_row 3) (e_X7_row m0 m1 m2 m3 m4 m5 m6 m7 m8 m9 m10 m11) 4 [(0, .ref 11000), (1, .int x1), (2, .int x2), (3, .int x3)] [.int r11] [m0, m1, m2, m3, m4, m5, m6, m7, m8, m9, m10, m11] _
  refine K_if_eq 22 dX7_row_4 rfl (fun _ => ?_) (fun _ => ?_)
  · refine K_ldc (v := (-1000001)) dX7_row_22 cst_X7_73 ?_
    exact K_ret (rv := some (.int (-1000001))) dX7_row_24 rfl rfl rfl
  · refine K_iload_n 2 dX7_row_7 rfl ?_
    refine K_if_lt 22 dX7_row_8 rfl (fun _ => ?_) (fun _ => ?_)
    · refine K_ldc (v := (-1000001)) dX7_row_22 cst_X7_73 ?_
      exact K_ret (rv := some (.int (-1000001))) dX7_row_24 rfl rfl rfl
    · refine K_iload_n 2 dX7_row_11 rfl ?_
      refine K_iconst (v := 2) dX7_row_12 (by decide) ?_
      refine K_icmp_gt 22 dX7_row_13 rfl (fun _ => ?_) (fun _ => ?_)
      · refine K_ldc (v := (-1000001)) dX7_row_22 cst_X7_73 ?_
        exact K_ret (rv := some (.int (-1000001))) dX7_row_24 rfl rfl rfl
      · refine K_iload_n 3 dX7_row_16 rfl ?_
        refine K_bipush (v := 40) dX7_row_17 (by decide) ?_
        refine K_icmp_le 25 dX7_row_19 rfl (fun _ => ?_) (fun _ => ?_)
        · refine K_iload_n 3 dX7_row_25 rfl ?_
          refine K_if_ge 35 dX7_row_26 rfl (fun _ => ?_) (fun _ => ?_)
          · refine K_aload_n 0 dX7_row_35 rfl ?_
            refine K_get (v := .ref 5000) dX7_row_36 fl_X7_10 kl_11000 rfl rfl ?_
            refine K_iload_n 1 dX7_row_39 rfl ?_
            refine K_iload_n 2 dX7_row_40 rfl ?_
            refine K_iload_n 3 dX7_row_41 rfl ?_
            refine K_callV (E' := e_X6_make m0 m1 m2 m3 m4 m5 m6 m7 m8 m9 m10 m11) (b := 5000) (As := [.int x1, .int x2, .int x3]) (rest := []) dX7_row_42 ml_X7_78 (mf_X6_make 2) mv_X6_make (fun hj r hr => c_X6_make hj m0 m1 m2 m3 m4 m5 m6 m7 m8 m9 m10 m11 x1 x2 x3 hr) (rcv_obj (q := (RX6, TX6, 3)) kl_5000 rfl) rfl rfl (Nat.le_of_ble_eq_true rfl) (Nat.le_of_ble_eq_true rfl) (fun r12 => ?_)
            show K G (mi_X7_row 3) (e_X7_row m0 m1 m2 m3 m4 m5 m6 m7 m8 m9 m10 m11) 45 [(0, .ref 11000), (1, .int x1), (2, .int x2), (3, .int x3)] [] [m0, m1, m2, m3, m4, r12, m6, m7, m8, m9, m10, m11] _
            refine K_aload_n 0 dX7_row_45 rfl ?_
            refine K_iload_n 3 dX7_row_46 rfl ?_
            refine K_callV (E' := e_X7_fine m0 m1 m2 m3 m4 r12 m6 m7 m8 m9 m10 m11) (b := 11000) (As := [.int x3]) (rest := []) dX7_row_47 ml_X7_82 (mf_X7_fine 1) mv_X7_fine (fun hj r hr => c_X7_fine hj m0 m1 m2 m3 m4 r12 m6 m7 m8 m9 m10 m11 x3 hr) (rcv_obj (q := (RX7, TX7, 10)) kl_11000 rfl) rfl rfl (Nat.le_of_ble_eq_true rfl) (Nat.le_of_ble_eq_true rfl) (fun r13 => ?_)
            show K G (mi_X7_row 3) (e_X7_row m0 m1 m2 m3 m4 m5 m6 m7 m8 m9 m10 m11) 50 [(0, .ref 11000), (1, .int x1), (2, .int x2), (3, .int x3)] [.int r13.1] [m0, m1, m2, m3, m4, r12, m6, m7, m8, m9, m10, r13.2] _
            exact K_ret (rv := some (.int r13.1)) dX7_row_50 rfl rfl rfl
          · refine K_aload_n 0 dX7_row_29 rfl ?_
            refine K_iconst (v := 4) dX7_row_30 (by decide) ?_
            refine K_callV (E' := e_X7_found m0 m1 m2 m3 m4 m5 m6 m7 m8 m9 m10 m11) (b := 11000) (As := [.int 4]) (rest := []) dX7_row_31 ml_X7_74 (mf_X7_found 1) mv_X7_found (fun hj r hr => c_X7_found hj m0 m1 m2 m3 m4 m5 m6 m7 m8 m9 m10 m11 (4 : Int32) hr) (rcv_obj (q := (RX7, TX7, 10)) kl_11000 rfl) rfl rfl (Nat.le_of_ble_eq_true rfl) (Nat.le_of_ble_eq_true rfl) (fun r14 => ?_)
            show K G (mi_X7_row 3) (e_X7_row m0 m1 m2 m3 m4 m5 m6 m7 m8 m9 m10 m11) 34 [(0, .ref 11000), (1, .int x1), (2, .int x2), (3, .int x3)] [.int r14.1] [m0, m1, m2, m3, m4, m5, m6, m7, m8, m9, m10, r14.2] _
            exact K_ret (rv := some (.int r14.1)) dX7_row_34 rfl rfl rfl
        · refine K_ldc (v := (-1000001)) dX7_row_22 cst_X7_73 ?_
          exact K_ret (rv := some (.int (-1000001))) dX7_row_24 rfl rfl rfl
theorem c_X7_row {G : GE} (hj : dj G) (m0 m1 m2 m3 m4 m5 m6 m7 m8 m9 m10 m11 : Mem) (x1 : Int32) (x2 : Int32) (x3 : Int32) {r : Int32 × Mem × Mem} (hr : f_X7_row m5 m11 x1 x2 x3 = some r) : Ctr G yX7_row (mi_X7_row 3) [.ref 11000, .int x1, .int x2, .int x3] [m0, m1, m2, m3, m4, m5, m6, m7, m8, m9, m10, m11] ((e_X7_row m0 m1 m2 m3 m4 m5 m6 m7 m8 m9 m10 m11) r).1 ((e_X7_row m0 m1 m2 m3 m4 m5 m6 m7 m8 m9 m10 m11) r).2 := Ctr_of hj (by decide) rfl hr rfl (Nat.le_of_ble_eq_true rfl) (k_X7_row m0 m1 m2 m3 m4 m5 m6 m7 m8 m9 m10 m11 x1 x2 x3)
abbrev e_X6_isMissing (m0 m1 m2 m3 m4 m5 m6 m7 m8 m9 m10 m11 : Mem) : Int32 → Option Value × List Mem := fun r => (some (.int r), [m0, m1, m2, m3, m4, m5, m6, m7, m8, m9, m10, m11])
theorem k_X6_isMissing {G : GE} (m0 m1 m2 m3 m4 m5 m6 m7 m8 m9 m10 m11 : Mem) (x1 : Int32) : K G (mi_X6_isMissing 1) (e_X6_isMissing m0 m1 m2 m3 m4 m5 m6 m7 m8 m9 m10 m11) 0 [(0, .ref 5000), (1, .int x1)] [] [m0, m1, m2, m3, m4, m5, m6, m7, m8, m9, m10, m11] (f_X6_isMissing m5 x1) := by
  unfold f_X6_isMissing
  refine K_aload_n 0 dX6_isMissing_0 rfl ?_
  refine K_get (v := .ref 5001) dX6_isMissing_1 fl_X6_9 kl_5000 rfl rfl ?_
  refine K_iload_n 1 dX6_isMissing_4 rfl ?_
  refine K_iald (f := m5 1) dX6_isMissing_5 kl_5001 rfl ?_
  refine K_iconst (v := (-1)) dX6_isMissing_6 (by decide) ?_
  refine K_icmp_ne 14 dX6_isMissing_7 rfl (fun _ => ?_) (fun _ => ?_)
  · refine K_iconst (v := 0) dX6_isMissing_14 (by decide) ?_
    exact K_ret (rv := some (.int 0)) dX6_isMissing_15 rfl rfl rfl
  · refine K_iconst (v := 1) dX6_isMissing_10 (by decide) ?_
    refine K_goto 15 dX6_isMissing_11 rfl ?_
    exact K_ret (rv := some (.int 1)) dX6_isMissing_15 rfl rfl rfl
theorem c_X6_isMissing {G : GE} (hj : dj G) (m0 m1 m2 m3 m4 m5 m6 m7 m8 m9 m10 m11 : Mem) (x1 : Int32) {r : Int32} (hr : f_X6_isMissing m5 x1 = some r) : Ctr G yX6_isMissing (mi_X6_isMissing 1) [.ref 5000, .int x1] [m0, m1, m2, m3, m4, m5, m6, m7, m8, m9, m10, m11] ((e_X6_isMissing m0 m1 m2 m3 m4 m5 m6 m7 m8 m9 m10 m11) r).1 ((e_X6_isMissing m0 m1 m2 m3 m4 m5 m6 m7 m8 m9 m10 m11) r).2 := Ctr_of hj (by decide) rfl hr rfl (Nat.le_of_ble_eq_true rfl) (k_X6_isMissing m0 m1 m2 m3 m4 m5 m6 m7 m8 m9 m10 m11 x1)
abbrev e_X6_hasStretch (m0 m1 m2 m3 m4 m5 m6 m7 m8 m9 m10 m11 : Mem) : Int32 → Option Value × List Mem := fun r => (some (.int r), [m0, m1, m2, m3, m4, m5, m6, m7, m8, m9, m10, m11])
theorem k_X6_hasStretch {G : GE} (m0 m1 m2 m3 m4 m5 m6 m7 m8 m9 m10 m11 : Mem) (x1 : Int32) (x2 : Int32) (x3 : Int32) : K G (mi_X6_hasStretch 1) (e_X6_hasStretch m0 m1 m2 m3 m4 m5 m6 m7 m8 m9 m10 m11) 0 [(0, .ref 5000), (1, .int x1), (2, .int x2), (3, .int x3)] [] [m0, m1, m2, m3, m4, m5, m6, m7, m8, m9, m10, m11] (f_X6_hasStretch m5 x1 x2 x3) := by
  unfold f_X6_hasStretch
  refine K_iload_n 2 dX6_hasStretch_0 rfl ?_
  refine K_if_lt 34 dX6_hasStretch_1 rfl (fun _ => ?_) (fun _ => ?_)
  · refine K_iconst (v := 0) dX6_hasStretch_34 (by decide) ?_
    exact K_ret (rv := some (.int 0)) dX6_hasStretch_35 rfl rfl rfl
  · refine K_iload_n 3 dX6_hasStretch_4 rfl ?_
    refine K_if_lt 34 dX6_hasStretch_5 rfl (fun _ => ?_) (fun _ => ?_)
    · refine K_iconst (v := 0) dX6_hasStretch_34 (by decide) ?_
      exact K_ret (rv := some (.int 0)) dX6_hasStretch_35 rfl rfl rfl
    · refine K_iload_n 2 dX6_hasStretch_8 rfl ?_
      refine K_aload_n 0 dX6_hasStretch_9 rfl ?_
      refine K_get (v := .ref 5002) dX6_hasStretch_10 fl_X6_15 kl_5000 rfl rfl ?_
      refine K_iload_n 1 dX6_hasStretch_13 rfl ?_
      refine K_iald (f := m5 2) dX6_hasStretch_14 kl_5002 rfl ?_
      refine K_icmp_gt 34 dX6_hasStretch_15 rfl (fun _ => ?_) (fun _ => ?_)
      · refine K_iconst (v := 0) dX6_hasStretch_34 (by decide) ?_
        exact K_ret (rv := some (.int 0)) dX6_hasStretch_35 rfl rfl rfl
      · refine K_iload_n 3 dX6_hasStretch_18 rfl ?_
        refine K_aload_n 0 dX6_hasStretch_19 rfl ?_
        refine K_get (v := .ref 5002) dX6_hasStretch_20 fl_X6_15 kl_5000 rfl rfl ?_
        refine K_iload_n 1 dX6_hasStretch_23 rfl ?_
        refine K_iald (f := m5 2) dX6_hasStretch_24 kl_5002 rfl ?_
        refine K_iload_n 2 dX6_hasStretch_25 rfl ?_
        refine K_isub dX6_hasStretch_26 ?_
        refine K_icmp_gt 34 dX6_hasStretch_27 rfl (fun _ => ?_) (fun _ => ?_)
        · refine K_iconst (v := 0) dX6_hasStretch_34 (by decide) ?_
          exact K_ret (rv := some (.int 0)) dX6_hasStretch_35 rfl rfl rfl
        · refine K_iconst (v := 1) dX6_hasStretch_30 (by decide) ?_
          refine K_goto 35 dX6_hasStretch_31 rfl ?_
          exact K_ret (rv := some (.int 1)) dX6_hasStretch_35 rfl rfl rfl
theorem c_X6_hasStretch {G : GE} (hj : dj G) (m0 m1 m2 m3 m4 m5 m6 m7 m8 m9 m10 m11 : Mem) (x1 : Int32) (x2 : Int32) (x3 : Int32) {r : Int32} (hr : f_X6_hasStretch m5 x1 x2 x3 = some r) : Ctr G yX6_hasStretch (mi_X6_hasStretch 1) [.ref 5000, .int x1, .int x2, .int x3] [m0, m1, m2, m3, m4, m5, m6, m7, m8, m9, m10, m11] ((e_X6_hasStretch m0 m1 m2 m3 m4 m5 m6 m7 m8 m9 m10 m11) r).1 ((e_X6_hasStretch m0 m1 m2 m3 m4 m5 m6 m7 m8 m9 m10 m11) r).2 := Ctr_of hj (by decide) rfl hr rfl (Nat.le_of_ble_eq_true rfl) (k_X6_hasStretch m0 m1 m2 m3 m4 m5 m6 m7 m8 m9 m10 m11 x1 x2 x3)
abbrev e_X6_inLane (Ms : List Mem) : Int32 → Option Value × List Mem := fun r => (some (.int r), Ms)
theorem k_X6_inLane {G : GE} (Ms : List Mem) (x0 : Int32) (x1 : Int32) : K G (mi_X6_inLane 1) (e_X6_inLane Ms) 0 [(0, .int x0), (1, .int x1)] [] Ms (f_X6_inLane x0 x1) := by
  unfold f_X6_inLane
  refine K_iload_n 0 dX6_inLane_0 rfl ?_
  refine K_if_ne 7 dX6_inLane_1 rfl (fun _ => ?_) (fun _ => ?_)
  · refine K_iload_n 0 dX6_inLane_7 rfl ?_
    refine K_iconst (v := 1) dX6_inLane_8 (by decide) ?_
    refine K_icmp_ne 17 dX6_inLane_9 rfl (fun _ => ?_) (fun _ => ?_)
    · refine K_iload_n 1 dX6_inLane_17 rfl ?_
      exact K_ret (rv := some (.int x1)) dX6_inLane_18 rfl rfl rfl
    · refine K_iload_n 1 dX6_inLane_12 rfl ?_
      refine K_i2s dX6_inLane_13 ?_
      refine K_goto 18 dX6_inLane_14 rfl ?_
      exact K_ret (rv := some (.int x1.toInt16.toInt32)) dX6_inLane_18 rfl rfl rfl
  · refine K_iload_n 1 dX6_inLane_4 rfl ?_
    refine K_i2b dX6_inLane_5 ?_
    exact K_ret (rv := some (.int x1.toInt8.toInt32)) dX6_inLane_6 rfl rfl rfl
theorem c_X6_inLane {G : GE} (hj : dj G) (Ms : List Mem) (x0 : Int32) (x1 : Int32) {r : Int32} (hr : f_X6_inLane x0 x1 = some r) : Ctr G yX6_inLane (mi_X6_inLane 1) [.int x0, .int x1] Ms ((e_X6_inLane Ms) r).1 ((e_X6_inLane Ms) r).2 := Ctr_of hj (by decide) rfl hr rfl (Nat.le_of_ble_eq_true rfl) (k_X6_inLane Ms x0 x1)
abbrev e_X6_put (m0 m1 m2 m3 m4 m5 m6 m7 m8 m9 m10 m11 : Mem) : (Int32 × Mem) → Option Value × List Mem := fun r => (some (.int r.1), [m0, m1, m2, m3, m4, r.2, m6, m7, m8, m9, m10, m11])
theorem k_X6_put {G : GE} (m0 m1 m2 m3 m4 m5 m6 m7 m8 m9 m10 m11 : Mem) (x1 : Int32) (x2 : Int32) (x3 : Int32) : K G (mi_X6_put 2) (e_X6_put m0 m1 m2 m3 m4 m5 m6 m7 m8 m9 m10 m11) 0 [(0, .ref 5000), (1, .int x1), (2, .int x2), (3, .int x3)] [] [m0, m1, m2, m3, m4, m5, m6, m7, m8, m9, m10, m11] (f_X6_put m5 x1 x2 x3) := by
  unfold f_X6_put
  refine K_aload_n 0 dX6_put_0 rfl ?_
  refine K_get (v := .ref 5003) dX6_put_1 fl_X6_20 kl_5000 rfl rfl ?_
  refine K_iload_n 1 dX6_put_4 rfl ?_
  refine K_aald dX6_put_5 kl_5003 (Or.inr rfl) (fun hb11 => ?_)
  refine K_iload_n 2 dX6_put_6 rfl ?_
  refine K_aload_n 0 dX6_put_7 rfl ?_
  refine K_get (v := .ref 5001) dX6_put_8 fl_X6_9 kl_5000 rfl rfl ?_
  refine K_iload_n 1 dX6_put_11 rfl ?_
  refine K_iald (f := m5 1) dX6_put_12 kl_5001 rfl ?_
  refine K_iload_n 3 dX6_put_13 rfl ?_
  refine K_callS (E' := e_X6_inLane [m0, m1, m2, m3, m4, m5, m6, m7, m8, m9, m10, m11]) (As := [.int (m5 1 x1.toNatClampNeg), .int x3]) (rest := [.int x2, .ref (5010 + 1 * x1.toNatClampNeg)]) dX6_put_14 ml_X6_29 (mf_X6_inLane 1) ms_X6_inLane (fun hj r hr => c_X6_inLane hj [m0, m1, m2, m3, m4, m5, m6, m7, m8, m9, m10, m11] (m5 1 x1.toNatClampNeg) x3 hr) rfl rfl (Nat.le_of_ble_eq_true rfl) (Nat.le_of_ble_eq_true rfl) (fun r12 => ?_)
  show K G (mi_X6_put 2) (e_X6_put m0 m1 m2 m3 m4 m5 m6 m7 m8 m9 m10 m11) 17 [(0, .ref 5000), (1, .int x1), (2, .int x2), (3, .int x3)] [.int r12, .int x2, .ref (5010 + 1 * x1.toNatClampNeg)] [m0, m1, m2, m3, m4, m5, m6, m7, m8, m9, m10, m11] _
  refine K_iast (Ms' := [m0, m1, m2, m3, m4, (up m5 (10 + x1.toNatClampNeg) x2.toNatClampNeg r12), m6, m7, m8, m9, m10, m11]) dX6_put_17 (kd_row hb11) (row_len hb11 (Nat.le_of_ble_eq_true rfl)) (setc_rowU hb11) ?_
  refine K_nmm (fun w => [m0, m1, m2, m3, m4, w, m6, m7, m8, m9, m10, m11]) rfl (fun w13 => ?_)
  refine K_aload_n 0 dX6_put_18 rfl ?_
  refine K_get (v := .ref 5003) dX6_put_19 fl_X6_20 kl_5000 rfl rfl ?_
  refine K_iload_n 1 dX6_put_22 rfl ?_
  refine K_aald dX6_put_23 kl_5003 (Or.inr rfl) (fun hb14 => ?_)
  refine K_iload_n 2 dX6_put_24 rfl ?_
  refine K_iald (f := w13 (10 + x1.toNatClampNeg)) dX6_put_25 (kd_row hb14) (xs_row hb14) ?_
  exact K_ret (rv := some (.int (w13 (10 + x1.toNatClampNeg) x2.toNatClampNeg))) dX6_put_26 rfl rfl rfl
theorem c_X6_put {G : GE} (hj : dj G) (m0 m1 m2 m3 m4 m5 m6 m7 m8 m9 m10 m11 : Mem) (x1 : Int32) (x2 : Int32) (x3 : Int32) {r : Int32 × Mem} (hr : f_X6_put m5 x1 x2 x3 = some r) : Ctr G yX6_put (mi_X6_put 2) [.ref 5000, .int x1, .int x2, .int x3] [m0, m1, m2, m3, m4, m5, m6, m7, m8, m9, m10, m11] ((e_X6_put m0 m1 m2 m3 m4 m5 m6 m7 m8 m9 m10 m11) r).1 ((e_X6_put m0 m1 m2 m3 m4 m5 m6 m7 m8 m9 m10 m11) r).2 := Ctr_of hj (by decide) rfl hr rfl (Nat.le_of_ble_eq_true rfl) (k_X6_put m0 m1 m2 m3 m4 m5 m6 m7 m8 m9 m10 m11 x1 x2 x3)
abbrev e_X7_set (m0 m1 m2 m3 m4 m5 m6 m7 m8 m9 m10 m11 : Mem) : (Int32 × Mem × Mem) → Option Value × List Mem := fun r => (some (.int r.1), [m0, m1, m2, m3, m4, r.2.1, m6, m7, m8, m9, m10, r.2.2])
theorem k_X7_set {G : GE} (m0 m1 m2 m3 m4 m5 m6 m7 m8 m9 m10 m11 : Mem) (x1 : Int32) (x2 : Int32) (x3 : Int32) : K G (mi_X7_set 3) (e_X7_set m0 m1 m2 m3 m4 m5 m6 m7 m8 m9 m10 m11) 0 [(0, .ref 11000), (1, .int x1), (2, .int x2), (3, .int x3)] [] [m0, m1, m2, m3, m4, m5, m6, m7, m8, m9, m10, m11] (f_X7_set m5 m11 x1 x2 x3) := by
  unfold f_X7_set
  refine K_iload_n 1 dX7_set_0 rfl ?_
  refine K_callS (E' := e_X7_isRow [m0, m1, m2, m3, m4, m5, m6, m7, m8, m9, m10, m11]) (As := [.int x1]) (rest := []) dX7_set_1 ml_X7_69 (mf_X7_isRow 1) ms_X7_isRow (fun hj r hr => c_X7_isRow hj [m0, m1, m2, m3, m4, m5, m6, m7, m8, m9, m10, m11] x1 hr) rfl rfl (Nat.le_of_ble_eq_true rfl) (Nat.le_of_ble_eq_true rfl) (fun r11 => ?_)
  show K G (mi_X7_set 3) (e_X7_set m0 m1 m2 m3 m4 m5 m6 m7 m8 m9 m10 m11) 4 [(0, .ref 11000), (1, .int x1), (2, .int x2), (3, .int x3)] [.int r11] [m0, m1, m2, m3, m4, m5, m6, m7, m8, m9, m10, m11] _
  refine K_if_ne 10 dX7_set_4 rfl (fun _ => ?_) (fun _ => ?_)
  · refine K_aload_n 0 dX7_set_10 rfl ?_
    refine K_get (v := .ref 5000) dX7_set_11 fl_X7_10 kl_11000 rfl rfl ?_
    refine K_iload_n 1 dX7_set_14 rfl ?_
    refine K_callV (E' := e_X6_isMissing m0 m1 m2 m3 m4 m5 m6 m7 m8 m9 m10 m11) (b := 5000) (As := [.int x1]) (rest := []) dX7_set_15 ml_X7_85 (mf_X6_isMissing 1) mv_X6_isMissing (fun hj r hr => c_X6_isMissing hj m0 m1 m2 m3 m4 m5 m6 m7 m8 m9 m10 m11 x1 hr) (rcv_obj (q := (RX6, TX6, 3)) kl_5000 rfl) rfl rfl (Nat.le_of_ble_eq_true rfl) (Nat.le_of_ble_eq_true rfl) (fun r12 => ?_)
    show K G (mi_X7_set 3) (e_X7_set m0 m1 m2 m3 m4 m5 m6 m7 m8 m9 m10 m11) 18 [(0, .ref 11000), (1, .int x1), (2, .int x2), (3, .int x3)] [.int r12] [m0, m1, m2, m3, m4, m5, m6, m7, m8, m9, m10, m11] _
    refine K_if_eq 27 dX7_set_18 rfl (fun _ => ?_) (fun _ => ?_)
    · refine K_aload_n 0 dX7_set_27 rfl ?_
      refine K_get (v := .ref 5000) dX7_set_28 fl_X7_10 kl_11000 rfl rfl ?_
      refine K_iload_n 1 dX7_set_31 rfl ?_
      refine K_iload_n 2 dX7_set_32 rfl ?_
      refine K_iconst (v := 1) dX7_set_33 (by decide) ?_
      refine K_callV (E' := e_X6_hasStretch m0 m1 m2 m3 m4 m5 m6 m7 m8 m9 m10 m11) (b := 5000) (As := [.int x1, .int x2, .int 1]) (rest := []) dX7_set_34 ml_X7_88 (mf_X6_hasStretch 1) mv_X6_hasStretch (fun hj r hr => c_X6_hasStretch hj m0 m1 m2 m3 m4 m5 m6 m7 m8 m9 m10 m11 x1 x2 (1 : Int32) hr) (rcv_obj (q := (RX6, TX6, 3)) kl_5000 rfl) rfl rfl (Nat.le_of_ble_eq_true rfl) (Nat.le_of_ble_eq_true rfl) (fun r13 => ?_)
      show K G (mi_X7_set 3) (e_X7_set m0 m1 m2 m3 m4 m5 m6 m7 m8 m9 m10 m11) 37 [(0, .ref 11000), (1, .int x1), (2, .int x2), (3, .int x3)] [.int r13] [m0, m1, m2, m3, m4, m5, m6, m7, m8, m9, m10, m11] _
      refine K_if_ne 46 dX7_set_37 rfl (fun _ => ?_) (fun _ => ?_)
      · refine K_aload_n 0 dX7_set_46 rfl ?_
        refine K_aload_n 0 dX7_set_47 rfl ?_
        refine K_get (v := .ref 5000) dX7_set_48 fl_X7_10 kl_11000 rfl rfl ?_
        refine K_iload_n 1 dX7_set_51 rfl ?_
        refine K_iload_n 2 dX7_set_52 rfl ?_
        refine K_iload_n 3 dX7_set_53 rfl ?_
        refine K_callV (E' := e_X6_put m0 m1 m2 m3 m4 m5 m6 m7 m8 m9 m10 m11) (b := 5000) (As := [.int x1, .int x2, .int x3]) (rest := [.ref 11000]) dX7_set_54 ml_X7_92 (mf_X6_put 2) mv_X6_put (fun hj r hr => c_X6_put hj m0 m1 m2 m3 m4 m5 m6 m7 m8 m9 m10 m11 x1 x2 x3 hr) (rcv_obj (q := (RX6, TX6, 3)) kl_5000 rfl) rfl rfl (Nat.le_of_ble_eq_true rfl) (Nat.le_of_ble_eq_true rfl) (fun r14 => ?_)
        show K G (mi_X7_set 3) (e_X7_set m0 m1 m2 m3 m4 m5 m6 m7 m8 m9 m10 m11) 57 [(0, .ref 11000), (1, .int x1), (2, .int x2), (3, .int x3)] [.int r14.1, .ref 11000] [m0, m1, m2, m3, m4, r14.2, m6, m7, m8, m9, m10, m11] _
        refine K_callV (E' := e_X7_fine m0 m1 m2 m3 m4 r14.2 m6 m7 m8 m9 m10 m11) (b := 11000) (As := [.int r14.1]) (rest := []) dX7_set_57 ml_X7_82 (mf_X7_fine 1) mv_X7_fine (fun hj r hr => c_X7_fine hj m0 m1 m2 m3 m4 r14.2 m6 m7 m8 m9 m10 m11 r14.1 hr) (rcv_obj (q := (RX7, TX7, 10)) kl_11000 rfl) rfl rfl (Nat.le_of_ble_eq_true rfl) (Nat.le_of_ble_eq_true rfl) (fun r15 => ?_)
        show K G (mi_X7_set 3) (e_X7_set m0 m1 m2 m3 m4 m5 m6 m7 m8 m9 m10 m11) 60 [(0, .ref 11000), (1, .int x1), (2, .int x2), (3, .int x3)] [.int r15.1] [m0, m1, m2, m3, m4, r14.2, m6, m7, m8, m9, m10, r15.2] _
        exact K_ret (rv := some (.int r15.1)) dX7_set_60 rfl rfl rfl
      · refine K_aload_n 0 dX7_set_40 rfl ?_
        refine K_iconst (v := 2) dX7_set_41 (by decide) ?_
        refine K_callV (E' := e_X7_found m0 m1 m2 m3 m4 m5 m6 m7 m8 m9 m10 m11) (b := 11000) (As := [.int 2]) (rest := []) dX7_set_42 ml_X7_74 (mf_X7_found 1) mv_X7_found (fun hj r hr => c_X7_found hj m0 m1 m2 m3 m4 m5 m6 m7 m8 m9 m10 m11 (2 : Int32) hr) (rcv_obj (q := (RX7, TX7, 10)) kl_11000 rfl) rfl rfl (Nat.le_of_ble_eq_true rfl) (Nat.le_of_ble_eq_true rfl) (fun r16 => ?_)
        show K G (mi_X7_set 3) (e_X7_set m0 m1 m2 m3 m4 m5 m6 m7 m8 m9 m10 m11) 45 [(0, .ref 11000), (1, .int x1), (2, .int x2), (3, .int x3)] [.int r16.1] [m0, m1, m2, m3, m4, m5, m6, m7, m8, m9, m10, r16.2] _
        exact K_ret (rv := some (.int r16.1)) dX7_set_45 rfl rfl rfl
    · refine K_aload_n 0 dX7_set_21 rfl ?_
      refine K_iconst (v := 1) dX7_set_22 (by decide) ?_
      refine K_callV (E' := e_X7_found m0 m1 m2 m3 m4 m5 m6 m7 m8 m9 m10 m11) (b := 11000) (As := [.int 1]) (rest := []) dX7_set_23 ml_X7_74 (mf_X7_found 1) mv_X7_found (fun hj r hr => c_X7_found hj m0 m1 m2 m3 m4 m5 m6 m7 m8 m9 m10 m11 (1 : Int32) hr) (rcv_obj (q := (RX7, TX7, 10)) kl_11000 rfl) rfl rfl (Nat.le_of_ble_eq_true rfl) (Nat.le_of_ble_eq_true rfl) (fun r17 => ?_)
      show K G (mi_X7_set 3) (e_X7_set m0 m1 m2 m3 m4 m5 m6 m7 m8 m9 m10 m11) 26 [(0, .ref 11000), (1, .int x1), (2, .int x2), (3, .int x3)] [.int r17.1] [m0, m1, m2, m3, m4, m5, m6, m7, m8, m9, m10, r17.2] _
      exact K_ret (rv := some (.int r17.1)) dX7_set_26 rfl rfl rfl
  · refine K_ldc (v := (-1000001)) dX7_set_7 cst_X7_73 ?_
    exact K_ret (rv := some (.int (-1000001))) dX7_set_9 rfl rfl rfl
theorem c_X7_set {G : GE} (hj : dj G) (m0 m1 m2 m3 m4 m5 m6 m7 m8 m9 m10 m11 : Mem) (x1 : Int32) (x2 : Int32) (x3 : Int32) {r : Int32 × Mem × Mem} (hr : f_X7_set m5 m11 x1 x2 x3 = some r) : Ctr G yX7_set (mi_X7_set 3) [.ref 11000, .int x1, .int x2, .int x3] [m0, m1, m2, m3, m4, m5, m6, m7, m8, m9, m10, m11] ((e_X7_set m0 m1 m2 m3 m4 m5 m6 m7 m8 m9 m10 m11) r).1 ((e_X7_set m0 m1 m2 m3 m4 m5 m6 m7 m8 m9 m10 m11) r).2 := Ctr_of hj (by decide) rfl hr rfl (Nat.le_of_ble_eq_true rfl) (k_X7_set m0 m1 m2 m3 m4 m5 m6 m7 m8 m9 m10 m11 x1 x2 x3)
abbrev e_X6_areOfOneLane (m0 m1 m2 m3 m4 m5 m6 m7 m8 m9 m10 m11 : Mem) : Int32 → Option Value × List Mem := fun r => (some (.int r), [m0, m1, m2, m3, m4, m5, m6, m7, m8, m9, m10, m11])
theorem k_X6_areOfOneLane {G : GE} (m0 m1 m2 m3 m4 m5 m6 m7 m8 m9 m10 m11 : Mem) (x1 : Int32) (x2 : Int32) : K G (mi_X6_areOfOneLane 1) (e_X6_areOfOneLane m0 m1 m2 m3 m4 m5 m6 m7 m8 m9 m10 m11) 0 [(0, .ref 5000), (1, .int x1), (2, .int x2)] [] [m0, m1, m2, m3, m4, m5, m6, m7, m8, m9, m10, m11] (f_X6_areOfOneLane m5 x1 x2) := by
  unfold f_X6_areOfOneLane
  refine K_aload_n 0 dX6_areOfOneLane_0 rfl ?_
  refine K_get (v := .ref 5001) dX6_areOfOneLane_1 fl_X6_9 kl_5000 rfl rfl ?_
  refine K_iload_n 1 dX6_areOfOneLane_4 rfl ?_
  refine K_iald (f := m5 1) dX6_areOfOneLane_5 kl_5001 rfl ?_
  refine K_aload_n 0 dX6_areOfOneLane_6 rfl ?_
  refine K_get (v := .ref 5001) dX6_areOfOneLane_7 fl_X6_9 kl_5000 rfl rfl ?_
  refine K_iload_n 2 dX6_areOfOneLane_10 rfl ?_
  refine K_iald (f := m5 1) dX6_areOfOneLane_11 kl_5001 rfl ?_
  refine K_icmp_ne 19 dX6_areOfOneLane_12 rfl (fun _ => ?_) (fun _ => ?_)
  · refine K_iconst (v := 0) dX6_areOfOneLane_19 (by decide) ?_
    exact K_ret (rv := some (.int 0)) dX6_areOfOneLane_20 rfl rfl rfl
  · refine K_iconst (v := 1) dX6_areOfOneLane_15 (by decide) ?_
    refine K_goto 20 dX6_areOfOneLane_16 rfl ?_
    exact K_ret (rv := some (.int 1)) dX6_areOfOneLane_20 rfl rfl rfl
theorem c_X6_areOfOneLane {G : GE} (hj : dj G) (m0 m1 m2 m3 m4 m5 m6 m7 m8 m9 m10 m11 : Mem) (x1 : Int32) (x2 : Int32) {r : Int32} (hr : f_X6_areOfOneLane m5 x1 x2 = some r) : Ctr G yX6_areOfOneLane (mi_X6_areOfOneLane 1) [.ref 5000, .int x1, .int x2] [m0, m1, m2, m3, m4, m5, m6, m7, m8, m9, m10, m11] ((e_X6_areOfOneLane m0 m1 m2 m3 m4 m5 m6 m7 m8 m9 m10 m11) r).1 ((e_X6_areOfOneLane m0 m1 m2 m3 m4 m5 m6 m7 m8 m9 m10 m11) r).2 := Ctr_of hj (by decide) rfl hr rfl (Nat.le_of_ble_eq_true rfl) (k_X6_areOfOneLane m0 m1 m2 m3 m4 m5 m6 m7 m8 m9 m10 m11 x1 x2)
abbrev e_X6_move (m0 m1 m2 m3 m4 m5 m6 m7 m8 m9 m10 m11 : Mem) : Mem → Option Value × List Mem := fun r => (none, [m0, m1, m2, m3, m4, r, m6, m7, m8, m9, m10, m11])
theorem k_X6_move {G : GE} (m0 m1 m2 m3 m4 m5 m6 m7 m8 m9 m10 m11 : Mem) (x1 : Int32) (x2 : Int32) (x3 : Int32) (x4 : Int32) (x5 : Int32) : K G (mi_X6_move 1) (e_X6_move m0 m1 m2 m3 m4 m5 m6 m7 m8 m9 m10 m11) 0 [(0, .ref 5000), (1, .int x1), (2, .int x2), (3, .int x3), (4, .int x4), (5, .int x5)] [] [m0, m1, m2, m3, m4, m5, m6, m7, m8, m9, m10, m11] (f_X6_move m5 x1 x2 x3 x4 x5) := by
  unfold f_X6_move
  refine K_aload_n 0 dX6_move_0 rfl ?_
  refine K_get (v := .ref 5003) dX6_move_1 fl_X6_20 kl_5000 rfl rfl ?_
  refine K_iload_n 1 dX6_move_4 rfl ?_
  refine K_aald dX6_move_5 kl_5003 (Or.inr rfl) (fun hb11 => ?_)
  refine K_iload_n 2 dX6_move_6 rfl ?_
  refine K_aload_n 0 dX6_move_7 rfl ?_
  refine K_get (v := .ref 5003) dX6_move_8 fl_X6_20 kl_5000 rfl rfl ?_
  refine K_iload_n 3 dX6_move_11 rfl ?_
  refine K_aald dX6_move_12 kl_5003 (Or.inr rfl) (fun hb12 => ?_)
  refine K_iload 4 dX6_move_13 rfl ?_
  refine K_iload 5 dX6_move_15 rfl ?_
  refine K_copy (Ms' := [m0, m1, m2, m3, m4, (upA m5 (10 + x3.toNatClampNeg) (va_cpy (m5 (10 + x1.toNatClampNeg)) (m5 (10 + x3.toNatClampNeg)) x2.toNatClampNeg x4.toNatClampNeg x5.toNatClampNeg)), m6, m7, m8, m9, m10, m11]) dX6_move_17 mlk_X6_33 acp.1 acp.2.1 acp.2.2 (Nat.le_of_ble_eq_true rfl) (Nat.le_of_ble_eq_true rfl) (kd_row hb11) (kd_row hb12) (row_len hb12 (Nat.le_of_ble_eq_true rfl)) (setc_rowC hb11 hb12) ?_
  refine K_nmm (fun w => [m0, m1, m2, m3, m4, w, m6, m7, m8, m9, m10, m11]) rfl (fun w13 => ?_)
  exact K_ret (rv := none) dX6_move_20 trivial rfl rfl
theorem c_X6_move {G : GE} (hj : dj G) (m0 m1 m2 m3 m4 m5 m6 m7 m8 m9 m10 m11 : Mem) (x1 : Int32) (x2 : Int32) (x3 : Int32) (x4 : Int32) (x5 : Int32) {r : Mem} (hr : f_X6_move m5 x1 x2 x3 x4 x5 = some r) : Ctr G yX6_move (mi_X6_move 1) [.ref 5000, .int x1, .int x2, .int x3, .int x4, .int x5] [m0, m1, m2, m3, m4, m5, m6, m7, m8, m9, m10, m11] ((e_X6_move m0 m1 m2 m3 m4 m5 m6 m7 m8 m9 m10 m11) r).1 ((e_X6_move m0 m1 m2 m3 m4 m5 m6 m7 m8 m9 m10 m11) r).2 := Ctr_of hj (by decide) rfl hr rfl (Nat.le_of_ble_eq_true rfl) (k_X6_move m0 m1 m2 m3 m4 m5 m6 m7 m8 m9 m10 m11 x1 x2 x3 x4 x5)
abbrev e_X7_copy (m0 m1 m2 m3 m4 m5 m6 m7 m8 m9 m10 m11 : Mem) : (Int32 × Mem × Mem) → Option Value × List Mem := fun r => (some (.int r.1), [m0, m1, m2, m3, m4, r.2.1, m6, m7, m8, m9, m10, r.2.2])
theorem k_X7_copy {G : GE} (m0 m1 m2 m3 m4 m5 m6 m7 m8 m9 m10 m11 : Mem) (x1 : Int32) (x2 : Int32) (x3 : Int32) (x4 : Int32) (x5 : Int32) : K G (mi_X7_copy 2) (e_X7_copy m0 m1 m2 m3 m4 m5 m6 m7 m8 m9 m10 m11) 0 [(0, .ref 11000), (1, .int x1), (2, .int x2), (3, .int x3), (4, .int x4), (5, .int x5)] [] [m0, m1, m2, m3, m4, m5, m6, m7, m8, m9, m10, m11] (f_X7_copy m5 m11 x1 x2 x3 x4 x5) := by
  unfold f_X7_copy
  refine K_iload_n 1 dX7_copy_0 rfl ?_
  refine K_callS (E' := e_X7_isRow [m0, m1, m2, m3, m4, m5, m6, m7, m8, m9, m10, m11]) (As := [.int x1]) (rest := []) dX7_copy_1 ml_X7_69 (mf_X7_isRow 1) ms_X7_isRow (fun hj r hr => c_X7_isRow hj [m0, m1, m2, m3, m4, m5, m6, m7, m8, m9, m10, m11] x1 hr) rfl rfl (Nat.le_of_ble_eq_true rfl) (Nat.le_of_ble_eq_true rfl) (fun r11 => ?_)
  show K G (mi_X7_copy 2) (e_X7_copy m0 m1 m2 m3 m4 m5 m6 m7 m8 m9 m10 m11) 4 [(0, .ref 11000), (1, .int x1), (2, .int x2), (3, .int x3), (4, .int x4), (5, .int x5)] [.int r11] [m0, m1, m2, m3, m4, m5, m6, m7, m8, m9, m10, m11] _
  refine K_if_eq 14 dX7_copy_4 rfl (fun _ => ?_) (fun _ => ?_)
  · refine K_ldc (v := (-1000001)) dX7_copy_14 cst_X7_73 ?_
    exact K_ret (rv := some (.int (-1000001))) dX7_copy_16 rfl rfl rfl
  · refine K_iload_n 3 dX7_copy_7 rfl ?_
    refine K_callS (E' := e_X7_isRow [m0, m1, m2, m3, m4, m5, m6, m7, m8, m9, m10, m11]) (As := [.int x3]) (rest := []) dX7_copy_8 ml_X7_69 (mf_X7_isRow 1) ms_X7_isRow (fun hj r hr => c_X7_isRow hj [m0, m1, m2, m3, m4, m5, m6, m7, m8, m9, m10, m11] x3 hr) rfl rfl (Nat.le_of_ble_eq_true rfl) (Nat.le_of_ble_eq_true rfl) (fun r12 => ?_)
    show K G (mi_X7_copy 2) (e_X7_copy m0 m1 m2 m3 m4 m5 m6 m7 m8 m9 m10 m11) 11 [(0, .ref 11000), (1, .int x1), (2, .int x2), (3, .int x3), (4, .int x4), (5, .int x5)] [.int r12] [m0, m1, m2, m3, m4, m5, m6, m7, m8, m9, m10, m11] _
    refine K_if_ne 17 dX7_copy_11 rfl (fun _ => ?_) (fun _ => ?_)
    · refine K_aload_n 0 dX7_copy_17 rfl ?_
      refine K_get (v := .ref 5000) dX7_copy_18 fl_X7_10 kl_11000 rfl rfl ?_
      refine K_iload_n 1 dX7_copy_21 rfl ?_
      refine K_callV (E' := e_X6_isMissing m0 m1 m2 m3 m4 m5 m6 m7 m8 m9 m10 m11) (b := 5000) (As := [.int x1]) (rest := []) dX7_copy_22 ml_X7_85 (mf_X6_isMissing 1) mv_X6_isMissing (fun hj r hr => c_X6_isMissing hj m0 m1 m2 m3 m4 m5 m6 m7 m8 m9 m10 m11 x1 hr) (rcv_obj (q := (RX6, TX6, 3)) kl_5000 rfl) rfl rfl (Nat.le_of_ble_eq_true rfl) (Nat.le_of_ble_eq_true rfl) (fun r13 => ?_)
      show K G (mi_X7_copy 2) (e_X7_copy m0 m1 m2 m3 m4 m5 m6 m7 m8 m9 m10 m11) 25 [(0, .ref 11000), (1, .int x1), (2, .int x2), (3, .int x3), (4, .int x4), (5, .int x5)] [.int r13] [m0, m1, m2, m3, m4, m5, m6, m7, m8, m9, m10, m11] _
      refine K_if_ne 39 dX7_copy_25 rfl (fun _ => ?_) (fun _ => ?_)
      · refine K_aload_n 0 dX7_copy_39 rfl ?_
        refine K_iconst (v := 1) dX7_copy_40 (by decide) ?_
        refine K_callV (E' := e_X7_found m0 m1 m2 m3 m4 m5 m6 m7 m8 m9 m10 m11) (b := 11000) (As := [.int 1]) (rest := []) dX7_copy_41 ml_X7_74 (mf_X7_found 1) mv_X7_found (fun hj r hr => c_X7_found hj m0 m1 m2 m3 m4 m5 m6 m7 m8 m9 m10 m11 (1 : Int32) hr) (rcv_obj (q := (RX7, TX7, 10)) kl_11000 rfl) rfl rfl (Nat.le_of_ble_eq_true rfl) (Nat.le_of_ble_eq_true rfl) (fun r14 => ?_)
        show K G (mi_X7_copy 2) (e_X7_copy m0 m1 m2 m3 m4 m5 m6 m7 m8 m9 m10 m11) 44 [(0, .ref 11000), (1, .int x1), (2, .int x2), (3, .int x3), (4, .int x4), (5, .int x5)] [.int r14.1] [m0, m1, m2, m3, m4, m5, m6, m7, m8, m9, m10, r14.2] _
        exact K_ret (rv := some (.int r14.1)) dX7_copy_44 rfl rfl rfl
      · refine K_aload_n 0 dX7_copy_28 rfl ?_
        refine K_get (v := .ref 5000) dX7_copy_29 fl_X7_10 kl_11000 rfl rfl ?_
        refine K_iload_n 3 dX7_copy_32 rfl ?_
        refine K_callV (E' := e_X6_isMissing m0 m1 m2 m3 m4 m5 m6 m7 m8 m9 m10 m11) (b := 5000) (As := [.int x3]) (rest := []) dX7_copy_33 ml_X7_85 (mf_X6_isMissing 1) mv_X6_isMissing (fun hj r hr => c_X6_isMissing hj m0 m1 m2 m3 m4 m5 m6 m7 m8 m9 m10 m11 x3 hr) (rcv_obj (q := (RX6, TX6, 3)) kl_5000 rfl) rfl rfl (Nat.le_of_ble_eq_true rfl) (Nat.le_of_ble_eq_true rfl) (fun r15 => ?_)
        show K G (mi_X7_copy 2) (e_X7_copy m0 m1 m2 m3 m4 m5 m6 m7 m8 m9 m10 m11) 36 [(0, .ref 11000), (1, .int x1), (2, .int x2), (3, .int x3), (4, .int x4), (5, .int x5)] [.int r15] [m0, m1, m2, m3, m4, m5, m6, m7, m8, m9, m10, m11] _
        refine K_if_eq 45 dX7_copy_36 rfl (fun _ => ?_) (fun _ => ?_)
        · refine K_aload_n 0 dX7_copy_45 rfl ?_
          refine K_get (v := .ref 5000) dX7_copy_46 fl_X7_10 kl_11000 rfl rfl ?_
          refine K_iload_n 1 dX7_copy_49 rfl ?_
          refine K_iload_n 3 dX7_copy_50 rfl ?_
          refine K_callV (E' := e_X6_areOfOneLane m0 m1 m2 m3 m4 m5 m6 m7 m8 m9 m10 m11) (b := 5000) (As := [.int x1, .int x3]) (rest := []) dX7_copy_51 ml_X7_96 (mf_X6_areOfOneLane 1) mv_X6_areOfOneLane (fun hj r hr => c_X6_areOfOneLane hj m0 m1 m2 m3 m4 m5 m6 m7 m8 m9 m10 m11 x1 x3 hr) (rcv_obj (q := (RX6, TX6, 3)) kl_5000 rfl) rfl rfl (Nat.le_of_ble_eq_true rfl) (Nat.le_of_ble_eq_true rfl) (fun r16 => ?_)
          show K G (mi_X7_copy 2) (e_X7_copy m0 m1 m2 m3 m4 m5 m6 m7 m8 m9 m10 m11) 54 [(0, .ref 11000), (1, .int x1), (2, .int x2), (3, .int x3), (4, .int x4), (5, .int x5)] [.int r16] [m0, m1, m2, m3, m4, m5, m6, m7, m8, m9, m10, m11] _
          refine K_if_ne 63 dX7_copy_54 rfl (fun _ => ?_) (fun _ => ?_)
          · refine K_aload_n 0 dX7_copy_63 rfl ?_
            refine K_get (v := .ref 5000) dX7_copy_64 fl_X7_10 kl_11000 rfl rfl ?_
            refine K_iload_n 1 dX7_copy_67 rfl ?_
            refine K_iload_n 2 dX7_copy_68 rfl ?_
            refine K_iload 5 dX7_copy_69 rfl ?_
            refine K_callV (E' := e_X6_hasStretch m0 m1 m2 m3 m4 m5 m6 m7 m8 m9 m10 m11) (b := 5000) (As := [.int x1, .int x2, .int x5]) (rest := []) dX7_copy_71 ml_X7_88 (mf_X6_hasStretch 1) mv_X6_hasStretch (fun hj r hr => c_X6_hasStretch hj m0 m1 m2 m3 m4 m5 m6 m7 m8 m9 m10 m11 x1 x2 x5 hr) (rcv_obj (q := (RX6, TX6, 3)) kl_5000 rfl) rfl rfl (Nat.le_of_ble_eq_true rfl) (Nat.le_of_ble_eq_true rfl) (fun r17 => ?_)
            show K G (mi_X7_copy 2) (e_X7_copy m0 m1 m2 m3 m4 m5 m6 m7 m8 m9 m10 m11) 74 [(0, .ref 11000), (1, .int x1), (2, .int x2), (3, .int x3), (4, .int x4), (5, .int x5)] [.int r17] [m0, m1, m2, m3, m4, m5, m6, m7, m8, m9, m10, m11] _
            refine K_if_eq 92 dX7_copy_74 rfl (fun _ => ?_) (fun _ => ?_)
            · refine K_aload_n 0 dX7_copy_92 rfl ?_
              refine K_iconst (v := 2) dX7_copy_93 (by decide) ?_
              refine K_callV (E' := e_X7_found m0 m1 m2 m3 m4 m5 m6 m7 m8 m9 m10 m11) (b := 11000) (As := [.int 2]) (rest := []) dX7_copy_94 ml_X7_74 (mf_X7_found 1) mv_X7_found (fun hj r hr => c_X7_found hj m0 m1 m2 m3 m4 m5 m6 m7 m8 m9 m10 m11 (2 : Int32) hr) (rcv_obj (q := (RX7, TX7, 10)) kl_11000 rfl) rfl rfl (Nat.le_of_ble_eq_true rfl) (Nat.le_of_ble_eq_true rfl) (fun r18 => ?_)
              show K G (mi_X7_copy 2) (e_X7_copy m0 m1 m2 m3 m4 m5 m6 m7 m8 m9 m10 m11) 97 [(0, .ref 11000), (1, .int x1), (2, .int x2), (3, .int x3), (4, .int x4), (5, .int x5)] [.int r18.1] [m0, m1, m2, m3, m4, m5, m6, m7, m8, m9, m10, r18.2] _
              exact K_ret (rv := some (.int r18.1)) dX7_copy_97 rfl rfl rfl
            · refine K_aload_n 0 dX7_copy_77 rfl ?_
              refine K_get (v := .ref 5000) dX7_copy_78 fl_X7_10 kl_11000 rfl rfl ?_
              refine K_iload_n 3 dX7_copy_81 rfl ?_
              refine K_iload 4 dX7_copy_82 rfl ?_
              refine K_iload 5 dX7_copy_84 rfl ?_
              refine K_callV (E' := e_X6_hasStretch m0 m1 m2 m3 m4 m5 m6 m7 m8 m9 m10 m11) (b := 5000) (As := [.int x3, .int x4, .int x5]) (rest := []) dX7_copy_86 ml_X7_88 (mf_X6_hasStretch 1) mv_X6_hasStretch (fun hj r hr => c_X6_hasStretch hj m0 m1 m2 m3 m4 m5 m6 m7 m8 m9 m10 m11 x3 x4 x5 hr) (rcv_obj (q := (RX6, TX6, 3)) kl_5000 rfl) rfl rfl (Nat.le_of_ble_eq_true rfl) (Nat.le_of_ble_eq_true rfl) (fun r19 => ?_)
              show K G (mi_X7_copy 2) (e_X7_copy m0 m1 m2 m3 m4 m5 m6 m7 m8 m9 m10 m11) 89 [(0, .ref 11000), (1, .int x1), (2, .int x2), (3, .int x3), (4, .int x4), (5, .int x5)] [.int r19] [m0, m1, m2, m3, m4, m5, m6, m7, m8, m9, m10, m11] _
              refine K_if_ne 98 dX7_copy_89 rfl (fun _ => ?_) (fun _ => ?_)
              · refine K_aload_n 0 dX7_copy_98 rfl ?_
                refine K_get (v := .ref 5000) dX7_copy_99 fl_X7_10 kl_11000 rfl rfl ?_
                refine K_iload_n 1 dX7_copy_102 rfl ?_
                refine K_iload_n 2 dX7_copy_103 rfl ?_
                refine K_iload_n 3 dX7_copy_104 rfl ?_
                refine K_iload 4 dX7_copy_105 rfl ?_
                refine K_iload 5 dX7_copy_107 rfl ?_
                refine K_callV (E' := e_X6_move m0 m1 m2 m3 m4 m5 m6 m7 m8 m9 m10 m11) (b := 5000) (As := [.int x1, .int x2, .int x3, .int x4, .int x5]) (rest := []) dX7_copy_109 ml_X7_100 (mf_X6_move 1) mv_X6_move (fun hj r hr => c_X6_move hj m0 m1 m2 m3 m4 m5 m6 m7 m8 m9 m10 m11 x1 x2 x3 x4 x5 hr) (rcv_obj (q := (RX6, TX6, 3)) kl_5000 rfl) rfl rfl (Nat.le_of_ble_eq_true rfl) (Nat.le_of_ble_eq_true rfl) (fun r20 => ?_)
                show K G (mi_X7_copy 2) (e_X7_copy m0 m1 m2 m3 m4 m5 m6 m7 m8 m9 m10 m11) 112 [(0, .ref 11000), (1, .int x1), (2, .int x2), (3, .int x3), (4, .int x4), (5, .int x5)] [] [m0, m1, m2, m3, m4, r20, m6, m7, m8, m9, m10, m11] _
                refine K_aload_n 0 dX7_copy_112 rfl ?_
                refine K_iload 5 dX7_copy_113 rfl ?_
                refine K_callV (E' := e_X7_fine m0 m1 m2 m3 m4 r20 m6 m7 m8 m9 m10 m11) (b := 11000) (As := [.int x5]) (rest := []) dX7_copy_115 ml_X7_82 (mf_X7_fine 1) mv_X7_fine (fun hj r hr => c_X7_fine hj m0 m1 m2 m3 m4 r20 m6 m7 m8 m9 m10 m11 x5 hr) (rcv_obj (q := (RX7, TX7, 10)) kl_11000 rfl) rfl rfl (Nat.le_of_ble_eq_true rfl) (Nat.le_of_ble_eq_true rfl) (fun r21 => ?_)
                show K G (mi_X7_copy 2) (e_X7_copy m0 m1 m2 m3 m4 m5 m6 m7 m8 m9 m10 m11) 118 [(0, .ref 11000), (1, .int x1), (2, .int x2), (3, .int x3), (4, .int x4), (5, .int x5)] [.int r21.1] [m0, m1, m2, m3, m4, r20, m6, m7, m8, m9, m10, r21.2] _
                exact K_ret (rv := some (.int r21.1)) dX7_copy_118 rfl rfl rfl
              · refine K_aload_n 0 dX7_copy_92 rfl ?_
                refine K_iconst (v := 2) dX7_copy_93 (by decide) ?_
                refine K_callV (E' := e_X7_found m0 m1 m2 m3 m4 m5 m6 m7 m8 m9 m10 m11) (b := 11000) (As := [.int 2]) (rest := []) dX7_copy_94 ml_X7_74 (mf_X7_found 1) mv_X7_found (fun hj r hr => c_X7_found hj m0 m1 m2 m3 m4 m5 m6 m7 m8 m9 m10 m11 (2 : Int32) hr) (rcv_obj (q := (RX7, TX7, 10)) kl_11000 rfl) rfl rfl (Nat.le_of_ble_eq_true rfl) (Nat.le_of_ble_eq_true rfl) (fun r22 => ?_)
                show K G (mi_X7_copy 2) (e_X7_copy m0 m1 m2 m3 m4 m5 m6 m7 m8 m9 m10 m11) 97 [(0, .ref 11000), (1, .int x1), (2, .int x2), (3, .int x3), (4, .int x4), (5, .int x5)] [.int r22.1] [m0, m1, m2, m3, m4, m5, m6, m7, m8, m9, m10, r22.2] _
                exact K_ret (rv := some (.int r22.1)) dX7_copy_97 rfl rfl rfl
          · refine K_aload_n 0 dX7_copy_57 rfl ?_
            refine K_iconst (v := 5) dX7_copy_58 (by decide) ?_
            refine K_callV (E' := e_X7_found m0 m1 m2 m3 m4 m5 m6 m7 m8 m9 m10 m11) (b := 11000) (As := [.int 5]) (rest := []) dX7_copy_59 ml_X7_74 (mf_X7_found 1) mv_X7_found (fun hj r hr => c_X7_found hj m0 m1 m2 m3 m4 m5 m6 m7 m8 m9 m10 m11 (5 : Int32) hr) (rcv_obj (q := (RX7, TX7, 10)) kl_11000 rfl) rfl rfl (Nat.le_of_ble_eq_true rfl) (Nat.le_of_ble_eq_true rfl) (fun r23 => ?_)
            show K G (mi_X7_copy 2) (e_X7_copy m0 m1 m2 m3 m4 m5 m6 m7 m8 m9 m10 m11) 62 [(0, .ref 11000), (1, .int x1), (2, .int x2), (3, .int x3), (4, .int x4), (5, .int x5)] [.int r23.1] [m0, m1, m2, m3, m4, m5, m6, m7, m8, m9, m10, r23.2] _
            exact K_ret (rv := some (.int r23.1)) dX7_copy_62 rfl rfl rfl
        · refine K_aload_n 0 dX7_copy_39 rfl ?_
          refine K_iconst (v := 1) dX7_copy_40 (by decide) ?_
          refine K_callV (E' := e_X7_found m0 m1 m2 m3 m4 m5 m6 m7 m8 m9 m10 m11) (b := 11000) (As := [.int 1]) (rest := []) dX7_copy_41 ml_X7_74 (mf_X7_found 1) mv_X7_found (fun hj r hr => c_X7_found hj m0 m1 m2 m3 m4 m5 m6 m7 m8 m9 m10 m11 (1 : Int32) hr) (rcv_obj (q := (RX7, TX7, 10)) kl_11000 rfl) rfl rfl (Nat.le_of_ble_eq_true rfl) (Nat.le_of_ble_eq_true rfl) (fun r24 => ?_)
          show K G (mi_X7_copy 2) (e_X7_copy m0 m1 m2 m3 m4 m5 m6 m7 m8 m9 m10 m11) 44 [(0, .ref 11000), (1, .int x1), (2, .int x2), (3, .int x3), (4, .int x4), (5, .int x5)] [.int r24.1] [m0, m1, m2, m3, m4, m5, m6, m7, m8, m9, m10, r24.2] _
          exact K_ret (rv := some (.int r24.1)) dX7_copy_44 rfl rfl rfl
    · refine K_ldc (v := (-1000001)) dX7_copy_14 cst_X7_73 ?_
      exact K_ret (rv := some (.int (-1000001))) dX7_copy_16 rfl rfl rfl
theorem c_X7_copy {G : GE} (hj : dj G) (m0 m1 m2 m3 m4 m5 m6 m7 m8 m9 m10 m11 : Mem) (x1 : Int32) (x2 : Int32) (x3 : Int32) (x4 : Int32) (x5 : Int32) {r : Int32 × Mem × Mem} (hr : f_X7_copy m5 m11 x1 x2 x3 x4 x5 = some r) : Ctr G yX7_copy (mi_X7_copy 2) [.ref 11000, .int x1, .int x2, .int x3, .int x4, .int x5] [m0, m1, m2, m3, m4, m5, m6, m7, m8, m9, m10, m11] ((e_X7_copy m0 m1 m2 m3 m4 m5 m6 m7 m8 m9 m10 m11) r).1 ((e_X7_copy m0 m1 m2 m3 m4 m5 m6 m7 m8 m9 m10 m11) r).2 := Ctr_of hj (by decide) rfl hr rfl (Nat.le_of_ble_eq_true rfl) (k_X7_copy m0 m1 m2 m3 m4 m5 m6 m7 m8 m9 m10 m11 x1 x2 x3 x4 x5)
abbrev e_X6_takeAway (m0 m1 m2 m3 m4 m5 m6 m7 m8 m9 m10 m11 : Mem) : (Int32 × Mem) → Option Value × List Mem := fun r => (some (.int r.1), [m0, m1, m2, m3, m4, r.2, m6, m7, m8, m9, m10, m11])
theorem k_X6_takeAway {G : GE} (m0 m1 m2 m3 m4 m5 m6 m7 m8 m9 m10 m11 : Mem) (x1 : Int32) : K G (mi_X6_takeAway 1) (e_X6_takeAway m0 m1 m2 m3 m4 m5 m6 m7 m8 m9 m10 m11) 0 [(0, .ref 5000), (1, .int x1)] [] [m0, m1, m2, m3, m4, m5, m6, m7, m8, m9, m10, m11] (f_X6_takeAway m5 x1) := by
  unfold f_X6_takeAway
  refine K_aload_n 0 dX6_takeAway_0 rfl ?_
  refine K_get (v := .ref 5001) dX6_takeAway_1 fl_X6_9 kl_5000 rfl rfl ?_
  refine K_iload_n 1 dX6_takeAway_4 rfl ?_
  refine K_iconst (v := (-1)) dX6_takeAway_5 (by decide) ?_
  refine K_iast (Ms' := [m0, m1, m2, m3, m4, (up m5 1 x1.toNatClampNeg (-1)), m6, m7, m8, m9, m10, m11]) dX6_takeAway_6 kl_5001 (Nat.le_of_ble_eq_true rfl) rfl ?_
  refine K_nmm (fun w => [m0, m1, m2, m3, m4, w, m6, m7, m8, m9, m10, m11]) rfl (fun w11 => ?_)
  refine K_aload_n 0 dX6_takeAway_7 rfl ?_
  refine K_get (v := .ref 5002) dX6_takeAway_8 fl_X6_15 kl_5000 rfl rfl ?_
  refine K_iload_n 1 dX6_takeAway_11 rfl ?_
  refine K_iald (f := w11 2) dX6_takeAway_12 kl_5002 rfl ?_
  exact K_ret (rv := some (.int (w11 2 x1.toNatClampNeg))) dX6_takeAway_13 rfl rfl rfl
theorem c_X6_takeAway {G : GE} (hj : dj G) (m0 m1 m2 m3 m4 m5 m6 m7 m8 m9 m10 m11 : Mem) (x1 : Int32) {r : Int32 × Mem} (hr : f_X6_takeAway m5 x1 = some r) : Ctr G yX6_takeAway (mi_X6_takeAway 1) [.ref 5000, .int x1] [m0, m1, m2, m3, m4, m5, m6, m7, m8, m9, m10, m11] ((e_X6_takeAway m0 m1 m2 m3 m4 m5 m6 m7 m8 m9 m10 m11) r).1 ((e_X6_takeAway m0 m1 m2 m3 m4 m5 m6 m7 m8 m9 m10 m11) r).2 := Ctr_of hj (by decide) rfl hr rfl (Nat.le_of_ble_eq_true rfl) (k_X6_takeAway m0 m1 m2 m3 m4 m5 m6 m7 m8 m9 m10 m11 x1)
abbrev e_X7_drop (m0 m1 m2 m3 m4 m5 m6 m7 m8 m9 m10 m11 : Mem) : (Int32 × Mem × Mem) → Option Value × List Mem := fun r => (some (.int r.1), [m0, m1, m2, m3, m4, r.2.1, m6, m7, m8, m9, m10, r.2.2])
theorem k_X7_drop {G : GE} (m0 m1 m2 m3 m4 m5 m6 m7 m8 m9 m10 m11 : Mem) (x1 : Int32) : K G (mi_X7_drop 2) (e_X7_drop m0 m1 m2 m3 m4 m5 m6 m7 m8 m9 m10 m11) 0 [(0, .ref 11000), (1, .int x1)] [] [m0, m1, m2, m3, m4, m5, m6, m7, m8, m9, m10, m11] (f_X7_drop m5 m11 x1) := by
  unfold f_X7_drop
  refine K_iload_n 1 dX7_drop_0 rfl ?_
  refine K_callS (E' := e_X7_isRow [m0, m1, m2, m3, m4, m5, m6, m7, m8, m9, m10, m11]) (As := [.int x1]) (rest := []) dX7_drop_1 ml_X7_69 (mf_X7_isRow 1) ms_X7_isRow (fun hj r hr => c_X7_isRow hj [m0, m1, m2, m3, m4, m5, m6, m7, m8, m9, m10, m11] x1 hr) rfl rfl (Nat.le_of_ble_eq_true rfl) (Nat.le_of_ble_eq_true rfl) (fun r11 => ?_)
  show K G (mi_X7_drop 2) (e_X7_drop m0 m1 m2 m3 m4 m5 m6 m7 m8 m9 m10 m11) 4 [(0, .ref 11000), (1, .int x1)] [.int r11] [m0, m1, m2, m3, m4, m5, m6, m7, m8, m9, m10, m11] _
  refine K_if_ne 10 dX7_drop_4 rfl (fun _ => ?_) (fun _ => ?_)
  · refine K_aload_n 0 dX7_drop_10 rfl ?_
    refine K_get (v := .ref 5000) dX7_drop_11 fl_X7_10 kl_11000 rfl rfl ?_
    refine K_iload_n 1 dX7_drop_14 rfl ?_
    refine K_callV (E' := e_X6_isMissing m0 m1 m2 m3 m4 m5 m6 m7 m8 m9 m10 m11) (b := 5000) (As := [.int x1]) (rest := []) dX7_drop_15 ml_X7_85 (mf_X6_isMissing 1) mv_X6_isMissing (fun hj r hr => c_X6_isMissing hj m0 m1 m2 m3 m4 m5 m6 m7 m8 m9 m10 m11 x1 hr) (rcv_obj (q := (RX6, TX6, 3)) kl_5000 rfl) rfl rfl (Nat.le_of_ble_eq_true rfl) (Nat.le_of_ble_eq_true rfl) (fun r12 => ?_)
    show K G (mi_X7_drop 2) (e_X7_drop m0 m1 m2 m3 m4 m5 m6 m7 m8 m9 m10 m11) 18 [(0, .ref 11000), (1, .int x1)] [.int r12] [m0, m1, m2, m3, m4, m5, m6, m7, m8, m9, m10, m11] _
    refine K_if_eq 27 dX7_drop_18 rfl (fun _ => ?_) (fun _ => ?_)
    · refine K_aload_n 0 dX7_drop_27 rfl ?_
      refine K_aload_n 0 dX7_drop_28 rfl ?_
      refine K_get (v := .ref 5000) dX7_drop_29 fl_X7_10 kl_11000 rfl rfl ?_
      refine K_iload_n 1 dX7_drop_32 rfl ?_
      refine K_callV (E' := e_X6_takeAway m0 m1 m2 m3 m4 m5 m6 m7 m8 m9 m10 m11) (b := 5000) (As := [.int x1]) (rest := [.ref 11000]) dX7_drop_33 ml_X7_104 (mf_X6_takeAway 1) mv_X6_takeAway (fun hj r hr => c_X6_takeAway hj m0 m1 m2 m3 m4 m5 m6 m7 m8 m9 m10 m11 x1 hr) (rcv_obj (q := (RX6, TX6, 3)) kl_5000 rfl) rfl rfl (Nat.le_of_ble_eq_true rfl) (Nat.le_of_ble_eq_true rfl) (fun r13 => ?_)
      show K G (mi_X7_drop 2) (e_X7_drop m0 m1 m2 m3 m4 m5 m6 m7 m8 m9 m10 m11) 36 [(0, .ref 11000), (1, .int x1)] [.int r13.1, .ref 11000] [m0, m1, m2, m3, m4, r13.2, m6, m7, m8, m9, m10, m11] _
      refine K_callV (E' := e_X7_fine m0 m1 m2 m3 m4 r13.2 m6 m7 m8 m9 m10 m11) (b := 11000) (As := [.int r13.1]) (rest := []) dX7_drop_36 ml_X7_82 (mf_X7_fine 1) mv_X7_fine (fun hj r hr => c_X7_fine hj m0 m1 m2 m3 m4 r13.2 m6 m7 m8 m9 m10 m11 r13.1 hr) (rcv_obj (q := (RX7, TX7, 10)) kl_11000 rfl) rfl rfl (Nat.le_of_ble_eq_true rfl) (Nat.le_of_ble_eq_true rfl) (fun r14 => ?_)
      show K G (mi_X7_drop 2) (e_X7_drop m0 m1 m2 m3 m4 m5 m6 m7 m8 m9 m10 m11) 39 [(0, .ref 11000), (1, .int x1)] [.int r14.1] [m0, m1, m2, m3, m4, r13.2, m6, m7, m8, m9, m10, r14.2] _
      exact K_ret (rv := some (.int r14.1)) dX7_drop_39 rfl rfl rfl
    · refine K_aload_n 0 dX7_drop_21 rfl ?_
      refine K_iconst (v := 1) dX7_drop_22 (by decide) ?_
      refine K_callV (E' := e_X7_found m0 m1 m2 m3 m4 m5 m6 m7 m8 m9 m10 m11) (b := 11000) (As := [.int 1]) (rest := []) dX7_drop_23 ml_X7_74 (mf_X7_found 1) mv_X7_found (fun hj r hr => c_X7_found hj m0 m1 m2 m3 m4 m5 m6 m7 m8 m9 m10 m11 (1 : Int32) hr) (rcv_obj (q := (RX7, TX7, 10)) kl_11000 rfl) rfl rfl (Nat.le_of_ble_eq_true rfl) (Nat.le_of_ble_eq_true rfl) (fun r15 => ?_)
      show K G (mi_X7_drop 2) (e_X7_drop m0 m1 m2 m3 m4 m5 m6 m7 m8 m9 m10 m11) 26 [(0, .ref 11000), (1, .int x1)] [.int r15.1] [m0, m1, m2, m3, m4, m5, m6, m7, m8, m9, m10, r15.2] _
      exact K_ret (rv := some (.int r15.1)) dX7_drop_26 rfl rfl rfl
  · refine K_ldc (v := (-1000001)) dX7_drop_7 cst_X7_73 ?_
    exact K_ret (rv := some (.int (-1000001))) dX7_drop_9 rfl rfl rfl
theorem c_X7_drop {G : GE} (hj : dj G) (m0 m1 m2 m3 m4 m5 m6 m7 m8 m9 m10 m11 : Mem) (x1 : Int32) {r : Int32 × Mem × Mem} (hr : f_X7_drop m5 m11 x1 = some r) : Ctr G yX7_drop (mi_X7_drop 2) [.ref 11000, .int x1] [m0, m1, m2, m3, m4, m5, m6, m7, m8, m9, m10, m11] ((e_X7_drop m0 m1 m2 m3 m4 m5 m6 m7 m8 m9 m10 m11) r).1 ((e_X7_drop m0 m1 m2 m3 m4 m5 m6 m7 m8 m9 m10 m11) r).2 := Ctr_of hj (by decide) rfl hr rfl (Nat.le_of_ble_eq_true rfl) (k_X7_drop m0 m1 m2 m3 m4 m5 m6 m7 m8 m9 m10 m11 x1)
abbrev e_X5_append (m0 m1 m2 m3 m4 m5 m6 m7 m8 m9 m10 m11 : Mem) : (Int32 × Mem) → Option Value × List Mem := fun r => (some (.int r.1), [m0, m1, m2, m3, r.2, m5, m6, m7, m8, m9, m10, m11])
theorem k_X5_append_L20 {G : GE} (m0 m1 m2 m3 m4 m5 m6 m7 m8 m9 m10 m11 : Mem) (x1 : Int64) (k : Int32 → Mem → Option (Int32 × Mem)) (hk : ∀ (u12 : Int32) (w13 : Mem), K G (mi_X5_append 1) (e_X5_append m0 m1 m2 m3 m4 m5 m6 m7 m8 m9 m10 m11) 59 [(0, .ref 4000), (1, .long x1), (4, .int u12)] [] [m0, m1, m2, m3, w13, m5, m6, m7, m8, m9, m10, m11] (k u12 w13)) : ∀ (t : Nat) (u12 : Int32) (w13 : Mem), K G (mi_X5_append 1) (e_X5_append m0 m1 m2 m3 m4 m5 m6 m7 m8 m9 m10 m11) 20 [(0, .ref 4000), (1, .long x1), (4, .int u12)] [] [m0, m1, m2, m3, w13, m5, m6, m7, m8, m9, m10, m11] (f_X5_append_L20 k x1 t u12 w13) := by
  intro t
  induction t with
  | zero => intro u12 w13; exact K_none
  | succ t ih =>
    intro u12 w13
    rw [f_X5_append_L20]
    refine K_iload 2 dX5_append_20 rfl ?_
    refine K_if_lt 59 dX5_append_22 rfl (fun _ => ?_) (fun _ => ?_)
    · refine K_loc [0, 1, 2] (lv' := [(0, .ref 4000), (1, .long x1), (4, .int u12)]) rfl ?_
      exact hk u12 w13
    · refine K_aload_n 0 dX5_append_25 rfl ?_
      refine K_get (v := .ref 4001) dX5_append_26 fl_X5_9 kl_4000 rfl rfl ?_
      refine K_aload_n 0 dX5_append_29 rfl ?_
      refine K_get (v := .int (w13 0 1)) dX5_append_30 fl_X5_15 kl_4000 rfl rfl ?_
      refine K_lload_n 1 dX5_append_33 rfl ?_
      refine K_bipush (v := 8) dX5_append_34 (by decide) ?_
      refine K_iload 2 dX5_append_36 rfl ?_
      refine K_imul dX5_append_38 ?_
      refine K_lshr dX5_append_39 ?_
      refine K_l2i dX5_append_40 ?_
      refine K_i2b dX5_append_41 ?_
      refine K_bast (Ms' := [m0, m1, m2, m3, (up w13 1 (w13 0 1).toNatClampNeg (vp_nar .byte (((x1 >>> ((8 * u12).toInt64 &&& 63)).toInt32).toInt8.toInt32))), m5, m6, m7, m8, m9, m10, m11]) dX5_append_42 kl_4001 (Nat.le_of_ble_eq_true rfl) rfl ?_
      refine K_nmm (fun w => [m0, m1, m2, m3, w, m5, m6, m7, m8, m9, m10, m11]) rfl (fun w14 => ?_)
      refine K_aload_n 0 dX5_append_43 rfl ?_
      refine K_dup dX5_append_44 rfl ?_
      refine K_get (v := .int (w14 0 1)) dX5_append_45 fl_X5_15 kl_4000 rfl rfl ?_
      refine K_iconst (v := 1) dX5_append_48 (by decide) ?_
      refine K_iadd dX5_append_49 ?_
      refine K_put (Ms' := [m0, m1, m2, m3, (up w14 0 1 ((w14 0 1) + 1)), m5, m6, m7, m8, m9, m10, m11]) dX5_append_50 fp_X5_15 kl_4000 rfl rfl rfl (Nat.le_of_ble_eq_true rfl) rfl ?_
      refine K_nmm (fun w => [m0, m1, m2, m3, w, m5, m6, m7, m8, m9, m10, m11]) rfl (fun w15 => ?_)
      refine K_iinc 2 (w := u12 + (-1)) (lv' := [(4, .int (u12 + (-1))), (0, .ref 4000), (1, .long x1)]) dX5_append_53 rfl rfl (by decide) rfl ?_
      refine K_goto 20 dX5_append_56 rfl ?_
      refine K_loc [1, 2, 0] (lv' := [(0, .ref 4000), (1, .long x1), (4, .int (u12 + (-1)))]) rfl ?_
      exact ih (u12 + (-1)) w15
theorem k_X5_append {G : GE} (m0 m1 m2 m3 m4 m5 m6 m7 m8 m9 m10 m11 : Mem) (x1 : Int64) (x3 : Int32) : K G (mi_X5_append 1) (e_X5_append m0 m1 m2 m3 m4 m5 m6 m7 m8 m9 m10 m11) 0 [(0, .ref 4000), (1, .long x1), (3, .int x3)] [] [m0, m1, m2, m3, m4, m5, m6, m7, m8, m9, m10, m11] (f_X5_append m4 x1 x3) := by
  unfold f_X5_append
  refine K_iload_n 2 dX5_append_0 rfl ?_
  refine K_sipush (v := 500) dX5_append_1 (by decide) ?_
  refine K_aload_n 0 dX5_append_4 rfl ?_
  refine K_get (v := .int (m4 0 1)) dX5_append_5 fl_X5_15 kl_4000 rfl rfl ?_
  refine K_isub dX5_append_8 ?_
  refine K_icmp_le 15 dX5_append_9 rfl (fun _ => ?_) (fun _ => ?_)
  · refine K_iload_n 2 dX5_append_15 rfl ?_
    refine K_iconst (v := 1) dX5_append_16 (by decide) ?_
    refine K_isub dX5_append_17 ?_
    refine K_nmi (fun x11 => ?_)
    refine K_istore (lv' := [(4, .int x11), (0, .ref 4000), (1, .long x1), (3, .int x3)]) dX5_append_18 (by decide) rfl ?_
    refine K_loc [1, 2, 0] (lv' := [(0, .ref 4000), (1, .long x1), (4, .int x11)]) rfl ?_
    refine k_X5_append_L20  m0 m1 m2 m3 m4 m5 m6 m7 m8 m9 m10 m11 x1 _ (fun u16 w17 => ?_) 100000 x11 m4
    refine K_aload_n 0 dX5_append_59 rfl ?_
    refine K_get (v := .int (w17 0 1)) dX5_append_60 fl_X5_15 kl_4000 rfl rfl ?_
    exact K_ret (rv := some (.int (w17 0 1))) dX5_append_63 rfl rfl rfl
  · refine K_ldc (v := (-1000003)) dX5_append_12 cst_X5_25 ?_
    exact K_ret (rv := some (.int (-1000003))) dX5_append_14 rfl rfl rfl
theorem c_X5_append {G : GE} (hj : dj G) (m0 m1 m2 m3 m4 m5 m6 m7 m8 m9 m10 m11 : Mem) (x1 : Int64) (x3 : Int32) {r : Int32 × Mem} (hr : f_X5_append m4 x1 x3 = some r) : Ctr G yX5_append (mi_X5_append 1) [.ref 4000, .long x1, .int x3] [m0, m1, m2, m3, m4, m5, m6, m7, m8, m9, m10, m11] ((e_X5_append m0 m1 m2 m3 m4 m5 m6 m7 m8 m9 m10 m11) r).1 ((e_X5_append m0 m1 m2 m3 m4 m5 m6 m7 m8 m9 m10 m11) r).2 := Ctr_of hj (by decide) rfl hr rfl (Nat.le_of_ble_eq_true rfl) (k_X5_append m0 m1 m2 m3 m4 m5 m6 m7 m8 m9 m10 m11 x1 x3)
abbrev e_X7_feed (m0 m1 m2 m3 m4 m5 m6 m7 m8 m9 m10 m11 : Mem) : (Int32 × Mem) → Option Value × List Mem := fun r => (some (.int r.1), [m0, m1, m2, m3, r.2, m5, m6, m7, m8, m9, m10, m11])
theorem k_X7_feed {G : GE} (m0 m1 m2 m3 m4 m5 m6 m7 m8 m9 m10 m11 : Mem) (x1 : Int64) (x3 : Int32) : K G (mi_X7_feed 2) (e_X7_feed m0 m1 m2 m3 m4 m5 m6 m7 m8 m9 m10 m11) 0 [(0, .ref 11000), (1, .long x1), (3, .int x3)] [] [m0, m1, m2, m3, m4, m5, m6, m7, m8, m9, m10, m11] (f_X7_feed m4 x1 x3) := by
  unfold f_X7_feed
  refine K_iload_n 2 dX7_feed_0 rfl ?_
  refine K_iconst (v := 1) dX7_feed_1 (by decide) ?_
  refine K_icmp_lt 11 dX7_feed_2 rfl (fun _ => ?_) (fun _ => ?_)
  · refine K_ldc (v := (-1000001)) dX7_feed_11 cst_X7_73 ?_
    exact K_ret (rv := some (.int (-1000001))) dX7_feed_13 rfl rfl rfl
  · refine K_iload_n 2 dX7_feed_5 rfl ?_
    refine K_bipush (v := 8) dX7_feed_6 (by decide) ?_
    refine K_icmp_le 14 dX7_feed_8 rfl (fun _ => ?_) (fun _ => ?_)
    · refine K_aload_n 0 dX7_feed_14 rfl ?_
      refine K_get (v := .ref 4000) dX7_feed_15 fl_X7_19 kl_11000 rfl rfl ?_
      refine K_lload_n 1 dX7_feed_18 rfl ?_
      refine K_iload_n 2 dX7_feed_19 rfl ?_
      refine K_callV (E' := e_X5_append m0 m1 m2 m3 m4 m5 m6 m7 m8 m9 m10 m11) (b := 4000) (As := [.long x1, .int x3]) (rest := []) dX7_feed_20 ml_X7_107 (mf_X5_append 1) mv_X5_append (fun hj r hr => c_X5_append hj m0 m1 m2 m3 m4 m5 m6 m7 m8 m9 m10 m11 x1 x3 hr) (rcv_obj (q := (RX5, TX5, 9)) kl_4000 rfl) rfl rfl (Nat.le_of_ble_eq_true rfl) (Nat.le_of_ble_eq_true rfl) (fun r11 => ?_)
      show K G (mi_X7_feed 2) (e_X7_feed m0 m1 m2 m3 m4 m5 m6 m7 m8 m9 m10 m11) 23 [(0, .ref 11000), (1, .long x1), (3, .int x3)] [.int r11.1] [m0, m1, m2, m3, r11.2, m5, m6, m7, m8, m9, m10, m11] _
      exact K_ret (rv := some (.int r11.1)) dX7_feed_23 rfl rfl rfl
    · refine K_ldc (v := (-1000001)) dX7_feed_11 cst_X7_73 ?_
      exact K_ret (rv := some (.int (-1000001))) dX7_feed_13 rfl rfl rfl
theorem c_X7_feed {G : GE} (hj : dj G) (m0 m1 m2 m3 m4 m5 m6 m7 m8 m9 m10 m11 : Mem) (x1 : Int64) (x3 : Int32) {r : Int32 × Mem} (hr : f_X7_feed m4 x1 x3 = some r) : Ctr G yX7_feed (mi_X7_feed 2) [.ref 11000, .long x1, .int x3] [m0, m1, m2, m3, m4, m5, m6, m7, m8, m9, m10, m11] ((e_X7_feed m0 m1 m2 m3 m4 m5 m6 m7 m8 m9 m10 m11) r).1 ((e_X7_feed m0 m1 m2 m3 m4 m5 m6 m7 m8 m9 m10 m11) r).2 := Ctr_of hj (by decide) rfl hr rfl (Nat.le_of_ble_eq_true rfl) (k_X7_feed m0 m1 m2 m3 m4 m5 m6 m7 m8 m9 m10 m11 x1 x3)
