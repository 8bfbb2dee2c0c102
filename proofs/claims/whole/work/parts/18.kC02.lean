abbrev e_X5_statementWord (m0 m1 m2 m3 m4 m5 m6 m7 m8 m9 m10 m11 : Mem) : Int32 → Option Value × List Mem := fun r => (some (.int r), [m0, m1, m2, m3, m4, m5, m6, m7, m8, m9, m10, m11])
theorem k_X5_statementWord {G : GE} (m0 m1 m2 m3 m4 m5 m6 m7 m8 m9 m10 m11 : Mem)  : K G (mi_X5_statementWord 8) (e_X5_statementWord m0 m1 m2 m3 m4 m5 m6 m7 m8 m9 m10 m11) 0 [(0, .ref 4000)] [] [m0, m1, m2, m3, m4, m5, m6, m7, m8, m9, m10, m11] (f_X5_statementWord m4) := by
  unfold f_X5_statementWord
  refine K_aload_n 0 dX5_statementWord_0 rfl ?_
  refine K_ldcS (i := 1) (by decide) dX5_statementWord_1 rfl rfl ?_
  refine K_callV (E' := e_X5_isWord m0 m1 m2 m3 m4 m5 m6 m7 m8 m9 m10 m11) (b := 4000) (As := [.ref 20001]) (rest := []) dX5_statementWord_3 ml_X5_55 (mf_X5_isWord 7) mv_X5_isWord (fun hj r hr => c_X5_isWord hj m0 m1 m2 m3 m4 m5 m6 m7 m8 m9 m10 m11 1 (by decide) hr) (rcv_obj (q := (RX5, TX5, 9)) kl_4000 rfl) rfl rfl (Nat.le_of_ble_eq_true rfl) (Nat.le_of_ble_eq_true rfl) (fun r11 => ?_)
  show K G (mi_X5_statementWord 8) (e_X5_statementWord m0 m1 m2 m3 m4 m5 m6 m7 m8 m9 m10 m11) 6 [(0, .ref 4000)] [.int r11] [m0, m1, m2, m3, m4, m5, m6, m7, m8, m9, m10, m11] _
  refine K_if_eq 11 dX5_statementWord_6 rfl (fun _ => ?_) (fun _ => ?_)
  · refine K_aload_n 0 dX5_statementWord_11 rfl ?_
    refine K_ldcS (i := 2) (by decide) dX5_statementWord_12 rfl rfl ?_
    refine K_callV (E' := e_X5_isWord m0 m1 m2 m3 m4 m5 m6 m7 m8 m9 m10 m11) (b := 4000) (As := [.ref 20002]) (rest := []) dX5_statementWord_14 ml_X5_55 (mf_X5_isWord 7) mv_X5_isWord (fun hj r hr => c_X5_isWord hj m0 m1 m2 m3 m4 m5 m6 m7 m8 m9 m10 m11 2 (by decide) hr) (rcv_obj (q := (RX5, TX5, 9)) kl_4000 rfl) rfl rfl (Nat.le_of_ble_eq_true rfl) (Nat.le_of_ble_eq_true rfl) (fun r12 => ?_)
    show K G (mi_X5_statementWord 8) (e_X5_statementWord m0 m1 m2 m3 m4 m5 m6 m7 m8 m9 m10 m11) 17 [(0, .ref 4000)] [.int r12] [m0, m1, m2, m3, m4, m5, m6, m7, m8, m9, m10, m11] _
    refine K_if_eq 22 dX5_statementWord_17 rfl (fun _ => ?_) (fun _ => ?_)
    · refine K_aload_n 0 dX5_statementWord_22 rfl ?_
      refine K_ldcS (i := 3) (by decide) dX5_statementWord_23 rfl rfl ?_
      refine K_callV (E' := e_X5_isWord m0 m1 m2 m3 m4 m5 m6 m7 m8 m9 m10 m11) (b := 4000) (As := [.ref 20003]) (rest := []) dX5_statementWord_25 ml_X5_55 (mf_X5_isWord 7) mv_X5_isWord (fun hj r hr => c_X5_isWord hj m0 m1 m2 m3 m4 m5 m6 m7 m8 m9 m10 m11 3 (by decide) hr) (rcv_obj (q := (RX5, TX5, 9)) kl_4000 rfl) rfl rfl (Nat.le_of_ble_eq_true rfl) (Nat.le_of_ble_eq_true rfl) (fun r13 => ?_)
      show K G (mi_X5_statementWord 8) (e_X5_statementWord m0 m1 m2 m3 m4 m5 m6 m7 m8 m9 m10 m11) 28 [(0, .ref 4000)] [.int r13] [m0, m1, m2, m3, m4, m5, m6, m7, m8, m9, m10, m11] _
      refine K_if_eq 33 dX5_statementWord_28 rfl (fun _ => ?_) (fun _ => ?_)
      · refine K_aload_n 0 dX5_statementWord_33 rfl ?_
        refine K_ldcS (i := 4) (by decide) dX5_statementWord_34 rfl rfl ?_
        refine K_callV (E' := e_X5_isWord m0 m1 m2 m3 m4 m5 m6 m7 m8 m9 m10 m11) (b := 4000) (As := [.ref 20004]) (rest := []) dX5_statementWord_36 ml_X5_55 (mf_X5_isWord 7) mv_X5_isWord (fun hj r hr => c_X5_isWord hj m0 m1 m2 m3 m4 m5 m6 m7 m8 m9 m10 m11 4 (by decide) hr) (rcv_obj (q := (RX5, TX5, 9)) kl_4000 rfl) rfl rfl (Nat.le_of_ble_eq_true rfl) (Nat.le_of_ble_eq_true rfl) (fun r14 => ?_)
        show K G (mi_X5_statementWord 8) (e_X5_statementWord m0 m1 m2 m3 m4 m5 m6 m7 m8 m9 m10 m11) 39 [(0, .ref 4000)] [.int r14] [m0, m1, m2, m3, m4, m5, m6, m7, m8, m9, m10, m11] _
        refine K_if_eq 44 dX5_statementWord_39 rfl (fun _ => ?_) (fun _ => ?_)
        · refine K_aload_n 0 dX5_statementWord_44 rfl ?_
          refine K_ldcS (i := 5) (by decide) dX5_statementWord_45 rfl rfl ?_
          refine K_callV (E' := e_X5_isWord m0 m1 m2 m3 m4 m5 m6 m7 m8 m9 m10 m11) (b := 4000) (As := [.ref 20005]) (rest := []) dX5_statementWord_47 ml_X5_55 (mf_X5_isWord 7) mv_X5_isWord (fun hj r hr => c_X5_isWord hj m0 m1 m2 m3 m4 m5 m6 m7 m8 m9 m10 m11 5 (by decide) hr) (rcv_obj (q := (RX5, TX5, 9)) kl_4000 rfl) rfl rfl (Nat.le_of_ble_eq_true rfl) (Nat.le_of_ble_eq_true rfl) (fun r15 => ?_)
          show K G (mi_X5_statementWord 8) (e_X5_statementWord m0 m1 m2 m3 m4 m5 m6 m7 m8 m9 m10 m11) 50 [(0, .ref 4000)] [.int r15] [m0, m1, m2, m3, m4, m5, m6, m7, m8, m9, m10, m11] _
          refine K_if_eq 57 dX5_statementWord_50 rfl (fun _ => ?_) (fun _ => ?_)
          · refine K_iconst (v := 0) dX5_statementWord_57 (by decide) ?_
            exact K_ret (rv := some (.int 0)) dX5_statementWord_58 rfl rfl rfl
          · refine K_iconst (v := 5) dX5_statementWord_53 (by decide) ?_
            refine K_goto 58 dX5_statementWord_54 rfl ?_
            exact K_ret (rv := some (.int 5)) dX5_statementWord_58 rfl rfl rfl
        · refine K_iconst (v := 4) dX5_statementWord_42 (by decide) ?_
          exact K_ret (rv := some (.int 4)) dX5_statementWord_43 rfl rfl rfl
      · refine K_iconst (v := 3) dX5_statementWord_31 (by decide) ?_
        exact K_ret (rv := some (.int 3)) dX5_statementWord_32 rfl rfl rfl
    · refine K_iconst (v := 2) dX5_statementWord_20 (by decide) ?_
      exact K_ret (rv := some (.int 2)) dX5_statementWord_21 rfl rfl rfl
  · refine K_iconst (v := 1) dX5_statementWord_9 (by decide) ?_
    exact K_ret (rv := some (.int 1)) dX5_statementWord_10 rfl rfl rfl
theorem c_X5_statementWord {G : GE} (hj : dj G) (m0 m1 m2 m3 m4 m5 m6 m7 m8 m9 m10 m11 : Mem)  {r : Int32} (hr : f_X5_statementWord m4 = some r) : Ctr G yX5_statementWord (mi_X5_statementWord 8) [.ref 4000] [m0, m1, m2, m3, m4, m5, m6, m7, m8, m9, m10, m11] ((e_X5_statementWord m0 m1 m2 m3 m4 m5 m6 m7 m8 m9 m10 m11) r).1 ((e_X5_statementWord m0 m1 m2 m3 m4 m5 m6 m7 m8 m9 m10 m11) r).2 := Ctr_of hj (by decide) rfl hr rfl (Nat.le_of_ble_eq_true rfl) (k_X5_statementWord m0 m1 m2 m3 m4 m5 m6 m7 m8 m9 m10 m11 )
abbrev e_X3_minutesBetween_1 (m0 m1 m2 m3 m4 m5 m6 m7 m8 m9 m10 m11 : Mem) : Int32 → Option Value × List Mem := fun r => (some (.int r), [m0, m1, m2, m3, m4, m5, m6, m7, m8, m9, m10, m11])
theorem k_X3_minutesBetween_1 {G : GE} (m0 m1 m2 m3 m4 m5 m6 m7 m8 m9 m10 m11 : Mem) (x1 : Int32) (x2 : Int32) : K G (mi_X3_minutesBetween 1) (e_X3_minutesBetween_1 m0 m1 m2 m3 m4 m5 m6 m7 m8 m9 m10 m11) 0 [(0, .ref 1000), (1, .int x1), (2, .int x2)] [] [m0, m1, m2, m3, m4, m5, m6, m7, m8, m9, m10, m11] (f_X3_minutesBetween m1 x1 x2) := by
  unfold f_X3_minutesBetween
  refine K_aload_n 0 dX3_minutesBetween_0 rfl ?_
  refine K_get (v := .ref 1011) dX3_minutesBetween_1 fl_X3_15 kl_1000 rfl rfl ?_
  refine K_iload_n 1 dX3_minutesBetween_4 rfl ?_
  refine K_bipush (v := 8) dX3_minutesBetween_5 (by decide) ?_
  refine K_imul dX3_minutesBetween_7 ?_
  refine K_iload_n 2 dX3_minutesBetween_8 rfl ?_
  refine K_iadd dX3_minutesBetween_9 ?_
  refine K_iald (f := m1 11) dX3_minutesBetween_10 kl_1011 rfl ?_
  exact K_ret (rv := some (.int (m1 11 ((x1 * 8) + x2).toNatClampNeg))) dX3_minutesBetween_11 rfl rfl rfl
theorem c_X3_minutesBetween_1 {G : GE} (hj : dj G) (m0 m1 m2 m3 m4 m5 m6 m7 m8 m9 m10 m11 : Mem) (x1 : Int32) (x2 : Int32) {r : Int32} (hr : f_X3_minutesBetween m1 x1 x2 = some r) : Ctr G yX3_minutesBetween (mi_X3_minutesBetween 1) [.ref 1000, .int x1, .int x2] [m0, m1, m2, m3, m4, m5, m6, m7, m8, m9, m10, m11] ((e_X3_minutesBetween_1 m0 m1 m2 m3 m4 m5 m6 m7 m8 m9 m10 m11) r).1 ((e_X3_minutesBetween_1 m0 m1 m2 m3 m4 m5 m6 m7 m8 m9 m10 m11) r).2 := Ctr_of hj (by decide) rfl hr rfl (Nat.le_of_ble_eq_true rfl) (k_X3_minutesBetween_1 m0 m1 m2 m3 m4 m5 m6 m7 m8 m9 m10 m11 x1 x2)
abbrev e_X3_minutesBetween_2 (m0 m1 m2 m3 m4 m5 m6 m7 m8 m9 m10 m11 : Mem) : Int32 → Option Value × List Mem := fun r => (some (.int r), [m0, m1, m2, m3, m4, m5, m6, m7, m8, m9, m10, m11])
theorem k_X3_minutesBetween_2 {G : GE} (m0 m1 m2 m3 m4 m5 m6 m7 m8 m9 m10 m11 : Mem) (x1 : Int32) (x2 : Int32) : K G (mi_X3_minutesBetween 1) (e_X3_minutesBetween_2 m0 m1 m2 m3 m4 m5 m6 m7 m8 m9 m10 m11) 0 [(0, .ref 2000), (1, .int x1), (2, .int x2)] [] [m0, m1, m2, m3, m4, m5, m6, m7, m8, m9, m10, m11] (f_X3_minutesBetween m2 x1 x2) := by
  unfold f_X3_minutesBetween
  refine K_aload_n 0 dX3_minutesBetween_0 rfl ?_
  refine K_get (v := .ref 2011) dX3_minutesBetween_1 fl_X3_15 kl_2000 rfl rfl ?_
  refine K_iload_n 1 dX3_minutesBetween_4 rfl ?_
  refine K_bipush (v := 8) dX3_minutesBetween_5 (by decide) ?_
  refine K_imul dX3_minutesBetween_7 ?_
  refine K_iload_n 2 dX3_minutesBetween_8 rfl ?_
  refine K_iadd dX3_minutesBetween_9 ?_
  refine K_iald (f := m2 11) dX3_minutesBetween_10 kl_2011 rfl ?_
  exact K_ret (rv := some (.int (m2 11 ((x1 * 8) + x2).toNatClampNeg))) dX3_minutesBetween_11 rfl rfl rfl
theorem c_X3_minutesBetween_2 {G : GE} (hj : dj G) (m0 m1 m2 m3 m4 m5 m6 m7 m8 m9 m10 m11 : Mem) (x1 : Int32) (x2 : Int32) {r : Int32} (hr : f_X3_minutesBetween m2 x1 x2 = some r) : Ctr G yX3_minutesBetween (mi_X3_minutesBetween 1) [.ref 2000, .int x1, .int x2] [m0, m1, m2, m3, m4, m5, m6, m7, m8, m9, m10, m11] ((e_X3_minutesBetween_2 m0 m1 m2 m3 m4 m5 m6 m7 m8 m9 m10 m11) r).1 ((e_X3_minutesBetween_2 m0 m1 m2 m3 m4 m5 m6 m7 m8 m9 m10 m11) r).2 := Ctr_of hj (by decide) rfl hr rfl (Nat.le_of_ble_eq_true rfl) (k_X3_minutesBetween_2 m0 m1 m2 m3 m4 m5 m6 m7 m8 m9 m10 m11 x1 x2)
abbrev e_X3_addWay_2 (m0 m1 m2 m3 m4 m5 m6 m7 m8 m9 m10 m11 : Mem) : Mem → Option Value × List Mem := fun r => (none, [m0, m1, r, m3, m4, m5, m6, m7, m8, m9, m10, m11])
theorem k_X3_addWay_2 {G : GE} (m0 m1 m2 m3 m4 m5 m6 m7 m8 m9 m10 m11 : Mem) (x1 : Int32) (x2 : Int32) (x3 : Int32) : K G (mi_X3_addWay 2) (e_X3_addWay_2 m0 m1 m2 m3 m4 m5 m6 m7 m8 m9 m10 m11) 0 [(0, .ref 2000), (1, .int x1), (2, .int x2), (3, .int x3)] [] [m0, m1, m2, m3, m4, m5, m6, m7, m8, m9, m10, m11] (f_X3_addWay m2 x1 x2 x3) := by
  unfold f_X3_addWay
  refine K_iload_n 3 dX3_addWay_0 rfl ?_
  refine K_aload_n 0 dX3_addWay_1 rfl ?_
  refine K_iload_n 1 dX3_addWay_2 rfl ?_
  refine K_iload_n 2 dX3_addWay_3 rfl ?_
  refine K_callV (E' := e_X3_minutesBetween_2 m0 m1 m2 m3 m4 m5 m6 m7 m8 m9 m10 m11) (b := 2000) (As := [.int x1, .int x2]) (rest := [.int x3]) dX3_addWay_4 ml_X3_81 (mf_X3_minutesBetween 1) mv_X3_minutesBetween (fun hj r hr => c_X3_minutesBetween_2 hj m0 m1 m2 m3 m4 m5 m6 m7 m8 m9 m10 m11 x1 x2 hr) (rcv_obj (q := (RX3, TX3, 18)) kl_2000 rfl) rfl rfl (Nat.le_of_ble_eq_true rfl) (Nat.le_of_ble_eq_true rfl) (fun r11 => ?_)
  show K G (mi_X3_addWay 2) (e_X3_addWay_2 m0 m1 m2 m3 m4 m5 m6 m7 m8 m9 m10 m11) 7 [(0, .ref 2000), (1, .int x1), (2, .int x2), (3, .int x3)] [.int r11, .int x3] [m0, m1, m2, m3, m4, m5, m6, m7, m8, m9, m10, m11] _
  refine K_min dX3_addWay_7 mlk_X3_85 mth_min.1 mth_min.2.1 mth_min.2.2 (Nat.le_of_ble_eq_true rfl) (Nat.le_of_ble_eq_true rfl) ?_
  refine K_nmi (fun x12 => ?_)
  refine K_istore (lv' := [(4, .int x12), (0, .ref 2000), (1, .int x1), (2, .int x2), (3, .int x3)]) dX3_addWay_10 (by decide) rfl ?_
  refine K_aload_n 1 dX3_addWay_12 rfl ?_
  refine K_get (v := .ref 2011) dX3_addWay_13 fl_X3_15 kl_2000 rfl rfl ?_
  refine K_iload_n 2 dX3_addWay_16 rfl ?_
  refine K_bipush (v := 8) dX3_addWay_17 (by decide) ?_
  refine K_imul dX3_addWay_19 ?_
  refine K_iload_n 3 dX3_addWay_20 rfl ?_
  refine K_iadd dX3_addWay_21 ?_
  refine K_iload 0 dX3_addWay_22 rfl ?_
  refine K_iast (Ms' := [m0, m1, (up m2 11 ((x1 * 8) + x2).toNatClampNeg x12), m3, m4, m5, m6, m7, m8, m9, m10, m11]) dX3_addWay_24 kl_2011 (Nat.le_of_ble_eq_true rfl) rfl ?_
  refine K_nmm (fun w => [m0, m1, w, m3, m4, m5, m6, m7, m8, m9, m10, m11]) rfl (fun w13 => ?_)
  refine K_aload_n 1 dX3_addWay_25 rfl ?_
  refine K_get (v := .ref 2011) dX3_addWay_26 fl_X3_15 kl_2000 rfl rfl ?_
  refine K_iload_n 3 dX3_addWay_29 rfl ?_
  refine K_bipush (v := 8) dX3_addWay_30 (by decide) ?_
  refine K_imul dX3_addWay_32 ?_
  refine K_iload_n 2 dX3_addWay_33 rfl ?_
  refine K_iadd dX3_addWay_34 ?_
  refine K_iload 0 dX3_addWay_35 rfl ?_
  refine K_iast (Ms' := [m0, m1, (up w13 11 ((x2 * 8) + x1).toNatClampNeg x12), m3, m4, m5, m6, m7, m8, m9, m10, m11]) dX3_addWay_37 kl_2011 (Nat.le_of_ble_eq_true rfl) rfl ?_
  refine K_nmm (fun w => [m0, m1, w, m3, m4, m5, m6, m7, m8, m9, m10, m11]) rfl (fun w14 => ?_)
  refine K_aload_n 1 dX3_addWay_38 rfl ?_
  refine K_dup dX3_addWay_39 rfl ?_
  refine K_get (v := .int (w14 0 3)) dX3_addWay_40 fl_X3_40 kl_2000 rfl rfl ?_
  refine K_iconst (v := 1) dX3_addWay_43 (by decide) ?_
  refine K_iadd dX3_addWay_44 ?_
  refine K_put (Ms' := [m0, m1, (up w14 0 3 ((w14 0 3) + 1)), m3, m4, m5, m6, m7, m8, m9, m10, m11]) dX3_addWay_45 fp_X3_40 kl_2000 rfl rfl rfl (Nat.le_of_ble_eq_true rfl) rfl ?_
  refine K_nmm (fun w => [m0, m1, w, m3, m4, m5, m6, m7, m8, m9, m10, m11]) rfl (fun w15 => ?_)
  exact K_ret (rv := none) dX3_addWay_48 trivial rfl rfl
theorem c_X3_addWay_2 {G : GE} (hj : dj G) (m0 m1 m2 m3 m4 m5 m6 m7 m8 m9 m10 m11 : Mem) (x1 : Int32) (x2 : Int32) (x3 : Int32) {r : Mem} (hr : f_X3_addWay m2 x1 x2 x3 = some r) : Ctr G yX3_addWay (mi_X3_addWay 2) [.ref 2000, .int x1, .int x2, .int x3] [m0, m1, m2, m3, m4, m5, m6, m7, m8, m9, m10, m11] ((e_X3_addWay_2 m0 m1 m2 m3 m4 m5 m6 m7 m8 m9 m10 m11) r).1 ((e_X3_addWay_2 m0 m1 m2 m3 m4 m5 m6 m7 m8 m9 m10 m11) r).2 := Ctr_of hj (by decide) rfl hr rfl (Nat.le_of_ble_eq_true rfl) (k_X3_addWay_2 m0 m1 m2 m3 m4 m5 m6 m7 m8 m9 m10 m11 x1 x2 x3)
abbrev e_X5_readWay (m0 m1 m2 m3 m4 m5 m6 m7 m8 m9 m10 m11 : Mem) : (Int32 × Mem × Mem) → Option Value × List Mem := fun r => (some (.int r.1), [m0, m1, r.2.1, m3, r.2.2, m5, m6, m7, m8, m9, m10, m11])
theorem k_X5_readWay {G : GE} (m0 m1 m2 m3 m4 m5 m6 m7 m8 m9 m10 m11 : Mem)  : K G (mi_X5_readWay 5) (e_X5_readWay m0 m1 m2 m3 m4 m5 m6 m7 m8 m9 m10 m11) 0 [(0, .ref 4000), (1, .ref 2000)] [] [m0, m1, m2, m3, m4, m5, m6, m7, m8, m9, m10, m11] (f_X5_readWay m2 m4) := by
  unfold f_X5_readWay
  refine K_aload_n 1 dX5_readWay_0 rfl ?_
  refine K_get (v := .int (m2 0 3)) dX5_readWay_1 fl_X5_109 kl_2000 rfl rfl ?_
  refine K_bipush (v := 16) dX5_readWay_4 (by decide) ?_
  refine K_icmp_lt 15 dX5_readWay_6 rfl (fun _ => ?_) (fun _ => ?_)
  · refine K_aload_n 0 dX5_readWay_15 rfl ?_
    refine K_iconst (v := 0) dX5_readWay_16 (by decide) ?_
    refine K_bipush (v := 7) dX5_readWay_17 (by decide) ?_
    refine K_callV (E' := e_X5_readNumber m0 m1 m2 m3 m4 m5 m6 m7 m8 m9 m10 m11) (b := 4000) (As := [.int 0, .int 7]) (rest := []) dX5_readWay_19 ml_X5_63 (mf_X5_readNumber 4) mv_X5_readNumber (fun hj r hr => c_X5_readNumber hj m0 m1 m2 m3 m4 m5 m6 m7 m8 m9 m10 m11 (0 : Int32) (7 : Int32) hr) (rcv_obj (q := (RX5, TX5, 9)) kl_4000 rfl) rfl rfl (Nat.le_of_ble_eq_true rfl) (Nat.le_of_ble_eq_true rfl) (fun r11 => ?_)
    show K G (mi_X5_readWay 5) (e_X5_readWay m0 m1 m2 m3 m4 m5 m6 m7 m8 m9 m10 m11) 22 [(0, .ref 4000), (1, .ref 2000)] [.int r11.1] [m0, m1, m2, m3, r11.2, m5, m6, m7, m8, m9, m10, m11] _
    refine K_if_ne 27 dX5_readWay_22 rfl (fun _ => ?_) (fun _ => ?_)
    · refine K_aload_n 0 dX5_readWay_27 rfl ?_
      refine K_get (v := .int (r11.2 0 7)) dX5_readWay_28 fl_X5_67 kl_4000 rfl rfl ?_
      refine K_nmi (fun x12 => ?_)
      refine K_istore_n (lv' := [(2, .int x12), (0, .ref 4000), (1, .ref 2000)]) dX5_readWay_31 (by decide) rfl ?_
      refine K_aload_n 1 dX5_readWay_32 rfl ?_
      refine K_iconst (v := 0) dX5_readWay_33 (by decide) ?_
      refine K_bipush (v := 7) dX5_readWay_34 (by decide) ?_
      refine K_callV (E' := e_X5_readNumber m0 m1 m2 m3 r11.2 m5 m6 m7 m8 m9 m10 m11) (b := 4000) (As := [.int 0, .int 7]) (rest := []) dX5_readWay_36 ml_X5_63 (mf_X5_readNumber 4) mv_X5_readNumber (fun hj r hr => c_X5_readNumber hj m0 m1 m2 m3 r11.2 m5 m6 m7 m8 m9 m10 m11 (0 : Int32) (7 : Int32) hr) (rcv_obj (q := (RX5, TX5, 9)) kl_4000 rfl) rfl rfl (Nat.le_of_ble_eq_true rfl) (Nat.le_of_ble_eq_true rfl) (fun r13 => ?_)
      show K G (mi_X5_readWay 5) (e_X5_readWay m0 m1 m2 m3 m4 m5 m6 m7 m8 m9 m10 m11) 39 [(2, .int x12), (0, .ref 4000), (1, .ref 2000)] [.int r13.1] [m0, m1, m2, m3, r13.2, m5, m6, m7, m8, m9, m10, m11] _
      refine K_if_ne 44 dX5_readWay_39 rfl (fun _ => ?_) (fun _ => ?_)
      · refine K_aload_n 1 dX5_readWay_44 rfl ?_
        refine K_get (v := .int (r13.2 0 7)) dX5_readWay_45 fl_X5_67 kl_4000 rfl rfl ?_
        refine K_nmi (fun x14 => ?_)
        refine K_istore_n (lv' := [(3, .int x14), (2, .int x12), (0, .ref 4000), (1, .ref 2000)]) dX5_readWay_48 (by decide) rfl ?_
        refine K_iload_n 1 dX5_readWay_49 rfl ?_
        refine K_iload_n 0 dX5_readWay_50 rfl ?_
        refine K_icmp_ne 60 dX5_readWay_51 rfl (fun _ => ?_) (fun _ => ?_)
        · refine K_aload_n 2 dX5_readWay_60 rfl ?_
          refine K_iconst (v := 1) dX5_readWay_61 (by decide) ?_
          refine K_bipush (v := 99) dX5_readWay_62 (by decide) ?_
          refine K_callV (E' := e_X5_readNumber m0 m1 m2 m3 r13.2 m5 m6 m7 m8 m9 m10 m11) (b := 4000) (As := [.int 1, .int 99]) (rest := []) dX5_readWay_64 ml_X5_63 (mf_X5_readNumber 4) mv_X5_readNumber (fun hj r hr => c_X5_readNumber hj m0 m1 m2 m3 r13.2 m5 m6 m7 m8 m9 m10 m11 (1 : Int32) (99 : Int32) hr) (rcv_obj (q := (RX5, TX5, 9)) kl_4000 rfl) rfl rfl (Nat.le_of_ble_eq_true rfl) (Nat.le_of_ble_eq_true rfl) (fun r15 => ?_)
          show K G (mi_X5_readWay 5) (e_X5_readWay m0 m1 m2 m3 m4 m5 m6 m7 m8 m9 m10 m11) 67 [(3, .int x14), (2, .int x12), (0, .ref 4000), (1, .ref 2000)] [.int r15.1] [m0, m1, m2, m3, r15.2, m5, m6, m7, m8, m9, m10, m11] _
          refine K_if_ne 72 dX5_readWay_67 rfl (fun _ => ?_) (fun _ => ?_)
          · refine K_aload_n 3 dX5_readWay_72 rfl ?_
            refine K_iload_n 1 dX5_readWay_73 rfl ?_
            refine K_iload_n 0 dX5_readWay_74 rfl ?_
            refine K_aload_n 2 dX5_readWay_75 rfl ?_
            refine K_get (v := .int (r15.2 0 7)) dX5_readWay_76 fl_X5_67 kl_4000 rfl rfl ?_
            refine K_callV (E' := e_X3_addWay_2 m0 m1 m2 m3 r15.2 m5 m6 m7 m8 m9 m10 m11) (b := 2000) (As := [.int x12, .int x14, .int (r15.2 0 7)]) (rest := []) dX5_readWay_79 ml_X5_112 (mf_X3_addWay 2) mv_X3_addWay (fun hj r hr => c_X3_addWay_2 hj m0 m1 m2 m3 r15.2 m5 m6 m7 m8 m9 m10 m11 x12 x14 (r15.2 0 7) hr) (rcv_obj (q := (RX3, TX3, 18)) kl_2000 rfl) rfl rfl (Nat.le_of_ble_eq_true rfl) (Nat.le_of_ble_eq_true rfl) (fun r16 => ?_)
            show K G (mi_X5_readWay 5) (e_X5_readWay m0 m1 m2 m3 m4 m5 m6 m7 m8 m9 m10 m11) 82 [(3, .int x14), (2, .int x12), (0, .ref 4000), (1, .ref 2000)] [] [m0, m1, r16, m3, r15.2, m5, m6, m7, m8, m9, m10, m11] _
            refine K_aload_n 2 dX5_readWay_82 rfl ?_
            refine K_callV (E' := e_X5_readSign m0 m1 r16 m3 r15.2 m5 m6 m7 m8 m9 m10 m11) (b := 4000) (As := []) (rest := []) dX5_readWay_83 ml_X5_76 (mf_X5_readSign 4) mv_X5_readSign (fun hj r hr => c_X5_readSign hj m0 m1 r16 m3 r15.2 m5 m6 m7 m8 m9 m10 m11  hr) (rcv_obj (q := (RX5, TX5, 9)) kl_4000 rfl) rfl rfl (Nat.le_of_ble_eq_true rfl) (Nat.le_of_ble_eq_true rfl) (fun r17 => ?_)
            show K G (mi_X5_readWay 5) (e_X5_readWay m0 m1 m2 m3 m4 m5 m6 m7 m8 m9 m10 m11) 86 [(3, .int x14), (2, .int x12), (0, .ref 4000), (1, .ref 2000)] [.int r17.1] [m0, m1, r16, m3, r17.2, m5, m6, m7, m8, m9, m10, m11] _
            exact K_retB dX5_readWay_86 rfl rfl
          · refine K_iconst (v := 0) dX5_readWay_70 (by decide) ?_
            exact K_ret (rv := some (.int 0)) dX5_readWay_71 rfl rfl rfl
        · refine K_aload_n 2 dX5_readWay_54 rfl ?_
          refine K_iconst (v := 2) dX5_readWay_55 (by decide) ?_
          refine K_callV (E' := e_X5_fail m0 m1 m2 m3 r13.2 m5 m6 m7 m8 m9 m10 m11) (b := 4000) (As := [.int 2]) (rest := []) dX5_readWay_56 ml_X5_59 (mf_X5_fail 1) mv_X5_fail (fun hj r hr => c_X5_fail hj m0 m1 m2 m3 r13.2 m5 m6 m7 m8 m9 m10 m11 (2 : Int32) hr) (rcv_obj (q := (RX5, TX5, 9)) kl_4000 rfl) rfl rfl (Nat.le_of_ble_eq_true rfl) (Nat.le_of_ble_eq_true rfl) (fun r18 => ?_)
          show K G (mi_X5_readWay 5) (e_X5_readWay m0 m1 m2 m3 m4 m5 m6 m7 m8 m9 m10 m11) 59 [(3, .int x14), (2, .int x12), (0, .ref 4000), (1, .ref 2000)] [.int r18.1] [m0, m1, m2, m3, r18.2, m5, m6, m7, m8, m9, m10, m11] _
          exact K_retB dX5_readWay_59 rfl rfl
      · refine K_iconst (v := 0) dX5_readWay_42 (by decide) ?_
        exact K_ret (rv := some (.int 0)) dX5_readWay_43 rfl rfl rfl
    · refine K_iconst (v := 0) dX5_readWay_25 (by decide) ?_
      exact K_ret (rv := some (.int 0)) dX5_readWay_26 rfl rfl rfl
  · refine K_aload_n 0 dX5_readWay_9 rfl ?_
    refine K_iconst (v := 3) dX5_readWay_10 (by decide) ?_
    refine K_callV (E' := e_X5_fail m0 m1 m2 m3 m4 m5 m6 m7 m8 m9 m10 m11) (b := 4000) (As := [.int 3]) (rest := []) dX5_readWay_11 ml_X5_59 (mf_X5_fail 1) mv_X5_fail (fun hj r hr => c_X5_fail hj m0 m1 m2 m3 m4 m5 m6 m7 m8 m9 m10 m11 (3 : Int32) hr) (rcv_obj (q := (RX5, TX5, 9)) kl_4000 rfl) rfl rfl (Nat.le_of_ble_eq_true rfl) (Nat.le_of_ble_eq_true rfl) (fun r19 => ?_)
    show K G (mi_X5_readWay 5) (e_X5_readWay m0 m1 m2 m3 m4 m5 m6 m7 m8 m9 m10 m11) 14 [(0, .ref 4000), (1, .ref 2000)] [.int r19.1] [m0, m1, m2, m3, r19.2, m5, m6, m7, m8, m9, m10, m11] _
    exact K_retB dX5_readWay_14 rfl rfl
theorem c_X5_readWay {G : GE} (hj : dj G) (m0 m1 m2 m3 m4 m5 m6 m7 m8 m9 m10 m11 : Mem)  {r : Int32 × Mem × Mem} (hr : f_X5_readWay m2 m4 = some r) : Ctr G yX5_readWay (mi_X5_readWay 5) [.ref 4000, .ref 2000] [m0, m1, m2, m3, m4, m5, m6, m7, m8, m9, m10, m11] ((e_X5_readWay m0 m1 m2 m3 m4 m5 m6 m7 m8 m9 m10 m11) r).1 ((e_X5_readWay m0 m1 m2 m3 m4 m5 m6 m7 m8 m9 m10 m11) r).2 := Ctr_of hj (by decide) rfl hr rfl (Nat.le_of_ble_eq_true rfl) (k_X5_readWay m0 m1 m2 m3 m4 m5 m6 m7 m8 m9 m10 m11 )
abbrev e_X3_addHill_2 (m0 m1 m2 m3 m4 m5 m6 m7 m8 m9 m10 m11 : Mem) : Mem → Option Value × List Mem := fun r => (none, [m0, m1, r, m3, m4, m5, m6, m7, m8, m9, m10, m11])
theorem k_X3_addHill_2 {G : GE} (m0 m1 m2 m3 m4 m5 m6 m7 m8 m9 m10 m11 : Mem) (x1 : Int32) : K G (mi_X3_addHill 1) (e_X3_addHill_2 m0 m1 m2 m3 m4 m5 m6 m7 m8 m9 m10 m11) 0 [(0, .ref 2000), (1, .int x1)] [] [m0, m1, m2, m3, m4, m5, m6, m7, m8, m9, m10, m11] (f_X3_addHill m2 x1) := by
  unfold f_X3_addHill
  refine K_aload_n 0 dX3_addHill_0 rfl ?_
  refine K_dup dX3_addHill_1 rfl ?_
  refine K_get (v := .int (m2 0 8)) dX3_addHill_2 fl_X3_56 kl_2000 rfl rfl ?_
  refine K_iconst (v := 1) dX3_addHill_5 (by decide) ?_
  refine K_iload_n 1 dX3_addHill_6 rfl ?_
  refine K_ishl dX3_addHill_7 ?_
  refine K_ior dX3_addHill_8 ?_
  refine K_put (Ms' := [m0, m1, (up m2 0 8 ((m2 0 8) ||| (1 <<< (x1 &&& 31)))), m3, m4, m5, m6, m7, m8, m9, m10, m11]) dX3_addHill_9 fp_X3_56 kl_2000 rfl rfl rfl (Nat.le_of_ble_eq_true rfl) rfl ?_
  refine K_nmm (fun w => [m0, m1, w, m3, m4, m5, m6, m7, m8, m9, m10, m11]) rfl (fun w11 => ?_)
  refine K_aload_n 0 dX3_addHill_12 rfl ?_
  refine K_dup dX3_addHill_13 rfl ?_
  refine K_get (v := .int (w11 0 4)) dX3_addHill_14 fl_X3_44 kl_2000 rfl rfl ?_
  refine K_iconst (v := 1) dX3_addHill_17 (by decide) ?_
  refine K_iadd dX3_addHill_18 ?_
  refine K_put (Ms' := [m0, m1, (up w11 0 4 ((w11 0 4) + 1)), m3, m4, m5, m6, m7, m8, m9, m10, m11]) dX3_addHill_19 fp_X3_44 kl_2000 rfl rfl rfl (Nat.le_of_ble_eq_true rfl) rfl ?_
  refine K_nmm (fun w => [m0, m1, w, m3, m4, m5, m6, m7, m8, m9, m10, m11]) rfl (fun w12 => ?_)
  exact K_ret (rv := none) dX3_addHill_22 trivial rfl rfl
theorem c_X3_addHill_2 {G : GE} (hj : dj G) (m0 m1 m2 m3 m4 m5 m6 m7 m8 m9 m10 m11 : Mem) (x1 : Int32) {r : Mem} (hr : f_X3_addHill m2 x1 = some r) : Ctr G yX3_addHill (mi_X3_addHill 1) [.ref 2000, .int x1] [m0, m1, m2, m3, m4, m5, m6, m7, m8, m9, m10, m11] ((e_X3_addHill_2 m0 m1 m2 m3 m4 m5 m6 m7 m8 m9 m10 m11) r).1 ((e_X3_addHill_2 m0 m1 m2 m3 m4 m5 m6 m7 m8 m9 m10 m11) r).2 := Ctr_of hj (by decide) rfl hr rfl (Nat.le_of_ble_eq_true rfl) (k_X3_addHill_2 m0 m1 m2 m3 m4 m5 m6 m7 m8 m9 m10 m11 x1)
abbrev e_X5_readHill (m0 m1 m2 m3 m4 m5 m6 m7 m8 m9 m10 m11 : Mem) : (Int32 × Mem × Mem) → Option Value × List Mem := fun r => (some (.int r.1), [m0, m1, r.2.1, m3, r.2.2, m5, m6, m7, m8, m9, m10, m11])
theorem k_X5_readHill {G : GE} (m0 m1 m2 m3 m4 m5 m6 m7 m8 m9 m10 m11 : Mem)  : K G (mi_X5_readHill 5) (e_X5_readHill m0 m1 m2 m3 m4 m5 m6 m7 m8 m9 m10 m11) 0 [(0, .ref 4000), (1, .ref 2000)] [] [m0, m1, m2, m3, m4, m5, m6, m7, m8, m9, m10, m11] (f_X5_readHill m2 m4) := by
  unfold f_X5_readHill
  refine K_aload_n 1 dX5_readHill_0 rfl ?_
  refine K_get (v := .int (m2 0 4)) dX5_readHill_1 fl_X5_116 kl_2000 rfl rfl ?_
  refine K_bipush (v := 7) dX5_readHill_4 (by decide) ?_
  refine K_icmp_lt 15 dX5_readHill_6 rfl (fun _ => ?_) (fun _ => ?_)
  · refine K_aload_n 0 dX5_readHill_15 rfl ?_
    refine K_iconst (v := 1) dX5_readHill_16 (by decide) ?_
    refine K_bipush (v := 7) dX5_readHill_17 (by decide) ?_
    refine K_callV (E' := e_X5_readNumber m0 m1 m2 m3 m4 m5 m6 m7 m8 m9 m10 m11) (b := 4000) (As := [.int 1, .int 7]) (rest := []) dX5_readHill_19 ml_X5_63 (mf_X5_readNumber 4) mv_X5_readNumber (fun hj r hr => c_X5_readNumber hj m0 m1 m2 m3 m4 m5 m6 m7 m8 m9 m10 m11 (1 : Int32) (7 : Int32) hr) (rcv_obj (q := (RX5, TX5, 9)) kl_4000 rfl) rfl rfl (Nat.le_of_ble_eq_true rfl) (Nat.le_of_ble_eq_true rfl) (fun r11 => ?_)
    show K G (mi_X5_readHill 5) (e_X5_readHill m0 m1 m2 m3 m4 m5 m6 m7 m8 m9 m10 m11) 22 [(0, .ref 4000), (1, .ref 2000)] [.int r11.1] [m0, m1, m2, m3, r11.2, m5, m6, m7, m8, m9, m10, m11] _
    refine K_if_ne 27 dX5_readHill_22 rfl (fun _ => ?_) (fun _ => ?_)
    · refine K_aload_n 1 dX5_readHill_27 rfl ?_
      refine K_aload_n 0 dX5_readHill_28 rfl ?_
      refine K_get (v := .int (r11.2 0 7)) dX5_readHill_29 fl_X5_67 kl_4000 rfl rfl ?_
      refine K_callV (E' := e_X3_addHill_2 m0 m1 m2 m3 r11.2 m5 m6 m7 m8 m9 m10 m11) (b := 2000) (As := [.int (r11.2 0 7)]) (rest := []) dX5_readHill_32 ml_X5_119 (mf_X3_addHill 1) mv_X3_addHill (fun hj r hr => c_X3_addHill_2 hj m0 m1 m2 m3 r11.2 m5 m6 m7 m8 m9 m10 m11 (r11.2 0 7) hr) (rcv_obj (q := (RX3, TX3, 18)) kl_2000 rfl) rfl rfl (Nat.le_of_ble_eq_true rfl) (Nat.le_of_ble_eq_true rfl) (fun r12 => ?_)
      show K G (mi_X5_readHill 5) (e_X5_readHill m0 m1 m2 m3 m4 m5 m6 m7 m8 m9 m10 m11) 35 [(0, .ref 4000), (1, .ref 2000)] [] [m0, m1, r12, m3, r11.2, m5, m6, m7, m8, m9, m10, m11] _
      refine K_aload_n 0 dX5_readHill_35 rfl ?_
      refine K_callV (E' := e_X5_readSign m0 m1 r12 m3 r11.2 m5 m6 m7 m8 m9 m10 m11) (b := 4000) (As := []) (rest := []) dX5_readHill_36 ml_X5_76 (mf_X5_readSign 4) mv_X5_readSign (fun hj r hr => c_X5_readSign hj m0 m1 r12 m3 r11.2 m5 m6 m7 m8 m9 m10 m11  hr) (rcv_obj (q := (RX5, TX5, 9)) kl_4000 rfl) rfl rfl (Nat.le_of_ble_eq_true rfl) (Nat.le_of_ble_eq_true rfl) (fun r13 => ?_)
      show K G (mi_X5_readHill 5) (e_X5_readHill m0 m1 m2 m3 m4 m5 m6 m7 m8 m9 m10 m11) 39 [(0, .ref 4000), (1, .ref 2000)] [.int r13.1] [m0, m1, r12, m3, r13.2, m5, m6, m7, m8, m9, m10, m11] _
      exact K_retB dX5_readHill_39 rfl rfl
    · refine K_iconst (v := 0) dX5_readHill_25 (by decide) ?_
      exact K_ret (rv := some (.int 0)) dX5_readHill_26 rfl rfl rfl
  · refine K_aload_n 0 dX5_readHill_9 rfl ?_
    refine K_iconst (v := 3) dX5_readHill_10 (by decide) ?_
    refine K_callV (E' := e_X5_fail m0 m1 m2 m3 m4 m5 m6 m7 m8 m9 m10 m11) (b := 4000) (As := [.int 3]) (rest := []) dX5_readHill_11 ml_X5_59 (mf_X5_fail 1) mv_X5_fail (fun hj r hr => c_X5_fail hj m0 m1 m2 m3 m4 m5 m6 m7 m8 m9 m10 m11 (3 : Int32) hr) (rcv_obj (q := (RX5, TX5, 9)) kl_4000 rfl) rfl rfl (Nat.le_of_ble_eq_true rfl) (Nat.le_of_ble_eq_true rfl) (fun r14 => ?_)
    show K G (mi_X5_readHill 5) (e_X5_readHill m0 m1 m2 m3 m4 m5 m6 m7 m8 m9 m10 m11) 14 [(0, .ref 4000), (1, .ref 2000)] [.int r14.1] [m0, m1, m2, m3, r14.2, m5, m6, m7, m8, m9, m10, m11] _
    exact K_retB dX5_readHill_14 rfl rfl
theorem c_X5_readHill {G : GE} (hj : dj G) (m0 m1 m2 m3 m4 m5 m6 m7 m8 m9 m10 m11 : Mem)  {r : Int32 × Mem × Mem} (hr : f_X5_readHill m2 m4 = some r) : Ctr G yX5_readHill (mi_X5_readHill 5) [.ref 4000, .ref 2000] [m0, m1, m2, m3, m4, m5, m6, m7, m8, m9, m10, m11] ((e_X5_readHill m0 m1 m2 m3 m4 m5 m6 m7 m8 m9 m10 m11) r).1 ((e_X5_readHill m0 m1 m2 m3 m4 m5 m6 m7 m8 m9 m10 m11) r).2 := Ctr_of hj (by decide) rfl hr rfl (Nat.le_of_ble_eq_true rfl) (k_X5_readHill m0 m1 m2 m3 m4 m5 m6 m7 m8 m9 m10 m11 )
abbrev e_X5_kindWord (m0 m1 m2 m3 m4 m5 m6 m7 m8 m9 m10 m11 : Mem) : Int32 → Option Value × List Mem := fun r => (some (.int r), [m0, m1, m2, m3, m4, m5, m6, m7, m8, m9, m10, m11])
theorem k_X5_kindWord {G : GE} (m0 m1 m2 m3 m4 m5 m6 m7 m8 m9 m10 m11 : Mem)  : K G (mi_X5_kindWord 8) (e_X5_kindWord m0 m1 m2 m3 m4 m5 m6 m7 m8 m9 m10 m11) 0 [(0, .ref 4000)] [] [m0, m1, m2, m3, m4, m5, m6, m7, m8, m9, m10, m11] (f_X5_kindWord m4) := by
  unfold f_X5_kindWord
  refine K_aload_n 0 dX5_kindWord_0 rfl ?_
  refine K_ldcS (i := 6) (by decide) dX5_kindWord_1 rfl rfl ?_
  refine K_callV (E' := e_X5_isWord m0 m1 m2 m3 m4 m5 m6 m7 m8 m9 m10 m11) (b := 4000) (As := [.ref 20006]) (rest := []) dX5_kindWord_3 ml_X5_55 (mf_X5_isWord 7) mv_X5_isWord (fun hj r hr => c_X5_isWord hj m0 m1 m2 m3 m4 m5 m6 m7 m8 m9 m10 m11 6 (by decide) hr) (rcv_obj (q := (RX5, TX5, 9)) kl_4000 rfl) rfl rfl (Nat.le_of_ble_eq_true rfl) (Nat.le_of_ble_eq_true rfl) (fun r11 => ?_)
  show K G (mi_X5_kindWord 8) (e_X5_kindWord m0 m1 m2 m3 m4 m5 m6 m7 m8 m9 m10 m11) 6 [(0, .ref 4000)] [.int r11] [m0, m1, m2, m3, m4, m5, m6, m7, m8, m9, m10, m11] _
  refine K_if_eq 11 dX5_kindWord_6 rfl (fun _ => ?_) (fun _ => ?_)
  · refine K_aload_n 0 dX5_kindWord_11 rfl ?_
    refine K_ldcS (i := 7) (by decide) dX5_kindWord_12 rfl rfl ?_
    refine K_callV (E' := e_X5_isWord m0 m1 m2 m3 m4 m5 m6 m7 m8 m9 m10 m11) (b := 4000) (As := [.ref 20007]) (rest := []) dX5_kindWord_14 ml_X5_55 (mf_X5_isWord 7) mv_X5_isWord (fun hj r hr => c_X5_isWord hj m0 m1 m2 m3 m4 m5 m6 m7 m8 m9 m10 m11 7 (by decide) hr) (rcv_obj (q := (RX5, TX5, 9)) kl_4000 rfl) rfl rfl (Nat.le_of_ble_eq_true rfl) (Nat.le_of_ble_eq_true rfl) (fun r12 => ?_)
    show K G (mi_X5_kindWord 8) (e_X5_kindWord m0 m1 m2 m3 m4 m5 m6 m7 m8 m9 m10 m11) 17 [(0, .ref 4000)] [.int r12] [m0, m1, m2, m3, m4, m5, m6, m7, m8, m9, m10, m11] _
    refine K_if_eq 22 dX5_kindWord_17 rfl (fun _ => ?_) (fun _ => ?_)
    · refine K_aload_n 0 dX5_kindWord_22 rfl ?_
      refine K_ldcS (i := 8) (by decide) dX5_kindWord_23 rfl rfl ?_
      refine K_callV (E' := e_X5_isWord m0 m1 m2 m3 m4 m5 m6 m7 m8 m9 m10 m11) (b := 4000) (As := [.ref 20008]) (rest := []) dX5_kindWord_25 ml_X5_55 (mf_X5_isWord 7) mv_X5_isWord (fun hj r hr => c_X5_isWord hj m0 m1 m2 m3 m4 m5 m6 m7 m8 m9 m10 m11 8 (by decide) hr) (rcv_obj (q := (RX5, TX5, 9)) kl_4000 rfl) rfl rfl (Nat.le_of_ble_eq_true rfl) (Nat.le_of_ble_eq_true rfl) (fun r13 => ?_)
      show K G (mi_X5_kindWord 8) (e_X5_kindWord m0 m1 m2 m3 m4 m5 m6 m7 m8 m9 m10 m11) 28 [(0, .ref 4000)] [.int r13] [m0, m1, m2, m3, m4, m5, m6, m7, m8, m9, m10, m11] _
      refine K_if_eq 33 dX5_kindWord_28 rfl (fun _ => ?_) (fun _ => ?_)
      · refine K_aload_n 0 dX5_kindWord_33 rfl ?_
        refine K_ldcS (i := 9) (by decide) dX5_kindWord_34 rfl rfl ?_
        refine K_callV (E' := e_X5_isWord m0 m1 m2 m3 m4 m5 m6 m7 m8 m9 m10 m11) (b := 4000) (As := [.ref 20009]) (rest := []) dX5_kindWord_36 ml_X5_55 (mf_X5_isWord 7) mv_X5_isWord (fun hj r hr => c_X5_isWord hj m0 m1 m2 m3 m4 m5 m6 m7 m8 m9 m10 m11 9 (by decide) hr) (rcv_obj (q := (RX5, TX5, 9)) kl_4000 rfl) rfl rfl (Nat.le_of_ble_eq_true rfl) (Nat.le_of_ble_eq_true rfl) (fun r14 => ?_)
        show K G (mi_X5_kindWord 8) (e_X5_kindWord m0 m1 m2 m3 m4 m5 m6 m7 m8 m9 m10 m11) 39 [(0, .ref 4000)] [.int r14] [m0, m1, m2, m3, m4, m5, m6, m7, m8, m9, m10, m11] _
        refine K_if_eq 44 dX5_kindWord_39 rfl (fun _ => ?_) (fun _ => ?_)
        · refine K_aload_n 0 dX5_kindWord_44 rfl ?_
          refine K_ldcS (i := 10) (by decide) dX5_kindWord_45 rfl rfl ?_
          refine K_callV (E' := e_X5_isWord m0 m1 m2 m3 m4 m5 m6 m7 m8 m9 m10 m11) (b := 4000) (As := [.ref 20010]) (rest := []) dX5_kindWord_47 ml_X5_55 (mf_X5_isWord 7) mv_X5_isWord (fun hj r hr => c_X5_isWord hj m0 m1 m2 m3 m4 m5 m6 m7 m8 m9 m10 m11 10 (by decide) hr) (rcv_obj (q := (RX5, TX5, 9)) kl_4000 rfl) rfl rfl (Nat.le_of_ble_eq_true rfl) (Nat.le_of_ble_eq_true rfl) (fun r15 => ?_)
          show K G (mi_X5_kindWord 8) (e_X5_kindWord m0 m1 m2 m3 m4 m5 m6 m7 m8 m9 m10 m11) 50 [(0, .ref 4000)] [.int r15] [m0, m1, m2, m3, m4, m5, m6, m7, m8, m9, m10, m11] _
          refine K_if_eq 57 dX5_kindWord_50 rfl (fun _ => ?_) (fun _ => ?_)
          · refine K_iconst (v := 0) dX5_kindWord_57 (by decide) ?_
            exact K_ret (rv := some (.int 0)) dX5_kindWord_58 rfl rfl rfl
          · refine K_iconst (v := 3) dX5_kindWord_53 (by decide) ?_
            refine K_goto 58 dX5_kindWord_54 rfl ?_
            exact K_ret (rv := some (.int 3)) dX5_kindWord_58 rfl rfl rfl
        · refine K_iconst (v := 2) dX5_kindWord_42 (by decide) ?_
          exact K_ret (rv := some (.int 2)) dX5_kindWord_43 rfl rfl rfl
      · refine K_iconst (v := 5) dX5_kindWord_31 (by decide) ?_
        exact K_ret (rv := some (.int 5)) dX5_kindWord_32 rfl rfl rfl
    · refine K_iconst (v := 4) dX5_kindWord_20 (by decide) ?_
      exact K_ret (rv := some (.int 4)) dX5_kindWord_21 rfl rfl rfl
  · refine K_iconst (v := 1) dX5_kindWord_9 (by decide) ?_
    exact K_ret (rv := some (.int 1)) dX5_kindWord_10 rfl rfl rfl
theorem c_X5_kindWord {G : GE} (hj : dj G) (m0 m1 m2 m3 m4 m5 m6 m7 m8 m9 m10 m11 : Mem)  {r : Int32} (hr : f_X5_kindWord m4 = some r) : Ctr G yX5_kindWord (mi_X5_kindWord 8) [.ref 4000] [m0, m1, m2, m3, m4, m5, m6, m7, m8, m9, m10, m11] ((e_X5_kindWord m0 m1 m2 m3 m4 m5 m6 m7 m8 m9 m10 m11) r).1 ((e_X5_kindWord m0 m1 m2 m3 m4 m5 m6 m7 m8 m9 m10 m11) r).2 := Ctr_of hj (by decide) rfl hr rfl (Nat.le_of_ble_eq_true rfl) (k_X5_kindWord m0 m1 m2 m3 m4 m5 m6 m7 m8 m9 m10 m11 )
abbrev e_X7_isOfKind (Ms : List Mem) : Int32 → Option Value × List Mem := fun r => (some (.int r), Ms)
theorem k_X7_isOfKind_L4 {G : GE} (Ms : List Mem) (x1 : Int32) (k : Int32 → Int32 → Option (Int32)) (hk : ∀ (u11 : Int32) (u12 : Int32), K G (mi_X7_isOfKind 1) (e_X7_isOfKind Ms) 43 [(1, .int x1), (2, .int u11), (3, .int u12)] [] Ms (k u11 u12)) : ∀ (t : Nat) (u11 : Int32) (u12 : Int32), K G (mi_X7_isOfKind 1) (e_X7_isOfKind Ms) 4 [(1, .int x1), (2, .int u11), (3, .int u12)] [] Ms (f_X7_isOfKind_L4 k x1 t u11 u12) := by
  intro t
  induction t with
  | zero => intro u11 u12; exact K_none
  | succ t ih =>
    intro u11 u12
    rw [f_X7_isOfKind_L4]
    refine K_iload_n 2 dX7_isOfKind_4 rfl ?_
    refine K_gets dX7_isOfKind_5 sl_X7_296 ?_
    refine K_tlen (i := 0) (by decide) dX7_isOfKind_8 ?_
    refine K_icmp_ge 43 dX7_isOfKind_9 rfl (fun _ => ?_) (fun _ => ?_)
    · refine K_loc [0, 1, 2] (lv' := [(1, .int x1), (2, .int u11), (3, .int u12)]) rfl ?_
      exact hk u11 u12
    · refine K_iload_n 1 dX7_isOfKind_12 rfl ?_
      refine K_if_lt 43 dX7_isOfKind_13 rfl (fun _ => ?_) (fun _ => ?_)
      · refine K_loc [0, 1, 2] (lv' := [(1, .int x1), (2, .int u11), (3, .int u12)]) rfl ?_
        exact hk u11 u12
      · refine K_iload_n 1 dX7_isOfKind_16 rfl ?_
        refine K_gets dX7_isOfKind_17 sl_X7_296 ?_
        refine K_tlen (i := 0) (by decide) dX7_isOfKind_20 ?_
        refine K_icmp_ge 43 dX7_isOfKind_21 rfl (fun _ => ?_) (fun _ => ?_)
        · refine K_loc [0, 1, 2] (lv' := [(1, .int x1), (2, .int u11), (3, .int u12)]) rfl ?_
          exact hk u11 u12
        · refine K_iload_n 1 dX7_isOfKind_24 rfl ?_
          refine K_iload_n 0 dX7_isOfKind_25 rfl ?_
          refine K_icmp_ne 31 dX7_isOfKind_26 rfl (fun _ => ?_) (fun _ => ?_)
          · refine K_gets dX7_isOfKind_31 sl_X7_296 ?_
            refine K_iload_n 1 dX7_isOfKind_34 rfl ?_
            refine K_tald (i := 0) (by decide) dX7_isOfKind_35 ?_
            refine K_nmi (fun x13 => ?_)
            refine K_istore_n (lv' := [(2, .int x13), (1, .int x1), (3, .int u12)]) dX7_isOfKind_36 (by decide) rfl ?_
            refine K_iinc 2 (w := u12 + 1) (lv' := [(3, .int (u12 + 1)), (2, .int x13), (1, .int x1)]) dX7_isOfKind_37 rfl rfl (by decide) rfl ?_
            refine K_goto 4 dX7_isOfKind_40 rfl ?_
            refine K_loc [2, 1, 0] (lv' := [(1, .int x1), (2, .int x13), (3, .int (u12 + 1))]) rfl ?_
            exact ih x13 (u12 + 1)
          · refine K_iconst (v := 1) dX7_isOfKind_29 (by decide) ?_
            exact K_ret (rv := some (.int 1)) dX7_isOfKind_30 rfl rfl rfl
theorem k_X7_isOfKind {G : GE} (Ms : List Mem) (x0 : Int32) (x1 : Int32) : K G (mi_X7_isOfKind 1) (e_X7_isOfKind Ms) 0 [(0, .int x0), (1, .int x1)] [] Ms (f_X7_isOfKind x0 x1) := by
  unfold f_X7_isOfKind
  refine K_iload_n 0 dX7_isOfKind_0 rfl ?_
  refine K_istore_n (lv' := [(2, .int x0), (0, .int x0), (1, .int x1)]) dX7_isOfKind_1 (by decide) rfl ?_
  refine K_iconst (v := 0) dX7_isOfKind_2 (by decide) ?_
  refine K_istore_n (lv' := [(3, .int 0), (2, .int x0), (0, .int x0), (1, .int x1)]) dX7_isOfKind_3 (by decide) rfl ?_
  refine K_loc [3, 1, 0] (lv' := [(1, .int x1), (2, .int x0), (3, .int 0)]) rfl ?_
  refine k_X7_isOfKind_L4  Ms x1 _ (fun u14 u15 => ?_) 100000 x0 0
  refine K_iconst (v := 0) dX7_isOfKind_43 (by decide) ?_
  exact K_ret (rv := some (.int 0)) dX7_isOfKind_44 rfl rfl rfl
theorem c_X7_isOfKind {G : GE} (hj : dj G) (Ms : List Mem) (x0 : Int32) (x1 : Int32) {r : Int32} (hr : f_X7_isOfKind x0 x1 = some r) : Ctr G yX7_isOfKind (mi_X7_isOfKind 1) [.int x0, .int x1] Ms ((e_X7_isOfKind Ms) r).1 ((e_X7_isOfKind Ms) r).2 := Ctr_of hj (by decide) rfl hr rfl (Nat.le_of_ble_eq_true rfl) (k_X7_isOfKind Ms x0 x1)
abbrev e_X3_addPerson_2 (m0 m1 m2 m3 m4 m5 m6 m7 m8 m9 m10 m11 : Mem) : Mem → Option Value × List Mem := fun r => (none, [m0, m1, r, m3, m4, m5, m6, m7, m8, m9, m10, m11])
theorem k_X3_addPerson_2 {G : GE} (m0 m1 m2 m3 m4 m5 m6 m7 m8 m9 m10 m11 : Mem) (x1 : Int32) (x2 : Int32) (x3 : Int32) : K G (mi_X3_addPerson 2) (e_X3_addPerson_2 m0 m1 m2 m3 m4 m5 m6 m7 m8 m9 m10 m11) 0 [(0, .ref 2000), (1, .int x1), (2, .int x2), (3, .int x3)] [] [m0, m1, m2, m3, m4, m5, m6, m7, m8, m9, m10, m11] (f_X3_addPerson m2 x1 x2 x3) := by
  unfold f_X3_addPerson
  refine K_aload_n 0 dX3_addPerson_0 rfl ?_
  refine K_get (v := .ref 2012) dX3_addPerson_1 fl_X3_19 kl_2000 rfl rfl ?_
  refine K_aload_n 0 dX3_addPerson_4 rfl ?_
  refine K_get (v := .int (m2 0 6)) dX3_addPerson_5 fl_X3_50 kl_2000 rfl rfl ?_
  refine K_iload_n 1 dX3_addPerson_8 rfl ?_
  refine K_iast (Ms' := [m0, m1, (up m2 12 (m2 0 6).toNatClampNeg x1), m3, m4, m5, m6, m7, m8, m9, m10, m11]) dX3_addPerson_9 kl_2012 (Nat.le_of_ble_eq_true rfl) rfl ?_
  refine K_nmm (fun w => [m0, m1, w, m3, m4, m5, m6, m7, m8, m9, m10, m11]) rfl (fun w11 => ?_)
  refine K_aload_n 0 dX3_addPerson_10 rfl ?_
  refine K_get (v := .ref 2013) dX3_addPerson_11 fl_X3_22 kl_2000 rfl rfl ?_
  refine K_aload_n 0 dX3_addPerson_14 rfl ?_
  refine K_get (v := .int (w11 0 6)) dX3_addPerson_15 fl_X3_50 kl_2000 rfl rfl ?_
  refine K_iload_n 2 dX3_addPerson_18 rfl ?_
  refine K_iast (Ms' := [m0, m1, (up w11 13 (w11 0 6).toNatClampNeg x2), m3, m4, m5, m6, m7, m8, m9, m10, m11]) dX3_addPerson_19 kl_2013 (Nat.le_of_ble_eq_true rfl) rfl ?_
  refine K_nmm (fun w => [m0, m1, w, m3, m4, m5, m6, m7, m8, m9, m10, m11]) rfl (fun w12 => ?_)
  refine K_aload_n 0 dX3_addPerson_20 rfl ?_
  refine K_get (v := .ref 2014) dX3_addPerson_21 fl_X3_25 kl_2000 rfl rfl ?_
  refine K_aload_n 0 dX3_addPerson_24 rfl ?_
  refine K_get (v := .int (w12 0 6)) dX3_addPerson_25 fl_X3_50 kl_2000 rfl rfl ?_
  refine K_iload_n 3 dX3_addPerson_28 rfl ?_
  refine K_iast (Ms' := [m0, m1, (up w12 14 (w12 0 6).toNatClampNeg x3), m3, m4, m5, m6, m7, m8, m9, m10, m11]) dX3_addPerson_29 kl_2014 (Nat.le_of_ble_eq_true rfl) rfl ?_
  refine K_nmm (fun w => [m0, m1, w, m3, m4, m5, m6, m7, m8, m9, m10, m11]) rfl (fun w13 => ?_)
  refine K_iload_n 1 dX3_addPerson_30 rfl ?_
  refine K_iconst (v := 4) dX3_addPerson_31 (by decide) ?_
  refine K_callS (E' := e_X7_isOfKind [m0, m1, w13, m3, m4, m5, m6, m7, m8, m9, m10, m11]) (As := [.int x1, .int 4]) (rest := []) dX3_addPerson_32 ml_X3_90 (mf_X7_isOfKind 1) ms_X7_isOfKind (fun hj r hr => c_X7_isOfKind hj [m0, m1, w13, m3, m4, m5, m6, m7, m8, m9, m10, m11] x1 (4 : Int32) hr) rfl rfl (Nat.le_of_ble_eq_true rfl) (Nat.le_of_ble_eq_true rfl) (fun r14 => ?_)
  show K G (mi_X3_addPerson 2) (e_X3_addPerson_2 m0 m1 m2 m3 m4 m5 m6 m7 m8 m9 m10 m11) 35 [(0, .ref 2000), (1, .int x1), (2, .int x2), (3, .int x3)] [.int r14] [m0, m1, w13, m3, m4, m5, m6, m7, m8, m9, m10, m11] _
  refine K_if_eq 53 dX3_addPerson_35 rfl (fun _ => ?_) (fun _ => ?_)
  · refine K_aload_n 0 dX3_addPerson_53 rfl ?_
    refine K_dup dX3_addPerson_54 rfl ?_
    refine K_get (v := .int (w13 0 6)) dX3_addPerson_55 fl_X3_50 kl_2000 rfl rfl ?_
    refine K_iconst (v := 1) dX3_addPerson_58 (by decide) ?_
    refine K_iadd dX3_addPerson_59 ?_
    refine K_put (Ms' := [m0, m1, (up w13 0 6 ((w13 0 6) + 1)), m3, m4, m5, m6, m7, m8, m9, m10, m11]) dX3_addPerson_60 fp_X3_50 kl_2000 rfl rfl rfl (Nat.le_of_ble_eq_true rfl) rfl ?_
    refine K_nmm (fun w => [m0, m1, w, m3, m4, m5, m6, m7, m8, m9, m10, m11]) rfl (fun w15 => ?_)
    exact K_ret (rv := none) dX3_addPerson_63 trivial rfl rfl
  · refine K_aload_n 0 dX3_addPerson_38 rfl ?_
    refine K_dup dX3_addPerson_39 rfl ?_
    refine K_get (v := .int (w13 0 9)) dX3_addPerson_40 fl_X3_59 kl_2000 rfl rfl ?_
    refine K_iconst (v := 1) dX3_addPerson_43 (by decide) ?_
    refine K_aload_n 0 dX3_addPerson_44 rfl ?_
    refine K_get (v := .int (w13 0 6)) dX3_addPerson_45 fl_X3_50 kl_2000 rfl rfl ?_
    refine K_ishl dX3_addPerson_48 ?_
    refine K_ior dX3_addPerson_49 ?_
    refine K_put (Ms' := [m0, m1, (up w13 0 9 ((w13 0 9) ||| (1 <<< ((w13 0 6) &&& 31)))), m3, m4, m5, m6, m7, m8, m9, m10, m11]) dX3_addPerson_50 fp_X3_59 kl_2000 rfl rfl rfl (Nat.le_of_ble_eq_true rfl) rfl ?_
    refine K_nmm (fun w => [m0, m1, w, m3, m4, m5, m6, m7, m8, m9, m10, m11]) rfl (fun w16 => ?_)
    refine K_aload_n 0 dX3_addPerson_53 rfl ?_
    refine K_dup dX3_addPerson_54 rfl ?_
    refine K_get (v := .int (w16 0 6)) dX3_addPerson_55 fl_X3_50 kl_2000 rfl rfl ?_
    refine K_iconst (v := 1) dX3_addPerson_58 (by decide) ?_
    refine K_iadd dX3_addPerson_59 ?_
    refine K_put (Ms' := [m0, m1, (up w16 0 6 ((w16 0 6) + 1)), m3, m4, m5, m6, m7, m8, m9, m10, m11]) dX3_addPerson_60 fp_X3_50 kl_2000 rfl rfl rfl (Nat.le_of_ble_eq_true rfl) rfl ?_
    refine K_nmm (fun w => [m0, m1, w, m3, m4, m5, m6, m7, m8, m9, m10, m11]) rfl (fun w17 => ?_)
    exact K_ret (rv := none) dX3_addPerson_63 trivial rfl rfl
theorem c_X3_addPerson_2 {G : GE} (hj : dj G) (m0 m1 m2 m3 m4 m5 m6 m7 m8 m9 m10 m11 : Mem) (x1 : Int32) (x2 : Int32) (x3 : Int32) {r : Mem} (hr : f_X3_addPerson m2 x1 x2 x3 = some r) : Ctr G yX3_addPerson (mi_X3_addPerson 2) [.ref 2000, .int x1, .int x2, .int x3] [m0, m1, m2, m3, m4, m5, m6, m7, m8, m9, m10, m11] ((e_X3_addPerson_2 m0 m1 m2 m3 m4 m5 m6 m7 m8 m9 m10 m11) r).1 ((e_X3_addPerson_2 m0 m1 m2 m3 m4 m5 m6 m7 m8 m9 m10 m11) r).2 := Ctr_of hj (by decide) rfl hr rfl (Nat.le_of_ble_eq_true rfl) (k_X3_addPerson_2 m0 m1 m2 m3 m4 m5 m6 m7 m8 m9 m10 m11 x1 x2 x3)
abbrev e_X5_readPerson (m0 m1 m2 m3 m4 m5 m6 m7 m8 m9 m10 m11 : Mem) : (Int32 × Mem × Mem) → Option Value × List Mem := fun r => (some (.int r.1), [m0, m1, r.2.1, m3, r.2.2, m5, m6, m7, m8, m9, m10, m11])
theorem k_X5_readPerson {G : GE} (m0 m1 m2 m3 m4 m5 m6 m7 m8 m9 m10 m11 : Mem)  : K G (mi_X5_readPerson 9) (e_X5_readPerson m0 m1 m2 m3 m4 m5 m6 m7 m8 m9 m10 m11) 0 [(0, .ref 4000), (1, .ref 2000)] [] [m0, m1, m2, m3, m4, m5, m6, m7, m8, m9, m10, m11] (f_X5_readPerson m2 m4) := by
  unfold f_X5_readPerson
  refine K_aload_n 1 dX5_readPerson_0 rfl ?_
  refine K_get (v := .int (m2 0 6)) dX5_readPerson_1 fl_X5_123 kl_2000 rfl rfl ?_
  refine K_bipush (v := 7) dX5_readPerson_4 (by decide) ?_
  refine K_icmp_lt 15 dX5_readPerson_6 rfl (fun _ => ?_) (fun _ => ?_)
  · refine K_aload_n 0 dX5_readPerson_15 rfl ?_
    refine K_callV (E' := e_X5_readToken m0 m1 m2 m3 m4 m5 m6 m7 m8 m9 m10 m11) (b := 4000) (As := []) (rest := []) dX5_readPerson_16 ml_X5_41 (mf_X5_readToken 3) mv_X5_readToken (fun hj r hr => c_X5_readToken hj m0 m1 m2 m3 m4 m5 m6 m7 m8 m9 m10 m11  hr) (rcv_obj (q := (RX5, TX5, 9)) kl_4000 rfl) rfl rfl (Nat.le_of_ble_eq_true rfl) (Nat.le_of_ble_eq_true rfl) (fun r11 => ?_)
    show K G (mi_X5_readPerson 9) (e_X5_readPerson m0 m1 m2 m3 m4 m5 m6 m7 m8 m9 m10 m11) 19 [(0, .ref 4000), (1, .ref 2000)] [] [m0, m1, m2, m3, r11, m5, m6, m7, m8, m9, m10, m11] _
    refine K_aload_n 0 dX5_readPerson_19 rfl ?_
    refine K_callV (E' := e_X5_kindWord m0 m1 m2 m3 r11 m5 m6 m7 m8 m9 m10 m11) (b := 4000) (As := []) (rest := []) dX5_readPerson_20 ml_X5_126 (mf_X5_kindWord 8) mv_X5_kindWord (fun hj r hr => c_X5_kindWord hj m0 m1 m2 m3 r11 m5 m6 m7 m8 m9 m10 m11  hr) (rcv_obj (q := (RX5, TX5, 9)) kl_4000 rfl) rfl rfl (Nat.le_of_ble_eq_true rfl) (Nat.le_of_ble_eq_true rfl) (fun r12 => ?_)
    show K G (mi_X5_readPerson 9) (e_X5_readPerson m0 m1 m2 m3 m4 m5 m6 m7 m8 m9 m10 m11) 23 [(0, .ref 4000), (1, .ref 2000)] [.int r12] [m0, m1, m2, m3, r11, m5, m6, m7, m8, m9, m10, m11] _
    refine K_istore_n (lv' := [(2, .int r12), (0, .ref 4000), (1, .ref 2000)]) dX5_readPerson_23 (by decide) rfl ?_
    refine K_iload_n 0 dX5_readPerson_24 rfl ?_
    refine K_if_ne 34 dX5_readPerson_25 rfl (fun _ => ?_) (fun _ => ?_)
    · refine K_aload_n 1 dX5_readPerson_34 rfl ?_
      refine K_iconst (v := 1) dX5_readPerson_35 (by decide) ?_
      refine K_bipush (v := 7) dX5_readPerson_36 (by decide) ?_
      refine K_callV (E' := e_X5_readNumber m0 m1 m2 m3 r11 m5 m6 m7 m8 m9 m10 m11) (b := 4000) (As := [.int 1, .int 7]) (rest := []) dX5_readPerson_38 ml_X5_63 (mf_X5_readNumber 4) mv_X5_readNumber (fun hj r hr => c_X5_readNumber hj m0 m1 m2 m3 r11 m5 m6 m7 m8 m9 m10 m11 (1 : Int32) (7 : Int32) hr) (rcv_obj (q := (RX5, TX5, 9)) kl_4000 rfl) rfl rfl (Nat.le_of_ble_eq_true rfl) (Nat.le_of_ble_eq_true rfl) (fun r13 => ?_)
      show K G (mi_X5_readPerson 9) (e_X5_readPerson m0 m1 m2 m3 m4 m5 m6 m7 m8 m9 m10 m11) 41 [(2, .int r12), (0, .ref 4000), (1, .ref 2000)] [.int r13.1] [m0, m1, m2, m3, r13.2, m5, m6, m7, m8, m9, m10, m11] _
      refine K_if_ne 46 dX5_readPerson_41 rfl (fun _ => ?_) (fun _ => ?_)
      · refine K_aload_n 1 dX5_readPerson_46 rfl ?_
        refine K_get (v := .int (r13.2 0 7)) dX5_readPerson_47 fl_X5_67 kl_4000 rfl rfl ?_
        refine K_nmi (fun x14 => ?_)
        refine K_istore_n (lv' := [(3, .int x14), (2, .int r12), (0, .ref 4000), (1, .ref 2000)]) dX5_readPerson_50 (by decide) rfl ?_
        refine K_aload_n 2 dX5_readPerson_51 rfl ?_
        refine K_iconst (v := 0) dX5_readPerson_52 (by decide) ?_
        refine K_bipush (v := 9) dX5_readPerson_53 (by decide) ?_
        refine K_callV (E' := e_X5_readNumber m0 m1 m2 m3 r13.2 m5 m6 m7 m8 m9 m10 m11) (b := 4000) (As := [.int 0, .int 9]) (rest := []) dX5_readPerson_55 ml_X5_63 (mf_X5_readNumber 4) mv_X5_readNumber (fun hj r hr => c_X5_readNumber hj m0 m1 m2 m3 r13.2 m5 m6 m7 m8 m9 m10 m11 (0 : Int32) (9 : Int32) hr) (rcv_obj (q := (RX5, TX5, 9)) kl_4000 rfl) rfl rfl (Nat.le_of_ble_eq_true rfl) (Nat.le_of_ble_eq_true rfl) (fun r15 => ?_)
        show K G (mi_X5_readPerson 9) (e_X5_readPerson m0 m1 m2 m3 m4 m5 m6 m7 m8 m9 m10 m11) 58 [(3, .int x14), (2, .int r12), (0, .ref 4000), (1, .ref 2000)] [.int r15.1] [m0, m1, m2, m3, r15.2, m5, m6, m7, m8, m9, m10, m11] _
        refine K_if_ne 63 dX5_readPerson_58 rfl (fun _ => ?_) (fun _ => ?_)
        · refine K_aload_n 3 dX5_readPerson_63 rfl ?_
          refine K_iload_n 1 dX5_readPerson_64 rfl ?_
          refine K_iload_n 0 dX5_readPerson_65 rfl ?_
          refine K_aload_n 2 dX5_readPerson_66 rfl ?_
          refine K_get (v := .int (r15.2 0 7)) dX5_readPerson_67 fl_X5_67 kl_4000 rfl rfl ?_
          refine K_callV (E' := e_X3_addPerson_2 m0 m1 m2 m3 r15.2 m5 m6 m7 m8 m9 m10 m11) (b := 2000) (As := [.int r12, .int x14, .int (r15.2 0 7)]) (rest := []) dX5_readPerson_70 ml_X5_129 (mf_X3_addPerson 2) mv_X3_addPerson (fun hj r hr => c_X3_addPerson_2 hj m0 m1 m2 m3 r15.2 m5 m6 m7 m8 m9 m10 m11 r12 x14 (r15.2 0 7) hr) (rcv_obj (q := (RX3, TX3, 18)) kl_2000 rfl) rfl rfl (Nat.le_of_ble_eq_true rfl) (Nat.le_of_ble_eq_true rfl) (fun r16 => ?_)
          show K G (mi_X5_readPerson 9) (e_X5_readPerson m0 m1 m2 m3 m4 m5 m6 m7 m8 m9 m10 m11) 73 [(3, .int x14), (2, .int r12), (0, .ref 4000), (1, .ref 2000)] [] [m0, m1, r16, m3, r15.2, m5, m6, m7, m8, m9, m10, m11] _
          refine K_aload_n 2 dX5_readPerson_73 rfl ?_
          refine K_callV (E' := e_X5_readSign m0 m1 r16 m3 r15.2 m5 m6 m7 m8 m9 m10 m11) (b := 4000) (As := []) (rest := []) dX5_readPerson_74 ml_X5_76 (mf_X5_readSign 4) mv_X5_readSign (fun hj r hr => c_X5_readSign hj m0 m1 r16 m3 r15.2 m5 m6 m7 m8 m9 m10 m11  hr) (rcv_obj (q := (RX5, TX5, 9)) kl_4000 rfl) rfl rfl (Nat.le_of_ble_eq_true rfl) (Nat.le_of_ble_eq_true rfl) (fun r17 => ?_)
          show K G (mi_X5_readPerson 9) (e_X5_readPerson m0 m1 m2 m3 m4 m5 m6 m7 m8 m9 m10 m11) 77 [(3, .int x14), (2, .int r12), (0, .ref 4000), (1, .ref 2000)] [.int r17.1] [m0, m1, r16, m3, r17.2, m5, m6, m7, m8, m9, m10, m11] _
          exact K_retB dX5_readPerson_77 rfl rfl
        · refine K_iconst (v := 0) dX5_readPerson_61 (by decide) ?_
          exact K_ret (rv := some (.int 0)) dX5_readPerson_62 rfl rfl rfl
      · refine K_iconst (v := 0) dX5_readPerson_44 (by decide) ?_
        exact K_ret (rv := some (.int 0)) dX5_readPerson_45 rfl rfl rfl
    · refine K_aload_n 1 dX5_readPerson_28 rfl ?_
      refine K_iconst (v := 1) dX5_readPerson_29 (by decide) ?_
      refine K_callV (E' := e_X5_fail m0 m1 m2 m3 r11 m5 m6 m7 m8 m9 m10 m11) (b := 4000) (As := [.int 1]) (rest := []) dX5_readPerson_30 ml_X5_59 (mf_X5_fail 1) mv_X5_fail (fun hj r hr => c_X5_fail hj m0 m1 m2 m3 r11 m5 m6 m7 m8 m9 m10 m11 (1 : Int32) hr) (rcv_obj (q := (RX5, TX5, 9)) kl_4000 rfl) rfl rfl (Nat.le_of_ble_eq_true rfl) (Nat.le_of_ble_eq_true rfl) (fun r18 => ?_)
      show K G (mi_X5_readPerson 9) (e_X5_readPerson m0 m1 m2 m3 m4 m5 m6 m7 m8 m9 m10 m11) 33 [(2, .int r12), (0, .ref 4000), (1, .ref 2000)] [.int r18.1] [m0, m1, m2, m3, r18.2, m5, m6, m7, m8, m9, m10, m11] _
      exact K_retB dX5_readPerson_33 rfl rfl
  · refine K_aload_n 0 dX5_readPerson_9 rfl ?_
    refine K_iconst (v := 3) dX5_readPerson_10 (by decide) ?_
    refine K_callV (E' := e_X5_fail m0 m1 m2 m3 m4 m5 m6 m7 m8 m9 m10 m11) (b := 4000) (As := [.int 3]) (rest := []) dX5_readPerson_11 ml_X5_59 (mf_X5_fail 1) mv_X5_fail (fun hj r hr => c_X5_fail hj m0 m1 m2 m3 m4 m5 m6 m7 m8 m9 m10 m11 (3 : Int32) hr) (rcv_obj (q := (RX5, TX5, 9)) kl_4000 rfl) rfl rfl (Nat.le_of_ble_eq_true rfl) (Nat.le_of_ble_eq_true rfl) (fun r19 => ?_)
    show K G (mi_X5_readPerson 9) (e_X5_readPerson m0 m1 m2 m3 m4 m5 m6 m7 m8 m9 m10 m11) 14 [(0, .ref 4000), (1, .ref 2000)] [.int r19.1] [m0, m1, m2, m3, r19.2, m5, m6, m7, m8, m9, m10, m11] _
    exact K_retB dX5_readPerson_14 rfl rfl
theorem c_X5_readPerson {G : GE} (hj : dj G) (m0 m1 m2 m3 m4 m5 m6 m7 m8 m9 m10 m11 : Mem)  {r : Int32 × Mem × Mem} (hr : f_X5_readPerson m2 m4 = some r) : Ctr G yX5_readPerson (mi_X5_readPerson 9) [.ref 4000, .ref 2000] [m0, m1, m2, m3, m4, m5, m6, m7, m8, m9, m10, m11] ((e_X5_readPerson m0 m1 m2 m3 m4 m5 m6 m7 m8 m9 m10 m11) r).1 ((e_X5_readPerson m0 m1 m2 m3 m4 m5 m6 m7 m8 m9 m10 m11) r).2 := Ctr_of hj (by decide) rfl hr rfl (Nat.le_of_ble_eq_true rfl) (k_X5_readPerson m0 m1 m2 m3 m4 m5 m6 m7 m8 m9 m10 m11 )
abbrev e_X3_carOf_1 (m0 m1 m2 m3 m4 m5 m6 m7 m8 m9 m10 m11 : Mem) : Int32 → Option Value × List Mem := fun r => (some (.int r), [m0, m1, m2, m3, m4, m5, m6, m7, m8, m9, m10, m11])
theorem k_X3_carOf_1_L2 {G : GE} (m0 m1 m2 m3 m4 m5 m6 m7 m8 m9 m10 m11 : Mem) (x1 : Int32) (k : Int32 → Option (Int32)) (hk : ∀ (u11 : Int32), K G (mi_X3_carOf 1) (e_X3_carOf_1 m0 m1 m2 m3 m4 m5 m6 m7 m8 m9 m10 m11) 28 [(0, .ref 1000), (1, .int x1), (2, .int u11)] [] [m0, m1, m2, m3, m4, m5, m6, m7, m8, m9, m10, m11] (k u11)) : ∀ (t : Nat) (u11 : Int32), K G (mi_X3_carOf 1) (e_X3_carOf_1 m0 m1 m2 m3 m4 m5 m6 m7 m8 m9 m10 m11) 2 [(0, .ref 1000), (1, .int x1), (2, .int u11)] [] [m0, m1, m2, m3, m4, m5, m6, m7, m8, m9, m10, m11] (f_X3_carOf_L2 k x1 m1 t u11) := by
  intro t
  induction t with
  | zero => intro u11; exact K_none
  | succ t ih =>
    intro u11
    rw [f_X3_carOf_L2]
    refine K_iload_n 2 dX3_carOf_2 rfl ?_
    refine K_aload_n 0 dX3_carOf_3 rfl ?_
    refine K_get (v := .int (m1 0 7)) dX3_carOf_4 fl_X3_53 kl_1000 rfl rfl ?_
    refine K_icmp_ge 28 dX3_carOf_7 rfl (fun _ => ?_) (fun _ => ?_)
    · refine K_loc [0, 1, 2] (lv' := [(0, .ref 1000), (1, .int x1), (2, .int u11)]) rfl ?_
      exact hk u11
    · refine K_aload_n 0 dX3_carOf_10 rfl ?_
      refine K_get (v := .ref 1016) dX3_carOf_11 fl_X3_31 kl_1000 rfl rfl ?_
      refine K_iload_n 2 dX3_carOf_14 rfl ?_
      refine K_iald (f := m1 16) dX3_carOf_15 kl_1016 rfl ?_
      refine K_iload_n 1 dX3_carOf_16 rfl ?_
      refine K_icmp_ne 22 dX3_carOf_17 rfl (fun _ => ?_) (fun _ => ?_)
      · refine K_iinc 2 (w := u11 + 1) (lv' := [(2, .int (u11 + 1)), (0, .ref 1000), (1, .int x1)]) dX3_carOf_22 rfl rfl (by decide) rfl ?_
        refine K_goto 2 dX3_carOf_25 rfl ?_
        refine K_loc [1, 2, 0] (lv' := [(0, .ref 1000), (1, .int x1), (2, .int (u11 + 1))]) rfl ?_
        exact ih (u11 + 1)
      · refine K_iload_n 2 dX3_carOf_20 rfl ?_
        exact K_ret (rv := some (.int u11)) dX3_carOf_21 rfl rfl rfl
theorem k_X3_carOf_1 {G : GE} (m0 m1 m2 m3 m4 m5 m6 m7 m8 m9 m10 m11 : Mem) (x1 : Int32) : K G (mi_X3_carOf 1) (e_X3_carOf_1 m0 m1 m2 m3 m4 m5 m6 m7 m8 m9 m10 m11) 0 [(0, .ref 1000), (1, .int x1)] [] [m0, m1, m2, m3, m4, m5, m6, m7, m8, m9, m10, m11] (f_X3_carOf m1 x1) := by
  unfold f_X3_carOf
  refine K_iconst (v := 0) dX3_carOf_0 (by decide) ?_
  refine K_istore_n (lv' := [(2, .int 0), (0, .ref 1000), (1, .int x1)]) dX3_carOf_1 (by decide) rfl ?_
  refine K_loc [1, 2, 0] (lv' := [(0, .ref 1000), (1, .int x1), (2, .int 0)]) rfl ?_
  refine k_X3_carOf_1_L2  m0 m1 m2 m3 m4 m5 m6 m7 m8 m9 m10 m11 x1 _ (fun u12 => ?_) 100000 0
  refine K_ldc (v := (-1000000)) dX3_carOf_28 cst_X3_94 ?_
  exact K_ret (rv := some (.int (-1000000))) dX3_carOf_30 rfl rfl rfl
theorem c_X3_carOf_1 {G : GE} (hj : dj G) (m0 m1 m2 m3 m4 m5 m6 m7 m8 m9 m10 m11 : Mem) (x1 : Int32) {r : Int32} (hr : f_X3_carOf m1 x1 = some r) : Ctr G yX3_carOf (mi_X3_carOf 1) [.ref 1000, .int x1] [m0, m1, m2, m3, m4, m5, m6, m7, m8, m9, m10, m11] ((e_X3_carOf_1 m0 m1 m2 m3 m4 m5 m6 m7 m8 m9 m10 m11) r).1 ((e_X3_carOf_1 m0 m1 m2 m3 m4 m5 m6 m7 m8 m9 m10 m11) r).2 := Ctr_of hj (by decide) rfl hr rfl (Nat.le_of_ble_eq_true rfl) (k_X3_carOf_1 m0 m1 m2 m3 m4 m5 m6 m7 m8 m9 m10 m11 x1)
abbrev e_X3_carOf_2 (m0 m1 m2 m3 m4 m5 m6 m7 m8 m9 m10 m11 : Mem) : Int32 → Option Value × List Mem := fun r => (some (.int r), [m0, m1, m2, m3, m4, m5, m6, m7, m8, m9, m10, m11])
theorem k_X3_carOf_2_L2 {G : GE} (m0 m1 m2 m3 m4 m5 m6 m7 m8 m9 m10 m11 : Mem) (x1 : Int32) (k : Int32 → Option (Int32)) (hk : ∀ (u11 : Int32), K G (mi_X3_carOf 1) (e_X3_carOf_2 m0 m1 m2 m3 m4 m5 m6 m7 m8 m9 m10 m11) 28 [(0, .ref 2000), (1, .int x1), (2, .int u11)] [] [m0, m1, m2, m3, m4, m5, m6, m7, m8, m9, m10, m11] (k u11)) : ∀ (t : Nat) (u11 : Int32), K G (mi_X3_carOf 1) (e_X3_carOf_2 m0 m1 m2 m3 m4 m5 m6 m7 m8 m9 m10 m11) 2 [(0, .ref 2000), (1, .int x1), (2, .int u11)] [] [m0, m1, m2, m3, m4, m5, m6, m7, m8, m9, m10, m11] (f_X3_carOf_L2 k x1 m2 t u11) := by
  intro t
  induction t with
  | zero => intro u11; exact K_none
  | succ t ih =>
    intro u11
    rw [f_X3_carOf_L2]
    refine K_iload_n 2 dX3_carOf_2 rfl ?_
    refine K_aload_n 0 dX3_carOf_3 rfl ?_
    refine K_get (v := .int (m2 0 7)) dX3_carOf_4 fl_X3_53 kl_2000 rfl rfl ?_
    refine K_icmp_ge 28 dX3_carOf_7 rfl (fun _ => ?_) (fun _ => ?_)
    · refine K_loc [0, 1, 2] (lv' := [(0, .ref 2000), (1, .int x1), (2, .int u11)]) rfl ?_
      exact hk u11
    · refine K_aload_n 0 dX3_carOf_10 rfl ?_
      refine K_get (v := .ref 2016) dX3_carOf_11 fl_X3_31 kl_2000 rfl rfl ?_
      refine K_iload_n 2 dX3_carOf_14 rfl ?_
      refine K_iald (f := m2 16) dX3_carOf_15 kl_2016 rfl ?_
      refine K_iload_n 1 dX3_carOf_16 rfl ?_
      refine K_icmp_ne 22 dX3_carOf_17 rfl (fun _ => ?_) (fun _ => ?_)
      · refine K_iinc 2 (w := u11 + 1) (lv' := [(2, .int (u11 + 1)), (0, .ref 2000), (1, .int x1)]) dX3_carOf_22 rfl rfl (by decide) rfl ?_
        refine K_goto 2 dX3_carOf_25 rfl ?_
        refine K_loc [1, 2, 0] (lv' := [(0, .ref 2000), (1, .int x1), (2, .int (u11 + 1))]) rfl ?_
        exact ih (u11 + 1)
      · refine K_iload_n 2 dX3_carOf_20 rfl ?_
        exact K_ret (rv := some (.int u11)) dX3_carOf_21 rfl rfl rfl
theorem k_X3_carOf_2 {G : GE} (m0 m1 m2 m3 m4 m5 m6 m7 m8 m9 m10 m11 : Mem) (x1 : Int32) : K G (mi_X3_carOf 1) (e_X3_carOf_2 m0 m1 m2 m3 m4 m5 m6 m7 m8 m9 m10 m11) 0 [(0, .ref 2000), (1, .int x1)] [] [m0, m1, m2, m3, m4, m5, m6, m7, m8, m9, m10, m11] (f_X3_carOf m2 x1) := by
  unfold f_X3_carOf
  refine K_iconst (v := 0) dX3_carOf_0 (by decide) ?_
  refine K_istore_n (lv' := [(2, .int 0), (0, .ref 2000), (1, .int x1)]) dX3_carOf_1 (by decide) rfl ?_
  refine K_loc [1, 2, 0] (lv' := [(0, .ref 2000), (1, .int x1), (2, .int 0)]) rfl ?_
  refine k_X3_carOf_2_L2  m0 m1 m2 m3 m4 m5 m6 m7 m8 m9 m10 m11 x1 _ (fun u12 => ?_) 100000 0
  refine K_ldc (v := (-1000000)) dX3_carOf_28 cst_X3_94 ?_
  exact K_ret (rv := some (.int (-1000000))) dX3_carOf_30 rfl rfl rfl
theorem c_X3_carOf_2 {G : GE} (hj : dj G) (m0 m1 m2 m3 m4 m5 m6 m7 m8 m9 m10 m11 : Mem) (x1 : Int32) {r : Int32} (hr : f_X3_carOf m2 x1 = some r) : Ctr G yX3_carOf (mi_X3_carOf 1) [.ref 2000, .int x1] [m0, m1, m2, m3, m4, m5, m6, m7, m8, m9, m10, m11] ((e_X3_carOf_2 m0 m1 m2 m3 m4 m5 m6 m7 m8 m9 m10 m11) r).1 ((e_X3_carOf_2 m0 m1 m2 m3 m4 m5 m6 m7 m8 m9 m10 m11) r).2 := Ctr_of hj (by decide) rfl hr rfl (Nat.le_of_ble_eq_true rfl) (k_X3_carOf_2 m0 m1 m2 m3 m4 m5 m6 m7 m8 m9 m10 m11 x1)
