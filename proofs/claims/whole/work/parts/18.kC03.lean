abbrev e_X3_addCar_2 (m0 m1 m2 m3 m4 m5 m6 m7 m8 m9 m10 m11 : Mem) : Mem → Option Value × List Mem := fun r => (none, [m0, m1, r, m3, m4, m5, m6, m7, m8, m9, m10, m11])
theorem k_X3_addCar_2 {G : GE} (m0 m1 m2 m3 m4 m5 m6 m7 m8 m9 m10 m11 : Mem) (x1 : Int32) (x2 : Int32) (x3 : Int32) : K G (mi_X3_addCar 1) (e_X3_addCar_2 m0 m1 m2 m3 m4 m5 m6 m7 m8 m9 m10 m11) 0 [(0, .ref 2000), (1, .int x1), (2, .int x2), (3, .int x3)] [] [m0, m1, m2, m3, m4, m5, m6, m7, m8, m9, m10, m11] (f_X3_addCar m2 x1 x2 x3) := by
  unfold f_X3_addCar
  refine K_aload_n 0 dX3_addCar_0 rfl ?_
  refine K_get (v := .ref 2016) dX3_addCar_1 fl_X3_31 kl_2000 rfl rfl ?_
  refine K_aload_n 0 dX3_addCar_4 rfl ?_
  refine K_get (v := .int (m2 0 7)) dX3_addCar_5 fl_X3_53 kl_2000 rfl rfl ?_
  refine K_iload_n 1 dX3_addCar_8 rfl ?_
  refine K_iast (Ms' := [m0, m1, (up m2 16 (m2 0 7).toNatClampNeg x1), m3, m4, m5, m6, m7, m8, m9, m10, m11]) dX3_addCar_9 kl_2016 (Nat.le_of_ble_eq_true rfl) rfl ?_
  refine K_nmm (fun w => [m0, m1, w, m3, m4, m5, m6, m7, m8, m9, m10, m11]) rfl (fun w11 => ?_)
  refine K_aload_n 0 dX3_addCar_10 rfl ?_
  refine K_get (v := .ref 2017) dX3_addCar_11 fl_X3_34 kl_2000 rfl rfl ?_
  refine K_aload_n 0 dX3_addCar_14 rfl ?_
  refine K_get (v := .int (w11 0 7)) dX3_addCar_15 fl_X3_53 kl_2000 rfl rfl ?_
  refine K_iload_n 2 dX3_addCar_18 rfl ?_
  refine K_iast (Ms' := [m0, m1, (up w11 17 (w11 0 7).toNatClampNeg x2), m3, m4, m5, m6, m7, m8, m9, m10, m11]) dX3_addCar_19 kl_2017 (Nat.le_of_ble_eq_true rfl) rfl ?_
  refine K_nmm (fun w => [m0, m1, w, m3, m4, m5, m6, m7, m8, m9, m10, m11]) rfl (fun w12 => ?_)
  refine K_aload_n 0 dX3_addCar_20 rfl ?_
  refine K_get (v := .ref 2018) dX3_addCar_21 fl_X3_37 kl_2000 rfl rfl ?_
  refine K_aload_n 0 dX3_addCar_24 rfl ?_
  refine K_get (v := .int (w12 0 7)) dX3_addCar_25 fl_X3_53 kl_2000 rfl rfl ?_
  refine K_iload_n 3 dX3_addCar_28 rfl ?_
  refine K_iast (Ms' := [m0, m1, (up w12 18 (w12 0 7).toNatClampNeg x3), m3, m4, m5, m6, m7, m8, m9, m10, m11]) dX3_addCar_29 kl_2018 (Nat.le_of_ble_eq_true rfl) rfl ?_
  refine K_nmm (fun w => [m0, m1, w, m3, m4, m5, m6, m7, m8, m9, m10, m11]) rfl (fun w13 => ?_)
  refine K_aload_n 0 dX3_addCar_30 rfl ?_
  refine K_dup dX3_addCar_31 rfl ?_
  refine K_get (v := .int (w13 0 7)) dX3_addCar_32 fl_X3_53 kl_2000 rfl rfl ?_
  refine K_iconst (v := 1) dX3_addCar_35 (by decide) ?_
  refine K_iadd dX3_addCar_36 ?_
  refine K_put (Ms' := [m0, m1, (up w13 0 7 ((w13 0 7) + 1)), m3, m4, m5, m6, m7, m8, m9, m10, m11]) dX3_addCar_37 fp_X3_53 kl_2000 rfl rfl rfl (Nat.le_of_ble_eq_true rfl) rfl ?_
  refine K_nmm (fun w => [m0, m1, w, m3, m4, m5, m6, m7, m8, m9, m10, m11]) rfl (fun w14 => ?_)
  exact K_ret (rv := none) dX3_addCar_40 trivial rfl rfl
theorem c_X3_addCar_2 {G : GE} (hj : dj G) (m0 m1 m2 m3 m4 m5 m6 m7 m8 m9 m10 m11 : Mem) (x1 : Int32) (x2 : Int32) (x3 : Int32) {r : Mem} (hr : f_X3_addCar m2 x1 x2 x3 = some r) : Ctr G yX3_addCar (mi_X3_addCar 1) [.ref 2000, .int x1, .int x2, .int x3] [m0, m1, m2, m3, m4, m5, m6, m7, m8, m9, m10, m11] ((e_X3_addCar_2 m0 m1 m2 m3 m4 m5 m6 m7 m8 m9 m10 m11) r).1 ((e_X3_addCar_2 m0 m1 m2 m3 m4 m5 m6 m7 m8 m9 m10 m11) r).2 := Ctr_of hj (by decide) rfl hr rfl (Nat.le_of_ble_eq_true rfl) (k_X3_addCar_2 m0 m1 m2 m3 m4 m5 m6 m7 m8 m9 m10 m11 x1 x2 x3)
abbrev e_X5_readCar (m0 m1 m2 m3 m4 m5 m6 m7 m8 m9 m10 m11 : Mem) : (Int32 × Mem × Mem) → Option Value × List Mem := fun r => (some (.int r.1), [m0, m1, r.2.1, m3, r.2.2, m5, m6, m7, m8, m9, m10, m11])
theorem k_X5_readCar {G : GE} (m0 m1 m2 m3 m4 m5 m6 m7 m8 m9 m10 m11 : Mem)  : K G (mi_X5_readCar 5) (e_X5_readCar m0 m1 m2 m3 m4 m5 m6 m7 m8 m9 m10 m11) 0 [(0, .ref 4000), (1, .ref 2000)] [] [m0, m1, m2, m3, m4, m5, m6, m7, m8, m9, m10, m11] (f_X5_readCar m2 m4) := by
  unfold f_X5_readCar
  refine K_aload_n 1 dX5_readCar_0 rfl ?_
  refine K_get (v := .int (m2 0 7)) dX5_readCar_1 fl_X5_142 kl_2000 rfl rfl ?_
  refine K_iconst (v := 3) dX5_readCar_4 (by decide) ?_
  refine K_icmp_lt 14 dX5_readCar_5 rfl (fun _ => ?_) (fun _ => ?_)
  · refine K_aload_n 0 dX5_readCar_14 rfl ?_
    refine K_iconst (v := 0) dX5_readCar_15 (by decide) ?_
    refine K_aload_n 1 dX5_readCar_16 rfl ?_
    refine K_get (v := .int (m2 0 6)) dX5_readCar_17 fl_X5_123 kl_2000 rfl rfl ?_
    refine K_iconst (v := 1) dX5_readCar_20 (by decide) ?_
    refine K_isub dX5_readCar_21 ?_
    refine K_callV (E' := e_X5_readNumber m0 m1 m2 m3 m4 m5 m6 m7 m8 m9 m10 m11) (b := 4000) (As := [.int 0, .int ((m2 0 6) - 1)]) (rest := []) dX5_readCar_22 ml_X5_63 (mf_X5_readNumber 4) mv_X5_readNumber (fun hj r hr => c_X5_readNumber hj m0 m1 m2 m3 m4 m5 m6 m7 m8 m9 m10 m11 (0 : Int32) ((m2 0 6) - 1) hr) (rcv_obj (q := (RX5, TX5, 9)) kl_4000 rfl) rfl rfl (Nat.le_of_ble_eq_true rfl) (Nat.le_of_ble_eq_true rfl) (fun r11 => ?_)
    show K G (mi_X5_readCar 5) (e_X5_readCar m0 m1 m2 m3 m4 m5 m6 m7 m8 m9 m10 m11) 25 [(0, .ref 4000), (1, .ref 2000)] [.int r11.1] [m0, m1, m2, m3, r11.2, m5, m6, m7, m8, m9, m10, m11] _
    refine K_if_ne 30 dX5_readCar_25 rfl (fun _ => ?_) (fun _ => ?_)
    · refine K_aload_n 0 dX5_readCar_30 rfl ?_
      refine K_get (v := .int (r11.2 0 7)) dX5_readCar_31 fl_X5_67 kl_4000 rfl rfl ?_
      refine K_nmi (fun x12 => ?_)
      refine K_istore_n (lv' := [(2, .int x12), (0, .ref 4000), (1, .ref 2000)]) dX5_readCar_34 (by decide) rfl ?_
      refine K_aload_n 2 dX5_readCar_35 rfl ?_
      refine K_iload_n 0 dX5_readCar_36 rfl ?_
      refine K_callV (E' := e_X3_carOf_2 m0 m1 m2 m3 r11.2 m5 m6 m7 m8 m9 m10 m11) (b := 2000) (As := [.int x12]) (rest := []) dX5_readCar_37 ml_X5_145 (mf_X3_carOf 1) mv_X3_carOf (fun hj r hr => c_X3_carOf_2 hj m0 m1 m2 m3 r11.2 m5 m6 m7 m8 m9 m10 m11 x12 hr) (rcv_obj (q := (RX3, TX3, 18)) kl_2000 rfl) rfl rfl (Nat.le_of_ble_eq_true rfl) (Nat.le_of_ble_eq_true rfl) (fun r13 => ?_)
      show K G (mi_X5_readCar 5) (e_X5_readCar m0 m1 m2 m3 m4 m5 m6 m7 m8 m9 m10 m11) 40 [(2, .int x12), (0, .ref 4000), (1, .ref 2000)] [.int r13] [m0, m1, m2, m3, r11.2, m5, m6, m7, m8, m9, m10, m11] _
      refine K_ldc (v := (-1000000)) dX5_readCar_40 cst_X5_149 ?_
      refine K_icmp_eq 51 dX5_readCar_42 rfl (fun _ => ?_) (fun _ => ?_)
      · refine K_aload_n 1 dX5_readCar_51 rfl ?_
        refine K_iconst (v := 1) dX5_readCar_52 (by decide) ?_
        refine K_iconst (v := 4) dX5_readCar_53 (by decide) ?_
        refine K_callV (E' := e_X5_readNumber m0 m1 m2 m3 r11.2 m5 m6 m7 m8 m9 m10 m11) (b := 4000) (As := [.int 1, .int 4]) (rest := []) dX5_readCar_54 ml_X5_63 (mf_X5_readNumber 4) mv_X5_readNumber (fun hj r hr => c_X5_readNumber hj m0 m1 m2 m3 r11.2 m5 m6 m7 m8 m9 m10 m11 (1 : Int32) (4 : Int32) hr) (rcv_obj (q := (RX5, TX5, 9)) kl_4000 rfl) rfl rfl (Nat.le_of_ble_eq_true rfl) (Nat.le_of_ble_eq_true rfl) (fun r14 => ?_)
        show K G (mi_X5_readCar 5) (e_X5_readCar m0 m1 m2 m3 m4 m5 m6 m7 m8 m9 m10 m11) 57 [(2, .int x12), (0, .ref 4000), (1, .ref 2000)] [.int r14.1] [m0, m1, m2, m3, r14.2, m5, m6, m7, m8, m9, m10, m11] _
        refine K_if_ne 62 dX5_readCar_57 rfl (fun _ => ?_) (fun _ => ?_)
        · refine K_aload_n 1 dX5_readCar_62 rfl ?_
          refine K_get (v := .int (r14.2 0 7)) dX5_readCar_63 fl_X5_67 kl_4000 rfl rfl ?_
          refine K_nmi (fun x15 => ?_)
          refine K_istore_n (lv' := [(3, .int x15), (2, .int x12), (0, .ref 4000), (1, .ref 2000)]) dX5_readCar_66 (by decide) rfl ?_
          refine K_aload_n 2 dX5_readCar_67 rfl ?_
          refine K_iconst (v := 0) dX5_readCar_68 (by decide) ?_
          refine K_iconst (v := 1) dX5_readCar_69 (by decide) ?_
          refine K_callV (E' := e_X5_readNumber m0 m1 m2 m3 r14.2 m5 m6 m7 m8 m9 m10 m11) (b := 4000) (As := [.int 0, .int 1]) (rest := []) dX5_readCar_70 ml_X5_63 (mf_X5_readNumber 4) mv_X5_readNumber (fun hj r hr => c_X5_readNumber hj m0 m1 m2 m3 r14.2 m5 m6 m7 m8 m9 m10 m11 (0 : Int32) (1 : Int32) hr) (rcv_obj (q := (RX5, TX5, 9)) kl_4000 rfl) rfl rfl (Nat.le_of_ble_eq_true rfl) (Nat.le_of_ble_eq_true rfl) (fun r16 => ?_)
          show K G (mi_X5_readCar 5) (e_X5_readCar m0 m1 m2 m3 m4 m5 m6 m7 m8 m9 m10 m11) 73 [(3, .int x15), (2, .int x12), (0, .ref 4000), (1, .ref 2000)] [.int r16.1] [m0, m1, m2, m3, r16.2, m5, m6, m7, m8, m9, m10, m11] _
          refine K_if_ne 78 dX5_readCar_73 rfl (fun _ => ?_) (fun _ => ?_)
          · refine K_aload_n 3 dX5_readCar_78 rfl ?_
            refine K_iload_n 1 dX5_readCar_79 rfl ?_
            refine K_iload_n 0 dX5_readCar_80 rfl ?_
            refine K_aload_n 2 dX5_readCar_81 rfl ?_
            refine K_get (v := .int (r16.2 0 7)) dX5_readCar_82 fl_X5_67 kl_4000 rfl rfl ?_
            refine K_callV (E' := e_X3_addCar_2 m0 m1 m2 m3 r16.2 m5 m6 m7 m8 m9 m10 m11) (b := 2000) (As := [.int x12, .int x15, .int (r16.2 0 7)]) (rest := []) dX5_readCar_85 ml_X5_150 (mf_X3_addCar 1) mv_X3_addCar (fun hj r hr => c_X3_addCar_2 hj m0 m1 m2 m3 r16.2 m5 m6 m7 m8 m9 m10 m11 x12 x15 (r16.2 0 7) hr) (rcv_obj (q := (RX3, TX3, 18)) kl_2000 rfl) rfl rfl (Nat.le_of_ble_eq_true rfl) (Nat.le_of_ble_eq_true rfl) (fun r17 => ?_)
            show K G (mi_X5_readCar 5) (e_X5_readCar m0 m1 m2 m3 m4 m5 m6 m7 m8 m9 m10 m11) 88 [(3, .int x15), (2, .int x12), (0, .ref 4000), (1, .ref 2000)] [] [m0, m1, r17, m3, r16.2, m5, m6, m7, m8, m9, m10, m11] _
            refine K_aload_n 2 dX5_readCar_88 rfl ?_
            refine K_callV (E' := e_X5_readSign m0 m1 r17 m3 r16.2 m5 m6 m7 m8 m9 m10 m11) (b := 4000) (As := []) (rest := []) dX5_readCar_89 ml_X5_76 (mf_X5_readSign 4) mv_X5_readSign (fun hj r hr => c_X5_readSign hj m0 m1 r17 m3 r16.2 m5 m6 m7 m8 m9 m10 m11  hr) (rcv_obj (q := (RX5, TX5, 9)) kl_4000 rfl) rfl rfl (Nat.le_of_ble_eq_true rfl) (Nat.le_of_ble_eq_true rfl) (fun r18 => ?_)
            show K G (mi_X5_readCar 5) (e_X5_readCar m0 m1 m2 m3 m4 m5 m6 m7 m8 m9 m10 m11) 92 [(3, .int x15), (2, .int x12), (0, .ref 4000), (1, .ref 2000)] [.int r18.1] [m0, m1, r17, m3, r18.2, m5, m6, m7, m8, m9, m10, m11] _
            exact K_retB dX5_readCar_92 rfl rfl
          · refine K_iconst (v := 0) dX5_readCar_76 (by decide) ?_
            exact K_ret (rv := some (.int 0)) dX5_readCar_77 rfl rfl rfl
        · refine K_iconst (v := 0) dX5_readCar_60 (by decide) ?_
          exact K_ret (rv := some (.int 0)) dX5_readCar_61 rfl rfl rfl
      · refine K_aload_n 1 dX5_readCar_45 rfl ?_
        refine K_iconst (v := 2) dX5_readCar_46 (by decide) ?_
        refine K_callV (E' := e_X5_fail m0 m1 m2 m3 r11.2 m5 m6 m7 m8 m9 m10 m11) (b := 4000) (As := [.int 2]) (rest := []) dX5_readCar_47 ml_X5_59 (mf_X5_fail 1) mv_X5_fail (fun hj r hr => c_X5_fail hj m0 m1 m2 m3 r11.2 m5 m6 m7 m8 m9 m10 m11 (2 : Int32) hr) (rcv_obj (q := (RX5, TX5, 9)) kl_4000 rfl) rfl rfl (Nat.le_of_ble_eq_true rfl) (Nat.le_of_ble_eq_true rfl) (fun r19 => ?_)
        show K G (mi_X5_readCar 5) (e_X5_readCar m0 m1 m2 m3 m4 m5 m6 m7 m8 m9 m10 m11) 50 [(2, .int x12), (0, .ref 4000), (1, .ref 2000)] [.int r19.1] [m0, m1, m2, m3, r19.2, m5, m6, m7, m8, m9, m10, m11] _
        exact K_retB dX5_readCar_50 rfl rfl
    · refine K_iconst (v := 0) dX5_readCar_28 (by decide) ?_
      exact K_ret (rv := some (.int 0)) dX5_readCar_29 rfl rfl rfl
  · refine K_aload_n 0 dX5_readCar_8 rfl ?_
    refine K_iconst (v := 3) dX5_readCar_9 (by decide) ?_
    refine K_callV (E' := e_X5_fail m0 m1 m2 m3 m4 m5 m6 m7 m8 m9 m10 m11) (b := 4000) (As := [.int 3]) (rest := []) dX5_readCar_10 ml_X5_59 (mf_X5_fail 1) mv_X5_fail (fun hj r hr => c_X5_fail hj m0 m1 m2 m3 m4 m5 m6 m7 m8 m9 m10 m11 (3 : Int32) hr) (rcv_obj (q := (RX5, TX5, 9)) kl_4000 rfl) rfl rfl (Nat.le_of_ble_eq_true rfl) (Nat.le_of_ble_eq_true rfl) (fun r20 => ?_)
    show K G (mi_X5_readCar 5) (e_X5_readCar m0 m1 m2 m3 m4 m5 m6 m7 m8 m9 m10 m11) 13 [(0, .ref 4000), (1, .ref 2000)] [.int r20.1] [m0, m1, m2, m3, r20.2, m5, m6, m7, m8, m9, m10, m11] _
    exact K_retB dX5_readCar_13 rfl rfl
theorem c_X5_readCar {G : GE} (hj : dj G) (m0 m1 m2 m3 m4 m5 m6 m7 m8 m9 m10 m11 : Mem)  {r : Int32 × Mem × Mem} (hr : f_X5_readCar m2 m4 = some r) : Ctr G yX5_readCar (mi_X5_readCar 5) [.ref 4000, .ref 2000] [m0, m1, m2, m3, m4, m5, m6, m7, m8, m9, m10, m11] ((e_X5_readCar m0 m1 m2 m3 m4 m5 m6 m7 m8 m9 m10 m11) r).1 ((e_X5_readCar m0 m1 m2 m3 m4 m5 m6 m7 m8 m9 m10 m11) r).2 := Ctr_of hj (by decide) rfl hr rfl (Nat.le_of_ble_eq_true rfl) (k_X5_readCar m0 m1 m2 m3 m4 m5 m6 m7 m8 m9 m10 m11 )
abbrev e_X3_addQuarrel_2 (m0 m1 m2 m3 m4 m5 m6 m7 m8 m9 m10 m11 : Mem) : Mem → Option Value × List Mem := fun r => (none, [m0, m1, r, m3, m4, m5, m6, m7, m8, m9, m10, m11])
theorem k_X3_addQuarrel_2 {G : GE} (m0 m1 m2 m3 m4 m5 m6 m7 m8 m9 m10 m11 : Mem) (x1 : Int32) (x2 : Int32) : K G (mi_X3_addQuarrel 1) (e_X3_addQuarrel_2 m0 m1 m2 m3 m4 m5 m6 m7 m8 m9 m10 m11) 0 [(0, .ref 2000), (1, .int x1), (2, .int x2)] [] [m0, m1, m2, m3, m4, m5, m6, m7, m8, m9, m10, m11] (f_X3_addQuarrel m2 x1 x2) := by
  unfold f_X3_addQuarrel
  refine K_aload_n 0 dX3_addQuarrel_0 rfl ?_
  refine K_get (v := .ref 2015) dX3_addQuarrel_1 fl_X3_28 kl_2000 rfl rfl ?_
  refine K_iload_n 1 dX3_addQuarrel_4 rfl ?_
  refine K_dup2 dX3_addQuarrel_5 rfl rfl ?_
  refine K_iald (f := m2 15) dX3_addQuarrel_6 kl_2015 rfl ?_
  refine K_iconst (v := 1) dX3_addQuarrel_7 (by decide) ?_
  refine K_iload_n 2 dX3_addQuarrel_8 rfl ?_
  refine K_ishl dX3_addQuarrel_9 ?_
  refine K_ior dX3_addQuarrel_10 ?_
  refine K_iast (Ms' := [m0, m1, (up m2 15 x1.toNatClampNeg ((m2 15 x1.toNatClampNeg) ||| (1 <<< (x2 &&& 31)))), m3, m4, m5, m6, m7, m8, m9, m10, m11]) dX3_addQuarrel_11 kl_2015 (Nat.le_of_ble_eq_true rfl) rfl ?_
  refine K_nmm (fun w => [m0, m1, w, m3, m4, m5, m6, m7, m8, m9, m10, m11]) rfl (fun w11 => ?_)
  refine K_aload_n 0 dX3_addQuarrel_12 rfl ?_
  refine K_get (v := .ref 2015) dX3_addQuarrel_13 fl_X3_28 kl_2000 rfl rfl ?_
  refine K_iload_n 2 dX3_addQuarrel_16 rfl ?_
  refine K_dup2 dX3_addQuarrel_17 rfl rfl ?_
  refine K_iald (f := w11 15) dX3_addQuarrel_18 kl_2015 rfl ?_
  refine K_iconst (v := 1) dX3_addQuarrel_19 (by decide) ?_
  refine K_iload_n 1 dX3_addQuarrel_20 rfl ?_
  refine K_ishl dX3_addQuarrel_21 ?_
  refine K_ior dX3_addQuarrel_22 ?_
  refine K_iast (Ms' := [m0, m1, (up w11 15 x2.toNatClampNeg ((w11 15 x2.toNatClampNeg) ||| (1 <<< (x1 &&& 31)))), m3, m4, m5, m6, m7, m8, m9, m10, m11]) dX3_addQuarrel_23 kl_2015 (Nat.le_of_ble_eq_true rfl) rfl ?_
  refine K_nmm (fun w => [m0, m1, w, m3, m4, m5, m6, m7, m8, m9, m10, m11]) rfl (fun w12 => ?_)
  refine K_aload_n 0 dX3_addQuarrel_24 rfl ?_
  refine K_dup dX3_addQuarrel_25 rfl ?_
  refine K_get (v := .int (w12 0 5)) dX3_addQuarrel_26 fl_X3_47 kl_2000 rfl rfl ?_
  refine K_iconst (v := 1) dX3_addQuarrel_29 (by decide) ?_
  refine K_iadd dX3_addQuarrel_30 ?_
  refine K_put (Ms' := [m0, m1, (up w12 0 5 ((w12 0 5) + 1)), m3, m4, m5, m6, m7, m8, m9, m10, m11]) dX3_addQuarrel_31 fp_X3_47 kl_2000 rfl rfl rfl (Nat.le_of_ble_eq_true rfl) rfl ?_
  refine K_nmm (fun w => [m0, m1, w, m3, m4, m5, m6, m7, m8, m9, m10, m11]) rfl (fun w13 => ?_)
  exact K_ret (rv := none) dX3_addQuarrel_34 trivial rfl rfl
theorem c_X3_addQuarrel_2 {G : GE} (hj : dj G) (m0 m1 m2 m3 m4 m5 m6 m7 m8 m9 m10 m11 : Mem) (x1 : Int32) (x2 : Int32) {r : Mem} (hr : f_X3_addQuarrel m2 x1 x2 = some r) : Ctr G yX3_addQuarrel (mi_X3_addQuarrel 1) [.ref 2000, .int x1, .int x2] [m0, m1, m2, m3, m4, m5, m6, m7, m8, m9, m10, m11] ((e_X3_addQuarrel_2 m0 m1 m2 m3 m4 m5 m6 m7 m8 m9 m10 m11) r).1 ((e_X3_addQuarrel_2 m0 m1 m2 m3 m4 m5 m6 m7 m8 m9 m10 m11) r).2 := Ctr_of hj (by decide) rfl hr rfl (Nat.le_of_ble_eq_true rfl) (k_X3_addQuarrel_2 m0 m1 m2 m3 m4 m5 m6 m7 m8 m9 m10 m11 x1 x2)
abbrev e_X5_readQuarrel (m0 m1 m2 m3 m4 m5 m6 m7 m8 m9 m10 m11 : Mem) : (Int32 × Mem × Mem) → Option Value × List Mem := fun r => (some (.int r.1), [m0, m1, r.2.1, m3, r.2.2, m5, m6, m7, m8, m9, m10, m11])
theorem k_X5_readQuarrel {G : GE} (m0 m1 m2 m3 m4 m5 m6 m7 m8 m9 m10 m11 : Mem)  : K G (mi_X5_readQuarrel 5) (e_X5_readQuarrel m0 m1 m2 m3 m4 m5 m6 m7 m8 m9 m10 m11) 0 [(0, .ref 4000), (1, .ref 2000)] [] [m0, m1, m2, m3, m4, m5, m6, m7, m8, m9, m10, m11] (f_X5_readQuarrel m2 m4) := by
  unfold f_X5_readQuarrel
  refine K_aload_n 1 dX5_readQuarrel_0 rfl ?_
  refine K_get (v := .int (m2 0 5)) dX5_readQuarrel_1 fl_X5_153 kl_2000 rfl rfl ?_
  refine K_bipush (v := 6) dX5_readQuarrel_4 (by decide) ?_
  refine K_icmp_lt 15 dX5_readQuarrel_6 rfl (fun _ => ?_) (fun _ => ?_)
  · refine K_aload_n 0 dX5_readQuarrel_15 rfl ?_
    refine K_iconst (v := 0) dX5_readQuarrel_16 (by decide) ?_
    refine K_aload_n 1 dX5_readQuarrel_17 rfl ?_
    refine K_get (v := .int (m2 0 6)) dX5_readQuarrel_18 fl_X5_123 kl_2000 rfl rfl ?_
    refine K_iconst (v := 1) dX5_readQuarrel_21 (by decide) ?_
    refine K_isub dX5_readQuarrel_22 ?_
    refine K_callV (E' := e_X5_readNumber m0 m1 m2 m3 m4 m5 m6 m7 m8 m9 m10 m11) (b := 4000) (As := [.int 0, .int ((m2 0 6) - 1)]) (rest := []) dX5_readQuarrel_23 ml_X5_63 (mf_X5_readNumber 4) mv_X5_readNumber (fun hj r hr => c_X5_readNumber hj m0 m1 m2 m3 m4 m5 m6 m7 m8 m9 m10 m11 (0 : Int32) ((m2 0 6) - 1) hr) (rcv_obj (q := (RX5, TX5, 9)) kl_4000 rfl) rfl rfl (Nat.le_of_ble_eq_true rfl) (Nat.le_of_ble_eq_true rfl) (fun r11 => ?_)
    show K G (mi_X5_readQuarrel 5) (e_X5_readQuarrel m0 m1 m2 m3 m4 m5 m6 m7 m8 m9 m10 m11) 26 [(0, .ref 4000), (1, .ref 2000)] [.int r11.1] [m0, m1, m2, m3, r11.2, m5, m6, m7, m8, m9, m10, m11] _
    refine K_if_ne 31 dX5_readQuarrel_26 rfl (fun _ => ?_) (fun _ => ?_)
    · refine K_aload_n 0 dX5_readQuarrel_31 rfl ?_
      refine K_get (v := .int (r11.2 0 7)) dX5_readQuarrel_32 fl_X5_67 kl_4000 rfl rfl ?_
      refine K_nmi (fun x12 => ?_)
      refine K_istore_n (lv' := [(2, .int x12), (0, .ref 4000), (1, .ref 2000)]) dX5_readQuarrel_35 (by decide) rfl ?_
      refine K_aload_n 1 dX5_readQuarrel_36 rfl ?_
      refine K_iconst (v := 0) dX5_readQuarrel_37 (by decide) ?_
      refine K_aload_n 2 dX5_readQuarrel_38 rfl ?_
      refine K_get (v := .int (m2 0 6)) dX5_readQuarrel_39 fl_X5_123 kl_2000 rfl rfl ?_
      refine K_iconst (v := 1) dX5_readQuarrel_42 (by decide) ?_
      refine K_isub dX5_readQuarrel_43 ?_
      refine K_callV (E' := e_X5_readNumber m0 m1 m2 m3 r11.2 m5 m6 m7 m8 m9 m10 m11) (b := 4000) (As := [.int 0, .int ((m2 0 6) - 1)]) (rest := []) dX5_readQuarrel_44 ml_X5_63 (mf_X5_readNumber 4) mv_X5_readNumber (fun hj r hr => c_X5_readNumber hj m0 m1 m2 m3 r11.2 m5 m6 m7 m8 m9 m10 m11 (0 : Int32) ((m2 0 6) - 1) hr) (rcv_obj (q := (RX5, TX5, 9)) kl_4000 rfl) rfl rfl (Nat.le_of_ble_eq_true rfl) (Nat.le_of_ble_eq_true rfl) (fun r13 => ?_)
      show K G (mi_X5_readQuarrel 5) (e_X5_readQuarrel m0 m1 m2 m3 m4 m5 m6 m7 m8 m9 m10 m11) 47 [(2, .int x12), (0, .ref 4000), (1, .ref 2000)] [.int r13.1] [m0, m1, m2, m3, r13.2, m5, m6, m7, m8, m9, m10, m11] _
      refine K_if_ne 52 dX5_readQuarrel_47 rfl (fun _ => ?_) (fun _ => ?_)
      · refine K_aload_n 1 dX5_readQuarrel_52 rfl ?_
        refine K_get (v := .int (r13.2 0 7)) dX5_readQuarrel_53 fl_X5_67 kl_4000 rfl rfl ?_
        refine K_nmi (fun x14 => ?_)
        refine K_istore_n (lv' := [(3, .int x14), (2, .int x12), (0, .ref 4000), (1, .ref 2000)]) dX5_readQuarrel_56 (by decide) rfl ?_
        refine K_iload_n 1 dX5_readQuarrel_57 rfl ?_
        refine K_iload_n 0 dX5_readQuarrel_58 rfl ?_
        refine K_icmp_ne 68 dX5_readQuarrel_59 rfl (fun _ => ?_) (fun _ => ?_)
        · refine K_aload_n 3 dX5_readQuarrel_68 rfl ?_
          refine K_iload_n 1 dX5_readQuarrel_69 rfl ?_
          refine K_iload_n 0 dX5_readQuarrel_70 rfl ?_
          refine K_callV (E' := e_X3_addQuarrel_2 m0 m1 m2 m3 r13.2 m5 m6 m7 m8 m9 m10 m11) (b := 2000) (As := [.int x12, .int x14]) (rest := []) dX5_readQuarrel_71 ml_X5_156 (mf_X3_addQuarrel 1) mv_X3_addQuarrel (fun hj r hr => c_X3_addQuarrel_2 hj m0 m1 m2 m3 r13.2 m5 m6 m7 m8 m9 m10 m11 x12 x14 hr) (rcv_obj (q := (RX3, TX3, 18)) kl_2000 rfl) rfl rfl (Nat.le_of_ble_eq_true rfl) (Nat.le_of_ble_eq_true rfl) (fun r15 => ?_)
          show K G (mi_X5_readQuarrel 5) (e_X5_readQuarrel m0 m1 m2 m3 m4 m5 m6 m7 m8 m9 m10 m11) 74 [(3, .int x14), (2, .int x12), (0, .ref 4000), (1, .ref 2000)] [] [m0, m1, r15, m3, r13.2, m5, m6, m7, m8, m9, m10, m11] _
          refine K_aload_n 2 dX5_readQuarrel_74 rfl ?_
          refine K_callV (E' := e_X5_readSign m0 m1 r15 m3 r13.2 m5 m6 m7 m8 m9 m10 m11) (b := 4000) (As := []) (rest := []) dX5_readQuarrel_75 ml_X5_76 (mf_X5_readSign 4) mv_X5_readSign (fun hj r hr => c_X5_readSign hj m0 m1 r15 m3 r13.2 m5 m6 m7 m8 m9 m10 m11  hr) (rcv_obj (q := (RX5, TX5, 9)) kl_4000 rfl) rfl rfl (Nat.le_of_ble_eq_true rfl) (Nat.le_of_ble_eq_true rfl) (fun r16 => ?_)
          show K G (mi_X5_readQuarrel 5) (e_X5_readQuarrel m0 m1 m2 m3 m4 m5 m6 m7 m8 m9 m10 m11) 78 [(3, .int x14), (2, .int x12), (0, .ref 4000), (1, .ref 2000)] [.int r16.1] [m0, m1, r15, m3, r16.2, m5, m6, m7, m8, m9, m10, m11] _
          exact K_retB dX5_readQuarrel_78 rfl rfl
        · refine K_aload_n 2 dX5_readQuarrel_62 rfl ?_
          refine K_iconst (v := 2) dX5_readQuarrel_63 (by decide) ?_
          refine K_callV (E' := e_X5_fail m0 m1 m2 m3 r13.2 m5 m6 m7 m8 m9 m10 m11) (b := 4000) (As := [.int 2]) (rest := []) dX5_readQuarrel_64 ml_X5_59 (mf_X5_fail 1) mv_X5_fail (fun hj r hr => c_X5_fail hj m0 m1 m2 m3 r13.2 m5 m6 m7 m8 m9 m10 m11 (2 : Int32) hr) (rcv_obj (q := (RX5, TX5, 9)) kl_4000 rfl) rfl rfl (Nat.le_of_ble_eq_true rfl) (Nat.le_of_ble_eq_true rfl) (fun r17 => ?_)
          show K G (mi_X5_readQuarrel 5) (e_X5_readQuarrel m0 m1 m2 m3 m4 m5 m6 m7 m8 m9 m10 m11) 67 [(3, .int x14), (2, .int x12), (0, .ref 4000), (1, .ref 2000)] [.int r17.1] [m0, m1, m2, m3, r17.2, m5, m6, m7, m8, m9, m10, m11] _
          exact K_retB dX5_readQuarrel_67 rfl rfl
      · refine K_iconst (v := 0) dX5_readQuarrel_50 (by decide) ?_
        exact K_ret (rv := some (.int 0)) dX5_readQuarrel_51 rfl rfl rfl
    · refine K_iconst (v := 0) dX5_readQuarrel_29 (by decide) ?_
      exact K_ret (rv := some (.int 0)) dX5_readQuarrel_30 rfl rfl rfl
  · refine K_aload_n 0 dX5_readQuarrel_9 rfl ?_
    refine K_iconst (v := 3) dX5_readQuarrel_10 (by decide) ?_
    refine K_callV (E' := e_X5_fail m0 m1 m2 m3 m4 m5 m6 m7 m8 m9 m10 m11) (b := 4000) (As := [.int 3]) (rest := []) dX5_readQuarrel_11 ml_X5_59 (mf_X5_fail 1) mv_X5_fail (fun hj r hr => c_X5_fail hj m0 m1 m2 m3 m4 m5 m6 m7 m8 m9 m10 m11 (3 : Int32) hr) (rcv_obj (q := (RX5, TX5, 9)) kl_4000 rfl) rfl rfl (Nat.le_of_ble_eq_true rfl) (Nat.le_of_ble_eq_true rfl) (fun r18 => ?_)
    show K G (mi_X5_readQuarrel 5) (e_X5_readQuarrel m0 m1 m2 m3 m4 m5 m6 m7 m8 m9 m10 m11) 14 [(0, .ref 4000), (1, .ref 2000)] [.int r18.1] [m0, m1, m2, m3, r18.2, m5, m6, m7, m8, m9, m10, m11] _
    exact K_retB dX5_readQuarrel_14 rfl rfl
theorem c_X5_readQuarrel {G : GE} (hj : dj G) (m0 m1 m2 m3 m4 m5 m6 m7 m8 m9 m10 m11 : Mem)  {r : Int32 × Mem × Mem} (hr : f_X5_readQuarrel m2 m4 = some r) : Ctr G yX5_readQuarrel (mi_X5_readQuarrel 5) [.ref 4000, .ref 2000] [m0, m1, m2, m3, m4, m5, m6, m7, m8, m9, m10, m11] ((e_X5_readQuarrel m0 m1 m2 m3 m4 m5 m6 m7 m8 m9 m10 m11) r).1 ((e_X5_readQuarrel m0 m1 m2 m3 m4 m5 m6 m7 m8 m9 m10 m11) r).2 := Ctr_of hj (by decide) rfl hr rfl (Nat.le_of_ble_eq_true rfl) (k_X5_readQuarrel m0 m1 m2 m3 m4 m5 m6 m7 m8 m9 m10 m11 )
abbrev e_X5_readStatement (m0 m1 m2 m3 m4 m5 m6 m7 m8 m9 m10 m11 : Mem) : (Int32 × Mem × Mem) → Option Value × List Mem := fun r => (some (.int r.1), [m0, m1, r.2.1, m3, r.2.2, m5, m6, m7, m8, m9, m10, m11])
theorem k_X5_readStatement {G : GE} (m0 m1 m2 m3 m4 m5 m6 m7 m8 m9 m10 m11 : Mem)  : K G (mi_X5_readStatement 10) (e_X5_readStatement m0 m1 m2 m3 m4 m5 m6 m7 m8 m9 m10 m11) 0 [(0, .ref 4000), (1, .ref 2000)] [] [m0, m1, m2, m3, m4, m5, m6, m7, m8, m9, m10, m11] (f_X5_readStatement m2 m4) := by
  unfold f_X5_readStatement
  refine K_aload_n 0 dX5_readStatement_0 rfl ?_
  refine K_callV (E' := e_X5_statementWord m0 m1 m2 m3 m4 m5 m6 m7 m8 m9 m10 m11) (b := 4000) (As := []) (rest := []) dX5_readStatement_1 ml_X5_80 (mf_X5_statementWord 8) mv_X5_statementWord (fun hj r hr => c_X5_statementWord hj m0 m1 m2 m3 m4 m5 m6 m7 m8 m9 m10 m11  hr) (rcv_obj (q := (RX5, TX5, 9)) kl_4000 rfl) rfl rfl (Nat.le_of_ble_eq_true rfl) (Nat.le_of_ble_eq_true rfl) (fun r11 => ?_)
  show K G (mi_X5_readStatement 10) (e_X5_readStatement m0 m1 m2 m3 m4 m5 m6 m7 m8 m9 m10 m11) 4 [(0, .ref 4000), (1, .ref 2000)] [.int r11] [m0, m1, m2, m3, m4, m5, m6, m7, m8, m9, m10, m11] _
  refine K_istore_n (lv' := [(2, .int r11), (0, .ref 4000), (1, .ref 2000)]) dX5_readStatement_4 (by decide) rfl ?_
  refine K_iload_n 0 dX5_readStatement_5 rfl ?_
  refine K_if_eq 17 dX5_readStatement_6 rfl (fun _ => ?_) (fun _ => ?_)
  · refine K_aload_n 1 dX5_readStatement_17 rfl ?_
    refine K_iconst (v := 1) dX5_readStatement_18 (by decide) ?_
    refine K_callV (E' := e_X5_fail m0 m1 m2 m3 m4 m5 m6 m7 m8 m9 m10 m11) (b := 4000) (As := [.int 1]) (rest := []) dX5_readStatement_19 ml_X5_59 (mf_X5_fail 1) mv_X5_fail (fun hj r hr => c_X5_fail hj m0 m1 m2 m3 m4 m5 m6 m7 m8 m9 m10 m11 (1 : Int32) hr) (rcv_obj (q := (RX5, TX5, 9)) kl_4000 rfl) rfl rfl (Nat.le_of_ble_eq_true rfl) (Nat.le_of_ble_eq_true rfl) (fun r12 => ?_)
    show K G (mi_X5_readStatement 10) (e_X5_readStatement m0 m1 m2 m3 m4 m5 m6 m7 m8 m9 m10 m11) 22 [(2, .int r11), (0, .ref 4000), (1, .ref 2000)] [.int r12.1] [m0, m1, m2, m3, r12.2, m5, m6, m7, m8, m9, m10, m11] _
    exact K_retB dX5_readStatement_22 rfl rfl
  · refine K_iload_n 0 dX5_readStatement_9 rfl ?_
    refine K_aload_n 1 dX5_readStatement_10 rfl ?_
    refine K_get (v := .int (m4 0 8)) dX5_readStatement_11 fl_X5_29 kl_4000 rfl rfl ?_
    refine K_icmp_ge 23 dX5_readStatement_14 rfl (fun _ => ?_) (fun _ => ?_)
    · refine K_aload_n 1 dX5_readStatement_23 rfl ?_
      refine K_iload_n 0 dX5_readStatement_24 rfl ?_
      refine K_put (Ms' := [m0, m1, m2, m3, (up m4 0 8 r11), m5, m6, m7, m8, m9, m10, m11]) dX5_readStatement_25 fp_X5_29 kl_4000 rfl rfl rfl (Nat.le_of_ble_eq_true rfl) rfl ?_
      refine K_nmm (fun w => [m0, m1, m2, m3, w, m5, m6, m7, m8, m9, m10, m11]) rfl (fun w13 => ?_)
      refine K_iload_n 0 dX5_readStatement_28 rfl ?_
      refine K_ite (c := r11 = 1) (fun hs1 => ?_) (fun hs1 => ?_)
      · refine K_tabIn (off := 31) 60 dX5_readStatement_29 (by rw [hs1]; decide) (by rw [hs1]; decide) (by rw [hs1]; rfl) rfl ?_
        refine K_aload_n 1 dX5_readStatement_60 rfl ?_
        refine K_aload_n 2 dX5_readStatement_61 rfl ?_
        refine K_callV (E' := e_X5_readWay m0 m1 m2 m3 w13 m5 m6 m7 m8 m9 m10 m11) (b := 4000) (As := [.ref 2000]) (rest := []) dX5_readStatement_62 ml_X5_84 (mf_X5_readWay 5) mv_X5_readWay (fun hj r hr => c_X5_readWay hj m0 m1 m2 m3 w13 m5 m6 m7 m8 m9 m10 m11  hr) (rcv_obj (q := (RX5, TX5, 9)) kl_4000 rfl) rfl rfl (Nat.le_of_ble_eq_true rfl) (Nat.le_of_ble_eq_true rfl) (fun r14 => ?_)
        show K G (mi_X5_readStatement 10) (e_X5_readStatement m0 m1 m2 m3 m4 m5 m6 m7 m8 m9 m10 m11) 65 [(2, .int r11), (0, .ref 4000), (1, .ref 2000)] [.int r14.1] [m0, m1, r14.2.1, m3, r14.2.2, m5, m6, m7, m8, m9, m10, m11] _
        exact K_retB dX5_readStatement_65 rfl rfl
      refine K_ite (c := r11 = 2) (fun hs2 => ?_) (fun hs2 => ?_)
      · refine K_tabIn (off := 37) 66 dX5_readStatement_29 (by rw [hs2]; decide) (by rw [hs2]; decide) (by rw [hs2]; rfl) rfl ?_
        refine K_aload_n 1 dX5_readStatement_66 rfl ?_
        refine K_aload_n 2 dX5_readStatement_67 rfl ?_
        refine K_callV (E' := e_X5_readHill m0 m1 m2 m3 w13 m5 m6 m7 m8 m9 m10 m11) (b := 4000) (As := [.ref 2000]) (rest := []) dX5_readStatement_68 ml_X5_87 (mf_X5_readHill 5) mv_X5_readHill (fun hj r hr => c_X5_readHill hj m0 m1 m2 m3 w13 m5 m6 m7 m8 m9 m10 m11  hr) (rcv_obj (q := (RX5, TX5, 9)) kl_4000 rfl) rfl rfl (Nat.le_of_ble_eq_true rfl) (Nat.le_of_ble_eq_true rfl) (fun r15 => ?_)
        show K G (mi_X5_readStatement 10) (e_X5_readStatement m0 m1 m2 m3 m4 m5 m6 m7 m8 m9 m10 m11) 71 [(2, .int r11), (0, .ref 4000), (1, .ref 2000)] [.int r15.1] [m0, m1, r15.2.1, m3, r15.2.2, m5, m6, m7, m8, m9, m10, m11] _
        exact K_retB dX5_readStatement_71 rfl rfl
      refine K_ite (c := r11 = 3) (fun hs3 => ?_) (fun hs3 => ?_)
      · refine K_tabIn (off := 43) 72 dX5_readStatement_29 (by rw [hs3]; decide) (by rw [hs3]; decide) (by rw [hs3]; rfl) rfl ?_
        refine K_aload_n 1 dX5_readStatement_72 rfl ?_
        refine K_aload_n 2 dX5_readStatement_73 rfl ?_
        refine K_callV (E' := e_X5_readPerson m0 m1 m2 m3 w13 m5 m6 m7 m8 m9 m10 m11) (b := 4000) (As := [.ref 2000]) (rest := []) dX5_readStatement_74 ml_X5_90 (mf_X5_readPerson 9) mv_X5_readPerson (fun hj r hr => c_X5_readPerson hj m0 m1 m2 m3 w13 m5 m6 m7 m8 m9 m10 m11  hr) (rcv_obj (q := (RX5, TX5, 9)) kl_4000 rfl) rfl rfl (Nat.le_of_ble_eq_true rfl) (Nat.le_of_ble_eq_true rfl) (fun r16 => ?_)
        show K G (mi_X5_readStatement 10) (e_X5_readStatement m0 m1 m2 m3 m4 m5 m6 m7 m8 m9 m10 m11) 77 [(2, .int r11), (0, .ref 4000), (1, .ref 2000)] [.int r16.1] [m0, m1, r16.2.1, m3, r16.2.2, m5, m6, m7, m8, m9, m10, m11] _
        exact K_retB dX5_readStatement_77 rfl rfl
      refine K_ite (c := r11 = 4) (fun hs4 => ?_) (fun hs4 => ?_)
      · refine K_tabIn (off := 49) 78 dX5_readStatement_29 (by rw [hs4]; decide) (by rw [hs4]; decide) (by rw [hs4]; rfl) rfl ?_
        refine K_aload_n 1 dX5_readStatement_78 rfl ?_
        refine K_aload_n 2 dX5_readStatement_79 rfl ?_
        refine K_callV (E' := e_X5_readCar m0 m1 m2 m3 w13 m5 m6 m7 m8 m9 m10 m11) (b := 4000) (As := [.ref 2000]) (rest := []) dX5_readStatement_80 ml_X5_93 (mf_X5_readCar 5) mv_X5_readCar (fun hj r hr => c_X5_readCar hj m0 m1 m2 m3 w13 m5 m6 m7 m8 m9 m10 m11  hr) (rcv_obj (q := (RX5, TX5, 9)) kl_4000 rfl) rfl rfl (Nat.le_of_ble_eq_true rfl) (Nat.le_of_ble_eq_true rfl) (fun r17 => ?_)
        show K G (mi_X5_readStatement 10) (e_X5_readStatement m0 m1 m2 m3 m4 m5 m6 m7 m8 m9 m10 m11) 83 [(2, .int r11), (0, .ref 4000), (1, .ref 2000)] [.int r17.1] [m0, m1, r17.2.1, m3, r17.2.2, m5, m6, m7, m8, m9, m10, m11] _
        exact K_retB dX5_readStatement_83 rfl rfl
      refine K_tabOut 84 dX5_readStatement_29 (by have ehs1 := lv_neT hs1 (a := 1) (by decide); have ehs2 := lv_neT hs2 (a := 2) (by decide); have ehs3 := lv_neT hs3 (a := 3) (by decide); have ehs4 := lv_neT hs4 (a := 4) (by decide); omega) rfl ?_
      refine K_aload_n 1 dX5_readStatement_84 rfl ?_
      refine K_aload_n 2 dX5_readStatement_85 rfl ?_
      refine K_callV (E' := e_X5_readQuarrel m0 m1 m2 m3 w13 m5 m6 m7 m8 m9 m10 m11) (b := 4000) (As := [.ref 2000]) (rest := []) dX5_readStatement_86 ml_X5_96 (mf_X5_readQuarrel 5) mv_X5_readQuarrel (fun hj r hr => c_X5_readQuarrel hj m0 m1 m2 m3 w13 m5 m6 m7 m8 m9 m10 m11  hr) (rcv_obj (q := (RX5, TX5, 9)) kl_4000 rfl) rfl rfl (Nat.le_of_ble_eq_true rfl) (Nat.le_of_ble_eq_true rfl) (fun r18 => ?_)
      show K G (mi_X5_readStatement 10) (e_X5_readStatement m0 m1 m2 m3 m4 m5 m6 m7 m8 m9 m10 m11) 89 [(2, .int r11), (0, .ref 4000), (1, .ref 2000)] [.int r18.1] [m0, m1, r18.2.1, m3, r18.2.2, m5, m6, m7, m8, m9, m10, m11] _
      exact K_retB dX5_readStatement_89 rfl rfl
    · refine K_aload_n 1 dX5_readStatement_17 rfl ?_
      refine K_iconst (v := 1) dX5_readStatement_18 (by decide) ?_
      refine K_callV (E' := e_X5_fail m0 m1 m2 m3 m4 m5 m6 m7 m8 m9 m10 m11) (b := 4000) (As := [.int 1]) (rest := []) dX5_readStatement_19 ml_X5_59 (mf_X5_fail 1) mv_X5_fail (fun hj r hr => c_X5_fail hj m0 m1 m2 m3 m4 m5 m6 m7 m8 m9 m10 m11 (1 : Int32) hr) (rcv_obj (q := (RX5, TX5, 9)) kl_4000 rfl) rfl rfl (Nat.le_of_ble_eq_true rfl) (Nat.le_of_ble_eq_true rfl) (fun r19 => ?_)
      show K G (mi_X5_readStatement 10) (e_X5_readStatement m0 m1 m2 m3 m4 m5 m6 m7 m8 m9 m10 m11) 22 [(2, .int r11), (0, .ref 4000), (1, .ref 2000)] [.int r19.1] [m0, m1, m2, m3, r19.2, m5, m6, m7, m8, m9, m10, m11] _
      exact K_retB dX5_readStatement_22 rfl rfl
theorem c_X5_readStatement {G : GE} (hj : dj G) (m0 m1 m2 m3 m4 m5 m6 m7 m8 m9 m10 m11 : Mem)  {r : Int32 × Mem × Mem} (hr : f_X5_readStatement m2 m4 = some r) : Ctr G yX5_readStatement (mi_X5_readStatement 10) [.ref 4000, .ref 2000] [m0, m1, m2, m3, m4, m5, m6, m7, m8, m9, m10, m11] ((e_X5_readStatement m0 m1 m2 m3 m4 m5 m6 m7 m8 m9 m10 m11) r).1 ((e_X5_readStatement m0 m1 m2 m3 m4 m5 m6 m7 m8 m9 m10 m11) r).2 := Ctr_of hj (by decide) rfl hr rfl (Nat.le_of_ble_eq_true rfl) (k_X5_readStatement m0 m1 m2 m3 m4 m5 m6 m7 m8 m9 m10 m11 )
abbrev e_X3_finish_2 (m0 m1 m2 m3 m4 m5 m6 m7 m8 m9 m10 m11 : Mem) : Mem → Option Value × List Mem := fun r => (none, [m0, m1, r, m3, m4, m5, m6, m7, m8, m9, m10, m11])
theorem k_X3_finish_2_L18 {G : GE} (m0 m1 m2 m3 m4 m5 m6 m7 m8 m9 m10 m11 : Mem) (u11 : Int32) (u13 : Int32) (k : Int32 → Mem → Option (Mem)) (hk : ∀ (u15 : Int32) (w16 : Mem), K G (mi_X3_finish 2) (e_X3_finish_2 m0 m1 m2 m3 m4 m5 m6 m7 m8 m9 m10 m11) 67 [(0, .ref 2000), (1, .int u11), (2, .int u13), (3, .int u15)] [] [m0, m1, w16, m3, m4, m5, m6, m7, m8, m9, m10, m11] (k u15 w16)) : ∀ (t : Nat) (u15 : Int32) (w16 : Mem), K G (mi_X3_finish 2) (e_X3_finish_2 m0 m1 m2 m3 m4 m5 m6 m7 m8 m9 m10 m11) 18 [(0, .ref 2000), (1, .int u11), (2, .int u13), (3, .int u15)] [] [m0, m1, w16, m3, m4, m5, m6, m7, m8, m9, m10, m11] (f_X3_finish_L18 k u11 u13 t u15 w16) := by
  intro t
  induction t with
  | zero => intro u15 w16; exact K_none
  | succ t ih =>
    intro u15 w16
    rw [f_X3_finish_L18]
    refine K_iload_n 3 dX3_finish_18 rfl ?_
    refine K_bipush (v := 8) dX3_finish_19 (by decide) ?_
    refine K_icmp_ge 67 dX3_finish_21 rfl (fun _ => ?_) (fun _ => ?_)
    · refine K_loc [0, 1, 2, 3] (lv' := [(0, .ref 2000), (1, .int u11), (2, .int u13), (3, .int u15)]) rfl ?_
      exact hk u15 w16
    · refine K_aload_n 0 dX3_finish_24 rfl ?_
      refine K_iload_n 2 dX3_finish_25 rfl ?_
      refine K_iload_n 1 dX3_finish_26 rfl ?_
      refine K_callV (E' := e_X3_minutesBetween_2 m0 m1 w16 m3 m4 m5 m6 m7 m8 m9 m10 m11) (b := 2000) (As := [.int u13, .int u11]) (rest := []) dX3_finish_27 ml_X3_81 (mf_X3_minutesBetween 1) mv_X3_minutesBetween (fun hj r hr => c_X3_minutesBetween_2 hj m0 m1 w16 m3 m4 m5 m6 m7 m8 m9 m10 m11 u13 u11 hr) (rcv_obj (q := (RX3, TX3, 18)) kl_2000 rfl) rfl rfl (Nat.le_of_ble_eq_true rfl) (Nat.le_of_ble_eq_true rfl) (fun r17 => ?_)
      show K G (mi_X3_finish 2) (e_X3_finish_2 m0 m1 m2 m3 m4 m5 m6 m7 m8 m9 m10 m11) 30 [(0, .ref 2000), (1, .int u11), (2, .int u13), (3, .int u15)] [.int r17] [m0, m1, w16, m3, m4, m5, m6, m7, m8, m9, m10, m11] _
      refine K_aload_n 0 dX3_finish_30 rfl ?_
      refine K_iload_n 1 dX3_finish_31 rfl ?_
      refine K_iload_n 3 dX3_finish_32 rfl ?_
      refine K_callV (E' := e_X3_minutesBetween_2 m0 m1 w16 m3 m4 m5 m6 m7 m8 m9 m10 m11) (b := 2000) (As := [.int u11, .int u15]) (rest := [.int r17]) dX3_finish_33 ml_X3_81 (mf_X3_minutesBetween 1) mv_X3_minutesBetween (fun hj r hr => c_X3_minutesBetween_2 hj m0 m1 w16 m3 m4 m5 m6 m7 m8 m9 m10 m11 u11 u15 hr) (rcv_obj (q := (RX3, TX3, 18)) kl_2000 rfl) rfl rfl (Nat.le_of_ble_eq_true rfl) (Nat.le_of_ble_eq_true rfl) (fun r18 => ?_)
      show K G (mi_X3_finish 2) (e_X3_finish_2 m0 m1 m2 m3 m4 m5 m6 m7 m8 m9 m10 m11) 36 [(0, .ref 2000), (1, .int u11), (2, .int u13), (3, .int u15)] [.int r18, .int r17] [m0, m1, w16, m3, m4, m5, m6, m7, m8, m9, m10, m11] _
      refine K_iadd dX3_finish_36 ?_
      refine K_nmi (fun x19 => ?_)
      refine K_istore (lv' := [(4, .int x19), (0, .ref 2000), (1, .int u11), (2, .int u13), (3, .int u15)]) dX3_finish_37 (by decide) rfl ?_
      refine K_aload_n 1 dX3_finish_39 rfl ?_
      refine K_get (v := .ref 2011) dX3_finish_40 fl_X3_15 kl_2000 rfl rfl ?_
      refine K_iload_n 3 dX3_finish_43 rfl ?_
      refine K_bipush (v := 8) dX3_finish_44 (by decide) ?_
      refine K_imul dX3_finish_46 ?_
      refine K_iload_n 4 dX3_finish_47 rfl ?_
      refine K_iadd dX3_finish_48 ?_
      refine K_aload_n 1 dX3_finish_49 rfl ?_
      refine K_iload_n 3 dX3_finish_50 rfl ?_
      refine K_iload_n 4 dX3_finish_51 rfl ?_
      refine K_callV (E' := e_X3_minutesBetween_2 m0 m1 w16 m3 m4 m5 m6 m7 m8 m9 m10 m11) (b := 2000) (As := [.int u13, .int u15]) (rest := [.int ((u13 * 8) + u15), .ref 2011]) dX3_finish_52 ml_X3_81 (mf_X3_minutesBetween 1) mv_X3_minutesBetween (fun hj r hr => c_X3_minutesBetween_2 hj m0 m1 w16 m3 m4 m5 m6 m7 m8 m9 m10 m11 u13 u15 hr) (rcv_obj (q := (RX3, TX3, 18)) kl_2000 rfl) rfl rfl (Nat.le_of_ble_eq_true rfl) (Nat.le_of_ble_eq_true rfl) (fun r20 => ?_)
      show K G (mi_X3_finish 2) (e_X3_finish_2 m0 m1 m2 m3 m4 m5 m6 m7 m8 m9 m10 m11) 55 [(4, .int x19), (0, .ref 2000), (1, .int u11), (2, .int u13), (3, .int u15)] [.int r20, .int ((u13 * 8) + u15), .ref 2011] [m0, m1, w16, m3, m4, m5, m6, m7, m8, m9, m10, m11] _
      refine K_iload 0 dX3_finish_55 rfl ?_
      refine K_min dX3_finish_57 mlk_X3_85 mth_min.1 mth_min.2.1 mth_min.2.2 (Nat.le_of_ble_eq_true rfl) (Nat.le_of_ble_eq_true rfl) ?_
      refine K_iast (Ms' := [m0, m1, (up w16 11 ((u13 * 8) + u15).toNatClampNeg (if x19 < r20 then x19 else r20)), m3, m4, m5, m6, m7, m8, m9, m10, m11]) dX3_finish_60 kl_2011 (Nat.le_of_ble_eq_true rfl) rfl ?_
      refine K_nmm (fun w => [m0, m1, w, m3, m4, m5, m6, m7, m8, m9, m10, m11]) rfl (fun w21 => ?_)
      refine K_iinc 4 (w := u15 + 1) (lv' := [(3, .int (u15 + 1)), (4, .int x19), (0, .ref 2000), (1, .int u11), (2, .int u13)]) dX3_finish_61 rfl rfl (by decide) rfl ?_
      refine K_goto 18 dX3_finish_64 rfl ?_
      refine K_loc [2, 3, 4, 0] (lv' := [(0, .ref 2000), (1, .int u11), (2, .int u13), (3, .int (u15 + 1))]) rfl ?_
      exact ih (u15 + 1) w21
theorem k_X3_finish_2_L10 {G : GE} (m0 m1 m2 m3 m4 m5 m6 m7 m8 m9 m10 m11 : Mem) (u11 : Int32) (k : Int32 → Mem → Option (Mem)) (hk : ∀ (u13 : Int32) (w14 : Mem), K G (mi_X3_finish 2) (e_X3_finish_2 m0 m1 m2 m3 m4 m5 m6 m7 m8 m9 m10 m11) 73 [(0, .ref 2000), (1, .int u11), (2, .int u13)] [] [m0, m1, w14, m3, m4, m5, m6, m7, m8, m9, m10, m11] (k u13 w14)) : ∀ (t : Nat) (u13 : Int32) (w14 : Mem), K G (mi_X3_finish 2) (e_X3_finish_2 m0 m1 m2 m3 m4 m5 m6 m7 m8 m9 m10 m11) 10 [(0, .ref 2000), (1, .int u11), (2, .int u13)] [] [m0, m1, w14, m3, m4, m5, m6, m7, m8, m9, m10, m11] (f_X3_finish_L10 k u11 t u13 w14) := by
  intro t
  induction t with
  | zero => intro u13 w14; exact K_none
  | succ t ih =>
    intro u13 w14
    rw [f_X3_finish_L10]
    refine K_iload_n 2 dX3_finish_10 rfl ?_
    refine K_bipush (v := 8) dX3_finish_11 (by decide) ?_
    refine K_icmp_ge 73 dX3_finish_13 rfl (fun _ => ?_) (fun _ => ?_)
    · refine K_loc [0, 1, 2] (lv' := [(0, .ref 2000), (1, .int u11), (2, .int u13)]) rfl ?_
      exact hk u13 w14
    · refine K_iconst (v := 0) dX3_finish_16 (by decide) ?_
      refine K_istore_n (lv' := [(3, .int 0), (0, .ref 2000), (1, .int u11), (2, .int u13)]) dX3_finish_17 (by decide) rfl ?_
      refine K_loc [1, 2, 3, 0] (lv' := [(0, .ref 2000), (1, .int u11), (2, .int u13), (3, .int 0)]) rfl ?_
      refine k_X3_finish_2_L18  m0 m1 m2 m3 m4 m5 m6 m7 m8 m9 m10 m11 u11 u13 _ (fun u22 w23 => ?_) 100000 0 w14
      refine K_iinc 2 (w := u13 + 1) (lv' := [(2, .int (u13 + 1)), (0, .ref 2000), (1, .int u11), (3, .int u22)]) dX3_finish_67 rfl rfl (by decide) rfl ?_
      refine K_goto 10 dX3_finish_70 rfl ?_
      refine K_loc [1, 2, 0] (lv' := [(0, .ref 2000), (1, .int u11), (2, .int (u13 + 1))]) rfl ?_
      exact ih (u13 + 1) w23
theorem k_X3_finish_2_L2 {G : GE} (m0 m1 m2 m3 m4 m5 m6 m7 m8 m9 m10 m11 : Mem) (k : Int32 → Mem → Option (Mem)) (hk : ∀ (u11 : Int32) (w12 : Mem), K G (mi_X3_finish 2) (e_X3_finish_2 m0 m1 m2 m3 m4 m5 m6 m7 m8 m9 m10 m11) 79 [(0, .ref 2000), (1, .int u11)] [] [m0, m1, w12, m3, m4, m5, m6, m7, m8, m9, m10, m11] (k u11 w12)) : ∀ (t : Nat) (u11 : Int32) (w12 : Mem), K G (mi_X3_finish 2) (e_X3_finish_2 m0 m1 m2 m3 m4 m5 m6 m7 m8 m9 m10 m11) 2 [(0, .ref 2000), (1, .int u11)] [] [m0, m1, w12, m3, m4, m5, m6, m7, m8, m9, m10, m11] (f_X3_finish_L2 k t u11 w12) := by
  intro t
  induction t with
  | zero => intro u11 w12; exact K_none
  | succ t ih =>
    intro u11 w12
    rw [f_X3_finish_L2]
    refine K_iload_n 1 dX3_finish_2 rfl ?_
    refine K_bipush (v := 8) dX3_finish_3 (by decide) ?_
    refine K_icmp_ge 79 dX3_finish_5 rfl (fun _ => ?_) (fun _ => ?_)
    · refine K_loc [0, 1] (lv' := [(0, .ref 2000), (1, .int u11)]) rfl ?_
      exact hk u11 w12
    · refine K_iconst (v := 0) dX3_finish_8 (by decide) ?_
      refine K_istore_n (lv' := [(2, .int 0), (0, .ref 2000), (1, .int u11)]) dX3_finish_9 (by decide) rfl ?_
      refine K_loc [1, 2, 0] (lv' := [(0, .ref 2000), (1, .int u11), (2, .int 0)]) rfl ?_
      refine k_X3_finish_2_L10  m0 m1 m2 m3 m4 m5 m6 m7 m8 m9 m10 m11 u11 _ (fun u24 w25 => ?_) 100000 0 w12
      refine K_iinc 1 (w := u11 + 1) (lv' := [(1, .int (u11 + 1)), (0, .ref 2000), (2, .int u24)]) dX3_finish_73 rfl rfl (by decide) rfl ?_
      refine K_goto 2 dX3_finish_76 rfl ?_
      refine K_loc [1, 0] (lv' := [(0, .ref 2000), (1, .int (u11 + 1))]) rfl ?_
      exact ih (u11 + 1) w25
theorem k_X3_finish_2 {G : GE} (m0 m1 m2 m3 m4 m5 m6 m7 m8 m9 m10 m11 : Mem)  : K G (mi_X3_finish 2) (e_X3_finish_2 m0 m1 m2 m3 m4 m5 m6 m7 m8 m9 m10 m11) 0 [(0, .ref 2000)] [] [m0, m1, m2, m3, m4, m5, m6, m7, m8, m9, m10, m11] (f_X3_finish m2) := by
  unfold f_X3_finish
  refine K_iconst (v := 0) dX3_finish_0 (by decide) ?_
  refine K_istore_n (lv' := [(1, .int 0), (0, .ref 2000)]) dX3_finish_1 (by decide) rfl ?_
  refine K_loc [1, 0] (lv' := [(0, .ref 2000), (1, .int 0)]) rfl ?_
  refine k_X3_finish_2_L2  m0 m1 m2 m3 m4 m5 m6 m7 m8 m9 m10 m11  _ (fun u26 w27 => ?_) 100000 0 m2
  refine K_aload_n 0 dX3_finish_79 rfl ?_
  refine K_iconst (v := 1) dX3_finish_80 (by decide) ?_
  refine K_put (Ms' := [m0, m1, (up w27 0 0 1), m3, m4, m5, m6, m7, m8, m9, m10, m11]) dX3_finish_81 fp_X3_9 kl_2000 rfl rfl rfl (Nat.le_of_ble_eq_true rfl) rfl ?_
  refine K_nmm (fun w => [m0, m1, w, m3, m4, m5, m6, m7, m8, m9, m10, m11]) rfl (fun w28 => ?_)
  exact K_ret (rv := none) dX3_finish_84 trivial rfl rfl
theorem c_X3_finish_2 {G : GE} (hj : dj G) (m0 m1 m2 m3 m4 m5 m6 m7 m8 m9 m10 m11 : Mem)  {r : Mem} (hr : f_X3_finish m2 = some r) : Ctr G yX3_finish (mi_X3_finish 2) [.ref 2000] [m0, m1, m2, m3, m4, m5, m6, m7, m8, m9, m10, m11] ((e_X3_finish_2 m0 m1 m2 m3 m4 m5 m6 m7 m8 m9 m10 m11) r).1 ((e_X3_finish_2 m0 m1 m2 m3 m4 m5 m6 m7 m8 m9 m10 m11) r).2 := Ctr_of hj (by decide) rfl hr rfl (Nat.le_of_ble_eq_true rfl) (k_X3_finish_2 m0 m1 m2 m3 m4 m5 m6 m7 m8 m9 m10 m11 )
abbrev e_X5_readInto (m0 m1 m2 m3 m4 m5 m6 m7 m8 m9 m10 m11 : Mem) : (Int32 × Mem × Mem) → Option Value × List Mem := fun r => (some (.int r.1), [m0, m1, r.2.1, m3, r.2.2, m5, m6, m7, m8, m9, m10, m11])
theorem k_X5_readInto_L22 {G : GE} (m0 m1 m2 m3 m4 m5 m6 m7 m8 m9 m10 m11 : Mem) (k : Int32 → Int32 → Mem → Mem → Option (Int32 × Mem × Mem)) (hk : ∀ (u16 : Int32) (u17 : Int32) (w18 : Mem) (w19 : Mem), K G (mi_X5_readInto 11) (e_X5_readInto m0 m1 m2 m3 m4 m5 m6 m7 m8 m9 m10 m11) 59 [(0, .ref 4000), (1, .ref 2000), (2, .int u16), (3, .int u17)] [] [m0, m1, w18, m3, w19, m5, m6, m7, m8, m9, m10, m11] (k u16 u17 w18 w19)) : ∀ (t : Nat) (u16 : Int32) (u17 : Int32) (w18 : Mem) (w19 : Mem), K G (mi_X5_readInto 11) (e_X5_readInto m0 m1 m2 m3 m4 m5 m6 m7 m8 m9 m10 m11) 22 [(0, .ref 4000), (1, .ref 2000), (2, .int u16), (3, .int u17)] [] [m0, m1, w18, m3, w19, m5, m6, m7, m8, m9, m10, m11] (f_X5_readInto_L22 k t u16 u17 w18 w19) := by
  intro t
  induction t with
  | zero => intro u16 u17 w18 w19; exact K_none
  | succ t ih =>
    intro u16 u17 w18 w19
    rw [f_X5_readInto_L22]
    refine K_iload_n 2 dX5_readInto_22 rfl ?_
    refine K_if_eq 59 dX5_readInto_23 rfl (fun _ => ?_) (fun _ => ?_)
    · refine K_loc [0, 1, 2, 3] (lv' := [(0, .ref 4000), (1, .ref 2000), (2, .int u16), (3, .int u17)]) rfl ?_
      exact hk u16 u17 w18 w19
    · refine K_iload_n 3 dX5_readInto_26 rfl ?_
      refine K_sipush (v := 500) dX5_readInto_27 (by decide) ?_
      refine K_icmp_gt 59 dX5_readInto_30 rfl (fun _ => ?_) (fun _ => ?_)
      · refine K_loc [0, 1, 2, 3] (lv' := [(0, .ref 4000), (1, .ref 2000), (2, .int u16), (3, .int u17)]) rfl ?_
        exact hk u16 u17 w18 w19
      · refine K_aload_n 0 dX5_readInto_33 rfl ?_
        refine K_callV (E' := e_X5_readToken m0 m1 w18 m3 w19 m5 m6 m7 m8 m9 m10 m11) (b := 4000) (As := []) (rest := []) dX5_readInto_34 ml_X5_41 (mf_X5_readToken 3) mv_X5_readToken (fun hj r hr => c_X5_readToken hj m0 m1 w18 m3 w19 m5 m6 m7 m8 m9 m10 m11  hr) (rcv_obj (q := (RX5, TX5, 9)) kl_4000 rfl) rfl rfl (Nat.le_of_ble_eq_true rfl) (Nat.le_of_ble_eq_true rfl) (fun r20 => ?_)
        show K G (mi_X5_readInto 11) (e_X5_readInto m0 m1 m2 m3 m4 m5 m6 m7 m8 m9 m10 m11) 37 [(0, .ref 4000), (1, .ref 2000), (2, .int u16), (3, .int u17)] [] [m0, m1, w18, m3, r20, m5, m6, m7, m8, m9, m10, m11] _
        refine K_aload_n 0 dX5_readInto_37 rfl ?_
        refine K_get (v := .int (r20 0 4)) dX5_readInto_38 fl_X5_44 kl_4000 rfl rfl ?_
        refine K_if_ne 47 dX5_readInto_41 rfl (fun _ => ?_) (fun _ => ?_)
        · refine K_aload_n 0 dX5_readInto_47 rfl ?_
          refine K_aload_n 1 dX5_readInto_48 rfl ?_
          refine K_callV (E' := e_X5_readStatement m0 m1 w18 m3 r20 m5 m6 m7 m8 m9 m10 m11) (b := 4000) (As := [.ref 2000]) (rest := []) dX5_readInto_49 ml_X5_47 (mf_X5_readStatement 10) mv_X5_readStatement (fun hj r hr => c_X5_readStatement hj m0 m1 w18 m3 r20 m5 m6 m7 m8 m9 m10 m11  hr) (rcv_obj (q := (RX5, TX5, 9)) kl_4000 rfl) rfl rfl (Nat.le_of_ble_eq_true rfl) (Nat.le_of_ble_eq_true rfl) (fun r21 => ?_)
          show K G (mi_X5_readInto 11) (e_X5_readInto m0 m1 m2 m3 m4 m5 m6 m7 m8 m9 m10 m11) 52 [(0, .ref 4000), (1, .ref 2000), (2, .int u16), (3, .int u17)] [.int r21.1] [m0, m1, r21.2.1, m3, r21.2.2, m5, m6, m7, m8, m9, m10, m11] _
          refine K_nmi (fun x22 => ?_)
          refine K_istore_n (lv' := [(2, .int x22), (0, .ref 4000), (1, .ref 2000), (3, .int u17)]) dX5_readInto_52 (by decide) rfl ?_
          refine K_iinc 3 (w := u17 + 1) (lv' := [(3, .int (u17 + 1)), (2, .int x22), (0, .ref 4000), (1, .ref 2000)]) dX5_readInto_53 rfl rfl (by decide) rfl ?_
          refine K_goto 22 dX5_readInto_56 rfl ?_
          refine K_loc [2, 3, 1, 0] (lv' := [(0, .ref 4000), (1, .ref 2000), (2, .int x22), (3, .int (u17 + 1))]) rfl ?_
          exact ih x22 (u17 + 1) r21.2.1 r21.2.2
        · refine K_goto 59 dX5_readInto_44 rfl ?_
          refine K_loc [0, 1, 2, 3] (lv' := [(0, .ref 4000), (1, .ref 2000), (2, .int u16), (3, .int u17)]) rfl ?_
          exact hk u16 u17 w18 r20
theorem k_X5_readInto {G : GE} (m0 m1 m2 m3 m4 m5 m6 m7 m8 m9 m10 m11 : Mem)  : K G (mi_X5_readInto 11) (e_X5_readInto m0 m1 m2 m3 m4 m5 m6 m7 m8 m9 m10 m11) 0 [(0, .ref 4000), (1, .ref 2000)] [] [m0, m1, m2, m3, m4, m5, m6, m7, m8, m9, m10, m11] (f_X5_readInto m2 m4) := by
  unfold f_X5_readInto
  refine K_aload_n 0 dX5_readInto_0 rfl ?_
  refine K_iconst (v := 0) dX5_readInto_1 (by decide) ?_
  refine K_put (Ms' := [m0, m1, m2, m3, (up m4 0 6 0), m5, m6, m7, m8, m9, m10, m11]) dX5_readInto_2 fp_X5_26 kl_4000 rfl rfl rfl (Nat.le_of_ble_eq_true rfl) rfl ?_
  refine K_nmm (fun w => [m0, m1, m2, m3, w, m5, m6, m7, m8, m9, m10, m11]) rfl (fun w11 => ?_)
  refine K_aload_n 0 dX5_readInto_5 rfl ?_
  refine K_iconst (v := 0) dX5_readInto_6 (by decide) ?_
  refine K_put (Ms' := [m0, m1, m2, m3, (up w11 0 8 0), m5, m6, m7, m8, m9, m10, m11]) dX5_readInto_7 fp_X5_29 kl_4000 rfl rfl rfl (Nat.le_of_ble_eq_true rfl) rfl ?_
  refine K_nmm (fun w => [m0, m1, m2, m3, w, m5, m6, m7, m8, m9, m10, m11]) rfl (fun w12 => ?_)
  refine K_aload_n 1 dX5_readInto_10 rfl ?_
  refine K_callV (E' := e_X3_clear_2 m0 m1 m2 m3 w12 m5 m6 m7 m8 m9 m10 m11) (b := 2000) (As := []) (rest := []) dX5_readInto_11 ml_X5_32 (mf_X3_clear 2) mv_X3_clear (fun hj r hr => c_X3_clear_2 hj m0 m1 m2 m3 w12 m5 m6 m7 m8 m9 m10 m11  hr) (rcv_obj (q := (RX3, TX3, 18)) kl_2000 rfl) rfl rfl (Nat.le_of_ble_eq_true rfl) (Nat.le_of_ble_eq_true rfl) (fun r13 => ?_)
  show K G (mi_X5_readInto 11) (e_X5_readInto m0 m1 m2 m3 m4 m5 m6 m7 m8 m9 m10 m11) 14 [(0, .ref 4000), (1, .ref 2000)] [] [m0, m1, r13, m3, w12, m5, m6, m7, m8, m9, m10, m11] _
  refine K_aload_n 0 dX5_readInto_14 rfl ?_
  refine K_aload_n 1 dX5_readInto_15 rfl ?_
  refine K_callV (E' := e_X5_readLaw m0 m1 r13 m3 w12 m5 m6 m7 m8 m9 m10 m11) (b := 4000) (As := [.ref 2000]) (rest := []) dX5_readInto_16 ml_X5_37 (mf_X5_readLaw 8) mv_X5_readLaw (fun hj r hr => c_X5_readLaw hj m0 m1 r13 m3 w12 m5 m6 m7 m8 m9 m10 m11  hr) (rcv_obj (q := (RX5, TX5, 9)) kl_4000 rfl) rfl rfl (Nat.le_of_ble_eq_true rfl) (Nat.le_of_ble_eq_true rfl) (fun r14 => ?_)
  show K G (mi_X5_readInto 11) (e_X5_readInto m0 m1 m2 m3 m4 m5 m6 m7 m8 m9 m10 m11) 19 [(0, .ref 4000), (1, .ref 2000)] [.int r14.1] [m0, m1, r14.2.1, m3, r14.2.2, m5, m6, m7, m8, m9, m10, m11] _
  refine K_nmi (fun x15 => ?_)
  refine K_istore_n (lv' := [(2, .int x15), (0, .ref 4000), (1, .ref 2000)]) dX5_readInto_19 (by decide) rfl ?_
  refine K_iconst (v := 0) dX5_readInto_20 (by decide) ?_
  refine K_istore_n (lv' := [(3, .int 0), (2, .int x15), (0, .ref 4000), (1, .ref 2000)]) dX5_readInto_21 (by decide) rfl ?_
  refine K_loc [2, 3, 1, 0] (lv' := [(0, .ref 4000), (1, .ref 2000), (2, .int x15), (3, .int 0)]) rfl ?_
  refine k_X5_readInto_L22  m0 m1 m2 m3 m4 m5 m6 m7 m8 m9 m10 m11  _ (fun u23 u24 w25 w26 => ?_) 100000 x15 0 r14.2.1 r14.2.2
  refine K_aload_n 0 dX5_readInto_59 rfl ?_
  refine K_iconst (v := 0) dX5_readInto_60 (by decide) ?_
  refine K_put (Ms' := [m0, m1, w25, m3, (up w26 0 1 0), m5, m6, m7, m8, m9, m10, m11]) dX5_readInto_61 fp_X5_15 kl_4000 rfl rfl rfl (Nat.le_of_ble_eq_true rfl) rfl ?_
  refine K_nmm (fun w => [m0, m1, w25, m3, w, m5, m6, m7, m8, m9, m10, m11]) rfl (fun w27 => ?_)
  refine K_iload_n 2 dX5_readInto_64 rfl ?_
  refine K_if_eq 72 dX5_readInto_65 rfl (fun _ => ?_) (fun _ => ?_)
  · refine K_iload_n 2 dX5_readInto_72 rfl ?_
    exact K_retB dX5_readInto_73 rfl rfl
  · refine K_aload_n 1 dX5_readInto_68 rfl ?_
    refine K_callV (E' := e_X3_finish_2 m0 m1 w25 m3 w27 m5 m6 m7 m8 m9 m10 m11) (b := 2000) (As := []) (rest := []) dX5_readInto_69 ml_X5_50 (mf_X3_finish 2) mv_X3_finish (fun hj r hr => c_X3_finish_2 hj m0 m1 w25 m3 w27 m5 m6 m7 m8 m9 m10 m11  hr) (rcv_obj (q := (RX3, TX3, 18)) kl_2000 rfl) rfl rfl (Nat.le_of_ble_eq_true rfl) (Nat.le_of_ble_eq_true rfl) (fun r28 => ?_)
    show K G (mi_X5_readInto 11) (e_X5_readInto m0 m1 m2 m3 m4 m5 m6 m7 m8 m9 m10 m11) 72 [(0, .ref 4000), (1, .ref 2000), (2, .int u23), (3, .int u24)] [] [m0, m1, r28, m3, w27, m5, m6, m7, m8, m9, m10, m11] _
    refine K_iload_n 2 dX5_readInto_72 rfl ?_
    exact K_retB dX5_readInto_73 rfl rfl
theorem c_X5_readInto {G : GE} (hj : dj G) (m0 m1 m2 m3 m4 m5 m6 m7 m8 m9 m10 m11 : Mem)  {r : Int32 × Mem × Mem} (hr : f_X5_readInto m2 m4 = some r) : Ctr G yX5_readInto (mi_X5_readInto 11) [.ref 4000, .ref 2000] [m0, m1, m2, m3, m4, m5, m6, m7, m8, m9, m10, m11] ((e_X5_readInto m0 m1 m2 m3 m4 m5 m6 m7 m8 m9 m10 m11) r).1 ((e_X5_readInto m0 m1 m2 m3 m4 m5 m6 m7 m8 m9 m10 m11) r).2 := Ctr_of hj (by decide) rfl hr rfl (Nat.le_of_ble_eq_true rfl) (k_X5_readInto m0 m1 m2 m3 m4 m5 m6 m7 m8 m9 m10 m11 )
abbrev e_X2_forget (m0 m1 m2 m3 m4 m5 m6 m7 m8 m9 m10 m11 : Mem) : Mem → Option Value × List Mem := fun r => (none, [m0, m1, m2, m3, m4, m5, r, m7, m8, m9, m10, m11])
theorem k_X2_forget {G : GE} (m0 m1 m2 m3 m4 m5 m6 m7 m8 m9 m10 m11 : Mem)  : K G (mi_X2_forget 1) (e_X2_forget m0 m1 m2 m3 m4 m5 m6 m7 m8 m9 m10 m11) 0 [(0, .ref 6000)] [] [m0, m1, m2, m3, m4, m5, m6, m7, m8, m9, m10, m11] (f_X2_forget m6) := by
  unfold f_X2_forget
  refine K_aload_n 0 dX2_forget_0 rfl ?_
  refine K_iconst (v := 0) dX2_forget_1 (by decide) ?_
  refine K_put (Ms' := [m0, m1, m2, m3, m4, m5, (up m6 0 2 0), m7, m8, m9, m10, m11]) dX2_forget_2 fp_X2_18 kl_6000 rfl rfl rfl (Nat.le_of_ble_eq_true rfl) rfl ?_
  refine K_nmm (fun w => [m0, m1, m2, m3, m4, m5, w, m7, m8, m9, m10, m11]) rfl (fun w11 => ?_)
  exact K_ret (rv := none) dX2_forget_5 trivial rfl rfl
theorem c_X2_forget {G : GE} (hj : dj G) (m0 m1 m2 m3 m4 m5 m6 m7 m8 m9 m10 m11 : Mem)  {r : Mem} (hr : f_X2_forget m6 = some r) : Ctr G yX2_forget (mi_X2_forget 1) [.ref 6000] [m0, m1, m2, m3, m4, m5, m6, m7, m8, m9, m10, m11] ((e_X2_forget m0 m1 m2 m3 m4 m5 m6 m7 m8 m9 m10 m11) r).1 ((e_X2_forget m0 m1 m2 m3 m4 m5 m6 m7 m8 m9 m10 m11) r).2 := Ctr_of hj (by decide) rfl hr rfl (Nat.le_of_ble_eq_true rfl) (k_X2_forget m0 m1 m2 m3 m4 m5 m6 m7 m8 m9 m10 m11 )
abbrev e_X4_forget (m0 m1 m2 m3 m4 m5 m6 m7 m8 m9 m10 m11 : Mem) : Mem → Option Value × List Mem := fun r => (none, [m0, m1, m2, r, m4, m5, m6, m7, m8, m9, m10, m11])
theorem k_X4_forget {G : GE} (m0 m1 m2 m3 m4 m5 m6 m7 m8 m9 m10 m11 : Mem)  : K G (mi_X4_forget 2) (e_X4_forget m0 m1 m2 m3 m4 m5 m6 m7 m8 m9 m10 m11) 0 [(0, .ref 3000)] [] [m0, m1, m2, m3, m4, m5, m6, m7, m8, m9, m10, m11] (f_X4_forget m3) := by
  unfold f_X4_forget
  refine K_aload_n 0 dX4_forget_0 rfl ?_
  refine K_iconst (v := (-1)) dX4_forget_1 (by decide) ?_
  refine K_put (Ms' := [m0, m1, m2, (up m3 0 2 (-1)), m4, m5, m6, m7, m8, m9, m10, m11]) dX4_forget_2 fp_X4_18 kl_3000 rfl rfl rfl (Nat.le_of_ble_eq_true rfl) rfl ?_
  refine K_nmm (fun w => [m0, m1, m2, w, m4, m5, m6, m7, m8, m9, m10, m11]) rfl (fun w11 => ?_)
  refine K_aload_n 0 dX4_forget_5 rfl ?_
  refine K_get (v := .ref 3001) dX4_forget_6 fl_X4_9 kl_3000 rfl rfl ?_
  refine K_iconst (v := (-1)) dX4_forget_9 (by decide) ?_
  refine K_fill (Ms' := [m0, m1, m2, (upA w11 1 (fillf 384 (-1) (w11 1))), m4, m5, m6, m7, m8, m9, m10, m11]) dX4_forget_10 ml_X4_40 (Nat.le_of_ble_eq_true rfl) (Nat.le_of_ble_eq_true rfl) kl_3001 (Nat.le_of_ble_eq_true rfl) rfl ?_
  refine K_nmm (fun w => [m0, m1, m2, w, m4, m5, m6, m7, m8, m9, m10, m11]) rfl (fun w12 => ?_)
  exact K_ret (rv := none) dX4_forget_13 trivial rfl rfl
theorem c_X4_forget {G : GE} (hj : dj G) (m0 m1 m2 m3 m4 m5 m6 m7 m8 m9 m10 m11 : Mem)  {r : Mem} (hr : f_X4_forget m3 = some r) : Ctr G yX4_forget (mi_X4_forget 2) [.ref 3000] [m0, m1, m2, m3, m4, m5, m6, m7, m8, m9, m10, m11] ((e_X4_forget m0 m1 m2 m3 m4 m5 m6 m7 m8 m9 m10 m11) r).1 ((e_X4_forget m0 m1 m2 m3 m4 m5 m6 m7 m8 m9 m10 m11) r).2 := Ctr_of hj (by decide) rfl hr rfl (Nat.le_of_ble_eq_true rfl) (k_X4_forget m0 m1 m2 m3 m4 m5 m6 m7 m8 m9 m10 m11 )
abbrev e_X7_beginAnew (m0 m1 m2 m3 m4 m5 m6 m7 m8 m9 m10 m11 : Mem) : (Mem × Mem) → Option Value × List Mem := fun r => (none, [m0, m1, m2, r.1, m4, m5, r.2, m7, m8, m9, m10, m11])
theorem k_X7_beginAnew {G : GE} (m0 m1 m2 m3 m4 m5 m6 m7 m8 m9 m10 m11 : Mem)  : K G (mi_X7_beginAnew 3) (e_X7_beginAnew m0 m1 m2 m3 m4 m5 m6 m7 m8 m9 m10 m11) 0 [(0, .ref 11000)] [] [m0, m1, m2, m3, m4, m5, m6, m7, m8, m9, m10, m11] (f_X7_beginAnew m3 m6) := by
  unfold f_X7_beginAnew
  refine K_aload_n 0 dX7_beginAnew_0 rfl ?_
  refine K_get (v := .ref 6000) dX7_beginAnew_1 fl_X7_33 kl_11000 rfl rfl ?_
  refine K_callV (E' := e_X2_forget m0 m1 m2 m3 m4 m5 m6 m7 m8 m9 m10 m11) (b := 6000) (As := []) (rest := []) dX7_beginAnew_4 ml_X7_294 (mf_X2_forget 1) mv_X2_forget (fun hj r hr => c_X2_forget hj m0 m1 m2 m3 m4 m5 m6 m7 m8 m9 m10 m11  hr) (rcv_obj (q := (RX2, TX2, 3)) kl_6000 rfl) rfl rfl (Nat.le_of_ble_eq_true rfl) (Nat.le_of_ble_eq_true rfl) (fun r11 => ?_)
  show K G (mi_X7_beginAnew 3) (e_X7_beginAnew m0 m1 m2 m3 m4 m5 m6 m7 m8 m9 m10 m11) 7 [(0, .ref 11000)] [] [m0, m1, m2, m3, m4, m5, r11, m7, m8, m9, m10, m11] _
  refine K_aload_n 0 dX7_beginAnew_7 rfl ?_
  refine K_get (v := .ref 3000) dX7_beginAnew_8 fl_X7_40 kl_11000 rfl rfl ?_
  refine K_callV (E' := e_X4_forget m0 m1 m2 m3 m4 m5 r11 m7 m8 m9 m10 m11) (b := 3000) (As := []) (rest := []) dX7_beginAnew_11 ml_X7_295 (mf_X4_forget 2) mv_X4_forget (fun hj r hr => c_X4_forget hj m0 m1 m2 m3 m4 m5 r11 m7 m8 m9 m10 m11  hr) (rcv_obj (q := (RX4, TX4, 12)) kl_3000 rfl) rfl rfl (Nat.le_of_ble_eq_true rfl) (Nat.le_of_ble_eq_true rfl) (fun r12 => ?_)
  show K G (mi_X7_beginAnew 3) (e_X7_beginAnew m0 m1 m2 m3 m4 m5 m6 m7 m8 m9 m10 m11) 14 [(0, .ref 11000)] [] [m0, m1, m2, r12, m4, m5, r11, m7, m8, m9, m10, m11] _
  exact K_ret (rv := none) dX7_beginAnew_14 trivial rfl rfl
theorem c_X7_beginAnew {G : GE} (hj : dj G) (m0 m1 m2 m3 m4 m5 m6 m7 m8 m9 m10 m11 : Mem)  {r : Mem × Mem} (hr : f_X7_beginAnew m3 m6 = some r) : Ctr G yX7_beginAnew (mi_X7_beginAnew 3) [.ref 11000] [m0, m1, m2, m3, m4, m5, m6, m7, m8, m9, m10, m11] ((e_X7_beginAnew m0 m1 m2 m3 m4 m5 m6 m7 m8 m9 m10 m11) r).1 ((e_X7_beginAnew m0 m1 m2 m3 m4 m5 m6 m7 m8 m9 m10 m11) r).2 := Ctr_of hj (by decide) rfl hr rfl (Nat.le_of_ble_eq_true rfl) (k_X7_beginAnew m0 m1 m2 m3 m4 m5 m6 m7 m8 m9 m10 m11 )
