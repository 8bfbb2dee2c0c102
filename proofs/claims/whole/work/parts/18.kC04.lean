abbrev e_X7_evening (m0 m1 m2 m3 m4 m5 m6 m7 m8 m9 m10 m11 : Mem) : (Int32 × Mem × Mem × Mem × Mem × Mem) → Option Value × List Mem := fun r => (some (.int r.1), [m0, m1, r.2.1, r.2.2.1, r.2.2.2.1, m5, r.2.2.2.2.1, m7, m8, m9, m10, r.2.2.2.2.2])
theorem k_X7_evening {G : GE} (m0 m1 m2 m3 m4 m5 m6 m7 m8 m9 m10 m11 : Mem)  (h7 : m11 0 7 = 1) (h8 : m11 0 8 = 2) : K G (mi_X7_evening 12) (e_X7_evening m0 m1 m2 m3 m4 m5 m6 m7 m8 m9 m10 m11) 0 [(0, .ref 11000)] [] [m0, m1, m2, m3, m4, m5, m6, m7, m8, m9, m10, m11] (f_X7_evening m1 m2 m3 m4 m6 m11) := by
  unfold f_X7_evening
  refine K_aload_n 0 dX7_evening_0 rfl ?_
  refine K_get (v := .ref 4000) dX7_evening_1 fl_X7_19 kl_11000 rfl rfl ?_
  refine K_aload_n 0 dX7_evening_4 rfl ?_
  refine K_get (v := .ref 2000) dX7_evening_5 fl_X7_62 kl_11000 rfl (nd_ref h8) ?_
  refine K_callV (E' := e_X5_readInto m0 m1 m2 m3 m4 m5 m6 m7 m8 m9 m10 m11) (b := 4000) (As := [.ref 2000]) (rest := []) dX7_evening_8 ml_X7_111 (mf_X5_readInto 11) mv_X5_readInto (fun hj r hr => c_X5_readInto hj m0 m1 m2 m3 m4 m5 m6 m7 m8 m9 m10 m11  hr) (rcv_obj (q := (RX5, TX5, 9)) kl_4000 rfl) rfl rfl (Nat.le_of_ble_eq_true rfl) (Nat.le_of_ble_eq_true rfl) (fun r11 => ?_)
  show K G (mi_X7_evening 12) (e_X7_evening m0 m1 m2 m3 m4 m5 m6 m7 m8 m9 m10 m11) 11 [(0, .ref 11000)] [.int r11.1] [m0, m1, r11.2.1, m3, r11.2.2, m5, m6, m7, m8, m9, m10, m11] _
  refine K_if_ne 25 dX7_evening_11 rfl (fun _ => ?_) (fun _ => ?_)
  · refine K_aload_n 0 dX7_evening_25 rfl ?_
    refine K_get (v := .ref 1000) dX7_evening_26 fl_X7_58 kl_11000 rfl (nd_ref h7) ?_
    refine K_astore_n (lv' := [(1, .ref 1000), (0, .ref 11000)]) dX7_evening_29 (by decide) rfl ?_
    refine K_aload_n 1 dX7_evening_30 rfl ?_
    refine K_aload_n 1 dX7_evening_31 rfl ?_
    refine K_get (v := .ref 2000) dX7_evening_32 fl_X7_62 kl_11000 rfl (nd_ref h8) ?_
    refine K_putR (n := 2) (Ms' := [m0, m1, r11.2.1, m3, r11.2.2, m5, m6, m7, m8, m9, m10, (up m11 0 7 2)]) dX7_evening_35 fr_X7_58 kl_11000 rfl (by decide) (Nat.le_of_ble_eq_true rfl) rfl ?_
    refine K_aload_n 1 dX7_evening_38 rfl ?_
    refine K_aload_n 0 dX7_evening_39 rfl ?_
    refine K_putR (n := 1) (Ms' := [m0, m1, r11.2.1, m3, r11.2.2, m5, m6, m7, m8, m9, m10, (up ((up m11 0 7 2)) 0 8 1)]) dX7_evening_40 fr_X7_62 kl_11000 rfl (by decide) (Nat.le_of_ble_eq_true rfl) rfl ?_
    refine K_aload_n 1 dX7_evening_43 rfl ?_
    refine K_callV (E' := e_X7_beginAnew m0 m1 r11.2.1 m3 r11.2.2 m5 m6 m7 m8 m9 m10 ((up ((up m11 0 7 2)) 0 8 1))) (b := 11000) (As := []) (rest := []) dX7_evening_44 ml_X7_119 (mf_X7_beginAnew 3) mv_X7_beginAnew (fun hj r hr => c_X7_beginAnew hj m0 m1 r11.2.1 m3 r11.2.2 m5 m6 m7 m8 m9 m10 ((up ((up m11 0 7 2)) 0 8 1))  hr) (rcv_obj (q := (RX7, TX7, 10)) kl_11000 rfl) rfl rfl (Nat.le_of_ble_eq_true rfl) (Nat.le_of_ble_eq_true rfl) (fun r12 => ?_)
    show K G (mi_X7_evening 12) (e_X7_evening m0 m1 m2 m3 m4 m5 m6 m7 m8 m9 m10 m11) 47 [(1, .ref 1000), (0, .ref 11000)] [] [m0, m1, r11.2.1, r12.1, r11.2.2, m5, r12.2, m7, m8, m9, m10, (up ((up m11 0 7 2)) 0 8 1)] _
    refine K_aload_n 1 dX7_evening_47 rfl ?_
    refine K_get (v := .ref 2000) dX7_evening_48 fl_X7_58 kl_11000 rfl rfl ?_
    refine K_get (v := .int (r11.2.1 0 6)) dX7_evening_51 fl_X7_122 kl_2000 rfl rfl ?_
    exact K_ret (rv := some (.int (r11.2.1 0 6))) dX7_evening_54 rfl rfl rfl
  · refine K_ldc (v := (-1000100)) dX7_evening_14 cst_X7_115 ?_
    refine K_aload_n 0 dX7_evening_16 rfl ?_
    refine K_get (v := .ref 4000) dX7_evening_17 fl_X7_19 kl_11000 rfl rfl ?_
    refine K_get (v := .int (r11.2.2 0 3)) dX7_evening_20 fl_X7_116 kl_4000 rfl rfl ?_
    refine K_isub dX7_evening_23 ?_
    exact K_ret (rv := some (.int ((-1000100) - (r11.2.2 0 3)))) dX7_evening_24 rfl rfl rfl
theorem c_X7_evening {G : GE} (hj : dj G) (m0 m1 m2 m3 m4 m5 m6 m7 m8 m9 m10 m11 : Mem)  (h7 : m11 0 7 = 1) (h8 : m11 0 8 = 2) {r : Int32 × Mem × Mem × Mem × Mem × Mem} (hr : f_X7_evening m1 m2 m3 m4 m6 m11 = some r) : Ctr G yX7_evening (mi_X7_evening 12) [.ref 11000] [m0, m1, m2, m3, m4, m5, m6, m7, m8, m9, m10, m11] ((e_X7_evening m0 m1 m2 m3 m4 m5 m6 m7 m8 m9 m10 m11) r).1 ((e_X7_evening m0 m1 m2 m3 m4 m5 m6 m7 m8 m9 m10 m11) r).2 := Ctr_of hj (by decide) rfl hr rfl (Nat.le_of_ble_eq_true rfl) (k_X7_evening m0 m1 m2 m3 m4 m5 m6 m7 m8 m9 m10 m11  h7 h8)
abbrev e_X7_fault (m0 m1 m2 m3 m4 m5 m6 m7 m8 m9 m10 m11 : Mem) : Int32 → Option Value × List Mem := fun r => (some (.int r), [m0, m1, m2, m3, m4, m5, m6, m7, m8, m9, m10, m11])
theorem k_X7_fault {G : GE} (m0 m1 m2 m3 m4 m5 m6 m7 m8 m9 m10 m11 : Mem)  : K G (mi_X7_fault 1) (e_X7_fault m0 m1 m2 m3 m4 m5 m6 m7 m8 m9 m10 m11) 0 [(0, .ref 11000)] [] [m0, m1, m2, m3, m4, m5, m6, m7, m8, m9, m10, m11] (f_X7_fault m4) := by
  unfold f_X7_fault
  refine K_aload_n 0 dX7_fault_0 rfl ?_
  refine K_get (v := .ref 4000) dX7_fault_1 fl_X7_19 kl_11000 rfl rfl ?_
  refine K_get (v := .int (m4 0 2)) dX7_fault_4 fl_X7_125 kl_4000 rfl rfl ?_
  exact K_ret (rv := some (.int (m4 0 2))) dX7_fault_7 rfl rfl rfl
theorem c_X7_fault {G : GE} (hj : dj G) (m0 m1 m2 m3 m4 m5 m6 m7 m8 m9 m10 m11 : Mem)  {r : Int32} (hr : f_X7_fault m4 = some r) : Ctr G yX7_fault (mi_X7_fault 1) [.ref 11000] [m0, m1, m2, m3, m4, m5, m6, m7, m8, m9, m10, m11] ((e_X7_fault m0 m1 m2 m3 m4 m5 m6 m7 m8 m9 m10 m11) r).1 ((e_X7_fault m0 m1 m2 m3 m4 m5 m6 m7 m8 m9 m10 m11) r).2 := Ctr_of hj (by decide) rfl hr rfl (Nat.le_of_ble_eq_true rfl) (k_X7_fault m0 m1 m2 m3 m4 m5 m6 m7 m8 m9 m10 m11 )
abbrev e_X3_hasPerson_1 (m0 m1 m2 m3 m4 m5 m6 m7 m8 m9 m10 m11 : Mem) : Int32 → Option Value × List Mem := fun r => (some (.int r), [m0, m1, m2, m3, m4, m5, m6, m7, m8, m9, m10, m11])
theorem k_X3_hasPerson_1 {G : GE} (m0 m1 m2 m3 m4 m5 m6 m7 m8 m9 m10 m11 : Mem) (x1 : Int32) : K G (mi_X3_hasPerson 1) (e_X3_hasPerson_1 m0 m1 m2 m3 m4 m5 m6 m7 m8 m9 m10 m11) 0 [(0, .ref 1000), (1, .int x1)] [] [m0, m1, m2, m3, m4, m5, m6, m7, m8, m9, m10, m11] (f_X3_hasPerson m1 x1) := by
  unfold f_X3_hasPerson
  refine K_iload_n 1 dX3_hasPerson_0 rfl ?_
  refine K_if_lt 16 dX3_hasPerson_1 rfl (fun _ => ?_) (fun _ => ?_)
  · refine K_iconst (v := 0) dX3_hasPerson_16 (by decide) ?_
    exact K_ret (rv := some (.int 0)) dX3_hasPerson_17 rfl rfl rfl
  · refine K_iload_n 1 dX3_hasPerson_4 rfl ?_
    refine K_aload_n 0 dX3_hasPerson_5 rfl ?_
    refine K_get (v := .int (m1 0 6)) dX3_hasPerson_6 fl_X3_50 kl_1000 rfl rfl ?_
    refine K_icmp_ge 16 dX3_hasPerson_9 rfl (fun _ => ?_) (fun _ => ?_)
    · refine K_iconst (v := 0) dX3_hasPerson_16 (by decide) ?_
      exact K_ret (rv := some (.int 0)) dX3_hasPerson_17 rfl rfl rfl
    · refine K_iconst (v := 1) dX3_hasPerson_12 (by decide) ?_
      refine K_goto 17 dX3_hasPerson_13 rfl ?_
      exact K_ret (rv := some (.int 1)) dX3_hasPerson_17 rfl rfl rfl
theorem c_X3_hasPerson_1 {G : GE} (hj : dj G) (m0 m1 m2 m3 m4 m5 m6 m7 m8 m9 m10 m11 : Mem) (x1 : Int32) {r : Int32} (hr : f_X3_hasPerson m1 x1 = some r) : Ctr G yX3_hasPerson (mi_X3_hasPerson 1) [.ref 1000, .int x1] [m0, m1, m2, m3, m4, m5, m6, m7, m8, m9, m10, m11] ((e_X3_hasPerson_1 m0 m1 m2 m3 m4 m5 m6 m7 m8 m9 m10 m11) r).1 ((e_X3_hasPerson_1 m0 m1 m2 m3 m4 m5 m6 m7 m8 m9 m10 m11) r).2 := Ctr_of hj (by decide) rfl hr rfl (Nat.le_of_ble_eq_true rfl) (k_X3_hasPerson_1 m0 m1 m2 m3 m4 m5 m6 m7 m8 m9 m10 m11 x1)
abbrev e_X2_keep (m0 m1 m2 m3 m4 m5 m6 m7 m8 m9 m10 m11 : Mem) : Mem → Option Value × List Mem := fun r => (none, [m0, m1, m2, m3, m4, m5, r, m7, m8, m9, m10, m11])
theorem k_X2_keep {G : GE} (m0 m1 m2 m3 m4 m5 m6 m7 m8 m9 m10 m11 : Mem) (x1 : Int32) (x2 : Int32) : K G (mi_X2_keep 1) (e_X2_keep m0 m1 m2 m3 m4 m5 m6 m7 m8 m9 m10 m11) 0 [(0, .ref 6000), (1, .int x1), (2, .int x2)] [] [m0, m1, m2, m3, m4, m5, m6, m7, m8, m9, m10, m11] (f_X2_keep m6 x1 x2) := by
  unfold f_X2_keep
  refine K_aload_n 0 dX2_keep_0 rfl ?_
  refine K_get (v := .int (m6 0 2)) dX2_keep_1 fl_X2_18 kl_6000 rfl rfl ?_
  refine K_bipush (v := 24) dX2_keep_4 (by decide) ?_
  refine K_jn (fun j15 => ∀ a14 : Mem, K G (mi_X2_keep 1) (e_X2_keep m0 m1 m2 m3 m4 m5 m6 m7 m8 m9 m10 m11) 49 [(0, .ref 6000), (1, .int x1), (2, .int x2)] [] [m0, m1, m2, m3, m4, m5, a14, m7, m8, m9, m10, m11] (j15 a14)) (fun a14 => ?_) (fun j15 hj15 => ?_)
  · refine K_aload_n 0 dX2_keep_49 rfl ?_
    refine K_get (v := .ref 6001) dX2_keep_50 fl_X2_9 kl_6000 rfl rfl ?_
    refine K_aload_n 0 dX2_keep_53 rfl ?_
    refine K_get (v := .int (a14 0 2)) dX2_keep_54 fl_X2_18 kl_6000 rfl rfl ?_
    refine K_iload_n 1 dX2_keep_57 rfl ?_
    refine K_iast (Ms' := [m0, m1, m2, m3, m4, m5, (up a14 1 (a14 0 2).toNatClampNeg x1), m7, m8, m9, m10, m11]) dX2_keep_58 kl_6001 (Nat.le_of_ble_eq_true rfl) rfl ?_
    refine K_nmm (fun w => [m0, m1, m2, m3, m4, m5, w, m7, m8, m9, m10, m11]) rfl (fun w16 => ?_)
    refine K_aload_n 0 dX2_keep_59 rfl ?_
    refine K_get (v := .ref 6002) dX2_keep_60 fl_X2_15 kl_6000 rfl rfl ?_
    refine K_aload_n 0 dX2_keep_63 rfl ?_
    refine K_get (v := .int (w16 0 2)) dX2_keep_64 fl_X2_18 kl_6000 rfl rfl ?_
    refine K_iload_n 2 dX2_keep_67 rfl ?_
    refine K_iast (Ms' := [m0, m1, m2, m3, m4, m5, (up w16 2 (w16 0 2).toNatClampNeg x2), m7, m8, m9, m10, m11]) dX2_keep_68 kl_6002 (Nat.le_of_ble_eq_true rfl) rfl ?_
    refine K_nmm (fun w => [m0, m1, m2, m3, m4, m5, w, m7, m8, m9, m10, m11]) rfl (fun w17 => ?_)
    refine K_aload_n 0 dX2_keep_69 rfl ?_
    refine K_dup dX2_keep_70 rfl ?_
    refine K_get (v := .int (w17 0 2)) dX2_keep_71 fl_X2_18 kl_6000 rfl rfl ?_
    refine K_iconst (v := 1) dX2_keep_74 (by decide) ?_
    refine K_iadd dX2_keep_75 ?_
    refine K_put (Ms' := [m0, m1, m2, m3, m4, m5, (up w17 0 2 ((w17 0 2) + 1)), m7, m8, m9, m10, m11]) dX2_keep_76 fp_X2_18 kl_6000 rfl rfl rfl (Nat.le_of_ble_eq_true rfl) rfl ?_
    refine K_nmm (fun w => [m0, m1, m2, m3, m4, m5, w, m7, m8, m9, m10, m11]) rfl (fun w18 => ?_)
    exact K_ret (rv := none) dX2_keep_79 trivial rfl rfl
  · refine K_icmp_ne 49 dX2_keep_6 rfl (fun _ => ?_) (fun _ => ?_)
    · exact hj15 m6
    · refine K_aload_n 0 dX2_keep_9 rfl ?_
      refine K_get (v := .ref 6001) dX2_keep_10 fl_X2_9 kl_6000 rfl rfl ?_
      refine K_iconst (v := 1) dX2_keep_13 (by decide) ?_
      refine K_aload_n 0 dX2_keep_14 rfl ?_
      refine K_get (v := .ref 6001) dX2_keep_15 fl_X2_9 kl_6000 rfl rfl ?_
      refine K_iconst (v := 0) dX2_keep_18 (by decide) ?_
      refine K_bipush (v := 23) dX2_keep_19 (by decide) ?_
      refine K_copy (Ms' := [m0, m1, m2, m3, m4, m5, (upA m6 1 (va_cpy (m6 1) (m6 1) (1 : Int32).toNatClampNeg (0 : Int32).toNatClampNeg (23 : Int32).toNatClampNeg)), m7, m8, m9, m10, m11]) dX2_keep_21 mlk_X2_22 acp.1 acp.2.1 acp.2.2 (Nat.le_of_ble_eq_true rfl) (Nat.le_of_ble_eq_true rfl) kl_6001 kl_6001 (Nat.le_of_ble_eq_true rfl) rfl ?_
      refine K_nmm (fun w => [m0, m1, m2, m3, m4, m5, w, m7, m8, m9, m10, m11]) rfl (fun w11 => ?_)
      refine K_aload_n 0 dX2_keep_24 rfl ?_
      refine K_get (v := .ref 6002) dX2_keep_25 fl_X2_15 kl_6000 rfl rfl ?_
      refine K_iconst (v := 1) dX2_keep_28 (by decide) ?_
      refine K_aload_n 0 dX2_keep_29 rfl ?_
      refine K_get (v := .ref 6002) dX2_keep_30 fl_X2_15 kl_6000 rfl rfl ?_
      refine K_iconst (v := 0) dX2_keep_33 (by decide) ?_
      refine K_bipush (v := 23) dX2_keep_34 (by decide) ?_
      refine K_copy (Ms' := [m0, m1, m2, m3, m4, m5, (upA w11 2 (va_cpy (w11 2) (w11 2) (1 : Int32).toNatClampNeg (0 : Int32).toNatClampNeg (23 : Int32).toNatClampNeg)), m7, m8, m9, m10, m11]) dX2_keep_36 mlk_X2_22 acp.1 acp.2.1 acp.2.2 (Nat.le_of_ble_eq_true rfl) (Nat.le_of_ble_eq_true rfl) kl_6002 kl_6002 (Nat.le_of_ble_eq_true rfl) rfl ?_
      refine K_nmm (fun w => [m0, m1, m2, m3, m4, m5, w, m7, m8, m9, m10, m11]) rfl (fun w12 => ?_)
      refine K_aload_n 0 dX2_keep_39 rfl ?_
      refine K_dup dX2_keep_40 rfl ?_
      refine K_get (v := .int (w12 0 2)) dX2_keep_41 fl_X2_18 kl_6000 rfl rfl ?_
      refine K_iconst (v := 1) dX2_keep_44 (by decide) ?_
      refine K_isub dX2_keep_45 ?_
      refine K_put (Ms' := [m0, m1, m2, m3, m4, m5, (up w12 0 2 ((w12 0 2) - 1)), m7, m8, m9, m10, m11]) dX2_keep_46 fp_X2_18 kl_6000 rfl rfl rfl (Nat.le_of_ble_eq_true rfl) rfl ?_
      refine K_nmm (fun w => [m0, m1, m2, m3, m4, m5, w, m7, m8, m9, m10, m11]) rfl (fun w13 => ?_)
      exact hj15 w13
theorem c_X2_keep {G : GE} (hj : dj G) (m0 m1 m2 m3 m4 m5 m6 m7 m8 m9 m10 m11 : Mem) (x1 : Int32) (x2 : Int32) {r : Mem} (hr : f_X2_keep m6 x1 x2 = some r) : Ctr G yX2_keep (mi_X2_keep 1) [.ref 6000, .int x1, .int x2] [m0, m1, m2, m3, m4, m5, m6, m7, m8, m9, m10, m11] ((e_X2_keep m0 m1 m2 m3 m4 m5 m6 m7 m8 m9 m10 m11) r).1 ((e_X2_keep m0 m1 m2 m3 m4 m5 m6 m7 m8 m9 m10 m11) r).2 := Ctr_of hj (by decide) rfl hr rfl (Nat.le_of_ble_eq_true rfl) (k_X2_keep m0 m1 m2 m3 m4 m5 m6 m7 m8 m9 m10 m11 x1 x2)
abbrev e_X7_drink (m0 m1 m2 m3 m4 m5 m6 m7 m8 m9 m10 m11 : Mem) : (Int32 × Mem × Mem) → Option Value × List Mem := fun r => (some (.int r.1), [m0, r.2.1, m2, m3, m4, m5, r.2.2, m7, m8, m9, m10, m11])
theorem k_X7_drink {G : GE} (m0 m1 m2 m3 m4 m5 m6 m7 m8 m9 m10 m11 : Mem) (x1 : Int32) (x2 : Int32) (h7 : m11 0 7 = 1) : K G (mi_X7_drink 2) (e_X7_drink m0 m1 m2 m3 m4 m5 m6 m7 m8 m9 m10 m11) 0 [(0, .ref 11000), (1, .int x1), (2, .int x2)] [] [m0, m1, m2, m3, m4, m5, m6, m7, m8, m9, m10, m11] (f_X7_drink m1 m6 x1 x2) := by
  unfold f_X7_drink
  refine K_aload_n 0 dX7_drink_0 rfl ?_
  refine K_get (v := .ref 1000) dX7_drink_1 fl_X7_58 kl_11000 rfl (nd_ref h7) ?_
  refine K_iload_n 1 dX7_drink_4 rfl ?_
  refine K_callV (E' := e_X3_hasPerson_1 m0 m1 m2 m3 m4 m5 m6 m7 m8 m9 m10 m11) (b := 1000) (As := [.int x1]) (rest := []) dX7_drink_5 ml_X7_128 (mf_X3_hasPerson 1) mv_X3_hasPerson (fun hj r hr => c_X3_hasPerson_1 hj m0 m1 m2 m3 m4 m5 m6 m7 m8 m9 m10 m11 x1 hr) (rcv_obj (q := (RX3, TX3, 18)) kl_1000 rfl) rfl rfl (Nat.le_of_ble_eq_true rfl) (Nat.le_of_ble_eq_true rfl) (fun r11 => ?_)
  show K G (mi_X7_drink 2) (e_X7_drink m0 m1 m2 m3 m4 m5 m6 m7 m8 m9 m10 m11) 8 [(0, .ref 11000), (1, .int x1), (2, .int x2)] [.int r11] [m0, m1, m2, m3, m4, m5, m6, m7, m8, m9, m10, m11] _
  refine K_if_eq 22 dX7_drink_8 rfl (fun _ => ?_) (fun _ => ?_)
  · refine K_ldc (v := (-1000001)) dX7_drink_22 cst_X7_73 ?_
    exact K_ret (rv := some (.int (-1000001))) dX7_drink_24 rfl rfl rfl
  · refine K_iload_n 2 dX7_drink_11 rfl ?_
    refine K_iconst (v := 1) dX7_drink_12 (by decide) ?_
    refine K_icmp_lt 22 dX7_drink_13 rfl (fun _ => ?_) (fun _ => ?_)
    · refine K_ldc (v := (-1000001)) dX7_drink_22 cst_X7_73 ?_
      exact K_ret (rv := some (.int (-1000001))) dX7_drink_24 rfl rfl rfl
    · refine K_iload_n 2 dX7_drink_16 rfl ?_
      refine K_bipush (v := 9) dX7_drink_17 (by decide) ?_
      refine K_icmp_le 25 dX7_drink_19 rfl (fun _ => ?_) (fun _ => ?_)
      · refine K_aload_n 0 dX7_drink_25 rfl ?_
        refine K_get (v := .ref 1000) dX7_drink_26 fl_X7_58 kl_11000 rfl (nd_ref h7) ?_
        refine K_get (v := .ref 1014) dX7_drink_29 fl_X7_131 kl_1000 rfl rfl ?_
        refine K_iload_n 1 dX7_drink_32 rfl ?_
        refine K_iald (f := m1 14) dX7_drink_33 kl_1014 rfl ?_
        refine K_iload_n 2 dX7_drink_34 rfl ?_
        refine K_iadd dX7_drink_35 ?_
        refine K_bipush (v := 99) dX7_drink_36 (by decide) ?_
        refine K_icmp_le 44 dX7_drink_38 rfl (fun _ => ?_) (fun _ => ?_)
        · refine K_aload_n 0 dX7_drink_44 rfl ?_
          refine K_get (v := .ref 1000) dX7_drink_45 fl_X7_58 kl_11000 rfl (nd_ref h7) ?_
          refine K_get (v := .ref 1014) dX7_drink_48 fl_X7_131 kl_1000 rfl rfl ?_
          refine K_iload_n 1 dX7_drink_51 rfl ?_
          refine K_dup2 dX7_drink_52 rfl rfl ?_
          refine K_iald (f := m1 14) dX7_drink_53 kl_1014 rfl ?_
          refine K_iload_n 2 dX7_drink_54 rfl ?_
          refine K_iadd dX7_drink_55 ?_
          refine K_iast (Ms' := [m0, (up m1 14 x1.toNatClampNeg ((m1 14 x1.toNatClampNeg) + x2)), m2, m3, m4, m5, m6, m7, m8, m9, m10, m11]) dX7_drink_56 kl_1014 (Nat.le_of_ble_eq_true rfl) rfl ?_
          refine K_nmm (fun w => [m0, w, m2, m3, m4, m5, m6, m7, m8, m9, m10, m11]) rfl (fun w12 => ?_)
          refine K_aload_n 0 dX7_drink_57 rfl ?_
          refine K_get (v := .ref 6000) dX7_drink_58 fl_X7_33 kl_11000 rfl rfl ?_
          refine K_iload_n 1 dX7_drink_61 rfl ?_
          refine K_iload_n 2 dX7_drink_62 rfl ?_
          refine K_callV (E' := e_X2_keep m0 w12 m2 m3 m4 m5 m6 m7 m8 m9 m10 m11) (b := 6000) (As := [.int x1, .int x2]) (rest := []) dX7_drink_63 ml_X7_136 (mf_X2_keep 1) mv_X2_keep (fun hj r hr => c_X2_keep hj m0 w12 m2 m3 m4 m5 m6 m7 m8 m9 m10 m11 x1 x2 hr) (rcv_obj (q := (RX2, TX2, 3)) kl_6000 rfl) rfl rfl (Nat.le_of_ble_eq_true rfl) (Nat.le_of_ble_eq_true rfl) (fun r13 => ?_)
          show K G (mi_X7_drink 2) (e_X7_drink m0 m1 m2 m3 m4 m5 m6 m7 m8 m9 m10 m11) 66 [(0, .ref 11000), (1, .int x1), (2, .int x2)] [] [m0, w12, m2, m3, m4, m5, r13, m7, m8, m9, m10, m11] _
          refine K_aload_n 0 dX7_drink_66 rfl ?_
          refine K_get (v := .ref 1000) dX7_drink_67 fl_X7_58 kl_11000 rfl (nd_ref h7) ?_
          refine K_get (v := .ref 1014) dX7_drink_70 fl_X7_131 kl_1000 rfl rfl ?_
          refine K_iload_n 1 dX7_drink_73 rfl ?_
          refine K_iald (f := w12 14) dX7_drink_74 kl_1014 rfl ?_
          exact K_ret (rv := some (.int (w12 14 x1.toNatClampNeg))) dX7_drink_75 rfl rfl rfl
        · refine K_ldc (v := (-1000003)) dX7_drink_41 cst_X7_135 ?_
          exact K_ret (rv := some (.int (-1000003))) dX7_drink_43 rfl rfl rfl
      · refine K_ldc (v := (-1000001)) dX7_drink_22 cst_X7_73 ?_
        exact K_ret (rv := some (.int (-1000001))) dX7_drink_24 rfl rfl rfl
theorem c_X7_drink {G : GE} (hj : dj G) (m0 m1 m2 m3 m4 m5 m6 m7 m8 m9 m10 m11 : Mem) (x1 : Int32) (x2 : Int32) (h7 : m11 0 7 = 1) {r : Int32 × Mem × Mem} (hr : f_X7_drink m1 m6 x1 x2 = some r) : Ctr G yX7_drink (mi_X7_drink 2) [.ref 11000, .int x1, .int x2] [m0, m1, m2, m3, m4, m5, m6, m7, m8, m9, m10, m11] ((e_X7_drink m0 m1 m2 m3 m4 m5 m6 m7 m8 m9 m10 m11) r).1 ((e_X7_drink m0 m1 m2 m3 m4 m5 m6 m7 m8 m9 m10 m11) r).2 := Ctr_of hj (by decide) rfl hr rfl (Nat.le_of_ble_eq_true rfl) (k_X7_drink m0 m1 m2 m3 m4 m5 m6 m7 m8 m9 m10 m11 x1 x2 h7)
abbrev e_X2_takeBack (m0 m1 m2 m3 m4 m5 m6 m7 m8 m9 m10 m11 : Mem) : (Mem × Mem) → Option Value × List Mem := fun r => (none, [m0, r.1, m2, m3, m4, m5, r.2, m7, m8, m9, m10, m11])
theorem k_X2_takeBack {G : GE} (m0 m1 m2 m3 m4 m5 m6 m7 m8 m9 m10 m11 : Mem)  : K G (mi_X2_takeBack 1) (e_X2_takeBack m0 m1 m2 m3 m4 m5 m6 m7 m8 m9 m10 m11) 0 [(0, .ref 6000), (1, .ref 1000)] [] [m0, m1, m2, m3, m4, m5, m6, m7, m8, m9, m10, m11] (f_X2_takeBack m1 m6) := by
  unfold f_X2_takeBack
  refine K_aload_n 0 dX2_takeBack_0 rfl ?_
  refine K_get (v := .int (m6 0 2)) dX2_takeBack_1 fl_X2_18 kl_6000 rfl rfl ?_
  refine K_if_le 43 dX2_takeBack_4 rfl (fun _ => ?_) (fun _ => ?_)
  · exact K_ret (rv := none) dX2_takeBack_43 trivial rfl rfl
  · refine K_aload_n 0 dX2_takeBack_7 rfl ?_
    refine K_dup dX2_takeBack_8 rfl ?_
    refine K_get (v := .int (m6 0 2)) dX2_takeBack_9 fl_X2_18 kl_6000 rfl rfl ?_
    refine K_iconst (v := 1) dX2_takeBack_12 (by decide) ?_
    refine K_isub dX2_takeBack_13 ?_
    refine K_put (Ms' := [m0, m1, m2, m3, m4, m5, (up m6 0 2 ((m6 0 2) - 1)), m7, m8, m9, m10, m11]) dX2_takeBack_14 fp_X2_18 kl_6000 rfl rfl rfl (Nat.le_of_ble_eq_true rfl) rfl ?_
    refine K_nmm (fun w => [m0, m1, m2, m3, m4, m5, w, m7, m8, m9, m10, m11]) rfl (fun w11 => ?_)
    refine K_aload_n 1 dX2_takeBack_17 rfl ?_
    refine K_get (v := .ref 1014) dX2_takeBack_18 fl_X2_28 kl_1000 rfl rfl ?_
    refine K_aload_n 0 dX2_takeBack_21 rfl ?_
    refine K_get (v := .ref 6001) dX2_takeBack_22 fl_X2_9 kl_6000 rfl rfl ?_
    refine K_aload_n 0 dX2_takeBack_25 rfl ?_
    refine K_get (v := .int (w11 0 2)) dX2_takeBack_26 fl_X2_18 kl_6000 rfl rfl ?_
    refine K_iald (f := w11 1) dX2_takeBack_29 kl_6001 rfl ?_
    refine K_dup2 dX2_takeBack_30 rfl rfl ?_
    refine K_iald (f := m1 14) dX2_takeBack_31 kl_1014 rfl ?_
    refine K_aload_n 0 dX2_takeBack_32 rfl ?_
    refine K_get (v := .ref 6002) dX2_takeBack_33 fl_X2_15 kl_6000 rfl rfl ?_
    refine K_aload_n 0 dX2_takeBack_36 rfl ?_
    refine K_get (v := .int (w11 0 2)) dX2_takeBack_37 fl_X2_18 kl_6000 rfl rfl ?_
    refine K_iald (f := w11 2) dX2_takeBack_40 kl_6002 rfl ?_
    refine K_isub dX2_takeBack_41 ?_
    refine K_iast (Ms' := [m0, (up m1 14 (w11 1 (w11 0 2).toNatClampNeg).toNatClampNeg ((m1 14 (w11 1 (w11 0 2).toNatClampNeg).toNatClampNeg) - (w11 2 (w11 0 2).toNatClampNeg))), m2, m3, m4, m5, w11, m7, m8, m9, m10, m11]) dX2_takeBack_42 kl_1014 (Nat.le_of_ble_eq_true rfl) rfl ?_
    refine K_nmm (fun w => [m0, w, m2, m3, m4, m5, w11, m7, m8, m9, m10, m11]) rfl (fun w12 => ?_)
    exact K_ret (rv := none) dX2_takeBack_43 trivial rfl rfl
theorem c_X2_takeBack {G : GE} (hj : dj G) (m0 m1 m2 m3 m4 m5 m6 m7 m8 m9 m10 m11 : Mem)  {r : Mem × Mem} (hr : f_X2_takeBack m1 m6 = some r) : Ctr G yX2_takeBack (mi_X2_takeBack 1) [.ref 6000, .ref 1000] [m0, m1, m2, m3, m4, m5, m6, m7, m8, m9, m10, m11] ((e_X2_takeBack m0 m1 m2 m3 m4 m5 m6 m7 m8 m9 m10 m11) r).1 ((e_X2_takeBack m0 m1 m2 m3 m4 m5 m6 m7 m8 m9 m10 m11) r).2 := Ctr_of hj (by decide) rfl hr rfl (Nat.le_of_ble_eq_true rfl) (k_X2_takeBack m0 m1 m2 m3 m4 m5 m6 m7 m8 m9 m10 m11 )
abbrev e_X7_undo (m0 m1 m2 m3 m4 m5 m6 m7 m8 m9 m10 m11 : Mem) : (Int32 × Mem × Mem) → Option Value × List Mem := fun r => (some (.int r.1), [m0, r.2.1, m2, m3, m4, m5, r.2.2, m7, m8, m9, m10, m11])
theorem k_X7_undo {G : GE} (m0 m1 m2 m3 m4 m5 m6 m7 m8 m9 m10 m11 : Mem)  (h7 : m11 0 7 = 1) : K G (mi_X7_undo 2) (e_X7_undo m0 m1 m2 m3 m4 m5 m6 m7 m8 m9 m10 m11) 0 [(0, .ref 11000)] [] [m0, m1, m2, m3, m4, m5, m6, m7, m8, m9, m10, m11] (f_X7_undo m1 m6) := by
  unfold f_X7_undo
  refine K_aload_n 0 dX7_undo_0 rfl ?_
  refine K_get (v := .ref 6000) dX7_undo_1 fl_X7_33 kl_11000 rfl rfl ?_
  refine K_get (v := .int (m6 0 2)) dX7_undo_4 fl_X7_140 kl_6000 rfl rfl ?_
  refine K_if_ne 13 dX7_undo_7 rfl (fun _ => ?_) (fun _ => ?_)
  · refine K_aload_n 0 dX7_undo_13 rfl ?_
    refine K_get (v := .ref 6000) dX7_undo_14 fl_X7_33 kl_11000 rfl rfl ?_
    refine K_aload_n 0 dX7_undo_17 rfl ?_
    refine K_get (v := .ref 1000) dX7_undo_18 fl_X7_58 kl_11000 rfl (nd_ref h7) ?_
    refine K_callV (E' := e_X2_takeBack m0 m1 m2 m3 m4 m5 m6 m7 m8 m9 m10 m11) (b := 6000) (As := [.ref 1000]) (rest := []) dX7_undo_21 ml_X7_144 (mf_X2_takeBack 1) mv_X2_takeBack (fun hj r hr => c_X2_takeBack hj m0 m1 m2 m3 m4 m5 m6 m7 m8 m9 m10 m11  hr) (rcv_obj (q := (RX2, TX2, 3)) kl_6000 rfl) rfl rfl (Nat.le_of_ble_eq_true rfl) (Nat.le_of_ble_eq_true rfl) (fun r11 => ?_)
    show K G (mi_X7_undo 2) (e_X7_undo m0 m1 m2 m3 m4 m5 m6 m7 m8 m9 m10 m11) 24 [(0, .ref 11000)] [] [m0, r11.1, m2, m3, m4, m5, r11.2, m7, m8, m9, m10, m11] _
    refine K_aload_n 0 dX7_undo_24 rfl ?_
    refine K_get (v := .ref 6000) dX7_undo_25 fl_X7_33 kl_11000 rfl rfl ?_
    refine K_get (v := .int (r11.2 0 2)) dX7_undo_28 fl_X7_140 kl_6000 rfl rfl ?_
    exact K_ret (rv := some (.int (r11.2 0 2))) dX7_undo_31 rfl rfl rfl
  · refine K_ldc (v := (-1000002)) dX7_undo_10 cst_X7_143 ?_
    exact K_ret (rv := some (.int (-1000002))) dX7_undo_12 rfl rfl rfl
theorem c_X7_undo {G : GE} (hj : dj G) (m0 m1 m2 m3 m4 m5 m6 m7 m8 m9 m10 m11 : Mem)  (h7 : m11 0 7 = 1) {r : Int32 × Mem × Mem} (hr : f_X7_undo m1 m6 = some r) : Ctr G yX7_undo (mi_X7_undo 2) [.ref 11000] [m0, m1, m2, m3, m4, m5, m6, m7, m8, m9, m10, m11] ((e_X7_undo m0 m1 m2 m3 m4 m5 m6 m7 m8 m9 m10 m11) r).1 ((e_X7_undo m0 m1 m2 m3 m4 m5 m6 m7 m8 m9 m10 m11) r).2 := Ctr_of hj (by decide) rfl hr rfl (Nat.le_of_ble_eq_true rfl) (k_X7_undo m0 m1 m2 m3 m4 m5 m6 m7 m8 m9 m10 m11  h7)
abbrev e_X7_person (m0 m1 m2 m3 m4 m5 m6 m7 m8 m9 m10 m11 : Mem) : Int32 → Option Value × List Mem := fun r => (some (.int r), [m0, m1, m2, m3, m4, m5, m6, m7, m8, m9, m10, m11])
theorem k_X7_person {G : GE} (m0 m1 m2 m3 m4 m5 m6 m7 m8 m9 m10 m11 : Mem) (x1 : Int32) (x2 : Int32) (h7 : m11 0 7 = 1) : K G (mi_X7_person 2) (e_X7_person m0 m1 m2 m3 m4 m5 m6 m7 m8 m9 m10 m11) 0 [(0, .ref 11000), (1, .int x1), (2, .int x2)] [] [m0, m1, m2, m3, m4, m5, m6, m7, m8, m9, m10, m11] (f_X7_person m1 x1 x2) := by
  unfold f_X7_person
  refine K_aload_n 0 dX7_person_0 rfl ?_
  refine K_get (v := .ref 1000) dX7_person_1 fl_X7_58 kl_11000 rfl (nd_ref h7) ?_
  refine K_iload_n 1 dX7_person_4 rfl ?_
  refine K_callV (E' := e_X3_hasPerson_1 m0 m1 m2 m3 m4 m5 m6 m7 m8 m9 m10 m11) (b := 1000) (As := [.int x1]) (rest := []) dX7_person_5 ml_X7_128 (mf_X3_hasPerson 1) mv_X3_hasPerson (fun hj r hr => c_X3_hasPerson_1 hj m0 m1 m2 m3 m4 m5 m6 m7 m8 m9 m10 m11 x1 hr) (rcv_obj (q := (RX3, TX3, 18)) kl_1000 rfl) rfl rfl (Nat.le_of_ble_eq_true rfl) (Nat.le_of_ble_eq_true rfl) (fun r11 => ?_)
  show K G (mi_X7_person 2) (e_X7_person m0 m1 m2 m3 m4 m5 m6 m7 m8 m9 m10 m11) 8 [(0, .ref 11000), (1, .int x1), (2, .int x2)] [.int r11] [m0, m1, m2, m3, m4, m5, m6, m7, m8, m9, m10, m11] _
  refine K_if_ne 14 dX7_person_8 rfl (fun _ => ?_) (fun _ => ?_)
  · refine K_iload_n 2 dX7_person_14 rfl ?_
    refine K_ite (c := x2 = 0) (fun hs0 => ?_) (fun hs0 => ?_)
    · refine K_tabIn (off := 29) 44 dX7_person_15 (by rw [hs0]; decide) (by rw [hs0]; decide) (by rw [hs0]; rfl) rfl ?_
      refine K_aload_n 0 dX7_person_44 rfl ?_
      refine K_get (v := .ref 1000) dX7_person_45 fl_X7_58 kl_11000 rfl (nd_ref h7) ?_
      refine K_get (v := .ref 1013) dX7_person_48 fl_X7_148 kl_1000 rfl rfl ?_
      refine K_iload_n 1 dX7_person_51 rfl ?_
      refine K_iald (f := m1 13) dX7_person_52 kl_1013 rfl ?_
      exact K_ret (rv := some (.int (m1 13 x1.toNatClampNeg))) dX7_person_53 rfl rfl rfl
    refine K_ite (c := x2 = 1) (fun hs1 => ?_) (fun hs1 => ?_)
    · refine K_tabIn (off := 39) 54 dX7_person_15 (by rw [hs1]; decide) (by rw [hs1]; decide) (by rw [hs1]; rfl) rfl ?_
      refine K_aload_n 0 dX7_person_54 rfl ?_
      refine K_get (v := .ref 1000) dX7_person_55 fl_X7_58 kl_11000 rfl (nd_ref h7) ?_
      refine K_get (v := .ref 1014) dX7_person_58 fl_X7_131 kl_1000 rfl rfl ?_
      refine K_iload_n 1 dX7_person_61 rfl ?_
      refine K_iald (f := m1 14) dX7_person_62 kl_1014 rfl ?_
      exact K_ret (rv := some (.int (m1 14 x1.toNatClampNeg))) dX7_person_63 rfl rfl rfl
    refine K_ite (c := x2 = 2) (fun hs2 => ?_) (fun hs2 => ?_)
    · refine K_tabIn (off := 49) 64 dX7_person_15 (by rw [hs2]; decide) (by rw [hs2]; decide) (by rw [hs2]; rfl) rfl ?_
      refine K_aload_n 0 dX7_person_64 rfl ?_
      refine K_get (v := .ref 1000) dX7_person_65 fl_X7_58 kl_11000 rfl (nd_ref h7) ?_
      refine K_iload_n 1 dX7_person_68 rfl ?_
      refine K_callV (E' := e_X3_carOf_1 m0 m1 m2 m3 m4 m5 m6 m7 m8 m9 m10 m11) (b := 1000) (As := [.int x1]) (rest := []) dX7_person_69 ml_X7_151 (mf_X3_carOf 1) mv_X3_carOf (fun hj r hr => c_X3_carOf_1 hj m0 m1 m2 m3 m4 m5 m6 m7 m8 m9 m10 m11 x1 hr) (rcv_obj (q := (RX3, TX3, 18)) kl_1000 rfl) rfl rfl (Nat.le_of_ble_eq_true rfl) (Nat.le_of_ble_eq_true rfl) (fun r12 => ?_)
      show K G (mi_X7_person 2) (e_X7_person m0 m1 m2 m3 m4 m5 m6 m7 m8 m9 m10 m11) 72 [(0, .ref 11000), (1, .int x1), (2, .int x2)] [.int r12] [m0, m1, m2, m3, m4, m5, m6, m7, m8, m9, m10, m11] _
      exact K_ret (rv := some (.int r12)) dX7_person_72 rfl rfl rfl
    refine K_ite (c := x2 = 3) (fun hs3 => ?_) (fun hs3 => ?_)
    · refine K_tabIn (off := 58) 73 dX7_person_15 (by rw [hs3]; decide) (by rw [hs3]; decide) (by rw [hs3]; rfl) rfl ?_
      refine K_aload_n 0 dX7_person_73 rfl ?_
      refine K_get (v := .ref 1000) dX7_person_74 fl_X7_58 kl_11000 rfl (nd_ref h7) ?_
      refine K_get (v := .ref 1015) dX7_person_77 fl_X7_154 kl_1000 rfl rfl ?_
      refine K_iload_n 1 dX7_person_80 rfl ?_
      refine K_iald (f := m1 15) dX7_person_81 kl_1015 rfl ?_
      exact K_ret (rv := some (.int (m1 15 x1.toNatClampNeg))) dX7_person_82 rfl rfl rfl
    refine K_tabOut 83 dX7_person_15 (by have ehs0 := lv_neT hs0 (a := 0) (by decide); have ehs1 := lv_neT hs1 (a := 1) (by decide); have ehs2 := lv_neT hs2 (a := 2) (by decide); have ehs3 := lv_neT hs3 (a := 3) (by decide); omega) rfl ?_
    refine K_ldc (v := (-1000001)) dX7_person_83 cst_X7_73 ?_
    exact K_ret (rv := some (.int (-1000001))) dX7_person_85 rfl rfl rfl
  · refine K_ldc (v := (-1000001)) dX7_person_11 cst_X7_73 ?_
    exact K_ret (rv := some (.int (-1000001))) dX7_person_13 rfl rfl rfl
theorem c_X7_person {G : GE} (hj : dj G) (m0 m1 m2 m3 m4 m5 m6 m7 m8 m9 m10 m11 : Mem) (x1 : Int32) (x2 : Int32) (h7 : m11 0 7 = 1) {r : Int32} (hr : f_X7_person m1 x1 x2 = some r) : Ctr G yX7_person (mi_X7_person 2) [.ref 11000, .int x1, .int x2] [m0, m1, m2, m3, m4, m5, m6, m7, m8, m9, m10, m11] ((e_X7_person m0 m1 m2 m3 m4 m5 m6 m7 m8 m9 m10 m11) r).1 ((e_X7_person m0 m1 m2 m3 m4 m5 m6 m7 m8 m9 m10 m11) r).2 := Ctr_of hj (by decide) rfl hr rfl (Nat.le_of_ble_eq_true rfl) (k_X7_person m0 m1 m2 m3 m4 m5 m6 m7 m8 m9 m10 m11 x1 x2 h7)
abbrev e_X3_hasCar_1 (m0 m1 m2 m3 m4 m5 m6 m7 m8 m9 m10 m11 : Mem) : Int32 → Option Value × List Mem := fun r => (some (.int r), [m0, m1, m2, m3, m4, m5, m6, m7, m8, m9, m10, m11])
theorem k_X3_hasCar_1 {G : GE} (m0 m1 m2 m3 m4 m5 m6 m7 m8 m9 m10 m11 : Mem) (x1 : Int32) : K G (mi_X3_hasCar 1) (e_X3_hasCar_1 m0 m1 m2 m3 m4 m5 m6 m7 m8 m9 m10 m11) 0 [(0, .ref 1000), (1, .int x1)] [] [m0, m1, m2, m3, m4, m5, m6, m7, m8, m9, m10, m11] (f_X3_hasCar m1 x1) := by
  unfold f_X3_hasCar
  refine K_iload_n 1 dX3_hasCar_0 rfl ?_
  refine K_if_lt 16 dX3_hasCar_1 rfl (fun _ => ?_) (fun _ => ?_)
  · refine K_iconst (v := 0) dX3_hasCar_16 (by decide) ?_
    exact K_ret (rv := some (.int 0)) dX3_hasCar_17 rfl rfl rfl
  · refine K_iload_n 1 dX3_hasCar_4 rfl ?_
    refine K_aload_n 0 dX3_hasCar_5 rfl ?_
    refine K_get (v := .int (m1 0 7)) dX3_hasCar_6 fl_X3_53 kl_1000 rfl rfl ?_
    refine K_icmp_ge 16 dX3_hasCar_9 rfl (fun _ => ?_) (fun _ => ?_)
    · refine K_iconst (v := 0) dX3_hasCar_16 (by decide) ?_
      exact K_ret (rv := some (.int 0)) dX3_hasCar_17 rfl rfl rfl
    · refine K_iconst (v := 1) dX3_hasCar_12 (by decide) ?_
      refine K_goto 17 dX3_hasCar_13 rfl ?_
      exact K_ret (rv := some (.int 1)) dX3_hasCar_17 rfl rfl rfl
theorem c_X3_hasCar_1 {G : GE} (hj : dj G) (m0 m1 m2 m3 m4 m5 m6 m7 m8 m9 m10 m11 : Mem) (x1 : Int32) {r : Int32} (hr : f_X3_hasCar m1 x1 = some r) : Ctr G yX3_hasCar (mi_X3_hasCar 1) [.ref 1000, .int x1] [m0, m1, m2, m3, m4, m5, m6, m7, m8, m9, m10, m11] ((e_X3_hasCar_1 m0 m1 m2 m3 m4 m5 m6 m7 m8 m9 m10 m11) r).1 ((e_X3_hasCar_1 m0 m1 m2 m3 m4 m5 m6 m7 m8 m9 m10 m11) r).2 := Ctr_of hj (by decide) rfl hr rfl (Nat.le_of_ble_eq_true rfl) (k_X3_hasCar_1 m0 m1 m2 m3 m4 m5 m6 m7 m8 m9 m10 m11 x1)
abbrev e_X7_car (m0 m1 m2 m3 m4 m5 m6 m7 m8 m9 m10 m11 : Mem) : Int32 → Option Value × List Mem := fun r => (some (.int r), [m0, m1, m2, m3, m4, m5, m6, m7, m8, m9, m10, m11])
theorem k_X7_car {G : GE} (m0 m1 m2 m3 m4 m5 m6 m7 m8 m9 m10 m11 : Mem) (x1 : Int32) (x2 : Int32) (h7 : m11 0 7 = 1) : K G (mi_X7_car 2) (e_X7_car m0 m1 m2 m3 m4 m5 m6 m7 m8 m9 m10 m11) 0 [(0, .ref 11000), (1, .int x1), (2, .int x2)] [] [m0, m1, m2, m3, m4, m5, m6, m7, m8, m9, m10, m11] (f_X7_car m1 x1 x2) := by
  unfold f_X7_car
  refine K_aload_n 0 dX7_car_0 rfl ?_
  refine K_get (v := .ref 1000) dX7_car_1 fl_X7_58 kl_11000 rfl (nd_ref h7) ?_
  refine K_iload_n 1 dX7_car_4 rfl ?_
  refine K_callV (E' := e_X3_hasCar_1 m0 m1 m2 m3 m4 m5 m6 m7 m8 m9 m10 m11) (b := 1000) (As := [.int x1]) (rest := []) dX7_car_5 ml_X7_157 (mf_X3_hasCar 1) mv_X3_hasCar (fun hj r hr => c_X3_hasCar_1 hj m0 m1 m2 m3 m4 m5 m6 m7 m8 m9 m10 m11 x1 hr) (rcv_obj (q := (RX3, TX3, 18)) kl_1000 rfl) rfl rfl (Nat.le_of_ble_eq_true rfl) (Nat.le_of_ble_eq_true rfl) (fun r11 => ?_)
  show K G (mi_X7_car 2) (e_X7_car m0 m1 m2 m3 m4 m5 m6 m7 m8 m9 m10 m11) 8 [(0, .ref 11000), (1, .int x1), (2, .int x2)] [.int r11] [m0, m1, m2, m3, m4, m5, m6, m7, m8, m9, m10, m11] _
  refine K_if_ne 14 dX7_car_8 rfl (fun _ => ?_) (fun _ => ?_)
  · refine K_iload_n 2 dX7_car_14 rfl ?_
    refine K_ite (c := x2 = 0) (fun hs0 => ?_) (fun hs0 => ?_)
    · refine K_tabIn (off := 25) 40 dX7_car_15 (by rw [hs0]; decide) (by rw [hs0]; decide) (by rw [hs0]; rfl) rfl ?_
      refine K_aload_n 0 dX7_car_40 rfl ?_
      refine K_get (v := .ref 1000) dX7_car_41 fl_X7_58 kl_11000 rfl (nd_ref h7) ?_
      refine K_get (v := .ref 1016) dX7_car_44 fl_X7_160 kl_1000 rfl rfl ?_
      refine K_iload_n 1 dX7_car_47 rfl ?_
      refine K_iald (f := m1 16) dX7_car_48 kl_1016 rfl ?_
      exact K_ret (rv := some (.int (m1 16 x1.toNatClampNeg))) dX7_car_49 rfl rfl rfl
    refine K_ite (c := x2 = 1) (fun hs1 => ?_) (fun hs1 => ?_)
    · refine K_tabIn (off := 35) 50 dX7_car_15 (by rw [hs1]; decide) (by rw [hs1]; decide) (by rw [hs1]; rfl) rfl ?_
      refine K_aload_n 0 dX7_car_50 rfl ?_
      refine K_get (v := .ref 1000) dX7_car_51 fl_X7_58 kl_11000 rfl (nd_ref h7) ?_
      refine K_get (v := .ref 1017) dX7_car_54 fl_X7_163 kl_1000 rfl rfl ?_
      refine K_iload_n 1 dX7_car_57 rfl ?_
      refine K_iald (f := m1 17) dX7_car_58 kl_1017 rfl ?_
      exact K_ret (rv := some (.int (m1 17 x1.toNatClampNeg))) dX7_car_59 rfl rfl rfl
    refine K_ite (c := x2 = 2) (fun hs2 => ?_) (fun hs2 => ?_)
    · refine K_tabIn (off := 45) 60 dX7_car_15 (by rw [hs2]; decide) (by rw [hs2]; decide) (by rw [hs2]; rfl) rfl ?_
      refine K_aload_n 0 dX7_car_60 rfl ?_
      refine K_get (v := .ref 1000) dX7_car_61 fl_X7_58 kl_11000 rfl (nd_ref h7) ?_
      refine K_get (v := .ref 1018) dX7_car_64 fl_X7_166 kl_1000 rfl rfl ?_
      refine K_iload_n 1 dX7_car_67 rfl ?_
      refine K_iald (f := m1 18) dX7_car_68 kl_1018 rfl ?_
      exact K_ret (rv := some (.int (m1 18 x1.toNatClampNeg))) dX7_car_69 rfl rfl rfl
    refine K_tabOut 70 dX7_car_15 (by have ehs0 := lv_neT hs0 (a := 0) (by decide); have ehs1 := lv_neT hs1 (a := 1) (by decide); have ehs2 := lv_neT hs2 (a := 2) (by decide); omega) rfl ?_
    refine K_ldc (v := (-1000001)) dX7_car_70 cst_X7_73 ?_
    exact K_ret (rv := some (.int (-1000001))) dX7_car_72 rfl rfl rfl
  · refine K_ldc (v := (-1000001)) dX7_car_11 cst_X7_73 ?_
    exact K_ret (rv := some (.int (-1000001))) dX7_car_13 rfl rfl rfl
theorem c_X7_car {G : GE} (hj : dj G) (m0 m1 m2 m3 m4 m5 m6 m7 m8 m9 m10 m11 : Mem) (x1 : Int32) (x2 : Int32) (h7 : m11 0 7 = 1) {r : Int32} (hr : f_X7_car m1 x1 x2 = some r) : Ctr G yX7_car (mi_X7_car 2) [.ref 11000, .int x1, .int x2] [m0, m1, m2, m3, m4, m5, m6, m7, m8, m9, m10, m11] ((e_X7_car m0 m1 m2 m3 m4 m5 m6 m7 m8 m9 m10 m11) r).1 ((e_X7_car m0 m1 m2 m3 m4 m5 m6 m7 m8 m9 m10 m11) r).2 := Ctr_of hj (by decide) rfl hr rfl (Nat.le_of_ble_eq_true rfl) (k_X7_car m0 m1 m2 m3 m4 m5 m6 m7 m8 m9 m10 m11 x1 x2 h7)
abbrev e_X3_areJoined_1 (m0 m1 m2 m3 m4 m5 m6 m7 m8 m9 m10 m11 : Mem) : Int32 → Option Value × List Mem := fun r => (some (.int r), [m0, m1, m2, m3, m4, m5, m6, m7, m8, m9, m10, m11])
theorem k_X3_areJoined_1 {G : GE} (m0 m1 m2 m3 m4 m5 m6 m7 m8 m9 m10 m11 : Mem) (x1 : Int32) (x2 : Int32) : K G (mi_X3_areJoined 2) (e_X3_areJoined_1 m0 m1 m2 m3 m4 m5 m6 m7 m8 m9 m10 m11) 0 [(0, .ref 1000), (1, .int x1), (2, .int x2)] [] [m0, m1, m2, m3, m4, m5, m6, m7, m8, m9, m10, m11] (f_X3_areJoined m1 x1 x2) := by
  unfold f_X3_areJoined
  refine K_aload_n 0 dX3_areJoined_0 rfl ?_
  refine K_iload_n 1 dX3_areJoined_1 rfl ?_
  refine K_iload_n 2 dX3_areJoined_2 rfl ?_
  refine K_callV (E' := e_X3_minutesBetween_1 m0 m1 m2 m3 m4 m5 m6 m7 m8 m9 m10 m11) (b := 1000) (As := [.int x1, .int x2]) (rest := []) dX3_areJoined_3 ml_X3_81 (mf_X3_minutesBetween 1) mv_X3_minutesBetween (fun hj r hr => c_X3_minutesBetween_1 hj m0 m1 m2 m3 m4 m5 m6 m7 m8 m9 m10 m11 x1 x2 hr) (rcv_obj (q := (RX3, TX3, 18)) kl_1000 rfl) rfl rfl (Nat.le_of_ble_eq_true rfl) (Nat.le_of_ble_eq_true rfl) (fun r11 => ?_)
  show K G (mi_X3_areJoined 2) (e_X3_areJoined_1 m0 m1 m2 m3 m4 m5 m6 m7 m8 m9 m10 m11) 6 [(0, .ref 1000), (1, .int x1), (2, .int x2)] [.int r11] [m0, m1, m2, m3, m4, m5, m6, m7, m8, m9, m10, m11] _
  refine K_ldc (v := 1000000) dX3_areJoined_6 cst_X3_62 ?_
  refine K_icmp_ge 15 dX3_areJoined_8 rfl (fun _ => ?_) (fun _ => ?_)
  · refine K_iconst (v := 0) dX3_areJoined_15 (by decide) ?_
    exact K_ret (rv := some (.int 0)) dX3_areJoined_16 rfl rfl rfl
  · refine K_iconst (v := 1) dX3_areJoined_11 (by decide) ?_
    refine K_goto 16 dX3_areJoined_12 rfl ?_
    exact K_ret (rv := some (.int 1)) dX3_areJoined_16 rfl rfl rfl
theorem c_X3_areJoined_1 {G : GE} (hj : dj G) (m0 m1 m2 m3 m4 m5 m6 m7 m8 m9 m10 m11 : Mem) (x1 : Int32) (x2 : Int32) {r : Int32} (hr : f_X3_areJoined m1 x1 x2 = some r) : Ctr G yX3_areJoined (mi_X3_areJoined 2) [.ref 1000, .int x1, .int x2] [m0, m1, m2, m3, m4, m5, m6, m7, m8, m9, m10, m11] ((e_X3_areJoined_1 m0 m1 m2 m3 m4 m5 m6 m7 m8 m9 m10 m11) r).1 ((e_X3_areJoined_1 m0 m1 m2 m3 m4 m5 m6 m7 m8 m9 m10 m11) r).2 := Ctr_of hj (by decide) rfl hr rfl (Nat.le_of_ble_eq_true rfl) (k_X3_areJoined_1 m0 m1 m2 m3 m4 m5 m6 m7 m8 m9 m10 m11 x1 x2)
abbrev e_X7_far (m0 m1 m2 m3 m4 m5 m6 m7 m8 m9 m10 m11 : Mem) : Int32 → Option Value × List Mem := fun r => (some (.int r), [m0, m1, m2, m3, m4, m5, m6, m7, m8, m9, m10, m11])
theorem k_X7_far {G : GE} (m0 m1 m2 m3 m4 m5 m6 m7 m8 m9 m10 m11 : Mem) (x1 : Int32) (x2 : Int32) (h7 : m11 0 7 = 1) : K G (mi_X7_far 3) (e_X7_far m0 m1 m2 m3 m4 m5 m6 m7 m8 m9 m10 m11) 0 [(0, .ref 11000), (1, .int x1), (2, .int x2)] [] [m0, m1, m2, m3, m4, m5, m6, m7, m8, m9, m10, m11] (f_X7_far m1 x1 x2) := by
  unfold f_X7_far
  refine K_aload_n 0 dX7_far_0 rfl ?_
  refine K_get (v := .ref 1000) dX7_far_1 fl_X7_58 kl_11000 rfl (nd_ref h7) ?_
  refine K_get (v := .int (m1 0 0)) dX7_far_4 fl_X7_169 kl_1000 rfl rfl ?_
  refine K_if_ne 13 dX7_far_7 rfl (fun _ => ?_) (fun _ => ?_)
  · refine K_iload_n 1 dX7_far_13 rfl ?_
    refine K_if_lt 33 dX7_far_14 rfl (fun _ => ?_) (fun _ => ?_)
    · refine K_ldc (v := (-1000001)) dX7_far_33 cst_X7_73 ?_
      exact K_ret (rv := some (.int (-1000001))) dX7_far_35 rfl rfl rfl
    · refine K_iload_n 1 dX7_far_17 rfl ?_
      refine K_bipush (v := 8) dX7_far_18 (by decide) ?_
      refine K_icmp_ge 33 dX7_far_20 rfl (fun _ => ?_) (fun _ => ?_)
      · refine K_ldc (v := (-1000001)) dX7_far_33 cst_X7_73 ?_
        exact K_ret (rv := some (.int (-1000001))) dX7_far_35 rfl rfl rfl
      · refine K_iload_n 2 dX7_far_23 rfl ?_
        refine K_if_lt 33 dX7_far_24 rfl (fun _ => ?_) (fun _ => ?_)
        · refine K_ldc (v := (-1000001)) dX7_far_33 cst_X7_73 ?_
          exact K_ret (rv := some (.int (-1000001))) dX7_far_35 rfl rfl rfl
        · refine K_iload_n 2 dX7_far_27 rfl ?_
          refine K_bipush (v := 8) dX7_far_28 (by decide) ?_
          refine K_icmp_lt 36 dX7_far_30 rfl (fun _ => ?_) (fun _ => ?_)
          · refine K_aload_n 0 dX7_far_36 rfl ?_
            refine K_get (v := .ref 1000) dX7_far_37 fl_X7_58 kl_11000 rfl (nd_ref h7) ?_
            refine K_iload_n 1 dX7_far_40 rfl ?_
            refine K_iload_n 2 dX7_far_41 rfl ?_
            refine K_callV (E' := e_X3_areJoined_1 m0 m1 m2 m3 m4 m5 m6 m7 m8 m9 m10 m11) (b := 1000) (As := [.int x1, .int x2]) (rest := []) dX7_far_42 ml_X7_173 (mf_X3_areJoined 2) mv_X3_areJoined (fun hj r hr => c_X3_areJoined_1 hj m0 m1 m2 m3 m4 m5 m6 m7 m8 m9 m10 m11 x1 x2 hr) (rcv_obj (q := (RX3, TX3, 18)) kl_1000 rfl) rfl rfl (Nat.le_of_ble_eq_true rfl) (Nat.le_of_ble_eq_true rfl) (fun r11 => ?_)
            show K G (mi_X7_far 3) (e_X7_far m0 m1 m2 m3 m4 m5 m6 m7 m8 m9 m10 m11) 45 [(0, .ref 11000), (1, .int x1), (2, .int x2)] [.int r11] [m0, m1, m2, m3, m4, m5, m6, m7, m8, m9, m10, m11] _
            refine K_if_eq 60 dX7_far_45 rfl (fun _ => ?_) (fun _ => ?_)
            · refine K_ldc (v := (-1000000)) dX7_far_60 cst_X7_180 ?_
              exact K_ret (rv := some (.int (-1000000))) dX7_far_62 rfl rfl rfl
            · refine K_aload_n 0 dX7_far_48 rfl ?_
              refine K_get (v := .ref 1000) dX7_far_49 fl_X7_58 kl_11000 rfl (nd_ref h7) ?_
              refine K_iload_n 1 dX7_far_52 rfl ?_
              refine K_iload_n 2 dX7_far_53 rfl ?_
              refine K_callV (E' := e_X3_minutesBetween_1 m0 m1 m2 m3 m4 m5 m6 m7 m8 m9 m10 m11) (b := 1000) (As := [.int x1, .int x2]) (rest := []) dX7_far_54 ml_X7_176 (mf_X3_minutesBetween 1) mv_X3_minutesBetween (fun hj r hr => c_X3_minutesBetween_1 hj m0 m1 m2 m3 m4 m5 m6 m7 m8 m9 m10 m11 x1 x2 hr) (rcv_obj (q := (RX3, TX3, 18)) kl_1000 rfl) rfl rfl (Nat.le_of_ble_eq_true rfl) (Nat.le_of_ble_eq_true rfl) (fun r12 => ?_)
              show K G (mi_X7_far 3) (e_X7_far m0 m1 m2 m3 m4 m5 m6 m7 m8 m9 m10 m11) 57 [(0, .ref 11000), (1, .int x1), (2, .int x2)] [.int r12] [m0, m1, m2, m3, m4, m5, m6, m7, m8, m9, m10, m11] _
              refine K_goto 62 dX7_far_57 rfl ?_
              exact K_ret (rv := some (.int r12)) dX7_far_62 rfl rfl rfl
          · refine K_ldc (v := (-1000001)) dX7_far_33 cst_X7_73 ?_
            exact K_ret (rv := some (.int (-1000001))) dX7_far_35 rfl rfl rfl
  · refine K_ldc (v := (-1000002)) dX7_far_10 cst_X7_143 ?_
    exact K_ret (rv := some (.int (-1000002))) dX7_far_12 rfl rfl rfl
theorem c_X7_far {G : GE} (hj : dj G) (m0 m1 m2 m3 m4 m5 m6 m7 m8 m9 m10 m11 : Mem) (x1 : Int32) (x2 : Int32) (h7 : m11 0 7 = 1) {r : Int32} (hr : f_X7_far m1 x1 x2 = some r) : Ctr G yX7_far (mi_X7_far 3) [.ref 11000, .int x1, .int x2] [m0, m1, m2, m3, m4, m5, m6, m7, m8, m9, m10, m11] ((e_X7_far m0 m1 m2 m3 m4 m5 m6 m7 m8 m9 m10 m11) r).1 ((e_X7_far m0 m1 m2 m3 m4 m5 m6 m7 m8 m9 m10 m11) r).2 := Ctr_of hj (by decide) rfl hr rfl (Nat.le_of_ble_eq_true rfl) (k_X7_far m0 m1 m2 m3 m4 m5 m6 m7 m8 m9 m10 m11 x1 x2 h7)
abbrev e_X7_isMinute (Ms : List Mem) : Int32 → Option Value × List Mem := fun r => (some (.int r), Ms)
theorem k_X7_isMinute {G : GE} (Ms : List Mem) (x0 : Int32) : K G (mi_X7_isMinute 1) (e_X7_isMinute Ms) 0 [(0, .int x0)] [] Ms (f_X7_isMinute x0) := by
  unfold f_X7_isMinute
  refine K_iload_n 0 dX7_isMinute_0 rfl ?_
  refine K_if_lt 15 dX7_isMinute_1 rfl (fun _ => ?_) (fun _ => ?_)
  · refine K_iconst (v := 0) dX7_isMinute_15 (by decide) ?_
    exact K_ret (rv := some (.int 0)) dX7_isMinute_16 rfl rfl rfl
  · refine K_iload_n 0 dX7_isMinute_4 rfl ?_
    refine K_sipush (v := 600) dX7_isMinute_5 (by decide) ?_
    refine K_icmp_gt 15 dX7_isMinute_8 rfl (fun _ => ?_) (fun _ => ?_)
    · refine K_iconst (v := 0) dX7_isMinute_15 (by decide) ?_
      exact K_ret (rv := some (.int 0)) dX7_isMinute_16 rfl rfl rfl
    · refine K_iconst (v := 1) dX7_isMinute_11 (by decide) ?_
      refine K_goto 16 dX7_isMinute_12 rfl ?_
      exact K_ret (rv := some (.int 1)) dX7_isMinute_16 rfl rfl rfl
theorem c_X7_isMinute {G : GE} (hj : dj G) (Ms : List Mem) (x0 : Int32) {r : Int32} (hr : f_X7_isMinute x0 = some r) : Ctr G yX7_isMinute (mi_X7_isMinute 1) [.int x0] Ms ((e_X7_isMinute Ms) r).1 ((e_X7_isMinute Ms) r).2 := Ctr_of hj (by decide) rfl hr rfl (Nat.le_of_ble_eq_true rfl) (k_X7_isMinute Ms x0)
abbrev e_X3_drunkAfter_1 (m0 m1 m2 m3 m4 m5 m6 m7 m8 m9 m10 m11 : Mem) : Int32 → Option Value × List Mem := fun r => (some (.int r), [m0, m1, m2, m3, m4, m5, m6, m7, m8, m9, m10, m11])
theorem k_X3_drunkAfter_1 {G : GE} (m0 m1 m2 m3 m4 m5 m6 m7 m8 m9 m10 m11 : Mem) (x1 : Int32) (x2 : Int32) : K G (mi_X3_drunkAfter 1) (e_X3_drunkAfter_1 m0 m1 m2 m3 m4 m5 m6 m7 m8 m9 m10 m11) 0 [(0, .ref 1000), (1, .int x1), (2, .int x2)] [] [m0, m1, m2, m3, m4, m5, m6, m7, m8, m9, m10, m11] (f_X3_drunkAfter m1 x1 x2) := by
  unfold f_X3_drunkAfter
  refine K_iconst (v := 0) dX3_drunkAfter_0 (by decide) ?_
  refine K_bipush (v := 10) dX3_drunkAfter_1 (by decide) ?_
  refine K_iload_n 1 dX3_drunkAfter_3 rfl ?_
  refine K_imul dX3_drunkAfter_4 ?_
  refine K_aload_n 0 dX3_drunkAfter_5 rfl ?_
  refine K_get (v := .int (m1 0 2)) dX3_drunkAfter_6 fl_X3_72 kl_1000 rfl rfl ?_
  refine K_iload_n 2 dX3_drunkAfter_9 rfl ?_
  refine K_bipush (v := 60) dX3_drunkAfter_10 (by decide) ?_
  refine K_idivC dX3_drunkAfter_12 (by decide) ?_
  refine K_imul dX3_drunkAfter_13 ?_
  refine K_isub dX3_drunkAfter_14 ?_
  refine K_max dX3_drunkAfter_15 mlk_X3_95 mth_max.1 mth_max.2.1 mth_max.2.2 (Nat.le_of_ble_eq_true rfl) (Nat.le_of_ble_eq_true rfl) ?_
  exact K_ret (rv := some (.int (if (0 : Int32) < ((10 * x1) - ((m1 0 2) * (x2 / 60))) then ((10 * x1) - ((m1 0 2) * (x2 / 60))) else (0 : Int32)))) dX3_drunkAfter_18 rfl rfl rfl
theorem c_X3_drunkAfter_1 {G : GE} (hj : dj G) (m0 m1 m2 m3 m4 m5 m6 m7 m8 m9 m10 m11 : Mem) (x1 : Int32) (x2 : Int32) {r : Int32} (hr : f_X3_drunkAfter m1 x1 x2 = some r) : Ctr G yX3_drunkAfter (mi_X3_drunkAfter 1) [.ref 1000, .int x1, .int x2] [m0, m1, m2, m3, m4, m5, m6, m7, m8, m9, m10, m11] ((e_X3_drunkAfter_1 m0 m1 m2 m3 m4 m5 m6 m7 m8 m9 m10 m11) r).1 ((e_X3_drunkAfter_1 m0 m1 m2 m3 m4 m5 m6 m7 m8 m9 m10 m11) r).2 := Ctr_of hj (by decide) rfl hr rfl (Nat.le_of_ble_eq_true rfl) (k_X3_drunkAfter_1 m0 m1 m2 m3 m4 m5 m6 m7 m8 m9 m10 m11 x1 x2)
abbrev e_X7_hasBit (Ms : List Mem) : Int32 → Option Value × List Mem := fun r => (some (.int r), Ms)
theorem k_X7_hasBit {G : GE} (Ms : List Mem) (x0 : Int32) (x1 : Int32) : K G (mi_X7_hasBit 1) (e_X7_hasBit Ms) 0 [(0, .int x0), (1, .int x1)] [] Ms (f_X7_hasBit x0 x1) := by
  unfold f_X7_hasBit
  refine K_iload_n 0 dX7_hasBit_0 rfl ?_
  refine K_iload_n 1 dX7_hasBit_1 rfl ?_
  refine K_ishr dX7_hasBit_2 ?_
  refine K_iconst (v := 1) dX7_hasBit_3 (by decide) ?_
  refine K_iand dX7_hasBit_4 ?_
  refine K_if_eq 12 dX7_hasBit_5 rfl (fun _ => ?_) (fun _ => ?_)
  · refine K_iconst (v := 0) dX7_hasBit_12 (by decide) ?_
    exact K_ret (rv := some (.int 0)) dX7_hasBit_13 rfl rfl rfl
  · refine K_iconst (v := 1) dX7_hasBit_8 (by decide) ?_
    refine K_goto 13 dX7_hasBit_9 rfl ?_
    exact K_ret (rv := some (.int 1)) dX7_hasBit_13 rfl rfl rfl
theorem c_X7_hasBit {G : GE} (hj : dj G) (Ms : List Mem) (x0 : Int32) (x1 : Int32) {r : Int32} (hr : f_X7_hasBit x0 x1 = some r) : Ctr G yX7_hasBit (mi_X7_hasBit 1) [.int x0, .int x1] Ms ((e_X7_hasBit Ms) r).1 ((e_X7_hasBit Ms) r).2 := Ctr_of hj (by decide) rfl hr rfl (Nat.le_of_ble_eq_true rfl) (k_X7_hasBit Ms x0 x1)
abbrev e_X3_mayDrive_1 (m0 m1 m2 m3 m4 m5 m6 m7 m8 m9 m10 m11 : Mem) : Int32 → Option Value × List Mem := fun r => (some (.int r), [m0, m1, m2, m3, m4, m5, m6, m7, m8, m9, m10, m11])
theorem k_X3_mayDrive_1 {G : GE} (m0 m1 m2 m3 m4 m5 m6 m7 m8 m9 m10 m11 : Mem) (x1 : Int32) (x2 : Int32) (x3 : Int32) : K G (mi_X3_mayDrive 2) (e_X3_mayDrive_1 m0 m1 m2 m3 m4 m5 m6 m7 m8 m9 m10 m11) 0 [(0, .ref 1000), (1, .int x1), (2, .int x2), (3, .int x3)] [] [m0, m1, m2, m3, m4, m5, m6, m7, m8, m9, m10, m11] (f_X3_mayDrive m1 x1 x2 x3) := by
  unfold f_X3_mayDrive
  refine K_aload_n 0 dX3_mayDrive_0 rfl ?_
  refine K_get (v := .int (m1 0 9)) dX3_mayDrive_1 fl_X3_59 kl_1000 rfl rfl ?_
  refine K_iload_n 1 dX3_mayDrive_4 rfl ?_
  refine K_callS (E' := e_X7_hasBit [m0, m1, m2, m3, m4, m5, m6, m7, m8, m9, m10, m11]) (As := [.int (m1 0 9), .int x1]) (rest := []) dX3_mayDrive_5 ml_X3_98 (mf_X7_hasBit 1) ms_X7_hasBit (fun hj r hr => c_X7_hasBit hj [m0, m1, m2, m3, m4, m5, m6, m7, m8, m9, m10, m11] (m1 0 9) x1 hr) rfl rfl (Nat.le_of_ble_eq_true rfl) (Nat.le_of_ble_eq_true rfl) (fun r11 => ?_)
  show K G (mi_X3_mayDrive 2) (e_X3_mayDrive_1 m0 m1 m2 m3 m4 m5 m6 m7 m8 m9 m10 m11) 8 [(0, .ref 1000), (1, .int x1), (2, .int x2), (3, .int x3)] [.int r11] [m0, m1, m2, m3, m4, m5, m6, m7, m8, m9, m10, m11] _
  refine K_if_ne 28 dX3_mayDrive_8 rfl (fun _ => ?_) (fun _ => ?_)
  · refine K_iconst (v := 0) dX3_mayDrive_28 (by decide) ?_
    exact K_ret (rv := some (.int 0)) dX3_mayDrive_29 rfl rfl rfl
  · refine K_aload_n 0 dX3_mayDrive_11 rfl ?_
    refine K_get (v := .ref 1012) dX3_mayDrive_12 fl_X3_19 kl_1000 rfl rfl ?_
    refine K_iload_n 1 dX3_mayDrive_15 rfl ?_
    refine K_iald (f := m1 12) dX3_mayDrive_16 kl_1012 rfl ?_
    refine K_iconst (v := 2) dX3_mayDrive_17 (by decide) ?_
    refine K_callS (E' := e_X7_isOfKind [m0, m1, m2, m3, m4, m5, m6, m7, m8, m9, m10, m11]) (As := [.int (m1 12 x1.toNatClampNeg), .int 2]) (rest := []) dX3_mayDrive_18 ml_X3_90 (mf_X7_isOfKind 1) ms_X7_isOfKind (fun hj r hr => c_X7_isOfKind hj [m0, m1, m2, m3, m4, m5, m6, m7, m8, m9, m10, m11] (m1 12 x1.toNatClampNeg) (2 : Int32) hr) rfl rfl (Nat.le_of_ble_eq_true rfl) (Nat.le_of_ble_eq_true rfl) (fun r12 => ?_)
    show K G (mi_X3_mayDrive 2) (e_X3_mayDrive_1 m0 m1 m2 m3 m4 m5 m6 m7 m8 m9 m10 m11) 21 [(0, .ref 1000), (1, .int x1), (2, .int x2), (3, .int x3)] [.int r12] [m0, m1, m2, m3, m4, m5, m6, m7, m8, m9, m10, m11] _
    refine K_if_eq 30 dX3_mayDrive_21 rfl (fun _ => ?_) (fun _ => ?_)
    · refine K_aload_n 0 dX3_mayDrive_30 rfl ?_
      refine K_iload_n 2 dX3_mayDrive_31 rfl ?_
      refine K_iload_n 3 dX3_mayDrive_32 rfl ?_
      refine K_callV (E' := e_X3_drunkAfter_1 m0 m1 m2 m3 m4 m5 m6 m7 m8 m9 m10 m11) (b := 1000) (As := [.int x2, .int x3]) (rest := []) dX3_mayDrive_33 ml_X3_101 (mf_X3_drunkAfter 1) mv_X3_drunkAfter (fun hj r hr => c_X3_drunkAfter_1 hj m0 m1 m2 m3 m4 m5 m6 m7 m8 m9 m10 m11 x2 x3 hr) (rcv_obj (q := (RX3, TX3, 18)) kl_1000 rfl) rfl rfl (Nat.le_of_ble_eq_true rfl) (Nat.le_of_ble_eq_true rfl) (fun r13 => ?_)
      show K G (mi_X3_mayDrive 2) (e_X3_mayDrive_1 m0 m1 m2 m3 m4 m5 m6 m7 m8 m9 m10 m11) 36 [(0, .ref 1000), (1, .int x1), (2, .int x2), (3, .int x3)] [.int r13] [m0, m1, m2, m3, m4, m5, m6, m7, m8, m9, m10, m11] _
      refine K_aload_n 0 dX3_mayDrive_36 rfl ?_
      refine K_get (v := .int (m1 0 1)) dX3_mayDrive_37 fl_X3_69 kl_1000 rfl rfl ?_
      refine K_icmp_gt 47 dX3_mayDrive_40 rfl (fun _ => ?_) (fun _ => ?_)
      · refine K_iconst (v := 0) dX3_mayDrive_47 (by decide) ?_
        exact K_ret (rv := some (.int 0)) dX3_mayDrive_48 rfl rfl rfl
      · refine K_iconst (v := 1) dX3_mayDrive_43 (by decide) ?_
        refine K_goto 48 dX3_mayDrive_44 rfl ?_
        exact K_ret (rv := some (.int 1)) dX3_mayDrive_48 rfl rfl rfl
    · refine K_iload_n 2 dX3_mayDrive_24 rfl ?_
      refine K_if_le 30 dX3_mayDrive_25 rfl (fun _ => ?_) (fun _ => ?_)
      · refine K_aload_n 0 dX3_mayDrive_30 rfl ?_
        refine K_iload_n 2 dX3_mayDrive_31 rfl ?_
        refine K_iload_n 3 dX3_mayDrive_32 rfl ?_
        refine K_callV (E' := e_X3_drunkAfter_1 m0 m1 m2 m3 m4 m5 m6 m7 m8 m9 m10 m11) (b := 1000) (As := [.int x2, .int x3]) (rest := []) dX3_mayDrive_33 ml_X3_101 (mf_X3_drunkAfter 1) mv_X3_drunkAfter (fun hj r hr => c_X3_drunkAfter_1 hj m0 m1 m2 m3 m4 m5 m6 m7 m8 m9 m10 m11 x2 x3 hr) (rcv_obj (q := (RX3, TX3, 18)) kl_1000 rfl) rfl rfl (Nat.le_of_ble_eq_true rfl) (Nat.le_of_ble_eq_true rfl) (fun r14 => ?_)
        show K G (mi_X3_mayDrive 2) (e_X3_mayDrive_1 m0 m1 m2 m3 m4 m5 m6 m7 m8 m9 m10 m11) 36 [(0, .ref 1000), (1, .int x1), (2, .int x2), (3, .int x3)] [.int r14] [m0, m1, m2, m3, m4, m5, m6, m7, m8, m9, m10, m11] _
        refine K_aload_n 0 dX3_mayDrive_36 rfl ?_
        refine K_get (v := .int (m1 0 1)) dX3_mayDrive_37 fl_X3_69 kl_1000 rfl rfl ?_
        refine K_icmp_gt 47 dX3_mayDrive_40 rfl (fun _ => ?_) (fun _ => ?_)
        · refine K_iconst (v := 0) dX3_mayDrive_47 (by decide) ?_
          exact K_ret (rv := some (.int 0)) dX3_mayDrive_48 rfl rfl rfl
        · refine K_iconst (v := 1) dX3_mayDrive_43 (by decide) ?_
          refine K_goto 48 dX3_mayDrive_44 rfl ?_
          exact K_ret (rv := some (.int 1)) dX3_mayDrive_48 rfl rfl rfl
      · refine K_iconst (v := 0) dX3_mayDrive_28 (by decide) ?_
        exact K_ret (rv := some (.int 0)) dX3_mayDrive_29 rfl rfl rfl
theorem c_X3_mayDrive_1 {G : GE} (hj : dj G) (m0 m1 m2 m3 m4 m5 m6 m7 m8 m9 m10 m11 : Mem) (x1 : Int32) (x2 : Int32) (x3 : Int32) {r : Int32} (hr : f_X3_mayDrive m1 x1 x2 x3 = some r) : Ctr G yX3_mayDrive (mi_X3_mayDrive 2) [.ref 1000, .int x1, .int x2, .int x3] [m0, m1, m2, m3, m4, m5, m6, m7, m8, m9, m10, m11] ((e_X3_mayDrive_1 m0 m1 m2 m3 m4 m5 m6 m7 m8 m9 m10 m11) r).1 ((e_X3_mayDrive_1 m0 m1 m2 m3 m4 m5 m6 m7 m8 m9 m10 m11) r).2 := Ctr_of hj (by decide) rfl hr rfl (Nat.le_of_ble_eq_true rfl) (k_X3_mayDrive_1 m0 m1 m2 m3 m4 m5 m6 m7 m8 m9 m10 m11 x1 x2 x3)
abbrev e_X7_may (m0 m1 m2 m3 m4 m5 m6 m7 m8 m9 m10 m11 : Mem) : Int32 → Option Value × List Mem := fun r => (some (.int r), [m0, m1, m2, m3, m4, m5, m6, m7, m8, m9, m10, m11])
theorem k_X7_may {G : GE} (m0 m1 m2 m3 m4 m5 m6 m7 m8 m9 m10 m11 : Mem) (x1 : Int32) (x2 : Int32) (x3 : Int32) (h7 : m11 0 7 = 1) : K G (mi_X7_may 3) (e_X7_may m0 m1 m2 m3 m4 m5 m6 m7 m8 m9 m10 m11) 0 [(0, .ref 11000), (1, .int x1), (2, .int x2), (3, .int x3)] [] [m0, m1, m2, m3, m4, m5, m6, m7, m8, m9, m10, m11] (f_X7_may m1 x1 x2 x3) := by
  unfold f_X7_may
  refine K_aload_n 0 dX7_may_0 rfl ?_
  refine K_get (v := .ref 1000) dX7_may_1 fl_X7_58 kl_11000 rfl (nd_ref h7) ?_
  refine K_iload_n 1 dX7_may_4 rfl ?_
  refine K_callV (E' := e_X3_hasPerson_1 m0 m1 m2 m3 m4 m5 m6 m7 m8 m9 m10 m11) (b := 1000) (As := [.int x1]) (rest := []) dX7_may_5 ml_X7_128 (mf_X3_hasPerson 1) mv_X3_hasPerson (fun hj r hr => c_X3_hasPerson_1 hj m0 m1 m2 m3 m4 m5 m6 m7 m8 m9 m10 m11 x1 hr) (rcv_obj (q := (RX3, TX3, 18)) kl_1000 rfl) rfl rfl (Nat.le_of_ble_eq_true rfl) (Nat.le_of_ble_eq_true rfl) (fun r11 => ?_)
  show K G (mi_X7_may 3) (e_X7_may m0 m1 m2 m3 m4 m5 m6 m7 m8 m9 m10 m11) 8 [(0, .ref 11000), (1, .int x1), (2, .int x2), (3, .int x3)] [.int r11] [m0, m1, m2, m3, m4, m5, m6, m7, m8, m9, m10, m11] _
  refine K_if_eq 27 dX7_may_8 rfl (fun _ => ?_) (fun _ => ?_)
  · refine K_ldc (v := (-1000001)) dX7_may_27 cst_X7_73 ?_
    exact K_ret (rv := some (.int (-1000001))) dX7_may_29 rfl rfl rfl
  · refine K_iload_n 2 dX7_may_11 rfl ?_
    refine K_callS (E' := e_X7_isMinute [m0, m1, m2, m3, m4, m5, m6, m7, m8, m9, m10, m11]) (As := [.int x2]) (rest := []) dX7_may_12 ml_X7_181 (mf_X7_isMinute 1) ms_X7_isMinute (fun hj r hr => c_X7_isMinute hj [m0, m1, m2, m3, m4, m5, m6, m7, m8, m9, m10, m11] x2 hr) rfl rfl (Nat.le_of_ble_eq_true rfl) (Nat.le_of_ble_eq_true rfl) (fun r12 => ?_)
    show K G (mi_X7_may 3) (e_X7_may m0 m1 m2 m3 m4 m5 m6 m7 m8 m9 m10 m11) 15 [(0, .ref 11000), (1, .int x1), (2, .int x2), (3, .int x3)] [.int r12] [m0, m1, m2, m3, m4, m5, m6, m7, m8, m9, m10, m11] _
    refine K_if_eq 27 dX7_may_15 rfl (fun _ => ?_) (fun _ => ?_)
    · refine K_ldc (v := (-1000001)) dX7_may_27 cst_X7_73 ?_
      exact K_ret (rv := some (.int (-1000001))) dX7_may_29 rfl rfl rfl
    · refine K_iload_n 3 dX7_may_18 rfl ?_
      refine K_if_lt 27 dX7_may_19 rfl (fun _ => ?_) (fun _ => ?_)
      · refine K_ldc (v := (-1000001)) dX7_may_27 cst_X7_73 ?_
        exact K_ret (rv := some (.int (-1000001))) dX7_may_29 rfl rfl rfl
      · refine K_iload_n 3 dX7_may_22 rfl ?_
        refine K_iconst (v := 1) dX7_may_23 (by decide) ?_
        refine K_icmp_le 30 dX7_may_24 rfl (fun _ => ?_) (fun _ => ?_)
        · refine K_iload_n 3 dX7_may_30 rfl ?_
          refine K_if_ne 52 dX7_may_31 rfl (fun _ => ?_) (fun _ => ?_)
          · refine K_aload_n 0 dX7_may_52 rfl ?_
            refine K_get (v := .ref 1000) dX7_may_53 fl_X7_58 kl_11000 rfl (nd_ref h7) ?_
            refine K_iload_n 1 dX7_may_56 rfl ?_
            refine K_aload_n 0 dX7_may_57 rfl ?_
            refine K_get (v := .ref 1000) dX7_may_58 fl_X7_58 kl_11000 rfl (nd_ref h7) ?_
            refine K_get (v := .ref 1014) dX7_may_61 fl_X7_131 kl_1000 rfl rfl ?_
            refine K_iload_n 1 dX7_may_64 rfl ?_
            refine K_iald (f := m1 14) dX7_may_65 kl_1014 rfl ?_
            refine K_iload_n 2 dX7_may_66 rfl ?_
            refine K_callV (E' := e_X3_mayDrive_1 m0 m1 m2 m3 m4 m5 m6 m7 m8 m9 m10 m11) (b := 1000) (As := [.int x1, .int (m1 14 x1.toNatClampNeg), .int x2]) (rest := []) dX7_may_67 ml_X7_187 (mf_X3_mayDrive 2) mv_X3_mayDrive (fun hj r hr => c_X3_mayDrive_1 hj m0 m1 m2 m3 m4 m5 m6 m7 m8 m9 m10 m11 x1 (m1 14 x1.toNatClampNeg) x2 hr) (rcv_obj (q := (RX3, TX3, 18)) kl_1000 rfl) rfl rfl (Nat.le_of_ble_eq_true rfl) (Nat.le_of_ble_eq_true rfl) (fun r13 => ?_)
            show K G (mi_X7_may 3) (e_X7_may m0 m1 m2 m3 m4 m5 m6 m7 m8 m9 m10 m11) 70 [(0, .ref 11000), (1, .int x1), (2, .int x2), (3, .int x3)] [.int r13] [m0, m1, m2, m3, m4, m5, m6, m7, m8, m9, m10, m11] _
            refine K_if_eq 77 dX7_may_70 rfl (fun _ => ?_) (fun _ => ?_)
            · refine K_iconst (v := 0) dX7_may_77 (by decide) ?_
              exact K_ret (rv := some (.int 0)) dX7_may_78 rfl rfl rfl
            · refine K_iconst (v := 1) dX7_may_73 (by decide) ?_
              refine K_goto 78 dX7_may_74 rfl ?_
              exact K_ret (rv := some (.int 1)) dX7_may_78 rfl rfl rfl
          · refine K_aload_n 0 dX7_may_34 rfl ?_
            refine K_get (v := .ref 1000) dX7_may_35 fl_X7_58 kl_11000 rfl (nd_ref h7) ?_
            refine K_aload_n 0 dX7_may_38 rfl ?_
            refine K_get (v := .ref 1000) dX7_may_39 fl_X7_58 kl_11000 rfl (nd_ref h7) ?_
            refine K_get (v := .ref 1014) dX7_may_42 fl_X7_131 kl_1000 rfl rfl ?_
            refine K_iload_n 1 dX7_may_45 rfl ?_
            refine K_iald (f := m1 14) dX7_may_46 kl_1014 rfl ?_
            refine K_iload_n 2 dX7_may_47 rfl ?_
            refine K_callV (E' := e_X3_drunkAfter_1 m0 m1 m2 m3 m4 m5 m6 m7 m8 m9 m10 m11) (b := 1000) (As := [.int (m1 14 x1.toNatClampNeg), .int x2]) (rest := []) dX7_may_48 ml_X7_184 (mf_X3_drunkAfter 1) mv_X3_drunkAfter (fun hj r hr => c_X3_drunkAfter_1 hj m0 m1 m2 m3 m4 m5 m6 m7 m8 m9 m10 m11 (m1 14 x1.toNatClampNeg) x2 hr) (rcv_obj (q := (RX3, TX3, 18)) kl_1000 rfl) rfl rfl (Nat.le_of_ble_eq_true rfl) (Nat.le_of_ble_eq_true rfl) (fun r14 => ?_)
            show K G (mi_X7_may 3) (e_X7_may m0 m1 m2 m3 m4 m5 m6 m7 m8 m9 m10 m11) 51 [(0, .ref 11000), (1, .int x1), (2, .int x2), (3, .int x3)] [.int r14] [m0, m1, m2, m3, m4, m5, m6, m7, m8, m9, m10, m11] _
            exact K_ret (rv := some (.int r14)) dX7_may_51 rfl rfl rfl
        · refine K_ldc (v := (-1000001)) dX7_may_27 cst_X7_73 ?_
          exact K_ret (rv := some (.int (-1000001))) dX7_may_29 rfl rfl rfl
theorem c_X7_may {G : GE} (hj : dj G) (m0 m1 m2 m3 m4 m5 m6 m7 m8 m9 m10 m11 : Mem) (x1 : Int32) (x2 : Int32) (x3 : Int32) (h7 : m11 0 7 = 1) {r : Int32} (hr : f_X7_may m1 x1 x2 x3 = some r) : Ctr G yX7_may (mi_X7_may 3) [.ref 11000, .int x1, .int x2, .int x3] [m0, m1, m2, m3, m4, m5, m6, m7, m8, m9, m10, m11] ((e_X7_may m0 m1 m2 m3 m4 m5 m6 m7 m8 m9 m10 m11) r).1 ((e_X7_may m0 m1 m2 m3 m4 m5 m6 m7 m8 m9 m10 m11) r).2 := Ctr_of hj (by decide) rfl hr rfl (Nat.le_of_ble_eq_true rfl) (k_X7_may m0 m1 m2 m3 m4 m5 m6 m7 m8 m9 m10 m11 x1 x2 x3 h7)
