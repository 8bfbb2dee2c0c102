abbrev e_X8_far (m0 : Mem) (q : List Mem) : (Int32 × Mem) → Option Value × List Mem := fun r => (some (.int r.1), (r.2 :: q))
theorem k_X8_far {G : GE} (m0 : Mem) (q : List Mem) (x1 : Int32) (x2 : Int32) : K G (mi_X8_far 2) (e_X8_far m0 q) 0 [(0, .ref 0), (1, .int x1), (2, .int x2)] [] (m0 :: q) (f_X8_far m0 x1 x2) := by
  unfold f_X8_far
  refine K_aload_n 0 dX8_far_0 rfl ?_
  refine K_iconst (v := 0) dX8_far_1 (by decide) ?_
  refine K_put (Ms' := ((up m0 0 0 0) :: q)) dX8_far_2 fp_X8_68 kl_0 rfl rfl rfl (Nat.succ_pos _) rfl ?_
  refine K_nmm (fun w => (w :: q)) rfl (fun w11 => ?_)
  refine K_aload_n 0 dX8_far_5 rfl ?_
  refine K_get (v := .int (w11 0 7)) dX8_far_6 fl_X8_217 kl_0 rfl rfl ?_
  refine K_if_ne 15 dX8_far_9 rfl (fun _ => ?_) (fun _ => ?_)
  · refine K_iload_n 1 dX8_far_15 rfl ?_
    refine K_i2l dX8_far_16 ?_
    refine K_lconst (v := 0) dX8_far_17 (by decide) ?_
    refine K_ldc2 (v := 7) dX8_far_18 cst_X8_76 ?_
    refine K_callS (E' := e_X8_in (w11 :: q)) (As := [.long x1.toInt64, .long 0, .long 7]) (rest := []) dX8_far_21 ml_X8_78 (mf_X8_in 1) ms_X8_in (fun hj r hr => c_X8_in hj (w11 :: q) x1.toInt64 (0 : Int64) (7 : Int64) hr) rfl rfl (Nat.le_of_ble_eq_true rfl) (Nat.le_of_ble_eq_true rfl) (fun r12 => ?_)
    show K G (mi_X8_far 2) (e_X8_far m0 q) 24 [(0, .ref 0), (1, .int x1), (2, .int x2)] [.int r12] (w11 :: q) _
    refine K_if_eq 39 dX8_far_24 rfl (fun _ => ?_) (fun _ => ?_)
    · refine K_ldc (v := (-1000001)) dX8_far_39 cst_X8_88 ?_
      exact K_ret (rv := some (.int (-1000001))) dX8_far_41 rfl rfl rfl
    · refine K_iload_n 2 dX8_far_27 rfl ?_
      refine K_i2l dX8_far_28 ?_
      refine K_lconst (v := 0) dX8_far_29 (by decide) ?_
      refine K_ldc2 (v := 7) dX8_far_30 cst_X8_76 ?_
      refine K_callS (E' := e_X8_in (w11 :: q)) (As := [.long x2.toInt64, .long 0, .long 7]) (rest := []) dX8_far_33 ml_X8_78 (mf_X8_in 1) ms_X8_in (fun hj r hr => c_X8_in hj (w11 :: q) x2.toInt64 (0 : Int64) (7 : Int64) hr) rfl rfl (Nat.le_of_ble_eq_true rfl) (Nat.le_of_ble_eq_true rfl) (fun r13 => ?_)
      show K G (mi_X8_far 2) (e_X8_far m0 q) 36 [(0, .ref 0), (1, .int x1), (2, .int x2)] [.int r13] (w11 :: q) _
      refine K_if_ne 42 dX8_far_36 rfl (fun _ => ?_) (fun _ => ?_)
      · refine K_aload_n 0 dX8_far_42 rfl ?_
        refine K_iload_n 1 dX8_far_43 rfl ?_
        refine K_iload_n 2 dX8_far_44 rfl ?_
        refine K_callV (E' := e_X8_farOf w11 q) (b := 0) (As := [.int x1, .int x2]) (rest := []) dX8_far_45 ml_X8_249 (mf_X8_farOf 1) mv_X8_farOf (fun hj r hr => c_X8_farOf hj w11 q x1 x2 hr) (rcv_obj (q := (RX8, TX8, 37)) kl_0 rfl) rfl rfl (Nat.le_of_ble_eq_true rfl) (Nat.le_of_ble_eq_true rfl) (fun r14 => ?_)
        show K G (mi_X8_far 2) (e_X8_far m0 q) 48 [(0, .ref 0), (1, .int x1), (2, .int x2)] [.int r14] (w11 :: q) _
        refine K_sipush (v := 10000) dX8_far_48 (by decide) ?_
        refine K_icmp_ge 63 dX8_far_51 rfl (fun _ => ?_) (fun _ => ?_)
        · refine K_ldc (v := (-1000000)) dX8_far_63 cst_X8_104 ?_
          exact K_ret (rv := some (.int (-1000000))) dX8_far_65 rfl rfl rfl
        · refine K_aload_n 0 dX8_far_54 rfl ?_
          refine K_iload_n 1 dX8_far_55 rfl ?_
          refine K_iload_n 2 dX8_far_56 rfl ?_
          refine K_callV (E' := e_X8_farOf w11 q) (b := 0) (As := [.int x1, .int x2]) (rest := []) dX8_far_57 ml_X8_249 (mf_X8_farOf 1) mv_X8_farOf (fun hj r hr => c_X8_farOf hj w11 q x1 x2 hr) (rcv_obj (q := (RX8, TX8, 37)) kl_0 rfl) rfl rfl (Nat.le_of_ble_eq_true rfl) (Nat.le_of_ble_eq_true rfl) (fun r15 => ?_)
          show K G (mi_X8_far 2) (e_X8_far m0 q) 60 [(0, .ref 0), (1, .int x1), (2, .int x2)] [.int r15] (w11 :: q) _
          refine K_goto 65 dX8_far_60 rfl ?_
          exact K_ret (rv := some (.int r15)) dX8_far_65 rfl rfl rfl
      · refine K_ldc (v := (-1000001)) dX8_far_39 cst_X8_88 ?_
        exact K_ret (rv := some (.int (-1000001))) dX8_far_41 rfl rfl rfl
  · refine K_ldc (v := (-1000002)) dX8_far_12 cst_X8_240 ?_
    exact K_ret (rv := some (.int (-1000002))) dX8_far_14 rfl rfl rfl
theorem c_X8_far {G : GE} (hj : dj G) (m0 : Mem) (q : List Mem) (x1 : Int32) (x2 : Int32) {r : Int32 × Mem} (hr : f_X8_far m0 x1 x2 = some r) : Ctr G yX8_far (mi_X8_far 2) [.ref 0, .int x1, .int x2] (m0 :: q) ((e_X8_far m0 q) r).1 ((e_X8_far m0 q) r).2 := Ctr_of hj (by decide) rfl hr rfl (Nat.le_of_ble_eq_true rfl) (k_X8_far m0 q x1 x2)
abbrev e_X8_isMinute (Ms : List Mem) : Int32 → Option Value × List Mem := fun r => (some (.int r), Ms)
theorem k_X8_isMinute {G : GE} (Ms : List Mem) (x0 : Int32) : K G (mi_X8_isMinute 2) (e_X8_isMinute Ms) 0 [(0, .int x0)] [] Ms (f_X8_isMinute x0) := by
  unfold f_X8_isMinute
  refine K_iload_n 0 dX8_isMinute_0 rfl ?_
  refine K_i2l dX8_isMinute_1 ?_
  refine K_lconst (v := 0) dX8_isMinute_2 (by decide) ?_
  refine K_ldc2 (v := 600) dX8_isMinute_3 cst_X8_227 ?_
  refine K_callS (E' := e_X8_in Ms) (As := [.long x0.toInt64, .long 0, .long 600]) (rest := []) dX8_isMinute_6 ml_X8_78 (mf_X8_in 1) ms_X8_in (fun hj r hr => c_X8_in hj Ms x0.toInt64 (0 : Int64) (600 : Int64) hr) rfl rfl (Nat.le_of_ble_eq_true rfl) (Nat.le_of_ble_eq_true rfl) (fun r11 => ?_)
  show K G (mi_X8_isMinute 2) (e_X8_isMinute Ms) 9 [(0, .int x0)] [.int r11] Ms _
  exact K_retB dX8_isMinute_9 rfl rfl
theorem c_X8_isMinute {G : GE} (hj : dj G) (Ms : List Mem) (x0 : Int32) {r : Int32} (hr : f_X8_isMinute x0 = some r) : Ctr G yX8_isMinute (mi_X8_isMinute 2) [.int x0] Ms ((e_X8_isMinute Ms) r).1 ((e_X8_isMinute Ms) r).2 := Ctr_of hj (by decide) rfl hr rfl (Nat.le_of_ble_eq_true rfl) (k_X8_isMinute Ms x0)
abbrev e_X8_drunk (m0 : Mem) (q : List Mem) : Int32 → Option Value × List Mem := fun r => (some (.int r), (m0 :: q))
theorem k_X8_drunk {G : GE} (m0 : Mem) (q : List Mem) (x1 : Int32) (x2 : Int32) : K G (mi_X8_drunk 1) (e_X8_drunk m0 q) 0 [(0, .ref 0), (1, .int x1), (2, .int x2)] [] (m0 :: q) (f_X8_drunk m0 x1 x2) := by
  unfold f_X8_drunk
  refine K_bipush (v := 10) dX8_drunk_0 (by decide) ?_
  refine K_iload_n 1 dX8_drunk_2 rfl ?_
  refine K_imul dX8_drunk_3 ?_
  refine K_aload_n 0 dX8_drunk_4 rfl ?_
  refine K_get (v := .ref 6) dX8_drunk_5 fl_X8_19 kl_0 rfl rfl ?_
  refine K_iconst (v := 1) dX8_drunk_8 (by decide) ?_
  refine K_iald (f := m0 6) dX8_drunk_9 kl_6 rfl ?_
  refine K_iload_n 2 dX8_drunk_10 rfl ?_
  refine K_bipush (v := 60) dX8_drunk_11 (by decide) ?_
  refine K_idivC dX8_drunk_13 (by decide) ?_
  refine K_imul dX8_drunk_14 ?_
  refine K_isub dX8_drunk_15 ?_
  refine K_nmi (fun x11 => ?_)
  refine K_istore_n (lv' := [(3, .int x11), (0, .ref 0), (1, .int x1), (2, .int x2)]) dX8_drunk_16 (by decide) rfl ?_
  refine K_iload_n 0 dX8_drunk_17 rfl ?_
  refine K_if_ge 25 dX8_drunk_18 rfl (fun _ => ?_) (fun _ => ?_)
  · refine K_iload_n 0 dX8_drunk_25 rfl ?_
    exact K_ret (rv := some (.int x11)) dX8_drunk_26 rfl rfl rfl
  · refine K_iconst (v := 0) dX8_drunk_21 (by decide) ?_
    refine K_goto 26 dX8_drunk_22 rfl ?_
    exact K_ret (rv := some (.int 0)) dX8_drunk_26 rfl rfl rfl
theorem c_X8_drunk {G : GE} (hj : dj G) (m0 : Mem) (q : List Mem) (x1 : Int32) (x2 : Int32) {r : Int32} (hr : f_X8_drunk m0 x1 x2 = some r) : Ctr G yX8_drunk (mi_X8_drunk 1) [.ref 0, .int x1, .int x2] (m0 :: q) ((e_X8_drunk m0 q) r).1 ((e_X8_drunk m0 q) r).2 := Ctr_of hj (by decide) rfl hr rfl (Nat.le_of_ble_eq_true rfl) (k_X8_drunk m0 q x1 x2)
abbrev e_X8_mayDrive (m0 : Mem) (q : List Mem) : Int32 → Option Value × List Mem := fun r => (some (.int r), (m0 :: q))
theorem k_X8_mayDrive {G : GE} (m0 : Mem) (q : List Mem) (x1 : Int32) (x2 : Int32) (x3 : Int32) : K G (mi_X8_mayDrive 2) (e_X8_mayDrive m0 q) 0 [(0, .ref 0), (1, .int x1), (2, .int x2), (3, .int x3)] [] (m0 :: q) (f_X8_mayDrive m0 x1 x2 x3) := by
  unfold f_X8_mayDrive
  refine K_aload_n 0 dX8_mayDrive_0 rfl ?_
  refine K_iload_n 1 dX8_mayDrive_1 rfl ?_
  refine K_iconst (v := 0) dX8_mayDrive_2 (by decide) ?_
  refine K_callV (E' := e_X8_of m0 q) (b := 0) (As := [.int x1, .int 0]) (rest := []) dX8_mayDrive_3 ml_X8_237 (mf_X8_of 1) mv_X8_of (fun hj r hr => c_X8_of hj m0 q x1 (0 : Int32) hr) (rcv_obj (q := (RX8, TX8, 37)) kl_0 rfl) rfl rfl (Nat.le_of_ble_eq_true rfl) (Nat.le_of_ble_eq_true rfl) (fun r11 => ?_)
  show K G (mi_X8_mayDrive 2) (e_X8_mayDrive m0 q) 6 [(0, .ref 0), (1, .int x1), (2, .int x2), (3, .int x3)] [.int r11] (m0 :: q) _
  refine K_istore (lv' := [(4, .int r11), (0, .ref 0), (1, .int x1), (2, .int x2), (3, .int x3)]) dX8_mayDrive_6 (by decide) rfl ?_
  refine K_iload 0 dX8_mayDrive_8 rfl ?_
  refine K_iconst (v := 4) dX8_mayDrive_10 (by decide) ?_
  refine K_icmp_ge 43 dX8_mayDrive_11 rfl (fun _ => ?_) (fun _ => ?_)
  · refine K_iconst (v := 0) dX8_mayDrive_43 (by decide) ?_
    exact K_ret (rv := some (.int 0)) dX8_mayDrive_44 rfl rfl rfl
  · refine K_aload_n 1 dX8_mayDrive_14 rfl ?_
    refine K_iload_n 3 dX8_mayDrive_15 rfl ?_
    refine K_iload_n 4 dX8_mayDrive_16 rfl ?_
    refine K_callV (E' := e_X8_drunk m0 q) (b := 0) (As := [.int x2, .int x3]) (rest := []) dX8_mayDrive_17 ml_X8_252 (mf_X8_drunk 1) mv_X8_drunk (fun hj r hr => c_X8_drunk hj m0 q x2 x3 hr) (rcv_obj (q := (RX8, TX8, 37)) kl_0 rfl) rfl rfl (Nat.le_of_ble_eq_true rfl) (Nat.le_of_ble_eq_true rfl) (fun r12 => ?_)
    show K G (mi_X8_mayDrive 2) (e_X8_mayDrive m0 q) 20 [(4, .int r11), (0, .ref 0), (1, .int x1), (2, .int x2), (3, .int x3)] [.int r12] (m0 :: q) _
    refine K_aload_n 1 dX8_mayDrive_20 rfl ?_
    refine K_get (v := .ref 6) dX8_mayDrive_21 fl_X8_19 kl_0 rfl rfl ?_
    refine K_iconst (v := 0) dX8_mayDrive_24 (by decide) ?_
    refine K_iald (f := m0 6) dX8_mayDrive_25 kl_6 rfl ?_
    refine K_icmp_gt 43 dX8_mayDrive_26 rfl (fun _ => ?_) (fun _ => ?_)
    · refine K_iconst (v := 0) dX8_mayDrive_43 (by decide) ?_
      exact K_ret (rv := some (.int 0)) dX8_mayDrive_44 rfl rfl rfl
    · refine K_iload 0 dX8_mayDrive_29 rfl ?_
      refine K_iconst (v := 2) dX8_mayDrive_31 (by decide) ?_
      refine K_icmp_ne 39 dX8_mayDrive_32 rfl (fun _ => ?_) (fun _ => ?_)
      · refine K_iconst (v := 1) dX8_mayDrive_39 (by decide) ?_
        refine K_goto 44 dX8_mayDrive_40 rfl ?_
        exact K_ret (rv := some (.int 1)) dX8_mayDrive_44 rfl rfl rfl
      · refine K_iload_n 3 dX8_mayDrive_35 rfl ?_
        refine K_if_ne 43 dX8_mayDrive_36 rfl (fun _ => ?_) (fun _ => ?_)
        · refine K_iconst (v := 0) dX8_mayDrive_43 (by decide) ?_
          exact K_ret (rv := some (.int 0)) dX8_mayDrive_44 rfl rfl rfl
        · refine K_iconst (v := 1) dX8_mayDrive_39 (by decide) ?_
          refine K_goto 44 dX8_mayDrive_40 rfl ?_
          exact K_ret (rv := some (.int 1)) dX8_mayDrive_44 rfl rfl rfl
theorem c_X8_mayDrive {G : GE} (hj : dj G) (m0 : Mem) (q : List Mem) (x1 : Int32) (x2 : Int32) (x3 : Int32) {r : Int32} (hr : f_X8_mayDrive m0 x1 x2 x3 = some r) : Ctr G yX8_mayDrive (mi_X8_mayDrive 2) [.ref 0, .int x1, .int x2, .int x3] (m0 :: q) ((e_X8_mayDrive m0 q) r).1 ((e_X8_mayDrive m0 q) r).2 := Ctr_of hj (by decide) rfl hr rfl (Nat.le_of_ble_eq_true rfl) (k_X8_mayDrive m0 q x1 x2 x3)
abbrev e_X8_may (m0 : Mem) (q : List Mem) : (Int32 × Mem) → Option Value × List Mem := fun r => (some (.int r.1), (r.2 :: q))
theorem k_X8_may {G : GE} (m0 : Mem) (q : List Mem) (x1 : Int32) (x2 : Int32) (x3 : Int32) : K G (mi_X8_may 3) (e_X8_may m0 q) 0 [(0, .ref 0), (1, .int x1), (2, .int x2), (3, .int x3)] [] (m0 :: q) (f_X8_may m0 x1 x2 x3) := by
  unfold f_X8_may
  refine K_aload_n 0 dX8_may_0 rfl ?_
  refine K_iconst (v := 0) dX8_may_1 (by decide) ?_
  refine K_put (Ms' := ((up m0 0 0 0) :: q)) dX8_may_2 fp_X8_68 kl_0 rfl rfl rfl (Nat.succ_pos _) rfl ?_
  refine K_nmm (fun w => (w :: q)) rfl (fun w11 => ?_)
  refine K_aload_n 0 dX8_may_5 rfl ?_
  refine K_iload_n 1 dX8_may_6 rfl ?_
  refine K_callV (E' := e_X8_isPerson w11 q) (b := 0) (As := [.int x1]) (rest := []) dX8_may_7 ml_X8_232 (mf_X8_isPerson 2) mv_X8_isPerson (fun hj r hr => c_X8_isPerson hj w11 q x1 hr) (rcv_obj (q := (RX8, TX8, 37)) kl_0 rfl) rfl rfl (Nat.le_of_ble_eq_true rfl) (Nat.le_of_ble_eq_true rfl) (fun r12 => ?_)
  show K G (mi_X8_may 3) (e_X8_may m0 q) 10 [(0, .ref 0), (1, .int x1), (2, .int x2), (3, .int x3)] [.int r12] (w11 :: q) _
  refine K_if_eq 30 dX8_may_10 rfl (fun _ => ?_) (fun _ => ?_)
  · refine K_ldc (v := (-1000001)) dX8_may_30 cst_X8_88 ?_
    exact K_ret (rv := some (.int (-1000001))) dX8_may_32 rfl rfl rfl
  · refine K_iload_n 2 dX8_may_13 rfl ?_
    refine K_callS (E' := e_X8_isMinute (w11 :: q)) (As := [.int x2]) (rest := []) dX8_may_14 ml_X8_255 (mf_X8_isMinute 2) ms_X8_isMinute (fun hj r hr => c_X8_isMinute hj (w11 :: q) x2 hr) rfl rfl (Nat.le_of_ble_eq_true rfl) (Nat.le_of_ble_eq_true rfl) (fun r13 => ?_)
    show K G (mi_X8_may 3) (e_X8_may m0 q) 17 [(0, .ref 0), (1, .int x1), (2, .int x2), (3, .int x3)] [.int r13] (w11 :: q) _
    refine K_if_eq 30 dX8_may_17 rfl (fun _ => ?_) (fun _ => ?_)
    · refine K_ldc (v := (-1000001)) dX8_may_30 cst_X8_88 ?_
      exact K_ret (rv := some (.int (-1000001))) dX8_may_32 rfl rfl rfl
    · refine K_iload_n 3 dX8_may_20 rfl ?_
      refine K_i2l dX8_may_21 ?_
      refine K_lconst (v := 0) dX8_may_22 (by decide) ?_
      refine K_lconst (v := 1) dX8_may_23 (by decide) ?_
      refine K_callS (E' := e_X8_in (w11 :: q)) (As := [.long x3.toInt64, .long 0, .long 1]) (rest := []) dX8_may_24 ml_X8_78 (mf_X8_in 1) ms_X8_in (fun hj r hr => c_X8_in hj (w11 :: q) x3.toInt64 (0 : Int64) (1 : Int64) hr) rfl rfl (Nat.le_of_ble_eq_true rfl) (Nat.le_of_ble_eq_true rfl) (fun r14 => ?_)
      show K G (mi_X8_may 3) (e_X8_may m0 q) 27 [(0, .ref 0), (1, .int x1), (2, .int x2), (3, .int x3)] [.int r14] (w11 :: q) _
      refine K_if_ne 33 dX8_may_27 rfl (fun _ => ?_) (fun _ => ?_)
      · refine K_iload_n 3 dX8_may_33 rfl ?_
        refine K_if_ne 51 dX8_may_34 rfl (fun _ => ?_) (fun _ => ?_)
        · refine K_aload_n 0 dX8_may_51 rfl ?_
          refine K_iload_n 1 dX8_may_52 rfl ?_
          refine K_aload_n 0 dX8_may_53 rfl ?_
          refine K_iload_n 1 dX8_may_54 rfl ?_
          refine K_iconst (v := 2) dX8_may_55 (by decide) ?_
          refine K_callV (E' := e_X8_of w11 q) (b := 0) (As := [.int x1, .int 2]) (rest := [.int x1, .ref 0]) dX8_may_56 ml_X8_237 (mf_X8_of 1) mv_X8_of (fun hj r hr => c_X8_of hj w11 q x1 (2 : Int32) hr) (rcv_obj (q := (RX8, TX8, 37)) kl_0 rfl) rfl rfl (Nat.le_of_ble_eq_true rfl) (Nat.le_of_ble_eq_true rfl) (fun r15 => ?_)
          show K G (mi_X8_may 3) (e_X8_may m0 q) 59 [(0, .ref 0), (1, .int x1), (2, .int x2), (3, .int x3)] [.int r15, .int x1, .ref 0] (w11 :: q) _
          refine K_iload_n 2 dX8_may_59 rfl ?_
          refine K_callV (E' := e_X8_mayDrive w11 q) (b := 0) (As := [.int x1, .int r15, .int x2]) (rest := []) dX8_may_60 ml_X8_258 (mf_X8_mayDrive 2) mv_X8_mayDrive (fun hj r hr => c_X8_mayDrive hj w11 q x1 r15 x2 hr) (rcv_obj (q := (RX8, TX8, 37)) kl_0 rfl) rfl rfl (Nat.le_of_ble_eq_true rfl) (Nat.le_of_ble_eq_true rfl) (fun r16 => ?_)
          show K G (mi_X8_may 3) (e_X8_may m0 q) 63 [(0, .ref 0), (1, .int x1), (2, .int x2), (3, .int x3)] [.int r16] (w11 :: q) _
          refine K_if_eq 70 dX8_may_63 rfl (fun _ => ?_) (fun _ => ?_)
          · refine K_iconst (v := 0) dX8_may_70 (by decide) ?_
            exact K_ret (rv := some (.int 0)) dX8_may_71 rfl rfl rfl
          · refine K_iconst (v := 1) dX8_may_66 (by decide) ?_
            refine K_goto 71 dX8_may_67 rfl ?_
            exact K_ret (rv := some (.int 1)) dX8_may_71 rfl rfl rfl
        · refine K_aload_n 0 dX8_may_37 rfl ?_
          refine K_aload_n 0 dX8_may_38 rfl ?_
          refine K_iload_n 1 dX8_may_39 rfl ?_
          refine K_iconst (v := 2) dX8_may_40 (by decide) ?_
          refine K_callV (E' := e_X8_of w11 q) (b := 0) (As := [.int x1, .int 2]) (rest := [.ref 0]) dX8_may_41 ml_X8_237 (mf_X8_of 1) mv_X8_of (fun hj r hr => c_X8_of hj w11 q x1 (2 : Int32) hr) (rcv_obj (q := (RX8, TX8, 37)) kl_0 rfl) rfl rfl (Nat.le_of_ble_eq_true rfl) (Nat.le_of_ble_eq_true rfl) (fun r17 => ?_)
          show K G (mi_X8_may 3) (e_X8_may m0 q) 44 [(0, .ref 0), (1, .int x1), (2, .int x2), (3, .int x3)] [.int r17, .ref 0] (w11 :: q) _
          refine K_iload_n 2 dX8_may_44 rfl ?_
          refine K_callV (E' := e_X8_drunk w11 q) (b := 0) (As := [.int r17, .int x2]) (rest := []) dX8_may_45 ml_X8_252 (mf_X8_drunk 1) mv_X8_drunk (fun hj r hr => c_X8_drunk hj w11 q r17 x2 hr) (rcv_obj (q := (RX8, TX8, 37)) kl_0 rfl) rfl rfl (Nat.le_of_ble_eq_true rfl) (Nat.le_of_ble_eq_true rfl) (fun r18 => ?_)
          show K G (mi_X8_may 3) (e_X8_may m0 q) 48 [(0, .ref 0), (1, .int x1), (2, .int x2), (3, .int x3)] [.int r18] (w11 :: q) _
          refine K_goto 71 dX8_may_48 rfl ?_
          exact K_ret (rv := some (.int r18)) dX8_may_71 rfl rfl rfl
      · refine K_ldc (v := (-1000001)) dX8_may_30 cst_X8_88 ?_
        exact K_ret (rv := some (.int (-1000001))) dX8_may_32 rfl rfl rfl
theorem c_X8_may {G : GE} (hj : dj G) (m0 : Mem) (q : List Mem) (x1 : Int32) (x2 : Int32) (x3 : Int32) {r : Int32 × Mem} (hr : f_X8_may m0 x1 x2 x3 = some r) : Ctr G yX8_may (mi_X8_may 3) [.ref 0, .int x1, .int x2, .int x3] (m0 :: q) ((e_X8_may m0 q) r).1 ((e_X8_may m0 q) r).2 := Ctr_of hj (by decide) rfl hr rfl (Nat.le_of_ble_eq_true rfl) (k_X8_may m0 q x1 x2 x3)
abbrev e_X8_soon (m0 : Mem) (q : List Mem) : (Int32 × Mem) → Option Value × List Mem := fun r => (some (.int r.1), (r.2 :: q))
theorem k_X8_soon_L18 {G : GE} (m0 : Mem) (q : List Mem) (x1 : Int32) (w11 : Mem) (k : Int32 → Option (Int32 × Mem)) (hk : ∀ (u13 : Int32), K G (mi_X8_soon 3) (e_X8_soon m0 q) 48 [(0, .ref 0), (1, .int x1), (2, .int u13)] [] (w11 :: q) (k u13)) : ∀ (t : Nat) (u13 : Int32), K G (mi_X8_soon 3) (e_X8_soon m0 q) 18 [(0, .ref 0), (1, .int x1), (2, .int u13)] [] (w11 :: q) (f_X8_soon_L18 k x1 w11 t u13) := by
  intro t
  induction t with
  | zero => intro u13; exact K_none
  | succ t ih =>
    intro u13
    rw [f_X8_soon_L18]
    refine K_iload_n 2 dX8_soon_18 rfl ?_
    refine K_sipush (v := 600) dX8_soon_19 (by decide) ?_
    refine K_icmp_gt 48 dX8_soon_22 rfl (fun _ => ?_) (fun _ => ?_)
    · refine K_loc [0, 1, 2] (lv' := [(0, .ref 0), (1, .int x1), (2, .int u13)]) rfl ?_
      exact hk u13
    · refine K_aload_n 0 dX8_soon_25 rfl ?_
      refine K_iload_n 1 dX8_soon_26 rfl ?_
      refine K_aload_n 0 dX8_soon_27 rfl ?_
      refine K_iload_n 1 dX8_soon_28 rfl ?_
      refine K_iconst (v := 2) dX8_soon_29 (by decide) ?_
      refine K_callV (E' := e_X8_of w11 q) (b := 0) (As := [.int x1, .int 2]) (rest := [.int x1, .ref 0]) dX8_soon_30 ml_X8_237 (mf_X8_of 1) mv_X8_of (fun hj r hr => c_X8_of hj w11 q x1 (2 : Int32) hr) (rcv_obj (q := (RX8, TX8, 37)) kl_0 rfl) rfl rfl (Nat.le_of_ble_eq_true rfl) (Nat.le_of_ble_eq_true rfl) (fun r14 => ?_)
      show K G (mi_X8_soon 3) (e_X8_soon m0 q) 33 [(0, .ref 0), (1, .int x1), (2, .int u13)] [.int r14, .int x1, .ref 0] (w11 :: q) _
      refine K_iload_n 2 dX8_soon_33 rfl ?_
      refine K_callV (E' := e_X8_mayDrive w11 q) (b := 0) (As := [.int x1, .int r14, .int u13]) (rest := []) dX8_soon_34 ml_X8_258 (mf_X8_mayDrive 2) mv_X8_mayDrive (fun hj r hr => c_X8_mayDrive hj w11 q x1 r14 u13 hr) (rcv_obj (q := (RX8, TX8, 37)) kl_0 rfl) rfl rfl (Nat.le_of_ble_eq_true rfl) (Nat.le_of_ble_eq_true rfl) (fun r15 => ?_)
      show K G (mi_X8_soon 3) (e_X8_soon m0 q) 37 [(0, .ref 0), (1, .int x1), (2, .int u13)] [.int r15] (w11 :: q) _
      refine K_if_eq 42 dX8_soon_37 rfl (fun _ => ?_) (fun _ => ?_)
      · refine K_iinc 2 (w := u13 + 1) (lv' := [(2, .int (u13 + 1)), (0, .ref 0), (1, .int x1)]) dX8_soon_42 rfl rfl (by decide) rfl ?_
        refine K_goto 18 dX8_soon_45 rfl ?_
        refine K_loc [1, 2, 0] (lv' := [(0, .ref 0), (1, .int x1), (2, .int (u13 + 1))]) rfl ?_
        exact ih (u13 + 1)
      · refine K_iload_n 2 dX8_soon_40 rfl ?_
        exact K_ret (rv := some (.int u13)) dX8_soon_41 rfl rfl rfl
theorem k_X8_soon {G : GE} (m0 : Mem) (q : List Mem) (x1 : Int32) : K G (mi_X8_soon 3) (e_X8_soon m0 q) 0 [(0, .ref 0), (1, .int x1)] [] (m0 :: q) (f_X8_soon m0 x1) := by
  unfold f_X8_soon
  refine K_aload_n 0 dX8_soon_0 rfl ?_
  refine K_iconst (v := 0) dX8_soon_1 (by decide) ?_
  refine K_put (Ms' := ((up m0 0 0 0) :: q)) dX8_soon_2 fp_X8_68 kl_0 rfl rfl rfl (Nat.succ_pos _) rfl ?_
  refine K_nmm (fun w => (w :: q)) rfl (fun w11 => ?_)
  refine K_aload_n 0 dX8_soon_5 rfl ?_
  refine K_iload_n 1 dX8_soon_6 rfl ?_
  refine K_callV (E' := e_X8_isPerson w11 q) (b := 0) (As := [.int x1]) (rest := []) dX8_soon_7 ml_X8_232 (mf_X8_isPerson 2) mv_X8_isPerson (fun hj r hr => c_X8_isPerson hj w11 q x1 hr) (rcv_obj (q := (RX8, TX8, 37)) kl_0 rfl) rfl rfl (Nat.le_of_ble_eq_true rfl) (Nat.le_of_ble_eq_true rfl) (fun r12 => ?_)
  show K G (mi_X8_soon 3) (e_X8_soon m0 q) 10 [(0, .ref 0), (1, .int x1)] [.int r12] (w11 :: q) _
  refine K_if_ne 16 dX8_soon_10 rfl (fun _ => ?_) (fun _ => ?_)
  · refine K_iconst (v := 0) dX8_soon_16 (by decide) ?_
    refine K_istore_n (lv' := [(2, .int 0), (0, .ref 0), (1, .int x1)]) dX8_soon_17 (by decide) rfl ?_
    refine K_loc [1, 2, 0] (lv' := [(0, .ref 0), (1, .int x1), (2, .int 0)]) rfl ?_
    refine k_X8_soon_L18  m0 q x1 w11 _ (fun u16 => ?_) 100000 0
    refine K_ldc (v := (-1000000)) dX8_soon_48 cst_X8_104 ?_
    exact K_ret (rv := some (.int (-1000000))) dX8_soon_50 rfl rfl rfl
  · refine K_ldc (v := (-1000001)) dX8_soon_13 cst_X8_88 ?_
    exact K_ret (rv := some (.int (-1000001))) dX8_soon_15 rfl rfl rfl
theorem c_X8_soon {G : GE} (hj : dj G) (m0 : Mem) (q : List Mem) (x1 : Int32) {r : Int32 × Mem} (hr : f_X8_soon m0 x1 = some r) : Ctr G yX8_soon (mi_X8_soon 3) [.ref 0, .int x1] (m0 :: q) ((e_X8_soon m0 q) r).1 ((e_X8_soon m0 q) r).2 := Ctr_of hj (by decide) rfl hr rfl (Nat.le_of_ble_eq_true rfl) (k_X8_soon m0 q x1)
abbrev e_X8_divisor (Ms : List Mem) : Int32 → Option Value × List Mem := fun r => (some (.int r), Ms)
theorem k_X8_divisor_L4 {G : GE} (Ms : List Mem) (k : Int32 → Int32 → Option (Int32)) (hk : ∀ (u11 : Int32) (u12 : Int32), K G (mi_X8_divisor 1) (e_X8_divisor Ms) 21 [(2, .int u11), (3, .int u12)] [] Ms (k u11 u12)) : ∀ (t : Nat) (u11 : Int32) (u12 : Int32), K G (mi_X8_divisor 1) (e_X8_divisor Ms) 4 [(2, .int u11), (3, .int u12)] [] Ms (f_X8_divisor_L4 k t u11 u12) := by
  intro t
  induction t with
  | zero => intro u11 u12; exact K_none
  | succ t ih =>
    intro u11 u12
    rw [f_X8_divisor_L4]
    refine K_iload_n 1 dX8_divisor_4 rfl ?_
    refine K_if_eq 21 dX8_divisor_5 rfl (fun _ => ?_) (fun _ => ?_)
    · refine K_loc [0, 1] (lv' := [(2, .int u11), (3, .int u12)]) rfl ?_
      exact hk u11 u12
    · refine K_iload_n 0 dX8_divisor_8 rfl ?_
      refine K_iload_n 1 dX8_divisor_9 rfl ?_
      refine K_irem dX8_divisor_10 ?_
      refine K_nmi (fun x13 => ?_)
      refine K_istore (lv' := [(4, .int x13), (2, .int u11), (3, .int u12)]) dX8_divisor_11 (by decide) rfl ?_
      refine K_iload_n 2 dX8_divisor_13 rfl ?_
      refine K_istore_n (lv' := [(2, .int u12), (4, .int x13), (3, .int u12)]) dX8_divisor_14 (by decide) rfl ?_
      refine K_iload 1 dX8_divisor_15 rfl ?_
      refine K_istore_n (lv' := [(3, .int x13), (2, .int u12), (4, .int x13)]) dX8_divisor_17 (by decide) rfl ?_
      refine K_goto 4 dX8_divisor_18 rfl ?_
      refine K_loc [1, 0] (lv' := [(2, .int u12), (3, .int x13)]) rfl ?_
      exact ih u12 x13
theorem k_X8_divisor {G : GE} (Ms : List Mem) (x0 : Int32) (x1 : Int32) : K G (mi_X8_divisor 1) (e_X8_divisor Ms) 0 [(0, .int x0), (1, .int x1)] [] Ms (f_X8_divisor x0 x1) := by
  unfold f_X8_divisor
  refine K_iload_n 0 dX8_divisor_0 rfl ?_
  refine K_istore_n (lv' := [(2, .int x0), (0, .int x0), (1, .int x1)]) dX8_divisor_1 (by decide) rfl ?_
  refine K_iload_n 2 dX8_divisor_2 rfl ?_
  refine K_istore_n (lv' := [(3, .int x1), (2, .int x0), (0, .int x0), (1, .int x1)]) dX8_divisor_3 (by decide) rfl ?_
  refine K_loc [1, 0] (lv' := [(2, .int x0), (3, .int x1)]) rfl ?_
  refine k_X8_divisor_L4  Ms  _ (fun u14 u15 => ?_) 100000 x0 x1
  refine K_iload_n 0 dX8_divisor_21 rfl ?_
  exact K_ret (rv := some (.int u14)) dX8_divisor_22 rfl rfl rfl
theorem c_X8_divisor {G : GE} (hj : dj G) (Ms : List Mem) (x0 : Int32) (x1 : Int32) {r : Int32} (hr : f_X8_divisor x0 x1 = some r) : Ctr G yX8_divisor (mi_X8_divisor 1) [.int x0, .int x1] Ms ((e_X8_divisor Ms) r).1 ((e_X8_divisor Ms) r).2 := Ctr_of hj (by decide) rfl hr rfl (Nat.le_of_ble_eq_true rfl) (k_X8_divisor Ms x0 x1)
abbrev e_X8_odds (m0 : Mem) (q : List Mem) : (Int32 × Mem) → Option Value × List Mem := fun r => (some (.int r.1), (r.2 :: q))
theorem k_X8_odds_L52 {G : GE} (m0 : Mem) (q : List Mem) (x1 : Int32) (x2 : Int32) (x3 : Int32) (w11 : Mem) (x4 : Int32) (k : Int32 → Int32 → Option (Int32 × Mem)) (hk : ∀ (u16 : Int32) (u17 : Int32), K G (mi_X8_odds 3) (e_X8_odds m0 q) 92 [(0, .ref 0), (1, .int x1), (2, .int x2), (3, .int x3), (4, .int x4), (5, .int u16), (6, .int u17)] [] (w11 :: q) (k u16 u17)) : ∀ (t : Nat) (u16 : Int32) (u17 : Int32), K G (mi_X8_odds 3) (e_X8_odds m0 q) 52 [(0, .ref 0), (1, .int x1), (2, .int x2), (3, .int x3), (4, .int x4), (5, .int u16), (6, .int u17)] [] (w11 :: q) (f_X8_odds_L52 k x1 x2 x3 w11 t u16 u17) := by
  intro t
  induction t with
  | zero => intro u16 u17; exact K_none
  | succ t ih =>
    intro u16 u17
    rw [f_X8_odds_L52]
    refine K_iload 6 dX8_odds_52 rfl ?_
    refine K_iload_n 3 dX8_odds_54 rfl ?_
    refine K_icmp_gt 92 dX8_odds_55 rfl (fun _ => ?_) (fun _ => ?_)
    · refine K_loc [0, 1, 2, 3, 4, 5, 6] (lv' := [(0, .ref 0), (1, .int x1), (2, .int x2), (3, .int x3), (4, .int x4), (5, .int u16), (6, .int u17)]) rfl ?_
      exact hk u16 u17
    · refine K_iload 5 dX8_odds_58 rfl ?_
      refine K_aload_n 0 dX8_odds_60 rfl ?_
      refine K_iload_n 1 dX8_odds_61 rfl ?_
      refine K_aload_n 0 dX8_odds_62 rfl ?_
      refine K_iload_n 1 dX8_odds_63 rfl ?_
      refine K_iconst (v := 2) dX8_odds_64 (by decide) ?_
      refine K_callV (E' := e_X8_of w11 q) (b := 0) (As := [.int x1, .int 2]) (rest := [.int x1, .ref 0, .int u16]) dX8_odds_65 ml_X8_237 (mf_X8_of 1) mv_X8_of (fun hj r hr => c_X8_of hj w11 q x1 (2 : Int32) hr) (rcv_obj (q := (RX8, TX8, 37)) kl_0 rfl) rfl rfl (Nat.le_of_ble_eq_true rfl) (Nat.le_of_ble_eq_true rfl) (fun r18 => ?_)
      show K G (mi_X8_odds 3) (e_X8_odds m0 q) 68 [(0, .ref 0), (1, .int x1), (2, .int x2), (3, .int x3), (4, .int x4), (5, .int u16), (6, .int u17)] [.int r18, .int x1, .ref 0, .int u16] (w11 :: q) _
      refine K_iload 6 dX8_odds_68 rfl ?_
      refine K_iadd dX8_odds_70 ?_
      refine K_iload_n 2 dX8_odds_71 rfl ?_
      refine K_callV (E' := e_X8_mayDrive w11 q) (b := 0) (As := [.int x1, .int (r18 + u17), .int x2]) (rest := [.int u16]) dX8_odds_72 ml_X8_258 (mf_X8_mayDrive 2) mv_X8_mayDrive (fun hj r hr => c_X8_mayDrive hj w11 q x1 (r18 + u17) x2 hr) (rcv_obj (q := (RX8, TX8, 37)) kl_0 rfl) rfl rfl (Nat.le_of_ble_eq_true rfl) (Nat.le_of_ble_eq_true rfl) (fun r19 => ?_)
      show K G (mi_X8_odds 3) (e_X8_odds m0 q) 75 [(0, .ref 0), (1, .int x1), (2, .int x2), (3, .int x3), (4, .int x4), (5, .int u16), (6, .int u17)] [.int r19, .int u16] (w11 :: q) _
      refine K_if_eq 82 dX8_odds_75 rfl (fun _ => ?_) (fun _ => ?_)
      · refine K_iconst (v := 0) dX8_odds_82 (by decide) ?_
        refine K_iadd dX8_odds_83 ?_
        refine K_nmi (fun x20 => ?_)
        refine K_istore (lv' := [(5, .int x20), (0, .ref 0), (1, .int x1), (2, .int x2), (3, .int x3), (4, .int x4), (6, .int u17)]) dX8_odds_84 (by decide) rfl ?_
        refine K_iinc 6 (w := u17 + 1) (lv' := [(6, .int (u17 + 1)), (5, .int x20), (0, .ref 0), (1, .int x1), (2, .int x2), (3, .int x3), (4, .int x4)]) dX8_odds_86 rfl rfl (by decide) rfl ?_
        refine K_goto 52 dX8_odds_89 rfl ?_
        refine K_loc [2, 3, 4, 5, 6, 1, 0] (lv' := [(0, .ref 0), (1, .int x1), (2, .int x2), (3, .int x3), (4, .int x4), (5, .int x20), (6, .int (u17 + 1))]) rfl ?_
        exact ih x20 (u17 + 1)
      · refine K_iconst (v := 1) dX8_odds_78 (by decide) ?_
        refine K_goto 83 dX8_odds_79 rfl ?_
        refine K_iadd dX8_odds_83 ?_
        refine K_nmi (fun x21 => ?_)
        refine K_istore (lv' := [(5, .int x21), (0, .ref 0), (1, .int x1), (2, .int x2), (3, .int x3), (4, .int x4), (6, .int u17)]) dX8_odds_84 (by decide) rfl ?_
        refine K_iinc 6 (w := u17 + 1) (lv' := [(6, .int (u17 + 1)), (5, .int x21), (0, .ref 0), (1, .int x1), (2, .int x2), (3, .int x3), (4, .int x4)]) dX8_odds_86 rfl rfl (by decide) rfl ?_
        refine K_goto 52 dX8_odds_89 rfl ?_
        refine K_loc [2, 3, 4, 5, 6, 1, 0] (lv' := [(0, .ref 0), (1, .int x1), (2, .int x2), (3, .int x3), (4, .int x4), (5, .int x21), (6, .int (u17 + 1))]) rfl ?_
        exact ih x21 (u17 + 1)
theorem k_X8_odds {G : GE} (m0 : Mem) (q : List Mem) (x1 : Int32) (x2 : Int32) (x3 : Int32) (x4 : Int32) : K G (mi_X8_odds 3) (e_X8_odds m0 q) 0 [(0, .ref 0), (1, .int x1), (2, .int x2), (3, .int x3), (4, .int x4)] [] (m0 :: q) (f_X8_odds m0 x1 x2 x3 x4) := by
  unfold f_X8_odds
  refine K_aload_n 0 dX8_odds_0 rfl ?_
  refine K_iconst (v := 0) dX8_odds_1 (by decide) ?_
  refine K_put (Ms' := ((up m0 0 0 0) :: q)) dX8_odds_2 fp_X8_68 kl_0 rfl rfl rfl (Nat.succ_pos _) rfl ?_
  refine K_nmm (fun w => (w :: q)) rfl (fun w11 => ?_)
  refine K_aload_n 0 dX8_odds_5 rfl ?_
  refine K_iload_n 1 dX8_odds_6 rfl ?_
  refine K_callV (E' := e_X8_isPerson w11 q) (b := 0) (As := [.int x1]) (rest := []) dX8_odds_7 ml_X8_232 (mf_X8_isPerson 2) mv_X8_isPerson (fun hj r hr => c_X8_isPerson hj w11 q x1 hr) (rcv_obj (q := (RX8, TX8, 37)) kl_0 rfl) rfl rfl (Nat.le_of_ble_eq_true rfl) (Nat.le_of_ble_eq_true rfl) (fun r12 => ?_)
  show K G (mi_X8_odds 3) (e_X8_odds m0 q) 10 [(0, .ref 0), (1, .int x1), (2, .int x2), (3, .int x3), (4, .int x4)] [.int r12] (w11 :: q) _
  refine K_if_eq 43 dX8_odds_10 rfl (fun _ => ?_) (fun _ => ?_)
  · refine K_ldc (v := (-1000001)) dX8_odds_43 cst_X8_88 ?_
    exact K_ret (rv := some (.int (-1000001))) dX8_odds_45 rfl rfl rfl
  · refine K_iload_n 2 dX8_odds_13 rfl ?_
    refine K_callS (E' := e_X8_isMinute (w11 :: q)) (As := [.int x2]) (rest := []) dX8_odds_14 ml_X8_255 (mf_X8_isMinute 2) ms_X8_isMinute (fun hj r hr => c_X8_isMinute hj (w11 :: q) x2 hr) rfl rfl (Nat.le_of_ble_eq_true rfl) (Nat.le_of_ble_eq_true rfl) (fun r13 => ?_)
    show K G (mi_X8_odds 3) (e_X8_odds m0 q) 17 [(0, .ref 0), (1, .int x1), (2, .int x2), (3, .int x3), (4, .int x4)] [.int r13] (w11 :: q) _
    refine K_if_eq 43 dX8_odds_17 rfl (fun _ => ?_) (fun _ => ?_)
    · refine K_ldc (v := (-1000001)) dX8_odds_43 cst_X8_88 ?_
      exact K_ret (rv := some (.int (-1000001))) dX8_odds_45 rfl rfl rfl
    · refine K_iload_n 3 dX8_odds_20 rfl ?_
      refine K_i2l dX8_odds_21 ?_
      refine K_lconst (v := 0) dX8_odds_22 (by decide) ?_
      refine K_ldc2 (v := 9) dX8_odds_23 cst_X8_235 ?_
      refine K_callS (E' := e_X8_in (w11 :: q)) (As := [.long x3.toInt64, .long 0, .long 9]) (rest := []) dX8_odds_26 ml_X8_78 (mf_X8_in 1) ms_X8_in (fun hj r hr => c_X8_in hj (w11 :: q) x3.toInt64 (0 : Int64) (9 : Int64) hr) rfl rfl (Nat.le_of_ble_eq_true rfl) (Nat.le_of_ble_eq_true rfl) (fun r14 => ?_)
      show K G (mi_X8_odds 3) (e_X8_odds m0 q) 29 [(0, .ref 0), (1, .int x1), (2, .int x2), (3, .int x3), (4, .int x4)] [.int r14] (w11 :: q) _
      refine K_if_eq 43 dX8_odds_29 rfl (fun _ => ?_) (fun _ => ?_)
      · refine K_ldc (v := (-1000001)) dX8_odds_43 cst_X8_88 ?_
        exact K_ret (rv := some (.int (-1000001))) dX8_odds_45 rfl rfl rfl
      · refine K_iload 4 dX8_odds_32 rfl ?_
        refine K_i2l dX8_odds_34 ?_
        refine K_lconst (v := 0) dX8_odds_35 (by decide) ?_
        refine K_lconst (v := 1) dX8_odds_36 (by decide) ?_
        refine K_callS (E' := e_X8_in (w11 :: q)) (As := [.long x4.toInt64, .long 0, .long 1]) (rest := []) dX8_odds_37 ml_X8_78 (mf_X8_in 1) ms_X8_in (fun hj r hr => c_X8_in hj (w11 :: q) x4.toInt64 (0 : Int64) (1 : Int64) hr) rfl rfl (Nat.le_of_ble_eq_true rfl) (Nat.le_of_ble_eq_true rfl) (fun r15 => ?_)
        show K G (mi_X8_odds 3) (e_X8_odds m0 q) 40 [(0, .ref 0), (1, .int x1), (2, .int x2), (3, .int x3), (4, .int x4)] [.int r15] (w11 :: q) _
        refine K_if_ne 46 dX8_odds_40 rfl (fun _ => ?_) (fun _ => ?_)
        · refine K_iconst (v := 0) dX8_odds_46 (by decide) ?_
          refine K_istore (lv' := [(5, .int 0), (0, .ref 0), (1, .int x1), (2, .int x2), (3, .int x3), (4, .int x4)]) dX8_odds_47 (by decide) rfl ?_
          refine K_iconst (v := 0) dX8_odds_49 (by decide) ?_
          refine K_istore (lv' := [(6, .int 0), (5, .int 0), (0, .ref 0), (1, .int x1), (2, .int x2), (3, .int x3), (4, .int x4)]) dX8_odds_50 (by decide) rfl ?_
          refine K_loc [2, 3, 4, 5, 6, 1, 0] (lv' := [(0, .ref 0), (1, .int x1), (2, .int x2), (3, .int x3), (4, .int x4), (5, .int 0), (6, .int 0)]) rfl ?_
          refine k_X8_odds_L52  m0 q x1 x2 x3 w11 x4 _ (fun u22 u23 => ?_) 100000 0 0
          refine K_iload 4 dX8_odds_92 rfl ?_
          refine K_pick (fun j25 => (if x4 = 0 then (j25 u22) else (j25 (x3 + 1)))) (fun j25 => ∀ a24 : Int32, K G (mi_X8_odds 3) (e_X8_odds m0 q) 105 [(3, .int x3), (5, .int u22)] [.int a24] (w11 :: q) (j25 a24)) (fun j25 => by simp only [apply_ite j25]) (fun a24 => ?_) (fun j25 hj25 => ?_)
          · refine K_iload 1 dX8_odds_105 rfl ?_
            refine K_iload_n 0 dX8_odds_107 rfl ?_
            refine K_iconst (v := 1) dX8_odds_108 (by decide) ?_
            refine K_iadd dX8_odds_109 ?_
            refine K_callS (E' := e_X8_divisor (w11 :: q)) (As := [.int u22, .int (x3 + 1)]) (rest := [.int a24]) dX8_odds_110 ml_X8_262 (mf_X8_divisor 1) ms_X8_divisor (fun hj r hr => c_X8_divisor hj (w11 :: q) u22 (x3 + 1) hr) rfl rfl (Nat.le_of_ble_eq_true rfl) (Nat.le_of_ble_eq_true rfl) (fun r26 => ?_)
            show K G (mi_X8_odds 3) (e_X8_odds m0 q) 113 [(3, .int x3), (5, .int u22)] [.int r26, .int a24] (w11 :: q) _
            refine K_idiv dX8_odds_113 ?_
            exact K_ret (rv := some (.int (a24 / r26))) dX8_odds_114 rfl rfl rfl
          · refine K_if_ne 102 dX8_odds_94 rfl (fun _ => ?_) (fun _ => ?_)
            · refine K_iload_n 3 dX8_odds_102 rfl ?_
              refine K_iconst (v := 1) dX8_odds_103 (by decide) ?_
              refine K_iadd dX8_odds_104 ?_
              refine K_loc [3, 5] (lv' := [(3, .int x3), (5, .int u22)]) rfl ?_
              exact hj25 (x3 + 1)
            · refine K_iload 5 dX8_odds_97 rfl ?_
              refine K_goto 105 dX8_odds_99 rfl ?_
              refine K_loc [3, 5] (lv' := [(3, .int x3), (5, .int u22)]) rfl ?_
              exact hj25 u22
        · refine K_ldc (v := (-1000001)) dX8_odds_43 cst_X8_88 ?_
          exact K_ret (rv := some (.int (-1000001))) dX8_odds_45 rfl rfl rfl
theorem c_X8_odds {G : GE} (hj : dj G) (m0 : Mem) (q : List Mem) (x1 : Int32) (x2 : Int32) (x3 : Int32) (x4 : Int32) {r : Int32 × Mem} (hr : f_X8_odds m0 x1 x2 x3 x4 = some r) : Ctr G yX8_odds (mi_X8_odds 3) [.ref 0, .int x1, .int x2, .int x3, .int x4] (m0 :: q) ((e_X8_odds m0 q) r).1 ((e_X8_odds m0 q) r).2 := Ctr_of hj (by decide) rfl hr rfl (Nat.le_of_ble_eq_true rfl) (k_X8_odds m0 q x1 x2 x3 x4)
abbrev e_X8_isOnHill (m0 : Mem) (q : List Mem) : Int32 → Option Value × List Mem := fun r => (some (.int r), (m0 :: q))
theorem k_X8_isOnHill {G : GE} (m0 : Mem) (q : List Mem) (x1 : Int32) : K G (mi_X8_isOnHill 2) (e_X8_isOnHill m0 q) 0 [(0, .ref 0), (1, .int x1)] [] (m0 :: q) (f_X8_isOnHill m0 x1) := by
  unfold f_X8_isOnHill
  refine K_aload_n 0 dX8_isOnHill_0 rfl ?_
  refine K_get (v := .ref 6) dX8_isOnHill_1 fl_X8_19 kl_0 rfl rfl ?_
  refine K_bipush (v := 7) dX8_isOnHill_4 (by decide) ?_
  refine K_iald (f := m0 6) dX8_isOnHill_6 kl_6 rfl ?_
  refine K_aload_n 0 dX8_isOnHill_7 rfl ?_
  refine K_iload_n 1 dX8_isOnHill_8 rfl ?_
  refine K_iconst (v := 1) dX8_isOnHill_9 (by decide) ?_
  refine K_callV (E' := e_X8_of m0 q) (b := 0) (As := [.int x1, .int 1]) (rest := [.int (m0 6 (7 : Int32).toNatClampNeg)]) dX8_isOnHill_10 ml_X8_237 (mf_X8_of 1) mv_X8_of (fun hj r hr => c_X8_of hj m0 q x1 (1 : Int32) hr) (rcv_obj (q := (RX8, TX8, 37)) kl_0 rfl) rfl rfl (Nat.le_of_ble_eq_true rfl) (Nat.le_of_ble_eq_true rfl) (fun r11 => ?_)
  show K G (mi_X8_isOnHill 2) (e_X8_isOnHill m0 q) 13 [(0, .ref 0), (1, .int x1)] [.int r11, .int (m0 6 (7 : Int32).toNatClampNeg)] (m0 :: q) _
  refine K_ishr dX8_isOnHill_13 ?_
  refine K_iconst (v := 1) dX8_isOnHill_14 (by decide) ?_
  refine K_iand dX8_isOnHill_15 ?_
  refine K_iconst (v := 1) dX8_isOnHill_16 (by decide) ?_
  refine K_icmp_ne 24 dX8_isOnHill_17 rfl (fun _ => ?_) (fun _ => ?_)
  · refine K_iconst (v := 0) dX8_isOnHill_24 (by decide) ?_
    exact K_ret (rv := some (.int 0)) dX8_isOnHill_25 rfl rfl rfl
  · refine K_iconst (v := 1) dX8_isOnHill_20 (by decide) ?_
    refine K_goto 25 dX8_isOnHill_21 rfl ?_
    exact K_ret (rv := some (.int 1)) dX8_isOnHill_25 rfl rfl rfl
theorem c_X8_isOnHill {G : GE} (hj : dj G) (m0 : Mem) (q : List Mem) (x1 : Int32) {r : Int32} (hr : f_X8_isOnHill m0 x1 = some r) : Ctr G yX8_isOnHill (mi_X8_isOnHill 2) [.ref 0, .int x1] (m0 :: q) ((e_X8_isOnHill m0 q) r).1 ((e_X8_isOnHill m0 q) r).2 := Ctr_of hj (by decide) rfl hr rfl (Nat.le_of_ble_eq_true rfl) (k_X8_isOnHill m0 q x1)
abbrev e_X8_doesGo (m0 : Mem) (q : List Mem) : Int32 → Option Value × List Mem := fun r => (some (.int r), (m0 :: q))
theorem k_X8_doesGo {G : GE} (m0 : Mem) (q : List Mem) (x1 : Int32) (x2 : Int32) : K G (mi_X8_doesGo 3) (e_X8_doesGo m0 q) 0 [(0, .ref 0), (1, .int x1), (2, .int x2)] [] (m0 :: q) (f_X8_doesGo m0 x1 x2) := by
  unfold f_X8_doesGo
  refine K_aload_n 0 dX8_doesGo_0 rfl ?_
  refine K_iload_n 1 dX8_doesGo_1 rfl ?_
  refine K_iconst (v := 0) dX8_doesGo_2 (by decide) ?_
  refine K_callV (E' := e_X8_car0 m0 q) (b := 0) (As := [.int x1, .int 0]) (rest := []) dX8_doesGo_3 ml_X8_229 (mf_X8_car0 1) mv_X8_car0 (fun hj r hr => c_X8_car0 hj m0 q x1 (0 : Int32) hr) (rcv_obj (q := (RX8, TX8, 37)) kl_0 rfl) rfl rfl (Nat.le_of_ble_eq_true rfl) (Nat.le_of_ble_eq_true rfl) (fun r11 => ?_)
  show K G (mi_X8_doesGo 3) (e_X8_doesGo m0 q) 6 [(0, .ref 0), (1, .int x1), (2, .int x2)] [.int r11] (m0 :: q) _
  refine K_istore_n (lv' := [(3, .int r11), (0, .ref 0), (1, .int x1), (2, .int x2)]) dX8_doesGo_6 (by decide) rfl ?_
  refine K_aload_n 1 dX8_doesGo_7 rfl ?_
  refine K_iload_n 0 dX8_doesGo_8 rfl ?_
  refine K_aload_n 1 dX8_doesGo_9 rfl ?_
  refine K_iload_n 0 dX8_doesGo_10 rfl ?_
  refine K_iconst (v := 2) dX8_doesGo_11 (by decide) ?_
  refine K_callV (E' := e_X8_of m0 q) (b := 0) (As := [.int r11, .int 2]) (rest := [.int r11, .ref 0]) dX8_doesGo_12 ml_X8_237 (mf_X8_of 1) mv_X8_of (fun hj r hr => c_X8_of hj m0 q r11 (2 : Int32) hr) (rcv_obj (q := (RX8, TX8, 37)) kl_0 rfl) rfl rfl (Nat.le_of_ble_eq_true rfl) (Nat.le_of_ble_eq_true rfl) (fun r12 => ?_)
  show K G (mi_X8_doesGo 3) (e_X8_doesGo m0 q) 15 [(3, .int r11), (0, .ref 0), (1, .int x1), (2, .int x2)] [.int r12, .int r11, .ref 0] (m0 :: q) _
  refine K_iload_n 3 dX8_doesGo_15 rfl ?_
  refine K_callV (E' := e_X8_mayDrive m0 q) (b := 0) (As := [.int r11, .int r12, .int x2]) (rest := []) dX8_doesGo_16 ml_X8_258 (mf_X8_mayDrive 2) mv_X8_mayDrive (fun hj r hr => c_X8_mayDrive hj m0 q r11 r12 x2 hr) (rcv_obj (q := (RX8, TX8, 37)) kl_0 rfl) rfl rfl (Nat.le_of_ble_eq_true rfl) (Nat.le_of_ble_eq_true rfl) (fun r13 => ?_)
  show K G (mi_X8_doesGo 3) (e_X8_doesGo m0 q) 19 [(3, .int r11), (0, .ref 0), (1, .int x1), (2, .int x2)] [.int r13] (m0 :: q) _
  refine K_if_eq 61 dX8_doesGo_19 rfl (fun _ => ?_) (fun _ => ?_)
  · refine K_iconst (v := 0) dX8_doesGo_61 (by decide) ?_
    exact K_ret (rv := some (.int 0)) dX8_doesGo_62 rfl rfl rfl
  · refine K_aload_n 1 dX8_doesGo_22 rfl ?_
    refine K_iconst (v := 0) dX8_doesGo_23 (by decide) ?_
    refine K_aload_n 1 dX8_doesGo_24 rfl ?_
    refine K_iload_n 0 dX8_doesGo_25 rfl ?_
    refine K_iconst (v := 1) dX8_doesGo_26 (by decide) ?_
    refine K_callV (E' := e_X8_of m0 q) (b := 0) (As := [.int r11, .int 1]) (rest := [.int 0, .ref 0]) dX8_doesGo_27 ml_X8_237 (mf_X8_of 1) mv_X8_of (fun hj r hr => c_X8_of hj m0 q r11 (1 : Int32) hr) (rcv_obj (q := (RX8, TX8, 37)) kl_0 rfl) rfl rfl (Nat.le_of_ble_eq_true rfl) (Nat.le_of_ble_eq_true rfl) (fun r14 => ?_)
    show K G (mi_X8_doesGo 3) (e_X8_doesGo m0 q) 30 [(3, .int r11), (0, .ref 0), (1, .int x1), (2, .int x2)] [.int r14, .int 0, .ref 0] (m0 :: q) _
    refine K_callV (E' := e_X8_farOf m0 q) (b := 0) (As := [.int 0, .int r14]) (rest := []) dX8_doesGo_30 ml_X8_249 (mf_X8_farOf 1) mv_X8_farOf (fun hj r hr => c_X8_farOf hj m0 q (0 : Int32) r14 hr) (rcv_obj (q := (RX8, TX8, 37)) kl_0 rfl) rfl rfl (Nat.le_of_ble_eq_true rfl) (Nat.le_of_ble_eq_true rfl) (fun r15 => ?_)
    show K G (mi_X8_doesGo 3) (e_X8_doesGo m0 q) 33 [(3, .int r11), (0, .ref 0), (1, .int x1), (2, .int x2)] [.int r15] (m0 :: q) _
    refine K_sipush (v := 10000) dX8_doesGo_33 (by decide) ?_
    refine K_icmp_ge 61 dX8_doesGo_36 rfl (fun _ => ?_) (fun _ => ?_)
    · refine K_iconst (v := 0) dX8_doesGo_61 (by decide) ?_
      exact K_ret (rv := some (.int 0)) dX8_doesGo_62 rfl rfl rfl
    · refine K_aload_n 1 dX8_doesGo_39 rfl ?_
      refine K_iload_n 0 dX8_doesGo_40 rfl ?_
      refine K_callV (E' := e_X8_isOnHill m0 q) (b := 0) (As := [.int r11]) (rest := []) dX8_doesGo_41 ml_X8_265 (mf_X8_isOnHill 2) mv_X8_isOnHill (fun hj r hr => c_X8_isOnHill hj m0 q r11 hr) (rcv_obj (q := (RX8, TX8, 37)) kl_0 rfl) rfl rfl (Nat.le_of_ble_eq_true rfl) (Nat.le_of_ble_eq_true rfl) (fun r16 => ?_)
      show K G (mi_X8_doesGo 3) (e_X8_doesGo m0 q) 44 [(3, .int r11), (0, .ref 0), (1, .int x1), (2, .int x2)] [.int r16] (m0 :: q) _
      refine K_if_eq 57 dX8_doesGo_44 rfl (fun _ => ?_) (fun _ => ?_)
      · refine K_iconst (v := 1) dX8_doesGo_57 (by decide) ?_
        refine K_goto 62 dX8_doesGo_58 rfl ?_
        exact K_ret (rv := some (.int 1)) dX8_doesGo_62 rfl rfl rfl
      · refine K_aload_n 1 dX8_doesGo_47 rfl ?_
        refine K_iload_n 2 dX8_doesGo_48 rfl ?_
        refine K_iconst (v := 2) dX8_doesGo_49 (by decide) ?_
        refine K_callV (E' := e_X8_car0 m0 q) (b := 0) (As := [.int x1, .int 2]) (rest := []) dX8_doesGo_50 ml_X8_229 (mf_X8_car0 1) mv_X8_car0 (fun hj r hr => c_X8_car0 hj m0 q x1 (2 : Int32) hr) (rcv_obj (q := (RX8, TX8, 37)) kl_0 rfl) rfl rfl (Nat.le_of_ble_eq_true rfl) (Nat.le_of_ble_eq_true rfl) (fun r17 => ?_)
        show K G (mi_X8_doesGo 3) (e_X8_doesGo m0 q) 53 [(3, .int r11), (0, .ref 0), (1, .int x1), (2, .int x2)] [.int r17] (m0 :: q) _
        refine K_iconst (v := 1) dX8_doesGo_53 (by decide) ?_
        refine K_icmp_ne 61 dX8_doesGo_54 rfl (fun _ => ?_) (fun _ => ?_)
        · refine K_iconst (v := 0) dX8_doesGo_61 (by decide) ?_
          exact K_ret (rv := some (.int 0)) dX8_doesGo_62 rfl rfl rfl
        · refine K_iconst (v := 1) dX8_doesGo_57 (by decide) ?_
          refine K_goto 62 dX8_doesGo_58 rfl ?_
          exact K_ret (rv := some (.int 1)) dX8_doesGo_62 rfl rfl rfl
theorem c_X8_doesGo {G : GE} (hj : dj G) (m0 : Mem) (q : List Mem) (x1 : Int32) (x2 : Int32) {r : Int32} (hr : f_X8_doesGo m0 x1 x2 = some r) : Ctr G yX8_doesGo (mi_X8_doesGo 3) [.ref 0, .int x1, .int x2] (m0 :: q) ((e_X8_doesGo m0 q) r).1 ((e_X8_doesGo m0 q) r).2 := Ctr_of hj (by decide) rfl hr rfl (Nat.le_of_ble_eq_true rfl) (k_X8_doesGo m0 q x1 x2)
abbrev e_X8_goingAt (m0 : Mem) (q : List Mem) : Int32 → Option Value × List Mem := fun r => (some (.int r), (m0 :: q))
theorem k_X8_goingAt_L4 {G : GE} (m0 : Mem) (q : List Mem) (x1 : Int32) (k : Int32 → Int32 → Option (Int32)) (hk : ∀ (u11 : Int32) (u12 : Int32), K G (mi_X8_goingAt 4) (e_X8_goingAt m0 q) 39 [(0, .ref 0), (1, .int x1), (2, .int u11), (3, .int u12)] [] (m0 :: q) (k u11 u12)) : ∀ (t : Nat) (u11 : Int32) (u12 : Int32), K G (mi_X8_goingAt 4) (e_X8_goingAt m0 q) 4 [(0, .ref 0), (1, .int x1), (2, .int u11), (3, .int u12)] [] (m0 :: q) (f_X8_goingAt_L4 k x1 m0 t u11 u12) := by
  intro t
  induction t with
  | zero => intro u11 u12; exact K_none
  | succ t ih =>
    intro u11 u12
    rw [f_X8_goingAt_L4]
    refine K_iload_n 3 dX8_goingAt_4 rfl ?_
    refine K_aload_n 0 dX8_goingAt_5 rfl ?_
    refine K_get (v := .ref 6) dX8_goingAt_6 fl_X8_19 kl_0 rfl rfl ?_
    refine K_iconst (v := 5) dX8_goingAt_9 (by decide) ?_
    refine K_iald (f := m0 6) dX8_goingAt_10 kl_6 rfl ?_
    refine K_icmp_ge 39 dX8_goingAt_11 rfl (fun _ => ?_) (fun _ => ?_)
    · refine K_loc [0, 1, 2, 3] (lv' := [(0, .ref 0), (1, .int x1), (2, .int u11), (3, .int u12)]) rfl ?_
      exact hk u11 u12
    · refine K_iload_n 2 dX8_goingAt_14 rfl ?_
      refine K_aload_n 0 dX8_goingAt_15 rfl ?_
      refine K_iload_n 3 dX8_goingAt_16 rfl ?_
      refine K_iload_n 1 dX8_goingAt_17 rfl ?_
      refine K_callV (E' := e_X8_doesGo m0 q) (b := 0) (As := [.int u12, .int x1]) (rest := [.int u11]) dX8_goingAt_18 ml_X8_268 (mf_X8_doesGo 3) mv_X8_doesGo (fun hj r hr => c_X8_doesGo hj m0 q u12 x1 hr) (rcv_obj (q := (RX8, TX8, 37)) kl_0 rfl) rfl rfl (Nat.le_of_ble_eq_true rfl) (Nat.le_of_ble_eq_true rfl) (fun r13 => ?_)
      show K G (mi_X8_goingAt 4) (e_X8_goingAt m0 q) 21 [(0, .ref 0), (1, .int x1), (2, .int u11), (3, .int u12)] [.int r13, .int u11] (m0 :: q) _
      refine K_if_eq 30 dX8_goingAt_21 rfl (fun _ => ?_) (fun _ => ?_)
      · refine K_iconst (v := 0) dX8_goingAt_30 (by decide) ?_
        refine K_ior dX8_goingAt_31 ?_
        refine K_nmi (fun x14 => ?_)
        refine K_istore_n (lv' := [(2, .int x14), (0, .ref 0), (1, .int x1), (3, .int u12)]) dX8_goingAt_32 (by decide) rfl ?_
        refine K_iinc 3 (w := u12 + 1) (lv' := [(3, .int (u12 + 1)), (2, .int x14), (0, .ref 0), (1, .int x1)]) dX8_goingAt_33 rfl rfl (by decide) rfl ?_
        refine K_goto 4 dX8_goingAt_36 rfl ?_
        refine K_loc [2, 3, 1, 0] (lv' := [(0, .ref 0), (1, .int x1), (2, .int x14), (3, .int (u12 + 1))]) rfl ?_
        exact ih x14 (u12 + 1)
      · refine K_iconst (v := 1) dX8_goingAt_24 (by decide) ?_
        refine K_iload_n 3 dX8_goingAt_25 rfl ?_
        refine K_ishl dX8_goingAt_26 ?_
        refine K_goto 31 dX8_goingAt_27 rfl ?_
        refine K_ior dX8_goingAt_31 ?_
        refine K_nmi (fun x15 => ?_)
        refine K_istore_n (lv' := [(2, .int x15), (0, .ref 0), (1, .int x1), (3, .int u12)]) dX8_goingAt_32 (by decide) rfl ?_
        refine K_iinc 3 (w := u12 + 1) (lv' := [(3, .int (u12 + 1)), (2, .int x15), (0, .ref 0), (1, .int x1)]) dX8_goingAt_33 rfl rfl (by decide) rfl ?_
        refine K_goto 4 dX8_goingAt_36 rfl ?_
        refine K_loc [2, 3, 1, 0] (lv' := [(0, .ref 0), (1, .int x1), (2, .int x15), (3, .int (u12 + 1))]) rfl ?_
        exact ih x15 (u12 + 1)
theorem k_X8_goingAt {G : GE} (m0 : Mem) (q : List Mem) (x1 : Int32) : K G (mi_X8_goingAt 4) (e_X8_goingAt m0 q) 0 [(0, .ref 0), (1, .int x1)] [] (m0 :: q) (f_X8_goingAt m0 x1) := by
  unfold f_X8_goingAt
  refine K_iconst (v := 0) dX8_goingAt_0 (by decide) ?_
  refine K_istore_n (lv' := [(2, .int 0), (0, .ref 0), (1, .int x1)]) dX8_goingAt_1 (by decide) rfl ?_
  refine K_iconst (v := 0) dX8_goingAt_2 (by decide) ?_
  refine K_istore_n (lv' := [(3, .int 0), (2, .int 0), (0, .ref 0), (1, .int x1)]) dX8_goingAt_3 (by decide) rfl ?_
  refine K_loc [2, 3, 1, 0] (lv' := [(0, .ref 0), (1, .int x1), (2, .int 0), (3, .int 0)]) rfl ?_
  refine k_X8_goingAt_L4  m0 q x1 _ (fun u16 u17 => ?_) 100000 0 0
  refine K_iload_n 2 dX8_goingAt_39 rfl ?_
  exact K_ret (rv := some (.int u16)) dX8_goingAt_40 rfl rfl rfl
theorem c_X8_goingAt {G : GE} (hj : dj G) (m0 : Mem) (q : List Mem) (x1 : Int32) {r : Int32} (hr : f_X8_goingAt m0 x1 = some r) : Ctr G yX8_goingAt (mi_X8_goingAt 4) [.ref 0, .int x1] (m0 :: q) ((e_X8_goingAt m0 q) r).1 ((e_X8_goingAt m0 q) r).2 := Ctr_of hj (by decide) rfl hr rfl (Nat.le_of_ble_eq_true rfl) (k_X8_goingAt m0 q x1)
abbrev e_X8_goes (m0 : Mem) (q : List Mem) : (Int32 × Mem) → Option Value × List Mem := fun r => (some (.int r.1), (r.2 :: q))
theorem k_X8_goes {G : GE} (m0 : Mem) (q : List Mem) (x1 : Int32) : K G (mi_X8_goes 5) (e_X8_goes m0 q) 0 [(0, .ref 0), (1, .int x1)] [] (m0 :: q) (f_X8_goes m0 x1) := by
  unfold f_X8_goes
  refine K_aload_n 0 dX8_goes_0 rfl ?_
  refine K_iconst (v := 0) dX8_goes_1 (by decide) ?_
  refine K_put (Ms' := ((up m0 0 0 0) :: q)) dX8_goes_2 fp_X8_68 kl_0 rfl rfl rfl (Nat.succ_pos _) rfl ?_
  refine K_nmm (fun w => (w :: q)) rfl (fun w11 => ?_)
  refine K_aload_n 0 dX8_goes_5 rfl ?_
  refine K_get (v := .int (w11 0 7)) dX8_goes_6 fl_X8_217 kl_0 rfl rfl ?_
  refine K_if_ne 15 dX8_goes_9 rfl (fun _ => ?_) (fun _ => ?_)
  · refine K_iload_n 1 dX8_goes_15 rfl ?_
    refine K_callS (E' := e_X8_isMinute (w11 :: q)) (As := [.int x1]) (rest := []) dX8_goes_16 ml_X8_255 (mf_X8_isMinute 2) ms_X8_isMinute (fun hj r hr => c_X8_isMinute hj (w11 :: q) x1 hr) rfl rfl (Nat.le_of_ble_eq_true rfl) (Nat.le_of_ble_eq_true rfl) (fun r12 => ?_)
    show K G (mi_X8_goes 5) (e_X8_goes m0 q) 19 [(0, .ref 0), (1, .int x1)] [.int r12] (w11 :: q) _
    refine K_if_eq 30 dX8_goes_19 rfl (fun _ => ?_) (fun _ => ?_)
    · refine K_ldc (v := (-1000001)) dX8_goes_30 cst_X8_88 ?_
      exact K_ret (rv := some (.int (-1000001))) dX8_goes_32 rfl rfl rfl
    · refine K_aload_n 0 dX8_goes_22 rfl ?_
      refine K_iload_n 1 dX8_goes_23 rfl ?_
      refine K_callV (E' := e_X8_goingAt w11 q) (b := 0) (As := [.int x1]) (rest := []) dX8_goes_24 ml_X8_272 (mf_X8_goingAt 4) mv_X8_goingAt (fun hj r hr => c_X8_goingAt hj w11 q x1 hr) (rcv_obj (q := (RX8, TX8, 37)) kl_0 rfl) rfl rfl (Nat.le_of_ble_eq_true rfl) (Nat.le_of_ble_eq_true rfl) (fun r13 => ?_)
      show K G (mi_X8_goes 5) (e_X8_goes m0 q) 27 [(0, .ref 0), (1, .int x1)] [.int r13] (w11 :: q) _
      refine K_goto 32 dX8_goes_27 rfl ?_
      exact K_ret (rv := some (.int r13)) dX8_goes_32 rfl rfl rfl
  · refine K_ldc (v := (-1000002)) dX8_goes_12 cst_X8_240 ?_
    exact K_ret (rv := some (.int (-1000002))) dX8_goes_14 rfl rfl rfl
theorem c_X8_goes {G : GE} (hj : dj G) (m0 : Mem) (q : List Mem) (x1 : Int32) {r : Int32 × Mem} (hr : f_X8_goes m0 x1 = some r) : Ctr G yX8_goes (mi_X8_goes 5) [.ref 0, .int x1] (m0 :: q) ((e_X8_goes m0 q) r).1 ((e_X8_goes m0 q) r).2 := Ctr_of hj (by decide) rfl hr rfl (Nat.le_of_ble_eq_true rfl) (k_X8_goes m0 q x1)
abbrev e_X8_layRiders (m0 : Mem) (q : List Mem) : Mem → Option Value × List Mem := fun r => (none, (r :: q))
theorem k_X8_layRiders_L7 {G : GE} (m0 : Mem) (q : List Mem) (k : Int32 → Mem → Option (Mem)) (hk : ∀ (u12 : Int32) (w13 : Mem), K G (mi_X8_layRiders 3) (e_X8_layRiders m0 q) 66 [(0, .ref 0), (1, .int u12)] [] (w13 :: q) (k u12 w13)) : ∀ (t : Nat) (u12 : Int32) (w13 : Mem), K G (mi_X8_layRiders 3) (e_X8_layRiders m0 q) 7 [(0, .ref 0), (1, .int u12)] [] (w13 :: q) (f_X8_layRiders_L7 k t u12 w13) := by
  intro t
  induction t with
  | zero => intro u12 w13; exact K_none
  | succ t ih =>
    intro u12 w13
    rw [f_X8_layRiders_L7]
    refine K_iload_n 1 dX8_layRiders_7 rfl ?_
    refine K_aload_n 0 dX8_layRiders_8 rfl ?_
    refine K_get (v := .ref 6) dX8_layRiders_9 fl_X8_19 kl_0 rfl rfl ?_
    refine K_iconst (v := 4) dX8_layRiders_12 (by decide) ?_
    refine K_iald (f := w13 6) dX8_layRiders_13 kl_6 rfl ?_
    refine K_icmp_ge 66 dX8_layRiders_14 rfl (fun _ => ?_) (fun _ => ?_)
    · refine K_loc [0, 1] (lv' := [(0, .ref 0), (1, .int u12)]) rfl ?_
      exact hk u12 w13
    · refine K_aload_n 0 dX8_layRiders_17 rfl ?_
      refine K_iload_n 1 dX8_layRiders_18 rfl ?_
      refine K_callV (E' := e_X8_carOf w13 q) (b := 0) (As := [.int u12]) (rest := []) dX8_layRiders_19 ml_X8_243 (mf_X8_carOf 2) mv_X8_carOf (fun hj r hr => c_X8_carOf hj w13 q u12 hr) (rcv_obj (q := (RX8, TX8, 37)) kl_0 rfl) rfl rfl (Nat.le_of_ble_eq_true rfl) (Nat.le_of_ble_eq_true rfl) (fun r14 => ?_)
      show K G (mi_X8_layRiders 3) (e_X8_layRiders m0 q) 22 [(0, .ref 0), (1, .int u12)] [.int r14] (w13 :: q) _
      refine K_istore_n (lv' := [(2, .int r14), (0, .ref 0), (1, .int u12)]) dX8_layRiders_22 (by decide) rfl ?_
      refine K_iload_n 0 dX8_layRiders_23 rfl ?_
      refine K_ldc (v := (-1000000)) dX8_layRiders_24 cst_X8_104 ?_
      refine K_icmp_eq 40 dX8_layRiders_26 rfl (fun _ => ?_) (fun _ => ?_)
      · refine K_aload_n 1 dX8_layRiders_40 rfl ?_
        refine K_get (v := .ref 30) dX8_layRiders_41 fl_X8_49 kl_0 rfl rfl ?_
        refine K_aload_n 1 dX8_layRiders_44 rfl ?_
        refine K_get (v := .int (w13 0 30)) dX8_layRiders_45 fl_X8_284 kl_0 rfl rfl ?_
        refine K_iload_n 2 dX8_layRiders_48 rfl ?_
        refine K_iast (Ms' := ((up w13 30 (w13 0 30).toNatClampNeg u12) :: q)) dX8_layRiders_49 kl_30 (Nat.succ_pos _) rfl ?_
        refine K_nmm (fun w => (w :: q)) rfl (fun w15 => ?_)
        refine K_aload_n 1 dX8_layRiders_50 rfl ?_
        refine K_dup dX8_layRiders_51 rfl ?_
        refine K_get (v := .int (w15 0 30)) dX8_layRiders_52 fl_X8_284 kl_0 rfl rfl ?_
        refine K_iconst (v := 1) dX8_layRiders_55 (by decide) ?_
        refine K_iadd dX8_layRiders_56 ?_
        refine K_put (Ms' := ((up w15 0 30 ((w15 0 30) + 1)) :: q)) dX8_layRiders_57 fp_X8_284 kl_0 rfl rfl rfl (Nat.succ_pos _) rfl ?_
        refine K_nmm (fun w => (w :: q)) rfl (fun w16 => ?_)
        refine K_iinc 2 (w := u12 + 1) (lv' := [(1, .int (u12 + 1)), (2, .int r14), (0, .ref 0)]) dX8_layRiders_60 rfl rfl (by decide) rfl ?_
        refine K_goto 7 dX8_layRiders_63 rfl ?_
        refine K_loc [2, 0] (lv' := [(0, .ref 0), (1, .int (u12 + 1))]) rfl ?_
        exact ih (u12 + 1) w16
      · refine K_aload_n 1 dX8_layRiders_29 rfl ?_
        refine K_get (v := .int (w13 0 27)) dX8_layRiders_30 fl_X8_287 kl_0 rfl rfl ?_
        refine K_iload_n 0 dX8_layRiders_33 rfl ?_
        refine K_ishr dX8_layRiders_34 ?_
        refine K_iconst (v := 1) dX8_layRiders_35 (by decide) ?_
        refine K_iand dX8_layRiders_36 ?_
        refine K_if_ne 60 dX8_layRiders_37 rfl (fun _ => ?_) (fun _ => ?_)
        · refine K_iinc 2 (w := u12 + 1) (lv' := [(1, .int (u12 + 1)), (2, .int r14), (0, .ref 0)]) dX8_layRiders_60 rfl rfl (by decide) rfl ?_
          refine K_goto 7 dX8_layRiders_63 rfl ?_
          refine K_loc [2, 0] (lv' := [(0, .ref 0), (1, .int (u12 + 1))]) rfl ?_
          exact ih (u12 + 1) w13
        · refine K_aload_n 1 dX8_layRiders_40 rfl ?_
          refine K_get (v := .ref 30) dX8_layRiders_41 fl_X8_49 kl_0 rfl rfl ?_
          refine K_aload_n 1 dX8_layRiders_44 rfl ?_
          refine K_get (v := .int (w13 0 30)) dX8_layRiders_45 fl_X8_284 kl_0 rfl rfl ?_
          refine K_iload_n 2 dX8_layRiders_48 rfl ?_
          refine K_iast (Ms' := ((up w13 30 (w13 0 30).toNatClampNeg u12) :: q)) dX8_layRiders_49 kl_30 (Nat.succ_pos _) rfl ?_
          refine K_nmm (fun w => (w :: q)) rfl (fun w17 => ?_)
          refine K_aload_n 1 dX8_layRiders_50 rfl ?_
          refine K_dup dX8_layRiders_51 rfl ?_
          refine K_get (v := .int (w17 0 30)) dX8_layRiders_52 fl_X8_284 kl_0 rfl rfl ?_
          refine K_iconst (v := 1) dX8_layRiders_55 (by decide) ?_
          refine K_iadd dX8_layRiders_56 ?_
          refine K_put (Ms' := ((up w17 0 30 ((w17 0 30) + 1)) :: q)) dX8_layRiders_57 fp_X8_284 kl_0 rfl rfl rfl (Nat.succ_pos _) rfl ?_
          refine K_nmm (fun w => (w :: q)) rfl (fun w18 => ?_)
          refine K_iinc 2 (w := u12 + 1) (lv' := [(1, .int (u12 + 1)), (2, .int r14), (0, .ref 0)]) dX8_layRiders_60 rfl rfl (by decide) rfl ?_
          refine K_goto 7 dX8_layRiders_63 rfl ?_
          refine K_loc [2, 0] (lv' := [(0, .ref 0), (1, .int (u12 + 1))]) rfl ?_
          exact ih (u12 + 1) w18
theorem k_X8_layRiders {G : GE} (m0 : Mem) (q : List Mem)  : K G (mi_X8_layRiders 3) (e_X8_layRiders m0 q) 0 [(0, .ref 0)] [] (m0 :: q) (f_X8_layRiders m0) := by
  unfold f_X8_layRiders
  refine K_aload_n 0 dX8_layRiders_0 rfl ?_
  refine K_iconst (v := 0) dX8_layRiders_1 (by decide) ?_
  refine K_put (Ms' := ((up m0 0 30 0) :: q)) dX8_layRiders_2 fp_X8_284 kl_0 rfl rfl rfl (Nat.succ_pos _) rfl ?_
  refine K_nmm (fun w => (w :: q)) rfl (fun w11 => ?_)
  refine K_iconst (v := 0) dX8_layRiders_5 (by decide) ?_
  refine K_istore_n (lv' := [(1, .int 0), (0, .ref 0)]) dX8_layRiders_6 (by decide) rfl ?_
  refine K_loc [1, 0] (lv' := [(0, .ref 0), (1, .int 0)]) rfl ?_
  refine k_X8_layRiders_L7  m0 q  _ (fun u19 w20 => ?_) 100000 0 w11
  exact K_ret (rv := none) dX8_layRiders_66 trivial rfl rfl
theorem c_X8_layRiders {G : GE} (hj : dj G) (m0 : Mem) (q : List Mem)  {r : Mem} (hr : f_X8_layRiders m0 = some r) : Ctr G yX8_layRiders (mi_X8_layRiders 3) [.ref 0] (m0 :: q) ((e_X8_layRiders m0 q) r).1 ((e_X8_layRiders m0 q) r).2 := Ctr_of hj (by decide) rfl hr rfl (Nat.le_of_ble_eq_true rfl) (k_X8_layRiders m0 q )
abbrev e_X8_bits (Ms : List Mem) : Int32 → Option Value × List Mem := fun r => (some (.int r), Ms)
theorem k_X8_bits_L4 {G : GE} (Ms : List Mem) (x0 : Int32) (k : Int32 → Int32 → Option (Int32)) (hk : ∀ (u11 : Int32) (u12 : Int32), K G (mi_X8_bits 1) (e_X8_bits Ms) 24 [(0, .int x0), (1, .int u11), (2, .int u12)] [] Ms (k u11 u12)) : ∀ (t : Nat) (u11 : Int32) (u12 : Int32), K G (mi_X8_bits 1) (e_X8_bits Ms) 4 [(0, .int x0), (1, .int u11), (2, .int u12)] [] Ms (f_X8_bits_L4 k x0 t u11 u12) := by
  intro t
  induction t with
  | zero => intro u11 u12; exact K_none
  | succ t ih =>
    intro u11 u12
    rw [f_X8_bits_L4]
    refine K_iload_n 2 dX8_bits_4 rfl ?_
    refine K_bipush (v := 7) dX8_bits_5 (by decide) ?_
    refine K_icmp_ge 24 dX8_bits_7 rfl (fun _ => ?_) (fun _ => ?_)
    · refine K_loc [0, 1, 2] (lv' := [(0, .int x0), (1, .int u11), (2, .int u12)]) rfl ?_
      exact hk u11 u12
    · refine K_iload_n 1 dX8_bits_10 rfl ?_
      refine K_iload_n 0 dX8_bits_11 rfl ?_
      refine K_iload_n 2 dX8_bits_12 rfl ?_
      refine K_ishr dX8_bits_13 ?_
      refine K_iconst (v := 1) dX8_bits_14 (by decide) ?_
      refine K_iand dX8_bits_15 ?_
      refine K_iadd dX8_bits_16 ?_
      refine K_nmi (fun x13 => ?_)
      refine K_istore_n (lv' := [(1, .int x13), (0, .int x0), (2, .int u12)]) dX8_bits_17 (by decide) rfl ?_
      refine K_iinc 2 (w := u12 + 1) (lv' := [(2, .int (u12 + 1)), (1, .int x13), (0, .int x0)]) dX8_bits_18 rfl rfl (by decide) rfl ?_
      refine K_goto 4 dX8_bits_21 rfl ?_
      refine K_loc [2, 1, 0] (lv' := [(0, .int x0), (1, .int x13), (2, .int (u12 + 1))]) rfl ?_
      exact ih x13 (u12 + 1)
theorem k_X8_bits {G : GE} (Ms : List Mem) (x0 : Int32) : K G (mi_X8_bits 1) (e_X8_bits Ms) 0 [(0, .int x0)] [] Ms (f_X8_bits x0) := by
  unfold f_X8_bits
  refine K_iconst (v := 0) dX8_bits_0 (by decide) ?_
  refine K_istore_n (lv' := [(1, .int 0), (0, .int x0)]) dX8_bits_1 (by decide) rfl ?_
  refine K_iconst (v := 0) dX8_bits_2 (by decide) ?_
  refine K_istore_n (lv' := [(2, .int 0), (1, .int 0), (0, .int x0)]) dX8_bits_3 (by decide) rfl ?_
  refine K_loc [2, 1, 0] (lv' := [(0, .int x0), (1, .int 0), (2, .int 0)]) rfl ?_
  refine k_X8_bits_L4  Ms x0 _ (fun u14 u15 => ?_) 100000 0 0
  refine K_iload_n 1 dX8_bits_24 rfl ?_
  exact K_ret (rv := some (.int u14)) dX8_bits_25 rfl rfl rfl
theorem c_X8_bits {G : GE} (hj : dj G) (Ms : List Mem) (x0 : Int32) {r : Int32} (hr : f_X8_bits x0 = some r) : Ctr G yX8_bits (mi_X8_bits 1) [.int x0] Ms ((e_X8_bits Ms) r).1 ((e_X8_bits Ms) r).2 := Ctr_of hj (by decide) rfl hr rfl (Nat.le_of_ble_eq_true rfl) (k_X8_bits Ms x0)
