abbrev e_X7_restore (m0 m1 m2 m3 m4 m5 m6 m7 m8 m9 m10 m11 : Mem) : (Int32 × Mem × Mem × Mem) → Option Value × List Mem := fun r => (some (.int r.1), [m0, r.2.1, m2, r.2.2.1, m4, m5, r.2.2.2, m7, m8, m9, m10, m11])
theorem k_X7_restore {G : GE} (m0 m1 m2 m3 m4 m5 m6 m7 m8 m9 m10 m11 : Mem) (x1 : Int32) (h7 : m11 0 7 = 1) : K G (mi_X7_restore 4) (e_X7_restore m0 m1 m2 m3 m4 m5 m6 m7 m8 m9 m10 m11) 0 [(0, .ref 11000), (1, .int x1)] [] [m0, m1, m2, m3, m4, m5, m6, m7, m8, m9, m10, m11] (f_X7_restore m1 m3 m6 m9 m10 x1) := by
  unfold f_X7_restore
  refine K_iload_n 1 dX7_restore_0 rfl ?_
  refine K_if_lt 9 dX7_restore_1 rfl (fun _ => ?_) (fun _ => ?_)
  · refine K_ldc (v := (-1000001)) dX7_restore_9 cst_X7_73 ?_
    exact K_ret (rv := some (.int (-1000001))) dX7_restore_11 rfl rfl rfl
  · refine K_iload_n 1 dX7_restore_4 rfl ?_
    refine K_iconst (v := 2) dX7_restore_5 (by decide) ?_
    refine K_icmp_lt 12 dX7_restore_6 rfl (fun _ => ?_) (fun _ => ?_)
    · refine K_aload_n 0 dX7_restore_12 rfl ?_
      refine K_get (v := .ref 11003) dX7_restore_13 fl_X7_26 kl_11000 rfl rfl ?_
      refine K_iload_n 1 dX7_restore_16 rfl ?_
      refine K_aald dX7_restore_17 kl_11003 (Or.inl rfl) (fun hb11 => ?_)
      refine K_ite (c := x1 = 0) (fun ehb11 => ?_) (fun _ => ?_)
      · refine K_st (st' := [.ref 9000]) (by rw [ehb11]; rfl) ?_
        refine K_get (v := .int (m9 0 0)) dX7_restore_18 fl_X7_169 kl_9000 rfl rfl ?_
        refine K_if_ne 27 dX7_restore_21 rfl (fun _ => ?_) (fun _ => ?_)
        · refine K_aload_n 0 dX7_restore_27 rfl ?_
          refine K_get (v := .ref 1000) dX7_restore_28 fl_X7_58 kl_11000 rfl (nd_ref h7) ?_
          refine K_aload_n 0 dX7_restore_31 rfl ?_
          refine K_get (v := .ref 11003) dX7_restore_32 fl_X7_26 kl_11000 rfl rfl ?_
          refine K_iload_n 1 dX7_restore_35 rfl ?_
          refine K_aald dX7_restore_36 kl_11003 (Or.inl rfl) (fun hb12 => ?_)
          refine K_ite (c := x1 = 0) (fun ehb12 => ?_) (fun _ => ?_)
          · refine K_st (st' := [.ref 9000, .ref 1000]) (by rw [ehb12]; rfl) ?_
            refine K_callV (E' := e_X3_takeFrom_1_9 m0 m1 m2 m3 m4 m5 m6 m7 m8 m9 m10 m11) (b := 1000) (As := [.ref 9000]) (rest := []) dX7_restore_37 ml_X7_260 (mf_X3_takeFrom 1) mv_X3_takeFrom (fun hj r hr => c_X3_takeFrom_1_9 hj m0 m1 m2 m3 m4 m5 m6 m7 m8 m9 m10 m11  hr) (rcv_obj (q := (RX3, TX3, 18)) kl_1000 rfl) rfl rfl (Nat.le_of_ble_eq_true rfl) (Nat.le_of_ble_eq_true rfl) (fun r13 => ?_)
            show K G (mi_X7_restore 4) (e_X7_restore m0 m1 m2 m3 m4 m5 m6 m7 m8 m9 m10 m11) 40 [(0, .ref 11000), (1, .int x1)] [] [m0, r13, m2, m3, m4, m5, m6, m7, m8, m9, m10, m11] _
            refine K_aload_n 0 dX7_restore_40 rfl ?_
            refine K_callV (E' := e_X7_beginAnew m0 r13 m2 m3 m4 m5 m6 m7 m8 m9 m10 m11) (b := 11000) (As := []) (rest := []) dX7_restore_41 ml_X7_119 (mf_X7_beginAnew 3) mv_X7_beginAnew (fun hj r hr => c_X7_beginAnew hj m0 r13 m2 m3 m4 m5 m6 m7 m8 m9 m10 m11  hr) (rcv_obj (q := (RX7, TX7, 10)) kl_11000 rfl) rfl rfl (Nat.le_of_ble_eq_true rfl) (Nat.le_of_ble_eq_true rfl) (fun r14 => ?_)
            show K G (mi_X7_restore 4) (e_X7_restore m0 m1 m2 m3 m4 m5 m6 m7 m8 m9 m10 m11) 44 [(0, .ref 11000), (1, .int x1)] [] [m0, r13, m2, r14.1, m4, m5, r14.2, m7, m8, m9, m10, m11] _
            refine K_iconst (v := 1) dX7_restore_44 (by decide) ?_
            exact K_ret (rv := some (.int 1)) dX7_restore_45 rfl rfl rfl
          refine K_ite (c := x1 = 1) (fun ehb12 => ?_) (fun _ => K_none)
          refine K_st (st' := [.ref 10000, .ref 1000]) (by rw [ehb12]; rfl) ?_
          refine K_callV (E' := e_X3_takeFrom_1_10 m0 m1 m2 m3 m4 m5 m6 m7 m8 m9 m10 m11) (b := 1000) (As := [.ref 10000]) (rest := []) dX7_restore_37 ml_X7_260 (mf_X3_takeFrom 1) mv_X3_takeFrom (fun hj r hr => c_X3_takeFrom_1_10 hj m0 m1 m2 m3 m4 m5 m6 m7 m8 m9 m10 m11  hr) (rcv_obj (q := (RX3, TX3, 18)) kl_1000 rfl) rfl rfl (Nat.le_of_ble_eq_true rfl) (Nat.le_of_ble_eq_true rfl) (fun r15 => ?_)
          show K G (mi_X7_restore 4) (e_X7_restore m0 m1 m2 m3 m4 m5 m6 m7 m8 m9 m10 m11) 40 [(0, .ref 11000), (1, .int x1)] [] [m0, r15, m2, m3, m4, m5, m6, m7, m8, m9, m10, m11] _
          refine K_aload_n 0 dX7_restore_40 rfl ?_
          refine K_callV (E' := e_X7_beginAnew m0 r15 m2 m3 m4 m5 m6 m7 m8 m9 m10 m11) (b := 11000) (As := []) (rest := []) dX7_restore_41 ml_X7_119 (mf_X7_beginAnew 3) mv_X7_beginAnew (fun hj r hr => c_X7_beginAnew hj m0 r15 m2 m3 m4 m5 m6 m7 m8 m9 m10 m11  hr) (rcv_obj (q := (RX7, TX7, 10)) kl_11000 rfl) rfl rfl (Nat.le_of_ble_eq_true rfl) (Nat.le_of_ble_eq_true rfl) (fun r16 => ?_)
          show K G (mi_X7_restore 4) (e_X7_restore m0 m1 m2 m3 m4 m5 m6 m7 m8 m9 m10 m11) 44 [(0, .ref 11000), (1, .int x1)] [] [m0, r15, m2, r16.1, m4, m5, r16.2, m7, m8, m9, m10, m11] _
          refine K_iconst (v := 1) dX7_restore_44 (by decide) ?_
          exact K_ret (rv := some (.int 1)) dX7_restore_45 rfl rfl rfl
        · refine K_ldc (v := (-1000002)) dX7_restore_24 cst_X7_143 ?_
          exact K_ret (rv := some (.int (-1000002))) dX7_restore_26 rfl rfl rfl
      refine K_ite (c := x1 = 1) (fun ehb11 => ?_) (fun _ => K_none)
      refine K_st (st' := [.ref 10000]) (by rw [ehb11]; rfl) ?_
      refine K_get (v := .int (m10 0 0)) dX7_restore_18 fl_X7_169 kl_10000 rfl rfl ?_
      refine K_if_ne 27 dX7_restore_21 rfl (fun _ => ?_) (fun _ => ?_)
      · refine K_aload_n 0 dX7_restore_27 rfl ?_
        refine K_get (v := .ref 1000) dX7_restore_28 fl_X7_58 kl_11000 rfl (nd_ref h7) ?_
        refine K_aload_n 0 dX7_restore_31 rfl ?_
        refine K_get (v := .ref 11003) dX7_restore_32 fl_X7_26 kl_11000 rfl rfl ?_
        refine K_iload_n 1 dX7_restore_35 rfl ?_
        refine K_aald dX7_restore_36 kl_11003 (Or.inl rfl) (fun hb17 => ?_)
        refine K_ite (c := x1 = 0) (fun ehb17 => ?_) (fun _ => ?_)
        · refine K_st (st' := [.ref 9000, .ref 1000]) (by rw [ehb17]; rfl) ?_
          refine K_callV (E' := e_X3_takeFrom_1_9 m0 m1 m2 m3 m4 m5 m6 m7 m8 m9 m10 m11) (b := 1000) (As := [.ref 9000]) (rest := []) dX7_restore_37 ml_X7_260 (mf_X3_takeFrom 1) mv_X3_takeFrom (fun hj r hr => c_X3_takeFrom_1_9 hj m0 m1 m2 m3 m4 m5 m6 m7 m8 m9 m10 m11  hr) (rcv_obj (q := (RX3, TX3, 18)) kl_1000 rfl) rfl rfl (Nat.le_of_ble_eq_true rfl) (Nat.le_of_ble_eq_true rfl) (fun r18 => ?_)
          show K G (mi_X7_restore 4) (e_X7_restore m0 m1 m2 m3 m4 m5 m6 m7 m8 m9 m10 m11) 40 [(0, .ref 11000), (1, .int x1)] [] [m0, r18, m2, m3, m4, m5, m6, m7, m8, m9, m10, m11] _
          refine K_aload_n 0 dX7_restore_40 rfl ?_
          refine K_callV (E' := e_X7_beginAnew m0 r18 m2 m3 m4 m5 m6 m7 m8 m9 m10 m11) (b := 11000) (As := []) (rest := []) dX7_restore_41 ml_X7_119 (mf_X7_beginAnew 3) mv_X7_beginAnew (fun hj r hr => c_X7_beginAnew hj m0 r18 m2 m3 m4 m5 m6 m7 m8 m9 m10 m11  hr) (rcv_obj (q := (RX7, TX7, 10)) kl_11000 rfl) rfl rfl (Nat.le_of_ble_eq_true rfl) (Nat.le_of_ble_eq_true rfl) (fun r19 => ?_)
          show K G (mi_X7_restore 4) (e_X7_restore m0 m1 m2 m3 m4 m5 m6 m7 m8 m9 m10 m11) 44 [(0, .ref 11000), (1, .int x1)] [] [m0, r18, m2, r19.1, m4, m5, r19.2, m7, m8, m9, m10, m11] _
          refine K_iconst (v := 1) dX7_restore_44 (by decide) ?_
          exact K_ret (rv := some (.int 1)) dX7_restore_45 rfl rfl rfl
        refine K_ite (c := x1 = 1) (fun ehb17 => ?_) (fun _ => K_none)
        refine K_st (st' := [.ref 10000, .ref 1000]) (by rw [ehb17]; rfl) ?_
        refine K_callV (E' := e_X3_takeFrom_1_10 m0 m1 m2 m3 m4 m5 m6 m7 m8 m9 m10 m11) (b := 1000) (As := [.ref 10000]) (rest := []) dX7_restore_37 ml_X7_260 (mf_X3_takeFrom 1) mv_X3_takeFrom (fun hj r hr => c_X3_takeFrom_1_10 hj m0 m1 m2 m3 m4 m5 m6 m7 m8 m9 m10 m11  hr) (rcv_obj (q := (RX3, TX3, 18)) kl_1000 rfl) rfl rfl (Nat.le_of_ble_eq_true rfl) (Nat.le_of_ble_eq_true rfl) (fun r20 => ?_)
        show K G (mi_X7_restore 4) (e_X7_restore m0 m1 m2 m3 m4 m5 m6 m7 m8 m9 m10 m11) 40 [(0, .ref 11000), (1, .int x1)] [] [m0, r20, m2, m3, m4, m5, m6, m7, m8, m9, m10, m11] _
        refine K_aload_n 0 dX7_restore_40 rfl ?_
        refine K_callV (E' := e_X7_beginAnew m0 r20 m2 m3 m4 m5 m6 m7 m8 m9 m10 m11) (b := 11000) (As := []) (rest := []) dX7_restore_41 ml_X7_119 (mf_X7_beginAnew 3) mv_X7_beginAnew (fun hj r hr => c_X7_beginAnew hj m0 r20 m2 m3 m4 m5 m6 m7 m8 m9 m10 m11  hr) (rcv_obj (q := (RX7, TX7, 10)) kl_11000 rfl) rfl rfl (Nat.le_of_ble_eq_true rfl) (Nat.le_of_ble_eq_true rfl) (fun r21 => ?_)
        show K G (mi_X7_restore 4) (e_X7_restore m0 m1 m2 m3 m4 m5 m6 m7 m8 m9 m10 m11) 44 [(0, .ref 11000), (1, .int x1)] [] [m0, r20, m2, r21.1, m4, m5, r21.2, m7, m8, m9, m10, m11] _
        refine K_iconst (v := 1) dX7_restore_44 (by decide) ?_
        exact K_ret (rv := some (.int 1)) dX7_restore_45 rfl rfl rfl
      · refine K_ldc (v := (-1000002)) dX7_restore_24 cst_X7_143 ?_
        exact K_ret (rv := some (.int (-1000002))) dX7_restore_26 rfl rfl rfl
    · refine K_ldc (v := (-1000001)) dX7_restore_9 cst_X7_73 ?_
      exact K_ret (rv := some (.int (-1000001))) dX7_restore_11 rfl rfl rfl
theorem c_X7_restore {G : GE} (hj : dj G) (m0 m1 m2 m3 m4 m5 m6 m7 m8 m9 m10 m11 : Mem) (x1 : Int32) (h7 : m11 0 7 = 1) {r : Int32 × Mem × Mem × Mem} (hr : f_X7_restore m1 m3 m6 m9 m10 x1 = some r) : Ctr G yX7_restore (mi_X7_restore 4) [.ref 11000, .int x1] [m0, m1, m2, m3, m4, m5, m6, m7, m8, m9, m10, m11] ((e_X7_restore m0 m1 m2 m3 m4 m5 m6 m7 m8 m9 m10 m11) r).1 ((e_X7_restore m0 m1 m2 m3 m4 m5 m6 m7 m8 m9 m10 m11) r).2 := Ctr_of hj (by decide) rfl hr rfl (Nat.le_of_ble_eq_true rfl) (k_X7_restore m0 m1 m2 m3 m4 m5 m6 m7 m8 m9 m10 m11 x1 h7)
abbrev e_X7_kind (m0 m1 m2 m3 m4 m5 m6 m7 m8 m9 m10 m11 : Mem) : Int32 → Option Value × List Mem := fun r => (some (.int r), [m0, m1, m2, m3, m4, m5, m6, m7, m8, m9, m10, m11])
theorem k_X7_kind {G : GE} (m0 m1 m2 m3 m4 m5 m6 m7 m8 m9 m10 m11 : Mem) (x1 : Int32) (h7 : m11 0 7 = 1) : K G (mi_X7_kind 2) (e_X7_kind m0 m1 m2 m3 m4 m5 m6 m7 m8 m9 m10 m11) 0 [(0, .ref 11000), (1, .int x1)] [] [m0, m1, m2, m3, m4, m5, m6, m7, m8, m9, m10, m11] (f_X7_kind m1 x1) := by
  unfold f_X7_kind
  refine K_aload_n 0 dX7_kind_0 rfl ?_
  refine K_get (v := .ref 1000) dX7_kind_1 fl_X7_58 kl_11000 rfl (nd_ref h7) ?_
  refine K_iload_n 1 dX7_kind_4 rfl ?_
  refine K_callV (E' := e_X3_hasPerson_1 m0 m1 m2 m3 m4 m5 m6 m7 m8 m9 m10 m11) (b := 1000) (As := [.int x1]) (rest := []) dX7_kind_5 ml_X7_128 (mf_X3_hasPerson 1) mv_X3_hasPerson (fun hj r hr => c_X3_hasPerson_1 hj m0 m1 m2 m3 m4 m5 m6 m7 m8 m9 m10 m11 x1 hr) (rcv_obj (q := (RX3, TX3, 18)) kl_1000 rfl) rfl rfl (Nat.le_of_ble_eq_true rfl) (Nat.le_of_ble_eq_true rfl) (fun r11 => ?_)
  show K G (mi_X7_kind 2) (e_X7_kind m0 m1 m2 m3 m4 m5 m6 m7 m8 m9 m10 m11) 8 [(0, .ref 11000), (1, .int x1)] [.int r11] [m0, m1, m2, m3, m4, m5, m6, m7, m8, m9, m10, m11] _
  refine K_if_eq 23 dX7_kind_8 rfl (fun _ => ?_) (fun _ => ?_)
  · refine K_ldc (v := (-1000001)) dX7_kind_23 cst_X7_73 ?_
    exact K_ret (rv := some (.int (-1000001))) dX7_kind_25 rfl rfl rfl
  · refine K_aload_n 0 dX7_kind_11 rfl ?_
    refine K_get (v := .ref 1000) dX7_kind_12 fl_X7_58 kl_11000 rfl (nd_ref h7) ?_
    refine K_get (v := .ref 1012) dX7_kind_15 fl_X7_263 kl_1000 rfl rfl ?_
    refine K_iload_n 1 dX7_kind_18 rfl ?_
    refine K_iald (f := m1 12) dX7_kind_19 kl_1012 rfl ?_
    refine K_goto 25 dX7_kind_20 rfl ?_
    exact K_ret (rv := some (.int (m1 12 x1.toNatClampNeg))) dX7_kind_25 rfl rfl rfl
theorem c_X7_kind {G : GE} (hj : dj G) (m0 m1 m2 m3 m4 m5 m6 m7 m8 m9 m10 m11 : Mem) (x1 : Int32) (h7 : m11 0 7 = 1) {r : Int32} (hr : f_X7_kind m1 x1 = some r) : Ctr G yX7_kind (mi_X7_kind 2) [.ref 11000, .int x1] [m0, m1, m2, m3, m4, m5, m6, m7, m8, m9, m10, m11] ((e_X7_kind m0 m1 m2 m3 m4 m5 m6 m7 m8 m9 m10 m11) r).1 ((e_X7_kind m0 m1 m2 m3 m4 m5 m6 m7 m8 m9 m10 m11) r).2 := Ctr_of hj (by decide) rfl hr rfl (Nat.le_of_ble_eq_true rfl) (k_X7_kind m0 m1 m2 m3 m4 m5 m6 m7 m8 m9 m10 m11 x1 h7)
abbrev e_X7_as (m0 m1 m2 m3 m4 m5 m6 m7 m8 m9 m10 m11 : Mem) : (Int32 × Mem) → Option Value × List Mem := fun r => (some (.int r.1), [m0, m1, m2, m3, m4, m5, m6, m7, m8, m9, m10, r.2])
theorem k_X7_as {G : GE} (m0 m1 m2 m3 m4 m5 m6 m7 m8 m9 m10 m11 : Mem) (x1 : Int32) (x2 : Int32) (h7 : m11 0 7 = 1) : K G (mi_X7_as 2) (e_X7_as m0 m1 m2 m3 m4 m5 m6 m7 m8 m9 m10 m11) 0 [(0, .ref 11000), (1, .int x1), (2, .int x2)] [] [m0, m1, m2, m3, m4, m5, m6, m7, m8, m9, m10, m11] (f_X7_as m1 m11 x1 x2) := by
  unfold f_X7_as
  refine K_aload_n 0 dX7_as_0 rfl ?_
  refine K_get (v := .ref 1000) dX7_as_1 fl_X7_58 kl_11000 rfl (nd_ref h7) ?_
  refine K_iload_n 1 dX7_as_4 rfl ?_
  refine K_callV (E' := e_X3_hasPerson_1 m0 m1 m2 m3 m4 m5 m6 m7 m8 m9 m10 m11) (b := 1000) (As := [.int x1]) (rest := []) dX7_as_5 ml_X7_128 (mf_X3_hasPerson 1) mv_X3_hasPerson (fun hj r hr => c_X3_hasPerson_1 hj m0 m1 m2 m3 m4 m5 m6 m7 m8 m9 m10 m11 x1 hr) (rcv_obj (q := (RX3, TX3, 18)) kl_1000 rfl) rfl rfl (Nat.le_of_ble_eq_true rfl) (Nat.le_of_ble_eq_true rfl) (fun r11 => ?_)
  show K G (mi_X7_as 2) (e_X7_as m0 m1 m2 m3 m4 m5 m6 m7 m8 m9 m10 m11) 8 [(0, .ref 11000), (1, .int x1), (2, .int x2)] [.int r11] [m0, m1, m2, m3, m4, m5, m6, m7, m8, m9, m10, m11] _
  refine K_if_eq 20 dX7_as_8 rfl (fun _ => ?_) (fun _ => ?_)
  · refine K_ldc (v := (-1000001)) dX7_as_20 cst_X7_73 ?_
    exact K_ret (rv := some (.int (-1000001))) dX7_as_22 rfl rfl rfl
  · refine K_iload_n 2 dX7_as_11 rfl ?_
    refine K_if_lt 20 dX7_as_12 rfl (fun _ => ?_) (fun _ => ?_)
    · refine K_ldc (v := (-1000001)) dX7_as_20 cst_X7_73 ?_
      exact K_ret (rv := some (.int (-1000001))) dX7_as_22 rfl rfl rfl
    · refine K_iload_n 2 dX7_as_15 rfl ?_
      refine K_iconst (v := 5) dX7_as_16 (by decide) ?_
      refine K_icmp_le 23 dX7_as_17 rfl (fun _ => ?_) (fun _ => ?_)
      · refine K_aload_n 0 dX7_as_23 rfl ?_
        refine K_get (v := .ref 1000) dX7_as_24 fl_X7_58 kl_11000 rfl (nd_ref h7) ?_
        refine K_get (v := .ref 1012) dX7_as_27 fl_X7_263 kl_1000 rfl rfl ?_
        refine K_iload_n 1 dX7_as_30 rfl ?_
        refine K_iald (f := m1 12) dX7_as_31 kl_1012 rfl ?_
        refine K_iload_n 2 dX7_as_32 rfl ?_
        refine K_callS (E' := e_X7_isOfKind [m0, m1, m2, m3, m4, m5, m6, m7, m8, m9, m10, m11]) (As := [.int (m1 12 x1.toNatClampNeg), .int x2]) (rest := []) dX7_as_33 ml_X7_266 (mf_X7_isOfKind 1) ms_X7_isOfKind (fun hj r hr => c_X7_isOfKind hj [m0, m1, m2, m3, m4, m5, m6, m7, m8, m9, m10, m11] (m1 12 x1.toNatClampNeg) x2 hr) rfl rfl (Nat.le_of_ble_eq_true rfl) (Nat.le_of_ble_eq_true rfl) (fun r12 => ?_)
        show K G (mi_X7_as 2) (e_X7_as m0 m1 m2 m3 m4 m5 m6 m7 m8 m9 m10 m11) 36 [(0, .ref 11000), (1, .int x1), (2, .int x2)] [.int r12] [m0, m1, m2, m3, m4, m5, m6, m7, m8, m9, m10, m11] _
        refine K_if_eq 47 dX7_as_36 rfl (fun _ => ?_) (fun _ => ?_)
        · refine K_aload_n 0 dX7_as_47 rfl ?_
          refine K_iconst (v := 3) dX7_as_48 (by decide) ?_
          refine K_callV (E' := e_X7_found m0 m1 m2 m3 m4 m5 m6 m7 m8 m9 m10 m11) (b := 11000) (As := [.int 3]) (rest := []) dX7_as_49 ml_X7_74 (mf_X7_found 1) mv_X7_found (fun hj r hr => c_X7_found hj m0 m1 m2 m3 m4 m5 m6 m7 m8 m9 m10 m11 (3 : Int32) hr) (rcv_obj (q := (RX7, TX7, 10)) kl_11000 rfl) rfl rfl (Nat.le_of_ble_eq_true rfl) (Nat.le_of_ble_eq_true rfl) (fun r13 => ?_)
          show K G (mi_X7_as 2) (e_X7_as m0 m1 m2 m3 m4 m5 m6 m7 m8 m9 m10 m11) 52 [(0, .ref 11000), (1, .int x1), (2, .int x2)] [.int r13.1] [m0, m1, m2, m3, m4, m5, m6, m7, m8, m9, m10, r13.2] _
          exact K_ret (rv := some (.int r13.1)) dX7_as_52 rfl rfl rfl
        · refine K_aload_n 0 dX7_as_39 rfl ?_
          refine K_iload_n 1 dX7_as_40 rfl ?_
          refine K_callV (E' := e_X7_fine m0 m1 m2 m3 m4 m5 m6 m7 m8 m9 m10 m11) (b := 11000) (As := [.int x1]) (rest := []) dX7_as_41 ml_X7_82 (mf_X7_fine 1) mv_X7_fine (fun hj r hr => c_X7_fine hj m0 m1 m2 m3 m4 m5 m6 m7 m8 m9 m10 m11 x1 hr) (rcv_obj (q := (RX7, TX7, 10)) kl_11000 rfl) rfl rfl (Nat.le_of_ble_eq_true rfl) (Nat.le_of_ble_eq_true rfl) (fun r14 => ?_)
          show K G (mi_X7_as 2) (e_X7_as m0 m1 m2 m3 m4 m5 m6 m7 m8 m9 m10 m11) 44 [(0, .ref 11000), (1, .int x1), (2, .int x2)] [.int r14.1] [m0, m1, m2, m3, m4, m5, m6, m7, m8, m9, m10, r14.2] _
          refine K_goto 52 dX7_as_44 rfl ?_
          exact K_ret (rv := some (.int r14.1)) dX7_as_52 rfl rfl rfl
      · refine K_ldc (v := (-1000001)) dX7_as_20 cst_X7_73 ?_
        exact K_ret (rv := some (.int (-1000001))) dX7_as_22 rfl rfl rfl
theorem c_X7_as {G : GE} (hj : dj G) (m0 m1 m2 m3 m4 m5 m6 m7 m8 m9 m10 m11 : Mem) (x1 : Int32) (x2 : Int32) (h7 : m11 0 7 = 1) {r : Int32 × Mem} (hr : f_X7_as m1 m11 x1 x2 = some r) : Ctr G yX7_as (mi_X7_as 2) [.ref 11000, .int x1, .int x2] [m0, m1, m2, m3, m4, m5, m6, m7, m8, m9, m10, m11] ((e_X7_as m0 m1 m2 m3 m4 m5 m6 m7 m8 m9 m10 m11) r).1 ((e_X7_as m0 m1 m2 m3 m4 m5 m6 m7 m8 m9 m10 m11) r).2 := Ctr_of hj (by decide) rfl hr rfl (Nat.le_of_ble_eq_true rfl) (k_X7_as m0 m1 m2 m3 m4 m5 m6 m7 m8 m9 m10 m11 x1 x2 h7)
abbrev e_X0_begin (m0 m1 m2 m3 m4 m5 m6 m7 m8 m9 m10 m11 : Mem) : (Int32 × Mem) → Option Value × List Mem := fun r => (some (.int r.1), [m0, m1, m2, m3, m4, m5, m6, m7, r.2, m9, m10, m11])
abbrev e_X0_pose (m0 m1 m2 m3 m4 m5 m6 m7 m8 m9 m10 m11 : Mem) : (Int32 × Mem) → Option Value × List Mem := fun r => (some (.int r.1), [m0, m1, m2, m3, m4, m5, m6, m7, r.2, m9, m10, m11])
theorem k_X0_pose_L26 {G : GE} (d : Nat) (fs : Mem → Mem → Int32 → Int32 → Int32 → Option (Int32 × Mem)) (hfs : dj G → ∀ (m0 m1 m2 m3 m4 m5 m6 m7 m8 m9 m10 m11 : Mem) (x2 : Int32) (x3 : Int32) (x4 : Int32) (r : Int32 × Mem), fs m1 m8 x2 x3 x4 = some r → Ctr G yX0_begin (mi_X0_begin (d + 0)) [.ref 8000, .ref 1000, .int x2, .int x3, .int x4] [m0, m1, m2, m3, m4, m5, m6, m7, m8, m9, m10, m11] ((e_X0_begin m0 m1 m2 m3 m4 m5 m6 m7 m8 m9 m10 m11) r).1 ((e_X0_begin m0 m1 m2 m3 m4 m5 m6 m7 m8 m9 m10 m11) r).2) (m0 m1 m2 m3 m4 m5 m6 m7 m8 m9 m10 m11 : Mem) (x2 : Int32) (x4 : Int32) (k : Int32 → Int32 → Option (Int32 × Mem)) (hk : ∀ (u12 : Int32) (u13 : Int32), K G (mi_X0_pose (d + 1)) (e_X0_pose m0 m1 m2 m3 m4 m5 m6 m7 m8 m9 m10 m11) 61 [(0, .ref 8000), (1, .ref 1000), (2, .int x2), (4, .int x4), (5, .ref 22002), (6, .int u12), (7, .int u13)] [] [m0, m1, m2, m3, m4, m5, m6, m7, m8, m9, m10, m11] (k u12 u13)) : ∀ (t : Nat) (u12 : Int32) (u13 : Int32), K G (mi_X0_pose (d + 1)) (e_X0_pose m0 m1 m2 m3 m4 m5 m6 m7 m8 m9 m10 m11) 26 [(0, .ref 8000), (1, .ref 1000), (2, .int x2), (4, .int x4), (5, .ref 22002), (6, .int u12), (7, .int u13)] [] [m0, m1, m2, m3, m4, m5, m6, m7, m8, m9, m10, m11] (f_X0_pose_L26 fs k t u12 u13) := by
  intro t
  induction t with
  | zero => intro u12 u13; exact K_none
  | succ t ih =>
    intro u12 u13
    rw [f_X0_pose_L26]
    refine K_iload 6 dX0_pose_26 rfl ?_
    refine K_aload 4 dX0_pose_28 rfl ?_
    refine K_tlen (i := 2) (by decide) dX0_pose_30 ?_
    refine K_icmp_ge 61 dX0_pose_31 rfl (fun _ => ?_) (fun _ => ?_)
    · refine K_loc [0, 1, 2, 3, 4, 5, 6] (lv' := [(0, .ref 8000), (1, .ref 1000), (2, .int x2), (4, .int x4), (5, .ref 22002), (6, .int u12), (7, .int u13)]) rfl ?_
      exact hk u12 u13
    · refine K_iload 5 dX0_pose_34 rfl ?_
      refine K_if_le 61 dX0_pose_36 rfl (fun _ => ?_) (fun _ => ?_)
      · refine K_loc [0, 1, 2, 3, 4, 5, 6] (lv' := [(0, .ref 8000), (1, .ref 1000), (2, .int x2), (4, .int x4), (5, .ref 22002), (6, .int u12), (7, .int u13)]) rfl ?_
        exact hk u12 u13
      · refine K_aload 4 dX0_pose_39 rfl ?_
        refine K_iload 5 dX0_pose_41 rfl ?_
        refine K_tald (i := 2) (by decide) dX0_pose_43 ?_
        refine K_if_ne 61 dX0_pose_44 rfl (fun _ => ?_) (fun _ => ?_)
        · refine K_loc [0, 1, 2, 3, 4, 5, 6] (lv' := [(0, .ref 8000), (1, .ref 1000), (2, .int x2), (4, .int x4), (5, .ref 22002), (6, .int u12), (7, .int u13)]) rfl ?_
          exact hk u12 u13
        · refine K_gets dX0_pose_47 sl_X0_30 ?_
          refine K_iload 5 dX0_pose_50 rfl ?_
          refine K_tald (i := 0) (by decide) dX0_pose_52 ?_
          refine K_nmi (fun x14 => ?_)
          refine K_istore (lv' := [(6, .int x14), (0, .ref 8000), (1, .ref 1000), (2, .int x2), (4, .int x4), (5, .ref 22002), (7, .int u13)]) dX0_pose_53 (Nat.le_of_ble_eq_true rfl) rfl ?_
          refine K_iinc 6 (w := u13 + 1) (lv' := [(7, .int (u13 + 1)), (6, .int x14), (0, .ref 8000), (1, .ref 1000), (2, .int x2), (4, .int x4), (5, .ref 22002)]) dX0_pose_55 rfl rfl (Nat.le_of_ble_eq_true rfl) rfl ?_
          refine K_goto 26 dX0_pose_58 rfl ?_
          refine K_loc [2, 3, 4, 5, 6, 1, 0] (lv' := [(0, .ref 8000), (1, .ref 1000), (2, .int x2), (4, .int x4), (5, .ref 22002), (6, .int x14), (7, .int (u13 + 1))]) rfl ?_
          exact ih x14 (u13 + 1)
theorem k_X0_pose_L26b {G : GE} (d : Nat) (fs : Mem → Mem → Int32 → Int32 → Int32 → Option (Int32 × Mem)) (hfs : dj G → ∀ (m0 m1 m2 m3 m4 m5 m6 m7 m8 m9 m10 m11 : Mem) (x2 : Int32) (x3 : Int32) (x4 : Int32) (r : Int32 × Mem), fs m1 m8 x2 x3 x4 = some r → Ctr G yX0_begin (mi_X0_begin (d + 0)) [.ref 8000, .ref 1000, .int x2, .int x3, .int x4] [m0, m1, m2, m3, m4, m5, m6, m7, m8, m9, m10, m11] ((e_X0_begin m0 m1 m2 m3 m4 m5 m6 m7 m8 m9 m10 m11) r).1 ((e_X0_begin m0 m1 m2 m3 m4 m5 m6 m7 m8 m9 m10 m11) r).2) (m0 m1 m2 m3 m4 m5 m6 m7 m8 m9 m10 m11 : Mem) (x2 : Int32) (x4 : Int32) (k : Int32 → Int32 → Option (Int32 × Mem)) (hk : ∀ (u19 : Int32) (u20 : Int32), K G (mi_X0_pose (d + 1)) (e_X0_pose m0 m1 m2 m3 m4 m5 m6 m7 m8 m9 m10 m11) 61 [(0, .ref 8000), (1, .ref 1000), (2, .int x2), (4, .int x4), (5, .ref 22001), (6, .int u19), (7, .int u20)] [] [m0, m1, m2, m3, m4, m5, m6, m7, m8, m9, m10, m11] (k u19 u20)) : ∀ (t : Nat) (u19 : Int32) (u20 : Int32), K G (mi_X0_pose (d + 1)) (e_X0_pose m0 m1 m2 m3 m4 m5 m6 m7 m8 m9 m10 m11) 26 [(0, .ref 8000), (1, .ref 1000), (2, .int x2), (4, .int x4), (5, .ref 22001), (6, .int u19), (7, .int u20)] [] [m0, m1, m2, m3, m4, m5, m6, m7, m8, m9, m10, m11] (f_X0_pose_L26b fs k t u19 u20) := by
  intro t
  induction t with
  | zero => intro u19 u20; exact K_none
  | succ t ih =>
    intro u19 u20
    rw [f_X0_pose_L26b]
    refine K_iload 6 dX0_pose_26 rfl ?_
    refine K_aload 4 dX0_pose_28 rfl ?_
    refine K_tlen (i := 1) (by decide) dX0_pose_30 ?_
    refine K_icmp_ge 61 dX0_pose_31 rfl (fun _ => ?_) (fun _ => ?_)
    · refine K_loc [0, 1, 2, 3, 4, 5, 6] (lv' := [(0, .ref 8000), (1, .ref 1000), (2, .int x2), (4, .int x4), (5, .ref 22001), (6, .int u19), (7, .int u20)]) rfl ?_
      exact hk u19 u20
    · refine K_iload 5 dX0_pose_34 rfl ?_
      refine K_if_le 61 dX0_pose_36 rfl (fun _ => ?_) (fun _ => ?_)
      · refine K_loc [0, 1, 2, 3, 4, 5, 6] (lv' := [(0, .ref 8000), (1, .ref 1000), (2, .int x2), (4, .int x4), (5, .ref 22001), (6, .int u19), (7, .int u20)]) rfl ?_
        exact hk u19 u20
      · refine K_aload 4 dX0_pose_39 rfl ?_
        refine K_iload 5 dX0_pose_41 rfl ?_
        refine K_tald (i := 1) (by decide) dX0_pose_43 ?_
        refine K_if_ne 61 dX0_pose_44 rfl (fun _ => ?_) (fun _ => ?_)
        · refine K_loc [0, 1, 2, 3, 4, 5, 6] (lv' := [(0, .ref 8000), (1, .ref 1000), (2, .int x2), (4, .int x4), (5, .ref 22001), (6, .int u19), (7, .int u20)]) rfl ?_
          exact hk u19 u20
        · refine K_gets dX0_pose_47 sl_X0_30 ?_
          refine K_iload 5 dX0_pose_50 rfl ?_
          refine K_tald (i := 0) (by decide) dX0_pose_52 ?_
          refine K_nmi (fun x21 => ?_)
          refine K_istore (lv' := [(6, .int x21), (0, .ref 8000), (1, .ref 1000), (2, .int x2), (4, .int x4), (5, .ref 22001), (7, .int u20)]) dX0_pose_53 (Nat.le_of_ble_eq_true rfl) rfl ?_
          refine K_iinc 6 (w := u20 + 1) (lv' := [(7, .int (u20 + 1)), (6, .int x21), (0, .ref 8000), (1, .ref 1000), (2, .int x2), (4, .int x4), (5, .ref 22001)]) dX0_pose_55 rfl rfl (Nat.le_of_ble_eq_true rfl) rfl ?_
          refine K_goto 26 dX0_pose_58 rfl ?_
          refine K_loc [2, 3, 4, 5, 6, 1, 0] (lv' := [(0, .ref 8000), (1, .ref 1000), (2, .int x2), (4, .int x4), (5, .ref 22001), (6, .int x21), (7, .int (u20 + 1))]) rfl ?_
          exact ih x21 (u20 + 1)
theorem k_X0_pose {G : GE} (d : Nat) (fs : Mem → Mem → Int32 → Int32 → Int32 → Option (Int32 × Mem)) (hfs : dj G → ∀ (m0 m1 m2 m3 m4 m5 m6 m7 m8 m9 m10 m11 : Mem) (x2 : Int32) (x3 : Int32) (x4 : Int32) (r : Int32 × Mem), fs m1 m8 x2 x3 x4 = some r → Ctr G yX0_begin (mi_X0_begin (d + 0)) [.ref 8000, .ref 1000, .int x2, .int x3, .int x4] [m0, m1, m2, m3, m4, m5, m6, m7, m8, m9, m10, m11] ((e_X0_begin m0 m1 m2 m3 m4 m5 m6 m7 m8 m9 m10 m11) r).1 ((e_X0_begin m0 m1 m2 m3 m4 m5 m6 m7 m8 m9 m10 m11) r).2) (m0 m1 m2 m3 m4 m5 m6 m7 m8 m9 m10 m11 : Mem) (x2 : Int32) (x3 : Int32) (x4 : Int32) : K G (mi_X0_pose (d + 1)) (e_X0_pose m0 m1 m2 m3 m4 m5 m6 m7 m8 m9 m10 m11) 0 [(0, .ref 8000), (1, .ref 1000), (2, .int x2), (3, .int x3), (4, .int x4)] [] [m0, m1, m2, m3, m4, m5, m6, m7, m8, m9, m10, m11] (f_X0_pose fs m1 m8 x2 x3 x4) := by
  unfold f_X0_pose
  refine K_iload_n 3 dX0_pose_0 rfl ?_
  refine K_if_ne 10 dX0_pose_1 rfl (fun _ => ?_) (fun _ => ?_)
  · refine K_gets dX0_pose_10 sl_X0_22 ?_
    refine K_astore (lv' := [(5, .ref 22002), (0, .ref 8000), (1, .ref 1000), (2, .int x2), (3, .int x3), (4, .int x4)]) dX0_pose_13 (Nat.le_of_ble_eq_true rfl) rfl ?_
    refine K_aload_n 2 dX0_pose_15 rfl ?_
    refine K_get (v := .ref 1012) dX0_pose_16 fl_X0_25 kl_1000 rfl rfl ?_
    refine K_iload_n 3 dX0_pose_19 rfl ?_
    refine K_iald (f := m1 12) dX0_pose_20 kl_1012 rfl ?_
    refine K_nmi (fun x11 => ?_)
    refine K_istore (lv' := [(6, .int x11), (5, .ref 22002), (0, .ref 8000), (1, .ref 1000), (2, .int x2), (3, .int x3), (4, .int x4)]) dX0_pose_21 (Nat.le_of_ble_eq_true rfl) rfl ?_
    refine K_iconst (v := 0) dX0_pose_23 (by decide) ?_
    refine K_istore (lv' := [(7, .int 0), (6, .int x11), (5, .ref 22002), (0, .ref 8000), (1, .ref 1000), (2, .int x2), (3, .int x3), (4, .int x4)]) dX0_pose_24 (Nat.le_of_ble_eq_true rfl) rfl ?_
    refine K_loc [3, 4, 5, 7, 2, 1, 0] (lv' := [(0, .ref 8000), (1, .ref 1000), (2, .int x2), (4, .int x4), (5, .ref 22002), (6, .int x11), (7, .int 0)]) rfl ?_
    refine k_X0_pose_L26 d fs hfs  m0 m1 m2 m3 m4 m5 m6 m7 m8 m9 m10 m11 x2 x4 _ (fun u15 u16 => ?_) 100000 x11 0
    refine K_aload_n 0 dX0_pose_61 rfl ?_
    refine K_aload_n 1 dX0_pose_62 rfl ?_
    refine K_iload_n 2 dX0_pose_63 rfl ?_
    refine K_aload 4 dX0_pose_64 rfl ?_
    refine K_iload 5 dX0_pose_66 rfl ?_
    refine K_iconst (v := 0) dX0_pose_68 (by decide) ?_
    refine K_max dX0_pose_69 mlk_X0_33 mth_max.1 mth_max.2.1 mth_max.2.2 (show 1 ≤ d + 1 by omega) (Nat.le_of_ble_eq_true rfl) ?_
    refine K_tald (i := 2) (by decide) dX0_pose_72 ?_
    refine K_iload 3 dX0_pose_73 rfl ?_
    refine K_callV (E' := e_X0_begin m0 m1 m2 m3 m4 m5 m6 m7 m8 m9 m10 m11) (b := 8000) (As := [.ref 1000, .int x2, .int (sta 2 (if u15 < (0 : Int32) then (0 : Int32) else u15).toNatClampNeg), .int x4]) (rest := []) dX0_pose_75 ml_X0_39 (mf_X0_begin d) mv_X0_begin (fun hj r hr => hfs hj m0 m1 m2 m3 m4 m5 m6 m7 m8 m9 m10 m11 x2 (sta 2 (if u15 < (0 : Int32) then (0 : Int32) else u15).toNatClampNeg) x4 r hr) (rcv_obj (q := (RX0, TX0, 2)) kl_8000 rfl) rfl rfl (Nat.le_of_ble_eq_true rfl) (show d < d + 1 by omega) (fun r17 => ?_)
    show K G (mi_X0_pose (d + 1)) (e_X0_pose m0 m1 m2 m3 m4 m5 m6 m7 m8 m9 m10 m11) 78 [(0, .ref 8000), (1, .ref 1000), (2, .int x2), (4, .int x4), (5, .ref 22002), (6, .int u15), (7, .int u16)] [.int r17.1] [m0, m1, m2, m3, m4, m5, m6, m7, r17.2, m9, m10, m11] _
    exact K_ret (rv := some (.int r17.1)) dX0_pose_78 rfl rfl rfl
  · refine K_gets dX0_pose_4 sl_X0_19 ?_
    refine K_goto 13 dX0_pose_7 rfl ?_
    refine K_astore (lv' := [(5, .ref 22001), (0, .ref 8000), (1, .ref 1000), (2, .int x2), (3, .int x3), (4, .int x4)]) dX0_pose_13 (Nat.le_of_ble_eq_true rfl) rfl ?_
    refine K_aload_n 2 dX0_pose_15 rfl ?_
    refine K_get (v := .ref 1012) dX0_pose_16 fl_X0_25 kl_1000 rfl rfl ?_
    refine K_iload_n 3 dX0_pose_19 rfl ?_
    refine K_iald (f := m1 12) dX0_pose_20 kl_1012 rfl ?_
    refine K_nmi (fun x18 => ?_)
    refine K_istore (lv' := [(6, .int x18), (5, .ref 22001), (0, .ref 8000), (1, .ref 1000), (2, .int x2), (3, .int x3), (4, .int x4)]) dX0_pose_21 (Nat.le_of_ble_eq_true rfl) rfl ?_
    refine K_iconst (v := 0) dX0_pose_23 (by decide) ?_
    refine K_istore (lv' := [(7, .int 0), (6, .int x18), (5, .ref 22001), (0, .ref 8000), (1, .ref 1000), (2, .int x2), (3, .int x3), (4, .int x4)]) dX0_pose_24 (Nat.le_of_ble_eq_true rfl) rfl ?_
    refine K_loc [3, 4, 5, 7, 2, 1, 0] (lv' := [(0, .ref 8000), (1, .ref 1000), (2, .int x2), (4, .int x4), (5, .ref 22001), (6, .int x18), (7, .int 0)]) rfl ?_
    refine k_X0_pose_L26b d fs hfs  m0 m1 m2 m3 m4 m5 m6 m7 m8 m9 m10 m11 x2 x4 _ (fun u22 u23 => ?_) 100000 x18 0
    refine K_aload_n 0 dX0_pose_61 rfl ?_
    refine K_aload_n 1 dX0_pose_62 rfl ?_
    refine K_iload_n 2 dX0_pose_63 rfl ?_
    refine K_aload 4 dX0_pose_64 rfl ?_
    refine K_iload 5 dX0_pose_66 rfl ?_
    refine K_iconst (v := 0) dX0_pose_68 (by decide) ?_
    refine K_max dX0_pose_69 mlk_X0_33 mth_max.1 mth_max.2.1 mth_max.2.2 (show 1 ≤ d + 1 by omega) (Nat.le_of_ble_eq_true rfl) ?_
    refine K_tald (i := 1) (by decide) dX0_pose_72 ?_
    refine K_iload 3 dX0_pose_73 rfl ?_
    refine K_callV (E' := e_X0_begin m0 m1 m2 m3 m4 m5 m6 m7 m8 m9 m10 m11) (b := 8000) (As := [.ref 1000, .int x2, .int (sta 1 (if u22 < (0 : Int32) then (0 : Int32) else u22).toNatClampNeg), .int x4]) (rest := []) dX0_pose_75 ml_X0_39 (mf_X0_begin d) mv_X0_begin (fun hj r hr => hfs hj m0 m1 m2 m3 m4 m5 m6 m7 m8 m9 m10 m11 x2 (sta 1 (if u22 < (0 : Int32) then (0 : Int32) else u22).toNatClampNeg) x4 r hr) (rcv_obj (q := (RX0, TX0, 2)) kl_8000 rfl) rfl rfl (Nat.le_of_ble_eq_true rfl) (show d < d + 1 by omega) (fun r24 => ?_)
    show K G (mi_X0_pose (d + 1)) (e_X0_pose m0 m1 m2 m3 m4 m5 m6 m7 m8 m9 m10 m11) 78 [(0, .ref 8000), (1, .ref 1000), (2, .int x2), (4, .int x4), (5, .ref 22001), (6, .int u22), (7, .int u23)] [.int r24.1] [m0, m1, m2, m3, m4, m5, m6, m7, r24.2, m9, m10, m11] _
    exact K_ret (rv := some (.int r24.1)) dX0_pose_78 rfl rfl rfl
theorem c_X0_pose {G : GE} (d : Nat) (fs : Mem → Mem → Int32 → Int32 → Int32 → Option (Int32 × Mem)) (hfs : dj G → ∀ (m0 m1 m2 m3 m4 m5 m6 m7 m8 m9 m10 m11 : Mem) (x2 : Int32) (x3 : Int32) (x4 : Int32) (r : Int32 × Mem), fs m1 m8 x2 x3 x4 = some r → Ctr G yX0_begin (mi_X0_begin (d + 0)) [.ref 8000, .ref 1000, .int x2, .int x3, .int x4] [m0, m1, m2, m3, m4, m5, m6, m7, m8, m9, m10, m11] ((e_X0_begin m0 m1 m2 m3 m4 m5 m6 m7 m8 m9 m10 m11) r).1 ((e_X0_begin m0 m1 m2 m3 m4 m5 m6 m7 m8 m9 m10 m11) r).2) (hj : dj G) (m0 m1 m2 m3 m4 m5 m6 m7 m8 m9 m10 m11 : Mem) (x2 : Int32) (x3 : Int32) (x4 : Int32) {r : Int32 × Mem} (hr : f_X0_pose fs m1 m8 x2 x3 x4 = some r) : Ctr G yX0_pose (mi_X0_pose (d + 1)) [.ref 8000, .ref 1000, .int x2, .int x3, .int x4] [m0, m1, m2, m3, m4, m5, m6, m7, m8, m9, m10, m11] ((e_X0_pose m0 m1 m2 m3 m4 m5 m6 m7 m8 m9 m10 m11) r).1 ((e_X0_pose m0 m1 m2 m3 m4 m5 m6 m7 m8 m9 m10 m11) r).2 := Ctr_of hj (by decide) rfl hr rfl (Nat.le_of_ble_eq_true rfl) (k_X0_pose d fs hfs m0 m1 m2 m3 m4 m5 m6 m7 m8 m9 m10 m11 x2 x3 x4)
abbrev e_X0_leave (m0 m1 m2 m3 m4 m5 m6 m7 m8 m9 m10 m11 : Mem) : Mem → Option Value × List Mem := fun r => (none, [m0, m1, m2, m3, m4, m5, m6, m7, r, m9, m10, m11])
theorem k_X0_leave {G : GE} (m0 m1 m2 m3 m4 m5 m6 m7 m8 m9 m10 m11 : Mem) (x1 : Int32) : K G (mi_X0_leave 1) (e_X0_leave m0 m1 m2 m3 m4 m5 m6 m7 m8 m9 m10 m11) 0 [(0, .ref 8000), (1, .int x1)] [] [m0, m1, m2, m3, m4, m5, m6, m7, m8, m9, m10, m11] (f_X0_leave m8 x1) := by
  unfold f_X0_leave
  refine K_aload_n 0 dX0_leave_0 rfl ?_
  refine K_get (v := .int (m8 0 1)) dX0_leave_1 fl_X0_15 kl_8000 rfl rfl ?_
  refine K_bipush (v := 16) dX0_leave_4 (by decide) ?_
  refine K_icmp_ge 29 dX0_leave_6 rfl (fun _ => ?_) (fun _ => ?_)
  · exact K_ret (rv := none) dX0_leave_29 trivial rfl rfl
  · refine K_aload_n 0 dX0_leave_9 rfl ?_
    refine K_get (v := .ref 8001) dX0_leave_10 fl_X0_9 kl_8000 rfl rfl ?_
    refine K_aload_n 0 dX0_leave_13 rfl ?_
    refine K_get (v := .int (m8 0 1)) dX0_leave_14 fl_X0_15 kl_8000 rfl rfl ?_
    refine K_iload_n 1 dX0_leave_17 rfl ?_
    refine K_iast (Ms' := [m0, m1, m2, m3, m4, m5, m6, m7, (up m8 1 (m8 0 1).toNatClampNeg x1), m9, m10, m11]) dX0_leave_18 kl_8001 (Nat.le_of_ble_eq_true rfl) rfl ?_
    refine K_nmm (fun w => [m0, m1, m2, m3, m4, m5, m6, m7, w, m9, m10, m11]) rfl (fun w11 => ?_)
    refine K_aload_n 0 dX0_leave_19 rfl ?_
    refine K_dup dX0_leave_20 rfl ?_
    refine K_get (v := .int (w11 0 1)) dX0_leave_21 fl_X0_15 kl_8000 rfl rfl ?_
    refine K_iconst (v := 1) dX0_leave_24 (by decide) ?_
    refine K_iadd dX0_leave_25 ?_
    refine K_put (Ms' := [m0, m1, m2, m3, m4, m5, m6, m7, (up w11 0 1 ((w11 0 1) + 1)), m9, m10, m11]) dX0_leave_26 fp_X0_15 kl_8000 rfl rfl rfl (Nat.le_of_ble_eq_true rfl) rfl ?_
    refine K_nmm (fun w => [m0, m1, m2, m3, m4, m5, m6, m7, w, m9, m10, m11]) rfl (fun w12 => ?_)
    exact K_ret (rv := none) dX0_leave_29 trivial rfl rfl
theorem c_X0_leave {G : GE} (hj : dj G) (m0 m1 m2 m3 m4 m5 m6 m7 m8 m9 m10 m11 : Mem) (x1 : Int32) {r : Mem} (hr : f_X0_leave m8 x1 = some r) : Ctr G yX0_leave (mi_X0_leave 1) [.ref 8000, .int x1] [m0, m1, m2, m3, m4, m5, m6, m7, m8, m9, m10, m11] ((e_X0_leave m0 m1 m2 m3 m4 m5 m6 m7 m8 m9 m10 m11) r).1 ((e_X0_leave m0 m1 m2 m3 m4 m5 m6 m7 m8 m9 m10 m11) r).2 := Ctr_of hj (by decide) rfl hr rfl (Nat.le_of_ble_eq_true rfl) (k_X0_leave m0 m1 m2 m3 m4 m5 m6 m7 m8 m9 m10 m11 x1)
theorem k_X0_begin {G : GE} (d : Nat) (fs : Mem → Mem → Int32 → Int32 → Int32 → Option (Int32 × Mem)) (hfs : dj G → ∀ (m0 m1 m2 m3 m4 m5 m6 m7 m8 m9 m10 m11 : Mem) (x2 : Int32) (x3 : Int32) (x4 : Int32) (r : Int32 × Mem), fs m1 m8 x2 x3 x4 = some r → Ctr G yX0_begin (mi_X0_begin (d + 4)) [.ref 8000, .ref 1000, .int x2, .int x3, .int x4] [m0, m1, m2, m3, m4, m5, m6, m7, m8, m9, m10, m11] ((e_X0_begin m0 m1 m2 m3 m4 m5 m6 m7 m8 m9 m10 m11) r).1 ((e_X0_begin m0 m1 m2 m3 m4 m5 m6 m7 m8 m9 m10 m11) r).2) (m0 m1 m2 m3 m4 m5 m6 m7 m8 m9 m10 m11 : Mem) (x2 : Int32) (x3 : Int32) (x4 : Int32) : K G (mi_X0_begin (d + 6)) (e_X0_begin m0 m1 m2 m3 m4 m5 m6 m7 m8 m9 m10 m11) 0 [(0, .ref 8000), (1, .ref 1000), (2, .int x2), (3, .int x3), (4, .int x4)] [] [m0, m1, m2, m3, m4, m5, m6, m7, m8, m9, m10, m11] (f_X0_begin_B fs m1 m8 x2 x3 x4) := by
  unfold f_X0_begin_B
  refine K_iload 4 dX0_begin_0 rfl ?_
  refine K_bipush (v := 16) dX0_begin_2 (by decide) ?_
  refine K_icmp_le 9 dX0_begin_4 rfl (fun _ => ?_) (fun _ => ?_)
  · refine K_aload_n 0 dX0_begin_9 rfl ?_
    refine K_iload_n 3 dX0_begin_10 rfl ?_
    refine K_callV (E' := e_X0_leave m0 m1 m2 m3 m4 m5 m6 m7 m8 m9 m10 m11) (b := 8000) (As := [.int x3]) (rest := []) dX0_begin_11 ml_X0_43 (mf_X0_leave 1) mv_X0_leave (fun hj r hr => c_X0_leave hj m0 m1 m2 m3 m4 m5 m6 m7 m8 m9 m10 m11 x3 hr) (rcv_obj (q := (RX0, TX0, 2)) kl_8000 rfl) rfl rfl (Nat.le_of_ble_eq_true rfl) (show 1 < d + 6 by omega) (fun r11 => ?_)
    show K G (mi_X0_begin (d + 6)) (e_X0_begin m0 m1 m2 m3 m4 m5 m6 m7 m8 m9 m10 m11) 14 [(0, .ref 8000), (1, .ref 1000), (2, .int x2), (3, .int x3), (4, .int x4)] [] [m0, m1, m2, m3, m4, m5, m6, m7, r11, m9, m10, m11] _
    refine K_iload 4 dX0_begin_14 rfl ?_
    refine K_iconst (v := 1) dX0_begin_16 (by decide) ?_
    refine K_iadd dX0_begin_17 ?_
    refine K_nmi (fun x12 => ?_)
    refine K_istore (lv' := [(5, .int x12), (0, .ref 8000), (1, .ref 1000), (2, .int x2), (3, .int x3), (4, .int x4)]) dX0_begin_18 (Nat.le_of_ble_eq_true rfl) rfl ?_
    refine K_iload_n 4 dX0_begin_20 rfl ?_
    refine K_ite (c := x3 = 10) (fun hs10 => ?_) (fun hs10 => ?_)
    · refine K_tabIn (off := 71) 92 dX0_begin_21 (by rw [hs10]; decide) (by rw [hs10]; decide) (by rw [hs10]; rfl) rfl ?_
      refine K_aload_n 2 dX0_begin_92 rfl ?_
      refine K_get (v := .ref 1014) dX0_begin_93 fl_X0_47 kl_1000 rfl rfl ?_
      refine K_iload_n 3 dX0_begin_96 rfl ?_
      refine K_iald (f := m1 14) dX0_begin_97 kl_1014 rfl ?_
      exact K_ret (rv := some (.int (m1 14 x2.toNatClampNeg))) dX0_begin_98 rfl rfl rfl
    refine K_ite (c := x3 = 11) (fun hs11 => ?_) (fun hs11 => ?_)
    · refine K_tabIn (off := 78) 99 dX0_begin_21 (by rw [hs11]; decide) (by rw [hs11]; decide) (by rw [hs11]; rfl) rfl ?_
      refine K_aload_n 1 dX0_begin_99 rfl ?_
      refine K_aload_n 2 dX0_begin_100 rfl ?_
      refine K_iload_n 3 dX0_begin_101 rfl ?_
      refine K_bipush (v := 10) dX0_begin_102 (by decide) ?_
      refine K_iload 0 dX0_begin_104 rfl ?_
      refine K_callV (E' := e_X0_begin m0 m1 m2 m3 m4 m5 m6 m7 r11 m9 m10 m11) (b := 8000) (As := [.ref 1000, .int x2, .int 10, .int x12]) (rest := []) dX0_begin_106 ml_X0_39 (mf_X0_begin (d + 4)) mv_X0_begin (fun hj r hr => hfs hj m0 m1 m2 m3 m4 m5 m6 m7 r11 m9 m10 m11 x2 (10 : Int32) x12 r hr) (rcv_obj (q := (RX0, TX0, 2)) kl_8000 rfl) rfl rfl (Nat.le_of_ble_eq_true rfl) (show (d + 4) < d + 6 by omega) (fun r13 => ?_)
      show K G (mi_X0_begin (d + 6)) (e_X0_begin m0 m1 m2 m3 m4 m5 m6 m7 m8 m9 m10 m11) 109 [(5, .int x12), (0, .ref 8000), (1, .ref 1000), (2, .int x2), (3, .int x3), (4, .int x4)] [.int r13.1] [m0, m1, m2, m3, m4, m5, m6, m7, r13.2, m9, m10, m11] _
      refine K_aload_n 1 dX0_begin_109 rfl ?_
      refine K_aload_n 2 dX0_begin_110 rfl ?_
      refine K_iload_n 3 dX0_begin_111 rfl ?_
      refine K_iconst (v := 1) dX0_begin_112 (by decide) ?_
      refine K_iload 0 dX0_begin_113 rfl ?_
      refine K_callV (E' := e_X0_pose m0 m1 m2 m3 m4 m5 m6 m7 r13.2 m9 m10 m11) (b := 8000) (As := [.ref 1000, .int x2, .int 1, .int x12]) (rest := [.int r13.1]) dX0_begin_115 ml_X0_50 (mf_X0_pose (d + 4 + 1)) mv_X0_pose (fun hj r hr => c_X0_pose (d + 4) fs hfs hj m0 m1 m2 m3 m4 m5 m6 m7 r13.2 m9 m10 m11 x2 (1 : Int32) x12 hr) (rcv_obj (q := (RX0, TX0, 2)) kl_8000 rfl) rfl rfl (Nat.le_of_ble_eq_true rfl) (show (d + 4 + 1) < d + 6 by omega) (fun r14 => ?_)
      show K G (mi_X0_begin (d + 6)) (e_X0_begin m0 m1 m2 m3 m4 m5 m6 m7 m8 m9 m10 m11) 118 [(5, .int x12), (0, .ref 8000), (1, .ref 1000), (2, .int x2), (3, .int x3), (4, .int x4)] [.int r14.1, .int r13.1] [m0, m1, m2, m3, m4, m5, m6, m7, r14.2, m9, m10, m11] _
      refine K_iadd dX0_begin_118 ?_
      exact K_ret (rv := some (.int (r13.1 + r14.1))) dX0_begin_119 rfl rfl rfl
    refine K_ite (c := x3 = 12) (fun hs12 => ?_) (fun hs12 => ?_)
    · refine K_tabIn (off := 99) 120 dX0_begin_21 (by rw [hs12]; decide) (by rw [hs12]; decide) (by rw [hs12]; rfl) rfl ?_
      refine K_aload_n 1 dX0_begin_120 rfl ?_
      refine K_aload_n 2 dX0_begin_121 rfl ?_
      refine K_iload_n 3 dX0_begin_122 rfl ?_
      refine K_bipush (v := 11) dX0_begin_123 (by decide) ?_
      refine K_iload 0 dX0_begin_125 rfl ?_
      refine K_callV (E' := e_X0_begin m0 m1 m2 m3 m4 m5 m6 m7 r11 m9 m10 m11) (b := 8000) (As := [.ref 1000, .int x2, .int 11, .int x12]) (rest := []) dX0_begin_127 ml_X0_39 (mf_X0_begin (d + 4)) mv_X0_begin (fun hj r hr => hfs hj m0 m1 m2 m3 m4 m5 m6 m7 r11 m9 m10 m11 x2 (11 : Int32) x12 r hr) (rcv_obj (q := (RX0, TX0, 2)) kl_8000 rfl) rfl rfl (Nat.le_of_ble_eq_true rfl) (show (d + 4) < d + 6 by omega) (fun r15 => ?_)
      show K G (mi_X0_begin (d + 6)) (e_X0_begin m0 m1 m2 m3 m4 m5 m6 m7 m8 m9 m10 m11) 130 [(5, .int x12), (0, .ref 8000), (1, .ref 1000), (2, .int x2), (3, .int x3), (4, .int x4)] [.int r15.1] [m0, m1, m2, m3, m4, m5, m6, m7, r15.2, m9, m10, m11] _
      refine K_ineg dX0_begin_130 ?_
      exact K_ret (rv := some (.int (-r15.1))) dX0_begin_131 rfl rfl rfl
    refine K_ite (c := x3 = 13) (fun hs13 => ?_) (fun hs13 => ?_)
    · refine K_tabIn (off := 111) 132 dX0_begin_21 (by rw [hs13]; decide) (by rw [hs13]; decide) (by rw [hs13]; rfl) rfl ?_
      refine K_aload_n 1 dX0_begin_132 rfl ?_
      refine K_aload_n 2 dX0_begin_133 rfl ?_
      refine K_iload_n 3 dX0_begin_134 rfl ?_
      refine K_bipush (v := 10) dX0_begin_135 (by decide) ?_
      refine K_iload 0 dX0_begin_137 rfl ?_
      refine K_callV (E' := e_X0_begin m0 m1 m2 m3 m4 m5 m6 m7 r11 m9 m10 m11) (b := 8000) (As := [.ref 1000, .int x2, .int 10, .int x12]) (rest := []) dX0_begin_139 ml_X0_39 (mf_X0_begin (d + 4)) mv_X0_begin (fun hj r hr => hfs hj m0 m1 m2 m3 m4 m5 m6 m7 r11 m9 m10 m11 x2 (10 : Int32) x12 r hr) (rcv_obj (q := (RX0, TX0, 2)) kl_8000 rfl) rfl rfl (Nat.le_of_ble_eq_true rfl) (show (d + 4) < d + 6 by omega) (fun r16 => ?_)
      show K G (mi_X0_begin (d + 6)) (e_X0_begin m0 m1 m2 m3 m4 m5 m6 m7 m8 m9 m10 m11) 142 [(5, .int x12), (0, .ref 8000), (1, .ref 1000), (2, .int x2), (3, .int x3), (4, .int x4)] [.int r16.1] [m0, m1, m2, m3, m4, m5, m6, m7, r16.2, m9, m10, m11] _
      refine K_bipush (v := 100) dX0_begin_142 (by decide) ?_
      refine K_isub dX0_begin_144 ?_
      exact K_ret (rv := some (.int (r16.1 - 100))) dX0_begin_145 rfl rfl rfl
    refine K_ite (c := x3 = 14) (fun hs14 => ?_) (fun hs14 => ?_)
    · refine K_tabIn (off := 125) 146 dX0_begin_21 (by rw [hs14]; decide) (by rw [hs14]; decide) (by rw [hs14]; rfl) rfl ?_
      refine K_iconst (v := 2) dX0_begin_146 (by decide) ?_
      refine K_aload_n 1 dX0_begin_147 rfl ?_
      refine K_aload_n 2 dX0_begin_148 rfl ?_
      refine K_iload_n 3 dX0_begin_149 rfl ?_
      refine K_bipush (v := 13) dX0_begin_150 (by decide) ?_
      refine K_iload 0 dX0_begin_152 rfl ?_
      refine K_callV (E' := e_X0_begin m0 m1 m2 m3 m4 m5 m6 m7 r11 m9 m10 m11) (b := 8000) (As := [.ref 1000, .int x2, .int 13, .int x12]) (rest := [.int 2]) dX0_begin_154 ml_X0_39 (mf_X0_begin (d + 4)) mv_X0_begin (fun hj r hr => hfs hj m0 m1 m2 m3 m4 m5 m6 m7 r11 m9 m10 m11 x2 (13 : Int32) x12 r hr) (rcv_obj (q := (RX0, TX0, 2)) kl_8000 rfl) rfl rfl (Nat.le_of_ble_eq_true rfl) (show (d + 4) < d + 6 by omega) (fun r17 => ?_)
      show K G (mi_X0_begin (d + 6)) (e_X0_begin m0 m1 m2 m3 m4 m5 m6 m7 m8 m9 m10 m11) 157 [(5, .int x12), (0, .ref 8000), (1, .ref 1000), (2, .int x2), (3, .int x3), (4, .int x4)] [.int r17.1, .int 2] [m0, m1, m2, m3, m4, m5, m6, m7, r17.2, m9, m10, m11] _
      refine K_imul dX0_begin_157 ?_
      exact K_ret (rv := some (.int (2 * r17.1))) dX0_begin_158 rfl rfl rfl
    refine K_ite (c := x3 = 15) (fun hs15 => ?_) (fun hs15 => ?_)
    · refine K_tabIn (off := 197) 218 dX0_begin_21 (by rw [hs15]; decide) (by rw [hs15]; decide) (by rw [hs15]; rfl) rfl ?_
      refine K_iconst (v := 2) dX0_begin_218 (by decide) ?_
      refine K_aload_n 1 dX0_begin_219 rfl ?_
      refine K_aload_n 2 dX0_begin_220 rfl ?_
      refine K_iload_n 3 dX0_begin_221 rfl ?_
      refine K_bipush (v := 21) dX0_begin_222 (by decide) ?_
      refine K_iload 0 dX0_begin_224 rfl ?_
      refine K_callV (E' := e_X0_begin m0 m1 m2 m3 m4 m5 m6 m7 r11 m9 m10 m11) (b := 8000) (As := [.ref 1000, .int x2, .int 21, .int x12]) (rest := [.int 2]) dX0_begin_226 ml_X0_39 (mf_X0_begin (d + 4)) mv_X0_begin (fun hj r hr => hfs hj m0 m1 m2 m3 m4 m5 m6 m7 r11 m9 m10 m11 x2 (21 : Int32) x12 r hr) (rcv_obj (q := (RX0, TX0, 2)) kl_8000 rfl) rfl rfl (Nat.le_of_ble_eq_true rfl) (show (d + 4) < d + 6 by omega) (fun r18 => ?_)
      show K G (mi_X0_begin (d + 6)) (e_X0_begin m0 m1 m2 m3 m4 m5 m6 m7 m8 m9 m10 m11) 229 [(5, .int x12), (0, .ref 8000), (1, .ref 1000), (2, .int x2), (3, .int x3), (4, .int x4)] [.int r18.1, .int 2] [m0, m1, m2, m3, m4, m5, m6, m7, r18.2, m9, m10, m11] _
      refine K_imul dX0_begin_229 ?_
      exact K_ret (rv := some (.int (2 * r18.1))) dX0_begin_230 rfl rfl rfl
    refine K_ite (c := x3 = 16) (fun hs16 => ?_) (fun hs16 => ?_)
    · refine K_tabIn (off := 197) 218 dX0_begin_21 (by rw [hs16]; decide) (by rw [hs16]; decide) (by rw [hs16]; rfl) rfl ?_
      refine K_iconst (v := 2) dX0_begin_218 (by decide) ?_
      refine K_aload_n 1 dX0_begin_219 rfl ?_
      refine K_aload_n 2 dX0_begin_220 rfl ?_
      refine K_iload_n 3 dX0_begin_221 rfl ?_
      refine K_bipush (v := 21) dX0_begin_222 (by decide) ?_
      refine K_iload 0 dX0_begin_224 rfl ?_
      refine K_callV (E' := e_X0_begin m0 m1 m2 m3 m4 m5 m6 m7 r11 m9 m10 m11) (b := 8000) (As := [.ref 1000, .int x2, .int 21, .int x12]) (rest := [.int 2]) dX0_begin_226 ml_X0_39 (mf_X0_begin (d + 4)) mv_X0_begin (fun hj r hr => hfs hj m0 m1 m2 m3 m4 m5 m6 m7 r11 m9 m10 m11 x2 (21 : Int32) x12 r hr) (rcv_obj (q := (RX0, TX0, 2)) kl_8000 rfl) rfl rfl (Nat.le_of_ble_eq_true rfl) (show (d + 4) < d + 6 by omega) (fun r19 => ?_)
      show K G (mi_X0_begin (d + 6)) (e_X0_begin m0 m1 m2 m3 m4 m5 m6 m7 m8 m9 m10 m11) 229 [(5, .int x12), (0, .ref 8000), (1, .ref 1000), (2, .int x2), (3, .int x3), (4, .int x4)] [.int r19.1, .int 2] [m0, m1, m2, m3, m4, m5, m6, m7, r19.2, m9, m10, m11] _
      refine K_imul dX0_begin_229 ?_
      exact K_ret (rv := some (.int (2 * r19.1))) dX0_begin_230 rfl rfl rfl
    refine K_ite (c := x3 = 17) (fun hs17 => ?_) (fun hs17 => ?_)
    · refine K_tabIn (off := 197) 218 dX0_begin_21 (by rw [hs17]; decide) (by rw [hs17]; decide) (by rw [hs17]; rfl) rfl ?_
      refine K_iconst (v := 2) dX0_begin_218 (by decide) ?_
      refine K_aload_n 1 dX0_begin_219 rfl ?_
      refine K_aload_n 2 dX0_begin_220 rfl ?_
      refine K_iload_n 3 dX0_begin_221 rfl ?_
      refine K_bipush (v := 21) dX0_begin_222 (by decide) ?_
      refine K_iload 0 dX0_begin_224 rfl ?_
      refine K_callV (E' := e_X0_begin m0 m1 m2 m3 m4 m5 m6 m7 r11 m9 m10 m11) (b := 8000) (As := [.ref 1000, .int x2, .int 21, .int x12]) (rest := [.int 2]) dX0_begin_226 ml_X0_39 (mf_X0_begin (d + 4)) mv_X0_begin (fun hj r hr => hfs hj m0 m1 m2 m3 m4 m5 m6 m7 r11 m9 m10 m11 x2 (21 : Int32) x12 r hr) (rcv_obj (q := (RX0, TX0, 2)) kl_8000 rfl) rfl rfl (Nat.le_of_ble_eq_true rfl) (show (d + 4) < d + 6 by omega) (fun r20 => ?_)
      show K G (mi_X0_begin (d + 6)) (e_X0_begin m0 m1 m2 m3 m4 m5 m6 m7 m8 m9 m10 m11) 229 [(5, .int x12), (0, .ref 8000), (1, .ref 1000), (2, .int x2), (3, .int x3), (4, .int x4)] [.int r20.1, .int 2] [m0, m1, m2, m3, m4, m5, m6, m7, r20.2, m9, m10, m11] _
      refine K_imul dX0_begin_229 ?_
      exact K_ret (rv := some (.int (2 * r20.1))) dX0_begin_230 rfl rfl rfl
    refine K_ite (c := x3 = 18) (fun hs18 => ?_) (fun hs18 => ?_)
    · refine K_tabIn (off := 197) 218 dX0_begin_21 (by rw [hs18]; decide) (by rw [hs18]; decide) (by rw [hs18]; rfl) rfl ?_
      refine K_iconst (v := 2) dX0_begin_218 (by decide) ?_
      refine K_aload_n 1 dX0_begin_219 rfl ?_
      refine K_aload_n 2 dX0_begin_220 rfl ?_
      refine K_iload_n 3 dX0_begin_221 rfl ?_
      refine K_bipush (v := 21) dX0_begin_222 (by decide) ?_
      refine K_iload 0 dX0_begin_224 rfl ?_
      refine K_callV (E' := e_X0_begin m0 m1 m2 m3 m4 m5 m6 m7 r11 m9 m10 m11) (b := 8000) (As := [.ref 1000, .int x2, .int 21, .int x12]) (rest := [.int 2]) dX0_begin_226 ml_X0_39 (mf_X0_begin (d + 4)) mv_X0_begin (fun hj r hr => hfs hj m0 m1 m2 m3 m4 m5 m6 m7 r11 m9 m10 m11 x2 (21 : Int32) x12 r hr) (rcv_obj (q := (RX0, TX0, 2)) kl_8000 rfl) rfl rfl (Nat.le_of_ble_eq_true rfl) (show (d + 4) < d + 6 by omega) (fun r21 => ?_)
      show K G (mi_X0_begin (d + 6)) (e_X0_begin m0 m1 m2 m3 m4 m5 m6 m7 m8 m9 m10 m11) 229 [(5, .int x12), (0, .ref 8000), (1, .ref 1000), (2, .int x2), (3, .int x3), (4, .int x4)] [.int r21.1, .int 2] [m0, m1, m2, m3, m4, m5, m6, m7, r21.2, m9, m10, m11] _
      refine K_imul dX0_begin_229 ?_
      exact K_ret (rv := some (.int (2 * r21.1))) dX0_begin_230 rfl rfl rfl
    refine K_ite (c := x3 = 19) (fun hs19 => ?_) (fun hs19 => ?_)
    · refine K_tabIn (off := 197) 218 dX0_begin_21 (by rw [hs19]; decide) (by rw [hs19]; decide) (by rw [hs19]; rfl) rfl ?_
      refine K_iconst (v := 2) dX0_begin_218 (by decide) ?_
      refine K_aload_n 1 dX0_begin_219 rfl ?_
      refine K_aload_n 2 dX0_begin_220 rfl ?_
      refine K_iload_n 3 dX0_begin_221 rfl ?_
      refine K_bipush (v := 21) dX0_begin_222 (by decide) ?_
      refine K_iload 0 dX0_begin_224 rfl ?_
      refine K_callV (E' := e_X0_begin m0 m1 m2 m3 m4 m5 m6 m7 r11 m9 m10 m11) (b := 8000) (As := [.ref 1000, .int x2, .int 21, .int x12]) (rest := [.int 2]) dX0_begin_226 ml_X0_39 (mf_X0_begin (d + 4)) mv_X0_begin (fun hj r hr => hfs hj m0 m1 m2 m3 m4 m5 m6 m7 r11 m9 m10 m11 x2 (21 : Int32) x12 r hr) (rcv_obj (q := (RX0, TX0, 2)) kl_8000 rfl) rfl rfl (Nat.le_of_ble_eq_true rfl) (show (d + 4) < d + 6 by omega) (fun r22 => ?_)
      show K G (mi_X0_begin (d + 6)) (e_X0_begin m0 m1 m2 m3 m4 m5 m6 m7 m8 m9 m10 m11) 229 [(5, .int x12), (0, .ref 8000), (1, .ref 1000), (2, .int x2), (3, .int x3), (4, .int x4)] [.int r22.1, .int 2] [m0, m1, m2, m3, m4, m5, m6, m7, r22.2, m9, m10, m11] _
      refine K_imul dX0_begin_229 ?_
      exact K_ret (rv := some (.int (2 * r22.1))) dX0_begin_230 rfl rfl rfl
    refine K_ite (c := x3 = 20) (fun hs20 => ?_) (fun hs20 => ?_)
    · refine K_tabIn (off := 138) 159 dX0_begin_21 (by rw [hs20]; decide) (by rw [hs20]; decide) (by rw [hs20]; rfl) rfl ?_
      refine K_iload_n 3 dX0_begin_159 rfl ?_
      exact K_ret (rv := some (.int x2)) dX0_begin_160 rfl rfl rfl
    refine K_ite (c := x3 = 21) (fun hs21 => ?_) (fun hs21 => ?_)
    · refine K_tabIn (off := 140) 161 dX0_begin_21 (by rw [hs21]; decide) (by rw [hs21]; decide) (by rw [hs21]; rfl) rfl ?_
      refine K_aload_n 1 dX0_begin_161 rfl ?_
      refine K_aload_n 2 dX0_begin_162 rfl ?_
      refine K_iload_n 3 dX0_begin_163 rfl ?_
      refine K_bipush (v := 20) dX0_begin_164 (by decide) ?_
      refine K_iload 0 dX0_begin_166 rfl ?_
      refine K_callV (E' := e_X0_begin m0 m1 m2 m3 m4 m5 m6 m7 r11 m9 m10 m11) (b := 8000) (As := [.ref 1000, .int x2, .int 20, .int x12]) (rest := []) dX0_begin_168 ml_X0_39 (mf_X0_begin (d + 4)) mv_X0_begin (fun hj r hr => hfs hj m0 m1 m2 m3 m4 m5 m6 m7 r11 m9 m10 m11 x2 (20 : Int32) x12 r hr) (rcv_obj (q := (RX0, TX0, 2)) kl_8000 rfl) rfl rfl (Nat.le_of_ble_eq_true rfl) (show (d + 4) < d + 6 by omega) (fun r23 => ?_)
      show K G (mi_X0_begin (d + 6)) (e_X0_begin m0 m1 m2 m3 m4 m5 m6 m7 m8 m9 m10 m11) 171 [(5, .int x12), (0, .ref 8000), (1, .ref 1000), (2, .int x2), (3, .int x3), (4, .int x4)] [.int r23.1] [m0, m1, m2, m3, m4, m5, m6, m7, r23.2, m9, m10, m11] _
      refine K_bipush (v := 10) dX0_begin_171 (by decide) ?_
      refine K_aload_n 2 dX0_begin_173 rfl ?_
      refine K_get (v := .ref 1013) dX0_begin_174 fl_X0_53 kl_1000 rfl rfl ?_
      refine K_iload_n 3 dX0_begin_177 rfl ?_
      refine K_iald (f := m1 13) dX0_begin_178 kl_1013 rfl ?_
      refine K_imul dX0_begin_179 ?_
      refine K_iadd dX0_begin_180 ?_
      exact K_ret (rv := some (.int (r23.1 + (10 * (m1 13 x2.toNatClampNeg))))) dX0_begin_181 rfl rfl rfl
    refine K_ite (c := x3 = 22) (fun hs22 => ?_) (fun hs22 => ?_)
    · refine K_tabIn (off := 161) 182 dX0_begin_21 (by rw [hs22]; decide) (by rw [hs22]; decide) (by rw [hs22]; rfl) rfl ?_
      refine K_aload_n 1 dX0_begin_182 rfl ?_
      refine K_aload_n 2 dX0_begin_183 rfl ?_
      refine K_iload_n 3 dX0_begin_184 rfl ?_
      refine K_bipush (v := 21) dX0_begin_185 (by decide) ?_
      refine K_iload 0 dX0_begin_187 rfl ?_
      refine K_callV (E' := e_X0_begin m0 m1 m2 m3 m4 m5 m6 m7 r11 m9 m10 m11) (b := 8000) (As := [.ref 1000, .int x2, .int 21, .int x12]) (rest := []) dX0_begin_189 ml_X0_39 (mf_X0_begin (d + 4)) mv_X0_begin (fun hj r hr => hfs hj m0 m1 m2 m3 m4 m5 m6 m7 r11 m9 m10 m11 x2 (21 : Int32) x12 r hr) (rcv_obj (q := (RX0, TX0, 2)) kl_8000 rfl) rfl rfl (Nat.le_of_ble_eq_true rfl) (show (d + 4) < d + 6 by omega) (fun r24 => ?_)
      show K G (mi_X0_begin (d + 6)) (e_X0_begin m0 m1 m2 m3 m4 m5 m6 m7 m8 m9 m10 m11) 192 [(5, .int x12), (0, .ref 8000), (1, .ref 1000), (2, .int x2), (3, .int x3), (4, .int x4)] [.int r24.1] [m0, m1, m2, m3, m4, m5, m6, m7, r24.2, m9, m10, m11] _
      refine K_sipush (v := 1000) dX0_begin_192 (by decide) ?_
      refine K_isub dX0_begin_195 ?_
      exact K_ret (rv := some (.int (r24.1 - 1000))) dX0_begin_196 rfl rfl rfl
    refine K_ite (c := x3 = 23) (fun hs23 => ?_) (fun hs23 => ?_)
    · refine K_tabIn (off := 176) 197 dX0_begin_21 (by rw [hs23]; decide) (by rw [hs23]; decide) (by rw [hs23]; rfl) rfl ?_
      refine K_aload_n 1 dX0_begin_197 rfl ?_
      refine K_aload_n 2 dX0_begin_198 rfl ?_
      refine K_iload_n 3 dX0_begin_199 rfl ?_
      refine K_bipush (v := 20) dX0_begin_200 (by decide) ?_
      refine K_iload 0 dX0_begin_202 rfl ?_
      refine K_callV (E' := e_X0_begin m0 m1 m2 m3 m4 m5 m6 m7 r11 m9 m10 m11) (b := 8000) (As := [.ref 1000, .int x2, .int 20, .int x12]) (rest := []) dX0_begin_204 ml_X0_39 (mf_X0_begin (d + 4)) mv_X0_begin (fun hj r hr => hfs hj m0 m1 m2 m3 m4 m5 m6 m7 r11 m9 m10 m11 x2 (20 : Int32) x12 r hr) (rcv_obj (q := (RX0, TX0, 2)) kl_8000 rfl) rfl rfl (Nat.le_of_ble_eq_true rfl) (show (d + 4) < d + 6 by omega) (fun r25 => ?_)
      show K G (mi_X0_begin (d + 6)) (e_X0_begin m0 m1 m2 m3 m4 m5 m6 m7 m8 m9 m10 m11) 207 [(5, .int x12), (0, .ref 8000), (1, .ref 1000), (2, .int x2), (3, .int x3), (4, .int x4)] [.int r25.1] [m0, m1, m2, m3, m4, m5, m6, m7, r25.2, m9, m10, m11] _
      refine K_aload_n 1 dX0_begin_207 rfl ?_
      refine K_aload_n 2 dX0_begin_208 rfl ?_
      refine K_iload_n 3 dX0_begin_209 rfl ?_
      refine K_iconst (v := 0) dX0_begin_210 (by decide) ?_
      refine K_iload 0 dX0_begin_211 rfl ?_
      refine K_callV (E' := e_X0_pose m0 m1 m2 m3 m4 m5 m6 m7 r25.2 m9 m10 m11) (b := 8000) (As := [.ref 1000, .int x2, .int 0, .int x12]) (rest := [.int r25.1]) dX0_begin_213 ml_X0_50 (mf_X0_pose (d + 4 + 1)) mv_X0_pose (fun hj r hr => c_X0_pose (d + 4) fs hfs hj m0 m1 m2 m3 m4 m5 m6 m7 r25.2 m9 m10 m11 x2 (0 : Int32) x12 hr) (rcv_obj (q := (RX0, TX0, 2)) kl_8000 rfl) rfl rfl (Nat.le_of_ble_eq_true rfl) (show (d + 4 + 1) < d + 6 by omega) (fun r26 => ?_)
      show K G (mi_X0_begin (d + 6)) (e_X0_begin m0 m1 m2 m3 m4 m5 m6 m7 m8 m9 m10 m11) 216 [(5, .int x12), (0, .ref 8000), (1, .ref 1000), (2, .int x2), (3, .int x3), (4, .int x4)] [.int r26.1, .int r25.1] [m0, m1, m2, m3, m4, m5, m6, m7, r26.2, m9, m10, m11] _
      refine K_isub dX0_begin_216 ?_
      exact K_ret (rv := some (.int (r25.1 - r26.1))) dX0_begin_217 rfl rfl rfl
    refine K_tabOut 218 dX0_begin_21 (by have ehs10 := lv_neT hs10 (a := 10) (by decide); have ehs11 := lv_neT hs11 (a := 11) (by decide); have ehs12 := lv_neT hs12 (a := 12) (by decide); have ehs13 := lv_neT hs13 (a := 13) (by decide); have ehs14 := lv_neT hs14 (a := 14) (by decide); have ehs15 := lv_neT hs15 (a := 15) (by decide); have ehs16 := lv_neT hs16 (a := 16) (by decide); have ehs17 := lv_neT hs17 (a := 17) (by decide); have ehs18 := lv_neT hs18 (a := 18) (by decide); have ehs19 := lv_neT hs19 (a := 19) (by decide); have ehs20 := lv_neT hs20 (a := 20) (by decide); have ehs21 := lv_neT hs21 (a := 21) (by decide); have ehs22 := lv_neT hs22 (a := 22) (by decide); have ehs23 := lv_neT hs23 (a := 23) (by decide); omega) rfl ?_
    refine K_iconst (v := 2) dX0_begin_218 (by decide) ?_
    refine K_aload_n 1 dX0_begin_219 rfl ?_
    refine K_aload_n 2 dX0_begin_220 rfl ?_
    refine K_iload_n 3 dX0_begin_221 rfl ?_
    refine K_bipush (v := 21) dX0_begin_222 (by decide) ?_
    refine K_iload 0 dX0_begin_224 rfl ?_
    refine K_callV (E' := e_X0_begin m0 m1 m2 m3 m4 m5 m6 m7 r11 m9 m10 m11) (b := 8000) (As := [.ref 1000, .int x2, .int 21, .int x12]) (rest := [.int 2]) dX0_begin_226 ml_X0_39 (mf_X0_begin (d + 4)) mv_X0_begin (fun hj r hr => hfs hj m0 m1 m2 m3 m4 m5 m6 m7 r11 m9 m10 m11 x2 (21 : Int32) x12 r hr) (rcv_obj (q := (RX0, TX0, 2)) kl_8000 rfl) rfl rfl (Nat.le_of_ble_eq_true rfl) (show (d + 4) < d + 6 by omega) (fun r27 => ?_)
    show K G (mi_X0_begin (d + 6)) (e_X0_begin m0 m1 m2 m3 m4 m5 m6 m7 m8 m9 m10 m11) 229 [(5, .int x12), (0, .ref 8000), (1, .ref 1000), (2, .int x2), (3, .int x3), (4, .int x4)] [.int r27.1, .int 2] [m0, m1, m2, m3, m4, m5, m6, m7, r27.2, m9, m10, m11] _
    refine K_imul dX0_begin_229 ?_
    exact K_ret (rv := some (.int (2 * r27.1))) dX0_begin_230 rfl rfl rfl
  · refine K_iconst (v := 0) dX0_begin_7 (by decide) ?_
    exact K_ret (rv := some (.int 0)) dX0_begin_8 rfl rfl rfl
theorem c_X0_begin {G : GE} : ∀ (n : Nat) (_ : dj G) (m0 m1 m2 m3 m4 m5 m6 m7 m8 m9 m10 m11 : Mem) (x2 : Int32) (x3 : Int32) (x4 : Int32) {r : Int32 × Mem}, f_X0_begin n m1 m8 x2 x3 x4 = some r → Ctr G yX0_begin (mi_X0_begin (2 * n + 4)) [.ref 8000, .ref 1000, .int x2, .int x3, .int x4] [m0, m1, m2, m3, m4, m5, m6, m7, m8, m9, m10, m11] ((e_X0_begin m0 m1 m2 m3 m4 m5 m6 m7 m8 m9 m10 m11) r).1 ((e_X0_begin m0 m1 m2 m3 m4 m5 m6 m7 m8 m9 m10 m11) r).2 := by
  intro n
  induction n with
  | zero => intro hj m0 m1 m2 m3 m4 m5 m6 m7 m8 m9 m10 m11 x2 x3 x4 r hr; rw [f_X0_begin] at hr; cases hr
  | succ n ih =>
    intro hj m0 m1 m2 m3 m4 m5 m6 m7 m8 m9 m10 m11 x2 x3 x4 r hr
    rw [f_X0_begin] at hr
    exact Ctr_of hj (by decide) rfl hr rfl (Nat.le_of_ble_eq_true rfl) (k_X0_begin (2 * n) (f_X0_begin n) (fun hj m0 m1 m2 m3 m4 m5 m6 m7 m8 m9 m10 m11 x2 x3 x4 r hr => ih hj m0 m1 m2 m3 m4 m5 m6 m7 m8 m9 m10 m11 x2 x3 x4 hr) m0 m1 m2 m3 m4 m5 m6 m7 m8 m9 m10 m11 x2 x3 x4)
abbrev e_X0_forget (m0 m1 m2 m3 m4 m5 m6 m7 m8 m9 m10 m11 : Mem) : Mem → Option Value × List Mem := fun r => (none, [m0, m1, m2, m3, m4, m5, m6, m7, r, m9, m10, m11])
theorem k_X0_forget {G : GE} (m0 m1 m2 m3 m4 m5 m6 m7 m8 m9 m10 m11 : Mem)  : K G (mi_X0_forget 1) (e_X0_forget m0 m1 m2 m3 m4 m5 m6 m7 m8 m9 m10 m11) 0 [(0, .ref 8000)] [] [m0, m1, m2, m3, m4, m5, m6, m7, m8, m9, m10, m11] (f_X0_forget m8) := by
  unfold f_X0_forget
  refine K_aload_n 0 dX0_forget_0 rfl ?_
  refine K_iconst (v := 0) dX0_forget_1 (by decide) ?_
  refine K_put (Ms' := [m0, m1, m2, m3, m4, m5, m6, m7, (up m8 0 1 0), m9, m10, m11]) dX0_forget_2 fp_X0_15 kl_8000 rfl rfl rfl (Nat.le_of_ble_eq_true rfl) rfl ?_
  refine K_nmm (fun w => [m0, m1, m2, m3, m4, m5, m6, m7, w, m9, m10, m11]) rfl (fun w11 => ?_)
  exact K_ret (rv := none) dX0_forget_5 trivial rfl rfl
theorem c_X0_forget {G : GE} (hj : dj G) (m0 m1 m2 m3 m4 m5 m6 m7 m8 m9 m10 m11 : Mem)  {r : Mem} (hr : f_X0_forget m8 = some r) : Ctr G yX0_forget (mi_X0_forget 1) [.ref 8000] [m0, m1, m2, m3, m4, m5, m6, m7, m8, m9, m10, m11] ((e_X0_forget m0 m1 m2 m3 m4 m5 m6 m7 m8 m9 m10 m11) r).1 ((e_X0_forget m0 m1 m2 m3 m4 m5 m6 m7 m8 m9 m10 m11) r).2 := Ctr_of hj (by decide) rfl hr rfl (Nat.le_of_ble_eq_true rfl) (k_X0_forget m0 m1 m2 m3 m4 m5 m6 m7 m8 m9 m10 m11 )
