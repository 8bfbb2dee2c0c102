abbrev e_X8_in (Ms : List Mem) : Int32 → Option Value × List Mem := fun r => (some (.int r), Ms)
theorem k_X8_in {G : GE} (Ms : List Mem) (x0 : Int64) (x2 : Int64) (x4 : Int64) : K G (mi_X8_in 1) (e_X8_in Ms) 0 [(0, .long x0), (2, .long x2), (4, .long x4)] [] Ms (f_X8_in x0 x2 x4) := by
  unfold f_X8_in
  refine K_lload_n 0 dX8_in_0 rfl ?_
  refine K_lload_n 1 dX8_in_1 rfl ?_
  refine K_lcmp dX8_in_2 ?_
  refine K_if_lt 17 dX8_in_3 rfl (fun _ => ?_) (fun _ => ?_)
  · refine K_iconst (v := 0) dX8_in_17 (by decide) ?_
    exact K_ret (rv := some (.int 0)) dX8_in_18 rfl rfl rfl
  · refine K_lload_n 0 dX8_in_6 rfl ?_
    refine K_lload 2 dX8_in_7 rfl ?_
    refine K_lcmp dX8_in_9 ?_
    refine K_if_gt 17 dX8_in_10 rfl (fun _ => ?_) (fun _ => ?_)
    · refine K_iconst (v := 0) dX8_in_17 (by decide) ?_
      exact K_ret (rv := some (.int 0)) dX8_in_18 rfl rfl rfl
    · refine K_iconst (v := 1) dX8_in_13 (by decide) ?_
      refine K_goto 18 dX8_in_14 rfl ?_
      exact K_ret (rv := some (.int 1)) dX8_in_18 rfl rfl rfl
theorem c_X8_in {G : GE} (hj : dj G) (Ms : List Mem) (x0 : Int64) (x2 : Int64) (x4 : Int64) {r : Int32} (hr : f_X8_in x0 x2 x4 = some r) : Ctr G yX8_in (mi_X8_in 1) [.long x0, .long x2, .long x4] Ms ((e_X8_in Ms) r).1 ((e_X8_in Ms) r).2 := Ctr_of hj (by decide) rfl hr rfl (Nat.le_of_ble_eq_true rfl) (k_X8_in Ms x0 x2 x4)
abbrev e_X8_isRow (Ms : List Mem) : Int32 → Option Value × List Mem := fun r => (some (.int r), Ms)
theorem k_X8_isRow {G : GE} (Ms : List Mem) (x0 : Int32) : K G (mi_X8_isRow 2) (e_X8_isRow Ms) 0 [(0, .int x0)] [] Ms (f_X8_isRow x0) := by
  unfold f_X8_isRow
  refine K_iload_n 0 dX8_isRow_0 rfl ?_
  refine K_i2l dX8_isRow_1 ?_
  refine K_lconst (v := 0) dX8_isRow_2 (by decide) ?_
  refine K_ldc2 (v := 7) dX8_isRow_3 cst_X8_76 ?_
  refine K_callS (E' := e_X8_in Ms) (As := [.long x0.toInt64, .long 0, .long 7]) (rest := []) dX8_isRow_6 ml_X8_78 (mf_X8_in 1) ms_X8_in (fun hj r hr => c_X8_in hj Ms x0.toInt64 (0 : Int64) (7 : Int64) hr) rfl rfl (Nat.le_of_ble_eq_true rfl) (Nat.le_of_ble_eq_true rfl) (fun r11 => ?_)
  show K G (mi_X8_isRow 2) (e_X8_isRow Ms) 9 [(0, .int x0)] [.int r11] Ms _
  exact K_retB dX8_isRow_9 rfl rfl
theorem c_X8_isRow {G : GE} (hj : dj G) (Ms : List Mem) (x0 : Int32) {r : Int32} (hr : f_X8_isRow x0 = some r) : Ctr G yX8_isRow (mi_X8_isRow 2) [.int x0] Ms ((e_X8_isRow Ms) r).1 ((e_X8_isRow Ms) r).2 := Ctr_of hj (by decide) rfl hr rfl (Nat.le_of_ble_eq_true rfl) (k_X8_isRow Ms x0)
abbrev e_X8_finding (m0 : Mem) (q : List Mem) : (Int32 × Mem) → Option Value × List Mem := fun r => (some (.int r.1), (r.2 :: q))
theorem k_X8_finding {G : GE} (m0 : Mem) (q : List Mem) (x1 : Int32) : K G (mi_X8_finding 1) (e_X8_finding m0 q) 0 [(0, .ref 0), (1, .int x1)] [] (m0 :: q) (f_X8_finding m0 x1) := by
  unfold f_X8_finding
  refine K_aload_n 0 dX8_finding_0 rfl ?_
  refine K_iload_n 1 dX8_finding_1 rfl ?_
  refine K_put (Ms' := ((up m0 0 1 x1) :: q)) dX8_finding_2 fp_X8_72 kl_0 rfl rfl rfl (Nat.succ_pos _) rfl ?_
  refine K_nmm (fun w => (w :: q)) rfl (fun w11 => ?_)
  refine K_ldc (v := (-1000010)) dX8_finding_5 cst_X8_75 ?_
  refine K_iload_n 1 dX8_finding_7 rfl ?_
  refine K_isub dX8_finding_8 ?_
  exact K_ret (rv := some (.int ((-1000010) - x1))) dX8_finding_9 rfl rfl rfl
theorem c_X8_finding {G : GE} (hj : dj G) (m0 : Mem) (q : List Mem) (x1 : Int32) {r : Int32 × Mem} (hr : f_X8_finding m0 x1 = some r) : Ctr G yX8_finding (mi_X8_finding 1) [.ref 0, .int x1] (m0 :: q) ((e_X8_finding m0 q) r).1 ((e_X8_finding m0 q) r).2 := Ctr_of hj (by decide) rfl hr rfl (Nat.le_of_ble_eq_true rfl) (k_X8_finding m0 q x1)
abbrev e_X8_row (m0 : Mem) (q : List Mem) : (Int32 × Mem) → Option Value × List Mem := fun r => (some (.int r.1), (r.2 :: q))
theorem k_X8_row_L65 {G : GE} (m0 : Mem) (q : List Mem) (x1 : Int32) (x3 : Int32) (k : Int32 → Mem → Option (Int32 × Mem)) (hk : ∀ (u17 : Int32) (w18 : Mem), K G (mi_X8_row 3) (e_X8_row m0 q) 91 [(0, .ref 0), (1, .int x1), (3, .int x3), (4, .int u17)] [] (w18 :: q) (k u17 w18)) : ∀ (t : Nat) (u17 : Int32) (w18 : Mem), K G (mi_X8_row 3) (e_X8_row m0 q) 65 [(0, .ref 0), (1, .int x1), (3, .int x3), (4, .int u17)] [] (w18 :: q) (f_X8_row_L65 k x1 t u17 w18) := by
  intro t
  induction t with
  | zero => intro u17 w18; exact K_none
  | succ t ih =>
    intro u17 w18
    rw [f_X8_row_L65]
    refine K_iload 3 dX8_row_65 rfl ?_
    refine K_bipush (v := 40) dX8_row_67 (by decide) ?_
    refine K_icmp_ge 91 dX8_row_69 rfl (fun _ => ?_) (fun _ => ?_)
    · refine K_loc [0, 1, 2, 3] (lv' := [(0, .ref 0), (1, .int x1), (3, .int x3), (4, .int u17)]) rfl ?_
      exact hk u17 w18
    · refine K_aload_n 0 dX8_row_72 rfl ?_
      refine K_get (v := .ref 5) dX8_row_73 fl_X8_16 kl_0 rfl rfl ?_
      refine K_bipush (v := 40) dX8_row_76 (by decide) ?_
      refine K_iload_n 1 dX8_row_78 rfl ?_
      refine K_imul dX8_row_79 ?_
      refine K_iload 3 dX8_row_80 rfl ?_
      refine K_iadd dX8_row_82 ?_
      refine K_iconst (v := 0) dX8_row_83 (by decide) ?_
      refine K_iast (Ms' := ((up w18 5 ((40 * x1) + u17).toNatClampNeg 0) :: q)) dX8_row_84 kl_5 (Nat.succ_pos _) rfl ?_
      refine K_nmm (fun w => (w :: q)) rfl (fun w19 => ?_)
      refine K_iinc 3 (w := u17 + 1) (lv' := [(4, .int (u17 + 1)), (0, .ref 0), (1, .int x1), (3, .int x3)]) dX8_row_85 rfl rfl (by decide) rfl ?_
      refine K_goto 65 dX8_row_88 rfl ?_
      refine K_loc [1, 2, 3, 0] (lv' := [(0, .ref 0), (1, .int x1), (3, .int x3), (4, .int (u17 + 1))]) rfl ?_
      exact ih (u17 + 1) w19
theorem k_X8_row {G : GE} (m0 : Mem) (q : List Mem) (x1 : Int32) (x2 : Int32) (x3 : Int32) : K G (mi_X8_row 3) (e_X8_row m0 q) 0 [(0, .ref 0), (1, .int x1), (2, .int x2), (3, .int x3)] [] (m0 :: q) (f_X8_row m0 x1 x2 x3) := by
  unfold f_X8_row
  refine K_aload_n 0 dX8_row_0 rfl ?_
  refine K_iconst (v := 0) dX8_row_1 (by decide) ?_
  refine K_put (Ms' := ((up m0 0 0 0) :: q)) dX8_row_2 fp_X8_68 kl_0 rfl rfl rfl (Nat.succ_pos _) rfl ?_
  refine K_nmm (fun w => (w :: q)) rfl (fun w11 => ?_)
  refine K_iload_n 1 dX8_row_5 rfl ?_
  refine K_callS (E' := e_X8_isRow (w11 :: q)) (As := [.int x1]) (rest := []) dX8_row_6 ml_X8_82 (mf_X8_isRow 2) ms_X8_isRow (fun hj r hr => c_X8_isRow hj (w11 :: q) x1 hr) rfl rfl (Nat.le_of_ble_eq_true rfl) (Nat.le_of_ble_eq_true rfl) (fun r12 => ?_)
  show K G (mi_X8_row 3) (e_X8_row m0 q) 9 [(0, .ref 0), (1, .int x1), (2, .int x2), (3, .int x3)] [.int r12] (w11 :: q) _
  refine K_if_eq 30 dX8_row_9 rfl (fun _ => ?_) (fun _ => ?_)
  · refine K_ldc (v := (-1000001)) dX8_row_30 cst_X8_88 ?_
    exact K_ret (rv := some (.int (-1000001))) dX8_row_32 rfl rfl rfl
  · refine K_iload_n 2 dX8_row_12 rfl ?_
    refine K_i2l dX8_row_13 ?_
    refine K_lconst (v := 0) dX8_row_14 (by decide) ?_
    refine K_ldc2 (v := 2) dX8_row_15 cst_X8_86 ?_
    refine K_callS (E' := e_X8_in (w11 :: q)) (As := [.long x2.toInt64, .long 0, .long 2]) (rest := []) dX8_row_18 ml_X8_78 (mf_X8_in 1) ms_X8_in (fun hj r hr => c_X8_in hj (w11 :: q) x2.toInt64 (0 : Int64) (2 : Int64) hr) rfl rfl (Nat.le_of_ble_eq_true rfl) (Nat.le_of_ble_eq_true rfl) (fun r13 => ?_)
    show K G (mi_X8_row 3) (e_X8_row m0 q) 21 [(0, .ref 0), (1, .int x1), (2, .int x2), (3, .int x3)] [.int r13] (w11 :: q) _
    refine K_if_eq 30 dX8_row_21 rfl (fun _ => ?_) (fun _ => ?_)
    · refine K_ldc (v := (-1000001)) dX8_row_30 cst_X8_88 ?_
      exact K_ret (rv := some (.int (-1000001))) dX8_row_32 rfl rfl rfl
    · refine K_iload_n 3 dX8_row_24 rfl ?_
      refine K_bipush (v := 40) dX8_row_25 (by decide) ?_
      refine K_icmp_le 33 dX8_row_27 rfl (fun _ => ?_) (fun _ => ?_)
      · refine K_aload_n 0 dX8_row_33 rfl ?_
        refine K_iconst (v := 0) dX8_row_34 (by decide) ?_
        refine K_put (Ms' := ((up w11 0 1 0) :: q)) dX8_row_35 fp_X8_72 kl_0 rfl rfl rfl (Nat.succ_pos _) rfl ?_
        refine K_nmm (fun w => (w :: q)) rfl (fun w14 => ?_)
        refine K_iload_n 3 dX8_row_38 rfl ?_
        refine K_if_ge 48 dX8_row_39 rfl (fun _ => ?_) (fun _ => ?_)
        · refine K_aload_n 0 dX8_row_48 rfl ?_
          refine K_get (v := .ref 3) dX8_row_49 fl_X8_7 kl_0 rfl rfl ?_
          refine K_iload_n 1 dX8_row_52 rfl ?_
          refine K_iload_n 2 dX8_row_53 rfl ?_
          refine K_iast (Ms' := ((up w14 3 x1.toNatClampNeg x2) :: q)) dX8_row_54 kl_3 (Nat.succ_pos _) rfl ?_
          refine K_nmm (fun w => (w :: q)) rfl (fun w15 => ?_)
          refine K_aload_n 0 dX8_row_55 rfl ?_
          refine K_get (v := .ref 4) dX8_row_56 fl_X8_13 kl_0 rfl rfl ?_
          refine K_iload_n 1 dX8_row_59 rfl ?_
          refine K_iload_n 3 dX8_row_60 rfl ?_
          refine K_iast (Ms' := ((up w15 4 x1.toNatClampNeg x3) :: q)) dX8_row_61 kl_4 (Nat.succ_pos _) rfl ?_
          refine K_nmm (fun w => (w :: q)) rfl (fun w16 => ?_)
          refine K_iconst (v := 0) dX8_row_62 (by decide) ?_
          refine K_istore (lv' := [(4, .int 0), (0, .ref 0), (1, .int x1), (2, .int x2), (3, .int x3)]) dX8_row_63 (by decide) rfl ?_
          refine K_loc [1, 2, 4, 0] (lv' := [(0, .ref 0), (1, .int x1), (3, .int x3), (4, .int 0)]) rfl ?_
          refine k_X8_row_L65  m0 q x1 x3 _ (fun u20 w21 => ?_) 100000 0 w16
          refine K_iload_n 2 dX8_row_91 rfl ?_
          exact K_ret (rv := some (.int x3)) dX8_row_92 rfl rfl rfl
        · refine K_aload_n 0 dX8_row_42 rfl ?_
          refine K_iconst (v := 4) dX8_row_43 (by decide) ?_
          refine K_callV (E' := e_X8_finding w14 q) (b := 0) (As := [.int 4]) (rest := []) dX8_row_44 ml_X8_89 (mf_X8_finding 1) mv_X8_finding (fun hj r hr => c_X8_finding hj w14 q (4 : Int32) hr) (rcv_obj (q := (RX8, TX8, 37)) kl_0 rfl) rfl rfl (Nat.le_of_ble_eq_true rfl) (Nat.le_of_ble_eq_true rfl) (fun r22 => ?_)
          show K G (mi_X8_row 3) (e_X8_row m0 q) 47 [(0, .ref 0), (1, .int x1), (2, .int x2), (3, .int x3)] [.int r22.1] (r22.2 :: q) _
          exact K_ret (rv := some (.int r22.1)) dX8_row_47 rfl rfl rfl
      · refine K_ldc (v := (-1000001)) dX8_row_30 cst_X8_88 ?_
        exact K_ret (rv := some (.int (-1000001))) dX8_row_32 rfl rfl rfl
theorem c_X8_row {G : GE} (hj : dj G) (m0 : Mem) (q : List Mem) (x1 : Int32) (x2 : Int32) (x3 : Int32) {r : Int32 × Mem} (hr : f_X8_row m0 x1 x2 x3 = some r) : Ctr G yX8_row (mi_X8_row 3) [.ref 0, .int x1, .int x2, .int x3] (m0 :: q) ((e_X8_row m0 q) r).1 ((e_X8_row m0 q) r).2 := Ctr_of hj (by decide) rfl hr rfl (Nat.le_of_ble_eq_true rfl) (k_X8_row m0 q x1 x2 x3)
abbrev e_X8_set (m0 : Mem) (q : List Mem) : (Int32 × Mem) → Option Value × List Mem := fun r => (some (.int r.1), (r.2 :: q))
theorem k_X8_set {G : GE} (m0 : Mem) (q : List Mem) (x1 : Int32) (x2 : Int32) (x3 : Int32) : K G (mi_X8_set 3) (e_X8_set m0 q) 0 [(0, .ref 0), (1, .int x1), (2, .int x2), (3, .int x3)] [] (m0 :: q) (f_X8_set m0 x1 x2 x3) := by
  unfold f_X8_set
  refine K_aload_n 0 dX8_set_0 rfl ?_
  refine K_iconst (v := 0) dX8_set_1 (by decide) ?_
  refine K_put (Ms' := ((up m0 0 0 0) :: q)) dX8_set_2 fp_X8_68 kl_0 rfl rfl rfl (Nat.succ_pos _) rfl ?_
  refine K_nmm (fun w => (w :: q)) rfl (fun w11 => ?_)
  refine K_iload_n 1 dX8_set_5 rfl ?_
  refine K_callS (E' := e_X8_isRow (w11 :: q)) (As := [.int x1]) (rest := []) dX8_set_6 ml_X8_82 (mf_X8_isRow 2) ms_X8_isRow (fun hj r hr => c_X8_isRow hj (w11 :: q) x1 hr) rfl rfl (Nat.le_of_ble_eq_true rfl) (Nat.le_of_ble_eq_true rfl) (fun r12 => ?_)
  show K G (mi_X8_set 3) (e_X8_set m0 q) 9 [(0, .ref 0), (1, .int x1), (2, .int x2), (3, .int x3)] [.int r12] (w11 :: q) _
  refine K_if_ne 15 dX8_set_9 rfl (fun _ => ?_) (fun _ => ?_)
  · refine K_aload_n 0 dX8_set_15 rfl ?_
    refine K_iconst (v := 0) dX8_set_16 (by decide) ?_
    refine K_put (Ms' := ((up w11 0 1 0) :: q)) dX8_set_17 fp_X8_72 kl_0 rfl rfl rfl (Nat.succ_pos _) rfl ?_
    refine K_nmm (fun w => (w :: q)) rfl (fun w13 => ?_)
    refine K_aload_n 0 dX8_set_20 rfl ?_
    refine K_get (v := .ref 3) dX8_set_21 fl_X8_7 kl_0 rfl rfl ?_
    refine K_iload_n 1 dX8_set_24 rfl ?_
    refine K_iald (f := w13 3) dX8_set_25 kl_3 rfl ?_
    refine K_if_ge 35 dX8_set_26 rfl (fun _ => ?_) (fun _ => ?_)
    · refine K_iload_n 2 dX8_set_35 rfl ?_
      refine K_i2l dX8_set_36 ?_
      refine K_lconst (v := 0) dX8_set_37 (by decide) ?_
      refine K_aload_n 0 dX8_set_38 rfl ?_
      refine K_get (v := .ref 4) dX8_set_39 fl_X8_13 kl_0 rfl rfl ?_
      refine K_iload_n 1 dX8_set_42 rfl ?_
      refine K_iald (f := w13 4) dX8_set_43 kl_4 rfl ?_
      refine K_iconst (v := 1) dX8_set_44 (by decide) ?_
      refine K_isub dX8_set_45 ?_
      refine K_i2l dX8_set_46 ?_
      refine K_callS (E' := e_X8_in (w13 :: q)) (As := [.long x2.toInt64, .long 0, .long (((w13 4 x1.toNatClampNeg) - 1).toInt64)]) (rest := []) dX8_set_47 ml_X8_78 (mf_X8_in 1) ms_X8_in (fun hj r hr => c_X8_in hj (w13 :: q) x2.toInt64 (0 : Int64) (((w13 4 x1.toNatClampNeg) - 1).toInt64) hr) rfl rfl (Nat.le_of_ble_eq_true rfl) (Nat.le_of_ble_eq_true rfl) (fun r14 => ?_)
      show K G (mi_X8_set 3) (e_X8_set m0 q) 50 [(0, .ref 0), (1, .int x1), (2, .int x2), (3, .int x3)] [.int r14] (w13 :: q) _
      refine K_if_ne 59 dX8_set_50 rfl (fun _ => ?_) (fun _ => ?_)
      · refine K_aload_n 0 dX8_set_59 rfl ?_
        refine K_get (v := .ref 5) dX8_set_60 fl_X8_16 kl_0 rfl rfl ?_
        refine K_bipush (v := 40) dX8_set_63 (by decide) ?_
        refine K_iload_n 1 dX8_set_65 rfl ?_
        refine K_imul dX8_set_66 ?_
        refine K_iload_n 2 dX8_set_67 rfl ?_
        refine K_iadd dX8_set_68 ?_
        refine K_aload_n 0 dX8_set_69 rfl ?_
        refine K_get (v := .ref 3) dX8_set_70 fl_X8_7 kl_0 rfl rfl ?_
        refine K_iload_n 1 dX8_set_73 rfl ?_
        refine K_iald (f := w13 3) dX8_set_74 kl_3 rfl ?_
        refine K_if_ne 83 dX8_set_75 rfl (fun _ => ?_) (fun _ => ?_)
        · refine K_aload_n 0 dX8_set_83 rfl ?_
          refine K_get (v := .ref 3) dX8_set_84 fl_X8_7 kl_0 rfl rfl ?_
          refine K_iload_n 1 dX8_set_87 rfl ?_
          refine K_iald (f := w13 3) dX8_set_88 kl_3 rfl ?_
          refine K_iconst (v := 1) dX8_set_89 (by decide) ?_
          refine K_icmp_ne 98 dX8_set_90 rfl (fun _ => ?_) (fun _ => ?_)
          · refine K_iload_n 3 dX8_set_98 rfl ?_
            refine K_iast (Ms' := ((up w13 5 ((40 * x1) + x2).toNatClampNeg x3) :: q)) dX8_set_99 kl_5 (Nat.succ_pos _) rfl ?_
            refine K_nmm (fun w => (w :: q)) rfl (fun w15 => ?_)
            refine K_aload_n 0 dX8_set_100 rfl ?_
            refine K_get (v := .ref 5) dX8_set_101 fl_X8_16 kl_0 rfl rfl ?_
            refine K_bipush (v := 40) dX8_set_104 (by decide) ?_
            refine K_iload_n 1 dX8_set_106 rfl ?_
            refine K_imul dX8_set_107 ?_
            refine K_iload_n 2 dX8_set_108 rfl ?_
            refine K_iadd dX8_set_109 ?_
            refine K_iald (f := w15 5) dX8_set_110 kl_5 rfl ?_
            exact K_ret (rv := some (.int (w15 5 ((40 * x1) + x2).toNatClampNeg))) dX8_set_111 rfl rfl rfl
          · refine K_iload_n 3 dX8_set_93 rfl ?_
            refine K_i2s dX8_set_94 ?_
            refine K_goto 99 dX8_set_95 rfl ?_
            refine K_iast (Ms' := ((up w13 5 ((40 * x1) + x2).toNatClampNeg x3.toInt16.toInt32) :: q)) dX8_set_99 kl_5 (Nat.succ_pos _) rfl ?_
            refine K_nmm (fun w => (w :: q)) rfl (fun w16 => ?_)
            refine K_aload_n 0 dX8_set_100 rfl ?_
            refine K_get (v := .ref 5) dX8_set_101 fl_X8_16 kl_0 rfl rfl ?_
            refine K_bipush (v := 40) dX8_set_104 (by decide) ?_
            refine K_iload_n 1 dX8_set_106 rfl ?_
            refine K_imul dX8_set_107 ?_
            refine K_iload_n 2 dX8_set_108 rfl ?_
            refine K_iadd dX8_set_109 ?_
            refine K_iald (f := w16 5) dX8_set_110 kl_5 rfl ?_
            exact K_ret (rv := some (.int (w16 5 ((40 * x1) + x2).toNatClampNeg))) dX8_set_111 rfl rfl rfl
        · refine K_iload_n 3 dX8_set_78 rfl ?_
          refine K_i2b dX8_set_79 ?_
          refine K_goto 99 dX8_set_80 rfl ?_
          refine K_iast (Ms' := ((up w13 5 ((40 * x1) + x2).toNatClampNeg x3.toInt8.toInt32) :: q)) dX8_set_99 kl_5 (Nat.succ_pos _) rfl ?_
          refine K_nmm (fun w => (w :: q)) rfl (fun w17 => ?_)
          refine K_aload_n 0 dX8_set_100 rfl ?_
          refine K_get (v := .ref 5) dX8_set_101 fl_X8_16 kl_0 rfl rfl ?_
          refine K_bipush (v := 40) dX8_set_104 (by decide) ?_
          refine K_iload_n 1 dX8_set_106 rfl ?_
          refine K_imul dX8_set_107 ?_
          refine K_iload_n 2 dX8_set_108 rfl ?_
          refine K_iadd dX8_set_109 ?_
          refine K_iald (f := w17 5) dX8_set_110 kl_5 rfl ?_
          exact K_ret (rv := some (.int (w17 5 ((40 * x1) + x2).toNatClampNeg))) dX8_set_111 rfl rfl rfl
      · refine K_aload_n 0 dX8_set_53 rfl ?_
        refine K_iconst (v := 2) dX8_set_54 (by decide) ?_
        refine K_callV (E' := e_X8_finding w13 q) (b := 0) (As := [.int 2]) (rest := []) dX8_set_55 ml_X8_89 (mf_X8_finding 1) mv_X8_finding (fun hj r hr => c_X8_finding hj w13 q (2 : Int32) hr) (rcv_obj (q := (RX8, TX8, 37)) kl_0 rfl) rfl rfl (Nat.le_of_ble_eq_true rfl) (Nat.le_of_ble_eq_true rfl) (fun r18 => ?_)
        show K G (mi_X8_set 3) (e_X8_set m0 q) 58 [(0, .ref 0), (1, .int x1), (2, .int x2), (3, .int x3)] [.int r18.1] (r18.2 :: q) _
        exact K_ret (rv := some (.int r18.1)) dX8_set_58 rfl rfl rfl
    · refine K_aload_n 0 dX8_set_29 rfl ?_
      refine K_iconst (v := 1) dX8_set_30 (by decide) ?_
      refine K_callV (E' := e_X8_finding w13 q) (b := 0) (As := [.int 1]) (rest := []) dX8_set_31 ml_X8_89 (mf_X8_finding 1) mv_X8_finding (fun hj r hr => c_X8_finding hj w13 q (1 : Int32) hr) (rcv_obj (q := (RX8, TX8, 37)) kl_0 rfl) rfl rfl (Nat.le_of_ble_eq_true rfl) (Nat.le_of_ble_eq_true rfl) (fun r19 => ?_)
      show K G (mi_X8_set 3) (e_X8_set m0 q) 34 [(0, .ref 0), (1, .int x1), (2, .int x2), (3, .int x3)] [.int r19.1] (r19.2 :: q) _
      exact K_ret (rv := some (.int r19.1)) dX8_set_34 rfl rfl rfl
  · refine K_ldc (v := (-1000001)) dX8_set_12 cst_X8_88 ?_
    exact K_ret (rv := some (.int (-1000001))) dX8_set_14 rfl rfl rfl
theorem c_X8_set {G : GE} (hj : dj G) (m0 : Mem) (q : List Mem) (x1 : Int32) (x2 : Int32) (x3 : Int32) {r : Int32 × Mem} (hr : f_X8_set m0 x1 x2 x3 = some r) : Ctr G yX8_set (mi_X8_set 3) [.ref 0, .int x1, .int x2, .int x3] (m0 :: q) ((e_X8_set m0 q) r).1 ((e_X8_set m0 q) r).2 := Ctr_of hj (by decide) rfl hr rfl (Nat.le_of_ble_eq_true rfl) (k_X8_set m0 q x1 x2 x3)
abbrev e_X8_copy (m0 : Mem) (q : List Mem) : (Int32 × Mem) → Option Value × List Mem := fun r => (some (.int r.1), (r.2 :: q))
theorem k_X8_copy_L143 {G : GE} (m0 : Mem) (q : List Mem) (x1 : Int32) (x2 : Int32) (x3 : Int32) (x4 : Int32) (x5 : Int32) (a20 : Int32) (k : Int32 → Mem → Option (Int32 × Mem)) (hk : ∀ (u22 : Int32) (w23 : Mem), K G (mi_X8_copy 3) (e_X8_copy m0 q) 204 [(0, .ref 0), (1, .int x1), (2, .int x2), (3, .int x3), (4, .int x4), (5, .int x5), (6, .int a20), (7, .int u22)] [] (w23 :: q) (k u22 w23)) : ∀ (t : Nat) (u22 : Int32) (w23 : Mem), K G (mi_X8_copy 3) (e_X8_copy m0 q) 143 [(0, .ref 0), (1, .int x1), (2, .int x2), (3, .int x3), (4, .int x4), (5, .int x5), (6, .int a20), (7, .int u22)] [] (w23 :: q) (f_X8_copy_L143 k x1 x2 x3 x4 x5 a20 t u22 w23) := by
  intro t
  induction t with
  | zero => intro u22 w23; exact K_none
  | succ t ih =>
    intro u22 w23
    rw [f_X8_copy_L143]
    refine K_iload 7 dX8_copy_143 rfl ?_
    refine K_iload 5 dX8_copy_145 rfl ?_
    refine K_icmp_ge 204 dX8_copy_147 rfl (fun _ => ?_) (fun _ => ?_)
    · refine K_loc [0, 1, 2, 3, 4, 5, 6, 7] (lv' := [(0, .ref 0), (1, .int x1), (2, .int x2), (3, .int x3), (4, .int x4), (5, .int x5), (6, .int a20), (7, .int u22)]) rfl ?_
      exact hk u22 w23
    · refine K_iload 6 dX8_copy_150 rfl ?_
      refine K_pick (fun j25 => (if a20 = 0 then (j25 ((x5 - 1) - u22)) else (j25 u22))) (fun j25 => ∀ a24 : Int32, K G (mi_X8_copy 3) (e_X8_copy m0 q) 167 [(0, .ref 0), (1, .int x1), (2, .int x2), (3, .int x3), (4, .int x4), (5, .int x5), (6, .int a20), (7, .int u22)] [.int a24] (w23 :: q) (j25 a24)) (fun j25 => by simp only [apply_ite j25]) (fun a24 => ?_) (fun j25 hj25 => ?_)
      · refine K_istore (lv' := [(8, .int a24), (0, .ref 0), (1, .int x1), (2, .int x2), (3, .int x3), (4, .int x4), (5, .int x5), (6, .int a20), (7, .int u22)]) dX8_copy_167 (by decide) rfl ?_
        refine K_aload_n 1 dX8_copy_169 rfl ?_
        refine K_get (v := .ref 5) dX8_copy_170 fl_X8_16 kl_0 rfl rfl ?_
        refine K_bipush (v := 40) dX8_copy_173 (by decide) ?_
        refine K_iload_n 4 dX8_copy_175 rfl ?_
        refine K_imul dX8_copy_176 ?_
        refine K_iload 5 dX8_copy_177 rfl ?_
        refine K_iadd dX8_copy_179 ?_
        refine K_iload 0 dX8_copy_180 rfl ?_
        refine K_iadd dX8_copy_182 ?_
        refine K_aload_n 1 dX8_copy_183 rfl ?_
        refine K_get (v := .ref 5) dX8_copy_184 fl_X8_16 kl_0 rfl rfl ?_
        refine K_bipush (v := 40) dX8_copy_187 (by decide) ?_
        refine K_iload_n 2 dX8_copy_189 rfl ?_
        refine K_imul dX8_copy_190 ?_
        refine K_iload_n 3 dX8_copy_191 rfl ?_
        refine K_iadd dX8_copy_192 ?_
        refine K_iload 0 dX8_copy_193 rfl ?_
        refine K_iadd dX8_copy_195 ?_
        refine K_iald (f := w23 5) dX8_copy_196 kl_5 rfl ?_
        refine K_iast (Ms' := ((up w23 5 (((40 * x3) + x4) + a24).toNatClampNeg (w23 5 (((40 * x1) + x2) + a24).toNatClampNeg)) :: q)) dX8_copy_197 kl_5 (Nat.succ_pos _) rfl ?_
        refine K_nmm (fun w => (w :: q)) rfl (fun w26 => ?_)
        refine K_iinc 8 (w := u22 + 1) (lv' := [(7, .int (u22 + 1)), (8, .int a24), (0, .ref 0), (1, .int x1), (2, .int x2), (3, .int x3), (4, .int x4), (5, .int x5), (6, .int a20)]) dX8_copy_198 rfl rfl (by decide) rfl ?_
        refine K_goto 143 dX8_copy_201 rfl ?_
        refine K_loc [2, 3, 4, 5, 6, 7, 8, 0] (lv' := [(0, .ref 0), (1, .int x1), (2, .int x2), (3, .int x3), (4, .int x4), (5, .int x5), (6, .int a20), (7, .int (u22 + 1))]) rfl ?_
        exact ih (u22 + 1) w26
      · refine K_if_eq 160 dX8_copy_152 rfl (fun _ => ?_) (fun _ => ?_)
        · refine K_iload 5 dX8_copy_160 rfl ?_
          refine K_iconst (v := 1) dX8_copy_162 (by decide) ?_
          refine K_isub dX8_copy_163 ?_
          refine K_iload 7 dX8_copy_164 rfl ?_
          refine K_isub dX8_copy_166 ?_
          exact hj25 ((x5 - 1) - u22)
        · refine K_iload 7 dX8_copy_155 rfl ?_
          refine K_goto 167 dX8_copy_157 rfl ?_
          exact hj25 u22
theorem k_X8_copy {G : GE} (m0 : Mem) (q : List Mem) (x1 : Int32) (x2 : Int32) (x3 : Int32) (x4 : Int32) (x5 : Int32) : K G (mi_X8_copy 3) (e_X8_copy m0 q) 0 [(0, .ref 0), (1, .int x1), (2, .int x2), (3, .int x3), (4, .int x4), (5, .int x5)] [] (m0 :: q) (f_X8_copy m0 x1 x2 x3 x4 x5) := by
  unfold f_X8_copy
  refine K_aload_n 0 dX8_copy_0 rfl ?_
  refine K_iconst (v := 0) dX8_copy_1 (by decide) ?_
  refine K_put (Ms' := ((up m0 0 0 0) :: q)) dX8_copy_2 fp_X8_68 kl_0 rfl rfl rfl (Nat.succ_pos _) rfl ?_
  refine K_nmm (fun w => (w :: q)) rfl (fun w11 => ?_)
  refine K_iload_n 1 dX8_copy_5 rfl ?_
  refine K_callS (E' := e_X8_isRow (w11 :: q)) (As := [.int x1]) (rest := []) dX8_copy_6 ml_X8_82 (mf_X8_isRow 2) ms_X8_isRow (fun hj r hr => c_X8_isRow hj (w11 :: q) x1 hr) rfl rfl (Nat.le_of_ble_eq_true rfl) (Nat.le_of_ble_eq_true rfl) (fun r12 => ?_)
  show K G (mi_X8_copy 3) (e_X8_copy m0 q) 9 [(0, .ref 0), (1, .int x1), (2, .int x2), (3, .int x3), (4, .int x4), (5, .int x5)] [.int r12] (w11 :: q) _
  refine K_if_eq 19 dX8_copy_9 rfl (fun _ => ?_) (fun _ => ?_)
  · refine K_ldc (v := (-1000001)) dX8_copy_19 cst_X8_88 ?_
    exact K_ret (rv := some (.int (-1000001))) dX8_copy_21 rfl rfl rfl
  · refine K_iload_n 3 dX8_copy_12 rfl ?_
    refine K_callS (E' := e_X8_isRow (w11 :: q)) (As := [.int x3]) (rest := []) dX8_copy_13 ml_X8_82 (mf_X8_isRow 2) ms_X8_isRow (fun hj r hr => c_X8_isRow hj (w11 :: q) x3 hr) rfl rfl (Nat.le_of_ble_eq_true rfl) (Nat.le_of_ble_eq_true rfl) (fun r13 => ?_)
    show K G (mi_X8_copy 3) (e_X8_copy m0 q) 16 [(0, .ref 0), (1, .int x1), (2, .int x2), (3, .int x3), (4, .int x4), (5, .int x5)] [.int r13] (w11 :: q) _
    refine K_if_ne 22 dX8_copy_16 rfl (fun _ => ?_) (fun _ => ?_)
    · refine K_aload_n 0 dX8_copy_22 rfl ?_
      refine K_iconst (v := 0) dX8_copy_23 (by decide) ?_
      refine K_put (Ms' := ((up w11 0 1 0) :: q)) dX8_copy_24 fp_X8_72 kl_0 rfl rfl rfl (Nat.succ_pos _) rfl ?_
      refine K_nmm (fun w => (w :: q)) rfl (fun w14 => ?_)
      refine K_aload_n 0 dX8_copy_27 rfl ?_
      refine K_get (v := .ref 3) dX8_copy_28 fl_X8_7 kl_0 rfl rfl ?_
      refine K_iload_n 1 dX8_copy_31 rfl ?_
      refine K_iald (f := w14 3) dX8_copy_32 kl_3 rfl ?_
      refine K_if_lt 45 dX8_copy_33 rfl (fun _ => ?_) (fun _ => ?_)
      · refine K_aload_n 0 dX8_copy_45 rfl ?_
        refine K_iconst (v := 1) dX8_copy_46 (by decide) ?_
        refine K_callV (E' := e_X8_finding w14 q) (b := 0) (As := [.int 1]) (rest := []) dX8_copy_47 ml_X8_89 (mf_X8_finding 1) mv_X8_finding (fun hj r hr => c_X8_finding hj w14 q (1 : Int32) hr) (rcv_obj (q := (RX8, TX8, 37)) kl_0 rfl) rfl rfl (Nat.le_of_ble_eq_true rfl) (Nat.le_of_ble_eq_true rfl) (fun r15 => ?_)
        show K G (mi_X8_copy 3) (e_X8_copy m0 q) 50 [(0, .ref 0), (1, .int x1), (2, .int x2), (3, .int x3), (4, .int x4), (5, .int x5)] [.int r15.1] (r15.2 :: q) _
        exact K_ret (rv := some (.int r15.1)) dX8_copy_50 rfl rfl rfl
      · refine K_aload_n 0 dX8_copy_36 rfl ?_
        refine K_get (v := .ref 3) dX8_copy_37 fl_X8_7 kl_0 rfl rfl ?_
        refine K_iload_n 3 dX8_copy_40 rfl ?_
        refine K_iald (f := w14 3) dX8_copy_41 kl_3 rfl ?_
        refine K_if_ge 51 dX8_copy_42 rfl (fun _ => ?_) (fun _ => ?_)
        · refine K_aload_n 0 dX8_copy_51 rfl ?_
          refine K_get (v := .ref 3) dX8_copy_52 fl_X8_7 kl_0 rfl rfl ?_
          refine K_iload_n 1 dX8_copy_55 rfl ?_
          refine K_iald (f := w14 3) dX8_copy_56 kl_3 rfl ?_
          refine K_aload_n 0 dX8_copy_57 rfl ?_
          refine K_get (v := .ref 3) dX8_copy_58 fl_X8_7 kl_0 rfl rfl ?_
          refine K_iload_n 3 dX8_copy_61 rfl ?_
          refine K_iald (f := w14 3) dX8_copy_62 kl_3 rfl ?_
          refine K_icmp_eq 72 dX8_copy_63 rfl (fun _ => ?_) (fun _ => ?_)
          · refine K_iload_n 2 dX8_copy_72 rfl ?_
            refine K_if_lt 121 dX8_copy_73 rfl (fun _ => ?_) (fun _ => ?_)
            · refine K_aload_n 0 dX8_copy_121 rfl ?_
              refine K_iconst (v := 2) dX8_copy_122 (by decide) ?_
              refine K_callV (E' := e_X8_finding w14 q) (b := 0) (As := [.int 2]) (rest := []) dX8_copy_123 ml_X8_89 (mf_X8_finding 1) mv_X8_finding (fun hj r hr => c_X8_finding hj w14 q (2 : Int32) hr) (rcv_obj (q := (RX8, TX8, 37)) kl_0 rfl) rfl rfl (Nat.le_of_ble_eq_true rfl) (Nat.le_of_ble_eq_true rfl) (fun r16 => ?_)
              show K G (mi_X8_copy 3) (e_X8_copy m0 q) 126 [(0, .ref 0), (1, .int x1), (2, .int x2), (3, .int x3), (4, .int x4), (5, .int x5)] [.int r16.1] (r16.2 :: q) _
              exact K_ret (rv := some (.int r16.1)) dX8_copy_126 rfl rfl rfl
            · refine K_iload 4 dX8_copy_76 rfl ?_
              refine K_if_lt 121 dX8_copy_78 rfl (fun _ => ?_) (fun _ => ?_)
              · refine K_aload_n 0 dX8_copy_121 rfl ?_
                refine K_iconst (v := 2) dX8_copy_122 (by decide) ?_
                refine K_callV (E' := e_X8_finding w14 q) (b := 0) (As := [.int 2]) (rest := []) dX8_copy_123 ml_X8_89 (mf_X8_finding 1) mv_X8_finding (fun hj r hr => c_X8_finding hj w14 q (2 : Int32) hr) (rcv_obj (q := (RX8, TX8, 37)) kl_0 rfl) rfl rfl (Nat.le_of_ble_eq_true rfl) (Nat.le_of_ble_eq_true rfl) (fun r17 => ?_)
                show K G (mi_X8_copy 3) (e_X8_copy m0 q) 126 [(0, .ref 0), (1, .int x1), (2, .int x2), (3, .int x3), (4, .int x4), (5, .int x5)] [.int r17.1] (r17.2 :: q) _
                exact K_ret (rv := some (.int r17.1)) dX8_copy_126 rfl rfl rfl
              · refine K_iload 5 dX8_copy_81 rfl ?_
                refine K_if_lt 121 dX8_copy_83 rfl (fun _ => ?_) (fun _ => ?_)
                · refine K_aload_n 0 dX8_copy_121 rfl ?_
                  refine K_iconst (v := 2) dX8_copy_122 (by decide) ?_
                  refine K_callV (E' := e_X8_finding w14 q) (b := 0) (As := [.int 2]) (rest := []) dX8_copy_123 ml_X8_89 (mf_X8_finding 1) mv_X8_finding (fun hj r hr => c_X8_finding hj w14 q (2 : Int32) hr) (rcv_obj (q := (RX8, TX8, 37)) kl_0 rfl) rfl rfl (Nat.le_of_ble_eq_true rfl) (Nat.le_of_ble_eq_true rfl) (fun r18 => ?_)
                  show K G (mi_X8_copy 3) (e_X8_copy m0 q) 126 [(0, .ref 0), (1, .int x1), (2, .int x2), (3, .int x3), (4, .int x4), (5, .int x5)] [.int r18.1] (r18.2 :: q) _
                  exact K_ret (rv := some (.int r18.1)) dX8_copy_126 rfl rfl rfl
                · refine K_iload_n 2 dX8_copy_86 rfl ?_
                  refine K_i2l dX8_copy_87 ?_
                  refine K_iload 5 dX8_copy_88 rfl ?_
                  refine K_i2l dX8_copy_90 ?_
                  refine K_ladd dX8_copy_91 ?_
                  refine K_aload_n 0 dX8_copy_92 rfl ?_
                  refine K_get (v := .ref 4) dX8_copy_93 fl_X8_13 kl_0 rfl rfl ?_
                  refine K_iload_n 1 dX8_copy_96 rfl ?_
                  refine K_iald (f := w14 4) dX8_copy_97 kl_4 rfl ?_
                  refine K_i2l dX8_copy_98 ?_
                  refine K_lcmp dX8_copy_99 ?_
                  refine K_if_gt 121 dX8_copy_100 rfl (fun _ => ?_) (fun _ => ?_)
                  · refine K_aload_n 0 dX8_copy_121 rfl ?_
                    refine K_iconst (v := 2) dX8_copy_122 (by decide) ?_
                    refine K_callV (E' := e_X8_finding w14 q) (b := 0) (As := [.int 2]) (rest := []) dX8_copy_123 ml_X8_89 (mf_X8_finding 1) mv_X8_finding (fun hj r hr => c_X8_finding hj w14 q (2 : Int32) hr) (rcv_obj (q := (RX8, TX8, 37)) kl_0 rfl) rfl rfl (Nat.le_of_ble_eq_true rfl) (Nat.le_of_ble_eq_true rfl) (fun r19 => ?_)
                    show K G (mi_X8_copy 3) (e_X8_copy m0 q) 126 [(0, .ref 0), (1, .int x1), (2, .int x2), (3, .int x3), (4, .int x4), (5, .int x5)] [.int r19.1] (r19.2 :: q) _
                    exact K_ret (rv := some (.int r19.1)) dX8_copy_126 rfl rfl rfl
                  · refine K_iload 4 dX8_copy_103 rfl ?_
                    refine K_i2l dX8_copy_105 ?_
                    refine K_iload 5 dX8_copy_106 rfl ?_
                    refine K_i2l dX8_copy_108 ?_
                    refine K_ladd dX8_copy_109 ?_
                    refine K_aload_n 0 dX8_copy_110 rfl ?_
                    refine K_get (v := .ref 4) dX8_copy_111 fl_X8_13 kl_0 rfl rfl ?_
                    refine K_iload_n 3 dX8_copy_114 rfl ?_
                    refine K_iald (f := w14 4) dX8_copy_115 kl_4 rfl ?_
                    refine K_i2l dX8_copy_116 ?_
                    refine K_lcmp dX8_copy_117 ?_
                    refine K_if_le 127 dX8_copy_118 rfl (fun _ => ?_) (fun _ => ?_)
                    · refine K_iload_n 2 dX8_copy_127 rfl ?_
                      refine K_iload 4 dX8_copy_128 rfl ?_
                      refine K_pick (fun j21 => (if x2 < x4 then (j21 0) else (j21 1))) (fun j21 => ∀ a20 : Int32, K G (mi_X8_copy 3) (e_X8_copy m0 q) 138 [(0, .ref 0), (1, .int x1), (2, .int x2), (3, .int x3), (4, .int x4), (5, .int x5)] [.int a20] (w14 :: q) (j21 a20)) (fun j21 => by simp only [apply_ite j21]) (fun a20 => ?_) (fun j21 hj21 => ?_)
                      · refine K_istore (lv' := [(6, .int a20), (0, .ref 0), (1, .int x1), (2, .int x2), (3, .int x3), (4, .int x4), (5, .int x5)]) dX8_copy_138 (by decide) rfl ?_
                        refine K_iconst (v := 0) dX8_copy_140 (by decide) ?_
                        refine K_istore (lv' := [(7, .int 0), (6, .int a20), (0, .ref 0), (1, .int x1), (2, .int x2), (3, .int x3), (4, .int x4), (5, .int x5)]) dX8_copy_141 (by decide) rfl ?_
                        refine K_loc [2, 3, 4, 5, 6, 7, 1, 0] (lv' := [(0, .ref 0), (1, .int x1), (2, .int x2), (3, .int x3), (4, .int x4), (5, .int x5), (6, .int a20), (7, .int 0)]) rfl ?_
                        refine k_X8_copy_L143  m0 q x1 x2 x3 x4 x5 a20 _ (fun u27 w28 => ?_) 100000 0 w14
                        refine K_iload 5 dX8_copy_204 rfl ?_
                        exact K_ret (rv := some (.int x5)) dX8_copy_206 rfl rfl rfl
                      · refine K_icmp_lt 137 dX8_copy_130 rfl (fun _ => ?_) (fun _ => ?_)
                        · refine K_iconst (v := 0) dX8_copy_137 (by decide) ?_
                          exact hj21 0
                        · refine K_iconst (v := 1) dX8_copy_133 (by decide) ?_
                          refine K_goto 138 dX8_copy_134 rfl ?_
                          exact hj21 1
                    · refine K_aload_n 0 dX8_copy_121 rfl ?_
                      refine K_iconst (v := 2) dX8_copy_122 (by decide) ?_
                      refine K_callV (E' := e_X8_finding w14 q) (b := 0) (As := [.int 2]) (rest := []) dX8_copy_123 ml_X8_89 (mf_X8_finding 1) mv_X8_finding (fun hj r hr => c_X8_finding hj w14 q (2 : Int32) hr) (rcv_obj (q := (RX8, TX8, 37)) kl_0 rfl) rfl rfl (Nat.le_of_ble_eq_true rfl) (Nat.le_of_ble_eq_true rfl) (fun r29 => ?_)
                      show K G (mi_X8_copy 3) (e_X8_copy m0 q) 126 [(0, .ref 0), (1, .int x1), (2, .int x2), (3, .int x3), (4, .int x4), (5, .int x5)] [.int r29.1] (r29.2 :: q) _
                      exact K_ret (rv := some (.int r29.1)) dX8_copy_126 rfl rfl rfl
          · refine K_aload_n 0 dX8_copy_66 rfl ?_
            refine K_iconst (v := 5) dX8_copy_67 (by decide) ?_
            refine K_callV (E' := e_X8_finding w14 q) (b := 0) (As := [.int 5]) (rest := []) dX8_copy_68 ml_X8_89 (mf_X8_finding 1) mv_X8_finding (fun hj r hr => c_X8_finding hj w14 q (5 : Int32) hr) (rcv_obj (q := (RX8, TX8, 37)) kl_0 rfl) rfl rfl (Nat.le_of_ble_eq_true rfl) (Nat.le_of_ble_eq_true rfl) (fun r30 => ?_)
            show K G (mi_X8_copy 3) (e_X8_copy m0 q) 71 [(0, .ref 0), (1, .int x1), (2, .int x2), (3, .int x3), (4, .int x4), (5, .int x5)] [.int r30.1] (r30.2 :: q) _
            exact K_ret (rv := some (.int r30.1)) dX8_copy_71 rfl rfl rfl
        · refine K_aload_n 0 dX8_copy_45 rfl ?_
          refine K_iconst (v := 1) dX8_copy_46 (by decide) ?_
          refine K_callV (E' := e_X8_finding w14 q) (b := 0) (As := [.int 1]) (rest := []) dX8_copy_47 ml_X8_89 (mf_X8_finding 1) mv_X8_finding (fun hj r hr => c_X8_finding hj w14 q (1 : Int32) hr) (rcv_obj (q := (RX8, TX8, 37)) kl_0 rfl) rfl rfl (Nat.le_of_ble_eq_true rfl) (Nat.le_of_ble_eq_true rfl) (fun r31 => ?_)
          show K G (mi_X8_copy 3) (e_X8_copy m0 q) 50 [(0, .ref 0), (1, .int x1), (2, .int x2), (3, .int x3), (4, .int x4), (5, .int x5)] [.int r31.1] (r31.2 :: q) _
          exact K_ret (rv := some (.int r31.1)) dX8_copy_50 rfl rfl rfl
    · refine K_ldc (v := (-1000001)) dX8_copy_19 cst_X8_88 ?_
      exact K_ret (rv := some (.int (-1000001))) dX8_copy_21 rfl rfl rfl
theorem c_X8_copy {G : GE} (hj : dj G) (m0 : Mem) (q : List Mem) (x1 : Int32) (x2 : Int32) (x3 : Int32) (x4 : Int32) (x5 : Int32) {r : Int32 × Mem} (hr : f_X8_copy m0 x1 x2 x3 x4 x5 = some r) : Ctr G yX8_copy (mi_X8_copy 3) [.ref 0, .int x1, .int x2, .int x3, .int x4, .int x5] (m0 :: q) ((e_X8_copy m0 q) r).1 ((e_X8_copy m0 q) r).2 := Ctr_of hj (by decide) rfl hr rfl (Nat.le_of_ble_eq_true rfl) (k_X8_copy m0 q x1 x2 x3 x4 x5)
abbrev e_X8_drop (m0 : Mem) (q : List Mem) : (Int32 × Mem) → Option Value × List Mem := fun r => (some (.int r.1), (r.2 :: q))
theorem k_X8_drop {G : GE} (m0 : Mem) (q : List Mem) (x1 : Int32) : K G (mi_X8_drop 3) (e_X8_drop m0 q) 0 [(0, .ref 0), (1, .int x1)] [] (m0 :: q) (f_X8_drop m0 x1) := by
  unfold f_X8_drop
  refine K_aload_n 0 dX8_drop_0 rfl ?_
  refine K_iconst (v := 0) dX8_drop_1 (by decide) ?_
  refine K_put (Ms' := ((up m0 0 0 0) :: q)) dX8_drop_2 fp_X8_68 kl_0 rfl rfl rfl (Nat.succ_pos _) rfl ?_
  refine K_nmm (fun w => (w :: q)) rfl (fun w11 => ?_)
  refine K_iload_n 1 dX8_drop_5 rfl ?_
  refine K_callS (E' := e_X8_isRow (w11 :: q)) (As := [.int x1]) (rest := []) dX8_drop_6 ml_X8_82 (mf_X8_isRow 2) ms_X8_isRow (fun hj r hr => c_X8_isRow hj (w11 :: q) x1 hr) rfl rfl (Nat.le_of_ble_eq_true rfl) (Nat.le_of_ble_eq_true rfl) (fun r12 => ?_)
  show K G (mi_X8_drop 3) (e_X8_drop m0 q) 9 [(0, .ref 0), (1, .int x1)] [.int r12] (w11 :: q) _
  refine K_if_ne 15 dX8_drop_9 rfl (fun _ => ?_) (fun _ => ?_)
  · refine K_aload_n 0 dX8_drop_15 rfl ?_
    refine K_iconst (v := 0) dX8_drop_16 (by decide) ?_
    refine K_put (Ms' := ((up w11 0 1 0) :: q)) dX8_drop_17 fp_X8_72 kl_0 rfl rfl rfl (Nat.succ_pos _) rfl ?_
    refine K_nmm (fun w => (w :: q)) rfl (fun w13 => ?_)
    refine K_aload_n 0 dX8_drop_20 rfl ?_
    refine K_get (v := .ref 3) dX8_drop_21 fl_X8_7 kl_0 rfl rfl ?_
    refine K_iload_n 1 dX8_drop_24 rfl ?_
    refine K_iald (f := w13 3) dX8_drop_25 kl_3 rfl ?_
    refine K_if_ge 35 dX8_drop_26 rfl (fun _ => ?_) (fun _ => ?_)
    · refine K_aload_n 0 dX8_drop_35 rfl ?_
      refine K_get (v := .ref 3) dX8_drop_36 fl_X8_7 kl_0 rfl rfl ?_
      refine K_iload_n 1 dX8_drop_39 rfl ?_
      refine K_iconst (v := (-1)) dX8_drop_40 (by decide) ?_
      refine K_iast (Ms' := ((up w13 3 x1.toNatClampNeg (-1)) :: q)) dX8_drop_41 kl_3 (Nat.succ_pos _) rfl ?_
      refine K_nmm (fun w => (w :: q)) rfl (fun w14 => ?_)
      refine K_aload_n 0 dX8_drop_42 rfl ?_
      refine K_get (v := .ref 4) dX8_drop_43 fl_X8_13 kl_0 rfl rfl ?_
      refine K_iload_n 1 dX8_drop_46 rfl ?_
      refine K_iald (f := w14 4) dX8_drop_47 kl_4 rfl ?_
      exact K_ret (rv := some (.int (w14 4 x1.toNatClampNeg))) dX8_drop_48 rfl rfl rfl
    · refine K_aload_n 0 dX8_drop_29 rfl ?_
      refine K_iconst (v := 1) dX8_drop_30 (by decide) ?_
      refine K_callV (E' := e_X8_finding w13 q) (b := 0) (As := [.int 1]) (rest := []) dX8_drop_31 ml_X8_89 (mf_X8_finding 1) mv_X8_finding (fun hj r hr => c_X8_finding hj w13 q (1 : Int32) hr) (rcv_obj (q := (RX8, TX8, 37)) kl_0 rfl) rfl rfl (Nat.le_of_ble_eq_true rfl) (Nat.le_of_ble_eq_true rfl) (fun r15 => ?_)
      show K G (mi_X8_drop 3) (e_X8_drop m0 q) 34 [(0, .ref 0), (1, .int x1)] [.int r15.1] (r15.2 :: q) _
      exact K_ret (rv := some (.int r15.1)) dX8_drop_34 rfl rfl rfl
  · refine K_ldc (v := (-1000001)) dX8_drop_12 cst_X8_88 ?_
    exact K_ret (rv := some (.int (-1000001))) dX8_drop_14 rfl rfl rfl
theorem c_X8_drop {G : GE} (hj : dj G) (m0 : Mem) (q : List Mem) (x1 : Int32) {r : Int32 × Mem} (hr : f_X8_drop m0 x1 = some r) : Ctr G yX8_drop (mi_X8_drop 3) [.ref 0, .int x1] (m0 :: q) ((e_X8_drop m0 q) r).1 ((e_X8_drop m0 q) r).2 := Ctr_of hj (by decide) rfl hr rfl (Nat.le_of_ble_eq_true rfl) (k_X8_drop m0 q x1)
abbrev e_X8_feed (m0 : Mem) (q : List Mem) : (Int32 × Mem) → Option Value × List Mem := fun r => (some (.int r.1), (r.2 :: q))
theorem k_X8_feed_L40 {G : GE} (m0 : Mem) (q : List Mem) (x1 : Int64) (k : Int32 → Mem → Option (Int32 × Mem)) (hk : ∀ (u14 : Int32) (w15 : Mem), K G (mi_X8_feed 2) (e_X8_feed m0 q) 82 [(0, .ref 0), (1, .long x1), (4, .int u14)] [] (w15 :: q) (k u14 w15)) : ∀ (t : Nat) (u14 : Int32) (w15 : Mem), K G (mi_X8_feed 2) (e_X8_feed m0 q) 40 [(0, .ref 0), (1, .long x1), (4, .int u14)] [] (w15 :: q) (f_X8_feed_L40 k x1 t u14 w15) := by
  intro t
  induction t with
  | zero => intro u14 w15; exact K_none
  | succ t ih =>
    intro u14 w15
    rw [f_X8_feed_L40]
    refine K_iload 2 dX8_feed_40 rfl ?_
    refine K_if_lt 82 dX8_feed_42 rfl (fun _ => ?_) (fun _ => ?_)
    · refine K_loc [0, 1, 2] (lv' := [(0, .ref 0), (1, .long x1), (4, .int u14)]) rfl ?_
      exact hk u14 w15
    · refine K_aload_n 0 dX8_feed_45 rfl ?_
      refine K_get (v := .ref 12) dX8_feed_46 fl_X8_31 kl_0 rfl rfl ?_
      refine K_aload_n 0 dX8_feed_49 rfl ?_
      refine K_get (v := .int (w15 0 12)) dX8_feed_50 fl_X8_95 kl_0 rfl rfl ?_
      refine K_lload_n 1 dX8_feed_53 rfl ?_
      refine K_bipush (v := 8) dX8_feed_54 (by decide) ?_
      refine K_iload 2 dX8_feed_56 rfl ?_
      refine K_imul dX8_feed_58 ?_
      refine K_lshr dX8_feed_59 ?_
      refine K_ldc2 (v := 255) dX8_feed_60 cst_X8_99 ?_
      refine K_land dX8_feed_63 ?_
      refine K_l2i dX8_feed_64 ?_
      refine K_iast (Ms' := ((up w15 12 (w15 0 12).toNatClampNeg (((x1 >>> ((8 * u14).toInt64 &&& 63)) &&& 255).toInt32)) :: q)) dX8_feed_65 kl_12 (Nat.succ_pos _) rfl ?_
      refine K_nmm (fun w => (w :: q)) rfl (fun w16 => ?_)
      refine K_aload_n 0 dX8_feed_66 rfl ?_
      refine K_dup dX8_feed_67 rfl ?_
      refine K_get (v := .int (w16 0 12)) dX8_feed_68 fl_X8_95 kl_0 rfl rfl ?_
      refine K_iconst (v := 1) dX8_feed_71 (by decide) ?_
      refine K_iadd dX8_feed_72 ?_
      refine K_put (Ms' := ((up w16 0 12 ((w16 0 12) + 1)) :: q)) dX8_feed_73 fp_X8_95 kl_0 rfl rfl rfl (Nat.succ_pos _) rfl ?_
      refine K_nmm (fun w => (w :: q)) rfl (fun w17 => ?_)
      refine K_iinc 2 (w := u14 + (-1)) (lv' := [(4, .int (u14 + (-1))), (0, .ref 0), (1, .long x1)]) dX8_feed_76 rfl rfl (by decide) rfl ?_
      refine K_goto 40 dX8_feed_79 rfl ?_
      refine K_loc [1, 2, 0] (lv' := [(0, .ref 0), (1, .long x1), (4, .int (u14 + (-1)))]) rfl ?_
      exact ih (u14 + (-1)) w17
theorem k_X8_feed {G : GE} (m0 : Mem) (q : List Mem) (x1 : Int64) (x3 : Int32) : K G (mi_X8_feed 2) (e_X8_feed m0 q) 0 [(0, .ref 0), (1, .long x1), (3, .int x3)] [] (m0 :: q) (f_X8_feed m0 x1 x3) := by
  unfold f_X8_feed
  refine K_aload_n 0 dX8_feed_0 rfl ?_
  refine K_iconst (v := 0) dX8_feed_1 (by decide) ?_
  refine K_put (Ms' := ((up m0 0 0 0) :: q)) dX8_feed_2 fp_X8_68 kl_0 rfl rfl rfl (Nat.succ_pos _) rfl ?_
  refine K_nmm (fun w => (w :: q)) rfl (fun w11 => ?_)
  refine K_iload_n 2 dX8_feed_5 rfl ?_
  refine K_i2l dX8_feed_6 ?_
  refine K_lconst (v := 1) dX8_feed_7 (by decide) ?_
  refine K_ldc2 (v := 8) dX8_feed_8 cst_X8_93 ?_
  refine K_callS (E' := e_X8_in (w11 :: q)) (As := [.long x3.toInt64, .long 1, .long 8]) (rest := []) dX8_feed_11 ml_X8_78 (mf_X8_in 1) ms_X8_in (fun hj r hr => c_X8_in hj (w11 :: q) x3.toInt64 (1 : Int64) (8 : Int64) hr) rfl rfl (Nat.le_of_ble_eq_true rfl) (Nat.le_of_ble_eq_true rfl) (fun r12 => ?_)
  show K G (mi_X8_feed 2) (e_X8_feed m0 q) 14 [(0, .ref 0), (1, .long x1), (3, .int x3)] [.int r12] (w11 :: q) _
  refine K_if_ne 20 dX8_feed_14 rfl (fun _ => ?_) (fun _ => ?_)
  · refine K_aload_n 0 dX8_feed_20 rfl ?_
    refine K_get (v := .int (w11 0 12)) dX8_feed_21 fl_X8_95 kl_0 rfl rfl ?_
    refine K_iload_n 2 dX8_feed_24 rfl ?_
    refine K_iadd dX8_feed_25 ?_
    refine K_sipush (v := 500) dX8_feed_26 (by decide) ?_
    refine K_icmp_le 35 dX8_feed_29 rfl (fun _ => ?_) (fun _ => ?_)
    · refine K_iload_n 2 dX8_feed_35 rfl ?_
      refine K_iconst (v := 1) dX8_feed_36 (by decide) ?_
      refine K_isub dX8_feed_37 ?_
      refine K_nmi (fun x13 => ?_)
      refine K_istore (lv' := [(4, .int x13), (0, .ref 0), (1, .long x1), (3, .int x3)]) dX8_feed_38 (by decide) rfl ?_
      refine K_loc [1, 2, 0] (lv' := [(0, .ref 0), (1, .long x1), (4, .int x13)]) rfl ?_
      refine k_X8_feed_L40  m0 q x1 _ (fun u18 w19 => ?_) 100000 x13 w11
      refine K_aload_n 0 dX8_feed_82 rfl ?_
      refine K_get (v := .int (w19 0 12)) dX8_feed_83 fl_X8_95 kl_0 rfl rfl ?_
      exact K_ret (rv := some (.int (w19 0 12))) dX8_feed_86 rfl rfl rfl
    · refine K_ldc (v := (-1000003)) dX8_feed_32 cst_X8_98 ?_
      exact K_ret (rv := some (.int (-1000003))) dX8_feed_34 rfl rfl rfl
  · refine K_ldc (v := (-1000001)) dX8_feed_17 cst_X8_88 ?_
    exact K_ret (rv := some (.int (-1000001))) dX8_feed_19 rfl rfl rfl
theorem c_X8_feed {G : GE} (hj : dj G) (m0 : Mem) (q : List Mem) (x1 : Int64) (x3 : Int32) {r : Int32 × Mem} (hr : f_X8_feed m0 x1 x3 = some r) : Ctr G yX8_feed (mi_X8_feed 2) [.ref 0, .long x1, .int x3] (m0 :: q) ((e_X8_feed m0 q) r).1 ((e_X8_feed m0 q) r).2 := Ctr_of hj (by decide) rfl hr rfl (Nat.le_of_ble_eq_true rfl) (k_X8_feed m0 q x1 x3)
abbrev e_X8_byteAt (m0 : Mem) (q : List Mem) : Int32 → Option Value × List Mem := fun r => (some (.int r), (m0 :: q))
theorem k_X8_byteAt {G : GE} (m0 : Mem) (q : List Mem) (x1 : Int32) : K G (mi_X8_byteAt 1) (e_X8_byteAt m0 q) 0 [(0, .ref 0), (1, .int x1)] [] (m0 :: q) (f_X8_byteAt m0 x1) := by
  unfold f_X8_byteAt
  refine K_iload_n 1 dX8_byteAt_0 rfl ?_
  refine K_aload_n 0 dX8_byteAt_1 rfl ?_
  refine K_get (v := .int (m0 0 14)) dX8_byteAt_2 fl_X8_101 kl_0 rfl rfl ?_
  refine K_icmp_ge 17 dX8_byteAt_5 rfl (fun _ => ?_) (fun _ => ?_)
  · refine K_ldc (v := (-1000000)) dX8_byteAt_17 cst_X8_104 ?_
    exact K_ret (rv := some (.int (-1000000))) dX8_byteAt_19 rfl rfl rfl
  · refine K_aload_n 0 dX8_byteAt_8 rfl ?_
    refine K_get (v := .ref 12) dX8_byteAt_9 fl_X8_31 kl_0 rfl rfl ?_
    refine K_iload_n 1 dX8_byteAt_12 rfl ?_
    refine K_iald (f := m0 12) dX8_byteAt_13 kl_12 rfl ?_
    refine K_goto 19 dX8_byteAt_14 rfl ?_
    exact K_ret (rv := some (.int (m0 12 x1.toNatClampNeg))) dX8_byteAt_19 rfl rfl rfl
theorem c_X8_byteAt {G : GE} (hj : dj G) (m0 : Mem) (q : List Mem) (x1 : Int32) {r : Int32} (hr : f_X8_byteAt m0 x1 = some r) : Ctr G yX8_byteAt (mi_X8_byteAt 1) [.ref 0, .int x1] (m0 :: q) ((e_X8_byteAt m0 q) r).1 ((e_X8_byteAt m0 q) r).2 := Ctr_of hj (by decide) rfl hr rfl (Nat.le_of_ble_eq_true rfl) (k_X8_byteAt m0 q x1)
abbrev e_X8_isLetter (Ms : List Mem) : Int32 → Option Value × List Mem := fun r => (some (.int r), Ms)
theorem k_X8_isLetter {G : GE} (Ms : List Mem) (x0 : Int32) : K G (mi_X8_isLetter 1) (e_X8_isLetter Ms) 0 [(0, .int x0)] [] Ms (f_X8_isLetter x0) := by
  unfold f_X8_isLetter
  refine K_iload_n 0 dX8_isLetter_0 rfl ?_
  refine K_bipush (v := 97) dX8_isLetter_1 (by decide) ?_
  refine K_icmp_lt 16 dX8_isLetter_3 rfl (fun _ => ?_) (fun _ => ?_)
  · refine K_iconst (v := 0) dX8_isLetter_16 (by decide) ?_
    exact K_ret (rv := some (.int 0)) dX8_isLetter_17 rfl rfl rfl
  · refine K_iload_n 0 dX8_isLetter_6 rfl ?_
    refine K_bipush (v := 122) dX8_isLetter_7 (by decide) ?_
    refine K_icmp_gt 16 dX8_isLetter_9 rfl (fun _ => ?_) (fun _ => ?_)
    · refine K_iconst (v := 0) dX8_isLetter_16 (by decide) ?_
      exact K_ret (rv := some (.int 0)) dX8_isLetter_17 rfl rfl rfl
    · refine K_iconst (v := 1) dX8_isLetter_12 (by decide) ?_
      refine K_goto 17 dX8_isLetter_13 rfl ?_
      exact K_ret (rv := some (.int 1)) dX8_isLetter_17 rfl rfl rfl
theorem c_X8_isLetter {G : GE} (hj : dj G) (Ms : List Mem) (x0 : Int32) {r : Int32} (hr : f_X8_isLetter x0 = some r) : Ctr G yX8_isLetter (mi_X8_isLetter 1) [.int x0] Ms ((e_X8_isLetter Ms) r).1 ((e_X8_isLetter Ms) r).2 := Ctr_of hj (by decide) rfl hr rfl (Nat.le_of_ble_eq_true rfl) (k_X8_isLetter Ms x0)
abbrev e_X8_isFigure (Ms : List Mem) : Int32 → Option Value × List Mem := fun r => (some (.int r), Ms)
theorem k_X8_isFigure {G : GE} (Ms : List Mem) (x0 : Int32) : K G (mi_X8_isFigure 1) (e_X8_isFigure Ms) 0 [(0, .int x0)] [] Ms (f_X8_isFigure x0) := by
  unfold f_X8_isFigure
  refine K_iload_n 0 dX8_isFigure_0 rfl ?_
  refine K_bipush (v := 48) dX8_isFigure_1 (by decide) ?_
  refine K_icmp_lt 16 dX8_isFigure_3 rfl (fun _ => ?_) (fun _ => ?_)
  · refine K_iconst (v := 0) dX8_isFigure_16 (by decide) ?_
    exact K_ret (rv := some (.int 0)) dX8_isFigure_17 rfl rfl rfl
  · refine K_iload_n 0 dX8_isFigure_6 rfl ?_
    refine K_bipush (v := 57) dX8_isFigure_7 (by decide) ?_
    refine K_icmp_gt 16 dX8_isFigure_9 rfl (fun _ => ?_) (fun _ => ?_)
    · refine K_iconst (v := 0) dX8_isFigure_16 (by decide) ?_
      exact K_ret (rv := some (.int 0)) dX8_isFigure_17 rfl rfl rfl
    · refine K_iconst (v := 1) dX8_isFigure_12 (by decide) ?_
      refine K_goto 17 dX8_isFigure_13 rfl ?_
      exact K_ret (rv := some (.int 1)) dX8_isFigure_17 rfl rfl rfl
theorem c_X8_isFigure {G : GE} (hj : dj G) (Ms : List Mem) (x0 : Int32) {r : Int32} (hr : f_X8_isFigure x0 = some r) : Ctr G yX8_isFigure (mi_X8_isFigure 1) [.int x0] Ms ((e_X8_isFigure Ms) r).1 ((e_X8_isFigure Ms) r).2 := Ctr_of hj (by decide) rfl hr rfl (Nat.le_of_ble_eq_true rfl) (k_X8_isFigure Ms x0)
