abbrev e_X8_ask (m0 : Mem) (q : List Mem) : (Int32 × Mem) → Option Value × List Mem := fun r => (some (.int r.1), (r.2 :: q))
theorem k_X8_ask {G : GE} (m0 : Mem) (q : List Mem) (x1 : Int32) (x2 : Int32) : K G (mi_X8_ask 6) (e_X8_ask m0 q) 0 [(0, .ref 0), (1, .int x1), (2, .int x2)] [] (m0 :: q) (f_X8_ask m0 x1 x2) := by
  unfold f_X8_ask
  refine K_aload_n 0 dX8_ask_0 rfl ?_
  refine K_iconst (v := 0) dX8_ask_1 (by decide) ?_
  refine K_put (Ms' := ((up m0 0 0 0) :: q)) dX8_ask_2 fp_X8_68 kl_0 rfl rfl rfl (Nat.succ_pos _) rfl ?_
  refine K_nmm (fun w => (w :: q)) rfl (fun w11 => ?_)
  refine K_aload_n 0 dX8_ask_5 rfl ?_
  refine K_iload_n 1 dX8_ask_6 rfl ?_
  refine K_callV (E' := e_X8_isPerson w11 q) (b := 0) (As := [.int x1]) (rest := []) dX8_ask_7 ml_X8_232 (mf_X8_isPerson 2) mv_X8_isPerson (fun hj r hr => c_X8_isPerson hj w11 q x1 hr) (rcv_obj (q := (RX8, TX8, 37)) kl_0 rfl) rfl rfl (Nat.le_of_ble_eq_true rfl) (Nat.le_of_ble_eq_true rfl) (fun r12 => ?_)
  show K G (mi_X8_ask 6) (e_X8_ask m0 q) 10 [(0, .ref 0), (1, .int x1), (2, .int x2)] [.int r12] (w11 :: q) _
  refine K_if_eq 23 dX8_ask_10 rfl (fun _ => ?_) (fun _ => ?_)
  · refine K_ldc (v := (-1000001)) dX8_ask_23 cst_X8_88 ?_
    exact K_ret (rv := some (.int (-1000001))) dX8_ask_25 rfl rfl rfl
  · refine K_iload_n 2 dX8_ask_13 rfl ?_
    refine K_i2l dX8_ask_14 ?_
    refine K_lconst (v := 0) dX8_ask_15 (by decide) ?_
    refine K_lconst (v := 1) dX8_ask_16 (by decide) ?_
    refine K_callS (E' := e_X8_in (w11 :: q)) (As := [.long x2.toInt64, .long 0, .long 1]) (rest := []) dX8_ask_17 ml_X8_78 (mf_X8_in 1) ms_X8_in (fun hj r hr => c_X8_in hj (w11 :: q) x2.toInt64 (0 : Int64) (1 : Int64) hr) rfl rfl (Nat.le_of_ble_eq_true rfl) (Nat.le_of_ble_eq_true rfl) (fun r13 => ?_)
    show K G (mi_X8_ask 6) (e_X8_ask m0 q) 20 [(0, .ref 0), (1, .int x1), (2, .int x2)] [.int r13] (w11 :: q) _
    refine K_if_ne 26 dX8_ask_20 rfl (fun _ => ?_) (fun _ => ?_)
    · refine K_aload_n 0 dX8_ask_26 rfl ?_
      refine K_iconst (v := 0) dX8_ask_27 (by decide) ?_
      refine K_put (Ms' := ((up w11 0 36 0) :: q)) dX8_ask_28 fp_X8_333 kl_0 rfl rfl rfl (Nat.succ_pos _) rfl ?_
      refine K_nmm (fun w => (w :: q)) rfl (fun w14 => ?_)
      refine K_iload_n 2 dX8_ask_31 rfl ?_
      refine K_if_ne 43 dX8_ask_32 rfl (fun _ => ?_) (fun _ => ?_)
      · refine K_aload_n 0 dX8_ask_43 rfl ?_
        refine K_iload_n 1 dX8_ask_44 rfl ?_
        refine K_callV (E' := e_X8_markOf w14 q) (b := 0) (As := [.int x1]) (rest := []) dX8_ask_45 ml_X8_345 (mf_X8_markOf 4) mv_X8_markOf (fun hj r hr => c_X8_markOf hj w14 q x1 hr) (rcv_obj (q := (RX8, TX8, 37)) kl_0 rfl) rfl rfl (Nat.le_of_ble_eq_true rfl) (Nat.le_of_ble_eq_true rfl) (fun r15 => ?_)
        show K G (mi_X8_ask 6) (e_X8_ask m0 q) 48 [(0, .ref 0), (1, .int x1), (2, .int x2)] [.int r15.1] (r15.2 :: q) _
        exact K_ret (rv := some (.int r15.1)) dX8_ask_48 rfl rfl rfl
      · refine K_aload_n 0 dX8_ask_35 rfl ?_
        refine K_iload_n 1 dX8_ask_36 rfl ?_
        refine K_callV (E' := e_X8_sizeOf w14 q) (b := 0) (As := [.int x1]) (rest := []) dX8_ask_37 ml_X8_348 (mf_X8_sizeOf 5) mv_X8_sizeOf (fun hj r hr => c_X8_sizeOf hj w14 q x1 hr) (rcv_obj (q := (RX8, TX8, 37)) kl_0 rfl) rfl rfl (Nat.le_of_ble_eq_true rfl) (Nat.le_of_ble_eq_true rfl) (fun r16 => ?_)
        show K G (mi_X8_ask 6) (e_X8_ask m0 q) 40 [(0, .ref 0), (1, .int x1), (2, .int x2)] [.int r16.1] (r16.2 :: q) _
        refine K_goto 48 dX8_ask_40 rfl ?_
        exact K_ret (rv := some (.int r16.1)) dX8_ask_48 rfl rfl rfl
    · refine K_ldc (v := (-1000001)) dX8_ask_23 cst_X8_88 ?_
      exact K_ret (rv := some (.int (-1000001))) dX8_ask_25 rfl rfl rfl
theorem c_X8_ask {G : GE} (hj : dj G) (m0 : Mem) (q : List Mem) (x1 : Int32) (x2 : Int32) {r : Int32 × Mem} (hr : f_X8_ask m0 x1 x2 = some r) : Ctr G yX8_ask (mi_X8_ask 6) [.ref 0, .int x1, .int x2] (m0 :: q) ((e_X8_ask m0 q) r).1 ((e_X8_ask m0 q) r).2 := Ctr_of hj (by decide) rfl hr rfl (Nat.le_of_ble_eq_true rfl) (k_X8_ask m0 q x1 x2)
abbrev e_X8_trace (m0 : Mem) (q : List Mem) : (Int32 × Mem) → Option Value × List Mem := fun r => (some (.int r.1), (r.2 :: q))
theorem k_X8_trace {G : GE} (m0 : Mem) (q : List Mem) (x1 : Int32) : K G (mi_X8_trace 2) (e_X8_trace m0 q) 0 [(0, .ref 0), (1, .int x1)] [] (m0 :: q) (f_X8_trace m0 x1) := by
  unfold f_X8_trace
  refine K_aload_n 0 dX8_trace_0 rfl ?_
  refine K_iconst (v := 0) dX8_trace_1 (by decide) ?_
  refine K_put (Ms' := ((up m0 0 0 0) :: q)) dX8_trace_2 fp_X8_68 kl_0 rfl rfl rfl (Nat.succ_pos _) rfl ?_
  refine K_nmm (fun w => (w :: q)) rfl (fun w11 => ?_)
  refine K_iload_n 1 dX8_trace_5 rfl ?_
  refine K_i2l dX8_trace_6 ?_
  refine K_lconst (v := 0) dX8_trace_7 (by decide) ?_
  refine K_aload_n 0 dX8_trace_8 rfl ?_
  refine K_get (v := .int (w11 0 36)) dX8_trace_9 fl_X8_333 kl_0 rfl rfl ?_
  refine K_iconst (v := 1) dX8_trace_12 (by decide) ?_
  refine K_isub dX8_trace_13 ?_
  refine K_i2l dX8_trace_14 ?_
  refine K_callS (E' := e_X8_in (w11 :: q)) (As := [.long x1.toInt64, .long 0, .long (((w11 0 36) - 1).toInt64)]) (rest := []) dX8_trace_15 ml_X8_78 (mf_X8_in 1) ms_X8_in (fun hj r hr => c_X8_in hj (w11 :: q) x1.toInt64 (0 : Int64) (((w11 0 36) - 1).toInt64) hr) rfl rfl (Nat.le_of_ble_eq_true rfl) (Nat.le_of_ble_eq_true rfl) (fun r12 => ?_)
  show K G (mi_X8_trace 2) (e_X8_trace m0 q) 18 [(0, .ref 0), (1, .int x1)] [.int r12] (w11 :: q) _
  refine K_if_eq 30 dX8_trace_18 rfl (fun _ => ?_) (fun _ => ?_)
  · refine K_ldc (v := (-1000000)) dX8_trace_30 cst_X8_104 ?_
    exact K_ret (rv := some (.int (-1000000))) dX8_trace_32 rfl rfl rfl
  · refine K_aload_n 0 dX8_trace_21 rfl ?_
    refine K_get (v := .ref 36) dX8_trace_22 fl_X8_65 kl_0 rfl rfl ?_
    refine K_iload_n 1 dX8_trace_25 rfl ?_
    refine K_iald (f := w11 36) dX8_trace_26 kl_36 rfl ?_
    refine K_goto 32 dX8_trace_27 rfl ?_
    exact K_ret (rv := some (.int (w11 36 x1.toNatClampNeg))) dX8_trace_32 rfl rfl rfl
theorem c_X8_trace {G : GE} (hj : dj G) (m0 : Mem) (q : List Mem) (x1 : Int32) {r : Int32 × Mem} (hr : f_X8_trace m0 x1 = some r) : Ctr G yX8_trace (mi_X8_trace 2) [.ref 0, .int x1] (m0 :: q) ((e_X8_trace m0 q) r).1 ((e_X8_trace m0 q) r).2 := Ctr_of hj (by decide) rfl hr rfl (Nat.le_of_ble_eq_true rfl) (k_X8_trace m0 q x1)
abbrev e_X8_count (m0 : Mem) (q : List Mem) : (Int32 × Mem) → Option Value × List Mem := fun r => (some (.int r.1), (r.2 :: q))
theorem k_X8_count_L54 {G : GE} (m0 : Mem) (q : List Mem) (w11 : Mem) (k : Int32 → Int32 → Option (Int32 × Mem)) (hk : ∀ (u12 : Int32) (u13 : Int32), K G (mi_X8_count 2) (e_X8_count m0 q) 83 [(0, .ref 0), (2, .int u12), (3, .int u13)] [] (w11 :: q) (k u12 u13)) : ∀ (t : Nat) (u12 : Int32) (u13 : Int32), K G (mi_X8_count 2) (e_X8_count m0 q) 54 [(0, .ref 0), (2, .int u12), (3, .int u13)] [] (w11 :: q) (f_X8_count_L54 k w11 t u12 u13) := by
  intro t
  induction t with
  | zero => intro u12 u13; exact K_none
  | succ t ih =>
    intro u12 u13
    rw [f_X8_count_L54]
    refine K_iload_n 2 dX8_count_54 rfl ?_
    refine K_bipush (v := 8) dX8_count_55 (by decide) ?_
    refine K_icmp_ge 83 dX8_count_57 rfl (fun _ => ?_) (fun _ => ?_)
    · refine K_loc [0, 1, 2] (lv' := [(0, .ref 0), (2, .int u12), (3, .int u13)]) rfl ?_
      exact hk u12 u13
    · refine K_iload_n 1 dX8_count_60 rfl ?_
      refine K_aload_n 0 dX8_count_61 rfl ?_
      refine K_get (v := .ref 3) dX8_count_62 fl_X8_7 kl_0 rfl rfl ?_
      refine K_iload_n 2 dX8_count_65 rfl ?_
      refine K_iald (f := w11 3) dX8_count_66 kl_3 rfl ?_
      refine K_if_lt 74 dX8_count_67 rfl (fun _ => ?_) (fun _ => ?_)
      · refine K_iconst (v := 0) dX8_count_74 (by decide) ?_
        refine K_iadd dX8_count_75 ?_
        refine K_nmi (fun x14 => ?_)
        refine K_istore_n (lv' := [(2, .int x14), (0, .ref 0), (3, .int u13)]) dX8_count_76 (by decide) rfl ?_
        refine K_iinc 2 (w := u13 + 1) (lv' := [(3, .int (u13 + 1)), (2, .int x14), (0, .ref 0)]) dX8_count_77 rfl rfl (by decide) rfl ?_
        refine K_goto 54 dX8_count_80 rfl ?_
        refine K_loc [2, 1, 0] (lv' := [(0, .ref 0), (2, .int x14), (3, .int (u13 + 1))]) rfl ?_
        exact ih x14 (u13 + 1)
      · refine K_iconst (v := 1) dX8_count_70 (by decide) ?_
        refine K_goto 75 dX8_count_71 rfl ?_
        refine K_iadd dX8_count_75 ?_
        refine K_nmi (fun x15 => ?_)
        refine K_istore_n (lv' := [(2, .int x15), (0, .ref 0), (3, .int u13)]) dX8_count_76 (by decide) rfl ?_
        refine K_iinc 2 (w := u13 + 1) (lv' := [(3, .int (u13 + 1)), (2, .int x15), (0, .ref 0)]) dX8_count_77 rfl rfl (by decide) rfl ?_
        refine K_goto 54 dX8_count_80 rfl ?_
        refine K_loc [2, 1, 0] (lv' := [(0, .ref 0), (2, .int x15), (3, .int (u13 + 1))]) rfl ?_
        exact ih x15 (u13 + 1)
theorem k_X8_count_L103 {G : GE} (m0 : Mem) (q : List Mem) (w11 : Mem) (k : Int32 → Int32 → Option (Int32 × Mem)) (hk : ∀ (u18 : Int32) (u19 : Int32), K G (mi_X8_count 2) (e_X8_count m0 q) 128 [(0, .ref 0), (2, .int u18), (3, .int u19)] [] (w11 :: q) (k u18 u19)) : ∀ (t : Nat) (u18 : Int32) (u19 : Int32), K G (mi_X8_count 2) (e_X8_count m0 q) 103 [(0, .ref 0), (2, .int u18), (3, .int u19)] [] (w11 :: q) (f_X8_count_L103 k w11 t u18 u19) := by
  intro t
  induction t with
  | zero => intro u18 u19; exact K_none
  | succ t ih =>
    intro u18 u19
    rw [f_X8_count_L103]
    refine K_iload_n 2 dX8_count_103 rfl ?_
    refine K_aload_n 0 dX8_count_104 rfl ?_
    refine K_get (v := .ref 6) dX8_count_105 fl_X8_19 kl_0 rfl rfl ?_
    refine K_iconst (v := 4) dX8_count_108 (by decide) ?_
    refine K_iald (f := w11 6) dX8_count_109 kl_6 rfl ?_
    refine K_icmp_ge 128 dX8_count_110 rfl (fun _ => ?_) (fun _ => ?_)
    · refine K_loc [0, 1, 2] (lv' := [(0, .ref 0), (2, .int u18), (3, .int u19)]) rfl ?_
      exact hk u18 u19
    · refine K_iload_n 1 dX8_count_113 rfl ?_
      refine K_aload_n 0 dX8_count_114 rfl ?_
      refine K_iload_n 2 dX8_count_115 rfl ?_
      refine K_iconst (v := 2) dX8_count_116 (by decide) ?_
      refine K_callV (E' := e_X8_of w11 q) (b := 0) (As := [.int u19, .int 2]) (rest := [.int u18]) dX8_count_117 ml_X8_237 (mf_X8_of 1) mv_X8_of (fun hj r hr => c_X8_of hj w11 q u19 (2 : Int32) hr) (rcv_obj (q := (RX8, TX8, 37)) kl_0 rfl) rfl rfl (Nat.le_of_ble_eq_true rfl) (Nat.le_of_ble_eq_true rfl) (fun r20 => ?_)
      show K G (mi_X8_count 2) (e_X8_count m0 q) 120 [(0, .ref 0), (2, .int u18), (3, .int u19)] [.int r20, .int u18] (w11 :: q) _
      refine K_iadd dX8_count_120 ?_
      refine K_nmi (fun x21 => ?_)
      refine K_istore_n (lv' := [(2, .int x21), (0, .ref 0), (3, .int u19)]) dX8_count_121 (by decide) rfl ?_
      refine K_iinc 2 (w := u19 + 1) (lv' := [(3, .int (u19 + 1)), (2, .int x21), (0, .ref 0)]) dX8_count_122 rfl rfl (by decide) rfl ?_
      refine K_goto 103 dX8_count_125 rfl ?_
      refine K_loc [2, 1, 0] (lv' := [(0, .ref 0), (2, .int x21), (3, .int (u19 + 1))]) rfl ?_
      exact ih x21 (u19 + 1)
theorem k_X8_count {G : GE} (m0 : Mem) (q : List Mem) (x1 : Int32) : K G (mi_X8_count 2) (e_X8_count m0 q) 0 [(0, .ref 0), (1, .int x1)] [] (m0 :: q) (f_X8_count m0 x1) := by
  unfold f_X8_count
  refine K_aload_n 0 dX8_count_0 rfl ?_
  refine K_iconst (v := 0) dX8_count_1 (by decide) ?_
  refine K_put (Ms' := ((up m0 0 0 0) :: q)) dX8_count_2 fp_X8_68 kl_0 rfl rfl rfl (Nat.succ_pos _) rfl ?_
  refine K_nmm (fun w => (w :: q)) rfl (fun w11 => ?_)
  refine K_iconst (v := 0) dX8_count_5 (by decide) ?_
  refine K_istore_n (lv' := [(2, .int 0), (0, .ref 0), (1, .int x1)]) dX8_count_6 (by decide) rfl ?_
  refine K_iload_n 2 dX8_count_7 rfl ?_
  refine K_ite (c := x1 = 0) (fun hs0 => ?_) (fun hs0 => ?_)
  · refine K_tabIn (off := 44) 52 dX8_count_8 (by rw [hs0]; decide) (by rw [hs0]; decide) (by rw [hs0]; rfl) rfl ?_
    refine K_iconst (v := 0) dX8_count_52 (by decide) ?_
    refine K_istore_n (lv' := [(3, .int 0), (2, .int 0), (0, .ref 0), (1, .int x1)]) dX8_count_53 (by decide) rfl ?_
    refine K_loc [2, 1, 0] (lv' := [(0, .ref 0), (2, .int 0), (3, .int 0)]) rfl ?_
    refine k_X8_count_L54  m0 q w11 _ (fun u16 u17 => ?_) 100000 0 0
    refine K_iload_n 1 dX8_count_83 rfl ?_
    exact K_ret (rv := some (.int u16)) dX8_count_84 rfl rfl rfl
  refine K_ite (c := x1 = 1) (fun hs1 => ?_) (fun hs1 => ?_)
  · refine K_tabIn (off := 77) 85 dX8_count_8 (by rw [hs1]; decide) (by rw [hs1]; decide) (by rw [hs1]; rfl) rfl ?_
    refine K_aload_n 1 dX8_count_85 rfl ?_
    refine K_get (v := .ref 6) dX8_count_86 fl_X8_19 kl_0 rfl rfl ?_
    refine K_iconst (v := 4) dX8_count_89 (by decide) ?_
    refine K_iload_n 2 dX8_count_90 rfl ?_
    refine K_iadd dX8_count_91 ?_
    refine K_iconst (v := 1) dX8_count_92 (by decide) ?_
    refine K_isub dX8_count_93 ?_
    refine K_iald (f := w11 6) dX8_count_94 kl_6 rfl ?_
    exact K_ret (rv := some (.int (w11 6 ((4 + x1) - 1).toNatClampNeg))) dX8_count_95 rfl rfl rfl
  refine K_ite (c := x1 = 2) (fun hs2 => ?_) (fun hs2 => ?_)
  · refine K_tabIn (off := 77) 85 dX8_count_8 (by rw [hs2]; decide) (by rw [hs2]; decide) (by rw [hs2]; rfl) rfl ?_
    refine K_aload_n 1 dX8_count_85 rfl ?_
    refine K_get (v := .ref 6) dX8_count_86 fl_X8_19 kl_0 rfl rfl ?_
    refine K_iconst (v := 4) dX8_count_89 (by decide) ?_
    refine K_iload_n 2 dX8_count_90 rfl ?_
    refine K_iadd dX8_count_91 ?_
    refine K_iconst (v := 1) dX8_count_92 (by decide) ?_
    refine K_isub dX8_count_93 ?_
    refine K_iald (f := w11 6) dX8_count_94 kl_6 rfl ?_
    exact K_ret (rv := some (.int (w11 6 ((4 + x1) - 1).toNatClampNeg))) dX8_count_95 rfl rfl rfl
  refine K_ite (c := x1 = 3) (fun hs3 => ?_) (fun hs3 => ?_)
  · refine K_tabIn (off := 77) 85 dX8_count_8 (by rw [hs3]; decide) (by rw [hs3]; decide) (by rw [hs3]; rfl) rfl ?_
    refine K_aload_n 1 dX8_count_85 rfl ?_
    refine K_get (v := .ref 6) dX8_count_86 fl_X8_19 kl_0 rfl rfl ?_
    refine K_iconst (v := 4) dX8_count_89 (by decide) ?_
    refine K_iload_n 2 dX8_count_90 rfl ?_
    refine K_iadd dX8_count_91 ?_
    refine K_iconst (v := 1) dX8_count_92 (by decide) ?_
    refine K_isub dX8_count_93 ?_
    refine K_iald (f := w11 6) dX8_count_94 kl_6 rfl ?_
    exact K_ret (rv := some (.int (w11 6 ((4 + x1) - 1).toNatClampNeg))) dX8_count_95 rfl rfl rfl
  refine K_ite (c := x1 = 4) (fun hs4 => ?_) (fun hs4 => ?_)
  · refine K_tabIn (off := 88) 96 dX8_count_8 (by rw [hs4]; decide) (by rw [hs4]; decide) (by rw [hs4]; rfl) rfl ?_
    refine K_aload_n 1 dX8_count_96 rfl ?_
    refine K_get (v := .int (w11 0 10)) dX8_count_97 fl_X8_221 kl_0 rfl rfl ?_
    exact K_ret (rv := some (.int (w11 0 10))) dX8_count_100 rfl rfl rfl
  refine K_ite (c := x1 = 5) (fun hs5 => ?_) (fun hs5 => ?_)
  · refine K_tabIn (off := 93) 101 dX8_count_8 (by rw [hs5]; decide) (by rw [hs5]; decide) (by rw [hs5]; rfl) rfl ?_
    refine K_iconst (v := 0) dX8_count_101 (by decide) ?_
    refine K_istore_n (lv' := [(3, .int 0), (2, .int 0), (0, .ref 0), (1, .int x1)]) dX8_count_102 (by decide) rfl ?_
    refine K_loc [2, 1, 0] (lv' := [(0, .ref 0), (2, .int 0), (3, .int 0)]) rfl ?_
    refine k_X8_count_L103  m0 q w11 _ (fun u22 u23 => ?_) 100000 0 0
    refine K_iload_n 1 dX8_count_128 rfl ?_
    exact K_ret (rv := some (.int u22)) dX8_count_129 rfl rfl rfl
  refine K_ite (c := x1 = 6) (fun hs6 => ?_) (fun hs6 => ?_)
  · refine K_tabIn (off := 122) 130 dX8_count_8 (by rw [hs6]; decide) (by rw [hs6]; decide) (by rw [hs6]; rfl) rfl ?_
    refine K_aload_n 1 dX8_count_130 rfl ?_
    refine K_get (v := .int (w11 0 12)) dX8_count_131 fl_X8_95 kl_0 rfl rfl ?_
    exact K_ret (rv := some (.int (w11 0 12))) dX8_count_134 rfl rfl rfl
  refine K_tabOut 135 dX8_count_8 (by have ehs0 := lv_neT hs0 (a := 0) (by decide); have ehs1 := lv_neT hs1 (a := 1) (by decide); have ehs2 := lv_neT hs2 (a := 2) (by decide); have ehs3 := lv_neT hs3 (a := 3) (by decide); have ehs4 := lv_neT hs4 (a := 4) (by decide); have ehs5 := lv_neT hs5 (a := 5) (by decide); have ehs6 := lv_neT hs6 (a := 6) (by decide); omega) rfl ?_
  refine K_ldc (v := (-1000001)) dX8_count_135 cst_X8_88 ?_
  exact K_ret (rv := some (.int (-1000001))) dX8_count_137 rfl rfl rfl
theorem c_X8_count {G : GE} (hj : dj G) (m0 : Mem) (q : List Mem) (x1 : Int32) {r : Int32 × Mem} (hr : f_X8_count m0 x1 = some r) : Ctr G yX8_count (mi_X8_count 2) [.ref 0, .int x1] (m0 :: q) ((e_X8_count m0 q) r).1 ((e_X8_count m0 q) r).2 := Ctr_of hj (by decide) rfl hr rfl (Nat.le_of_ble_eq_true rfl) (k_X8_count m0 q x1)
abbrev e_X8_status (m0 : Mem) (q : List Mem) : (Int32 × Mem) → Option Value × List Mem := fun r => (some (.int r.1), (r.2 :: q))
theorem k_X8_status {G : GE} (m0 : Mem) (q : List Mem)  : K G (mi_X8_status 1) (e_X8_status m0 q) 0 [(0, .ref 0)] [] (m0 :: q) (f_X8_status m0) := by
  unfold f_X8_status
  refine K_aload_n 0 dX8_status_0 rfl ?_
  refine K_iconst (v := 0) dX8_status_1 (by decide) ?_
  refine K_put (Ms' := ((up m0 0 0 0) :: q)) dX8_status_2 fp_X8_68 kl_0 rfl rfl rfl (Nat.succ_pos _) rfl ?_
  refine K_nmm (fun w => (w :: q)) rfl (fun w11 => ?_)
  refine K_aload_n 0 dX8_status_5 rfl ?_
  refine K_get (v := .int (w11 0 1)) dX8_status_6 fl_X8_72 kl_0 rfl rfl ?_
  exact K_ret (rv := some (.int (w11 0 1))) dX8_status_9 rfl rfl rfl
theorem c_X8_status {G : GE} (hj : dj G) (m0 : Mem) (q : List Mem)  {r : Int32 × Mem} (hr : f_X8_status m0 = some r) : Ctr G yX8_status (mi_X8_status 1) [.ref 0] (m0 :: q) ((e_X8_status m0 q) r).1 ((e_X8_status m0 q) r).2 := Ctr_of hj (by decide) rfl hr rfl (Nat.le_of_ble_eq_true rfl) (k_X8_status m0 q )
