abbrev e_X7_ask (m0 m1 m2 m3 m4 m5 m6 m7 m8 m9 m10 m11 : Mem) : (Int32 × Mem) → Option Value × List Mem := fun r => (some (.int r.1), [m0, m1, m2, m3, m4, m5, m6, m7, r.2, m9, m10, m11])
theorem k_X7_ask {G : GE} (m0 m1 m2 m3 m4 m5 m6 m7 m8 m9 m10 m11 : Mem) (x1 : Int32) (x2 : Int32) (h7 : m11 0 7 = 1) : K G (mi_X7_ask 62) (e_X7_ask m0 m1 m2 m3 m4 m5 m6 m7 m8 m9 m10 m11) 0 [(0, .ref 11000), (1, .int x1), (2, .int x2)] [] [m0, m1, m2, m3, m4, m5, m6, m7, m8, m9, m10, m11] (f_X7_ask m1 m8 x1 x2) := by
  unfold f_X7_ask
  refine K_aload_n 0 dX7_ask_0 rfl ?_
  refine K_get (v := .ref 1000) dX7_ask_1 fl_X7_58 kl_11000 rfl (nd_ref h7) ?_
  refine K_iload_n 1 dX7_ask_4 rfl ?_
  refine K_callV (E' := e_X3_hasPerson_1 m0 m1 m2 m3 m4 m5 m6 m7 m8 m9 m10 m11) (b := 1000) (As := [.int x1]) (rest := []) dX7_ask_5 ml_X7_128 (mf_X3_hasPerson 1) mv_X3_hasPerson (fun hj r hr => c_X3_hasPerson_1 hj m0 m1 m2 m3 m4 m5 m6 m7 m8 m9 m10 m11 x1 hr) (rcv_obj (q := (RX3, TX3, 18)) kl_1000 rfl) rfl rfl (Nat.le_of_ble_eq_true rfl) (Nat.le_of_ble_eq_true rfl) (fun r11 => ?_)
  show K G (mi_X7_ask 62) (e_X7_ask m0 m1 m2 m3 m4 m5 m6 m7 m8 m9 m10 m11) 8 [(0, .ref 11000), (1, .int x1), (2, .int x2)] [.int r11] [m0, m1, m2, m3, m4, m5, m6, m7, m8, m9, m10, m11] _
  refine K_if_eq 20 dX7_ask_8 rfl (fun _ => ?_) (fun _ => ?_)
  · refine K_ldc (v := (-1000001)) dX7_ask_20 cst_X7_73 ?_
    exact K_ret (rv := some (.int (-1000001))) dX7_ask_22 rfl rfl rfl
  · refine K_iload_n 2 dX7_ask_11 rfl ?_
    refine K_if_lt 20 dX7_ask_12 rfl (fun _ => ?_) (fun _ => ?_)
    · refine K_ldc (v := (-1000001)) dX7_ask_20 cst_X7_73 ?_
      exact K_ret (rv := some (.int (-1000001))) dX7_ask_22 rfl rfl rfl
    · refine K_iload_n 2 dX7_ask_15 rfl ?_
      refine K_iconst (v := 1) dX7_ask_16 (by decide) ?_
      refine K_icmp_le 23 dX7_ask_17 rfl (fun _ => ?_) (fun _ => ?_)
      · refine K_aload_n 0 dX7_ask_23 rfl ?_
        refine K_get (v := .ref 8000) dX7_ask_24 fl_X7_54 kl_11000 rfl rfl ?_
        refine K_callV (E' := e_X0_forget m0 m1 m2 m3 m4 m5 m6 m7 m8 m9 m10 m11) (b := 8000) (As := []) (rest := []) dX7_ask_27 ml_X7_269 (mf_X0_forget 1) mv_X0_forget (fun hj r hr => c_X0_forget hj m0 m1 m2 m3 m4 m5 m6 m7 m8 m9 m10 m11  hr) (rcv_obj (q := (RX0, TX0, 2)) kl_8000 rfl) rfl rfl (Nat.le_of_ble_eq_true rfl) (Nat.le_of_ble_eq_true rfl) (fun r12 => ?_)
        show K G (mi_X7_ask 62) (e_X7_ask m0 m1 m2 m3 m4 m5 m6 m7 m8 m9 m10 m11) 30 [(0, .ref 11000), (1, .int x1), (2, .int x2)] [] [m0, m1, m2, m3, m4, m5, m6, m7, r12, m9, m10, m11] _
        refine K_aload_n 0 dX7_ask_30 rfl ?_
        refine K_get (v := .ref 8000) dX7_ask_31 fl_X7_54 kl_11000 rfl rfl ?_
        refine K_aload_n 0 dX7_ask_34 rfl ?_
        refine K_get (v := .ref 1000) dX7_ask_35 fl_X7_58 kl_11000 rfl (nd_ref h7) ?_
        refine K_iload_n 1 dX7_ask_38 rfl ?_
        refine K_iload_n 2 dX7_ask_39 rfl ?_
        refine K_iconst (v := 0) dX7_ask_40 (by decide) ?_
        refine K_callV (E' := e_X0_pose m0 m1 m2 m3 m4 m5 m6 m7 r12 m9 m10 m11) (b := 8000) (As := [.ref 1000, .int x1, .int x2, .int 0]) (rest := []) dX7_ask_41 ml_X7_272 (mf_X0_pose 61) mv_X0_pose (fun hj r hr => c_X0_pose 60 (f_X0_begin 28) (fun hj m0 m1 m2 m3 m4 m5 m6 m7 m8 m9 m10 m11 x2 x3 x4 r hr => c_X0_begin 28 hj m0 m1 m2 m3 m4 m5 m6 m7 m8 m9 m10 m11 x2 x3 x4 hr) hj m0 m1 m2 m3 m4 m5 m6 m7 r12 m9 m10 m11 x1 x2 (0 : Int32) hr) (rcv_obj (q := (RX0, TX0, 2)) kl_8000 rfl) rfl rfl (Nat.le_of_ble_eq_true rfl) (Nat.le_of_ble_eq_true rfl) (fun r13 => ?_)
        show K G (mi_X7_ask 62) (e_X7_ask m0 m1 m2 m3 m4 m5 m6 m7 m8 m9 m10 m11) 44 [(0, .ref 11000), (1, .int x1), (2, .int x2)] [.int r13.1] [m0, m1, m2, m3, m4, m5, m6, m7, r13.2, m9, m10, m11] _
        exact K_ret (rv := some (.int r13.1)) dX7_ask_44 rfl rfl rfl
      · refine K_ldc (v := (-1000001)) dX7_ask_20 cst_X7_73 ?_
        exact K_ret (rv := some (.int (-1000001))) dX7_ask_22 rfl rfl rfl
theorem c_X7_ask {G : GE} (hj : dj G) (m0 m1 m2 m3 m4 m5 m6 m7 m8 m9 m10 m11 : Mem) (x1 : Int32) (x2 : Int32) (h7 : m11 0 7 = 1) {r : Int32 × Mem} (hr : f_X7_ask m1 m8 x1 x2 = some r) : Ctr G yX7_ask (mi_X7_ask 62) [.ref 11000, .int x1, .int x2] [m0, m1, m2, m3, m4, m5, m6, m7, m8, m9, m10, m11] ((e_X7_ask m0 m1 m2 m3 m4 m5 m6 m7 m8 m9 m10 m11) r).1 ((e_X7_ask m0 m1 m2 m3 m4 m5 m6 m7 m8 m9 m10 m11) r).2 := Ctr_of hj (by decide) rfl hr rfl (Nat.le_of_ble_eq_true rfl) (k_X7_ask m0 m1 m2 m3 m4 m5 m6 m7 m8 m9 m10 m11 x1 x2 h7)
abbrev e_X7_trace (m0 m1 m2 m3 m4 m5 m6 m7 m8 m9 m10 m11 : Mem) : Int32 → Option Value × List Mem := fun r => (some (.int r), [m0, m1, m2, m3, m4, m5, m6, m7, m8, m9, m10, m11])
theorem k_X7_trace {G : GE} (m0 m1 m2 m3 m4 m5 m6 m7 m8 m9 m10 m11 : Mem) (x1 : Int32) : K G (mi_X7_trace 1) (e_X7_trace m0 m1 m2 m3 m4 m5 m6 m7 m8 m9 m10 m11) 0 [(0, .ref 11000), (1, .int x1)] [] [m0, m1, m2, m3, m4, m5, m6, m7, m8, m9, m10, m11] (f_X7_trace m8 x1) := by
  unfold f_X7_trace
  refine K_iload_n 1 dX7_trace_0 rfl ?_
  refine K_if_lt 27 dX7_trace_1 rfl (fun _ => ?_) (fun _ => ?_)
  · refine K_ldc (v := (-1000000)) dX7_trace_27 cst_X7_180 ?_
    exact K_ret (rv := some (.int (-1000000))) dX7_trace_29 rfl rfl rfl
  · refine K_iload_n 1 dX7_trace_4 rfl ?_
    refine K_aload_n 0 dX7_trace_5 rfl ?_
    refine K_get (v := .ref 8000) dX7_trace_6 fl_X7_54 kl_11000 rfl rfl ?_
    refine K_get (v := .int (m8 0 1)) dX7_trace_9 fl_X7_275 kl_8000 rfl rfl ?_
    refine K_icmp_ge 27 dX7_trace_12 rfl (fun _ => ?_) (fun _ => ?_)
    · refine K_ldc (v := (-1000000)) dX7_trace_27 cst_X7_180 ?_
      exact K_ret (rv := some (.int (-1000000))) dX7_trace_29 rfl rfl rfl
    · refine K_aload_n 0 dX7_trace_15 rfl ?_
      refine K_get (v := .ref 8000) dX7_trace_16 fl_X7_54 kl_11000 rfl rfl ?_
      refine K_get (v := .ref 8001) dX7_trace_19 fl_X7_278 kl_8000 rfl rfl ?_
      refine K_iload_n 1 dX7_trace_22 rfl ?_
      refine K_iald (f := m8 1) dX7_trace_23 kl_8001 rfl ?_
      refine K_goto 29 dX7_trace_24 rfl ?_
      exact K_ret (rv := some (.int (m8 1 x1.toNatClampNeg))) dX7_trace_29 rfl rfl rfl
theorem c_X7_trace {G : GE} (hj : dj G) (m0 m1 m2 m3 m4 m5 m6 m7 m8 m9 m10 m11 : Mem) (x1 : Int32) {r : Int32} (hr : f_X7_trace m8 x1 = some r) : Ctr G yX7_trace (mi_X7_trace 1) [.ref 11000, .int x1] [m0, m1, m2, m3, m4, m5, m6, m7, m8, m9, m10, m11] ((e_X7_trace m0 m1 m2 m3 m4 m5 m6 m7 m8 m9 m10 m11) r).1 ((e_X7_trace m0 m1 m2 m3 m4 m5 m6 m7 m8 m9 m10 m11) r).2 := Ctr_of hj (by decide) rfl hr rfl (Nat.le_of_ble_eq_true rfl) (k_X7_trace m0 m1 m2 m3 m4 m5 m6 m7 m8 m9 m10 m11 x1)
abbrev e_X6_present (m0 m1 m2 m3 m4 m5 m6 m7 m8 m9 m10 m11 : Mem) : Int32 → Option Value × List Mem := fun r => (some (.int r), [m0, m1, m2, m3, m4, m5, m6, m7, m8, m9, m10, m11])
theorem k_X6_present_L4 {G : GE} (m0 m1 m2 m3 m4 m5 m6 m7 m8 m9 m10 m11 : Mem) (k : Int32 → Int32 → Option (Int32)) (hk : ∀ (u11 : Int32) (u12 : Int32), K G (mi_X6_present 2) (e_X6_present m0 m1 m2 m3 m4 m5 m6 m7 m8 m9 m10 m11) 27 [(0, .ref 5000), (1, .int u11), (2, .int u12)] [] [m0, m1, m2, m3, m4, m5, m6, m7, m8, m9, m10, m11] (k u11 u12)) : ∀ (t : Nat) (u11 : Int32) (u12 : Int32), K G (mi_X6_present 2) (e_X6_present m0 m1 m2 m3 m4 m5 m6 m7 m8 m9 m10 m11) 4 [(0, .ref 5000), (1, .int u11), (2, .int u12)] [] [m0, m1, m2, m3, m4, m5, m6, m7, m8, m9, m10, m11] (f_X6_present_L4 k m5 t u11 u12) := by
  intro t
  induction t with
  | zero => intro u11 u12; exact K_none
  | succ t ih =>
    intro u11 u12
    rw [f_X6_present_L4]
    refine K_iload_n 2 dX6_present_4 rfl ?_
    refine K_bipush (v := 8) dX6_present_5 (by decide) ?_
    refine K_icmp_ge 27 dX6_present_7 rfl (fun _ => ?_) (fun _ => ?_)
    · refine K_loc [0, 1, 2] (lv' := [(0, .ref 5000), (1, .int u11), (2, .int u12)]) rfl ?_
      exact hk u11 u12
    · refine K_aload_n 0 dX6_present_10 rfl ?_
      refine K_iload_n 2 dX6_present_11 rfl ?_
      refine K_callV (E' := e_X6_isMissing m0 m1 m2 m3 m4 m5 m6 m7 m8 m9 m10 m11) (b := 5000) (As := [.int u12]) (rest := []) dX6_present_12 ml_X6_39 (mf_X6_isMissing 1) mv_X6_isMissing (fun hj r hr => c_X6_isMissing hj m0 m1 m2 m3 m4 m5 m6 m7 m8 m9 m10 m11 u12 hr) (rcv_obj (q := (RX6, TX6, 3)) kl_5000 rfl) rfl rfl (Nat.le_of_ble_eq_true rfl) (Nat.le_of_ble_eq_true rfl) (fun r13 => ?_)
      show K G (mi_X6_present 2) (e_X6_present m0 m1 m2 m3 m4 m5 m6 m7 m8 m9 m10 m11) 15 [(0, .ref 5000), (1, .int u11), (2, .int u12)] [.int r13] [m0, m1, m2, m3, m4, m5, m6, m7, m8, m9, m10, m11] _
      refine K_if_ne 21 dX6_present_15 rfl (fun _ => ?_) (fun _ => ?_)
      · refine K_iinc 2 (w := u12 + 1) (lv' := [(2, .int (u12 + 1)), (0, .ref 5000), (1, .int u11)]) dX6_present_21 rfl rfl (by decide) rfl ?_
        refine K_goto 4 dX6_present_24 rfl ?_
        refine K_loc [1, 2, 0] (lv' := [(0, .ref 5000), (1, .int u11), (2, .int (u12 + 1))]) rfl ?_
        exact ih u11 (u12 + 1)
      · refine K_iinc 1 (w := u11 + 1) (lv' := [(1, .int (u11 + 1)), (0, .ref 5000), (2, .int u12)]) dX6_present_18 rfl rfl (by decide) rfl ?_
        refine K_iinc 2 (w := u12 + 1) (lv' := [(2, .int (u12 + 1)), (1, .int (u11 + 1)), (0, .ref 5000)]) dX6_present_21 rfl rfl (by decide) rfl ?_
        refine K_goto 4 dX6_present_24 rfl ?_
        refine K_loc [2, 1, 0] (lv' := [(0, .ref 5000), (1, .int (u11 + 1)), (2, .int (u12 + 1))]) rfl ?_
        exact ih (u11 + 1) (u12 + 1)
theorem k_X6_present {G : GE} (m0 m1 m2 m3 m4 m5 m6 m7 m8 m9 m10 m11 : Mem)  : K G (mi_X6_present 2) (e_X6_present m0 m1 m2 m3 m4 m5 m6 m7 m8 m9 m10 m11) 0 [(0, .ref 5000)] [] [m0, m1, m2, m3, m4, m5, m6, m7, m8, m9, m10, m11] (f_X6_present m5) := by
  unfold f_X6_present
  refine K_iconst (v := 0) dX6_present_0 (by decide) ?_
  refine K_istore_n (lv' := [(1, .int 0), (0, .ref 5000)]) dX6_present_1 (by decide) rfl ?_
  refine K_iconst (v := 0) dX6_present_2 (by decide) ?_
  refine K_istore_n (lv' := [(2, .int 0), (1, .int 0), (0, .ref 5000)]) dX6_present_3 (by decide) rfl ?_
  refine K_loc [2, 1, 0] (lv' := [(0, .ref 5000), (1, .int 0), (2, .int 0)]) rfl ?_
  refine k_X6_present_L4  m0 m1 m2 m3 m4 m5 m6 m7 m8 m9 m10 m11  _ (fun u14 u15 => ?_) 100000 0 0
  refine K_iload_n 1 dX6_present_27 rfl ?_
  exact K_ret (rv := some (.int u14)) dX6_present_28 rfl rfl rfl
theorem c_X6_present {G : GE} (hj : dj G) (m0 m1 m2 m3 m4 m5 m6 m7 m8 m9 m10 m11 : Mem)  {r : Int32} (hr : f_X6_present m5 = some r) : Ctr G yX6_present (mi_X6_present 2) [.ref 5000] [m0, m1, m2, m3, m4, m5, m6, m7, m8, m9, m10, m11] ((e_X6_present m0 m1 m2 m3 m4 m5 m6 m7 m8 m9 m10 m11) r).1 ((e_X6_present m0 m1 m2 m3 m4 m5 m6 m7 m8 m9 m10 m11) r).2 := Ctr_of hj (by decide) rfl hr rfl (Nat.le_of_ble_eq_true rfl) (k_X6_present m0 m1 m2 m3 m4 m5 m6 m7 m8 m9 m10 m11 )
abbrev e_X3_glassesInAll_1 (m0 m1 m2 m3 m4 m5 m6 m7 m8 m9 m10 m11 : Mem) : Int32 → Option Value × List Mem := fun r => (some (.int r), [m0, m1, m2, m3, m4, m5, m6, m7, m8, m9, m10, m11])
theorem k_X3_glassesInAll_1_L4 {G : GE} (m0 m1 m2 m3 m4 m5 m6 m7 m8 m9 m10 m11 : Mem) (k : Int32 → Int32 → Option (Int32)) (hk : ∀ (u11 : Int32) (u12 : Int32), K G (mi_X3_glassesInAll 1) (e_X3_glassesInAll_1 m0 m1 m2 m3 m4 m5 m6 m7 m8 m9 m10 m11) 27 [(0, .ref 1000), (1, .int u11), (2, .int u12)] [] [m0, m1, m2, m3, m4, m5, m6, m7, m8, m9, m10, m11] (k u11 u12)) : ∀ (t : Nat) (u11 : Int32) (u12 : Int32), K G (mi_X3_glassesInAll 1) (e_X3_glassesInAll_1 m0 m1 m2 m3 m4 m5 m6 m7 m8 m9 m10 m11) 4 [(0, .ref 1000), (1, .int u11), (2, .int u12)] [] [m0, m1, m2, m3, m4, m5, m6, m7, m8, m9, m10, m11] (f_X3_glassesInAll_L4 k m1 t u11 u12) := by
  intro t
  induction t with
  | zero => intro u11 u12; exact K_none
  | succ t ih =>
    intro u11 u12
    rw [f_X3_glassesInAll_L4]
    refine K_iload_n 2 dX3_glassesInAll_4 rfl ?_
    refine K_aload_n 0 dX3_glassesInAll_5 rfl ?_
    refine K_get (v := .int (m1 0 6)) dX3_glassesInAll_6 fl_X3_50 kl_1000 rfl rfl ?_
    refine K_icmp_ge 27 dX3_glassesInAll_9 rfl (fun _ => ?_) (fun _ => ?_)
    · refine K_loc [0, 1, 2] (lv' := [(0, .ref 1000), (1, .int u11), (2, .int u12)]) rfl ?_
      exact hk u11 u12
    · refine K_iload_n 1 dX3_glassesInAll_12 rfl ?_
      refine K_aload_n 0 dX3_glassesInAll_13 rfl ?_
      refine K_get (v := .ref 1014) dX3_glassesInAll_14 fl_X3_25 kl_1000 rfl rfl ?_
      refine K_iload_n 2 dX3_glassesInAll_17 rfl ?_
      refine K_iald (f := m1 14) dX3_glassesInAll_18 kl_1014 rfl ?_
      refine K_iadd dX3_glassesInAll_19 ?_
      refine K_nmi (fun x13 => ?_)
      refine K_istore_n (lv' := [(1, .int x13), (0, .ref 1000), (2, .int u12)]) dX3_glassesInAll_20 (by decide) rfl ?_
      refine K_iinc 2 (w := u12 + 1) (lv' := [(2, .int (u12 + 1)), (1, .int x13), (0, .ref 1000)]) dX3_glassesInAll_21 rfl rfl (by decide) rfl ?_
      refine K_goto 4 dX3_glassesInAll_24 rfl ?_
      refine K_loc [2, 1, 0] (lv' := [(0, .ref 1000), (1, .int x13), (2, .int (u12 + 1))]) rfl ?_
      exact ih x13 (u12 + 1)
theorem k_X3_glassesInAll_1 {G : GE} (m0 m1 m2 m3 m4 m5 m6 m7 m8 m9 m10 m11 : Mem)  : K G (mi_X3_glassesInAll 1) (e_X3_glassesInAll_1 m0 m1 m2 m3 m4 m5 m6 m7 m8 m9 m10 m11) 0 [(0, .ref 1000)] [] [m0, m1, m2, m3, m4, m5, m6, m7, m8, m9, m10, m11] (f_X3_glassesInAll m1) := by
  unfold f_X3_glassesInAll
  refine K_iconst (v := 0) dX3_glassesInAll_0 (by decide) ?_
  refine K_istore_n (lv' := [(1, .int 0), (0, .ref 1000)]) dX3_glassesInAll_1 (by decide) rfl ?_
  refine K_iconst (v := 0) dX3_glassesInAll_2 (by decide) ?_
  refine K_istore_n (lv' := [(2, .int 0), (1, .int 0), (0, .ref 1000)]) dX3_glassesInAll_3 (by decide) rfl ?_
  refine K_loc [2, 1, 0] (lv' := [(0, .ref 1000), (1, .int 0), (2, .int 0)]) rfl ?_
  refine k_X3_glassesInAll_1_L4  m0 m1 m2 m3 m4 m5 m6 m7 m8 m9 m10 m11  _ (fun u14 u15 => ?_) 100000 0 0
  refine K_iload_n 1 dX3_glassesInAll_27 rfl ?_
  exact K_ret (rv := some (.int u14)) dX3_glassesInAll_28 rfl rfl rfl
theorem c_X3_glassesInAll_1 {G : GE} (hj : dj G) (m0 m1 m2 m3 m4 m5 m6 m7 m8 m9 m10 m11 : Mem)  {r : Int32} (hr : f_X3_glassesInAll m1 = some r) : Ctr G yX3_glassesInAll (mi_X3_glassesInAll 1) [.ref 1000] [m0, m1, m2, m3, m4, m5, m6, m7, m8, m9, m10, m11] ((e_X3_glassesInAll_1 m0 m1 m2 m3 m4 m5 m6 m7 m8 m9 m10 m11) r).1 ((e_X3_glassesInAll_1 m0 m1 m2 m3 m4 m5 m6 m7 m8 m9 m10 m11) r).2 := Ctr_of hj (by decide) rfl hr rfl (Nat.le_of_ble_eq_true rfl) (k_X3_glassesInAll_1 m0 m1 m2 m3 m4 m5 m6 m7 m8 m9 m10 m11 )
abbrev e_X7_count (m0 m1 m2 m3 m4 m5 m6 m7 m8 m9 m10 m11 : Mem) : Int32 → Option Value × List Mem := fun r => (some (.int r), [m0, m1, m2, m3, m4, m5, m6, m7, m8, m9, m10, m11])
theorem k_X7_count {G : GE} (m0 m1 m2 m3 m4 m5 m6 m7 m8 m9 m10 m11 : Mem) (x1 : Int32) (h7 : m11 0 7 = 1) : K G (mi_X7_count 3) (e_X7_count m0 m1 m2 m3 m4 m5 m6 m7 m8 m9 m10 m11) 0 [(0, .ref 11000), (1, .int x1)] [] [m0, m1, m2, m3, m4, m5, m6, m7, m8, m9, m10, m11] (f_X7_count m1 m4 m5 m6 x1) := by
  unfold f_X7_count
  refine K_iload_n 1 dX7_count_0 rfl ?_
  refine K_ite (c := x1 = 0) (fun hs0 => ?_) (fun hs0 => ?_)
  · refine K_tabIn (off := 43) 44 dX7_count_1 (by rw [hs0]; decide) (by rw [hs0]; decide) (by rw [hs0]; rfl) rfl ?_
    refine K_aload_n 0 dX7_count_44 rfl ?_
    refine K_get (v := .ref 5000) dX7_count_45 fl_X7_10 kl_11000 rfl rfl ?_
    refine K_callV (E' := e_X6_present m0 m1 m2 m3 m4 m5 m6 m7 m8 m9 m10 m11) (b := 5000) (As := []) (rest := []) dX7_count_48 ml_X7_281 (mf_X6_present 2) mv_X6_present (fun hj r hr => c_X6_present hj m0 m1 m2 m3 m4 m5 m6 m7 m8 m9 m10 m11  hr) (rcv_obj (q := (RX6, TX6, 3)) kl_5000 rfl) rfl rfl (Nat.le_of_ble_eq_true rfl) (Nat.le_of_ble_eq_true rfl) (fun r11 => ?_)
    show K G (mi_X7_count 3) (e_X7_count m0 m1 m2 m3 m4 m5 m6 m7 m8 m9 m10 m11) 51 [(0, .ref 11000), (1, .int x1)] [.int r11] [m0, m1, m2, m3, m4, m5, m6, m7, m8, m9, m10, m11] _
    exact K_ret (rv := some (.int r11)) dX7_count_51 rfl rfl rfl
  refine K_ite (c := x1 = 1) (fun hs1 => ?_) (fun hs1 => ?_)
  · refine K_tabIn (off := 51) 52 dX7_count_1 (by rw [hs1]; decide) (by rw [hs1]; decide) (by rw [hs1]; rfl) rfl ?_
    refine K_aload_n 0 dX7_count_52 rfl ?_
    refine K_get (v := .ref 1000) dX7_count_53 fl_X7_58 kl_11000 rfl (nd_ref h7) ?_
    refine K_get (v := .int (m1 0 6)) dX7_count_56 fl_X7_122 kl_1000 rfl rfl ?_
    exact K_ret (rv := some (.int (m1 0 6))) dX7_count_59 rfl rfl rfl
  refine K_ite (c := x1 = 2) (fun hs2 => ?_) (fun hs2 => ?_)
  · refine K_tabIn (off := 59) 60 dX7_count_1 (by rw [hs2]; decide) (by rw [hs2]; decide) (by rw [hs2]; rfl) rfl ?_
    refine K_aload_n 0 dX7_count_60 rfl ?_
    refine K_get (v := .ref 1000) dX7_count_61 fl_X7_58 kl_11000 rfl (nd_ref h7) ?_
    refine K_get (v := .int (m1 0 7)) dX7_count_64 fl_X7_225 kl_1000 rfl rfl ?_
    exact K_ret (rv := some (.int (m1 0 7))) dX7_count_67 rfl rfl rfl
  refine K_ite (c := x1 = 3) (fun hs3 => ?_) (fun hs3 => ?_)
  · refine K_tabIn (off := 67) 68 dX7_count_1 (by rw [hs3]; decide) (by rw [hs3]; decide) (by rw [hs3]; rfl) rfl ?_
    refine K_aload_n 0 dX7_count_68 rfl ?_
    refine K_get (v := .ref 1000) dX7_count_69 fl_X7_58 kl_11000 rfl (nd_ref h7) ?_
    refine K_get (v := .int (m1 0 5)) dX7_count_72 fl_X7_284 kl_1000 rfl rfl ?_
    exact K_ret (rv := some (.int (m1 0 5))) dX7_count_75 rfl rfl rfl
  refine K_ite (c := x1 = 4) (fun hs4 => ?_) (fun hs4 => ?_)
  · refine K_tabIn (off := 75) 76 dX7_count_1 (by rw [hs4]; decide) (by rw [hs4]; decide) (by rw [hs4]; rfl) rfl ?_
    refine K_aload_n 0 dX7_count_76 rfl ?_
    refine K_get (v := .ref 6000) dX7_count_77 fl_X7_33 kl_11000 rfl rfl ?_
    refine K_get (v := .int (m6 0 2)) dX7_count_80 fl_X7_140 kl_6000 rfl rfl ?_
    exact K_ret (rv := some (.int (m6 0 2))) dX7_count_83 rfl rfl rfl
  refine K_ite (c := x1 = 5) (fun hs5 => ?_) (fun hs5 => ?_)
  · refine K_tabIn (off := 83) 84 dX7_count_1 (by rw [hs5]; decide) (by rw [hs5]; decide) (by rw [hs5]; rfl) rfl ?_
    refine K_aload_n 0 dX7_count_84 rfl ?_
    refine K_get (v := .ref 1000) dX7_count_85 fl_X7_58 kl_11000 rfl (nd_ref h7) ?_
    refine K_callV (E' := e_X3_glassesInAll_1 m0 m1 m2 m3 m4 m5 m6 m7 m8 m9 m10 m11) (b := 1000) (As := []) (rest := []) dX7_count_88 ml_X7_287 (mf_X3_glassesInAll 1) mv_X3_glassesInAll (fun hj r hr => c_X3_glassesInAll_1 hj m0 m1 m2 m3 m4 m5 m6 m7 m8 m9 m10 m11  hr) (rcv_obj (q := (RX3, TX3, 18)) kl_1000 rfl) rfl rfl (Nat.le_of_ble_eq_true rfl) (Nat.le_of_ble_eq_true rfl) (fun r12 => ?_)
    show K G (mi_X7_count 3) (e_X7_count m0 m1 m2 m3 m4 m5 m6 m7 m8 m9 m10 m11) 91 [(0, .ref 11000), (1, .int x1)] [.int r12] [m0, m1, m2, m3, m4, m5, m6, m7, m8, m9, m10, m11] _
    exact K_ret (rv := some (.int r12)) dX7_count_91 rfl rfl rfl
  refine K_ite (c := x1 = 6) (fun hs6 => ?_) (fun hs6 => ?_)
  · refine K_tabIn (off := 91) 92 dX7_count_1 (by rw [hs6]; decide) (by rw [hs6]; decide) (by rw [hs6]; rfl) rfl ?_
    refine K_aload_n 0 dX7_count_92 rfl ?_
    refine K_get (v := .ref 4000) dX7_count_93 fl_X7_19 kl_11000 rfl rfl ?_
    refine K_get (v := .int (m4 0 1)) dX7_count_96 fl_X7_290 kl_4000 rfl rfl ?_
    exact K_ret (rv := some (.int (m4 0 1))) dX7_count_99 rfl rfl rfl
  refine K_tabOut 100 dX7_count_1 (by have ehs0 := lv_neT hs0 (a := 0) (by decide); have ehs1 := lv_neT hs1 (a := 1) (by decide); have ehs2 := lv_neT hs2 (a := 2) (by decide); have ehs3 := lv_neT hs3 (a := 3) (by decide); have ehs4 := lv_neT hs4 (a := 4) (by decide); have ehs5 := lv_neT hs5 (a := 5) (by decide); have ehs6 := lv_neT hs6 (a := 6) (by decide); omega) rfl ?_
  refine K_ldc (v := (-1000001)) dX7_count_100 cst_X7_73 ?_
  exact K_ret (rv := some (.int (-1000001))) dX7_count_102 rfl rfl rfl
theorem c_X7_count {G : GE} (hj : dj G) (m0 m1 m2 m3 m4 m5 m6 m7 m8 m9 m10 m11 : Mem) (x1 : Int32) (h7 : m11 0 7 = 1) {r : Int32} (hr : f_X7_count m1 m4 m5 m6 x1 = some r) : Ctr G yX7_count (mi_X7_count 3) [.ref 11000, .int x1] [m0, m1, m2, m3, m4, m5, m6, m7, m8, m9, m10, m11] ((e_X7_count m0 m1 m2 m3 m4 m5 m6 m7 m8 m9 m10 m11) r).1 ((e_X7_count m0 m1 m2 m3 m4 m5 m6 m7 m8 m9 m10 m11) r).2 := Ctr_of hj (by decide) rfl hr rfl (Nat.le_of_ble_eq_true rfl) (k_X7_count m0 m1 m2 m3 m4 m5 m6 m7 m8 m9 m10 m11 x1 h7)
abbrev e_X7_status (m0 m1 m2 m3 m4 m5 m6 m7 m8 m9 m10 m11 : Mem) : Int32 → Option Value × List Mem := fun r => (some (.int r), [m0, m1, m2, m3, m4, m5, m6, m7, m8, m9, m10, m11])
theorem k_X7_status {G : GE} (m0 m1 m2 m3 m4 m5 m6 m7 m8 m9 m10 m11 : Mem)  : K G (mi_X7_status 1) (e_X7_status m0 m1 m2 m3 m4 m5 m6 m7 m8 m9 m10 m11) 0 [(0, .ref 11000)] [] [m0, m1, m2, m3, m4, m5, m6, m7, m8, m9, m10, m11] (f_X7_status m11) := by
  unfold f_X7_status
  refine K_aload_n 0 dX7_status_0 rfl ?_
  refine K_get (v := .int (m11 0 9)) dX7_status_1 fl_X7_65 kl_11000 rfl rfl ?_
  exact K_ret (rv := some (.int (m11 0 9))) dX7_status_4 rfl rfl rfl
theorem c_X7_status {G : GE} (hj : dj G) (m0 m1 m2 m3 m4 m5 m6 m7 m8 m9 m10 m11 : Mem)  {r : Int32} (hr : f_X7_status m11 = some r) : Ctr G yX7_status (mi_X7_status 1) [.ref 11000] [m0, m1, m2, m3, m4, m5, m6, m7, m8, m9, m10, m11] ((e_X7_status m0 m1 m2 m3 m4 m5 m6 m7 m8 m9 m10 m11) r).1 ((e_X7_status m0 m1 m2 m3 m4 m5 m6 m7 m8 m9 m10 m11) r).2 := Ctr_of hj (by decide) rfl hr rfl (Nat.le_of_ble_eq_true rfl) (k_X7_status m0 m1 m2 m3 m4 m5 m6 m7 m8 m9 m10 m11 )
