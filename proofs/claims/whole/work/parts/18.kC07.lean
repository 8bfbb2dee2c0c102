abbrev e_X7_order (m0 m1 m2 m3 m4 m5 m6 m7 m8 m9 m10 m11 : Mem) : (Int32 × Mem) → Option Value × List Mem := fun r => (some (.int r.1), [m0, m1, m2, r.2, m4, m5, m6, m7, m8, m9, m10, m11])
theorem k_X7_order {G : GE} (m0 m1 m2 m3 m4 m5 m6 m7 m8 m9 m10 m11 : Mem) (x1 : Int32) (x2 : Int32) (x3 : Int32) (h7 : m11 0 7 = 1) : K G (mi_X7_order 42) (e_X7_order m0 m1 m2 m3 m4 m5 m6 m7 m8 m9 m10 m11) 0 [(0, .ref 11000), (1, .int x1), (2, .int x2), (3, .int x3)] [] [m0, m1, m2, m3, m4, m5, m6, m7, m8, m9, m10, m11] (f_X7_order m1 m3 x1 x2 x3) := by
  unfold f_X7_order
  refine K_iload_n 1 dX7_order_0 rfl ?_
  refine K_callS (E' := e_X7_isMinute [m0, m1, m2, m3, m4, m5, m6, m7, m8, m9, m10, m11]) (As := [.int x1]) (rest := []) dX7_order_1 ml_X7_181 (mf_X7_isMinute 1) ms_X7_isMinute (fun hj r hr => c_X7_isMinute hj [m0, m1, m2, m3, m4, m5, m6, m7, m8, m9, m10, m11] x1 hr) rfl rfl (Nat.le_of_ble_eq_true rfl) (Nat.le_of_ble_eq_true rfl) (fun r11 => ?_)
  show K G (mi_X7_order 42) (e_X7_order m0 m1 m2 m3 m4 m5 m6 m7 m8 m9 m10 m11) 4 [(0, .ref 11000), (1, .int x1), (2, .int x2), (3, .int x3)] [.int r11] [m0, m1, m2, m3, m4, m5, m6, m7, m8, m9, m10, m11] _
  refine K_if_eq 23 dX7_order_4 rfl (fun _ => ?_) (fun _ => ?_)
  · refine K_ldc (v := (-1000001)) dX7_order_23 cst_X7_73 ?_
    exact K_ret (rv := some (.int (-1000001))) dX7_order_25 rfl rfl rfl
  · refine K_aload_n 0 dX7_order_7 rfl ?_
    refine K_get (v := .ref 1000) dX7_order_8 fl_X7_58 kl_11000 rfl (nd_ref h7) ?_
    refine K_iload_n 2 dX7_order_11 rfl ?_
    refine K_callV (E' := e_X3_hasCar_1 m0 m1 m2 m3 m4 m5 m6 m7 m8 m9 m10 m11) (b := 1000) (As := [.int x2]) (rest := []) dX7_order_12 ml_X7_157 (mf_X3_hasCar 1) mv_X3_hasCar (fun hj r hr => c_X3_hasCar_1 hj m0 m1 m2 m3 m4 m5 m6 m7 m8 m9 m10 m11 x2 hr) (rcv_obj (q := (RX3, TX3, 18)) kl_1000 rfl) rfl rfl (Nat.le_of_ble_eq_true rfl) (Nat.le_of_ble_eq_true rfl) (fun r12 => ?_)
    show K G (mi_X7_order 42) (e_X7_order m0 m1 m2 m3 m4 m5 m6 m7 m8 m9 m10 m11) 15 [(0, .ref 11000), (1, .int x1), (2, .int x2), (3, .int x3)] [.int r12] [m0, m1, m2, m3, m4, m5, m6, m7, m8, m9, m10, m11] _
    refine K_if_eq 23 dX7_order_15 rfl (fun _ => ?_) (fun _ => ?_)
    · refine K_ldc (v := (-1000001)) dX7_order_23 cst_X7_73 ?_
      exact K_ret (rv := some (.int (-1000001))) dX7_order_25 rfl rfl rfl
    · refine K_iload_n 3 dX7_order_18 rfl ?_
      refine K_iconst (v := (-1)) dX7_order_19 (by decide) ?_
      refine K_icmp_ge 26 dX7_order_20 rfl (fun _ => ?_) (fun _ => ?_)
      · refine K_aload_n 0 dX7_order_26 rfl ?_
        refine K_get (v := .ref 1000) dX7_order_27 fl_X7_58 kl_11000 rfl (nd_ref h7) ?_
        refine K_iload_n 1 dX7_order_30 rfl ?_
        refine K_callV (E' := e_X3_carsThatGo_1 m0 m1 m2 m3 m4 m5 m6 m7 m8 m9 m10 m11) (b := 1000) (As := [.int x1]) (rest := []) dX7_order_31 ml_X7_193 (mf_X3_carsThatGo 4) mv_X3_carsThatGo (fun hj r hr => c_X3_carsThatGo_1 hj m0 m1 m2 m3 m4 m5 m6 m7 m8 m9 m10 m11 x1 hr) (rcv_obj (q := (RX3, TX3, 18)) kl_1000 rfl) rfl rfl (Nat.le_of_ble_eq_true rfl) (Nat.le_of_ble_eq_true rfl) (fun r13 => ?_)
        show K G (mi_X7_order 42) (e_X7_order m0 m1 m2 m3 m4 m5 m6 m7 m8 m9 m10 m11) 34 [(0, .ref 11000), (1, .int x1), (2, .int x2), (3, .int x3)] [.int r13] [m0, m1, m2, m3, m4, m5, m6, m7, m8, m9, m10, m11] _
        refine K_istore (lv' := [(4, .int r13), (0, .ref 11000), (1, .int x1), (2, .int x2), (3, .int x3)]) dX7_order_34 (by decide) rfl ?_
        refine K_iload 0 dX7_order_36 rfl ?_
        refine K_iload_n 3 dX7_order_38 rfl ?_
        refine K_callS (E' := e_X7_hasBit [m0, m1, m2, m3, m4, m5, m6, m7, m8, m9, m10, m11]) (As := [.int r13, .int x2]) (rest := []) dX7_order_39 ml_X7_214 (mf_X7_hasBit 1) ms_X7_hasBit (fun hj r hr => c_X7_hasBit hj [m0, m1, m2, m3, m4, m5, m6, m7, m8, m9, m10, m11] r13 x2 hr) rfl rfl (Nat.le_of_ble_eq_true rfl) (Nat.le_of_ble_eq_true rfl) (fun r14 => ?_)
        show K G (mi_X7_order 42) (e_X7_order m0 m1 m2 m3 m4 m5 m6 m7 m8 m9 m10 m11) 42 [(4, .int r13), (0, .ref 11000), (1, .int x1), (2, .int x2), (3, .int x3)] [.int r14] [m0, m1, m2, m3, m4, m5, m6, m7, m8, m9, m10, m11] _
        refine K_if_ne 48 dX7_order_42 rfl (fun _ => ?_) (fun _ => ?_)
        · refine K_aload_n 1 dX7_order_48 rfl ?_
          refine K_get (v := .ref 3000) dX7_order_49 fl_X7_40 kl_11000 rfl rfl ?_
          refine K_aload_n 1 dX7_order_52 rfl ?_
          refine K_get (v := .ref 1000) dX7_order_53 fl_X7_58 kl_11000 rfl (nd_ref h7) ?_
          refine K_iload 0 dX7_order_56 rfl ?_
          refine K_callV (E' := e_X4_plan m0 m1 m2 m3 m4 m5 m6 m7 m8 m9 m10 m11) (b := 3000) (As := [.ref 1000, .int r13]) (rest := []) dX7_order_58 ml_X7_196 (mf_X4_plan 41) mv_X4_plan (fun hj r hr => c_X4_plan hj m0 m1 m2 m3 m4 m5 m6 m7 m8 m9 m10 m11 r13 hr) (rcv_obj (q := (RX4, TX4, 12)) kl_3000 rfl) rfl rfl (Nat.le_of_ble_eq_true rfl) (Nat.le_of_ble_eq_true rfl) (fun r15 => ?_)
          show K G (mi_X7_order 42) (e_X7_order m0 m1 m2 m3 m4 m5 m6 m7 m8 m9 m10 m11) 61 [(4, .int r13), (0, .ref 11000), (1, .int x1), (2, .int x2), (3, .int x3)] [] [m0, m1, m2, r15, m4, m5, m6, m7, m8, m9, m10, m11] _
          refine K_aload_n 1 dX7_order_61 rfl ?_
          refine K_get (v := .ref 3000) dX7_order_62 fl_X7_40 kl_11000 rfl rfl ?_
          refine K_iload_n 3 dX7_order_65 rfl ?_
          refine K_callV (E' := e_X4_ridersOf m0 m1 m2 r15 m4 m5 m6 m7 m8 m9 m10 m11) (b := 3000) (As := [.int x2]) (rest := []) dX7_order_66 ml_X7_211 (mf_X4_ridersOf 1) mv_X4_ridersOf (fun hj r hr => c_X4_ridersOf hj m0 m1 m2 r15 m4 m5 m6 m7 m8 m9 m10 m11 x2 hr) (rcv_obj (q := (RX4, TX4, 12)) kl_3000 rfl) rfl rfl (Nat.le_of_ble_eq_true rfl) (Nat.le_of_ble_eq_true rfl) (fun r16 => ?_)
          show K G (mi_X7_order 42) (e_X7_order m0 m1 m2 m3 m4 m5 m6 m7 m8 m9 m10 m11) 69 [(4, .int r13), (0, .ref 11000), (1, .int x1), (2, .int x2), (3, .int x3)] [.int r16] [m0, m1, m2, r15, m4, m5, m6, m7, m8, m9, m10, m11] _
          refine K_istore (lv' := [(5, .int r16), (4, .int r13), (0, .ref 11000), (1, .int x1), (2, .int x2), (3, .int x3)]) dX7_order_69 (by decide) rfl ?_
          refine K_iload_n 5 dX7_order_71 rfl ?_
          refine K_iconst (v := (-1)) dX7_order_72 (by decide) ?_
          refine K_icmp_ne 93 dX7_order_73 rfl (fun _ => ?_) (fun _ => ?_)
          · refine K_aload_n 2 dX7_order_93 rfl ?_
            refine K_get (v := .ref 3000) dX7_order_94 fl_X7_40 kl_11000 rfl rfl ?_
            refine K_aload_n 2 dX7_order_97 rfl ?_
            refine K_get (v := .ref 1000) dX7_order_98 fl_X7_58 kl_11000 rfl (nd_ref h7) ?_
            refine K_iload_n 4 dX7_order_101 rfl ?_
            refine K_iload 0 dX7_order_102 rfl ?_
            refine K_iload_n 5 dX7_order_104 rfl ?_
            refine K_callV (E' := e_X4_setDownAs m0 m1 m2 r15 m4 m5 m6 m7 m8 m9 m10 m11) (b := 3000) (As := [.ref 1000, .int x2, .int r16, .int x3]) (rest := []) dX7_order_105 ml_X7_221 (mf_X4_setDownAs 21) mv_X4_setDownAs (fun hj r hr => c_X4_setDownAs hj m0 m1 m2 r15 m4 m5 m6 m7 m8 m9 m10 m11 x2 r16 x3 hr) (rcv_obj (q := (RX4, TX4, 12)) kl_3000 rfl) rfl rfl (Nat.le_of_ble_eq_true rfl) (Nat.le_of_ble_eq_true rfl) (fun r17 => ?_)
            show K G (mi_X7_order 42) (e_X7_order m0 m1 m2 m3 m4 m5 m6 m7 m8 m9 m10 m11) 108 [(5, .int r16), (4, .int r13), (0, .ref 11000), (1, .int x1), (2, .int x2), (3, .int x3)] [.int r17.1] [m0, m1, m2, r17.2, m4, m5, m6, m7, m8, m9, m10, m11] _
            exact K_ret (rv := some (.int r17.1)) dX7_order_108 rfl rfl rfl
          · refine K_aload_n 2 dX7_order_76 rfl ?_
            refine K_get (v := .ref 3000) dX7_order_77 fl_X7_40 kl_11000 rfl rfl ?_
            refine K_aload_n 2 dX7_order_80 rfl ?_
            refine K_get (v := .ref 1000) dX7_order_81 fl_X7_58 kl_11000 rfl (nd_ref h7) ?_
            refine K_iload_n 4 dX7_order_84 rfl ?_
            refine K_iload 0 dX7_order_85 rfl ?_
            refine K_callV (E' := e_X4_minutesOf m0 m1 m2 r15 m4 m5 m6 m7 m8 m9 m10 m11) (b := 3000) (As := [.ref 1000, .int x2, .int r16]) (rest := []) dX7_order_87 ml_X7_217 (mf_X4_minutesOf 21) mv_X4_minutesOf (fun hj r hr => c_X4_minutesOf hj m0 m1 m2 r15 m4 m5 m6 m7 m8 m9 m10 m11 x2 r16 hr) (rcv_obj (q := (RX4, TX4, 12)) kl_3000 rfl) rfl rfl (Nat.le_of_ble_eq_true rfl) (Nat.le_of_ble_eq_true rfl) (fun r18 => ?_)
            show K G (mi_X7_order 42) (e_X7_order m0 m1 m2 m3 m4 m5 m6 m7 m8 m9 m10 m11) 90 [(5, .int r16), (4, .int r13), (0, .ref 11000), (1, .int x1), (2, .int x2), (3, .int x3)] [.int r18.1] [m0, m1, m2, r18.2, m4, m5, m6, m7, m8, m9, m10, m11] _
            refine K_goto 108 dX7_order_90 rfl ?_
            exact K_ret (rv := some (.int r18.1)) dX7_order_108 rfl rfl rfl
        · refine K_ldc (v := (-1000000)) dX7_order_45 cst_X7_180 ?_
          exact K_ret (rv := some (.int (-1000000))) dX7_order_47 rfl rfl rfl
      · refine K_ldc (v := (-1000001)) dX7_order_23 cst_X7_73 ?_
        exact K_ret (rv := some (.int (-1000001))) dX7_order_25 rfl rfl rfl
theorem c_X7_order {G : GE} (hj : dj G) (m0 m1 m2 m3 m4 m5 m6 m7 m8 m9 m10 m11 : Mem) (x1 : Int32) (x2 : Int32) (x3 : Int32) (h7 : m11 0 7 = 1) {r : Int32 × Mem} (hr : f_X7_order m1 m3 x1 x2 x3 = some r) : Ctr G yX7_order (mi_X7_order 42) [.ref 11000, .int x1, .int x2, .int x3] [m0, m1, m2, m3, m4, m5, m6, m7, m8, m9, m10, m11] ((e_X7_order m0 m1 m2 m3 m4 m5 m6 m7 m8 m9 m10 m11) r).1 ((e_X7_order m0 m1 m2 m3 m4 m5 m6 m7 m8 m9 m10 m11) r).2 := Ctr_of hj (by decide) rfl hr rfl (Nat.le_of_ble_eq_true rfl) (k_X7_order m0 m1 m2 m3 m4 m5 m6 m7 m8 m9 m10 m11 x1 x2 x3 h7)
abbrev e_X7_detour (m0 m1 m2 m3 m4 m5 m6 m7 m8 m9 m10 m11 : Mem) : (Int32 × Mem) → Option Value × List Mem := fun r => (some (.int r.1), [m0, m1, m2, r.2, m4, m5, m6, m7, m8, m9, m10, m11])
theorem k_X7_detour_L42 {G : GE} (m0 m1 m2 m3 m4 m5 m6 m7 m8 m9 m10 m11 : Mem) (x2 : Int32) (k : Int32 → Mem → Option (Int32 × Mem)) (h7 : m11 0 7 = 1) (hk : ∀ (u15 : Int32) (w16 : Mem), K G (mi_X7_detour 42) (e_X7_detour m0 m1 m2 m3 m4 m5 m6 m7 m8 m9 m10 m11) 118 [(0, .ref 11000), (2, .int x2), (3, .int u15)] [] [m0, m1, m2, w16, m4, m5, m6, m7, m8, m9, m10, m11] (k u15 w16)) : ∀ (t : Nat) (u15 : Int32) (w16 : Mem), K G (mi_X7_detour 42) (e_X7_detour m0 m1 m2 m3 m4 m5 m6 m7 m8 m9 m10 m11) 42 [(0, .ref 11000), (2, .int x2), (3, .int u15)] [] [m0, m1, m2, w16, m4, m5, m6, m7, m8, m9, m10, m11] (f_X7_detour_L42 k x2 m1 t u15 w16) := by
  intro t
  induction t with
  | zero => intro u15 w16; exact K_none
  | succ t ih =>
    intro u15 w16
    rw [f_X7_detour_L42]
    refine K_iload_n 2 dX7_detour_42 rfl ?_
    refine K_aload_n 0 dX7_detour_43 rfl ?_
    refine K_get (v := .ref 1000) dX7_detour_44 fl_X7_58 kl_11000 rfl (nd_ref h7) ?_
    refine K_get (v := .int (m1 0 7)) dX7_detour_47 fl_X7_225 kl_1000 rfl rfl ?_
    refine K_icmp_ge 118 dX7_detour_50 rfl (fun _ => ?_) (fun _ => ?_)
    · refine K_loc [0, 1, 2] (lv' := [(0, .ref 11000), (2, .int x2), (3, .int u15)]) rfl ?_
      exact hk u15 w16
    · refine K_aload_n 0 dX7_detour_53 rfl ?_
      refine K_get (v := .ref 3000) dX7_detour_54 fl_X7_40 kl_11000 rfl rfl ?_
      refine K_iload_n 2 dX7_detour_57 rfl ?_
      refine K_callV (E' := e_X4_ridersOf m0 m1 m2 w16 m4 m5 m6 m7 m8 m9 m10 m11) (b := 3000) (As := [.int u15]) (rest := []) dX7_detour_58 ml_X7_211 (mf_X4_ridersOf 1) mv_X4_ridersOf (fun hj r hr => c_X4_ridersOf hj m0 m1 m2 w16 m4 m5 m6 m7 m8 m9 m10 m11 u15 hr) (rcv_obj (q := (RX4, TX4, 12)) kl_3000 rfl) rfl rfl (Nat.le_of_ble_eq_true rfl) (Nat.le_of_ble_eq_true rfl) (fun r17 => ?_)
      show K G (mi_X7_detour 42) (e_X7_detour m0 m1 m2 m3 m4 m5 m6 m7 m8 m9 m10 m11) 61 [(0, .ref 11000), (2, .int x2), (3, .int u15)] [.int r17] [m0, m1, m2, w16, m4, m5, m6, m7, m8, m9, m10, m11] _
      refine K_istore (lv' := [(4, .int r17), (0, .ref 11000), (2, .int x2), (3, .int u15)]) dX7_detour_61 (by decide) rfl ?_
      refine K_iload 0 dX7_detour_63 rfl ?_
      refine K_iload_n 2 dX7_detour_65 rfl ?_
      refine K_callS (E' := e_X7_hasBit [m0, m1, m2, w16, m4, m5, m6, m7, m8, m9, m10, m11]) (As := [.int r17, .int x2]) (rest := []) dX7_detour_66 ml_X7_214 (mf_X7_hasBit 1) ms_X7_hasBit (fun hj r hr => c_X7_hasBit hj [m0, m1, m2, w16, m4, m5, m6, m7, m8, m9, m10, m11] r17 x2 hr) rfl rfl (Nat.le_of_ble_eq_true rfl) (Nat.le_of_ble_eq_true rfl) (fun r18 => ?_)
      show K G (mi_X7_detour 42) (e_X7_detour m0 m1 m2 m3 m4 m5 m6 m7 m8 m9 m10 m11) 69 [(4, .int r17), (0, .ref 11000), (2, .int x2), (3, .int u15)] [.int r18] [m0, m1, m2, w16, m4, m5, m6, m7, m8, m9, m10, m11] _
      refine K_if_eq 112 dX7_detour_69 rfl (fun _ => ?_) (fun _ => ?_)
      · refine K_iinc 3 (w := u15 + 1) (lv' := [(3, .int (u15 + 1)), (4, .int r17), (0, .ref 11000), (2, .int x2)]) dX7_detour_112 rfl rfl (by decide) rfl ?_
        refine K_goto 42 dX7_detour_115 rfl ?_
        refine K_loc [2, 3, 0] (lv' := [(0, .ref 11000), (2, .int x2), (3, .int (u15 + 1))]) rfl ?_
        exact ih (u15 + 1) w16
      · refine K_iload 0 dX7_detour_72 rfl ?_
        refine K_iconst (v := 1) dX7_detour_74 (by decide) ?_
        refine K_iload_n 2 dX7_detour_75 rfl ?_
        refine K_ishl dX7_detour_76 ?_
        refine K_iconst (v := (-1)) dX7_detour_77 (by decide) ?_
        refine K_ixor dX7_detour_78 ?_
        refine K_iand dX7_detour_79 ?_
        refine K_nmi (fun x19 => ?_)
        refine K_istore (lv' := [(5, .int x19), (4, .int r17), (0, .ref 11000), (2, .int x2), (3, .int u15)]) dX7_detour_80 (by decide) rfl ?_
        refine K_aload_n 2 dX7_detour_82 rfl ?_
        refine K_get (v := .ref 3000) dX7_detour_83 fl_X7_40 kl_11000 rfl rfl ?_
        refine K_aload_n 2 dX7_detour_86 rfl ?_
        refine K_get (v := .ref 1000) dX7_detour_87 fl_X7_58 kl_11000 rfl (nd_ref h7) ?_
        refine K_iload_n 4 dX7_detour_90 rfl ?_
        refine K_iload 1 dX7_detour_91 rfl ?_
        refine K_callV (E' := e_X4_minutesOf m0 m1 m2 w16 m4 m5 m6 m7 m8 m9 m10 m11) (b := 3000) (As := [.ref 1000, .int u15, .int r17]) (rest := []) dX7_detour_93 ml_X7_217 (mf_X4_minutesOf 21) mv_X4_minutesOf (fun hj r hr => c_X4_minutesOf hj m0 m1 m2 w16 m4 m5 m6 m7 m8 m9 m10 m11 u15 r17 hr) (rcv_obj (q := (RX4, TX4, 12)) kl_3000 rfl) rfl rfl (Nat.le_of_ble_eq_true rfl) (Nat.le_of_ble_eq_true rfl) (fun r20 => ?_)
        show K G (mi_X7_detour 42) (e_X7_detour m0 m1 m2 m3 m4 m5 m6 m7 m8 m9 m10 m11) 96 [(5, .int x19), (4, .int r17), (0, .ref 11000), (2, .int x2), (3, .int u15)] [.int r20.1] [m0, m1, m2, r20.2, m4, m5, m6, m7, m8, m9, m10, m11] _
        refine K_aload_n 2 dX7_detour_96 rfl ?_
        refine K_get (v := .ref 3000) dX7_detour_97 fl_X7_40 kl_11000 rfl rfl ?_
        refine K_aload_n 2 dX7_detour_100 rfl ?_
        refine K_get (v := .ref 1000) dX7_detour_101 fl_X7_58 kl_11000 rfl (nd_ref h7) ?_
        refine K_iload_n 4 dX7_detour_104 rfl ?_
        refine K_iload 0 dX7_detour_105 rfl ?_
        refine K_callV (E' := e_X4_minutesOf m0 m1 m2 r20.2 m4 m5 m6 m7 m8 m9 m10 m11) (b := 3000) (As := [.ref 1000, .int u15, .int x19]) (rest := [.int r20.1]) dX7_detour_107 ml_X7_217 (mf_X4_minutesOf 21) mv_X4_minutesOf (fun hj r hr => c_X4_minutesOf hj m0 m1 m2 r20.2 m4 m5 m6 m7 m8 m9 m10 m11 u15 x19 hr) (rcv_obj (q := (RX4, TX4, 12)) kl_3000 rfl) rfl rfl (Nat.le_of_ble_eq_true rfl) (Nat.le_of_ble_eq_true rfl) (fun r21 => ?_)
        show K G (mi_X7_detour 42) (e_X7_detour m0 m1 m2 m3 m4 m5 m6 m7 m8 m9 m10 m11) 110 [(5, .int x19), (4, .int r17), (0, .ref 11000), (2, .int x2), (3, .int u15)] [.int r21.1, .int r20.1] [m0, m1, m2, r21.2, m4, m5, m6, m7, m8, m9, m10, m11] _
        refine K_isub dX7_detour_110 ?_
        exact K_ret (rv := some (.int (r20.1 - r21.1))) dX7_detour_111 rfl rfl rfl
theorem k_X7_detour {G : GE} (m0 m1 m2 m3 m4 m5 m6 m7 m8 m9 m10 m11 : Mem) (x1 : Int32) (x2 : Int32) (h7 : m11 0 7 = 1) : K G (mi_X7_detour 42) (e_X7_detour m0 m1 m2 m3 m4 m5 m6 m7 m8 m9 m10 m11) 0 [(0, .ref 11000), (1, .int x1), (2, .int x2)] [] [m0, m1, m2, m3, m4, m5, m6, m7, m8, m9, m10, m11] (f_X7_detour m1 m3 x1 x2) := by
  unfold f_X7_detour
  refine K_iload_n 1 dX7_detour_0 rfl ?_
  refine K_callS (E' := e_X7_isMinute [m0, m1, m2, m3, m4, m5, m6, m7, m8, m9, m10, m11]) (As := [.int x1]) (rest := []) dX7_detour_1 ml_X7_181 (mf_X7_isMinute 1) ms_X7_isMinute (fun hj r hr => c_X7_isMinute hj [m0, m1, m2, m3, m4, m5, m6, m7, m8, m9, m10, m11] x1 hr) rfl rfl (Nat.le_of_ble_eq_true rfl) (Nat.le_of_ble_eq_true rfl) (fun r11 => ?_)
  show K G (mi_X7_detour 42) (e_X7_detour m0 m1 m2 m3 m4 m5 m6 m7 m8 m9 m10 m11) 4 [(0, .ref 11000), (1, .int x1), (2, .int x2)] [.int r11] [m0, m1, m2, m3, m4, m5, m6, m7, m8, m9, m10, m11] _
  refine K_if_eq 18 dX7_detour_4 rfl (fun _ => ?_) (fun _ => ?_)
  · refine K_ldc (v := (-1000001)) dX7_detour_18 cst_X7_73 ?_
    exact K_ret (rv := some (.int (-1000001))) dX7_detour_20 rfl rfl rfl
  · refine K_aload_n 0 dX7_detour_7 rfl ?_
    refine K_get (v := .ref 1000) dX7_detour_8 fl_X7_58 kl_11000 rfl (nd_ref h7) ?_
    refine K_iload_n 2 dX7_detour_11 rfl ?_
    refine K_callV (E' := e_X3_hasPerson_1 m0 m1 m2 m3 m4 m5 m6 m7 m8 m9 m10 m11) (b := 1000) (As := [.int x2]) (rest := []) dX7_detour_12 ml_X7_128 (mf_X3_hasPerson 1) mv_X3_hasPerson (fun hj r hr => c_X3_hasPerson_1 hj m0 m1 m2 m3 m4 m5 m6 m7 m8 m9 m10 m11 x2 hr) (rcv_obj (q := (RX3, TX3, 18)) kl_1000 rfl) rfl rfl (Nat.le_of_ble_eq_true rfl) (Nat.le_of_ble_eq_true rfl) (fun r12 => ?_)
    show K G (mi_X7_detour 42) (e_X7_detour m0 m1 m2 m3 m4 m5 m6 m7 m8 m9 m10 m11) 15 [(0, .ref 11000), (1, .int x1), (2, .int x2)] [.int r12] [m0, m1, m2, m3, m4, m5, m6, m7, m8, m9, m10, m11] _
    refine K_if_ne 21 dX7_detour_15 rfl (fun _ => ?_) (fun _ => ?_)
    · refine K_aload_n 0 dX7_detour_21 rfl ?_
      refine K_get (v := .ref 3000) dX7_detour_22 fl_X7_40 kl_11000 rfl rfl ?_
      refine K_aload_n 0 dX7_detour_25 rfl ?_
      refine K_get (v := .ref 1000) dX7_detour_26 fl_X7_58 kl_11000 rfl (nd_ref h7) ?_
      refine K_aload_n 0 dX7_detour_29 rfl ?_
      refine K_get (v := .ref 1000) dX7_detour_30 fl_X7_58 kl_11000 rfl (nd_ref h7) ?_
      refine K_iload_n 1 dX7_detour_33 rfl ?_
      refine K_callV (E' := e_X3_carsThatGo_1 m0 m1 m2 m3 m4 m5 m6 m7 m8 m9 m10 m11) (b := 1000) (As := [.int x1]) (rest := [.ref 1000, .ref 3000]) dX7_detour_34 ml_X7_193 (mf_X3_carsThatGo 4) mv_X3_carsThatGo (fun hj r hr => c_X3_carsThatGo_1 hj m0 m1 m2 m3 m4 m5 m6 m7 m8 m9 m10 m11 x1 hr) (rcv_obj (q := (RX3, TX3, 18)) kl_1000 rfl) rfl rfl (Nat.le_of_ble_eq_true rfl) (Nat.le_of_ble_eq_true rfl) (fun r13 => ?_)
      show K G (mi_X7_detour 42) (e_X7_detour m0 m1 m2 m3 m4 m5 m6 m7 m8 m9 m10 m11) 37 [(0, .ref 11000), (1, .int x1), (2, .int x2)] [.int r13, .ref 1000, .ref 3000] [m0, m1, m2, m3, m4, m5, m6, m7, m8, m9, m10, m11] _
      refine K_callV (E' := e_X4_plan m0 m1 m2 m3 m4 m5 m6 m7 m8 m9 m10 m11) (b := 3000) (As := [.ref 1000, .int r13]) (rest := []) dX7_detour_37 ml_X7_196 (mf_X4_plan 41) mv_X4_plan (fun hj r hr => c_X4_plan hj m0 m1 m2 m3 m4 m5 m6 m7 m8 m9 m10 m11 r13 hr) (rcv_obj (q := (RX4, TX4, 12)) kl_3000 rfl) rfl rfl (Nat.le_of_ble_eq_true rfl) (Nat.le_of_ble_eq_true rfl) (fun r14 => ?_)
      show K G (mi_X7_detour 42) (e_X7_detour m0 m1 m2 m3 m4 m5 m6 m7 m8 m9 m10 m11) 40 [(0, .ref 11000), (1, .int x1), (2, .int x2)] [] [m0, m1, m2, r14, m4, m5, m6, m7, m8, m9, m10, m11] _
      refine K_iconst (v := 0) dX7_detour_40 (by decide) ?_
      refine K_istore_n (lv' := [(3, .int 0), (0, .ref 11000), (1, .int x1), (2, .int x2)]) dX7_detour_41 (by decide) rfl ?_
      refine K_loc [1, 3, 0] (lv' := [(0, .ref 11000), (2, .int x2), (3, .int 0)]) rfl ?_
      refine k_X7_detour_L42  m0 m1 m2 m3 m4 m5 m6 m7 m8 m9 m10 m11 x2 _ h7 (fun u22 w23 => ?_) 100000 0 r14
      refine K_ldc (v := (-1000000)) dX7_detour_118 cst_X7_180 ?_
      exact K_ret (rv := some (.int (-1000000))) dX7_detour_120 rfl rfl rfl
    · refine K_ldc (v := (-1000001)) dX7_detour_18 cst_X7_73 ?_
      exact K_ret (rv := some (.int (-1000001))) dX7_detour_20 rfl rfl rfl
theorem c_X7_detour {G : GE} (hj : dj G) (m0 m1 m2 m3 m4 m5 m6 m7 m8 m9 m10 m11 : Mem) (x1 : Int32) (x2 : Int32) (h7 : m11 0 7 = 1) {r : Int32 × Mem} (hr : f_X7_detour m1 m3 x1 x2 = some r) : Ctr G yX7_detour (mi_X7_detour 42) [.ref 11000, .int x1, .int x2] [m0, m1, m2, m3, m4, m5, m6, m7, m8, m9, m10, m11] ((e_X7_detour m0 m1 m2 m3 m4 m5 m6 m7 m8 m9 m10 m11) r).1 ((e_X7_detour m0 m1 m2 m3 m4 m5 m6 m7 m8 m9 m10 m11) r).2 := Ctr_of hj (by decide) rfl hr rfl (Nat.le_of_ble_eq_true rfl) (k_X7_detour m0 m1 m2 m3 m4 m5 m6 m7 m8 m9 m10 m11 x1 x2 h7)
abbrev e_X3_peopleWhoDriveOnSunday_1 (m0 m1 m2 m3 m4 m5 m6 m7 m8 m9 m10 m11 : Mem) : Int32 → Option Value × List Mem := fun r => (some (.int r), [m0, m1, m2, m3, m4, m5, m6, m7, m8, m9, m10, m11])
theorem k_X3_peopleWhoDriveOnSunday_1_L4 {G : GE} (m0 m1 m2 m3 m4 m5 m6 m7 m8 m9 m10 m11 : Mem) (k : Int32 → Int32 → Option (Int32)) (hk : ∀ (u11 : Int32) (u12 : Int32), K G (mi_X3_peopleWhoDriveOnSunday 2) (e_X3_peopleWhoDriveOnSunday_1 m0 m1 m2 m3 m4 m5 m6 m7 m8 m9 m10 m11) 34 [(0, .ref 1000), (1, .int u11), (2, .int u12)] [] [m0, m1, m2, m3, m4, m5, m6, m7, m8, m9, m10, m11] (k u11 u12)) : ∀ (t : Nat) (u11 : Int32) (u12 : Int32), K G (mi_X3_peopleWhoDriveOnSunday 2) (e_X3_peopleWhoDriveOnSunday_1 m0 m1 m2 m3 m4 m5 m6 m7 m8 m9 m10 m11) 4 [(0, .ref 1000), (1, .int u11), (2, .int u12)] [] [m0, m1, m2, m3, m4, m5, m6, m7, m8, m9, m10, m11] (f_X3_peopleWhoDriveOnSunday_L4 k m1 t u11 u12) := by
  intro t
  induction t with
  | zero => intro u11 u12; exact K_none
  | succ t ih =>
    intro u11 u12
    rw [f_X3_peopleWhoDriveOnSunday_L4]
    refine K_iload_n 2 dX3_peopleWhoDriveOnSunday_4 rfl ?_
    refine K_aload_n 0 dX3_peopleWhoDriveOnSunday_5 rfl ?_
    refine K_get (v := .int (m1 0 6)) dX3_peopleWhoDriveOnSunday_6 fl_X3_50 kl_1000 rfl rfl ?_
    refine K_icmp_ge 34 dX3_peopleWhoDriveOnSunday_9 rfl (fun _ => ?_) (fun _ => ?_)
    · refine K_loc [0, 1, 2] (lv' := [(0, .ref 1000), (1, .int u11), (2, .int u12)]) rfl ?_
      exact hk u11 u12
    · refine K_aload_n 0 dX3_peopleWhoDriveOnSunday_12 rfl ?_
      refine K_get (v := .ref 1012) dX3_peopleWhoDriveOnSunday_13 fl_X3_19 kl_1000 rfl rfl ?_
      refine K_iload_n 2 dX3_peopleWhoDriveOnSunday_16 rfl ?_
      refine K_iald (f := m1 12) dX3_peopleWhoDriveOnSunday_17 kl_1012 rfl ?_
      refine K_iconst (v := 5) dX3_peopleWhoDriveOnSunday_18 (by decide) ?_
      refine K_callS (E' := e_X7_isOfKind [m0, m1, m2, m3, m4, m5, m6, m7, m8, m9, m10, m11]) (As := [.int (m1 12 u12.toNatClampNeg), .int 5]) (rest := []) dX3_peopleWhoDriveOnSunday_19 ml_X3_90 (mf_X7_isOfKind 1) ms_X7_isOfKind (fun hj r hr => c_X7_isOfKind hj [m0, m1, m2, m3, m4, m5, m6, m7, m8, m9, m10, m11] (m1 12 u12.toNatClampNeg) (5 : Int32) hr) rfl rfl (Nat.le_of_ble_eq_true rfl) (Nat.le_of_ble_eq_true rfl) (fun r13 => ?_)
      show K G (mi_X3_peopleWhoDriveOnSunday 2) (e_X3_peopleWhoDriveOnSunday_1 m0 m1 m2 m3 m4 m5 m6 m7 m8 m9 m10 m11) 22 [(0, .ref 1000), (1, .int u11), (2, .int u12)] [.int r13] [m0, m1, m2, m3, m4, m5, m6, m7, m8, m9, m10, m11] _
      refine K_if_ne 28 dX3_peopleWhoDriveOnSunday_22 rfl (fun _ => ?_) (fun _ => ?_)
      · refine K_iinc 2 (w := u12 + 1) (lv' := [(2, .int (u12 + 1)), (0, .ref 1000), (1, .int u11)]) dX3_peopleWhoDriveOnSunday_28 rfl rfl (by decide) rfl ?_
        refine K_goto 4 dX3_peopleWhoDriveOnSunday_31 rfl ?_
        refine K_loc [1, 2, 0] (lv' := [(0, .ref 1000), (1, .int u11), (2, .int (u12 + 1))]) rfl ?_
        exact ih u11 (u12 + 1)
      · refine K_iinc 1 (w := u11 + 1) (lv' := [(1, .int (u11 + 1)), (0, .ref 1000), (2, .int u12)]) dX3_peopleWhoDriveOnSunday_25 rfl rfl (by decide) rfl ?_
        refine K_iinc 2 (w := u12 + 1) (lv' := [(2, .int (u12 + 1)), (1, .int (u11 + 1)), (0, .ref 1000)]) dX3_peopleWhoDriveOnSunday_28 rfl rfl (by decide) rfl ?_
        refine K_goto 4 dX3_peopleWhoDriveOnSunday_31 rfl ?_
        refine K_loc [2, 1, 0] (lv' := [(0, .ref 1000), (1, .int (u11 + 1)), (2, .int (u12 + 1))]) rfl ?_
        exact ih (u11 + 1) (u12 + 1)
theorem k_X3_peopleWhoDriveOnSunday_1 {G : GE} (m0 m1 m2 m3 m4 m5 m6 m7 m8 m9 m10 m11 : Mem)  : K G (mi_X3_peopleWhoDriveOnSunday 2) (e_X3_peopleWhoDriveOnSunday_1 m0 m1 m2 m3 m4 m5 m6 m7 m8 m9 m10 m11) 0 [(0, .ref 1000)] [] [m0, m1, m2, m3, m4, m5, m6, m7, m8, m9, m10, m11] (f_X3_peopleWhoDriveOnSunday m1) := by
  unfold f_X3_peopleWhoDriveOnSunday
  refine K_iconst (v := 0) dX3_peopleWhoDriveOnSunday_0 (by decide) ?_
  refine K_istore_n (lv' := [(1, .int 0), (0, .ref 1000)]) dX3_peopleWhoDriveOnSunday_1 (by decide) rfl ?_
  refine K_iconst (v := 0) dX3_peopleWhoDriveOnSunday_2 (by decide) ?_
  refine K_istore_n (lv' := [(2, .int 0), (1, .int 0), (0, .ref 1000)]) dX3_peopleWhoDriveOnSunday_3 (by decide) rfl ?_
  refine K_loc [2, 1, 0] (lv' := [(0, .ref 1000), (1, .int 0), (2, .int 0)]) rfl ?_
  refine k_X3_peopleWhoDriveOnSunday_1_L4  m0 m1 m2 m3 m4 m5 m6 m7 m8 m9 m10 m11  _ (fun u14 u15 => ?_) 100000 0 0
  refine K_iload_n 1 dX3_peopleWhoDriveOnSunday_34 rfl ?_
  exact K_ret (rv := some (.int u14)) dX3_peopleWhoDriveOnSunday_35 rfl rfl rfl
theorem c_X3_peopleWhoDriveOnSunday_1 {G : GE} (hj : dj G) (m0 m1 m2 m3 m4 m5 m6 m7 m8 m9 m10 m11 : Mem)  {r : Int32} (hr : f_X3_peopleWhoDriveOnSunday m1 = some r) : Ctr G yX3_peopleWhoDriveOnSunday (mi_X3_peopleWhoDriveOnSunday 2) [.ref 1000] [m0, m1, m2, m3, m4, m5, m6, m7, m8, m9, m10, m11] ((e_X3_peopleWhoDriveOnSunday_1 m0 m1 m2 m3 m4 m5 m6 m7 m8 m9 m10 m11) r).1 ((e_X3_peopleWhoDriveOnSunday_1 m0 m1 m2 m3 m4 m5 m6 m7 m8 m9 m10 m11) r).2 := Ctr_of hj (by decide) rfl hr rfl (Nat.le_of_ble_eq_true rfl) (k_X3_peopleWhoDriveOnSunday_1 m0 m1 m2 m3 m4 m5 m6 m7 m8 m9 m10 m11 )
abbrev e_X3_tripsFor_1 (m0 m1 m2 m3 m4 m5 m6 m7 m8 m9 m10 m11 : Mem) : Int32 → Option Value × List Mem := fun r => (some (.int r), [m0, m1, m2, m3, m4, m5, m6, m7, m8, m9, m10, m11])
theorem k_X3_tripsFor_1_L21 {G : GE} (m0 m1 m2 m3 m4 m5 m6 m7 m8 m9 m10 m11 : Mem) (x1 : Int32) (x11 : Int32) (k : Int32 → Int32 → Option (Int32)) (hk : ∀ (u12 : Int32) (u13 : Int32), K G (mi_X3_tripsFor 3) (e_X3_tripsFor_1 m0 m1 m2 m3 m4 m5 m6 m7 m8 m9 m10 m11) 57 [(0, .ref 1000), (1, .int x1), (2, .int x11), (3, .int u12), (4, .int u13)] [] [m0, m1, m2, m3, m4, m5, m6, m7, m8, m9, m10, m11] (k u12 u13)) : ∀ (t : Nat) (u12 : Int32) (u13 : Int32), K G (mi_X3_tripsFor 3) (e_X3_tripsFor_1 m0 m1 m2 m3 m4 m5 m6 m7 m8 m9 m10 m11) 21 [(0, .ref 1000), (1, .int x1), (2, .int x11), (3, .int u12), (4, .int u13)] [] [m0, m1, m2, m3, m4, m5, m6, m7, m8, m9, m10, m11] (f_X3_tripsFor_L21 k x1 m1 t u12 u13) := by
  intro t
  induction t with
  | zero => intro u12 u13; exact K_none
  | succ t ih =>
    intro u12 u13
    rw [f_X3_tripsFor_L21]
    refine K_iload 4 dX3_tripsFor_21 rfl ?_
    refine K_aload_n 0 dX3_tripsFor_23 rfl ?_
    refine K_get (v := .int (m1 0 7)) dX3_tripsFor_24 fl_X3_53 kl_1000 rfl rfl ?_
    refine K_icmp_ge 57 dX3_tripsFor_27 rfl (fun _ => ?_) (fun _ => ?_)
    · refine K_loc [0, 1, 2, 3, 4] (lv' := [(0, .ref 1000), (1, .int x1), (2, .int x11), (3, .int u12), (4, .int u13)]) rfl ?_
      exact hk u12 u13
    · refine K_iload_n 1 dX3_tripsFor_30 rfl ?_
      refine K_iload 4 dX3_tripsFor_31 rfl ?_
      refine K_callS (E' := e_X7_hasBit [m0, m1, m2, m3, m4, m5, m6, m7, m8, m9, m10, m11]) (As := [.int x1, .int u13]) (rest := []) dX3_tripsFor_33 ml_X3_98 (mf_X7_hasBit 1) ms_X7_hasBit (fun hj r hr => c_X7_hasBit hj [m0, m1, m2, m3, m4, m5, m6, m7, m8, m9, m10, m11] x1 u13 hr) rfl rfl (Nat.le_of_ble_eq_true rfl) (Nat.le_of_ble_eq_true rfl) (fun r14 => ?_)
      show K G (mi_X3_tripsFor 3) (e_X3_tripsFor_1 m0 m1 m2 m3 m4 m5 m6 m7 m8 m9 m10 m11) 36 [(0, .ref 1000), (1, .int x1), (2, .int x11), (3, .int u12), (4, .int u13)] [.int r14] [m0, m1, m2, m3, m4, m5, m6, m7, m8, m9, m10, m11] _
      refine K_if_eq 51 dX3_tripsFor_36 rfl (fun _ => ?_) (fun _ => ?_)
      · refine K_iinc 4 (w := u13 + 1) (lv' := [(4, .int (u13 + 1)), (0, .ref 1000), (1, .int x1), (2, .int x11), (3, .int u12)]) dX3_tripsFor_51 rfl rfl (by decide) rfl ?_
        refine K_goto 21 dX3_tripsFor_54 rfl ?_
        refine K_loc [1, 2, 3, 4, 0] (lv' := [(0, .ref 1000), (1, .int x1), (2, .int x11), (3, .int u12), (4, .int (u13 + 1))]) rfl ?_
        exact ih u12 (u13 + 1)
      · refine K_iload_n 3 dX3_tripsFor_39 rfl ?_
        refine K_aload_n 0 dX3_tripsFor_40 rfl ?_
        refine K_get (v := .ref 1017) dX3_tripsFor_41 fl_X3_34 kl_1000 rfl rfl ?_
        refine K_iload 4 dX3_tripsFor_44 rfl ?_
        refine K_iald (f := m1 17) dX3_tripsFor_46 kl_1017 rfl ?_
        refine K_max dX3_tripsFor_47 mlk_X3_95 mth_max.1 mth_max.2.1 mth_max.2.2 (Nat.le_of_ble_eq_true rfl) (Nat.le_of_ble_eq_true rfl) ?_
        refine K_nmi (fun x15 => ?_)
        refine K_istore_n (lv' := [(3, .int x15), (0, .ref 1000), (1, .int x1), (2, .int x11), (4, .int u13)]) dX3_tripsFor_50 (by decide) rfl ?_
        refine K_iinc 4 (w := u13 + 1) (lv' := [(4, .int (u13 + 1)), (3, .int x15), (0, .ref 1000), (1, .int x1), (2, .int x11)]) dX3_tripsFor_51 rfl rfl (by decide) rfl ?_
        refine K_goto 21 dX3_tripsFor_54 rfl ?_
        refine K_loc [2, 3, 4, 1, 0] (lv' := [(0, .ref 1000), (1, .int x1), (2, .int x11), (3, .int x15), (4, .int (u13 + 1))]) rfl ?_
        exact ih x15 (u13 + 1)
theorem k_X3_tripsFor_1 {G : GE} (m0 m1 m2 m3 m4 m5 m6 m7 m8 m9 m10 m11 : Mem) (x1 : Int32) : K G (mi_X3_tripsFor 3) (e_X3_tripsFor_1 m0 m1 m2 m3 m4 m5 m6 m7 m8 m9 m10 m11) 0 [(0, .ref 1000), (1, .int x1)] [] [m0, m1, m2, m3, m4, m5, m6, m7, m8, m9, m10, m11] (f_X3_tripsFor m1 x1) := by
  unfold f_X3_tripsFor
  refine K_aload_n 0 dX3_tripsFor_0 rfl ?_
  refine K_get (v := .int (m1 0 7)) dX3_tripsFor_1 fl_X3_53 kl_1000 rfl rfl ?_
  refine K_iload_n 1 dX3_tripsFor_4 rfl ?_
  refine K_bitc dX3_tripsFor_5 ml_X3_114 (Nat.le_of_ble_eq_true rfl) (Nat.le_of_ble_eq_true rfl) ?_
  refine K_isub dX3_tripsFor_8 ?_
  refine K_nmi (fun x11 => ?_)
  refine K_istore_n (lv' := [(2, .int x11), (0, .ref 1000), (1, .int x1)]) dX3_tripsFor_9 (by decide) rfl ?_
  refine K_iload_n 0 dX3_tripsFor_10 rfl ?_
  refine K_if_ne 16 dX3_tripsFor_11 rfl (fun _ => ?_) (fun _ => ?_)
  · refine K_iconst (v := 0) dX3_tripsFor_16 (by decide) ?_
    refine K_istore_n (lv' := [(3, .int 0), (2, .int x11), (0, .ref 1000), (1, .int x1)]) dX3_tripsFor_17 (by decide) rfl ?_
    refine K_iconst (v := 0) dX3_tripsFor_18 (by decide) ?_
    refine K_istore (lv' := [(4, .int 0), (3, .int 0), (2, .int x11), (0, .ref 1000), (1, .int x1)]) dX3_tripsFor_19 (by decide) rfl ?_
    refine K_loc [3, 4, 2, 1, 0] (lv' := [(0, .ref 1000), (1, .int x1), (2, .int x11), (3, .int 0), (4, .int 0)]) rfl ?_
    refine k_X3_tripsFor_1_L21  m0 m1 m2 m3 m4 m5 m6 m7 m8 m9 m10 m11 x1 x11 _ (fun u16 u17 => ?_) 100000 0 0
    refine K_iload_n 3 dX3_tripsFor_57 rfl ?_
    refine K_aload_n 0 dX3_tripsFor_58 rfl ?_
    refine K_callV (E' := e_X3_peopleWhoDriveOnSunday_1 m0 m1 m2 m3 m4 m5 m6 m7 m8 m9 m10 m11) (b := 1000) (As := []) (rest := [.int u16]) dX3_tripsFor_59 ml_X3_120 (mf_X3_peopleWhoDriveOnSunday 2) mv_X3_peopleWhoDriveOnSunday (fun hj r hr => c_X3_peopleWhoDriveOnSunday_1 hj m0 m1 m2 m3 m4 m5 m6 m7 m8 m9 m10 m11  hr) (rcv_obj (q := (RX3, TX3, 18)) kl_1000 rfl) rfl rfl (Nat.le_of_ble_eq_true rfl) (Nat.le_of_ble_eq_true rfl) (fun r18 => ?_)
    show K G (mi_X3_tripsFor 3) (e_X3_tripsFor_1 m0 m1 m2 m3 m4 m5 m6 m7 m8 m9 m10 m11) 62 [(0, .ref 1000), (1, .int x1), (2, .int x11), (3, .int u16), (4, .int u17)] [.int r18, .int u16] [m0, m1, m2, m3, m4, m5, m6, m7, m8, m9, m10, m11] _
    refine K_iconst (v := 1) dX3_tripsFor_62 (by decide) ?_
    refine K_isub dX3_tripsFor_63 ?_
    refine K_min dX3_tripsFor_64 mlk_X3_85 mth_min.1 mth_min.2.1 mth_min.2.2 (Nat.le_of_ble_eq_true rfl) (Nat.le_of_ble_eq_true rfl) ?_
    refine K_nmi (fun x19 => ?_)
    refine K_istore (lv' := [(4, .int x19), (0, .ref 1000), (1, .int x1), (2, .int x11), (3, .int u16)]) dX3_tripsFor_67 (by decide) rfl ?_
    refine K_iload 0 dX3_tripsFor_69 rfl ?_
    refine K_iconst (v := 1) dX3_tripsFor_71 (by decide) ?_
    refine K_icmp_ge 80 dX3_tripsFor_72 rfl (fun _ => ?_) (fun _ => ?_)
    · refine K_iload_n 3 dX3_tripsFor_80 rfl ?_
      refine K_iload 0 dX3_tripsFor_81 rfl ?_
      refine K_iadd dX3_tripsFor_83 ?_
      refine K_iconst (v := 1) dX3_tripsFor_84 (by decide) ?_
      refine K_isub dX3_tripsFor_85 ?_
      refine K_iload 0 dX3_tripsFor_86 rfl ?_
      refine K_idiv dX3_tripsFor_88 ?_
      exact K_ret (rv := some (.int (((x11 + x19) - 1) / x19))) dX3_tripsFor_89 rfl rfl rfl
    · refine K_ldc (v := (-1000000)) dX3_tripsFor_75 cst_X3_94 ?_
      refine K_goto 89 dX3_tripsFor_77 rfl ?_
      exact K_ret (rv := some (.int (-1000000))) dX3_tripsFor_89 rfl rfl rfl
  · refine K_iconst (v := 0) dX3_tripsFor_14 (by decide) ?_
    exact K_ret (rv := some (.int 0)) dX3_tripsFor_15 rfl rfl rfl
theorem c_X3_tripsFor_1 {G : GE} (hj : dj G) (m0 m1 m2 m3 m4 m5 m6 m7 m8 m9 m10 m11 : Mem) (x1 : Int32) {r : Int32} (hr : f_X3_tripsFor m1 x1 = some r) : Ctr G yX3_tripsFor (mi_X3_tripsFor 3) [.ref 1000, .int x1] [m0, m1, m2, m3, m4, m5, m6, m7, m8, m9, m10, m11] ((e_X3_tripsFor_1 m0 m1 m2 m3 m4 m5 m6 m7 m8 m9 m10 m11) r).1 ((e_X3_tripsFor_1 m0 m1 m2 m3 m4 m5 m6 m7 m8 m9 m10 m11) r).2 := Ctr_of hj (by decide) rfl hr rfl (Nat.le_of_ble_eq_true rfl) (k_X3_tripsFor_1 m0 m1 m2 m3 m4 m5 m6 m7 m8 m9 m10 m11 x1)
abbrev e_X7_fetch (m0 m1 m2 m3 m4 m5 m6 m7 m8 m9 m10 m11 : Mem) : Int32 → Option Value × List Mem := fun r => (some (.int r), [m0, m1, m2, m3, m4, m5, m6, m7, m8, m9, m10, m11])
theorem k_X7_fetch {G : GE} (m0 m1 m2 m3 m4 m5 m6 m7 m8 m9 m10 m11 : Mem) (x1 : Int32) (h7 : m11 0 7 = 1) : K G (mi_X7_fetch 5) (e_X7_fetch m0 m1 m2 m3 m4 m5 m6 m7 m8 m9 m10 m11) 0 [(0, .ref 11000), (1, .int x1)] [] [m0, m1, m2, m3, m4, m5, m6, m7, m8, m9, m10, m11] (f_X7_fetch m1 x1) := by
  unfold f_X7_fetch
  refine K_aload_n 0 dX7_fetch_0 rfl ?_
  refine K_get (v := .ref 1000) dX7_fetch_1 fl_X7_58 kl_11000 rfl (nd_ref h7) ?_
  refine K_get (v := .int (m1 0 0)) dX7_fetch_4 fl_X7_169 kl_1000 rfl rfl ?_
  refine K_if_ne 13 dX7_fetch_7 rfl (fun _ => ?_) (fun _ => ?_)
  · refine K_iload_n 1 dX7_fetch_13 rfl ?_
    refine K_callS (E' := e_X7_isMinute [m0, m1, m2, m3, m4, m5, m6, m7, m8, m9, m10, m11]) (As := [.int x1]) (rest := []) dX7_fetch_14 ml_X7_181 (mf_X7_isMinute 1) ms_X7_isMinute (fun hj r hr => c_X7_isMinute hj [m0, m1, m2, m3, m4, m5, m6, m7, m8, m9, m10, m11] x1 hr) rfl rfl (Nat.le_of_ble_eq_true rfl) (Nat.le_of_ble_eq_true rfl) (fun r11 => ?_)
    show K G (mi_X7_fetch 5) (e_X7_fetch m0 m1 m2 m3 m4 m5 m6 m7 m8 m9 m10 m11) 17 [(0, .ref 11000), (1, .int x1)] [.int r11] [m0, m1, m2, m3, m4, m5, m6, m7, m8, m9, m10, m11] _
    refine K_if_eq 38 dX7_fetch_17 rfl (fun _ => ?_) (fun _ => ?_)
    · refine K_ldc (v := (-1000001)) dX7_fetch_38 cst_X7_73 ?_
      exact K_ret (rv := some (.int (-1000001))) dX7_fetch_40 rfl rfl rfl
    · refine K_aload_n 0 dX7_fetch_20 rfl ?_
      refine K_get (v := .ref 1000) dX7_fetch_21 fl_X7_58 kl_11000 rfl (nd_ref h7) ?_
      refine K_aload_n 0 dX7_fetch_24 rfl ?_
      refine K_get (v := .ref 1000) dX7_fetch_25 fl_X7_58 kl_11000 rfl (nd_ref h7) ?_
      refine K_iload_n 1 dX7_fetch_28 rfl ?_
      refine K_callV (E' := e_X3_carsThatGo_1 m0 m1 m2 m3 m4 m5 m6 m7 m8 m9 m10 m11) (b := 1000) (As := [.int x1]) (rest := [.ref 1000]) dX7_fetch_29 ml_X7_193 (mf_X3_carsThatGo 4) mv_X3_carsThatGo (fun hj r hr => c_X3_carsThatGo_1 hj m0 m1 m2 m3 m4 m5 m6 m7 m8 m9 m10 m11 x1 hr) (rcv_obj (q := (RX3, TX3, 18)) kl_1000 rfl) rfl rfl (Nat.le_of_ble_eq_true rfl) (Nat.le_of_ble_eq_true rfl) (fun r12 => ?_)
      show K G (mi_X7_fetch 5) (e_X7_fetch m0 m1 m2 m3 m4 m5 m6 m7 m8 m9 m10 m11) 32 [(0, .ref 11000), (1, .int x1)] [.int r12, .ref 1000] [m0, m1, m2, m3, m4, m5, m6, m7, m8, m9, m10, m11] _
      refine K_callV (E' := e_X3_tripsFor_1 m0 m1 m2 m3 m4 m5 m6 m7 m8 m9 m10 m11) (b := 1000) (As := [.int r12]) (rest := []) dX7_fetch_32 ml_X7_228 (mf_X3_tripsFor 3) mv_X3_tripsFor (fun hj r hr => c_X3_tripsFor_1 hj m0 m1 m2 m3 m4 m5 m6 m7 m8 m9 m10 m11 r12 hr) (rcv_obj (q := (RX3, TX3, 18)) kl_1000 rfl) rfl rfl (Nat.le_of_ble_eq_true rfl) (Nat.le_of_ble_eq_true rfl) (fun r13 => ?_)
      show K G (mi_X7_fetch 5) (e_X7_fetch m0 m1 m2 m3 m4 m5 m6 m7 m8 m9 m10 m11) 35 [(0, .ref 11000), (1, .int x1)] [.int r13] [m0, m1, m2, m3, m4, m5, m6, m7, m8, m9, m10, m11] _
      refine K_goto 40 dX7_fetch_35 rfl ?_
      exact K_ret (rv := some (.int r13)) dX7_fetch_40 rfl rfl rfl
  · refine K_ldc (v := (-1000002)) dX7_fetch_10 cst_X7_143 ?_
    exact K_ret (rv := some (.int (-1000002))) dX7_fetch_12 rfl rfl rfl
theorem c_X7_fetch {G : GE} (hj : dj G) (m0 m1 m2 m3 m4 m5 m6 m7 m8 m9 m10 m11 : Mem) (x1 : Int32) (h7 : m11 0 7 = 1) {r : Int32} (hr : f_X7_fetch m1 x1 = some r) : Ctr G yX7_fetch (mi_X7_fetch 5) [.ref 11000, .int x1] [m0, m1, m2, m3, m4, m5, m6, m7, m8, m9, m10, m11] ((e_X7_fetch m0 m1 m2 m3 m4 m5 m6 m7 m8 m9 m10 m11) r).1 ((e_X7_fetch m0 m1 m2 m3 m4 m5 m6 m7 m8 m9 m10 m11) r).2 := Ctr_of hj (by decide) rfl hr rfl (Nat.le_of_ble_eq_true rfl) (k_X7_fetch m0 m1 m2 m3 m4 m5 m6 m7 m8 m9 m10 m11 x1 h7)
abbrev e_X3_farFromAll_1 (m0 m1 m2 m3 m4 m5 m6 m7 m8 m9 m10 m11 : Mem) : Int32 → Option Value × List Mem := fun r => (some (.int r), [m0, m1, m2, m3, m4, m5, m6, m7, m8, m9, m10, m11])
theorem k_X3_farFromAll_1_L4 {G : GE} (m0 m1 m2 m3 m4 m5 m6 m7 m8 m9 m10 m11 : Mem) (x1 : Int32) (k : Int32 → Int32 → Option (Int32)) (hk : ∀ (u11 : Int32) (u12 : Int32), K G (mi_X3_farFromAll 2) (e_X3_farFromAll_1 m0 m1 m2 m3 m4 m5 m6 m7 m8 m9 m10 m11) 37 [(0, .ref 1000), (1, .int x1), (2, .int u11), (3, .int u12)] [] [m0, m1, m2, m3, m4, m5, m6, m7, m8, m9, m10, m11] (k u11 u12)) : ∀ (t : Nat) (u11 : Int32) (u12 : Int32), K G (mi_X3_farFromAll 2) (e_X3_farFromAll_1 m0 m1 m2 m3 m4 m5 m6 m7 m8 m9 m10 m11) 4 [(0, .ref 1000), (1, .int x1), (2, .int u11), (3, .int u12)] [] [m0, m1, m2, m3, m4, m5, m6, m7, m8, m9, m10, m11] (f_X3_farFromAll_L4 k x1 m1 t u11 u12) := by
  intro t
  induction t with
  | zero => intro u11 u12; exact K_none
  | succ t ih =>
    intro u11 u12
    rw [f_X3_farFromAll_L4]
    refine K_iload_n 3 dX3_farFromAll_4 rfl ?_
    refine K_aload_n 0 dX3_farFromAll_5 rfl ?_
    refine K_get (v := .int (m1 0 6)) dX3_farFromAll_6 fl_X3_50 kl_1000 rfl rfl ?_
    refine K_icmp_ge 37 dX3_farFromAll_9 rfl (fun _ => ?_) (fun _ => ?_)
    · refine K_loc [0, 1, 2, 3] (lv' := [(0, .ref 1000), (1, .int x1), (2, .int u11), (3, .int u12)]) rfl ?_
      exact hk u11 u12
    · refine K_iload_n 2 dX3_farFromAll_12 rfl ?_
      refine K_aload_n 0 dX3_farFromAll_13 rfl ?_
      refine K_aload_n 0 dX3_farFromAll_14 rfl ?_
      refine K_get (v := .ref 1013) dX3_farFromAll_15 fl_X3_22 kl_1000 rfl rfl ?_
      refine K_iload_n 1 dX3_farFromAll_18 rfl ?_
      refine K_iald (f := m1 13) dX3_farFromAll_19 kl_1013 rfl ?_
      refine K_aload_n 0 dX3_farFromAll_20 rfl ?_
      refine K_get (v := .ref 1013) dX3_farFromAll_21 fl_X3_22 kl_1000 rfl rfl ?_
      refine K_iload_n 3 dX3_farFromAll_24 rfl ?_
      refine K_iald (f := m1 13) dX3_farFromAll_25 kl_1013 rfl ?_
      refine K_callV (E' := e_X3_minutesBetween_1 m0 m1 m2 m3 m4 m5 m6 m7 m8 m9 m10 m11) (b := 1000) (As := [.int (m1 13 x1.toNatClampNeg), .int (m1 13 u12.toNatClampNeg)]) (rest := [.int u11]) dX3_farFromAll_26 ml_X3_81 (mf_X3_minutesBetween 1) mv_X3_minutesBetween (fun hj r hr => c_X3_minutesBetween_1 hj m0 m1 m2 m3 m4 m5 m6 m7 m8 m9 m10 m11 (m1 13 x1.toNatClampNeg) (m1 13 u12.toNatClampNeg) hr) (rcv_obj (q := (RX3, TX3, 18)) kl_1000 rfl) rfl rfl (Nat.le_of_ble_eq_true rfl) (Nat.le_of_ble_eq_true rfl) (fun r13 => ?_)
      show K G (mi_X3_farFromAll 2) (e_X3_farFromAll_1 m0 m1 m2 m3 m4 m5 m6 m7 m8 m9 m10 m11) 29 [(0, .ref 1000), (1, .int x1), (2, .int u11), (3, .int u12)] [.int r13, .int u11] [m0, m1, m2, m3, m4, m5, m6, m7, m8, m9, m10, m11] _
      refine K_iadd dX3_farFromAll_29 ?_
      refine K_nmi (fun x14 => ?_)
      refine K_istore_n (lv' := [(2, .int x14), (0, .ref 1000), (1, .int x1), (3, .int u12)]) dX3_farFromAll_30 (by decide) rfl ?_
      refine K_iinc 3 (w := u12 + 1) (lv' := [(3, .int (u12 + 1)), (2, .int x14), (0, .ref 1000), (1, .int x1)]) dX3_farFromAll_31 rfl rfl (by decide) rfl ?_
      refine K_goto 4 dX3_farFromAll_34 rfl ?_
      refine K_loc [2, 3, 1, 0] (lv' := [(0, .ref 1000), (1, .int x1), (2, .int x14), (3, .int (u12 + 1))]) rfl ?_
      exact ih x14 (u12 + 1)
theorem k_X3_farFromAll_1 {G : GE} (m0 m1 m2 m3 m4 m5 m6 m7 m8 m9 m10 m11 : Mem) (x1 : Int32) : K G (mi_X3_farFromAll 2) (e_X3_farFromAll_1 m0 m1 m2 m3 m4 m5 m6 m7 m8 m9 m10 m11) 0 [(0, .ref 1000), (1, .int x1)] [] [m0, m1, m2, m3, m4, m5, m6, m7, m8, m9, m10, m11] (f_X3_farFromAll m1 x1) := by
  unfold f_X3_farFromAll
  refine K_iconst (v := 0) dX3_farFromAll_0 (by decide) ?_
  refine K_istore_n (lv' := [(2, .int 0), (0, .ref 1000), (1, .int x1)]) dX3_farFromAll_1 (by decide) rfl ?_
  refine K_iconst (v := 0) dX3_farFromAll_2 (by decide) ?_
  refine K_istore_n (lv' := [(3, .int 0), (2, .int 0), (0, .ref 1000), (1, .int x1)]) dX3_farFromAll_3 (by decide) rfl ?_
  refine K_loc [2, 3, 1, 0] (lv' := [(0, .ref 1000), (1, .int x1), (2, .int 0), (3, .int 0)]) rfl ?_
  refine k_X3_farFromAll_1_L4  m0 m1 m2 m3 m4 m5 m6 m7 m8 m9 m10 m11 x1 _ (fun u15 u16 => ?_) 100000 0 0
  refine K_iload_n 2 dX3_farFromAll_37 rfl ?_
  exact K_ret (rv := some (.int u15)) dX3_farFromAll_38 rfl rfl rfl
theorem c_X3_farFromAll_1 {G : GE} (hj : dj G) (m0 m1 m2 m3 m4 m5 m6 m7 m8 m9 m10 m11 : Mem) (x1 : Int32) {r : Int32} (hr : f_X3_farFromAll m1 x1 = some r) : Ctr G yX3_farFromAll (mi_X3_farFromAll 2) [.ref 1000, .int x1] [m0, m1, m2, m3, m4, m5, m6, m7, m8, m9, m10, m11] ((e_X3_farFromAll_1 m0 m1 m2 m3 m4 m5 m6 m7 m8 m9 m10 m11) r).1 ((e_X3_farFromAll_1 m0 m1 m2 m3 m4 m5 m6 m7 m8 m9 m10 m11) r).2 := Ctr_of hj (by decide) rfl hr rfl (Nat.le_of_ble_eq_true rfl) (k_X3_farFromAll_1 m0 m1 m2 m3 m4 m5 m6 m7 m8 m9 m10 m11 x1)
abbrev e_X3_bestHouse_1 (m0 m1 m2 m3 m4 m5 m6 m7 m8 m9 m10 m11 : Mem) : Int32 → Option Value × List Mem := fun r => (some (.int r), [m0, m1, m2, m3, m4, m5, m6, m7, m8, m9, m10, m11])
theorem k_X3_bestHouse_1_L8 {G : GE} (m0 m1 m2 m3 m4 m5 m6 m7 m8 m9 m10 m11 : Mem) (k : Int32 → Int32 → Int32 → Option (Int32)) (hk : ∀ (u11 : Int32) (u12 : Int32) (u13 : Int32), K G (mi_X3_bestHouse 3) (e_X3_bestHouse_1 m0 m1 m2 m3 m4 m5 m6 m7 m8 m9 m10 m11) 40 [(0, .ref 1000), (1, .int u11), (2, .int u12), (3, .int u13)] [] [m0, m1, m2, m3, m4, m5, m6, m7, m8, m9, m10, m11] (k u11 u12 u13)) : ∀ (t : Nat) (u11 : Int32) (u12 : Int32) (u13 : Int32), K G (mi_X3_bestHouse 3) (e_X3_bestHouse_1 m0 m1 m2 m3 m4 m5 m6 m7 m8 m9 m10 m11) 8 [(0, .ref 1000), (1, .int u11), (2, .int u12), (3, .int u13)] [] [m0, m1, m2, m3, m4, m5, m6, m7, m8, m9, m10, m11] (f_X3_bestHouse_L8 k m1 t u11 u12 u13) := by
  intro t
  induction t with
  | zero => intro u11 u12 u13; exact K_none
  | succ t ih =>
    intro u11 u12 u13
    rw [f_X3_bestHouse_L8]
    refine K_iload_n 3 dX3_bestHouse_8 rfl ?_
    refine K_aload_n 0 dX3_bestHouse_9 rfl ?_
    refine K_get (v := .int (m1 0 6)) dX3_bestHouse_10 fl_X3_50 kl_1000 rfl rfl ?_
    refine K_icmp_ge 40 dX3_bestHouse_13 rfl (fun _ => ?_) (fun _ => ?_)
    · refine K_loc [0, 1, 2, 3] (lv' := [(0, .ref 1000), (1, .int u11), (2, .int u12), (3, .int u13)]) rfl ?_
      exact hk u11 u12 u13
    · refine K_aload_n 0 dX3_bestHouse_16 rfl ?_
      refine K_iload_n 3 dX3_bestHouse_17 rfl ?_
      refine K_callV (E' := e_X3_farFromAll_1 m0 m1 m2 m3 m4 m5 m6 m7 m8 m9 m10 m11) (b := 1000) (As := [.int u13]) (rest := []) dX3_bestHouse_18 ml_X3_124 (mf_X3_farFromAll 2) mv_X3_farFromAll (fun hj r hr => c_X3_farFromAll_1 hj m0 m1 m2 m3 m4 m5 m6 m7 m8 m9 m10 m11 u13 hr) (rcv_obj (q := (RX3, TX3, 18)) kl_1000 rfl) rfl rfl (Nat.le_of_ble_eq_true rfl) (Nat.le_of_ble_eq_true rfl) (fun r14 => ?_)
      show K G (mi_X3_bestHouse 3) (e_X3_bestHouse_1 m0 m1 m2 m3 m4 m5 m6 m7 m8 m9 m10 m11) 21 [(0, .ref 1000), (1, .int u11), (2, .int u12), (3, .int u13)] [.int r14] [m0, m1, m2, m3, m4, m5, m6, m7, m8, m9, m10, m11] _
      refine K_istore (lv' := [(4, .int r14), (0, .ref 1000), (1, .int u11), (2, .int u12), (3, .int u13)]) dX3_bestHouse_21 (by decide) rfl ?_
      refine K_iload 0 dX3_bestHouse_23 rfl ?_
      refine K_iload_n 3 dX3_bestHouse_25 rfl ?_
      refine K_icmp_ge 34 dX3_bestHouse_26 rfl (fun _ => ?_) (fun _ => ?_)
      · refine K_iinc 4 (w := u13 + 1) (lv' := [(3, .int (u13 + 1)), (4, .int r14), (0, .ref 1000), (1, .int u11), (2, .int u12)]) dX3_bestHouse_34 rfl rfl (by decide) rfl ?_
        refine K_goto 8 dX3_bestHouse_37 rfl ?_
        refine K_loc [2, 3, 4, 0] (lv' := [(0, .ref 1000), (1, .int u11), (2, .int u12), (3, .int (u13 + 1))]) rfl ?_
        exact ih u11 u12 (u13 + 1)
      · refine K_iload 0 dX3_bestHouse_29 rfl ?_
        refine K_istore_n (lv' := [(2, .int r14), (4, .int r14), (0, .ref 1000), (1, .int u11), (3, .int u13)]) dX3_bestHouse_31 (by decide) rfl ?_
        refine K_iload_n 4 dX3_bestHouse_32 rfl ?_
        refine K_istore_n (lv' := [(1, .int u13), (2, .int r14), (4, .int r14), (0, .ref 1000), (3, .int u13)]) dX3_bestHouse_33 (by decide) rfl ?_
        refine K_iinc 4 (w := u13 + 1) (lv' := [(3, .int (u13 + 1)), (1, .int u13), (2, .int r14), (4, .int r14), (0, .ref 1000)]) dX3_bestHouse_34 rfl rfl (by decide) rfl ?_
        refine K_goto 8 dX3_bestHouse_37 rfl ?_
        refine K_loc [4, 1, 2, 0] (lv' := [(0, .ref 1000), (1, .int u13), (2, .int r14), (3, .int (u13 + 1))]) rfl ?_
        exact ih u13 r14 (u13 + 1)
theorem k_X3_bestHouse_1 {G : GE} (m0 m1 m2 m3 m4 m5 m6 m7 m8 m9 m10 m11 : Mem)  : K G (mi_X3_bestHouse 3) (e_X3_bestHouse_1 m0 m1 m2 m3 m4 m5 m6 m7 m8 m9 m10 m11) 0 [(0, .ref 1000)] [] [m0, m1, m2, m3, m4, m5, m6, m7, m8, m9, m10, m11] (f_X3_bestHouse m1) := by
  unfold f_X3_bestHouse
  refine K_ldc (v := (-1000000)) dX3_bestHouse_0 cst_X3_94 ?_
  refine K_istore_n (lv' := [(1, .int (-1000000)), (0, .ref 1000)]) dX3_bestHouse_2 (by decide) rfl ?_
  refine K_ldc (v := 1000000) dX3_bestHouse_3 cst_X3_62 ?_
  refine K_istore_n (lv' := [(2, .int 1000000), (1, .int (-1000000)), (0, .ref 1000)]) dX3_bestHouse_5 (by decide) rfl ?_
  refine K_iconst (v := 0) dX3_bestHouse_6 (by decide) ?_
  refine K_istore_n (lv' := [(3, .int 0), (2, .int 1000000), (1, .int (-1000000)), (0, .ref 1000)]) dX3_bestHouse_7 (by decide) rfl ?_
  refine K_loc [3, 2, 1, 0] (lv' := [(0, .ref 1000), (1, .int (-1000000)), (2, .int 1000000), (3, .int 0)]) rfl ?_
  refine k_X3_bestHouse_1_L8  m0 m1 m2 m3 m4 m5 m6 m7 m8 m9 m10 m11  _ (fun u15 u16 u17 => ?_) 100000 (-1000000) 1000000 0
  refine K_iload_n 1 dX3_bestHouse_40 rfl ?_
  exact K_ret (rv := some (.int u15)) dX3_bestHouse_41 rfl rfl rfl
theorem c_X3_bestHouse_1 {G : GE} (hj : dj G) (m0 m1 m2 m3 m4 m5 m6 m7 m8 m9 m10 m11 : Mem)  {r : Int32} (hr : f_X3_bestHouse m1 = some r) : Ctr G yX3_bestHouse (mi_X3_bestHouse 3) [.ref 1000] [m0, m1, m2, m3, m4, m5, m6, m7, m8, m9, m10, m11] ((e_X3_bestHouse_1 m0 m1 m2 m3 m4 m5 m6 m7 m8 m9 m10 m11) r).1 ((e_X3_bestHouse_1 m0 m1 m2 m3 m4 m5 m6 m7 m8 m9 m10 m11) r).2 := Ctr_of hj (by decide) rfl hr rfl (Nat.le_of_ble_eq_true rfl) (k_X3_bestHouse_1 m0 m1 m2 m3 m4 m5 m6 m7 m8 m9 m10 m11 )
abbrev e_X7_house (m0 m1 m2 m3 m4 m5 m6 m7 m8 m9 m10 m11 : Mem) : Int32 → Option Value × List Mem := fun r => (some (.int r), [m0, m1, m2, m3, m4, m5, m6, m7, m8, m9, m10, m11])
theorem k_X7_house {G : GE} (m0 m1 m2 m3 m4 m5 m6 m7 m8 m9 m10 m11 : Mem) (x1 : Int32) (h7 : m11 0 7 = 1) : K G (mi_X7_house 4) (e_X7_house m0 m1 m2 m3 m4 m5 m6 m7 m8 m9 m10 m11) 0 [(0, .ref 11000), (1, .int x1)] [] [m0, m1, m2, m3, m4, m5, m6, m7, m8, m9, m10, m11] (f_X7_house m1 x1) := by
  unfold f_X7_house
  refine K_aload_n 0 dX7_house_0 rfl ?_
  refine K_get (v := .ref 1000) dX7_house_1 fl_X7_58 kl_11000 rfl (nd_ref h7) ?_
  refine K_get (v := .int (m1 0 0)) dX7_house_4 fl_X7_169 kl_1000 rfl rfl ?_
  refine K_if_ne 13 dX7_house_7 rfl (fun _ => ?_) (fun _ => ?_)
  · refine K_iload_n 1 dX7_house_13 rfl ?_
    refine K_if_lt 22 dX7_house_14 rfl (fun _ => ?_) (fun _ => ?_)
    · refine K_ldc (v := (-1000001)) dX7_house_22 cst_X7_73 ?_
      exact K_ret (rv := some (.int (-1000001))) dX7_house_24 rfl rfl rfl
    · refine K_iload_n 1 dX7_house_17 rfl ?_
      refine K_iconst (v := 1) dX7_house_18 (by decide) ?_
      refine K_icmp_le 25 dX7_house_19 rfl (fun _ => ?_) (fun _ => ?_)
      · refine K_aload_n 0 dX7_house_25 rfl ?_
        refine K_get (v := .ref 1000) dX7_house_26 fl_X7_58 kl_11000 rfl (nd_ref h7) ?_
        refine K_callV (E' := e_X3_bestHouse_1 m0 m1 m2 m3 m4 m5 m6 m7 m8 m9 m10 m11) (b := 1000) (As := []) (rest := []) dX7_house_29 ml_X7_231 (mf_X3_bestHouse 3) mv_X3_bestHouse (fun hj r hr => c_X3_bestHouse_1 hj m0 m1 m2 m3 m4 m5 m6 m7 m8 m9 m10 m11  hr) (rcv_obj (q := (RX3, TX3, 18)) kl_1000 rfl) rfl rfl (Nat.le_of_ble_eq_true rfl) (Nat.le_of_ble_eq_true rfl) (fun r11 => ?_)
        show K G (mi_X7_house 4) (e_X7_house m0 m1 m2 m3 m4 m5 m6 m7 m8 m9 m10 m11) 32 [(0, .ref 11000), (1, .int x1)] [.int r11] [m0, m1, m2, m3, m4, m5, m6, m7, m8, m9, m10, m11] _
        refine K_istore_n (lv' := [(2, .int r11), (0, .ref 11000), (1, .int x1)]) dX7_house_32 (by decide) rfl ?_
        refine K_iload_n 0 dX7_house_33 rfl ?_
        refine K_ldc (v := (-1000000)) dX7_house_34 cst_X7_180 ?_
        refine K_icmp_ne 42 dX7_house_36 rfl (fun _ => ?_) (fun _ => ?_)
        · refine K_iload_n 2 dX7_house_42 rfl ?_
          refine K_if_ne 50 dX7_house_43 rfl (fun _ => ?_) (fun _ => ?_)
          · refine K_aload_n 1 dX7_house_50 rfl ?_
            refine K_get (v := .ref 1000) dX7_house_51 fl_X7_58 kl_11000 rfl (nd_ref h7) ?_
            refine K_iload_n 0 dX7_house_54 rfl ?_
            refine K_callV (E' := e_X3_farFromAll_1 m0 m1 m2 m3 m4 m5 m6 m7 m8 m9 m10 m11) (b := 1000) (As := [.int r11]) (rest := []) dX7_house_55 ml_X7_235 (mf_X3_farFromAll 2) mv_X3_farFromAll (fun hj r hr => c_X3_farFromAll_1 hj m0 m1 m2 m3 m4 m5 m6 m7 m8 m9 m10 m11 r11 hr) (rcv_obj (q := (RX3, TX3, 18)) kl_1000 rfl) rfl rfl (Nat.le_of_ble_eq_true rfl) (Nat.le_of_ble_eq_true rfl) (fun r12 => ?_)
            show K G (mi_X7_house 4) (e_X7_house m0 m1 m2 m3 m4 m5 m6 m7 m8 m9 m10 m11) 58 [(2, .int r11), (0, .ref 11000), (1, .int x1)] [.int r12] [m0, m1, m2, m3, m4, m5, m6, m7, m8, m9, m10, m11] _
            exact K_ret (rv := some (.int r12)) dX7_house_58 rfl rfl rfl
          · refine K_iload_n 0 dX7_house_46 rfl ?_
            refine K_goto 58 dX7_house_47 rfl ?_
            exact K_ret (rv := some (.int r11)) dX7_house_58 rfl rfl rfl
        · refine K_ldc (v := (-1000000)) dX7_house_39 cst_X7_180 ?_
          exact K_ret (rv := some (.int (-1000000))) dX7_house_41 rfl rfl rfl
      · refine K_ldc (v := (-1000001)) dX7_house_22 cst_X7_73 ?_
        exact K_ret (rv := some (.int (-1000001))) dX7_house_24 rfl rfl rfl
  · refine K_ldc (v := (-1000002)) dX7_house_10 cst_X7_143 ?_
    exact K_ret (rv := some (.int (-1000002))) dX7_house_12 rfl rfl rfl
theorem c_X7_house {G : GE} (hj : dj G) (m0 m1 m2 m3 m4 m5 m6 m7 m8 m9 m10 m11 : Mem) (x1 : Int32) (h7 : m11 0 7 = 1) {r : Int32} (hr : f_X7_house m1 x1 = some r) : Ctr G yX7_house (mi_X7_house 4) [.ref 11000, .int x1] [m0, m1, m2, m3, m4, m5, m6, m7, m8, m9, m10, m11] ((e_X7_house m0 m1 m2 m3 m4 m5 m6 m7 m8 m9 m10 m11) r).1 ((e_X7_house m0 m1 m2 m3 m4 m5 m6 m7 m8 m9 m10 m11) r).2 := Ctr_of hj (by decide) rfl hr rfl (Nat.le_of_ble_eq_true rfl) (k_X7_house m0 m1 m2 m3 m4 m5 m6 m7 m8 m9 m10 m11 x1 h7)
abbrev e_X6_item (m0 m1 m2 m3 m4 m5 m6 m7 m8 m9 m10 m11 : Mem) : Int32 → Option Value × List Mem := fun r => (some (.int r), [m0, m1, m2, m3, m4, m5, m6, m7, m8, m9, m10, m11])
theorem k_X6_item {G : GE} (m0 m1 m2 m3 m4 m5 m6 m7 m8 m9 m10 m11 : Mem) (x1 : Int32) (x2 : Int32) : K G (mi_X6_item 1) (e_X6_item m0 m1 m2 m3 m4 m5 m6 m7 m8 m9 m10 m11) 0 [(0, .ref 5000), (1, .int x1), (2, .int x2)] [] [m0, m1, m2, m3, m4, m5, m6, m7, m8, m9, m10, m11] (f_X6_item m5 x1 x2) := by
  unfold f_X6_item
  refine K_aload_n 0 dX6_item_0 rfl ?_
  refine K_get (v := .ref 5003) dX6_item_1 fl_X6_20 kl_5000 rfl rfl ?_
  refine K_iload_n 1 dX6_item_4 rfl ?_
  refine K_aald dX6_item_5 kl_5003 (Or.inr rfl) (fun hb11 => ?_)
  refine K_iload_n 2 dX6_item_6 rfl ?_
  refine K_iald (f := m5 (10 + x1.toNatClampNeg)) dX6_item_7 (kd_row hb11) (xs_row hb11) ?_
  exact K_ret (rv := some (.int (m5 (10 + x1.toNatClampNeg) x2.toNatClampNeg))) dX6_item_8 rfl rfl rfl
theorem c_X6_item {G : GE} (hj : dj G) (m0 m1 m2 m3 m4 m5 m6 m7 m8 m9 m10 m11 : Mem) (x1 : Int32) (x2 : Int32) {r : Int32} (hr : f_X6_item m5 x1 x2 = some r) : Ctr G yX6_item (mi_X6_item 1) [.ref 5000, .int x1, .int x2] [m0, m1, m2, m3, m4, m5, m6, m7, m8, m9, m10, m11] ((e_X6_item m0 m1 m2 m3 m4 m5 m6 m7 m8 m9 m10 m11) r).1 ((e_X6_item m0 m1 m2 m3 m4 m5 m6 m7 m8 m9 m10 m11) r).2 := Ctr_of hj (by decide) rfl hr rfl (Nat.le_of_ble_eq_true rfl) (k_X6_item m0 m1 m2 m3 m4 m5 m6 m7 m8 m9 m10 m11 x1 x2)
abbrev e_X1_countDrives (m0 m1 m2 m3 m4 m5 m6 m7 m8 m9 m10 m11 : Mem) : (Int32 × Mem) → Option Value × List Mem := fun r => (some (.int r.1), [m0, m1, m2, m3, m4, m5, m6, r.2, m8, m9, m10, m11])
theorem k_X1_countDrives_L11 {G : GE} (m0 m1 m2 m3 m4 m5 m6 m7 m8 m9 m10 m11 : Mem) (x2 : Int32) (x3 : Int32) (x4 : Int32) (k : Int32 → Mem → Option (Int32 × Mem)) (hk : ∀ (u12 : Int32) (w13 : Mem), K G (mi_X1_countDrives 2) (e_X1_countDrives m0 m1 m2 m3 m4 m5 m6 m7 m8 m9 m10 m11) 57 [(0, .ref 7000), (1, .ref 5000), (2, .int x2), (3, .int x3), (4, .int x4), (5, .int u12)] [] [m0, m1, m2, m3, m4, m5, m6, w13, m8, m9, m10, m11] (k u12 w13)) : ∀ (t : Nat) (u12 : Int32) (w13 : Mem), K G (mi_X1_countDrives 2) (e_X1_countDrives m0 m1 m2 m3 m4 m5 m6 m7 m8 m9 m10 m11) 11 [(0, .ref 7000), (1, .ref 5000), (2, .int x2), (3, .int x3), (4, .int x4), (5, .int u12)] [] [m0, m1, m2, m3, m4, m5, m6, w13, m8, m9, m10, m11] (f_X1_countDrives_L11 k x2 x3 x4 m5 t u12 w13) := by
  intro t
  induction t with
  | zero => intro u12 w13; exact K_none
  | succ t ih =>
    intro u12 w13
    rw [f_X1_countDrives_L11]
    refine K_iload 5 dX1_countDrives_11 rfl ?_
    refine K_iload_n 3 dX1_countDrives_13 rfl ?_
    refine K_icmp_ge 57 dX1_countDrives_14 rfl (fun _ => ?_) (fun _ => ?_)
    · refine K_loc [0, 1, 2, 3, 4, 5] (lv' := [(0, .ref 7000), (1, .ref 5000), (2, .int x2), (3, .int x3), (4, .int x4), (5, .int u12)]) rfl ?_
      exact hk u12 w13
    · refine K_aload_n 1 dX1_countDrives_17 rfl ?_
      refine K_iload_n 2 dX1_countDrives_18 rfl ?_
      refine K_iload 5 dX1_countDrives_19 rfl ?_
      refine K_callV (E' := e_X6_item m0 m1 m2 m3 m4 m5 m6 w13 m8 m9 m10 m11) (b := 5000) (As := [.int x2, .int u12]) (rest := []) dX1_countDrives_21 ml_X1_25 (mf_X6_item 1) mv_X6_item (fun hj r hr => c_X6_item hj m0 m1 m2 m3 m4 m5 m6 w13 m8 m9 m10 m11 x2 u12 hr) (rcv_obj (q := (RX6, TX6, 3)) kl_5000 rfl) rfl rfl (Nat.le_of_ble_eq_true rfl) (Nat.le_of_ble_eq_true rfl) (fun r14 => ?_)
      show K G (mi_X1_countDrives 2) (e_X1_countDrives m0 m1 m2 m3 m4 m5 m6 m7 m8 m9 m10 m11) 24 [(0, .ref 7000), (1, .ref 5000), (2, .int x2), (3, .int x3), (4, .int x4), (5, .int u12)] [.int r14] [m0, m1, m2, m3, m4, m5, m6, w13, m8, m9, m10, m11] _
      refine K_istore (lv' := [(6, .int r14), (0, .ref 7000), (1, .ref 5000), (2, .int x2), (3, .int x3), (4, .int x4), (5, .int u12)]) dX1_countDrives_24 (by decide) rfl ?_
      refine K_iload 0 dX1_countDrives_26 rfl ?_
      refine K_if_lt 38 dX1_countDrives_28 rfl (fun _ => ?_) (fun _ => ?_)
      · refine K_iconst (v := 0) dX1_countDrives_38 (by decide) ?_
        exact K_ret (rv := some (.int 0)) dX1_countDrives_39 rfl rfl rfl
      · refine K_iload 0 dX1_countDrives_31 rfl ?_
        refine K_iload 5 dX1_countDrives_33 rfl ?_
        refine K_icmp_lt 40 dX1_countDrives_35 rfl (fun _ => ?_) (fun _ => ?_)
        · refine K_aload_n 1 dX1_countDrives_40 rfl ?_
          refine K_get (v := .ref 7001) dX1_countDrives_41 fl_X1_9 kl_7000 rfl rfl ?_
          refine K_iload 0 dX1_countDrives_44 rfl ?_
          refine K_dup2 dX1_countDrives_46 rfl rfl ?_
          refine K_iald (f := w13 1) dX1_countDrives_47 kl_7001 rfl ?_
          refine K_iconst (v := 1) dX1_countDrives_48 (by decide) ?_
          refine K_iadd dX1_countDrives_49 ?_
          refine K_iast (Ms' := [m0, m1, m2, m3, m4, m5, m6, (up w13 1 r14.toNatClampNeg ((w13 1 r14.toNatClampNeg) + 1)), m8, m9, m10, m11]) dX1_countDrives_50 kl_7001 (Nat.le_of_ble_eq_true rfl) rfl ?_
          refine K_nmm (fun w => [m0, m1, m2, m3, m4, m5, m6, w, m8, m9, m10, m11]) rfl (fun w15 => ?_)
          refine K_iinc 6 (w := u12 + 1) (lv' := [(5, .int (u12 + 1)), (6, .int r14), (0, .ref 7000), (1, .ref 5000), (2, .int x2), (3, .int x3), (4, .int x4)]) dX1_countDrives_51 rfl rfl (by decide) rfl ?_
          refine K_goto 11 dX1_countDrives_54 rfl ?_
          refine K_loc [2, 3, 4, 5, 6, 0] (lv' := [(0, .ref 7000), (1, .ref 5000), (2, .int x2), (3, .int x3), (4, .int x4), (5, .int (u12 + 1))]) rfl ?_
          exact ih (u12 + 1) w15
        · refine K_iconst (v := 0) dX1_countDrives_38 (by decide) ?_
          exact K_ret (rv := some (.int 0)) dX1_countDrives_39 rfl rfl rfl
theorem k_X1_countDrives {G : GE} (m0 m1 m2 m3 m4 m5 m6 m7 m8 m9 m10 m11 : Mem) (x2 : Int32) (x3 : Int32) (x4 : Int32) : K G (mi_X1_countDrives 2) (e_X1_countDrives m0 m1 m2 m3 m4 m5 m6 m7 m8 m9 m10 m11) 0 [(0, .ref 7000), (1, .ref 5000), (2, .int x2), (3, .int x3), (4, .int x4)] [] [m0, m1, m2, m3, m4, m5, m6, m7, m8, m9, m10, m11] (f_X1_countDrives m5 m7 x2 x3 x4) := by
  unfold f_X1_countDrives
  refine K_aload_n 0 dX1_countDrives_0 rfl ?_
  refine K_get (v := .ref 7001) dX1_countDrives_1 fl_X1_9 kl_7000 rfl rfl ?_
  refine K_iconst (v := 0) dX1_countDrives_4 (by decide) ?_
  refine K_fill (Ms' := [m0, m1, m2, m3, m4, m5, m6, (upA m7 1 (fillf 7 0 (m7 1))), m8, m9, m10, m11]) dX1_countDrives_5 ml_X1_19 (Nat.le_of_ble_eq_true rfl) (Nat.le_of_ble_eq_true rfl) kl_7001 (Nat.le_of_ble_eq_true rfl) rfl ?_
  refine K_nmm (fun w => [m0, m1, m2, m3, m4, m5, m6, w, m8, m9, m10, m11]) rfl (fun w11 => ?_)
  refine K_iconst (v := 0) dX1_countDrives_8 (by decide) ?_
  refine K_istore (lv' := [(5, .int 0), (0, .ref 7000), (1, .ref 5000), (2, .int x2), (3, .int x3), (4, .int x4)]) dX1_countDrives_9 (by decide) rfl ?_
  refine K_loc [1, 2, 3, 4, 5, 0] (lv' := [(0, .ref 7000), (1, .ref 5000), (2, .int x2), (3, .int x3), (4, .int x4), (5, .int 0)]) rfl ?_
  refine k_X1_countDrives_L11  m0 m1 m2 m3 m4 m5 m6 m7 m8 m9 m10 m11 x2 x3 x4 _ (fun u16 w17 => ?_) 100000 0 w11
  refine K_iconst (v := 1) dX1_countDrives_57 (by decide) ?_
  exact K_ret (rv := some (.int 1)) dX1_countDrives_58 rfl rfl rfl
theorem c_X1_countDrives {G : GE} (hj : dj G) (m0 m1 m2 m3 m4 m5 m6 m7 m8 m9 m10 m11 : Mem) (x2 : Int32) (x3 : Int32) (x4 : Int32) {r : Int32 × Mem} (hr : f_X1_countDrives m5 m7 x2 x3 x4 = some r) : Ctr G yX1_countDrives (mi_X1_countDrives 2) [.ref 7000, .ref 5000, .int x2, .int x3, .int x4] [m0, m1, m2, m3, m4, m5, m6, m7, m8, m9, m10, m11] ((e_X1_countDrives m0 m1 m2 m3 m4 m5 m6 m7 m8 m9 m10 m11) r).1 ((e_X1_countDrives m0 m1 m2 m3 m4 m5 m6 m7 m8 m9 m10 m11) r).2 := Ctr_of hj (by decide) rfl hr rfl (Nat.le_of_ble_eq_true rfl) (k_X1_countDrives m0 m1 m2 m3 m4 m5 m6 m7 m8 m9 m10 m11 x2 x3 x4)
