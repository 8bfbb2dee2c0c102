abbrev e_X4_keepIfBetter (m0 m1 m2 m3 m4 m5 m6 m7 m8 m9 m10 m11 : Mem) : Mem → Option Value × List Mem := fun r => (none, [m0, m1, m2, r, m4, m5, m6, m7, m8, m9, m10, m11])
theorem k_X4_keepIfBetter_L5 {G : GE} (m0 m1 m2 m3 m4 m5 m6 m7 m8 m9 m10 m11 : Mem) (x2 : Int32) (k : Int32 → Int32 → Mem → Option (Mem)) (hk : ∀ (u11 : Int32) (u12 : Int32) (w13 : Mem), K G (mi_X4_keepIfBetter 22) (e_X4_keepIfBetter m0 m1 m2 m3 m4 m5 m6 m7 m8 m9 m10 m11) 49 [(0, .ref 3000), (1, .ref 1000), (2, .int x2), (3, .int u11), (4, .int u12)] [] [m0, m1, m2, w13, m4, m5, m6, m7, m8, m9, m10, m11] (k u11 u12 w13)) : ∀ (t : Nat) (u11 : Int32) (u12 : Int32) (w13 : Mem), K G (mi_X4_keepIfBetter 22) (e_X4_keepIfBetter m0 m1 m2 m3 m4 m5 m6 m7 m8 m9 m10 m11) 5 [(0, .ref 3000), (1, .ref 1000), (2, .int x2), (3, .int u11), (4, .int u12)] [] [m0, m1, m2, w13, m4, m5, m6, m7, m8, m9, m10, m11] (f_X4_keepIfBetter_L5 k m1 t u11 u12 w13) := by
  intro t
  induction t with
  | zero => intro u11 u12 w13; exact K_none
  | succ t ih =>
    intro u11 u12 w13
    rw [f_X4_keepIfBetter_L5]
    refine K_iload 4 dX4_keepIfBetter_5 rfl ?_
    refine K_aload_n 1 dX4_keepIfBetter_7 rfl ?_
    refine K_get (v := .int (m1 0 7)) dX4_keepIfBetter_8 fl_X4_78 kl_1000 rfl rfl ?_
    refine K_icmp_ge 49 dX4_keepIfBetter_11 rfl (fun _ => ?_) (fun _ => ?_)
    · refine K_loc [0, 1, 2, 3, 4] (lv' := [(0, .ref 3000), (1, .ref 1000), (2, .int x2), (3, .int u11), (4, .int u12)]) rfl ?_
      exact hk u11 u12 w13
    · refine K_aload_n 0 dX4_keepIfBetter_14 rfl ?_
      refine K_get (v := .int (w13 0 7)) dX4_keepIfBetter_15 fl_X4_46 kl_3000 rfl rfl ?_
      refine K_iload 4 dX4_keepIfBetter_18 rfl ?_
      refine K_callS (E' := e_X7_hasBit [m0, m1, m2, w13, m4, m5, m6, m7, m8, m9, m10, m11]) (As := [.int (w13 0 7), .int u12]) (rest := []) dX4_keepIfBetter_20 ml_X4_52 (mf_X7_hasBit 1) ms_X7_hasBit (fun hj r hr => c_X7_hasBit hj [m0, m1, m2, w13, m4, m5, m6, m7, m8, m9, m10, m11] (w13 0 7) u12 hr) rfl rfl (Nat.le_of_ble_eq_true rfl) (Nat.le_of_ble_eq_true rfl) (fun r14 => ?_)
      show K G (mi_X4_keepIfBetter 22) (e_X4_keepIfBetter m0 m1 m2 m3 m4 m5 m6 m7 m8 m9 m10 m11) 23 [(0, .ref 3000), (1, .ref 1000), (2, .int x2), (3, .int u11), (4, .int u12)] [.int r14] [m0, m1, m2, w13, m4, m5, m6, m7, m8, m9, m10, m11] _
      refine K_if_eq 43 dX4_keepIfBetter_23 rfl (fun _ => ?_) (fun _ => ?_)
      · refine K_iinc 4 (w := u12 + 1) (lv' := [(4, .int (u12 + 1)), (0, .ref 3000), (1, .ref 1000), (2, .int x2), (3, .int u11)]) dX4_keepIfBetter_43 rfl rfl (by decide) rfl ?_
        refine K_goto 5 dX4_keepIfBetter_46 rfl ?_
        refine K_loc [1, 2, 3, 4, 0] (lv' := [(0, .ref 3000), (1, .ref 1000), (2, .int x2), (3, .int u11), (4, .int (u12 + 1))]) rfl ?_
        exact ih u11 (u12 + 1) w13
      · refine K_iload_n 3 dX4_keepIfBetter_26 rfl ?_
        refine K_aload_n 0 dX4_keepIfBetter_27 rfl ?_
        refine K_aload_n 1 dX4_keepIfBetter_28 rfl ?_
        refine K_iload 4 dX4_keepIfBetter_29 rfl ?_
        refine K_aload_n 0 dX4_keepIfBetter_31 rfl ?_
        refine K_get (v := .ref 3007) dX4_keepIfBetter_32 fl_X4_31 kl_3000 rfl rfl ?_
        refine K_iload 4 dX4_keepIfBetter_35 rfl ?_
        refine K_iald (f := w13 7) dX4_keepIfBetter_37 kl_3007 rfl ?_
        refine K_callV (E' := e_X4_minutesOf m0 m1 m2 w13 m4 m5 m6 m7 m8 m9 m10 m11) (b := 3000) (As := [.ref 1000, .int u12, .int (w13 7 u12.toNatClampNeg)]) (rest := [.int u11]) dX4_keepIfBetter_38 ml_X4_85 (mf_X4_minutesOf 21) mv_X4_minutesOf (fun hj r hr => c_X4_minutesOf hj m0 m1 m2 w13 m4 m5 m6 m7 m8 m9 m10 m11 u12 (w13 7 u12.toNatClampNeg) hr) (rcv_obj (q := (RX4, TX4, 12)) kl_3000 rfl) rfl rfl (Nat.le_of_ble_eq_true rfl) (Nat.le_of_ble_eq_true rfl) (fun r15 => ?_)
        show K G (mi_X4_keepIfBetter 22) (e_X4_keepIfBetter m0 m1 m2 m3 m4 m5 m6 m7 m8 m9 m10 m11) 41 [(0, .ref 3000), (1, .ref 1000), (2, .int x2), (3, .int u11), (4, .int u12)] [.int r15.1, .int u11] [m0, m1, m2, r15.2, m4, m5, m6, m7, m8, m9, m10, m11] _
        refine K_iadd dX4_keepIfBetter_41 ?_
        refine K_nmi (fun x16 => ?_)
        refine K_istore_n (lv' := [(3, .int x16), (0, .ref 3000), (1, .ref 1000), (2, .int x2), (4, .int u12)]) dX4_keepIfBetter_42 (by decide) rfl ?_
        refine K_iinc 4 (w := u12 + 1) (lv' := [(4, .int (u12 + 1)), (3, .int x16), (0, .ref 3000), (1, .ref 1000), (2, .int x2)]) dX4_keepIfBetter_43 rfl rfl (by decide) rfl ?_
        refine K_goto 5 dX4_keepIfBetter_46 rfl ?_
        refine K_loc [2, 3, 4, 1, 0] (lv' := [(0, .ref 3000), (1, .ref 1000), (2, .int x2), (3, .int x16), (4, .int (u12 + 1))]) rfl ?_
        exact ih x16 (u12 + 1) r15.2
theorem k_X4_keepIfBetter {G : GE} (m0 m1 m2 m3 m4 m5 m6 m7 m8 m9 m10 m11 : Mem) (x2 : Int32) : K G (mi_X4_keepIfBetter 22) (e_X4_keepIfBetter m0 m1 m2 m3 m4 m5 m6 m7 m8 m9 m10 m11) 0 [(0, .ref 3000), (1, .ref 1000), (2, .int x2)] [] [m0, m1, m2, m3, m4, m5, m6, m7, m8, m9, m10, m11] (f_X4_keepIfBetter m1 m3 x2) := by
  unfold f_X4_keepIfBetter
  refine K_iconst (v := 0) dX4_keepIfBetter_0 (by decide) ?_
  refine K_istore_n (lv' := [(3, .int 0), (0, .ref 3000), (1, .ref 1000), (2, .int x2)]) dX4_keepIfBetter_1 (by decide) rfl ?_
  refine K_iconst (v := 0) dX4_keepIfBetter_2 (by decide) ?_
  refine K_istore (lv' := [(4, .int 0), (3, .int 0), (0, .ref 3000), (1, .ref 1000), (2, .int x2)]) dX4_keepIfBetter_3 (by decide) rfl ?_
  refine K_loc [2, 3, 4, 1, 0] (lv' := [(0, .ref 3000), (1, .ref 1000), (2, .int x2), (3, .int 0), (4, .int 0)]) rfl ?_
  refine k_X4_keepIfBetter_L5  m0 m1 m2 m3 m4 m5 m6 m7 m8 m9 m10 m11 x2 _ (fun u17 u18 w19 => ?_) 100000 0 0 m3
  refine K_iload_n 2 dX4_keepIfBetter_49 rfl ?_
  refine K_bitc dX4_keepIfBetter_50 ml_X4_65 (Nat.le_of_ble_eq_true rfl) (Nat.le_of_ble_eq_true rfl) ?_
  refine K_nmi (fun x20 => ?_)
  refine K_istore (lv' := [(4, .int x20), (0, .ref 3000), (1, .ref 1000), (2, .int x2), (3, .int u17)]) dX4_keepIfBetter_53 (by decide) rfl ?_
  refine K_iload 0 dX4_keepIfBetter_55 rfl ?_
  refine K_aload_n 1 dX4_keepIfBetter_57 rfl ?_
  refine K_get (v := .int (w19 0 5)) dX4_keepIfBetter_58 fl_X4_28 kl_3000 rfl rfl ?_
  refine K_icmp_lt 81 dX4_keepIfBetter_61 rfl (fun _ => ?_) (fun _ => ?_)
  · refine K_aload_n 1 dX4_keepIfBetter_81 rfl ?_
    refine K_iload 0 dX4_keepIfBetter_82 rfl ?_
    refine K_put (Ms' := [m0, m1, m2, (up w19 0 5 x20), m4, m5, m6, m7, m8, m9, m10, m11]) dX4_keepIfBetter_84 fp_X4_28 kl_3000 rfl rfl rfl (Nat.le_of_ble_eq_true rfl) rfl ?_
    refine K_nmm (fun w => [m0, m1, m2, w, m4, m5, m6, m7, m8, m9, m10, m11]) rfl (fun w21 => ?_)
    refine K_aload_n 1 dX4_keepIfBetter_87 rfl ?_
    refine K_iload_n 4 dX4_keepIfBetter_88 rfl ?_
    refine K_put (Ms' := [m0, m1, m2, (up w21 0 4 u17), m4, m5, m6, m7, m8, m9, m10, m11]) dX4_keepIfBetter_89 fp_X4_25 kl_3000 rfl rfl rfl (Nat.le_of_ble_eq_true rfl) rfl ?_
    refine K_nmm (fun w => [m0, m1, m2, w, m4, m5, m6, m7, m8, m9, m10, m11]) rfl (fun w22 => ?_)
    refine K_aload_n 1 dX4_keepIfBetter_92 rfl ?_
    refine K_iload_n 3 dX4_keepIfBetter_93 rfl ?_
    refine K_put (Ms' := [m0, m1, m2, (up w22 0 3 x2), m4, m5, m6, m7, m8, m9, m10, m11]) dX4_keepIfBetter_94 fp_X4_22 kl_3000 rfl rfl rfl (Nat.le_of_ble_eq_true rfl) rfl ?_
    refine K_nmm (fun w => [m0, m1, m2, w, m4, m5, m6, m7, m8, m9, m10, m11]) rfl (fun w23 => ?_)
    refine K_aload_n 1 dX4_keepIfBetter_97 rfl ?_
    refine K_get (v := .ref 3007) dX4_keepIfBetter_98 fl_X4_31 kl_3000 rfl rfl ?_
    refine K_iconst (v := 0) dX4_keepIfBetter_101 (by decide) ?_
    refine K_aload_n 1 dX4_keepIfBetter_102 rfl ?_
    refine K_get (v := .ref 3002) dX4_keepIfBetter_103 fl_X4_15 kl_3000 rfl rfl ?_
    refine K_iconst (v := 0) dX4_keepIfBetter_106 (by decide) ?_
    refine K_iconst (v := 3) dX4_keepIfBetter_107 (by decide) ?_
    refine K_copy (Ms' := [m0, m1, m2, (upA w23 2 (va_cpy (w23 7) (w23 2) (0 : Int32).toNatClampNeg (0 : Int32).toNatClampNeg (3 : Int32).toNatClampNeg)), m4, m5, m6, m7, m8, m9, m10, m11]) dX4_keepIfBetter_108 mlk_X4_89 acp.1 acp.2.1 acp.2.2 (Nat.le_of_ble_eq_true rfl) (Nat.le_of_ble_eq_true rfl) kl_3007 kl_3002 (Nat.le_of_ble_eq_true rfl) rfl ?_
    refine K_nmm (fun w => [m0, m1, m2, w, m4, m5, m6, m7, m8, m9, m10, m11]) rfl (fun w24 => ?_)
    exact K_ret (rv := none) dX4_keepIfBetter_111 trivial rfl rfl
  · refine K_iload 0 dX4_keepIfBetter_64 rfl ?_
    refine K_aload_n 1 dX4_keepIfBetter_66 rfl ?_
    refine K_get (v := .int (w19 0 5)) dX4_keepIfBetter_67 fl_X4_28 kl_3000 rfl rfl ?_
    refine K_icmp_ne 111 dX4_keepIfBetter_70 rfl (fun _ => ?_) (fun _ => ?_)
    · exact K_ret (rv := none) dX4_keepIfBetter_111 trivial rfl rfl
    · refine K_iload_n 4 dX4_keepIfBetter_73 rfl ?_
      refine K_aload_n 1 dX4_keepIfBetter_74 rfl ?_
      refine K_get (v := .int (w19 0 4)) dX4_keepIfBetter_75 fl_X4_25 kl_3000 rfl rfl ?_
      refine K_icmp_ge 111 dX4_keepIfBetter_78 rfl (fun _ => ?_) (fun _ => ?_)
      · exact K_ret (rv := none) dX4_keepIfBetter_111 trivial rfl rfl
      · refine K_aload_n 1 dX4_keepIfBetter_81 rfl ?_
        refine K_iload 0 dX4_keepIfBetter_82 rfl ?_
        refine K_put (Ms' := [m0, m1, m2, (up w19 0 5 x20), m4, m5, m6, m7, m8, m9, m10, m11]) dX4_keepIfBetter_84 fp_X4_28 kl_3000 rfl rfl rfl (Nat.le_of_ble_eq_true rfl) rfl ?_
        refine K_nmm (fun w => [m0, m1, m2, w, m4, m5, m6, m7, m8, m9, m10, m11]) rfl (fun w25 => ?_)
        refine K_aload_n 1 dX4_keepIfBetter_87 rfl ?_
        refine K_iload_n 4 dX4_keepIfBetter_88 rfl ?_
        refine K_put (Ms' := [m0, m1, m2, (up w25 0 4 u17), m4, m5, m6, m7, m8, m9, m10, m11]) dX4_keepIfBetter_89 fp_X4_25 kl_3000 rfl rfl rfl (Nat.le_of_ble_eq_true rfl) rfl ?_
        refine K_nmm (fun w => [m0, m1, m2, w, m4, m5, m6, m7, m8, m9, m10, m11]) rfl (fun w26 => ?_)
        refine K_aload_n 1 dX4_keepIfBetter_92 rfl ?_
        refine K_iload_n 3 dX4_keepIfBetter_93 rfl ?_
        refine K_put (Ms' := [m0, m1, m2, (up w26 0 3 x2), m4, m5, m6, m7, m8, m9, m10, m11]) dX4_keepIfBetter_94 fp_X4_22 kl_3000 rfl rfl rfl (Nat.le_of_ble_eq_true rfl) rfl ?_
        refine K_nmm (fun w => [m0, m1, m2, w, m4, m5, m6, m7, m8, m9, m10, m11]) rfl (fun w27 => ?_)
        refine K_aload_n 1 dX4_keepIfBetter_97 rfl ?_
        refine K_get (v := .ref 3007) dX4_keepIfBetter_98 fl_X4_31 kl_3000 rfl rfl ?_
        refine K_iconst (v := 0) dX4_keepIfBetter_101 (by decide) ?_
        refine K_aload_n 1 dX4_keepIfBetter_102 rfl ?_
        refine K_get (v := .ref 3002) dX4_keepIfBetter_103 fl_X4_15 kl_3000 rfl rfl ?_
        refine K_iconst (v := 0) dX4_keepIfBetter_106 (by decide) ?_
        refine K_iconst (v := 3) dX4_keepIfBetter_107 (by decide) ?_
        refine K_copy (Ms' := [m0, m1, m2, (upA w27 2 (va_cpy (w27 7) (w27 2) (0 : Int32).toNatClampNeg (0 : Int32).toNatClampNeg (3 : Int32).toNatClampNeg)), m4, m5, m6, m7, m8, m9, m10, m11]) dX4_keepIfBetter_108 mlk_X4_89 acp.1 acp.2.1 acp.2.2 (Nat.le_of_ble_eq_true rfl) (Nat.le_of_ble_eq_true rfl) kl_3007 kl_3002 (Nat.le_of_ble_eq_true rfl) rfl ?_
        refine K_nmm (fun w => [m0, m1, m2, w, m4, m5, m6, m7, m8, m9, m10, m11]) rfl (fun w28 => ?_)
        exact K_ret (rv := none) dX4_keepIfBetter_111 trivial rfl rfl
theorem c_X4_keepIfBetter {G : GE} (hj : dj G) (m0 m1 m2 m3 m4 m5 m6 m7 m8 m9 m10 m11 : Mem) (x2 : Int32) {r : Mem} (hr : f_X4_keepIfBetter m1 m3 x2 = some r) : Ctr G yX4_keepIfBetter (mi_X4_keepIfBetter 22) [.ref 3000, .ref 1000, .int x2] [m0, m1, m2, m3, m4, m5, m6, m7, m8, m9, m10, m11] ((e_X4_keepIfBetter m0 m1 m2 m3 m4 m5 m6 m7 m8 m9 m10 m11) r).1 ((e_X4_keepIfBetter m0 m1 m2 m3 m4 m5 m6 m7 m8 m9 m10 m11) r).2 := Ctr_of hj (by decide) rfl hr rfl (Nat.le_of_ble_eq_true rfl) (k_X4_keepIfBetter m0 m1 m2 m3 m4 m5 m6 m7 m8 m9 m10 m11 x2)
abbrev e_X3_hasRoomFor_1 (m0 m1 m2 m3 m4 m5 m6 m7 m8 m9 m10 m11 : Mem) : Int32 → Option Value × List Mem := fun r => (some (.int r), [m0, m1, m2, m3, m4, m5, m6, m7, m8, m9, m10, m11])
theorem k_X3_hasRoomFor_1 {G : GE} (m0 m1 m2 m3 m4 m5 m6 m7 m8 m9 m10 m11 : Mem) (x1 : Int32) (x2 : Int32) (x3 : Int32) : K G (mi_X3_hasRoomFor 4) (e_X3_hasRoomFor_1 m0 m1 m2 m3 m4 m5 m6 m7 m8 m9 m10 m11) 0 [(0, .ref 1000), (1, .int x1), (2, .int x2), (3, .int x3)] [] [m0, m1, m2, m3, m4, m5, m6, m7, m8, m9, m10, m11] (f_X3_hasRoomFor m1 x1 x2 x3) := by
  unfold f_X3_hasRoomFor
  refine K_iload_n 2 dX3_hasRoomFor_0 rfl ?_
  refine K_iconst (v := 1) dX3_hasRoomFor_1 (by decide) ?_
  refine K_aload_n 0 dX3_hasRoomFor_2 rfl ?_
  refine K_get (v := .ref 1016) dX3_hasRoomFor_3 fl_X3_31 kl_1000 rfl rfl ?_
  refine K_iload_n 1 dX3_hasRoomFor_6 rfl ?_
  refine K_iald (f := m1 16) dX3_hasRoomFor_7 kl_1016 rfl ?_
  refine K_ishl dX3_hasRoomFor_8 ?_
  refine K_ior dX3_hasRoomFor_9 ?_
  refine K_nmi (fun x11 => ?_)
  refine K_istore (lv' := [(4, .int x11), (0, .ref 1000), (1, .int x1), (2, .int x2), (3, .int x3)]) dX3_hasRoomFor_10 (by decide) rfl ?_
  refine K_iload_n 3 dX3_hasRoomFor_12 rfl ?_
  refine K_bitc dX3_hasRoomFor_13 ml_X3_114 (Nat.le_of_ble_eq_true rfl) (Nat.le_of_ble_eq_true rfl) ?_
  refine K_aload_n 1 dX3_hasRoomFor_16 rfl ?_
  refine K_get (v := .ref 1017) dX3_hasRoomFor_17 fl_X3_34 kl_1000 rfl rfl ?_
  refine K_iload_n 2 dX3_hasRoomFor_20 rfl ?_
  refine K_iald (f := m1 17) dX3_hasRoomFor_21 kl_1017 rfl ?_
  refine K_icmp_ge 50 dX3_hasRoomFor_22 rfl (fun _ => ?_) (fun _ => ?_)
  · refine K_iconst (v := 0) dX3_hasRoomFor_50 (by decide) ?_
    exact K_ret (rv := some (.int 0)) dX3_hasRoomFor_51 rfl rfl rfl
  · refine K_aload_n 1 dX3_hasRoomFor_25 rfl ?_
    refine K_get (v := .ref 1015) dX3_hasRoomFor_26 fl_X3_28 kl_1000 rfl rfl ?_
    refine K_iload_n 4 dX3_hasRoomFor_29 rfl ?_
    refine K_iald (f := m1 15) dX3_hasRoomFor_30 kl_1015 rfl ?_
    refine K_iload 0 dX3_hasRoomFor_31 rfl ?_
    refine K_iand dX3_hasRoomFor_33 ?_
    refine K_if_ne 50 dX3_hasRoomFor_34 rfl (fun _ => ?_) (fun _ => ?_)
    · refine K_iconst (v := 0) dX3_hasRoomFor_50 (by decide) ?_
      exact K_ret (rv := some (.int 0)) dX3_hasRoomFor_51 rfl rfl rfl
    · refine K_aload_n 1 dX3_hasRoomFor_37 rfl ?_
      refine K_iload_n 2 dX3_hasRoomFor_38 rfl ?_
      refine K_iload_n 4 dX3_hasRoomFor_39 rfl ?_
      refine K_callV (E' := e_X3_reaches_1 m0 m1 m2 m3 m4 m5 m6 m7 m8 m9 m10 m11) (b := 1000) (As := [.int x1, .int x3]) (rest := []) dX3_hasRoomFor_40 ml_X3_111 (mf_X3_reaches 3) mv_X3_reaches (fun hj r hr => c_X3_reaches_1 hj m0 m1 m2 m3 m4 m5 m6 m7 m8 m9 m10 m11 x1 x3 hr) (rcv_obj (q := (RX3, TX3, 18)) kl_1000 rfl) rfl rfl (Nat.le_of_ble_eq_true rfl) (Nat.le_of_ble_eq_true rfl) (fun r12 => ?_)
      show K G (mi_X3_hasRoomFor 4) (e_X3_hasRoomFor_1 m0 m1 m2 m3 m4 m5 m6 m7 m8 m9 m10 m11) 43 [(4, .int x11), (0, .ref 1000), (1, .int x1), (2, .int x2), (3, .int x3)] [.int r12] [m0, m1, m2, m3, m4, m5, m6, m7, m8, m9, m10, m11] _
      refine K_if_eq 50 dX3_hasRoomFor_43 rfl (fun _ => ?_) (fun _ => ?_)
      · refine K_iconst (v := 0) dX3_hasRoomFor_50 (by decide) ?_
        exact K_ret (rv := some (.int 0)) dX3_hasRoomFor_51 rfl rfl rfl
      · refine K_iconst (v := 1) dX3_hasRoomFor_46 (by decide) ?_
        refine K_goto 51 dX3_hasRoomFor_47 rfl ?_
        exact K_ret (rv := some (.int 1)) dX3_hasRoomFor_51 rfl rfl rfl
theorem c_X3_hasRoomFor_1 {G : GE} (hj : dj G) (m0 m1 m2 m3 m4 m5 m6 m7 m8 m9 m10 m11 : Mem) (x1 : Int32) (x2 : Int32) (x3 : Int32) {r : Int32} (hr : f_X3_hasRoomFor m1 x1 x2 x3 = some r) : Ctr G yX3_hasRoomFor (mi_X3_hasRoomFor 4) [.ref 1000, .int x1, .int x2, .int x3] [m0, m1, m2, m3, m4, m5, m6, m7, m8, m9, m10, m11] ((e_X3_hasRoomFor_1 m0 m1 m2 m3 m4 m5 m6 m7 m8 m9 m10 m11) r).1 ((e_X3_hasRoomFor_1 m0 m1 m2 m3 m4 m5 m6 m7 m8 m9 m10 m11) r).2 := Ctr_of hj (by decide) rfl hr rfl (Nat.le_of_ble_eq_true rfl) (k_X3_hasRoomFor_1 m0 m1 m2 m3 m4 m5 m6 m7 m8 m9 m10 m11 x1 x2 x3)
abbrev e_X4_seat (m0 m1 m2 m3 m4 m5 m6 m7 m8 m9 m10 m11 : Mem) : Mem → Option Value × List Mem := fun r => (none, [m0, m1, m2, r, m4, m5, m6, m7, m8, m9, m10, m11])
theorem k_X4_seat_L55 {G : GE} (d : Nat) (fs : Mem → Mem → Int32 → Int32 → Option (Mem)) (hfs : dj G → ∀ (m0 m1 m2 m3 m4 m5 m6 m7 m8 m9 m10 m11 : Mem) (x2 : Int32) (x3 : Int32) (r : Mem), fs m1 m3 x2 x3 = some r → Ctr G yX4_seat (mi_X4_seat (d + 23)) [.ref 3000, .ref 1000, .int x2, .int x3] [m0, m1, m2, m3, m4, m5, m6, m7, m8, m9, m10, m11] ((e_X4_seat m0 m1 m2 m3 m4 m5 m6 m7 m8 m9 m10 m11) r).1 ((e_X4_seat m0 m1 m2 m3 m4 m5 m6 m7 m8 m9 m10 m11) r).2) (m0 m1 m2 m3 m4 m5 m6 m7 m8 m9 m10 m11 : Mem) (x2 : Int32) (x3 : Int32) (x11 : Int32) (k : Int32 → Mem → Option (Mem)) (hk : ∀ (u12 : Int32) (w13 : Mem), K G (mi_X4_seat (d + 24)) (e_X4_seat m0 m1 m2 m3 m4 m5 m6 m7 m8 m9 m10 m11) 134 [(0, .ref 3000), (1, .ref 1000), (2, .int x2), (3, .int x3), (4, .int x11), (5, .int u12)] [] [m0, m1, m2, w13, m4, m5, m6, m7, m8, m9, m10, m11] (k u12 w13)) : ∀ (t : Nat) (u12 : Int32) (w13 : Mem), K G (mi_X4_seat (d + 24)) (e_X4_seat m0 m1 m2 m3 m4 m5 m6 m7 m8 m9 m10 m11) 55 [(0, .ref 3000), (1, .ref 1000), (2, .int x2), (3, .int x3), (4, .int x11), (5, .int u12)] [] [m0, m1, m2, w13, m4, m5, m6, m7, m8, m9, m10, m11] (f_X4_seat_L55 fs k x2 x3 m1 x11 t u12 w13) := by
  intro t
  induction t with
  | zero => intro u12 w13; exact K_none
  | succ t ih =>
    intro u12 w13
    rw [f_X4_seat_L55]
    refine K_iload 5 dX4_seat_55 rfl ?_
    refine K_aload_n 1 dX4_seat_57 rfl ?_
    refine K_get (v := .int (m1 0 7)) dX4_seat_58 fl_X4_78 kl_1000 rfl rfl ?_
    refine K_icmp_ge 134 dX4_seat_61 rfl (fun _ => ?_) (fun _ => ?_)
    · refine K_loc [0, 1, 2, 3, 4, 5] (lv' := [(0, .ref 3000), (1, .ref 1000), (2, .int x2), (3, .int x3), (4, .int x11), (5, .int u12)]) rfl ?_
      exact hk u12 w13
    · refine K_aload_n 0 dX4_seat_64 rfl ?_
      refine K_get (v := .int (w13 0 7)) dX4_seat_65 fl_X4_46 kl_3000 rfl rfl ?_
      refine K_iload 5 dX4_seat_68 rfl ?_
      refine K_callS (E' := e_X7_hasBit [m0, m1, m2, w13, m4, m5, m6, m7, m8, m9, m10, m11]) (As := [.int (w13 0 7), .int u12]) (rest := []) dX4_seat_70 ml_X4_52 (mf_X7_hasBit 1) ms_X7_hasBit (fun hj r hr => c_X7_hasBit hj [m0, m1, m2, w13, m4, m5, m6, m7, m8, m9, m10, m11] (w13 0 7) u12 hr) rfl rfl (Nat.le_of_ble_eq_true rfl) (show 1 < d + 24 by omega) (fun r14 => ?_)
      show K G (mi_X4_seat (d + 24)) (e_X4_seat m0 m1 m2 m3 m4 m5 m6 m7 m8 m9 m10 m11) 73 [(0, .ref 3000), (1, .ref 1000), (2, .int x2), (3, .int x3), (4, .int x11), (5, .int u12)] [.int r14] [m0, m1, m2, w13, m4, m5, m6, m7, m8, m9, m10, m11] _
      refine K_if_eq 128 dX4_seat_73 rfl (fun _ => ?_) (fun _ => ?_)
      · refine K_iinc 5 (w := u12 + 1) (lv' := [(5, .int (u12 + 1)), (0, .ref 3000), (1, .ref 1000), (2, .int x2), (3, .int x3), (4, .int x11)]) dX4_seat_128 rfl rfl (Nat.le_of_ble_eq_true rfl) rfl ?_
        refine K_goto 55 dX4_seat_131 rfl ?_
        refine K_loc [1, 2, 3, 4, 5, 0] (lv' := [(0, .ref 3000), (1, .ref 1000), (2, .int x2), (3, .int x3), (4, .int x11), (5, .int (u12 + 1))]) rfl ?_
        exact ih (u12 + 1) w13
      · refine K_aload_n 1 dX4_seat_76 rfl ?_
        refine K_iload 5 dX4_seat_77 rfl ?_
        refine K_aload_n 0 dX4_seat_79 rfl ?_
        refine K_get (v := .ref 3007) dX4_seat_80 fl_X4_31 kl_3000 rfl rfl ?_
        refine K_iload 5 dX4_seat_83 rfl ?_
        refine K_iald (f := w13 7) dX4_seat_85 kl_3007 rfl ?_
        refine K_iload_n 2 dX4_seat_86 rfl ?_
        refine K_callV (E' := e_X3_hasRoomFor_1 m0 m1 m2 w13 m4 m5 m6 m7 m8 m9 m10 m11) (b := 1000) (As := [.int u12, .int (w13 7 u12.toNatClampNeg), .int x2]) (rest := []) dX4_seat_87 ml_X4_81 (mf_X3_hasRoomFor 4) mv_X3_hasRoomFor (fun hj r hr => c_X3_hasRoomFor_1 hj m0 m1 m2 w13 m4 m5 m6 m7 m8 m9 m10 m11 u12 (w13 7 u12.toNatClampNeg) x2 hr) (rcv_obj (q := (RX3, TX3, 18)) kl_1000 rfl) rfl rfl (Nat.le_of_ble_eq_true rfl) (show 4 < d + 24 by omega) (fun r15 => ?_)
        show K G (mi_X4_seat (d + 24)) (e_X4_seat m0 m1 m2 m3 m4 m5 m6 m7 m8 m9 m10 m11) 90 [(0, .ref 3000), (1, .ref 1000), (2, .int x2), (3, .int x3), (4, .int x11), (5, .int u12)] [.int r15] [m0, m1, m2, w13, m4, m5, m6, m7, m8, m9, m10, m11] _
        refine K_if_eq 128 dX4_seat_90 rfl (fun _ => ?_) (fun _ => ?_)
        · refine K_iinc 5 (w := u12 + 1) (lv' := [(5, .int (u12 + 1)), (0, .ref 3000), (1, .ref 1000), (2, .int x2), (3, .int x3), (4, .int x11)]) dX4_seat_128 rfl rfl (Nat.le_of_ble_eq_true rfl) rfl ?_
          refine K_goto 55 dX4_seat_131 rfl ?_
          refine K_loc [1, 2, 3, 4, 5, 0] (lv' := [(0, .ref 3000), (1, .ref 1000), (2, .int x2), (3, .int x3), (4, .int x11), (5, .int (u12 + 1))]) rfl ?_
          exact ih (u12 + 1) w13
        · refine K_aload_n 0 dX4_seat_93 rfl ?_
          refine K_get (v := .ref 3007) dX4_seat_94 fl_X4_31 kl_3000 rfl rfl ?_
          refine K_iload 5 dX4_seat_97 rfl ?_
          refine K_dup2 dX4_seat_99 rfl rfl ?_
          refine K_iald (f := w13 7) dX4_seat_100 kl_3007 rfl ?_
          refine K_iload 4 dX4_seat_101 rfl ?_
          refine K_ior dX4_seat_103 ?_
          refine K_iast (Ms' := [m0, m1, m2, (up w13 7 u12.toNatClampNeg ((w13 7 u12.toNatClampNeg) ||| x11)), m4, m5, m6, m7, m8, m9, m10, m11]) dX4_seat_104 kl_3007 (Nat.le_of_ble_eq_true rfl) rfl ?_
          refine K_nmm (fun w => [m0, m1, m2, w, m4, m5, m6, m7, m8, m9, m10, m11]) rfl (fun w16 => ?_)
          refine K_aload_n 0 dX4_seat_105 rfl ?_
          refine K_aload_n 1 dX4_seat_106 rfl ?_
          refine K_iload_n 2 dX4_seat_107 rfl ?_
          refine K_iconst (v := 1) dX4_seat_108 (by decide) ?_
          refine K_iadd dX4_seat_109 ?_
          refine K_iload_n 3 dX4_seat_110 rfl ?_
          refine K_callV (E' := e_X4_seat m0 m1 m2 w16 m4 m5 m6 m7 m8 m9 m10 m11) (b := 3000) (As := [.ref 1000, .int (x2 + 1), .int x3]) (rest := []) dX4_seat_111 ml_X4_61 (mf_X4_seat (d + 23)) mv_X4_seat (fun hj r hr => hfs hj m0 m1 m2 w16 m4 m5 m6 m7 m8 m9 m10 m11 (x2 + 1) x3 r hr) (rcv_obj (q := (RX4, TX4, 12)) kl_3000 rfl) rfl rfl (Nat.le_of_ble_eq_true rfl) (show (d + 23) < d + 24 by omega) (fun r17 => ?_)
          show K G (mi_X4_seat (d + 24)) (e_X4_seat m0 m1 m2 m3 m4 m5 m6 m7 m8 m9 m10 m11) 114 [(0, .ref 3000), (1, .ref 1000), (2, .int x2), (3, .int x3), (4, .int x11), (5, .int u12)] [] [m0, m1, m2, r17, m4, m5, m6, m7, m8, m9, m10, m11] _
          refine K_aload_n 0 dX4_seat_114 rfl ?_
          refine K_get (v := .ref 3007) dX4_seat_115 fl_X4_31 kl_3000 rfl rfl ?_
          refine K_iload 5 dX4_seat_118 rfl ?_
          refine K_dup2 dX4_seat_120 rfl rfl ?_
          refine K_iald (f := r17 7) dX4_seat_121 kl_3007 rfl ?_
          refine K_iload 4 dX4_seat_122 rfl ?_
          refine K_iconst (v := (-1)) dX4_seat_124 (by decide) ?_
          refine K_ixor dX4_seat_125 ?_
          refine K_iand dX4_seat_126 ?_
          refine K_iast (Ms' := [m0, m1, m2, (up r17 7 u12.toNatClampNeg ((r17 7 u12.toNatClampNeg) &&& (x11 ^^^ (-1)))), m4, m5, m6, m7, m8, m9, m10, m11]) dX4_seat_127 kl_3007 (Nat.le_of_ble_eq_true rfl) rfl ?_
          refine K_nmm (fun w => [m0, m1, m2, w, m4, m5, m6, m7, m8, m9, m10, m11]) rfl (fun w18 => ?_)
          refine K_iinc 5 (w := u12 + 1) (lv' := [(5, .int (u12 + 1)), (0, .ref 3000), (1, .ref 1000), (2, .int x2), (3, .int x3), (4, .int x11)]) dX4_seat_128 rfl rfl (Nat.le_of_ble_eq_true rfl) rfl ?_
          refine K_goto 55 dX4_seat_131 rfl ?_
          refine K_loc [1, 2, 3, 4, 5, 0] (lv' := [(0, .ref 3000), (1, .ref 1000), (2, .int x2), (3, .int x3), (4, .int x11), (5, .int (u12 + 1))]) rfl ?_
          exact ih (u12 + 1) w18
theorem k_X4_seat {G : GE} (d : Nat) (fs : Mem → Mem → Int32 → Int32 → Option (Mem)) (hfs : dj G → ∀ (m0 m1 m2 m3 m4 m5 m6 m7 m8 m9 m10 m11 : Mem) (x2 : Int32) (x3 : Int32) (r : Mem), fs m1 m3 x2 x3 = some r → Ctr G yX4_seat (mi_X4_seat (d + 23)) [.ref 3000, .ref 1000, .int x2, .int x3] [m0, m1, m2, m3, m4, m5, m6, m7, m8, m9, m10, m11] ((e_X4_seat m0 m1 m2 m3 m4 m5 m6 m7 m8 m9 m10 m11) r).1 ((e_X4_seat m0 m1 m2 m3 m4 m5 m6 m7 m8 m9 m10 m11) r).2) (m0 m1 m2 m3 m4 m5 m6 m7 m8 m9 m10 m11 : Mem) (x2 : Int32) (x3 : Int32) : K G (mi_X4_seat (d + 24)) (e_X4_seat m0 m1 m2 m3 m4 m5 m6 m7 m8 m9 m10 m11) 0 [(0, .ref 3000), (1, .ref 1000), (2, .int x2), (3, .int x3)] [] [m0, m1, m2, m3, m4, m5, m6, m7, m8, m9, m10, m11] (f_X4_seat_B fs m1 m3 x2 x3) := by
  unfold f_X4_seat_B
  refine K_iload_n 3 dX4_seat_0 rfl ?_
  refine K_bitc dX4_seat_1 ml_X4_65 (show 2 ≤ d + 24 by omega) (Nat.le_of_ble_eq_true rfl) ?_
  refine K_aload_n 0 dX4_seat_4 rfl ?_
  refine K_get (v := .int (m3 0 5)) dX4_seat_5 fl_X4_28 kl_3000 rfl rfl ?_
  refine K_icmp_le 12 dX4_seat_8 rfl (fun _ => ?_) (fun _ => ?_)
  · refine K_iload_n 2 dX4_seat_12 rfl ?_
    refine K_aload_n 1 dX4_seat_13 rfl ?_
    refine K_get (v := .int (m1 0 6)) dX4_seat_14 fl_X4_71 kl_1000 rfl rfl ?_
    refine K_icmp_lt 27 dX4_seat_17 rfl (fun _ => ?_) (fun _ => ?_)
    · refine K_iconst (v := 1) dX4_seat_27 (by decide) ?_
      refine K_iload_n 2 dX4_seat_28 rfl ?_
      refine K_ishl dX4_seat_29 ?_
      refine K_nmi (fun x11 => ?_)
      refine K_istore (lv' := [(4, .int x11), (0, .ref 3000), (1, .ref 1000), (2, .int x2), (3, .int x3)]) dX4_seat_30 (Nat.le_of_ble_eq_true rfl) rfl ?_
      refine K_aload_n 1 dX4_seat_32 rfl ?_
      refine K_get (v := .int (m3 0 8)) dX4_seat_33 fl_X4_49 kl_3000 rfl rfl ?_
      refine K_iload 0 dX4_seat_36 rfl ?_
      refine K_iand dX4_seat_38 ?_
      refine K_if_eq 52 dX4_seat_39 rfl (fun _ => ?_) (fun _ => ?_)
      · refine K_iconst (v := 0) dX4_seat_52 (by decide) ?_
        refine K_istore (lv' := [(5, .int 0), (4, .int x11), (0, .ref 3000), (1, .ref 1000), (2, .int x2), (3, .int x3)]) dX4_seat_53 (Nat.le_of_ble_eq_true rfl) rfl ?_
        refine K_loc [2, 3, 4, 5, 1, 0] (lv' := [(0, .ref 3000), (1, .ref 1000), (2, .int x2), (3, .int x3), (4, .int x11), (5, .int 0)]) rfl ?_
        refine k_X4_seat_L55 d fs hfs  m0 m1 m2 m3 m4 m5 m6 m7 m8 m9 m10 m11 x2 x3 x11 _ (fun u19 w20 => ?_) 100000 0 m3
        refine K_aload_n 0 dX4_seat_134 rfl ?_
        refine K_aload_n 1 dX4_seat_135 rfl ?_
        refine K_iload_n 2 dX4_seat_136 rfl ?_
        refine K_iconst (v := 1) dX4_seat_137 (by decide) ?_
        refine K_iadd dX4_seat_138 ?_
        refine K_iload_n 3 dX4_seat_139 rfl ?_
        refine K_iload 4 dX4_seat_140 rfl ?_
        refine K_ior dX4_seat_142 ?_
        refine K_callV (E' := e_X4_seat m0 m1 m2 w20 m4 m5 m6 m7 m8 m9 m10 m11) (b := 3000) (As := [.ref 1000, .int (x2 + 1), .int (x3 ||| x11)]) (rest := []) dX4_seat_143 ml_X4_61 (mf_X4_seat (d + 23)) mv_X4_seat (fun hj r hr => hfs hj m0 m1 m2 w20 m4 m5 m6 m7 m8 m9 m10 m11 (x2 + 1) (x3 ||| x11) r hr) (rcv_obj (q := (RX4, TX4, 12)) kl_3000 rfl) rfl rfl (Nat.le_of_ble_eq_true rfl) (show (d + 23) < d + 24 by omega) (fun r21 => ?_)
        show K G (mi_X4_seat (d + 24)) (e_X4_seat m0 m1 m2 m3 m4 m5 m6 m7 m8 m9 m10 m11) 146 [(0, .ref 3000), (1, .ref 1000), (2, .int x2), (3, .int x3), (4, .int x11), (5, .int u19)] [] [m0, m1, m2, r21, m4, m5, m6, m7, m8, m9, m10, m11] _
        exact K_ret (rv := none) dX4_seat_146 trivial rfl rfl
      · refine K_aload_n 1 dX4_seat_42 rfl ?_
        refine K_aload_n 2 dX4_seat_43 rfl ?_
        refine K_iload_n 3 dX4_seat_44 rfl ?_
        refine K_iconst (v := 1) dX4_seat_45 (by decide) ?_
        refine K_iadd dX4_seat_46 ?_
        refine K_iload_n 4 dX4_seat_47 rfl ?_
        refine K_callV (E' := e_X4_seat m0 m1 m2 m3 m4 m5 m6 m7 m8 m9 m10 m11) (b := 3000) (As := [.ref 1000, .int (x2 + 1), .int x3]) (rest := []) dX4_seat_48 ml_X4_61 (mf_X4_seat (d + 23)) mv_X4_seat (fun hj r hr => hfs hj m0 m1 m2 m3 m4 m5 m6 m7 m8 m9 m10 m11 (x2 + 1) x3 r hr) (rcv_obj (q := (RX4, TX4, 12)) kl_3000 rfl) rfl rfl (Nat.le_of_ble_eq_true rfl) (show (d + 23) < d + 24 by omega) (fun r22 => ?_)
        show K G (mi_X4_seat (d + 24)) (e_X4_seat m0 m1 m2 m3 m4 m5 m6 m7 m8 m9 m10 m11) 51 [(4, .int x11), (0, .ref 3000), (1, .ref 1000), (2, .int x2), (3, .int x3)] [] [m0, m1, m2, r22, m4, m5, m6, m7, m8, m9, m10, m11] _
        exact K_ret (rv := none) dX4_seat_51 trivial rfl rfl
    · refine K_aload_n 0 dX4_seat_20 rfl ?_
      refine K_aload_n 1 dX4_seat_21 rfl ?_
      refine K_iload_n 3 dX4_seat_22 rfl ?_
      refine K_callV (E' := e_X4_keepIfBetter m0 m1 m2 m3 m4 m5 m6 m7 m8 m9 m10 m11) (b := 3000) (As := [.ref 1000, .int x3]) (rest := []) dX4_seat_23 ml_X4_74 (mf_X4_keepIfBetter 22) mv_X4_keepIfBetter (fun hj r hr => c_X4_keepIfBetter hj m0 m1 m2 m3 m4 m5 m6 m7 m8 m9 m10 m11 x3 hr) (rcv_obj (q := (RX4, TX4, 12)) kl_3000 rfl) rfl rfl (Nat.le_of_ble_eq_true rfl) (show 22 < d + 24 by omega) (fun r23 => ?_)
      show K G (mi_X4_seat (d + 24)) (e_X4_seat m0 m1 m2 m3 m4 m5 m6 m7 m8 m9 m10 m11) 26 [(0, .ref 3000), (1, .ref 1000), (2, .int x2), (3, .int x3)] [] [m0, m1, m2, r23, m4, m5, m6, m7, m8, m9, m10, m11] _
      exact K_ret (rv := none) dX4_seat_26 trivial rfl rfl
  · exact K_ret (rv := none) dX4_seat_11 trivial rfl rfl
theorem c_X4_seat {G : GE} : ∀ (n : Nat) (_ : dj G) (m0 m1 m2 m3 m4 m5 m6 m7 m8 m9 m10 m11 : Mem) (x2 : Int32) (x3 : Int32) {r : Mem}, f_X4_seat n m1 m3 x2 x3 = some r → Ctr G yX4_seat (mi_X4_seat (n + 24)) [.ref 3000, .ref 1000, .int x2, .int x3] [m0, m1, m2, m3, m4, m5, m6, m7, m8, m9, m10, m11] ((e_X4_seat m0 m1 m2 m3 m4 m5 m6 m7 m8 m9 m10 m11) r).1 ((e_X4_seat m0 m1 m2 m3 m4 m5 m6 m7 m8 m9 m10 m11) r).2 := by
  intro n
  induction n with
  | zero => intro hj m0 m1 m2 m3 m4 m5 m6 m7 m8 m9 m10 m11 x2 x3 r hr; rw [f_X4_seat] at hr; cases hr
  | succ n ih =>
    intro hj m0 m1 m2 m3 m4 m5 m6 m7 m8 m9 m10 m11 x2 x3 r hr
    rw [f_X4_seat] at hr
    exact Ctr_of hj (by decide) rfl hr rfl (Nat.le_of_ble_eq_true rfl) (k_X4_seat (n + 1) (f_X4_seat n) (fun hj m0 m1 m2 m3 m4 m5 m6 m7 m8 m9 m10 m11 x2 x3 r hr => ih hj m0 m1 m2 m3 m4 m5 m6 m7 m8 m9 m10 m11 x2 x3 hr) m0 m1 m2 m3 m4 m5 m6 m7 m8 m9 m10 m11 x2 x3)
abbrev e_X4_plan (m0 m1 m2 m3 m4 m5 m6 m7 m8 m9 m10 m11 : Mem) : Mem → Option Value × List Mem := fun r => (none, [m0, m1, m2, r, m4, m5, m6, m7, m8, m9, m10, m11])
theorem k_X4_plan_L26 {G : GE} (m0 m1 m2 m3 m4 m5 m6 m7 m8 m9 m10 m11 : Mem) (k : Int32 → Mem → Option (Mem)) (hk : ∀ (u14 : Int32) (w15 : Mem), K G (mi_X4_plan 41) (e_X4_plan m0 m1 m2 m3 m4 m5 m6 m7 m8 m9 m10 m11) 65 [(0, .ref 3000), (1, .ref 1000), (3, .int u14)] [] [m0, m1, m2, w15, m4, m5, m6, m7, m8, m9, m10, m11] (k u14 w15)) : ∀ (t : Nat) (u14 : Int32) (w15 : Mem), K G (mi_X4_plan 41) (e_X4_plan m0 m1 m2 m3 m4 m5 m6 m7 m8 m9 m10 m11) 26 [(0, .ref 3000), (1, .ref 1000), (3, .int u14)] [] [m0, m1, m2, w15, m4, m5, m6, m7, m8, m9, m10, m11] (f_X4_plan_L26 k m1 t u14 w15) := by
  intro t
  induction t with
  | zero => intro u14 w15; exact K_none
  | succ t ih =>
    intro u14 w15
    rw [f_X4_plan_L26]
    refine K_iload_n 2 dX4_plan_26 rfl ?_
    refine K_iconst (v := 3) dX4_plan_27 (by decide) ?_
    refine K_icmp_ge 65 dX4_plan_28 rfl (fun _ => ?_) (fun _ => ?_)
    · refine K_loc [0, 1, 2] (lv' := [(0, .ref 3000), (1, .ref 1000), (3, .int u14)]) rfl ?_
      exact hk u14 w15
    · refine K_aload_n 0 dX4_plan_31 rfl ?_
      refine K_get (v := .int (w15 0 7)) dX4_plan_32 fl_X4_46 kl_3000 rfl rfl ?_
      refine K_iload_n 2 dX4_plan_35 rfl ?_
      refine K_callS (E' := e_X7_hasBit [m0, m1, m2, w15, m4, m5, m6, m7, m8, m9, m10, m11]) (As := [.int (w15 0 7), .int u14]) (rest := []) dX4_plan_36 ml_X4_52 (mf_X7_hasBit 1) ms_X7_hasBit (fun hj r hr => c_X7_hasBit hj [m0, m1, m2, w15, m4, m5, m6, m7, m8, m9, m10, m11] (w15 0 7) u14 hr) rfl rfl (Nat.le_of_ble_eq_true rfl) (Nat.le_of_ble_eq_true rfl) (fun r16 => ?_)
      show K G (mi_X4_plan 41) (e_X4_plan m0 m1 m2 m3 m4 m5 m6 m7 m8 m9 m10 m11) 39 [(0, .ref 3000), (1, .ref 1000), (3, .int u14)] [.int r16] [m0, m1, m2, w15, m4, m5, m6, m7, m8, m9, m10, m11] _
      refine K_if_eq 59 dX4_plan_39 rfl (fun _ => ?_) (fun _ => ?_)
      · refine K_iinc 2 (w := u14 + 1) (lv' := [(3, .int (u14 + 1)), (0, .ref 3000), (1, .ref 1000)]) dX4_plan_59 rfl rfl (by decide) rfl ?_
        refine K_goto 26 dX4_plan_62 rfl ?_
        refine K_loc [1, 2, 0] (lv' := [(0, .ref 3000), (1, .ref 1000), (3, .int (u14 + 1))]) rfl ?_
        exact ih (u14 + 1) w15
      · refine K_aload_n 0 dX4_plan_42 rfl ?_
        refine K_dup dX4_plan_43 rfl ?_
        refine K_get (v := .int (w15 0 8)) dX4_plan_44 fl_X4_49 kl_3000 rfl rfl ?_
        refine K_iconst (v := 1) dX4_plan_47 (by decide) ?_
        refine K_aload_n 1 dX4_plan_48 rfl ?_
        refine K_get (v := .ref 1016) dX4_plan_49 fl_X4_56 kl_1000 rfl rfl ?_
        refine K_iload_n 2 dX4_plan_52 rfl ?_
        refine K_iald (f := m1 16) dX4_plan_53 kl_1016 rfl ?_
        refine K_ishl dX4_plan_54 ?_
        refine K_ior dX4_plan_55 ?_
        refine K_put (Ms' := [m0, m1, m2, (up w15 0 8 ((w15 0 8) ||| (1 <<< ((m1 16 u14.toNatClampNeg) &&& 31)))), m4, m5, m6, m7, m8, m9, m10, m11]) dX4_plan_56 fp_X4_49 kl_3000 rfl rfl rfl (Nat.le_of_ble_eq_true rfl) rfl ?_
        refine K_nmm (fun w => [m0, m1, m2, w, m4, m5, m6, m7, m8, m9, m10, m11]) rfl (fun w17 => ?_)
        refine K_iinc 2 (w := u14 + 1) (lv' := [(3, .int (u14 + 1)), (0, .ref 3000), (1, .ref 1000)]) dX4_plan_59 rfl rfl (by decide) rfl ?_
        refine K_goto 26 dX4_plan_62 rfl ?_
        refine K_loc [1, 2, 0] (lv' := [(0, .ref 3000), (1, .ref 1000), (3, .int (u14 + 1))]) rfl ?_
        exact ih (u14 + 1) w17
theorem k_X4_plan {G : GE} (m0 m1 m2 m3 m4 m5 m6 m7 m8 m9 m10 m11 : Mem) (x2 : Int32) : K G (mi_X4_plan 41) (e_X4_plan m0 m1 m2 m3 m4 m5 m6 m7 m8 m9 m10 m11) 0 [(0, .ref 3000), (1, .ref 1000), (2, .int x2)] [] [m0, m1, m2, m3, m4, m5, m6, m7, m8, m9, m10, m11] (f_X4_plan m1 m3 x2) := by
  unfold f_X4_plan
  refine K_aload_n 0 dX4_plan_0 rfl ?_
  refine K_get (v := .int (m3 0 2)) dX4_plan_1 fl_X4_18 kl_3000 rfl rfl ?_
  refine K_iload_n 2 dX4_plan_4 rfl ?_
  refine K_icmp_ne 9 dX4_plan_5 rfl (fun _ => ?_) (fun _ => ?_)
  · refine K_aload_n 0 dX4_plan_9 rfl ?_
    refine K_iload_n 2 dX4_plan_10 rfl ?_
    refine K_put (Ms' := [m0, m1, m2, (up m3 0 2 x2), m4, m5, m6, m7, m8, m9, m10, m11]) dX4_plan_11 fp_X4_18 kl_3000 rfl rfl rfl (Nat.le_of_ble_eq_true rfl) rfl ?_
    refine K_nmm (fun w => [m0, m1, m2, w, m4, m5, m6, m7, m8, m9, m10, m11]) rfl (fun w11 => ?_)
    refine K_aload_n 0 dX4_plan_14 rfl ?_
    refine K_iload_n 2 dX4_plan_15 rfl ?_
    refine K_put (Ms' := [m0, m1, m2, (up w11 0 7 x2), m4, m5, m6, m7, m8, m9, m10, m11]) dX4_plan_16 fp_X4_46 kl_3000 rfl rfl rfl (Nat.le_of_ble_eq_true rfl) rfl ?_
    refine K_nmm (fun w => [m0, m1, m2, w, m4, m5, m6, m7, m8, m9, m10, m11]) rfl (fun w12 => ?_)
    refine K_aload_n 0 dX4_plan_19 rfl ?_
    refine K_iconst (v := 0) dX4_plan_20 (by decide) ?_
    refine K_put (Ms' := [m0, m1, m2, (up w12 0 8 0), m4, m5, m6, m7, m8, m9, m10, m11]) dX4_plan_21 fp_X4_49 kl_3000 rfl rfl rfl (Nat.le_of_ble_eq_true rfl) rfl ?_
    refine K_nmm (fun w => [m0, m1, m2, w, m4, m5, m6, m7, m8, m9, m10, m11]) rfl (fun w13 => ?_)
    refine K_iconst (v := 0) dX4_plan_24 (by decide) ?_
    refine K_istore_n (lv' := [(3, .int 0), (0, .ref 3000), (1, .ref 1000), (2, .int x2)]) dX4_plan_25 (by decide) rfl ?_
    refine K_loc [1, 2, 0] (lv' := [(0, .ref 3000), (1, .ref 1000), (3, .int 0)]) rfl ?_
    refine k_X4_plan_L26  m0 m1 m2 m3 m4 m5 m6 m7 m8 m9 m10 m11  _ (fun u18 w19 => ?_) 100000 0 w13
    refine K_aload_n 0 dX4_plan_65 rfl ?_
    refine K_bipush (v := 8) dX4_plan_66 (by decide) ?_
    refine K_put (Ms' := [m0, m1, m2, (up w19 0 5 8), m4, m5, m6, m7, m8, m9, m10, m11]) dX4_plan_68 fp_X4_28 kl_3000 rfl rfl rfl (Nat.le_of_ble_eq_true rfl) rfl ?_
    refine K_nmm (fun w => [m0, m1, m2, w, m4, m5, m6, m7, m8, m9, m10, m11]) rfl (fun w20 => ?_)
    refine K_aload_n 0 dX4_plan_71 rfl ?_
    refine K_aload_n 1 dX4_plan_72 rfl ?_
    refine K_iconst (v := 0) dX4_plan_73 (by decide) ?_
    refine K_iconst (v := 0) dX4_plan_74 (by decide) ?_
    refine K_callV (E' := e_X4_seat m0 m1 m2 w20 m4 m5 m6 m7 m8 m9 m10 m11) (b := 3000) (As := [.ref 1000, .int 0, .int 0]) (rest := []) dX4_plan_75 ml_X4_61 (mf_X4_seat 40) mv_X4_seat (fun hj r hr => c_X4_seat 16 hj m0 m1 m2 w20 m4 m5 m6 m7 m8 m9 m10 m11 (0 : Int32) (0 : Int32) hr) (rcv_obj (q := (RX4, TX4, 12)) kl_3000 rfl) rfl rfl (Nat.le_of_ble_eq_true rfl) (Nat.le_of_ble_eq_true rfl) (fun r21 => ?_)
    show K G (mi_X4_plan 41) (e_X4_plan m0 m1 m2 m3 m4 m5 m6 m7 m8 m9 m10 m11) 78 [(0, .ref 3000), (1, .ref 1000), (3, .int u18)] [] [m0, m1, m2, r21, m4, m5, m6, m7, m8, m9, m10, m11] _
    exact K_ret (rv := none) dX4_plan_78 trivial rfl rfl
  · exact K_ret (rv := none) dX4_plan_8 trivial rfl rfl
theorem c_X4_plan {G : GE} (hj : dj G) (m0 m1 m2 m3 m4 m5 m6 m7 m8 m9 m10 m11 : Mem) (x2 : Int32) {r : Mem} (hr : f_X4_plan m1 m3 x2 = some r) : Ctr G yX4_plan (mi_X4_plan 41) [.ref 3000, .ref 1000, .int x2] [m0, m1, m2, m3, m4, m5, m6, m7, m8, m9, m10, m11] ((e_X4_plan m0 m1 m2 m3 m4 m5 m6 m7 m8 m9 m10 m11) r).1 ((e_X4_plan m0 m1 m2 m3 m4 m5 m6 m7 m8 m9 m10 m11) r).2 := Ctr_of hj (by decide) rfl hr rfl (Nat.le_of_ble_eq_true rfl) (k_X4_plan m0 m1 m2 m3 m4 m5 m6 m7 m8 m9 m10 m11 x2)
abbrev e_X4_ridersOf (m0 m1 m2 m3 m4 m5 m6 m7 m8 m9 m10 m11 : Mem) : Int32 → Option Value × List Mem := fun r => (some (.int r), [m0, m1, m2, m3, m4, m5, m6, m7, m8, m9, m10, m11])
theorem k_X4_ridersOf {G : GE} (m0 m1 m2 m3 m4 m5 m6 m7 m8 m9 m10 m11 : Mem) (x1 : Int32) : K G (mi_X4_ridersOf 1) (e_X4_ridersOf m0 m1 m2 m3 m4 m5 m6 m7 m8 m9 m10 m11) 0 [(0, .ref 3000), (1, .int x1)] [] [m0, m1, m2, m3, m4, m5, m6, m7, m8, m9, m10, m11] (f_X4_ridersOf m3 x1) := by
  unfold f_X4_ridersOf
  refine K_aload_n 0 dX4_ridersOf_0 rfl ?_
  refine K_get (v := .ref 3002) dX4_ridersOf_1 fl_X4_15 kl_3000 rfl rfl ?_
  refine K_iload_n 1 dX4_ridersOf_4 rfl ?_
  refine K_iald (f := m3 2) dX4_ridersOf_5 kl_3002 rfl ?_
  exact K_ret (rv := some (.int (m3 2 x1.toNatClampNeg))) dX4_ridersOf_6 rfl rfl rfl
theorem c_X4_ridersOf {G : GE} (hj : dj G) (m0 m1 m2 m3 m4 m5 m6 m7 m8 m9 m10 m11 : Mem) (x1 : Int32) {r : Int32} (hr : f_X4_ridersOf m3 x1 = some r) : Ctr G yX4_ridersOf (mi_X4_ridersOf 1) [.ref 3000, .int x1] [m0, m1, m2, m3, m4, m5, m6, m7, m8, m9, m10, m11] ((e_X4_ridersOf m0 m1 m2 m3 m4 m5 m6 m7 m8 m9 m10 m11) r).1 ((e_X4_ridersOf m0 m1 m2 m3 m4 m5 m6 m7 m8 m9 m10 m11) r).2 := Ctr_of hj (by decide) rfl hr rfl (Nat.le_of_ble_eq_true rfl) (k_X4_ridersOf m0 m1 m2 m3 m4 m5 m6 m7 m8 m9 m10 m11 x1)
abbrev e_X7_home (m0 m1 m2 m3 m4 m5 m6 m7 m8 m9 m10 m11 : Mem) : (Int32 × Mem) → Option Value × List Mem := fun r => (some (.int r.1), [m0, m1, m2, r.2, m4, m5, m6, m7, m8, m9, m10, m11])
theorem k_X7_home {G : GE} (m0 m1 m2 m3 m4 m5 m6 m7 m8 m9 m10 m11 : Mem) (x1 : Int32) (x2 : Int32) (h7 : m11 0 7 = 1) : K G (mi_X7_home 42) (e_X7_home m0 m1 m2 m3 m4 m5 m6 m7 m8 m9 m10 m11) 0 [(0, .ref 11000), (1, .int x1), (2, .int x2)] [] [m0, m1, m2, m3, m4, m5, m6, m7, m8, m9, m10, m11] (f_X7_home m1 m3 x1 x2) := by
  unfold f_X7_home
  refine K_aload_n 0 dX7_home_0 rfl ?_
  refine K_get (v := .ref 1000) dX7_home_1 fl_X7_58 kl_11000 rfl (nd_ref h7) ?_
  refine K_get (v := .int (m1 0 0)) dX7_home_4 fl_X7_169 kl_1000 rfl rfl ?_
  refine K_if_ne 13 dX7_home_7 rfl (fun _ => ?_) (fun _ => ?_)
  · refine K_iload_n 1 dX7_home_13 rfl ?_
    refine K_callS (E' := e_X7_isMinute [m0, m1, m2, m3, m4, m5, m6, m7, m8, m9, m10, m11]) (As := [.int x1]) (rest := []) dX7_home_14 ml_X7_181 (mf_X7_isMinute 1) ms_X7_isMinute (fun hj r hr => c_X7_isMinute hj [m0, m1, m2, m3, m4, m5, m6, m7, m8, m9, m10, m11] x1 hr) rfl rfl (Nat.le_of_ble_eq_true rfl) (Nat.le_of_ble_eq_true rfl) (fun r11 => ?_)
    show K G (mi_X7_home 42) (e_X7_home m0 m1 m2 m3 m4 m5 m6 m7 m8 m9 m10 m11) 17 [(0, .ref 11000), (1, .int x1), (2, .int x2)] [.int r11] [m0, m1, m2, m3, m4, m5, m6, m7, m8, m9, m10, m11] _
    refine K_if_eq 42 dX7_home_17 rfl (fun _ => ?_) (fun _ => ?_)
    · refine K_ldc (v := (-1000001)) dX7_home_42 cst_X7_73 ?_
      exact K_ret (rv := some (.int (-1000001))) dX7_home_44 rfl rfl rfl
    · refine K_iload_n 2 dX7_home_20 rfl ?_
      refine K_if_lt 42 dX7_home_21 rfl (fun _ => ?_) (fun _ => ?_)
      · refine K_ldc (v := (-1000001)) dX7_home_42 cst_X7_73 ?_
        exact K_ret (rv := some (.int (-1000001))) dX7_home_44 rfl rfl rfl
      · refine K_iload_n 2 dX7_home_24 rfl ?_
        refine K_iconst (v := 2) dX7_home_25 (by decide) ?_
        refine K_icmp_le 45 dX7_home_26 rfl (fun _ => ?_) (fun _ => ?_)
        · refine K_aload_n 0 dX7_home_45 rfl ?_
          refine K_get (v := .ref 3000) dX7_home_46 fl_X7_40 kl_11000 rfl rfl ?_
          refine K_aload_n 0 dX7_home_49 rfl ?_
          refine K_get (v := .ref 1000) dX7_home_50 fl_X7_58 kl_11000 rfl (nd_ref h7) ?_
          refine K_aload_n 0 dX7_home_53 rfl ?_
          refine K_get (v := .ref 1000) dX7_home_54 fl_X7_58 kl_11000 rfl (nd_ref h7) ?_
          refine K_iload_n 1 dX7_home_57 rfl ?_
          refine K_callV (E' := e_X3_carsThatGo_1 m0 m1 m2 m3 m4 m5 m6 m7 m8 m9 m10 m11) (b := 1000) (As := [.int x1]) (rest := [.ref 1000, .ref 3000]) dX7_home_58 ml_X7_193 (mf_X3_carsThatGo 4) mv_X3_carsThatGo (fun hj r hr => c_X3_carsThatGo_1 hj m0 m1 m2 m3 m4 m5 m6 m7 m8 m9 m10 m11 x1 hr) (rcv_obj (q := (RX3, TX3, 18)) kl_1000 rfl) rfl rfl (Nat.le_of_ble_eq_true rfl) (Nat.le_of_ble_eq_true rfl) (fun r12 => ?_)
          show K G (mi_X7_home 42) (e_X7_home m0 m1 m2 m3 m4 m5 m6 m7 m8 m9 m10 m11) 61 [(0, .ref 11000), (1, .int x1), (2, .int x2)] [.int r12, .ref 1000, .ref 3000] [m0, m1, m2, m3, m4, m5, m6, m7, m8, m9, m10, m11] _
          refine K_callV (E' := e_X4_plan m0 m1 m2 m3 m4 m5 m6 m7 m8 m9 m10 m11) (b := 3000) (As := [.ref 1000, .int r12]) (rest := []) dX7_home_61 ml_X7_196 (mf_X4_plan 41) mv_X4_plan (fun hj r hr => c_X4_plan hj m0 m1 m2 m3 m4 m5 m6 m7 m8 m9 m10 m11 r12 hr) (rcv_obj (q := (RX4, TX4, 12)) kl_3000 rfl) rfl rfl (Nat.le_of_ble_eq_true rfl) (Nat.le_of_ble_eq_true rfl) (fun r13 => ?_)
          show K G (mi_X7_home 42) (e_X7_home m0 m1 m2 m3 m4 m5 m6 m7 m8 m9 m10 m11) 64 [(0, .ref 11000), (1, .int x1), (2, .int x2)] [] [m0, m1, m2, r13, m4, m5, m6, m7, m8, m9, m10, m11] _
          refine K_iload_n 2 dX7_home_64 rfl ?_
          refine K_ite (c := x2 = 0) (fun hs0 => ?_) (fun hs0 => ?_)
          · refine K_tabIn (off := 27) 92 dX7_home_65 (by rw [hs0]; decide) (by rw [hs0]; decide) (by rw [hs0]; rfl) rfl ?_
            refine K_aload_n 0 dX7_home_92 rfl ?_
            refine K_get (v := .ref 3000) dX7_home_93 fl_X7_40 kl_11000 rfl rfl ?_
            refine K_get (v := .int (r13 0 3)) dX7_home_96 fl_X7_200 kl_3000 rfl rfl ?_
            refine K_bitc dX7_home_99 ml_X7_203 (Nat.le_of_ble_eq_true rfl) (Nat.le_of_ble_eq_true rfl) ?_
            exact K_ret (rv := some (.int (bitc (r13 0 3)))) dX7_home_102 rfl rfl rfl
          refine K_ite (c := x2 = 1) (fun hs1 => ?_) (fun hs1 => ?_)
          · refine K_tabIn (off := 38) 103 dX7_home_65 (by rw [hs1]; decide) (by rw [hs1]; decide) (by rw [hs1]; rfl) rfl ?_
            refine K_aload_n 0 dX7_home_103 rfl ?_
            refine K_get (v := .ref 3000) dX7_home_104 fl_X7_40 kl_11000 rfl rfl ?_
            refine K_get (v := .int (r13 0 4)) dX7_home_107 fl_X7_208 kl_3000 rfl rfl ?_
            exact K_ret (rv := some (.int (r13 0 4))) dX7_home_110 rfl rfl rfl
          refine K_ite (c := x2 = 2) (fun hs2 => ?_) (fun hs2 => ?_)
          · refine K_tabIn (off := 46) 111 dX7_home_65 (by rw [hs2]; decide) (by rw [hs2]; decide) (by rw [hs2]; rfl) rfl ?_
            refine K_aload_n 0 dX7_home_111 rfl ?_
            refine K_get (v := .ref 3000) dX7_home_112 fl_X7_40 kl_11000 rfl rfl ?_
            refine K_get (v := .int (r13 0 3)) dX7_home_115 fl_X7_200 kl_3000 rfl rfl ?_
            exact K_ret (rv := some (.int (r13 0 3))) dX7_home_118 rfl rfl rfl
          refine K_tabOut 119 dX7_home_65 (by have ehs0 := lv_neT hs0 (a := 0) (by decide); have ehs1 := lv_neT hs1 (a := 1) (by decide); have ehs2 := lv_neT hs2 (a := 2) (by decide); omega) rfl ?_
          refine K_aload_n 0 dX7_home_119 rfl ?_
          refine K_get (v := .ref 3000) dX7_home_120 fl_X7_40 kl_11000 rfl rfl ?_
          refine K_iload_n 2 dX7_home_123 rfl ?_
          refine K_iconst (v := 3) dX7_home_124 (by decide) ?_
          refine K_isub dX7_home_125 ?_
          refine K_callV (E' := e_X4_ridersOf m0 m1 m2 r13 m4 m5 m6 m7 m8 m9 m10 m11) (b := 3000) (As := [.int (x2 - 3)]) (rest := []) dX7_home_126 ml_X7_211 (mf_X4_ridersOf 1) mv_X4_ridersOf (fun hj r hr => c_X4_ridersOf hj m0 m1 m2 r13 m4 m5 m6 m7 m8 m9 m10 m11 (x2 - 3) hr) (rcv_obj (q := (RX4, TX4, 12)) kl_3000 rfl) rfl rfl (Nat.le_of_ble_eq_true rfl) (Nat.le_of_ble_eq_true rfl) (fun r14 => ?_)
          show K G (mi_X7_home 42) (e_X7_home m0 m1 m2 m3 m4 m5 m6 m7 m8 m9 m10 m11) 129 [(0, .ref 11000), (1, .int x1), (2, .int x2)] [.int r14] [m0, m1, m2, r13, m4, m5, m6, m7, m8, m9, m10, m11] _
          exact K_ret (rv := some (.int r14)) dX7_home_129 rfl rfl rfl
        · refine K_aload_n 0 dX7_home_29 rfl ?_
          refine K_get (v := .ref 1000) dX7_home_30 fl_X7_58 kl_11000 rfl (nd_ref h7) ?_
          refine K_iload_n 2 dX7_home_33 rfl ?_
          refine K_iconst (v := 3) dX7_home_34 (by decide) ?_
          refine K_isub dX7_home_35 ?_
          refine K_callV (E' := e_X3_hasCar_1 m0 m1 m2 m3 m4 m5 m6 m7 m8 m9 m10 m11) (b := 1000) (As := [.int (x2 - 3)]) (rest := []) dX7_home_36 ml_X7_157 (mf_X3_hasCar 1) mv_X3_hasCar (fun hj r hr => c_X3_hasCar_1 hj m0 m1 m2 m3 m4 m5 m6 m7 m8 m9 m10 m11 (x2 - 3) hr) (rcv_obj (q := (RX3, TX3, 18)) kl_1000 rfl) rfl rfl (Nat.le_of_ble_eq_true rfl) (Nat.le_of_ble_eq_true rfl) (fun r15 => ?_)
          show K G (mi_X7_home 42) (e_X7_home m0 m1 m2 m3 m4 m5 m6 m7 m8 m9 m10 m11) 39 [(0, .ref 11000), (1, .int x1), (2, .int x2)] [.int r15] [m0, m1, m2, m3, m4, m5, m6, m7, m8, m9, m10, m11] _
          refine K_if_ne 45 dX7_home_39 rfl (fun _ => ?_) (fun _ => ?_)
          · refine K_aload_n 0 dX7_home_45 rfl ?_
            refine K_get (v := .ref 3000) dX7_home_46 fl_X7_40 kl_11000 rfl rfl ?_
            refine K_aload_n 0 dX7_home_49 rfl ?_
            refine K_get (v := .ref 1000) dX7_home_50 fl_X7_58 kl_11000 rfl (nd_ref h7) ?_
            refine K_aload_n 0 dX7_home_53 rfl ?_
            refine K_get (v := .ref 1000) dX7_home_54 fl_X7_58 kl_11000 rfl (nd_ref h7) ?_
            refine K_iload_n 1 dX7_home_57 rfl ?_
            refine K_callV (E' := e_X3_carsThatGo_1 m0 m1 m2 m3 m4 m5 m6 m7 m8 m9 m10 m11) (b := 1000) (As := [.int x1]) (rest := [.ref 1000, .ref 3000]) dX7_home_58 ml_X7_193 (mf_X3_carsThatGo 4) mv_X3_carsThatGo (fun hj r hr => c_X3_carsThatGo_1 hj m0 m1 m2 m3 m4 m5 m6 m7 m8 m9 m10 m11 x1 hr) (rcv_obj (q := (RX3, TX3, 18)) kl_1000 rfl) rfl rfl (Nat.le_of_ble_eq_true rfl) (Nat.le_of_ble_eq_true rfl) (fun r16 => ?_)
            show K G (mi_X7_home 42) (e_X7_home m0 m1 m2 m3 m4 m5 m6 m7 m8 m9 m10 m11) 61 [(0, .ref 11000), (1, .int x1), (2, .int x2)] [.int r16, .ref 1000, .ref 3000] [m0, m1, m2, m3, m4, m5, m6, m7, m8, m9, m10, m11] _
            refine K_callV (E' := e_X4_plan m0 m1 m2 m3 m4 m5 m6 m7 m8 m9 m10 m11) (b := 3000) (As := [.ref 1000, .int r16]) (rest := []) dX7_home_61 ml_X7_196 (mf_X4_plan 41) mv_X4_plan (fun hj r hr => c_X4_plan hj m0 m1 m2 m3 m4 m5 m6 m7 m8 m9 m10 m11 r16 hr) (rcv_obj (q := (RX4, TX4, 12)) kl_3000 rfl) rfl rfl (Nat.le_of_ble_eq_true rfl) (Nat.le_of_ble_eq_true rfl) (fun r17 => ?_)
            show K G (mi_X7_home 42) (e_X7_home m0 m1 m2 m3 m4 m5 m6 m7 m8 m9 m10 m11) 64 [(0, .ref 11000), (1, .int x1), (2, .int x2)] [] [m0, m1, m2, r17, m4, m5, m6, m7, m8, m9, m10, m11] _
            refine K_iload_n 2 dX7_home_64 rfl ?_
            refine K_ite (c := x2 = 0) (fun hs0 => ?_) (fun hs0 => ?_)
            · refine K_tabIn (off := 27) 92 dX7_home_65 (by rw [hs0]; decide) (by rw [hs0]; decide) (by rw [hs0]; rfl) rfl ?_
              refine K_aload_n 0 dX7_home_92 rfl ?_
              refine K_get (v := .ref 3000) dX7_home_93 fl_X7_40 kl_11000 rfl rfl ?_
              refine K_get (v := .int (r17 0 3)) dX7_home_96 fl_X7_200 kl_3000 rfl rfl ?_
              refine K_bitc dX7_home_99 ml_X7_203 (Nat.le_of_ble_eq_true rfl) (Nat.le_of_ble_eq_true rfl) ?_
              exact K_ret (rv := some (.int (bitc (r17 0 3)))) dX7_home_102 rfl rfl rfl
            refine K_ite (c := x2 = 1) (fun hs1 => ?_) (fun hs1 => ?_)
            · refine K_tabIn (off := 38) 103 dX7_home_65 (by rw [hs1]; decide) (by rw [hs1]; decide) (by rw [hs1]; rfl) rfl ?_
              refine K_aload_n 0 dX7_home_103 rfl ?_
              refine K_get (v := .ref 3000) dX7_home_104 fl_X7_40 kl_11000 rfl rfl ?_
              refine K_get (v := .int (r17 0 4)) dX7_home_107 fl_X7_208 kl_3000 rfl rfl ?_
              exact K_ret (rv := some (.int (r17 0 4))) dX7_home_110 rfl rfl rfl
            refine K_ite (c := x2 = 2) (fun hs2 => ?_) (fun hs2 => ?_)
            · refine K_tabIn (off := 46) 111 dX7_home_65 (by rw [hs2]; decide) (by rw [hs2]; decide) (by rw [hs2]; rfl) rfl ?_
              refine K_aload_n 0 dX7_home_111 rfl ?_
              refine K_get (v := .ref 3000) dX7_home_112 fl_X7_40 kl_11000 rfl rfl ?_
              refine K_get (v := .int (r17 0 3)) dX7_home_115 fl_X7_200 kl_3000 rfl rfl ?_
              exact K_ret (rv := some (.int (r17 0 3))) dX7_home_118 rfl rfl rfl
            refine K_tabOut 119 dX7_home_65 (by have ehs0 := lv_neT hs0 (a := 0) (by decide); have ehs1 := lv_neT hs1 (a := 1) (by decide); have ehs2 := lv_neT hs2 (a := 2) (by decide); omega) rfl ?_
            refine K_aload_n 0 dX7_home_119 rfl ?_
            refine K_get (v := .ref 3000) dX7_home_120 fl_X7_40 kl_11000 rfl rfl ?_
            refine K_iload_n 2 dX7_home_123 rfl ?_
            refine K_iconst (v := 3) dX7_home_124 (by decide) ?_
            refine K_isub dX7_home_125 ?_
            refine K_callV (E' := e_X4_ridersOf m0 m1 m2 r17 m4 m5 m6 m7 m8 m9 m10 m11) (b := 3000) (As := [.int (x2 - 3)]) (rest := []) dX7_home_126 ml_X7_211 (mf_X4_ridersOf 1) mv_X4_ridersOf (fun hj r hr => c_X4_ridersOf hj m0 m1 m2 r17 m4 m5 m6 m7 m8 m9 m10 m11 (x2 - 3) hr) (rcv_obj (q := (RX4, TX4, 12)) kl_3000 rfl) rfl rfl (Nat.le_of_ble_eq_true rfl) (Nat.le_of_ble_eq_true rfl) (fun r18 => ?_)
            show K G (mi_X7_home 42) (e_X7_home m0 m1 m2 m3 m4 m5 m6 m7 m8 m9 m10 m11) 129 [(0, .ref 11000), (1, .int x1), (2, .int x2)] [.int r18] [m0, m1, m2, r17, m4, m5, m6, m7, m8, m9, m10, m11] _
            exact K_ret (rv := some (.int r18)) dX7_home_129 rfl rfl rfl
          · refine K_ldc (v := (-1000001)) dX7_home_42 cst_X7_73 ?_
            exact K_ret (rv := some (.int (-1000001))) dX7_home_44 rfl rfl rfl
  · refine K_ldc (v := (-1000002)) dX7_home_10 cst_X7_143 ?_
    exact K_ret (rv := some (.int (-1000002))) dX7_home_12 rfl rfl rfl
theorem c_X7_home {G : GE} (hj : dj G) (m0 m1 m2 m3 m4 m5 m6 m7 m8 m9 m10 m11 : Mem) (x1 : Int32) (x2 : Int32) (h7 : m11 0 7 = 1) {r : Int32 × Mem} (hr : f_X7_home m1 m3 x1 x2 = some r) : Ctr G yX7_home (mi_X7_home 42) [.ref 11000, .int x1, .int x2] [m0, m1, m2, m3, m4, m5, m6, m7, m8, m9, m10, m11] ((e_X7_home m0 m1 m2 m3 m4 m5 m6 m7 m8 m9 m10 m11) r).1 ((e_X7_home m0 m1 m2 m3 m4 m5 m6 m7 m8 m9 m10 m11) r).2 := Ctr_of hj (by decide) rfl hr rfl (Nat.le_of_ble_eq_true rfl) (k_X7_home m0 m1 m2 m3 m4 m5 m6 m7 m8 m9 m10 m11 x1 x2 h7)
abbrev e_X4_setDownAs (m0 m1 m2 m3 m4 m5 m6 m7 m8 m9 m10 m11 : Mem) : (Int32 × Mem) → Option Value × List Mem := fun r => (some (.int r.1), [m0, m1, m2, r.2, m4, m5, m6, m7, m8, m9, m10, m11])
theorem k_X4_setDownAs {G : GE} (m0 m1 m2 m3 m4 m5 m6 m7 m8 m9 m10 m11 : Mem) (x2 : Int32) (x3 : Int32) (x4 : Int32) : K G (mi_X4_setDownAs 21) (e_X4_setDownAs m0 m1 m2 m3 m4 m5 m6 m7 m8 m9 m10 m11) 0 [(0, .ref 3000), (1, .ref 1000), (2, .int x2), (3, .int x3), (4, .int x4)] [] [m0, m1, m2, m3, m4, m5, m6, m7, m8, m9, m10, m11] (f_X4_setDownAs m1 m3 x2 x3 x4) := by
  unfold f_X4_setDownAs
  refine K_iload 4 dX4_setDownAs_0 rfl ?_
  refine K_if_lt 20 dX4_setDownAs_2 rfl (fun _ => ?_) (fun _ => ?_)
  · refine K_ldc (v := (-1000000)) dX4_setDownAs_20 cst_X4_106 ?_
    exact K_ret (rv := some (.int (-1000000))) dX4_setDownAs_22 rfl rfl rfl
  · refine K_iload 4 dX4_setDownAs_5 rfl ?_
    refine K_iload_n 3 dX4_setDownAs_7 rfl ?_
    refine K_bitc dX4_setDownAs_8 ml_X4_65 (Nat.le_of_ble_eq_true rfl) (Nat.le_of_ble_eq_true rfl) ?_
    refine K_icmp_ge 20 dX4_setDownAs_11 rfl (fun _ => ?_) (fun _ => ?_)
    · refine K_ldc (v := (-1000000)) dX4_setDownAs_20 cst_X4_106 ?_
      exact K_ret (rv := some (.int (-1000000))) dX4_setDownAs_22 rfl rfl rfl
    · refine K_iload 4 dX4_setDownAs_14 rfl ?_
      refine K_iconst (v := 4) dX4_setDownAs_16 (by decide) ?_
      refine K_icmp_lt 23 dX4_setDownAs_17 rfl (fun _ => ?_) (fun _ => ?_)
      · refine K_aload_n 0 dX4_setDownAs_23 rfl ?_
        refine K_ldc (v := 1000000) dX4_setDownAs_24 cst_X4_95 ?_
        refine K_put (Ms' := [m0, m1, m2, (up m3 0 11 1000000), m4, m5, m6, m7, m8, m9, m10, m11]) dX4_setDownAs_26 fp_X4_96 kl_3000 rfl rfl rfl (Nat.le_of_ble_eq_true rfl) rfl ?_
        refine K_nmm (fun w => [m0, m1, m2, w, m4, m5, m6, m7, m8, m9, m10, m11]) rfl (fun w11 => ?_)
        refine K_aload_n 0 dX4_setDownAs_29 rfl ?_
        refine K_aload_n 1 dX4_setDownAs_30 rfl ?_
        refine K_aload_n 1 dX4_setDownAs_31 rfl ?_
        refine K_iload_n 2 dX4_setDownAs_32 rfl ?_
        refine K_callV (E' := e_X3_siteOfOwner_1 m0 m1 m2 w11 m4 m5 m6 m7 m8 m9 m10 m11) (b := 1000) (As := [.int x2]) (rest := [.ref 1000, .ref 3000]) dX4_setDownAs_33 ml_X4_99 (mf_X3_siteOfOwner 1) mv_X3_siteOfOwner (fun hj r hr => c_X3_siteOfOwner_1 hj m0 m1 m2 w11 m4 m5 m6 m7 m8 m9 m10 m11 x2 hr) (rcv_obj (q := (RX3, TX3, 18)) kl_1000 rfl) rfl rfl (Nat.le_of_ble_eq_true rfl) (Nat.le_of_ble_eq_true rfl) (fun r12 => ?_)
        show K G (mi_X4_setDownAs 21) (e_X4_setDownAs m0 m1 m2 m3 m4 m5 m6 m7 m8 m9 m10 m11) 36 [(0, .ref 3000), (1, .ref 1000), (2, .int x2), (3, .int x3), (4, .int x4)] [.int r12, .ref 1000, .ref 3000] [m0, m1, m2, w11, m4, m5, m6, m7, m8, m9, m10, m11] _
        refine K_iload_n 3 dX4_setDownAs_36 rfl ?_
        refine K_iconst (v := 0) dX4_setDownAs_37 (by decide) ?_
        refine K_iconst (v := 0) dX4_setDownAs_38 (by decide) ?_
        refine K_iconst (v := 0) dX4_setDownAs_39 (by decide) ?_
        refine K_callV (E' := e_X4_walk m0 m1 m2 w11 m4 m5 m6 m7 m8 m9 m10 m11) (b := 3000) (As := [.ref 1000, .int r12, .int x3, .int 0, .int 0, .int 0]) (rest := []) dX4_setDownAs_40 ml_X4_102 (mf_X4_walk 20) mv_X4_walk (fun hj r hr => c_X4_walk 16 hj m0 m1 m2 w11 m4 m5 m6 m7 m8 m9 m10 m11 r12 x3 (0 : Int32) (0 : Int32) (0 : Int32) hr) (rcv_obj (q := (RX4, TX4, 12)) kl_3000 rfl) rfl rfl (Nat.le_of_ble_eq_true rfl) (Nat.le_of_ble_eq_true rfl) (fun r13 => ?_)
        show K G (mi_X4_setDownAs 21) (e_X4_setDownAs m0 m1 m2 m3 m4 m5 m6 m7 m8 m9 m10 m11) 43 [(0, .ref 3000), (1, .ref 1000), (2, .int x2), (3, .int x3), (4, .int x4)] [] [m0, m1, m2, r13, m4, m5, m6, m7, m8, m9, m10, m11] _
        refine K_aload_n 0 dX4_setDownAs_43 rfl ?_
        refine K_get (v := .ref 3011) dX4_setDownAs_44 fl_X4_37 kl_3000 rfl rfl ?_
        refine K_iload 4 dX4_setDownAs_47 rfl ?_
        refine K_iald (f := r13 11) dX4_setDownAs_49 kl_3011 rfl ?_
        exact K_ret (rv := some (.int (r13 11 x4.toNatClampNeg))) dX4_setDownAs_50 rfl rfl rfl
      · refine K_ldc (v := (-1000000)) dX4_setDownAs_20 cst_X4_106 ?_
        exact K_ret (rv := some (.int (-1000000))) dX4_setDownAs_22 rfl rfl rfl
theorem c_X4_setDownAs {G : GE} (hj : dj G) (m0 m1 m2 m3 m4 m5 m6 m7 m8 m9 m10 m11 : Mem) (x2 : Int32) (x3 : Int32) (x4 : Int32) {r : Int32 × Mem} (hr : f_X4_setDownAs m1 m3 x2 x3 x4 = some r) : Ctr G yX4_setDownAs (mi_X4_setDownAs 21) [.ref 3000, .ref 1000, .int x2, .int x3, .int x4] [m0, m1, m2, m3, m4, m5, m6, m7, m8, m9, m10, m11] ((e_X4_setDownAs m0 m1 m2 m3 m4 m5 m6 m7 m8 m9 m10 m11) r).1 ((e_X4_setDownAs m0 m1 m2 m3 m4 m5 m6 m7 m8 m9 m10 m11) r).2 := Ctr_of hj (by decide) rfl hr rfl (Nat.le_of_ble_eq_true rfl) (k_X4_setDownAs m0 m1 m2 m3 m4 m5 m6 m7 m8 m9 m10 m11 x2 x3 x4)
