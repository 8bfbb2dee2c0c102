abbrev e_X7_soon (m0 m1 m2 m3 m4 m5 m6 m7 m8 m9 m10 m11 : Mem) : Int32 → Option Value × List Mem := fun r => (some (.int r), [m0, m1, m2, m3, m4, m5, m6, m7, m8, m9, m10, m11])
theorem k_X7_soon_L16 {G : GE} (m0 m1 m2 m3 m4 m5 m6 m7 m8 m9 m10 m11 : Mem) (x1 : Int32) (k : Int32 → Option (Int32)) (h7 : m11 0 7 = 1) (hk : ∀ (u12 : Int32), K G (mi_X7_soon 3) (e_X7_soon m0 m1 m2 m3 m4 m5 m6 m7 m8 m9 m10 m11) 52 [(0, .ref 11000), (1, .int x1), (2, .int u12)] [] [m0, m1, m2, m3, m4, m5, m6, m7, m8, m9, m10, m11] (k u12)) : ∀ (t : Nat) (u12 : Int32), K G (mi_X7_soon 3) (e_X7_soon m0 m1 m2 m3 m4 m5 m6 m7 m8 m9 m10 m11) 16 [(0, .ref 11000), (1, .int x1), (2, .int u12)] [] [m0, m1, m2, m3, m4, m5, m6, m7, m8, m9, m10, m11] (f_X7_soon_L16 k x1 m1 t u12) := by
  intro t
  induction t with
  | zero => intro u12; exact K_none
  | succ t ih =>
    intro u12
    rw [f_X7_soon_L16]
    refine K_iload_n 2 dX7_soon_16 rfl ?_
    refine K_sipush (v := 600) dX7_soon_17 (by decide) ?_
    refine K_icmp_gt 52 dX7_soon_20 rfl (fun _ => ?_) (fun _ => ?_)
    · refine K_loc [0, 1, 2] (lv' := [(0, .ref 11000), (1, .int x1), (2, .int u12)]) rfl ?_
      exact hk u12
    · refine K_aload_n 0 dX7_soon_23 rfl ?_
      refine K_get (v := .ref 1000) dX7_soon_24 fl_X7_58 kl_11000 rfl (nd_ref h7) ?_
      refine K_iload_n 1 dX7_soon_27 rfl ?_
      refine K_aload_n 0 dX7_soon_28 rfl ?_
      refine K_get (v := .ref 1000) dX7_soon_29 fl_X7_58 kl_11000 rfl (nd_ref h7) ?_
      refine K_get (v := .ref 1014) dX7_soon_32 fl_X7_131 kl_1000 rfl rfl ?_
      refine K_iload_n 1 dX7_soon_35 rfl ?_
      refine K_iald (f := m1 14) dX7_soon_36 kl_1014 rfl ?_
      refine K_iload_n 2 dX7_soon_37 rfl ?_
      refine K_callV (E' := e_X3_mayDrive_1 m0 m1 m2 m3 m4 m5 m6 m7 m8 m9 m10 m11) (b := 1000) (As := [.int x1, .int (m1 14 x1.toNatClampNeg), .int u12]) (rest := []) dX7_soon_38 ml_X7_187 (mf_X3_mayDrive 2) mv_X3_mayDrive (fun hj r hr => c_X3_mayDrive_1 hj m0 m1 m2 m3 m4 m5 m6 m7 m8 m9 m10 m11 x1 (m1 14 x1.toNatClampNeg) u12 hr) (rcv_obj (q := (RX3, TX3, 18)) kl_1000 rfl) rfl rfl (Nat.le_of_ble_eq_true rfl) (Nat.le_of_ble_eq_true rfl) (fun r13 => ?_)
      show K G (mi_X7_soon 3) (e_X7_soon m0 m1 m2 m3 m4 m5 m6 m7 m8 m9 m10 m11) 41 [(0, .ref 11000), (1, .int x1), (2, .int u12)] [.int r13] [m0, m1, m2, m3, m4, m5, m6, m7, m8, m9, m10, m11] _
      refine K_if_eq 46 dX7_soon_41 rfl (fun _ => ?_) (fun _ => ?_)
      · refine K_iinc 2 (w := u12 + 60) (lv' := [(2, .int (u12 + 60)), (0, .ref 11000), (1, .int x1)]) dX7_soon_46 rfl rfl (by decide) rfl ?_
        refine K_goto 16 dX7_soon_49 rfl ?_
        refine K_loc [1, 2, 0] (lv' := [(0, .ref 11000), (1, .int x1), (2, .int (u12 + 60))]) rfl ?_
        exact ih (u12 + 60)
      · refine K_iload_n 2 dX7_soon_44 rfl ?_
        exact K_ret (rv := some (.int u12)) dX7_soon_45 rfl rfl rfl
theorem k_X7_soon {G : GE} (m0 m1 m2 m3 m4 m5 m6 m7 m8 m9 m10 m11 : Mem) (x1 : Int32) (h7 : m11 0 7 = 1) : K G (mi_X7_soon 3) (e_X7_soon m0 m1 m2 m3 m4 m5 m6 m7 m8 m9 m10 m11) 0 [(0, .ref 11000), (1, .int x1)] [] [m0, m1, m2, m3, m4, m5, m6, m7, m8, m9, m10, m11] (f_X7_soon m1 x1) := by
  unfold f_X7_soon
  refine K_aload_n 0 dX7_soon_0 rfl ?_
  refine K_get (v := .ref 1000) dX7_soon_1 fl_X7_58 kl_11000 rfl (nd_ref h7) ?_
  refine K_iload_n 1 dX7_soon_4 rfl ?_
  refine K_callV (E' := e_X3_hasPerson_1 m0 m1 m2 m3 m4 m5 m6 m7 m8 m9 m10 m11) (b := 1000) (As := [.int x1]) (rest := []) dX7_soon_5 ml_X7_128 (mf_X3_hasPerson 1) mv_X3_hasPerson (fun hj r hr => c_X3_hasPerson_1 hj m0 m1 m2 m3 m4 m5 m6 m7 m8 m9 m10 m11 x1 hr) (rcv_obj (q := (RX3, TX3, 18)) kl_1000 rfl) rfl rfl (Nat.le_of_ble_eq_true rfl) (Nat.le_of_ble_eq_true rfl) (fun r11 => ?_)
  show K G (mi_X7_soon 3) (e_X7_soon m0 m1 m2 m3 m4 m5 m6 m7 m8 m9 m10 m11) 8 [(0, .ref 11000), (1, .int x1)] [.int r11] [m0, m1, m2, m3, m4, m5, m6, m7, m8, m9, m10, m11] _
  refine K_if_ne 14 dX7_soon_8 rfl (fun _ => ?_) (fun _ => ?_)
  · refine K_iconst (v := 0) dX7_soon_14 (by decide) ?_
    refine K_istore_n (lv' := [(2, .int 0), (0, .ref 11000), (1, .int x1)]) dX7_soon_15 (by decide) rfl ?_
    refine K_loc [1, 2, 0] (lv' := [(0, .ref 11000), (1, .int x1), (2, .int 0)]) rfl ?_
    refine k_X7_soon_L16  m0 m1 m2 m3 m4 m5 m6 m7 m8 m9 m10 m11 x1 _ h7 (fun u14 => ?_) 100000 0
    refine K_ldc (v := (-1000000)) dX7_soon_52 cst_X7_180 ?_
    exact K_ret (rv := some (.int (-1000000))) dX7_soon_54 rfl rfl rfl
  · refine K_ldc (v := (-1000001)) dX7_soon_11 cst_X7_73 ?_
    exact K_ret (rv := some (.int (-1000001))) dX7_soon_13 rfl rfl rfl
theorem c_X7_soon {G : GE} (hj : dj G) (m0 m1 m2 m3 m4 m5 m6 m7 m8 m9 m10 m11 : Mem) (x1 : Int32) (h7 : m11 0 7 = 1) {r : Int32} (hr : f_X7_soon m1 x1 = some r) : Ctr G yX7_soon (mi_X7_soon 3) [.ref 11000, .int x1] [m0, m1, m2, m3, m4, m5, m6, m7, m8, m9, m10, m11] ((e_X7_soon m0 m1 m2 m3 m4 m5 m6 m7 m8 m9 m10 m11) r).1 ((e_X7_soon m0 m1 m2 m3 m4 m5 m6 m7 m8 m9 m10 m11) r).2 := Ctr_of hj (by decide) rfl hr rfl (Nat.le_of_ble_eq_true rfl) (k_X7_soon m0 m1 m2 m3 m4 m5 m6 m7 m8 m9 m10 m11 x1 h7)
abbrev e_X7_commonDivisor (Ms : List Mem) : Int32 → Option Value × List Mem := fun r => (some (.int r), Ms)
theorem k_X7_commonDivisor_L2 {G : GE} (Ms : List Mem) (x0 : Int32) (x1 : Int32) (k : Int32 → Option (Int32)) (hk : ∀ (u11 : Int32), K G (mi_X7_commonDivisor 1) (e_X7_commonDivisor Ms) 27 [(0, .int x0), (1, .int x1), (2, .int u11)] [] Ms (k u11)) : ∀ (t : Nat) (u11 : Int32), K G (mi_X7_commonDivisor 1) (e_X7_commonDivisor Ms) 2 [(0, .int x0), (1, .int x1), (2, .int u11)] [] Ms (f_X7_commonDivisor_L2 k x0 x1 t u11) := by
  intro t
  induction t with
  | zero => intro u11; exact K_none
  | succ t ih =>
    intro u11
    rw [f_X7_commonDivisor_L2]
    refine K_iload_n 2 dX7_commonDivisor_2 rfl ?_
    refine K_iconst (v := 1) dX7_commonDivisor_3 (by decide) ?_
    refine K_icmp_le 27 dX7_commonDivisor_4 rfl (fun _ => ?_) (fun _ => ?_)
    · refine K_loc [0, 1, 2] (lv' := [(0, .int x0), (1, .int x1), (2, .int u11)]) rfl ?_
      exact hk u11
    · refine K_iload_n 0 dX7_commonDivisor_7 rfl ?_
      refine K_iload_n 2 dX7_commonDivisor_8 rfl ?_
      refine K_irem dX7_commonDivisor_9 ?_
      refine K_if_ne 21 dX7_commonDivisor_10 rfl (fun _ => ?_) (fun _ => ?_)
      · refine K_iinc 2 (w := u11 + (-1)) (lv' := [(2, .int (u11 + (-1))), (0, .int x0), (1, .int x1)]) dX7_commonDivisor_21 rfl rfl (by decide) rfl ?_
        refine K_goto 2 dX7_commonDivisor_24 rfl ?_
        refine K_loc [1, 2, 0] (lv' := [(0, .int x0), (1, .int x1), (2, .int (u11 + (-1)))]) rfl ?_
        exact ih (u11 + (-1))
      · refine K_iload_n 1 dX7_commonDivisor_13 rfl ?_
        refine K_iload_n 2 dX7_commonDivisor_14 rfl ?_
        refine K_irem dX7_commonDivisor_15 ?_
        refine K_if_ne 21 dX7_commonDivisor_16 rfl (fun _ => ?_) (fun _ => ?_)
        · refine K_iinc 2 (w := u11 + (-1)) (lv' := [(2, .int (u11 + (-1))), (0, .int x0), (1, .int x1)]) dX7_commonDivisor_21 rfl rfl (by decide) rfl ?_
          refine K_goto 2 dX7_commonDivisor_24 rfl ?_
          refine K_loc [1, 2, 0] (lv' := [(0, .int x0), (1, .int x1), (2, .int (u11 + (-1)))]) rfl ?_
          exact ih (u11 + (-1))
        · refine K_iload_n 2 dX7_commonDivisor_19 rfl ?_
          exact K_ret (rv := some (.int u11)) dX7_commonDivisor_20 rfl rfl rfl
theorem k_X7_commonDivisor {G : GE} (Ms : List Mem) (x0 : Int32) (x1 : Int32) : K G (mi_X7_commonDivisor 1) (e_X7_commonDivisor Ms) 0 [(0, .int x0), (1, .int x1)] [] Ms (f_X7_commonDivisor x0 x1) := by
  unfold f_X7_commonDivisor
  refine K_iload_n 1 dX7_commonDivisor_0 rfl ?_
  refine K_istore_n (lv' := [(2, .int x1), (0, .int x0), (1, .int x1)]) dX7_commonDivisor_1 (by decide) rfl ?_
  refine K_loc [1, 2, 0] (lv' := [(0, .int x0), (1, .int x1), (2, .int x1)]) rfl ?_
  refine k_X7_commonDivisor_L2  Ms x0 x1 _ (fun u12 => ?_) 100000 x1
  refine K_iconst (v := 1) dX7_commonDivisor_27 (by decide) ?_
  exact K_ret (rv := some (.int 1)) dX7_commonDivisor_28 rfl rfl rfl
theorem c_X7_commonDivisor {G : GE} (hj : dj G) (Ms : List Mem) (x0 : Int32) (x1 : Int32) {r : Int32} (hr : f_X7_commonDivisor x0 x1 = some r) : Ctr G yX7_commonDivisor (mi_X7_commonDivisor 1) [.int x0, .int x1] Ms ((e_X7_commonDivisor Ms) r).1 ((e_X7_commonDivisor Ms) r).2 := Ctr_of hj (by decide) rfl hr rfl (Nat.le_of_ble_eq_true rfl) (k_X7_commonDivisor Ms x0 x1)
abbrev e_X7_odds (m0 m1 m2 m3 m4 m5 m6 m7 m8 m9 m10 m11 : Mem) : Int32 → Option Value × List Mem := fun r => (some (.int r), [m0, m1, m2, m3, m4, m5, m6, m7, m8, m9, m10, m11])
theorem k_X7_odds_L48 {G : GE} (m0 m1 m2 m3 m4 m5 m6 m7 m8 m9 m10 m11 : Mem) (x1 : Int32) (x2 : Int32) (x3 : Int32) (x4 : Int32) (k : Int32 → Int32 → Option (Int32)) (h7 : m11 0 7 = 1) (hk : ∀ (u13 : Int32) (u14 : Int32), K G (mi_X7_odds 3) (e_X7_odds m0 m1 m2 m3 m4 m5 m6 m7 m8 m9 m10 m11) 87 [(0, .ref 11000), (1, .int x1), (2, .int x2), (3, .int x3), (4, .int x4), (5, .int u13), (6, .int u14)] [] [m0, m1, m2, m3, m4, m5, m6, m7, m8, m9, m10, m11] (k u13 u14)) : ∀ (t : Nat) (u13 : Int32) (u14 : Int32), K G (mi_X7_odds 3) (e_X7_odds m0 m1 m2 m3 m4 m5 m6 m7 m8 m9 m10 m11) 48 [(0, .ref 11000), (1, .int x1), (2, .int x2), (3, .int x3), (4, .int x4), (5, .int u13), (6, .int u14)] [] [m0, m1, m2, m3, m4, m5, m6, m7, m8, m9, m10, m11] (f_X7_odds_L48 k x1 x2 x3 m1 t u13 u14) := by
  intro t
  induction t with
  | zero => intro u13 u14; exact K_none
  | succ t ih =>
    intro u13 u14
    rw [f_X7_odds_L48]
    refine K_iload 6 dX7_odds_48 rfl ?_
    refine K_iload_n 3 dX7_odds_50 rfl ?_
    refine K_icmp_gt 87 dX7_odds_51 rfl (fun _ => ?_) (fun _ => ?_)
    · refine K_loc [0, 1, 2, 3, 4, 5, 6] (lv' := [(0, .ref 11000), (1, .int x1), (2, .int x2), (3, .int x3), (4, .int x4), (5, .int u13), (6, .int u14)]) rfl ?_
      exact hk u13 u14
    · refine K_aload_n 0 dX7_odds_54 rfl ?_
      refine K_get (v := .ref 1000) dX7_odds_55 fl_X7_58 kl_11000 rfl (nd_ref h7) ?_
      refine K_iload_n 1 dX7_odds_58 rfl ?_
      refine K_aload_n 0 dX7_odds_59 rfl ?_
      refine K_get (v := .ref 1000) dX7_odds_60 fl_X7_58 kl_11000 rfl (nd_ref h7) ?_
      refine K_get (v := .ref 1014) dX7_odds_63 fl_X7_131 kl_1000 rfl rfl ?_
      refine K_iload_n 1 dX7_odds_66 rfl ?_
      refine K_iald (f := m1 14) dX7_odds_67 kl_1014 rfl ?_
      refine K_iload 6 dX7_odds_68 rfl ?_
      refine K_iadd dX7_odds_70 ?_
      refine K_iload_n 2 dX7_odds_71 rfl ?_
      refine K_callV (E' := e_X3_mayDrive_1 m0 m1 m2 m3 m4 m5 m6 m7 m8 m9 m10 m11) (b := 1000) (As := [.int x1, .int ((m1 14 x1.toNatClampNeg) + u14), .int x2]) (rest := []) dX7_odds_72 ml_X7_187 (mf_X3_mayDrive 2) mv_X3_mayDrive (fun hj r hr => c_X3_mayDrive_1 hj m0 m1 m2 m3 m4 m5 m6 m7 m8 m9 m10 m11 x1 ((m1 14 x1.toNatClampNeg) + u14) x2 hr) (rcv_obj (q := (RX3, TX3, 18)) kl_1000 rfl) rfl rfl (Nat.le_of_ble_eq_true rfl) (Nat.le_of_ble_eq_true rfl) (fun r15 => ?_)
      show K G (mi_X7_odds 3) (e_X7_odds m0 m1 m2 m3 m4 m5 m6 m7 m8 m9 m10 m11) 75 [(0, .ref 11000), (1, .int x1), (2, .int x2), (3, .int x3), (4, .int x4), (5, .int u13), (6, .int u14)] [.int r15] [m0, m1, m2, m3, m4, m5, m6, m7, m8, m9, m10, m11] _
      refine K_if_eq 81 dX7_odds_75 rfl (fun _ => ?_) (fun _ => ?_)
      · refine K_iinc 6 (w := u14 + 1) (lv' := [(6, .int (u14 + 1)), (0, .ref 11000), (1, .int x1), (2, .int x2), (3, .int x3), (4, .int x4), (5, .int u13)]) dX7_odds_81 rfl rfl (by decide) rfl ?_
        refine K_goto 48 dX7_odds_84 rfl ?_
        refine K_loc [1, 2, 3, 4, 5, 6, 0] (lv' := [(0, .ref 11000), (1, .int x1), (2, .int x2), (3, .int x3), (4, .int x4), (5, .int u13), (6, .int (u14 + 1))]) rfl ?_
        exact ih u13 (u14 + 1)
      · refine K_iinc 5 (w := u13 + 1) (lv' := [(5, .int (u13 + 1)), (0, .ref 11000), (1, .int x1), (2, .int x2), (3, .int x3), (4, .int x4), (6, .int u14)]) dX7_odds_78 rfl rfl (by decide) rfl ?_
        refine K_iinc 6 (w := u14 + 1) (lv' := [(6, .int (u14 + 1)), (5, .int (u13 + 1)), (0, .ref 11000), (1, .int x1), (2, .int x2), (3, .int x3), (4, .int x4)]) dX7_odds_81 rfl rfl (by decide) rfl ?_
        refine K_goto 48 dX7_odds_84 rfl ?_
        refine K_loc [2, 3, 4, 5, 6, 1, 0] (lv' := [(0, .ref 11000), (1, .int x1), (2, .int x2), (3, .int x3), (4, .int x4), (5, .int (u13 + 1)), (6, .int (u14 + 1))]) rfl ?_
        exact ih (u13 + 1) (u14 + 1)
theorem k_X7_odds {G : GE} (m0 m1 m2 m3 m4 m5 m6 m7 m8 m9 m10 m11 : Mem) (x1 : Int32) (x2 : Int32) (x3 : Int32) (x4 : Int32) (h7 : m11 0 7 = 1) : K G (mi_X7_odds 3) (e_X7_odds m0 m1 m2 m3 m4 m5 m6 m7 m8 m9 m10 m11) 0 [(0, .ref 11000), (1, .int x1), (2, .int x2), (3, .int x3), (4, .int x4)] [] [m0, m1, m2, m3, m4, m5, m6, m7, m8, m9, m10, m11] (f_X7_odds m1 x1 x2 x3 x4) := by
  unfold f_X7_odds
  refine K_aload_n 0 dX7_odds_0 rfl ?_
  refine K_get (v := .ref 1000) dX7_odds_1 fl_X7_58 kl_11000 rfl (nd_ref h7) ?_
  refine K_iload_n 1 dX7_odds_4 rfl ?_
  refine K_callV (E' := e_X3_hasPerson_1 m0 m1 m2 m3 m4 m5 m6 m7 m8 m9 m10 m11) (b := 1000) (As := [.int x1]) (rest := []) dX7_odds_5 ml_X7_128 (mf_X3_hasPerson 1) mv_X3_hasPerson (fun hj r hr => c_X3_hasPerson_1 hj m0 m1 m2 m3 m4 m5 m6 m7 m8 m9 m10 m11 x1 hr) (rcv_obj (q := (RX3, TX3, 18)) kl_1000 rfl) rfl rfl (Nat.le_of_ble_eq_true rfl) (Nat.le_of_ble_eq_true rfl) (fun r11 => ?_)
  show K G (mi_X7_odds 3) (e_X7_odds m0 m1 m2 m3 m4 m5 m6 m7 m8 m9 m10 m11) 8 [(0, .ref 11000), (1, .int x1), (2, .int x2), (3, .int x3), (4, .int x4)] [.int r11] [m0, m1, m2, m3, m4, m5, m6, m7, m8, m9, m10, m11] _
  refine K_if_eq 39 dX7_odds_8 rfl (fun _ => ?_) (fun _ => ?_)
  · refine K_ldc (v := (-1000001)) dX7_odds_39 cst_X7_73 ?_
    exact K_ret (rv := some (.int (-1000001))) dX7_odds_41 rfl rfl rfl
  · refine K_iload_n 2 dX7_odds_11 rfl ?_
    refine K_callS (E' := e_X7_isMinute [m0, m1, m2, m3, m4, m5, m6, m7, m8, m9, m10, m11]) (As := [.int x2]) (rest := []) dX7_odds_12 ml_X7_181 (mf_X7_isMinute 1) ms_X7_isMinute (fun hj r hr => c_X7_isMinute hj [m0, m1, m2, m3, m4, m5, m6, m7, m8, m9, m10, m11] x2 hr) rfl rfl (Nat.le_of_ble_eq_true rfl) (Nat.le_of_ble_eq_true rfl) (fun r12 => ?_)
    show K G (mi_X7_odds 3) (e_X7_odds m0 m1 m2 m3 m4 m5 m6 m7 m8 m9 m10 m11) 15 [(0, .ref 11000), (1, .int x1), (2, .int x2), (3, .int x3), (4, .int x4)] [.int r12] [m0, m1, m2, m3, m4, m5, m6, m7, m8, m9, m10, m11] _
    refine K_if_eq 39 dX7_odds_15 rfl (fun _ => ?_) (fun _ => ?_)
    · refine K_ldc (v := (-1000001)) dX7_odds_39 cst_X7_73 ?_
      exact K_ret (rv := some (.int (-1000001))) dX7_odds_41 rfl rfl rfl
    · refine K_iload_n 3 dX7_odds_18 rfl ?_
      refine K_if_lt 39 dX7_odds_19 rfl (fun _ => ?_) (fun _ => ?_)
      · refine K_ldc (v := (-1000001)) dX7_odds_39 cst_X7_73 ?_
        exact K_ret (rv := some (.int (-1000001))) dX7_odds_41 rfl rfl rfl
      · refine K_iload_n 3 dX7_odds_22 rfl ?_
        refine K_bipush (v := 9) dX7_odds_23 (by decide) ?_
        refine K_icmp_gt 39 dX7_odds_25 rfl (fun _ => ?_) (fun _ => ?_)
        · refine K_ldc (v := (-1000001)) dX7_odds_39 cst_X7_73 ?_
          exact K_ret (rv := some (.int (-1000001))) dX7_odds_41 rfl rfl rfl
        · refine K_iload 4 dX7_odds_28 rfl ?_
          refine K_if_lt 39 dX7_odds_30 rfl (fun _ => ?_) (fun _ => ?_)
          · refine K_ldc (v := (-1000001)) dX7_odds_39 cst_X7_73 ?_
            exact K_ret (rv := some (.int (-1000001))) dX7_odds_41 rfl rfl rfl
          · refine K_iload 4 dX7_odds_33 rfl ?_
            refine K_iconst (v := 1) dX7_odds_35 (by decide) ?_
            refine K_icmp_le 42 dX7_odds_36 rfl (fun _ => ?_) (fun _ => ?_)
            · refine K_iconst (v := 0) dX7_odds_42 (by decide) ?_
              refine K_istore (lv' := [(5, .int 0), (0, .ref 11000), (1, .int x1), (2, .int x2), (3, .int x3), (4, .int x4)]) dX7_odds_43 (by decide) rfl ?_
              refine K_iconst (v := 0) dX7_odds_45 (by decide) ?_
              refine K_istore (lv' := [(6, .int 0), (5, .int 0), (0, .ref 11000), (1, .int x1), (2, .int x2), (3, .int x3), (4, .int x4)]) dX7_odds_46 (by decide) rfl ?_
              refine K_loc [2, 3, 4, 5, 6, 1, 0] (lv' := [(0, .ref 11000), (1, .int x1), (2, .int x2), (3, .int x3), (4, .int x4), (5, .int 0), (6, .int 0)]) rfl ?_
              refine k_X7_odds_L48  m0 m1 m2 m3 m4 m5 m6 m7 m8 m9 m10 m11 x1 x2 x3 x4 _ h7 (fun u16 u17 => ?_) 100000 0 0
              refine K_iload 5 dX7_odds_87 rfl ?_
              refine K_iload_n 3 dX7_odds_89 rfl ?_
              refine K_iconst (v := 1) dX7_odds_90 (by decide) ?_
              refine K_iadd dX7_odds_91 ?_
              refine K_callS (E' := e_X7_commonDivisor [m0, m1, m2, m3, m4, m5, m6, m7, m8, m9, m10, m11]) (As := [.int u16, .int (x3 + 1)]) (rest := []) dX7_odds_92 ml_X7_190 (mf_X7_commonDivisor 1) ms_X7_commonDivisor (fun hj r hr => c_X7_commonDivisor hj [m0, m1, m2, m3, m4, m5, m6, m7, m8, m9, m10, m11] u16 (x3 + 1) hr) rfl rfl (Nat.le_of_ble_eq_true rfl) (Nat.le_of_ble_eq_true rfl) (fun r18 => ?_)
              show K G (mi_X7_odds 3) (e_X7_odds m0 m1 m2 m3 m4 m5 m6 m7 m8 m9 m10 m11) 95 [(0, .ref 11000), (1, .int x1), (2, .int x2), (3, .int x3), (4, .int x4), (5, .int u16), (6, .int u17)] [.int r18] [m0, m1, m2, m3, m4, m5, m6, m7, m8, m9, m10, m11] _
              refine K_istore (lv' := [(6, .int r18), (0, .ref 11000), (1, .int x1), (2, .int x2), (3, .int x3), (4, .int x4), (5, .int u16)]) dX7_odds_95 (by decide) rfl ?_
              refine K_iload 5 dX7_odds_97 rfl ?_
              refine K_if_ne 110 dX7_odds_99 rfl (fun _ => ?_) (fun _ => ?_)
              · refine K_iload_n 4 dX7_odds_110 rfl ?_
                refine K_iconst (v := 1) dX7_odds_111 (by decide) ?_
                refine K_iadd dX7_odds_112 ?_
                refine K_iload 0 dX7_odds_113 rfl ?_
                refine K_idiv dX7_odds_115 ?_
                exact K_ret (rv := some (.int ((x3 + 1) / r18))) dX7_odds_116 rfl rfl rfl
              · refine K_iload 6 dX7_odds_102 rfl ?_
                refine K_iload 0 dX7_odds_104 rfl ?_
                refine K_idiv dX7_odds_106 ?_
                refine K_goto 116 dX7_odds_107 rfl ?_
                exact K_ret (rv := some (.int (u16 / r18))) dX7_odds_116 rfl rfl rfl
            · refine K_ldc (v := (-1000001)) dX7_odds_39 cst_X7_73 ?_
              exact K_ret (rv := some (.int (-1000001))) dX7_odds_41 rfl rfl rfl
theorem c_X7_odds {G : GE} (hj : dj G) (m0 m1 m2 m3 m4 m5 m6 m7 m8 m9 m10 m11 : Mem) (x1 : Int32) (x2 : Int32) (x3 : Int32) (x4 : Int32) (h7 : m11 0 7 = 1) {r : Int32} (hr : f_X7_odds m1 x1 x2 x3 x4 = some r) : Ctr G yX7_odds (mi_X7_odds 3) [.ref 11000, .int x1, .int x2, .int x3, .int x4] [m0, m1, m2, m3, m4, m5, m6, m7, m8, m9, m10, m11] ((e_X7_odds m0 m1 m2 m3 m4 m5 m6 m7 m8 m9 m10 m11) r).1 ((e_X7_odds m0 m1 m2 m3 m4 m5 m6 m7 m8 m9 m10 m11) r).2 := Ctr_of hj (by decide) rfl hr rfl (Nat.le_of_ble_eq_true rfl) (k_X7_odds m0 m1 m2 m3 m4 m5 m6 m7 m8 m9 m10 m11 x1 x2 x3 x4 h7)
abbrev e_X3_reaches_1 (m0 m1 m2 m3 m4 m5 m6 m7 m8 m9 m10 m11 : Mem) : Int32 → Option Value × List Mem := fun r => (some (.int r), [m0, m1, m2, m3, m4, m5, m6, m7, m8, m9, m10, m11])
theorem k_X3_reaches_1 {G : GE} (m0 m1 m2 m3 m4 m5 m6 m7 m8 m9 m10 m11 : Mem) (x1 : Int32) (x2 : Int32) : K G (mi_X3_reaches 3) (e_X3_reaches_1 m0 m1 m2 m3 m4 m5 m6 m7 m8 m9 m10 m11) 0 [(0, .ref 1000), (1, .int x1), (2, .int x2)] [] [m0, m1, m2, m3, m4, m5, m6, m7, m8, m9, m10, m11] (f_X3_reaches m1 x1 x2) := by
  unfold f_X3_reaches
  refine K_aload_n 0 dX3_reaches_0 rfl ?_
  refine K_get (v := .ref 1013) dX3_reaches_1 fl_X3_22 kl_1000 rfl rfl ?_
  refine K_iload_n 2 dX3_reaches_4 rfl ?_
  refine K_iald (f := m1 13) dX3_reaches_5 kl_1013 rfl ?_
  refine K_nmi (fun x11 => ?_)
  refine K_istore_n (lv' := [(3, .int x11), (0, .ref 1000), (1, .int x1), (2, .int x2)]) dX3_reaches_6 (by decide) rfl ?_
  refine K_aload_n 1 dX3_reaches_7 rfl ?_
  refine K_iconst (v := 0) dX3_reaches_8 (by decide) ?_
  refine K_iload_n 0 dX3_reaches_9 rfl ?_
  refine K_callV (E' := e_X3_areJoined_1 m0 m1 m2 m3 m4 m5 m6 m7 m8 m9 m10 m11) (b := 1000) (As := [.int 0, .int x11]) (rest := []) dX3_reaches_10 ml_X3_104 (mf_X3_areJoined 2) mv_X3_areJoined (fun hj r hr => c_X3_areJoined_1 hj m0 m1 m2 m3 m4 m5 m6 m7 m8 m9 m10 m11 (0 : Int32) x11 hr) (rcv_obj (q := (RX3, TX3, 18)) kl_1000 rfl) rfl rfl (Nat.le_of_ble_eq_true rfl) (Nat.le_of_ble_eq_true rfl) (fun r12 => ?_)
  show K G (mi_X3_reaches 3) (e_X3_reaches_1 m0 m1 m2 m3 m4 m5 m6 m7 m8 m9 m10 m11) 13 [(3, .int x11), (0, .ref 1000), (1, .int x1), (2, .int x2)] [.int r12] [m0, m1, m2, m3, m4, m5, m6, m7, m8, m9, m10, m11] _
  refine K_if_eq 41 dX3_reaches_13 rfl (fun _ => ?_) (fun _ => ?_)
  · refine K_iconst (v := 0) dX3_reaches_41 (by decide) ?_
    exact K_ret (rv := some (.int 0)) dX3_reaches_42 rfl rfl rfl
  · refine K_aload_n 1 dX3_reaches_16 rfl ?_
    refine K_get (v := .int (m1 0 8)) dX3_reaches_17 fl_X3_56 kl_1000 rfl rfl ?_
    refine K_iload_n 0 dX3_reaches_20 rfl ?_
    refine K_callS (E' := e_X7_hasBit [m0, m1, m2, m3, m4, m5, m6, m7, m8, m9, m10, m11]) (As := [.int (m1 0 8), .int x11]) (rest := []) dX3_reaches_21 ml_X3_98 (mf_X7_hasBit 1) ms_X7_hasBit (fun hj r hr => c_X7_hasBit hj [m0, m1, m2, m3, m4, m5, m6, m7, m8, m9, m10, m11] (m1 0 8) x11 hr) rfl rfl (Nat.le_of_ble_eq_true rfl) (Nat.le_of_ble_eq_true rfl) (fun r13 => ?_)
    show K G (mi_X3_reaches 3) (e_X3_reaches_1 m0 m1 m2 m3 m4 m5 m6 m7 m8 m9 m10 m11) 24 [(3, .int x11), (0, .ref 1000), (1, .int x1), (2, .int x2)] [.int r13] [m0, m1, m2, m3, m4, m5, m6, m7, m8, m9, m10, m11] _
    refine K_if_eq 37 dX3_reaches_24 rfl (fun _ => ?_) (fun _ => ?_)
    · refine K_iconst (v := 1) dX3_reaches_37 (by decide) ?_
      refine K_goto 42 dX3_reaches_38 rfl ?_
      exact K_ret (rv := some (.int 1)) dX3_reaches_42 rfl rfl rfl
    · refine K_aload_n 1 dX3_reaches_27 rfl ?_
      refine K_get (v := .ref 1018) dX3_reaches_28 fl_X3_37 kl_1000 rfl rfl ?_
      refine K_iload_n 2 dX3_reaches_31 rfl ?_
      refine K_iald (f := m1 18) dX3_reaches_32 kl_1018 rfl ?_
      refine K_iconst (v := 1) dX3_reaches_33 (by decide) ?_
      refine K_icmp_ne 41 dX3_reaches_34 rfl (fun _ => ?_) (fun _ => ?_)
      · refine K_iconst (v := 0) dX3_reaches_41 (by decide) ?_
        exact K_ret (rv := some (.int 0)) dX3_reaches_42 rfl rfl rfl
      · refine K_iconst (v := 1) dX3_reaches_37 (by decide) ?_
        refine K_goto 42 dX3_reaches_38 rfl ?_
        exact K_ret (rv := some (.int 1)) dX3_reaches_42 rfl rfl rfl
theorem c_X3_reaches_1 {G : GE} (hj : dj G) (m0 m1 m2 m3 m4 m5 m6 m7 m8 m9 m10 m11 : Mem) (x1 : Int32) (x2 : Int32) {r : Int32} (hr : f_X3_reaches m1 x1 x2 = some r) : Ctr G yX3_reaches (mi_X3_reaches 3) [.ref 1000, .int x1, .int x2] [m0, m1, m2, m3, m4, m5, m6, m7, m8, m9, m10, m11] ((e_X3_reaches_1 m0 m1 m2 m3 m4 m5 m6 m7 m8 m9 m10 m11) r).1 ((e_X3_reaches_1 m0 m1 m2 m3 m4 m5 m6 m7 m8 m9 m10 m11) r).2 := Ctr_of hj (by decide) rfl hr rfl (Nat.le_of_ble_eq_true rfl) (k_X3_reaches_1 m0 m1 m2 m3 m4 m5 m6 m7 m8 m9 m10 m11 x1 x2)
abbrev e_X3_carsThatGo_1 (m0 m1 m2 m3 m4 m5 m6 m7 m8 m9 m10 m11 : Mem) : Int32 → Option Value × List Mem := fun r => (some (.int r), [m0, m1, m2, m3, m4, m5, m6, m7, m8, m9, m10, m11])
theorem k_X3_carsThatGo_1_L4 {G : GE} (m0 m1 m2 m3 m4 m5 m6 m7 m8 m9 m10 m11 : Mem) (x1 : Int32) (k : Int32 → Int32 → Option (Int32)) (hk : ∀ (u11 : Int32) (u12 : Int32), K G (mi_X3_carsThatGo 4) (e_X3_carsThatGo_1 m0 m1 m2 m3 m4 m5 m6 m7 m8 m9 m10 m11) 59 [(0, .ref 1000), (1, .int x1), (2, .int u11), (3, .int u12)] [] [m0, m1, m2, m3, m4, m5, m6, m7, m8, m9, m10, m11] (k u11 u12)) : ∀ (t : Nat) (u11 : Int32) (u12 : Int32), K G (mi_X3_carsThatGo 4) (e_X3_carsThatGo_1 m0 m1 m2 m3 m4 m5 m6 m7 m8 m9 m10 m11) 4 [(0, .ref 1000), (1, .int x1), (2, .int u11), (3, .int u12)] [] [m0, m1, m2, m3, m4, m5, m6, m7, m8, m9, m10, m11] (f_X3_carsThatGo_L4 k x1 m1 t u11 u12) := by
  intro t
  induction t with
  | zero => intro u11 u12; exact K_none
  | succ t ih =>
    intro u11 u12
    rw [f_X3_carsThatGo_L4]
    refine K_iload_n 3 dX3_carsThatGo_4 rfl ?_
    refine K_aload_n 0 dX3_carsThatGo_5 rfl ?_
    refine K_get (v := .int (m1 0 7)) dX3_carsThatGo_6 fl_X3_53 kl_1000 rfl rfl ?_
    refine K_icmp_ge 59 dX3_carsThatGo_9 rfl (fun _ => ?_) (fun _ => ?_)
    · refine K_loc [0, 1, 2, 3] (lv' := [(0, .ref 1000), (1, .int x1), (2, .int u11), (3, .int u12)]) rfl ?_
      exact hk u11 u12
    · refine K_aload_n 0 dX3_carsThatGo_12 rfl ?_
      refine K_get (v := .ref 1016) dX3_carsThatGo_13 fl_X3_31 kl_1000 rfl rfl ?_
      refine K_iload_n 3 dX3_carsThatGo_16 rfl ?_
      refine K_iald (f := m1 16) dX3_carsThatGo_17 kl_1016 rfl ?_
      refine K_nmi (fun x13 => ?_)
      refine K_istore (lv' := [(4, .int x13), (0, .ref 1000), (1, .int x1), (2, .int u11), (3, .int u12)]) dX3_carsThatGo_18 (by decide) rfl ?_
      refine K_aload_n 1 dX3_carsThatGo_20 rfl ?_
      refine K_iload 0 dX3_carsThatGo_21 rfl ?_
      refine K_aload_n 1 dX3_carsThatGo_23 rfl ?_
      refine K_get (v := .ref 1014) dX3_carsThatGo_24 fl_X3_25 kl_1000 rfl rfl ?_
      refine K_iload 0 dX3_carsThatGo_27 rfl ?_
      refine K_iald (f := m1 14) dX3_carsThatGo_29 kl_1014 rfl ?_
      refine K_iload_n 2 dX3_carsThatGo_30 rfl ?_
      refine K_callV (E' := e_X3_mayDrive_1 m0 m1 m2 m3 m4 m5 m6 m7 m8 m9 m10 m11) (b := 1000) (As := [.int x13, .int (m1 14 x13.toNatClampNeg), .int x1]) (rest := []) dX3_carsThatGo_31 ml_X3_107 (mf_X3_mayDrive 2) mv_X3_mayDrive (fun hj r hr => c_X3_mayDrive_1 hj m0 m1 m2 m3 m4 m5 m6 m7 m8 m9 m10 m11 x13 (m1 14 x13.toNatClampNeg) x1 hr) (rcv_obj (q := (RX3, TX3, 18)) kl_1000 rfl) rfl rfl (Nat.le_of_ble_eq_true rfl) (Nat.le_of_ble_eq_true rfl) (fun r14 => ?_)
      show K G (mi_X3_carsThatGo 4) (e_X3_carsThatGo_1 m0 m1 m2 m3 m4 m5 m6 m7 m8 m9 m10 m11) 34 [(4, .int x13), (0, .ref 1000), (1, .int x1), (2, .int u11), (3, .int u12)] [.int r14] [m0, m1, m2, m3, m4, m5, m6, m7, m8, m9, m10, m11] _
      refine K_if_eq 53 dX3_carsThatGo_34 rfl (fun _ => ?_) (fun _ => ?_)
      · refine K_iinc 4 (w := u12 + 1) (lv' := [(3, .int (u12 + 1)), (4, .int x13), (0, .ref 1000), (1, .int x1), (2, .int u11)]) dX3_carsThatGo_53 rfl rfl (by decide) rfl ?_
        refine K_goto 4 dX3_carsThatGo_56 rfl ?_
        refine K_loc [2, 3, 4, 0] (lv' := [(0, .ref 1000), (1, .int x1), (2, .int u11), (3, .int (u12 + 1))]) rfl ?_
        exact ih u11 (u12 + 1)
      · refine K_aload_n 1 dX3_carsThatGo_37 rfl ?_
        refine K_iload_n 4 dX3_carsThatGo_38 rfl ?_
        refine K_iload 0 dX3_carsThatGo_39 rfl ?_
        refine K_callV (E' := e_X3_reaches_1 m0 m1 m2 m3 m4 m5 m6 m7 m8 m9 m10 m11) (b := 1000) (As := [.int u12, .int x13]) (rest := []) dX3_carsThatGo_41 ml_X3_111 (mf_X3_reaches 3) mv_X3_reaches (fun hj r hr => c_X3_reaches_1 hj m0 m1 m2 m3 m4 m5 m6 m7 m8 m9 m10 m11 u12 x13 hr) (rcv_obj (q := (RX3, TX3, 18)) kl_1000 rfl) rfl rfl (Nat.le_of_ble_eq_true rfl) (Nat.le_of_ble_eq_true rfl) (fun r15 => ?_)
        show K G (mi_X3_carsThatGo 4) (e_X3_carsThatGo_1 m0 m1 m2 m3 m4 m5 m6 m7 m8 m9 m10 m11) 44 [(4, .int x13), (0, .ref 1000), (1, .int x1), (2, .int u11), (3, .int u12)] [.int r15] [m0, m1, m2, m3, m4, m5, m6, m7, m8, m9, m10, m11] _
        refine K_if_eq 53 dX3_carsThatGo_44 rfl (fun _ => ?_) (fun _ => ?_)
        · refine K_iinc 4 (w := u12 + 1) (lv' := [(3, .int (u12 + 1)), (4, .int x13), (0, .ref 1000), (1, .int x1), (2, .int u11)]) dX3_carsThatGo_53 rfl rfl (by decide) rfl ?_
          refine K_goto 4 dX3_carsThatGo_56 rfl ?_
          refine K_loc [2, 3, 4, 0] (lv' := [(0, .ref 1000), (1, .int x1), (2, .int u11), (3, .int (u12 + 1))]) rfl ?_
          exact ih u11 (u12 + 1)
        · refine K_iload_n 3 dX3_carsThatGo_47 rfl ?_
          refine K_iconst (v := 1) dX3_carsThatGo_48 (by decide) ?_
          refine K_iload_n 4 dX3_carsThatGo_49 rfl ?_
          refine K_ishl dX3_carsThatGo_50 ?_
          refine K_ior dX3_carsThatGo_51 ?_
          refine K_nmi (fun x16 => ?_)
          refine K_istore_n (lv' := [(2, .int x16), (4, .int x13), (0, .ref 1000), (1, .int x1), (3, .int u12)]) dX3_carsThatGo_52 (by decide) rfl ?_
          refine K_iinc 4 (w := u12 + 1) (lv' := [(3, .int (u12 + 1)), (2, .int x16), (4, .int x13), (0, .ref 1000), (1, .int x1)]) dX3_carsThatGo_53 rfl rfl (by decide) rfl ?_
          refine K_goto 4 dX3_carsThatGo_56 rfl ?_
          refine K_loc [3, 4, 1, 0] (lv' := [(0, .ref 1000), (1, .int x1), (2, .int x16), (3, .int (u12 + 1))]) rfl ?_
          exact ih x16 (u12 + 1)
theorem k_X3_carsThatGo_1 {G : GE} (m0 m1 m2 m3 m4 m5 m6 m7 m8 m9 m10 m11 : Mem) (x1 : Int32) : K G (mi_X3_carsThatGo 4) (e_X3_carsThatGo_1 m0 m1 m2 m3 m4 m5 m6 m7 m8 m9 m10 m11) 0 [(0, .ref 1000), (1, .int x1)] [] [m0, m1, m2, m3, m4, m5, m6, m7, m8, m9, m10, m11] (f_X3_carsThatGo m1 x1) := by
  unfold f_X3_carsThatGo
  refine K_iconst (v := 0) dX3_carsThatGo_0 (by decide) ?_
  refine K_istore_n (lv' := [(2, .int 0), (0, .ref 1000), (1, .int x1)]) dX3_carsThatGo_1 (by decide) rfl ?_
  refine K_iconst (v := 0) dX3_carsThatGo_2 (by decide) ?_
  refine K_istore_n (lv' := [(3, .int 0), (2, .int 0), (0, .ref 1000), (1, .int x1)]) dX3_carsThatGo_3 (by decide) rfl ?_
  refine K_loc [2, 3, 1, 0] (lv' := [(0, .ref 1000), (1, .int x1), (2, .int 0), (3, .int 0)]) rfl ?_
  refine k_X3_carsThatGo_1_L4  m0 m1 m2 m3 m4 m5 m6 m7 m8 m9 m10 m11 x1 _ (fun u17 u18 => ?_) 100000 0 0
  refine K_iload_n 2 dX3_carsThatGo_59 rfl ?_
  exact K_ret (rv := some (.int u17)) dX3_carsThatGo_60 rfl rfl rfl
theorem c_X3_carsThatGo_1 {G : GE} (hj : dj G) (m0 m1 m2 m3 m4 m5 m6 m7 m8 m9 m10 m11 : Mem) (x1 : Int32) {r : Int32} (hr : f_X3_carsThatGo m1 x1 = some r) : Ctr G yX3_carsThatGo (mi_X3_carsThatGo 4) [.ref 1000, .int x1] [m0, m1, m2, m3, m4, m5, m6, m7, m8, m9, m10, m11] ((e_X3_carsThatGo_1 m0 m1 m2 m3 m4 m5 m6 m7 m8 m9 m10 m11) r).1 ((e_X3_carsThatGo_1 m0 m1 m2 m3 m4 m5 m6 m7 m8 m9 m10 m11) r).2 := Ctr_of hj (by decide) rfl hr rfl (Nat.le_of_ble_eq_true rfl) (k_X3_carsThatGo_1 m0 m1 m2 m3 m4 m5 m6 m7 m8 m9 m10 m11 x1)
abbrev e_X7_goes (m0 m1 m2 m3 m4 m5 m6 m7 m8 m9 m10 m11 : Mem) : Int32 → Option Value × List Mem := fun r => (some (.int r), [m0, m1, m2, m3, m4, m5, m6, m7, m8, m9, m10, m11])
theorem k_X7_goes {G : GE} (m0 m1 m2 m3 m4 m5 m6 m7 m8 m9 m10 m11 : Mem) (x1 : Int32) (h7 : m11 0 7 = 1) : K G (mi_X7_goes 5) (e_X7_goes m0 m1 m2 m3 m4 m5 m6 m7 m8 m9 m10 m11) 0 [(0, .ref 11000), (1, .int x1)] [] [m0, m1, m2, m3, m4, m5, m6, m7, m8, m9, m10, m11] (f_X7_goes m1 x1) := by
  unfold f_X7_goes
  refine K_aload_n 0 dX7_goes_0 rfl ?_
  refine K_get (v := .ref 1000) dX7_goes_1 fl_X7_58 kl_11000 rfl (nd_ref h7) ?_
  refine K_get (v := .int (m1 0 0)) dX7_goes_4 fl_X7_169 kl_1000 rfl rfl ?_
  refine K_if_ne 13 dX7_goes_7 rfl (fun _ => ?_) (fun _ => ?_)
  · refine K_iload_n 1 dX7_goes_13 rfl ?_
    refine K_callS (E' := e_X7_isMinute [m0, m1, m2, m3, m4, m5, m6, m7, m8, m9, m10, m11]) (As := [.int x1]) (rest := []) dX7_goes_14 ml_X7_181 (mf_X7_isMinute 1) ms_X7_isMinute (fun hj r hr => c_X7_isMinute hj [m0, m1, m2, m3, m4, m5, m6, m7, m8, m9, m10, m11] x1 hr) rfl rfl (Nat.le_of_ble_eq_true rfl) (Nat.le_of_ble_eq_true rfl) (fun r11 => ?_)
    show K G (mi_X7_goes 5) (e_X7_goes m0 m1 m2 m3 m4 m5 m6 m7 m8 m9 m10 m11) 17 [(0, .ref 11000), (1, .int x1)] [.int r11] [m0, m1, m2, m3, m4, m5, m6, m7, m8, m9, m10, m11] _
    refine K_if_eq 31 dX7_goes_17 rfl (fun _ => ?_) (fun _ => ?_)
    · refine K_ldc (v := (-1000001)) dX7_goes_31 cst_X7_73 ?_
      exact K_ret (rv := some (.int (-1000001))) dX7_goes_33 rfl rfl rfl
    · refine K_aload_n 0 dX7_goes_20 rfl ?_
      refine K_get (v := .ref 1000) dX7_goes_21 fl_X7_58 kl_11000 rfl (nd_ref h7) ?_
      refine K_iload_n 1 dX7_goes_24 rfl ?_
      refine K_callV (E' := e_X3_carsThatGo_1 m0 m1 m2 m3 m4 m5 m6 m7 m8 m9 m10 m11) (b := 1000) (As := [.int x1]) (rest := []) dX7_goes_25 ml_X7_193 (mf_X3_carsThatGo 4) mv_X3_carsThatGo (fun hj r hr => c_X3_carsThatGo_1 hj m0 m1 m2 m3 m4 m5 m6 m7 m8 m9 m10 m11 x1 hr) (rcv_obj (q := (RX3, TX3, 18)) kl_1000 rfl) rfl rfl (Nat.le_of_ble_eq_true rfl) (Nat.le_of_ble_eq_true rfl) (fun r12 => ?_)
      show K G (mi_X7_goes 5) (e_X7_goes m0 m1 m2 m3 m4 m5 m6 m7 m8 m9 m10 m11) 28 [(0, .ref 11000), (1, .int x1)] [.int r12] [m0, m1, m2, m3, m4, m5, m6, m7, m8, m9, m10, m11] _
      refine K_goto 33 dX7_goes_28 rfl ?_
      exact K_ret (rv := some (.int r12)) dX7_goes_33 rfl rfl rfl
  · refine K_ldc (v := (-1000002)) dX7_goes_10 cst_X7_143 ?_
    exact K_ret (rv := some (.int (-1000002))) dX7_goes_12 rfl rfl rfl
theorem c_X7_goes {G : GE} (hj : dj G) (m0 m1 m2 m3 m4 m5 m6 m7 m8 m9 m10 m11 : Mem) (x1 : Int32) (h7 : m11 0 7 = 1) {r : Int32} (hr : f_X7_goes m1 x1 = some r) : Ctr G yX7_goes (mi_X7_goes 5) [.ref 11000, .int x1] [m0, m1, m2, m3, m4, m5, m6, m7, m8, m9, m10, m11] ((e_X7_goes m0 m1 m2 m3 m4 m5 m6 m7 m8 m9 m10 m11) r).1 ((e_X7_goes m0 m1 m2 m3 m4 m5 m6 m7 m8 m9 m10 m11) r).2 := Ctr_of hj (by decide) rfl hr rfl (Nat.le_of_ble_eq_true rfl) (k_X7_goes m0 m1 m2 m3 m4 m5 m6 m7 m8 m9 m10 m11 x1 h7)
abbrev e_X3_siteOfOwner_1 (m0 m1 m2 m3 m4 m5 m6 m7 m8 m9 m10 m11 : Mem) : Int32 → Option Value × List Mem := fun r => (some (.int r), [m0, m1, m2, m3, m4, m5, m6, m7, m8, m9, m10, m11])
theorem k_X3_siteOfOwner_1 {G : GE} (m0 m1 m2 m3 m4 m5 m6 m7 m8 m9 m10 m11 : Mem) (x1 : Int32) : K G (mi_X3_siteOfOwner 1) (e_X3_siteOfOwner_1 m0 m1 m2 m3 m4 m5 m6 m7 m8 m9 m10 m11) 0 [(0, .ref 1000), (1, .int x1)] [] [m0, m1, m2, m3, m4, m5, m6, m7, m8, m9, m10, m11] (f_X3_siteOfOwner m1 x1) := by
  unfold f_X3_siteOfOwner
  refine K_aload_n 0 dX3_siteOfOwner_0 rfl ?_
  refine K_get (v := .ref 1013) dX3_siteOfOwner_1 fl_X3_22 kl_1000 rfl rfl ?_
  refine K_aload_n 0 dX3_siteOfOwner_4 rfl ?_
  refine K_get (v := .ref 1016) dX3_siteOfOwner_5 fl_X3_31 kl_1000 rfl rfl ?_
  refine K_iload_n 1 dX3_siteOfOwner_8 rfl ?_
  refine K_iald (f := m1 16) dX3_siteOfOwner_9 kl_1016 rfl ?_
  refine K_iald (f := m1 13) dX3_siteOfOwner_10 kl_1013 rfl ?_
  exact K_ret (rv := some (.int (m1 13 (m1 16 x1.toNatClampNeg).toNatClampNeg))) dX3_siteOfOwner_11 rfl rfl rfl
theorem c_X3_siteOfOwner_1 {G : GE} (hj : dj G) (m0 m1 m2 m3 m4 m5 m6 m7 m8 m9 m10 m11 : Mem) (x1 : Int32) {r : Int32} (hr : f_X3_siteOfOwner m1 x1 = some r) : Ctr G yX3_siteOfOwner (mi_X3_siteOfOwner 1) [.ref 1000, .int x1] [m0, m1, m2, m3, m4, m5, m6, m7, m8, m9, m10, m11] ((e_X3_siteOfOwner_1 m0 m1 m2 m3 m4 m5 m6 m7 m8 m9 m10 m11) r).1 ((e_X3_siteOfOwner_1 m0 m1 m2 m3 m4 m5 m6 m7 m8 m9 m10 m11) r).2 := Ctr_of hj (by decide) rfl hr rfl (Nat.le_of_ble_eq_true rfl) (k_X3_siteOfOwner_1 m0 m1 m2 m3 m4 m5 m6 m7 m8 m9 m10 m11 x1)
abbrev e_X4_walk (m0 m1 m2 m3 m4 m5 m6 m7 m8 m9 m10 m11 : Mem) : Mem → Option Value × List Mem := fun r => (none, [m0, m1, m2, r, m4, m5, m6, m7, m8, m9, m10, m11])
theorem k_X4_walk_L86 {G : GE} (d : Nat) (fs : Mem → Mem → Int32 → Int32 → Int32 → Int32 → Int32 → Option (Mem)) (hfs : dj G → ∀ (m0 m1 m2 m3 m4 m5 m6 m7 m8 m9 m10 m11 : Mem) (x2 : Int32) (x3 : Int32) (x4 : Int32) (x5 : Int32) (x6 : Int32) (r : Mem), fs m1 m3 x2 x3 x4 x5 x6 = some r → Ctr G yX4_walk (mi_X4_walk (d + 3)) [.ref 3000, .ref 1000, .int x2, .int x3, .int x4, .int x5, .int x6] [m0, m1, m2, m3, m4, m5, m6, m7, m8, m9, m10, m11] ((e_X4_walk m0 m1 m2 m3 m4 m5 m6 m7 m8 m9 m10 m11) r).1 ((e_X4_walk m0 m1 m2 m3 m4 m5 m6 m7 m8 m9 m10 m11) r).2) (m0 m1 m2 m3 m4 m5 m6 m7 m8 m9 m10 m11 : Mem) (x2 : Int32) (x3 : Int32) (x4 : Int32) (x5 : Int32) (x6 : Int32) (a11 : Int32) (k : Int32 → Mem → Option (Mem)) (hk : ∀ (u13 : Int32) (w14 : Mem), K G (mi_X4_walk (d + 4)) (e_X4_walk m0 m1 m2 m3 m4 m5 m6 m7 m8 m9 m10 m11) 171 [(0, .ref 3000), (1, .ref 1000), (2, .int x2), (3, .int x3), (4, .int x4), (5, .int x5), (6, .int x6), (7, .int a11), (8, .int u13)] [] [m0, m1, m2, w14, m4, m5, m6, m7, m8, m9, m10, m11] (k u13 w14)) : ∀ (t : Nat) (u13 : Int32) (w14 : Mem), K G (mi_X4_walk (d + 4)) (e_X4_walk m0 m1 m2 m3 m4 m5 m6 m7 m8 m9 m10 m11) 86 [(0, .ref 3000), (1, .ref 1000), (2, .int x2), (3, .int x3), (4, .int x4), (5, .int x5), (6, .int x6), (7, .int a11), (8, .int u13)] [] [m0, m1, m2, w14, m4, m5, m6, m7, m8, m9, m10, m11] (f_X4_walk_L86 fs k x2 x3 x4 x5 x6 a11 m1 t u13 w14) := by
  intro t
  induction t with
  | zero => intro u13 w14; exact K_none
  | succ t ih =>
    intro u13 w14
    rw [f_X4_walk_L86]
    refine K_iload 8 dX4_walk_86 rfl ?_
    refine K_aload_n 1 dX4_walk_88 rfl ?_
    refine K_get (v := .int (m1 0 6)) dX4_walk_89 fl_X4_71 kl_1000 rfl rfl ?_
    refine K_icmp_ge 171 dX4_walk_92 rfl (fun _ => ?_) (fun _ => ?_)
    · refine K_loc [0, 1, 2, 3, 4, 5, 6, 7, 8] (lv' := [(0, .ref 3000), (1, .ref 1000), (2, .int x2), (3, .int x3), (4, .int x4), (5, .int x5), (6, .int x6), (7, .int a11), (8, .int u13)]) rfl ?_
      exact hk u13 w14
    · refine K_iload 6 dX4_walk_95 rfl ?_
      refine K_iconst (v := 4) dX4_walk_97 (by decide) ?_
      refine K_icmp_ge 171 dX4_walk_98 rfl (fun _ => ?_) (fun _ => ?_)
      · refine K_loc [0, 1, 2, 3, 4, 5, 6, 7, 8] (lv' := [(0, .ref 3000), (1, .ref 1000), (2, .int x2), (3, .int x3), (4, .int x4), (5, .int x5), (6, .int x6), (7, .int a11), (8, .int u13)]) rfl ?_
        exact hk u13 w14
      · refine K_iload 7 dX4_walk_101 rfl ?_
        refine K_iload 8 dX4_walk_103 rfl ?_
        refine K_callS (E' := e_X7_hasBit [m0, m1, m2, w14, m4, m5, m6, m7, m8, m9, m10, m11]) (As := [.int a11, .int u13]) (rest := []) dX4_walk_105 ml_X4_52 (mf_X7_hasBit 1) ms_X7_hasBit (fun hj r hr => c_X7_hasBit hj [m0, m1, m2, w14, m4, m5, m6, m7, m8, m9, m10, m11] a11 u13 hr) rfl rfl (Nat.le_of_ble_eq_true rfl) (show 1 < d + 4 by omega) (fun r15 => ?_)
        show K G (mi_X4_walk (d + 4)) (e_X4_walk m0 m1 m2 m3 m4 m5 m6 m7 m8 m9 m10 m11) 108 [(0, .ref 3000), (1, .ref 1000), (2, .int x2), (3, .int x3), (4, .int x4), (5, .int x5), (6, .int x6), (7, .int a11), (8, .int u13)] [.int r15] [m0, m1, m2, w14, m4, m5, m6, m7, m8, m9, m10, m11] _
        refine K_if_eq 165 dX4_walk_108 rfl (fun _ => ?_) (fun _ => ?_)
        · refine K_iinc 8 (w := u13 + 1) (lv' := [(8, .int (u13 + 1)), (0, .ref 3000), (1, .ref 1000), (2, .int x2), (3, .int x3), (4, .int x4), (5, .int x5), (6, .int x6), (7, .int a11)]) dX4_walk_165 rfl rfl (Nat.le_of_ble_eq_true rfl) rfl ?_
          refine K_goto 86 dX4_walk_168 rfl ?_
          refine K_loc [1, 2, 3, 4, 5, 6, 7, 8, 0] (lv' := [(0, .ref 3000), (1, .ref 1000), (2, .int x2), (3, .int x3), (4, .int x4), (5, .int x5), (6, .int x6), (7, .int a11), (8, .int (u13 + 1))]) rfl ?_
          exact ih (u13 + 1) w14
        · refine K_aload_n 0 dX4_walk_111 rfl ?_
          refine K_get (v := .ref 3010) dX4_walk_112 fl_X4_34 kl_3000 rfl rfl ?_
          refine K_iload 6 dX4_walk_115 rfl ?_
          refine K_iload 8 dX4_walk_117 rfl ?_
          refine K_iast (Ms' := [m0, m1, m2, (up w14 10 x6.toNatClampNeg u13), m4, m5, m6, m7, m8, m9, m10, m11]) dX4_walk_119 kl_3010 (Nat.le_of_ble_eq_true rfl) rfl ?_
          refine K_nmm (fun w => [m0, m1, m2, w, m4, m5, m6, m7, m8, m9, m10, m11]) rfl (fun w16 => ?_)
          refine K_iload 5 dX4_walk_120 rfl ?_
          refine K_aload_n 1 dX4_walk_122 rfl ?_
          refine K_iload 4 dX4_walk_123 rfl ?_
          refine K_aload_n 1 dX4_walk_125 rfl ?_
          refine K_get (v := .ref 1013) dX4_walk_126 fl_X4_114 kl_1000 rfl rfl ?_
          refine K_iload 8 dX4_walk_129 rfl ?_
          refine K_iald (f := m1 13) dX4_walk_131 kl_1013 rfl ?_
          refine K_callV (E' := e_X3_minutesBetween_1 m0 m1 m2 w16 m4 m5 m6 m7 m8 m9 m10 m11) (b := 1000) (As := [.int x4, .int (m1 13 u13.toNatClampNeg)]) (rest := [.int x5]) dX4_walk_132 ml_X4_107 (mf_X3_minutesBetween 1) mv_X3_minutesBetween (fun hj r hr => c_X3_minutesBetween_1 hj m0 m1 m2 w16 m4 m5 m6 m7 m8 m9 m10 m11 x4 (m1 13 u13.toNatClampNeg) hr) (rcv_obj (q := (RX3, TX3, 18)) kl_1000 rfl) rfl rfl (Nat.le_of_ble_eq_true rfl) (show 1 < d + 4 by omega) (fun r17 => ?_)
          show K G (mi_X4_walk (d + 4)) (e_X4_walk m0 m1 m2 m3 m4 m5 m6 m7 m8 m9 m10 m11) 135 [(0, .ref 3000), (1, .ref 1000), (2, .int x2), (3, .int x3), (4, .int x4), (5, .int x5), (6, .int x6), (7, .int a11), (8, .int u13)] [.int r17, .int x5] [m0, m1, m2, w16, m4, m5, m6, m7, m8, m9, m10, m11] _
          refine K_iadd dX4_walk_135 ?_
          refine K_nmi (fun x18 => ?_)
          refine K_istore (lv' := [(9, .int x18), (0, .ref 3000), (1, .ref 1000), (2, .int x2), (3, .int x3), (4, .int x4), (5, .int x5), (6, .int x6), (7, .int a11), (8, .int u13)]) dX4_walk_136 (Nat.le_of_ble_eq_true rfl) rfl ?_
          refine K_aload_n 1 dX4_walk_138 rfl ?_
          refine K_aload_n 2 dX4_walk_139 rfl ?_
          refine K_iload_n 3 dX4_walk_140 rfl ?_
          refine K_iload_n 4 dX4_walk_141 rfl ?_
          refine K_iconst (v := 1) dX4_walk_142 (by decide) ?_
          refine K_iload 9 dX4_walk_143 rfl ?_
          refine K_ishl dX4_walk_145 ?_
          refine K_iconst (v := (-1)) dX4_walk_146 (by decide) ?_
          refine K_ixor dX4_walk_147 ?_
          refine K_iand dX4_walk_148 ?_
          refine K_aload_n 2 dX4_walk_149 rfl ?_
          refine K_get (v := .ref 1013) dX4_walk_150 fl_X4_114 kl_1000 rfl rfl ?_
          refine K_iload 9 dX4_walk_153 rfl ?_
          refine K_iald (f := m1 13) dX4_walk_155 kl_1013 rfl ?_
          refine K_iload 0 dX4_walk_156 rfl ?_
          refine K_iload 7 dX4_walk_158 rfl ?_
          refine K_iconst (v := 1) dX4_walk_160 (by decide) ?_
          refine K_iadd dX4_walk_161 ?_
          refine K_callV (E' := e_X4_walk m0 m1 m2 w16 m4 m5 m6 m7 m8 m9 m10 m11) (b := 3000) (As := [.ref 1000, .int x2, .int (x3 &&& ((1 <<< (u13 &&& 31)) ^^^ (-1))), .int (m1 13 u13.toNatClampNeg), .int x18, .int (x6 + 1)]) (rest := []) dX4_walk_162 ml_X4_102 (mf_X4_walk (d + 3)) mv_X4_walk (fun hj r hr => hfs hj m0 m1 m2 w16 m4 m5 m6 m7 m8 m9 m10 m11 x2 (x3 &&& ((1 <<< (u13 &&& 31)) ^^^ (-1))) (m1 13 u13.toNatClampNeg) x18 (x6 + 1) r hr) (rcv_obj (q := (RX4, TX4, 12)) kl_3000 rfl) rfl rfl (Nat.le_of_ble_eq_true rfl) (show (d + 3) < d + 4 by omega) (fun r19 => ?_)
          show K G (mi_X4_walk (d + 4)) (e_X4_walk m0 m1 m2 m3 m4 m5 m6 m7 m8 m9 m10 m11) 165 [(9, .int x18), (0, .ref 3000), (1, .ref 1000), (2, .int x2), (3, .int x3), (4, .int x4), (5, .int x5), (6, .int x6), (7, .int a11), (8, .int u13)] [] [m0, m1, m2, r19, m4, m5, m6, m7, m8, m9, m10, m11] _
          refine K_iinc 9 (w := u13 + 1) (lv' := [(8, .int (u13 + 1)), (9, .int x18), (0, .ref 3000), (1, .ref 1000), (2, .int x2), (3, .int x3), (4, .int x4), (5, .int x5), (6, .int x6), (7, .int a11)]) dX4_walk_165 rfl rfl (Nat.le_of_ble_eq_true rfl) rfl ?_
          refine K_goto 86 dX4_walk_168 rfl ?_
          refine K_loc [2, 3, 4, 5, 6, 7, 8, 9, 0] (lv' := [(0, .ref 3000), (1, .ref 1000), (2, .int x2), (3, .int x3), (4, .int x4), (5, .int x5), (6, .int x6), (7, .int a11), (8, .int (u13 + 1))]) rfl ?_
          exact ih (u13 + 1) r19
theorem k_X4_walk {G : GE} (d : Nat) (fs : Mem → Mem → Int32 → Int32 → Int32 → Int32 → Int32 → Option (Mem)) (hfs : dj G → ∀ (m0 m1 m2 m3 m4 m5 m6 m7 m8 m9 m10 m11 : Mem) (x2 : Int32) (x3 : Int32) (x4 : Int32) (x5 : Int32) (x6 : Int32) (r : Mem), fs m1 m3 x2 x3 x4 x5 x6 = some r → Ctr G yX4_walk (mi_X4_walk (d + 3)) [.ref 3000, .ref 1000, .int x2, .int x3, .int x4, .int x5, .int x6] [m0, m1, m2, m3, m4, m5, m6, m7, m8, m9, m10, m11] ((e_X4_walk m0 m1 m2 m3 m4 m5 m6 m7 m8 m9 m10 m11) r).1 ((e_X4_walk m0 m1 m2 m3 m4 m5 m6 m7 m8 m9 m10 m11) r).2) (m0 m1 m2 m3 m4 m5 m6 m7 m8 m9 m10 m11 : Mem) (x2 : Int32) (x3 : Int32) (x4 : Int32) (x5 : Int32) (x6 : Int32) : K G (mi_X4_walk (d + 4)) (e_X4_walk m0 m1 m2 m3 m4 m5 m6 m7 m8 m9 m10 m11) 0 [(0, .ref 3000), (1, .ref 1000), (2, .int x2), (3, .int x3), (4, .int x4), (5, .int x5), (6, .int x6)] [] [m0, m1, m2, m3, m4, m5, m6, m7, m8, m9, m10, m11] (f_X4_walk_B fs m1 m3 x2 x3 x4 x5 x6) := by
  unfold f_X4_walk_B
  refine K_iload 5 dX4_walk_0 rfl ?_
  refine K_aload_n 0 dX4_walk_2 rfl ?_
  refine K_get (v := .int (m3 0 11)) dX4_walk_3 fl_X4_96 kl_3000 rfl rfl ?_
  refine K_icmp_ge 15 dX4_walk_6 rfl (fun _ => ?_) (fun _ => ?_)
  · exact K_ret (rv := none) dX4_walk_15 trivial rfl rfl
  · refine K_iload 6 dX4_walk_9 rfl ?_
    refine K_iconst (v := 4) dX4_walk_11 (by decide) ?_
    refine K_icmp_le 16 dX4_walk_12 rfl (fun _ => ?_) (fun _ => ?_)
    · refine K_iload_n 3 dX4_walk_16 rfl ?_
      refine K_if_ne 62 dX4_walk_17 rfl (fun _ => ?_) (fun _ => ?_)
      · refine K_iload_n 3 dX4_walk_62 rfl ?_
        refine K_aload_n 1 dX4_walk_63 rfl ?_
        refine K_get (v := .int (m1 0 9)) dX4_walk_64 fl_X4_111 kl_1000 rfl rfl ?_
        refine K_iand dX4_walk_67 ?_
        refine K_pick (fun j12 => (if (x3 &&& (m1 0 9)) = 0 then (j12 x3) else (j12 (x3 &&& (m1 0 9))))) (fun j12 => ∀ a11 : Int32, K G (mi_X4_walk (d + 4)) (e_X4_walk m0 m1 m2 m3 m4 m5 m6 m7 m8 m9 m10 m11) 81 [(0, .ref 3000), (1, .ref 1000), (2, .int x2), (3, .int x3), (4, .int x4), (5, .int x5), (6, .int x6)] [.int a11] [m0, m1, m2, m3, m4, m5, m6, m7, m8, m9, m10, m11] (j12 a11)) (fun j12 => by simp only [apply_ite j12]) (fun a11 => ?_) (fun j12 hj12 => ?_)
        · refine K_istore (lv' := [(7, .int a11), (0, .ref 3000), (1, .ref 1000), (2, .int x2), (3, .int x3), (4, .int x4), (5, .int x5), (6, .int x6)]) dX4_walk_81 (Nat.le_of_ble_eq_true rfl) rfl ?_
          refine K_iconst (v := 0) dX4_walk_83 (by decide) ?_
          refine K_istore (lv' := [(8, .int 0), (7, .int a11), (0, .ref 3000), (1, .ref 1000), (2, .int x2), (3, .int x3), (4, .int x4), (5, .int x5), (6, .int x6)]) dX4_walk_84 (Nat.le_of_ble_eq_true rfl) rfl ?_
          refine K_loc [2, 3, 4, 5, 6, 7, 8, 1, 0] (lv' := [(0, .ref 3000), (1, .ref 1000), (2, .int x2), (3, .int x3), (4, .int x4), (5, .int x5), (6, .int x6), (7, .int a11), (8, .int 0)]) rfl ?_
          refine k_X4_walk_L86 d fs hfs  m0 m1 m2 m3 m4 m5 m6 m7 m8 m9 m10 m11 x2 x3 x4 x5 x6 a11 _ (fun u20 w21 => ?_) 100000 0 m3
          exact K_ret (rv := none) dX4_walk_171 trivial rfl rfl
        · refine K_if_eq 80 dX4_walk_68 rfl (fun _ => ?_) (fun _ => ?_)
          · refine K_iload_n 3 dX4_walk_80 rfl ?_
            exact hj12 x3
          · refine K_iload_n 3 dX4_walk_71 rfl ?_
            refine K_aload_n 1 dX4_walk_72 rfl ?_
            refine K_get (v := .int (m1 0 9)) dX4_walk_73 fl_X4_111 kl_1000 rfl rfl ?_
            refine K_iand dX4_walk_76 ?_
            refine K_goto 81 dX4_walk_77 rfl ?_
            exact hj12 (x3 &&& (m1 0 9))
      · refine K_iload 5 dX4_walk_20 rfl ?_
        refine K_aload_n 1 dX4_walk_22 rfl ?_
        refine K_iload 4 dX4_walk_23 rfl ?_
        refine K_iload_n 2 dX4_walk_25 rfl ?_
        refine K_callV (E' := e_X3_minutesBetween_1 m0 m1 m2 m3 m4 m5 m6 m7 m8 m9 m10 m11) (b := 1000) (As := [.int x4, .int x2]) (rest := [.int x5]) dX4_walk_26 ml_X4_107 (mf_X3_minutesBetween 1) mv_X3_minutesBetween (fun hj r hr => c_X3_minutesBetween_1 hj m0 m1 m2 m3 m4 m5 m6 m7 m8 m9 m10 m11 x4 x2 hr) (rcv_obj (q := (RX3, TX3, 18)) kl_1000 rfl) rfl rfl (Nat.le_of_ble_eq_true rfl) (show 1 < d + 4 by omega) (fun r22 => ?_)
        show K G (mi_X4_walk (d + 4)) (e_X4_walk m0 m1 m2 m3 m4 m5 m6 m7 m8 m9 m10 m11) 29 [(0, .ref 3000), (1, .ref 1000), (2, .int x2), (3, .int x3), (4, .int x4), (5, .int x5), (6, .int x6)] [.int r22, .int x5] [m0, m1, m2, m3, m4, m5, m6, m7, m8, m9, m10, m11] _
        refine K_iadd dX4_walk_29 ?_
        refine K_nmi (fun x23 => ?_)
        refine K_istore (lv' := [(7, .int x23), (0, .ref 3000), (1, .ref 1000), (2, .int x2), (3, .int x3), (4, .int x4), (5, .int x5), (6, .int x6)]) dX4_walk_30 (Nat.le_of_ble_eq_true rfl) rfl ?_
        refine K_iload 0 dX4_walk_32 rfl ?_
        refine K_aload_n 1 dX4_walk_34 rfl ?_
        refine K_get (v := .int (m3 0 11)) dX4_walk_35 fl_X4_96 kl_3000 rfl rfl ?_
        refine K_icmp_ge 61 dX4_walk_38 rfl (fun _ => ?_) (fun _ => ?_)
        · exact K_ret (rv := none) dX4_walk_61 trivial rfl rfl
        · refine K_aload_n 1 dX4_walk_41 rfl ?_
          refine K_iload 0 dX4_walk_42 rfl ?_
          refine K_put (Ms' := [m0, m1, m2, (up m3 0 11 x23), m4, m5, m6, m7, m8, m9, m10, m11]) dX4_walk_44 fp_X4_96 kl_3000 rfl rfl rfl (Nat.le_of_ble_eq_true rfl) rfl ?_
          refine K_nmm (fun w => [m0, m1, m2, w, m4, m5, m6, m7, m8, m9, m10, m11]) rfl (fun w24 => ?_)
          refine K_aload_n 1 dX4_walk_47 rfl ?_
          refine K_get (v := .ref 3010) dX4_walk_48 fl_X4_34 kl_3000 rfl rfl ?_
          refine K_iconst (v := 0) dX4_walk_51 (by decide) ?_
          refine K_aload_n 1 dX4_walk_52 rfl ?_
          refine K_get (v := .ref 3011) dX4_walk_53 fl_X4_37 kl_3000 rfl rfl ?_
          refine K_iconst (v := 0) dX4_walk_56 (by decide) ?_
          refine K_iconst (v := 4) dX4_walk_57 (by decide) ?_
          refine K_copy (Ms' := [m0, m1, m2, (upA w24 11 (va_cpy (w24 10) (w24 11) (0 : Int32).toNatClampNeg (0 : Int32).toNatClampNeg (4 : Int32).toNatClampNeg)), m4, m5, m6, m7, m8, m9, m10, m11]) dX4_walk_58 mlk_X4_89 acp.1 acp.2.1 acp.2.2 (show 1 ≤ d + 4 by omega) (Nat.le_of_ble_eq_true rfl) kl_3010 kl_3011 (Nat.le_of_ble_eq_true rfl) rfl ?_
          refine K_nmm (fun w => [m0, m1, m2, w, m4, m5, m6, m7, m8, m9, m10, m11]) rfl (fun w25 => ?_)
          exact K_ret (rv := none) dX4_walk_61 trivial rfl rfl
    · exact K_ret (rv := none) dX4_walk_15 trivial rfl rfl
theorem c_X4_walk {G : GE} : ∀ (n : Nat) (_ : dj G) (m0 m1 m2 m3 m4 m5 m6 m7 m8 m9 m10 m11 : Mem) (x2 : Int32) (x3 : Int32) (x4 : Int32) (x5 : Int32) (x6 : Int32) {r : Mem}, f_X4_walk n m1 m3 x2 x3 x4 x5 x6 = some r → Ctr G yX4_walk (mi_X4_walk (n + 4)) [.ref 3000, .ref 1000, .int x2, .int x3, .int x4, .int x5, .int x6] [m0, m1, m2, m3, m4, m5, m6, m7, m8, m9, m10, m11] ((e_X4_walk m0 m1 m2 m3 m4 m5 m6 m7 m8 m9 m10 m11) r).1 ((e_X4_walk m0 m1 m2 m3 m4 m5 m6 m7 m8 m9 m10 m11) r).2 := by
  intro n
  induction n with
  | zero => intro hj m0 m1 m2 m3 m4 m5 m6 m7 m8 m9 m10 m11 x2 x3 x4 x5 x6 r hr; rw [f_X4_walk] at hr; cases hr
  | succ n ih =>
    intro hj m0 m1 m2 m3 m4 m5 m6 m7 m8 m9 m10 m11 x2 x3 x4 x5 x6 r hr
    rw [f_X4_walk] at hr
    exact Ctr_of hj (by decide) rfl hr rfl (Nat.le_of_ble_eq_true rfl) (k_X4_walk (n + 1) (f_X4_walk n) (fun hj m0 m1 m2 m3 m4 m5 m6 m7 m8 m9 m10 m11 x2 x3 x4 x5 x6 r hr => ih hj m0 m1 m2 m3 m4 m5 m6 m7 m8 m9 m10 m11 x2 x3 x4 x5 x6 hr) m0 m1 m2 m3 m4 m5 m6 m7 m8 m9 m10 m11 x2 x3 x4 x5 x6)
abbrev e_X4_minutesOf (m0 m1 m2 m3 m4 m5 m6 m7 m8 m9 m10 m11 : Mem) : (Int32 × Mem) → Option Value × List Mem := fun r => (some (.int r.1), [m0, m1, m2, r.2, m4, m5, m6, m7, m8, m9, m10, m11])
theorem k_X4_minutesOf {G : GE} (m0 m1 m2 m3 m4 m5 m6 m7 m8 m9 m10 m11 : Mem) (x2 : Int32) (x3 : Int32) : K G (mi_X4_minutesOf 21) (e_X4_minutesOf m0 m1 m2 m3 m4 m5 m6 m7 m8 m9 m10 m11) 0 [(0, .ref 3000), (1, .ref 1000), (2, .int x2), (3, .int x3)] [] [m0, m1, m2, m3, m4, m5, m6, m7, m8, m9, m10, m11] (f_X4_minutesOf m1 m3 x2 x3) := by
  unfold f_X4_minutesOf
  refine K_iload_n 2 dX4_minutesOf_0 rfl ?_
  refine K_bipush (v := 7) dX4_minutesOf_1 (by decide) ?_
  refine K_ishl dX4_minutesOf_3 ?_
  refine K_iload_n 3 dX4_minutesOf_4 rfl ?_
  refine K_ior dX4_minutesOf_5 ?_
  refine K_nmi (fun x11 => ?_)
  refine K_istore (lv' := [(4, .int x11), (0, .ref 3000), (1, .ref 1000), (2, .int x2), (3, .int x3)]) dX4_minutesOf_6 (by decide) rfl ?_
  refine K_aload_n 1 dX4_minutesOf_8 rfl ?_
  refine K_get (v := .ref 3001) dX4_minutesOf_9 fl_X4_9 kl_3000 rfl rfl ?_
  refine K_iload 0 dX4_minutesOf_12 rfl ?_
  refine K_iald (f := m3 1) dX4_minutesOf_14 kl_3001 rfl ?_
  refine K_iconst (v := (-1)) dX4_minutesOf_15 (by decide) ?_
  refine K_icmp_ne 50 dX4_minutesOf_16 rfl (fun _ => ?_) (fun _ => ?_)
  · refine K_aload_n 1 dX4_minutesOf_50 rfl ?_
    refine K_get (v := .ref 3001) dX4_minutesOf_51 fl_X4_9 kl_3000 rfl rfl ?_
    refine K_iload 0 dX4_minutesOf_54 rfl ?_
    refine K_iald (f := m3 1) dX4_minutesOf_56 kl_3001 rfl ?_
    exact K_ret (rv := some (.int (m3 1 x11.toNatClampNeg))) dX4_minutesOf_57 rfl rfl rfl
  · refine K_aload_n 1 dX4_minutesOf_19 rfl ?_
    refine K_ldc (v := 1000000) dX4_minutesOf_20 cst_X4_95 ?_
    refine K_put (Ms' := [m0, m1, m2, (up m3 0 11 1000000), m4, m5, m6, m7, m8, m9, m10, m11]) dX4_minutesOf_22 fp_X4_96 kl_3000 rfl rfl rfl (Nat.le_of_ble_eq_true rfl) rfl ?_
    refine K_nmm (fun w => [m0, m1, m2, w, m4, m5, m6, m7, m8, m9, m10, m11]) rfl (fun w12 => ?_)
    refine K_aload_n 1 dX4_minutesOf_25 rfl ?_
    refine K_aload_n 2 dX4_minutesOf_26 rfl ?_
    refine K_aload_n 2 dX4_minutesOf_27 rfl ?_
    refine K_iload_n 3 dX4_minutesOf_28 rfl ?_
    refine K_callV (E' := e_X3_siteOfOwner_1 m0 m1 m2 w12 m4 m5 m6 m7 m8 m9 m10 m11) (b := 1000) (As := [.int x2]) (rest := [.ref 1000, .ref 3000]) dX4_minutesOf_29 ml_X4_99 (mf_X3_siteOfOwner 1) mv_X3_siteOfOwner (fun hj r hr => c_X3_siteOfOwner_1 hj m0 m1 m2 w12 m4 m5 m6 m7 m8 m9 m10 m11 x2 hr) (rcv_obj (q := (RX3, TX3, 18)) kl_1000 rfl) rfl rfl (Nat.le_of_ble_eq_true rfl) (Nat.le_of_ble_eq_true rfl) (fun r13 => ?_)
    show K G (mi_X4_minutesOf 21) (e_X4_minutesOf m0 m1 m2 m3 m4 m5 m6 m7 m8 m9 m10 m11) 32 [(4, .int x11), (0, .ref 3000), (1, .ref 1000), (2, .int x2), (3, .int x3)] [.int r13, .ref 1000, .ref 3000] [m0, m1, m2, w12, m4, m5, m6, m7, m8, m9, m10, m11] _
    refine K_iload_n 4 dX4_minutesOf_32 rfl ?_
    refine K_iconst (v := 0) dX4_minutesOf_33 (by decide) ?_
    refine K_iconst (v := 0) dX4_minutesOf_34 (by decide) ?_
    refine K_iconst (v := 0) dX4_minutesOf_35 (by decide) ?_
    refine K_callV (E' := e_X4_walk m0 m1 m2 w12 m4 m5 m6 m7 m8 m9 m10 m11) (b := 3000) (As := [.ref 1000, .int r13, .int x3, .int 0, .int 0, .int 0]) (rest := []) dX4_minutesOf_36 ml_X4_102 (mf_X4_walk 20) mv_X4_walk (fun hj r hr => c_X4_walk 16 hj m0 m1 m2 w12 m4 m5 m6 m7 m8 m9 m10 m11 r13 x3 (0 : Int32) (0 : Int32) (0 : Int32) hr) (rcv_obj (q := (RX4, TX4, 12)) kl_3000 rfl) rfl rfl (Nat.le_of_ble_eq_true rfl) (Nat.le_of_ble_eq_true rfl) (fun r14 => ?_)
    show K G (mi_X4_minutesOf 21) (e_X4_minutesOf m0 m1 m2 m3 m4 m5 m6 m7 m8 m9 m10 m11) 39 [(4, .int x11), (0, .ref 3000), (1, .ref 1000), (2, .int x2), (3, .int x3)] [] [m0, m1, m2, r14, m4, m5, m6, m7, m8, m9, m10, m11] _
    refine K_aload_n 1 dX4_minutesOf_39 rfl ?_
    refine K_get (v := .ref 3001) dX4_minutesOf_40 fl_X4_9 kl_3000 rfl rfl ?_
    refine K_iload 0 dX4_minutesOf_43 rfl ?_
    refine K_aload_n 1 dX4_minutesOf_45 rfl ?_
    refine K_get (v := .int (r14 0 11)) dX4_minutesOf_46 fl_X4_96 kl_3000 rfl rfl ?_
    refine K_iast (Ms' := [m0, m1, m2, (up r14 1 x11.toNatClampNeg (r14 0 11)), m4, m5, m6, m7, m8, m9, m10, m11]) dX4_minutesOf_49 kl_3001 (Nat.le_of_ble_eq_true rfl) rfl ?_
    refine K_nmm (fun w => [m0, m1, m2, w, m4, m5, m6, m7, m8, m9, m10, m11]) rfl (fun w15 => ?_)
    refine K_aload_n 1 dX4_minutesOf_50 rfl ?_
    refine K_get (v := .ref 3001) dX4_minutesOf_51 fl_X4_9 kl_3000 rfl rfl ?_
    refine K_iload 0 dX4_minutesOf_54 rfl ?_
    refine K_iald (f := w15 1) dX4_minutesOf_56 kl_3001 rfl ?_
    exact K_ret (rv := some (.int (w15 1 x11.toNatClampNeg))) dX4_minutesOf_57 rfl rfl rfl
theorem c_X4_minutesOf {G : GE} (hj : dj G) (m0 m1 m2 m3 m4 m5 m6 m7 m8 m9 m10 m11 : Mem) (x2 : Int32) (x3 : Int32) {r : Int32 × Mem} (hr : f_X4_minutesOf m1 m3 x2 x3 = some r) : Ctr G yX4_minutesOf (mi_X4_minutesOf 21) [.ref 3000, .ref 1000, .int x2, .int x3] [m0, m1, m2, m3, m4, m5, m6, m7, m8, m9, m10, m11] ((e_X4_minutesOf m0 m1 m2 m3 m4 m5 m6 m7 m8 m9 m10 m11) r).1 ((e_X4_minutesOf m0 m1 m2 m3 m4 m5 m6 m7 m8 m9 m10 m11) r).2 := Ctr_of hj (by decide) rfl hr rfl (Nat.le_of_ble_eq_true rfl) (k_X4_minutesOf m0 m1 m2 m3 m4 m5 m6 m7 m8 m9 m10 m11 x2 x3)
