abbrev e_X1_firstOfMost (m0 m1 m2 m3 m4 m5 m6 m7 m8 m9 m10 m11 : Mem) : Int32 → Option Value × List Mem := fun r => (some (.int r), [m0, m1, m2, m3, m4, m5, m6, m7, m8, m9, m10, m11])
theorem k_X1_firstOfMost_L4 {G : GE} (m0 m1 m2 m3 m4 m5 m6 m7 m8 m9 m10 m11 : Mem) (x1 : Int32) (k : Int32 → Int32 → Option (Int32)) (hk : ∀ (u11 : Int32) (u12 : Int32), K G (mi_X1_firstOfMost 1) (e_X1_firstOfMost m0 m1 m2 m3 m4 m5 m6 m7 m8 m9 m10 m11) 32 [(0, .ref 7000), (1, .int x1), (2, .int u11), (3, .int u12)] [] [m0, m1, m2, m3, m4, m5, m6, m7, m8, m9, m10, m11] (k u11 u12)) : ∀ (t : Nat) (u11 : Int32) (u12 : Int32), K G (mi_X1_firstOfMost 1) (e_X1_firstOfMost m0 m1 m2 m3 m4 m5 m6 m7 m8 m9 m10 m11) 4 [(0, .ref 7000), (1, .int x1), (2, .int u11), (3, .int u12)] [] [m0, m1, m2, m3, m4, m5, m6, m7, m8, m9, m10, m11] (f_X1_firstOfMost_L4 k x1 m7 t u11 u12) := by
  intro t
  induction t with
  | zero => intro u11 u12; exact K_none
  | succ t ih =>
    intro u11 u12
    rw [f_X1_firstOfMost_L4]
    refine K_iload_n 3 dX1_firstOfMost_4 rfl ?_
    refine K_iload_n 1 dX1_firstOfMost_5 rfl ?_
    refine K_icmp_ge 32 dX1_firstOfMost_6 rfl (fun _ => ?_) (fun _ => ?_)
    · refine K_loc [0, 1, 2, 3] (lv' := [(0, .ref 7000), (1, .int x1), (2, .int u11), (3, .int u12)]) rfl ?_
      exact hk u11 u12
    · refine K_aload_n 0 dX1_firstOfMost_9 rfl ?_
      refine K_get (v := .ref 7001) dX1_firstOfMost_10 fl_X1_9 kl_7000 rfl rfl ?_
      refine K_iload_n 3 dX1_firstOfMost_13 rfl ?_
      refine K_iald (f := m7 1) dX1_firstOfMost_14 kl_7001 rfl ?_
      refine K_aload_n 0 dX1_firstOfMost_15 rfl ?_
      refine K_get (v := .ref 7001) dX1_firstOfMost_16 fl_X1_9 kl_7000 rfl rfl ?_
      refine K_iload_n 2 dX1_firstOfMost_19 rfl ?_
      refine K_iald (f := m7 1) dX1_firstOfMost_20 kl_7001 rfl ?_
      refine K_icmp_le 26 dX1_firstOfMost_21 rfl (fun _ => ?_) (fun _ => ?_)
      · refine K_iinc 3 (w := u12 + 1) (lv' := [(3, .int (u12 + 1)), (0, .ref 7000), (1, .int x1), (2, .int u11)]) dX1_firstOfMost_26 rfl rfl (by decide) rfl ?_
        refine K_goto 4 dX1_firstOfMost_29 rfl ?_
        refine K_loc [1, 2, 3, 0] (lv' := [(0, .ref 7000), (1, .int x1), (2, .int u11), (3, .int (u12 + 1))]) rfl ?_
        exact ih u11 (u12 + 1)
      · refine K_iload_n 3 dX1_firstOfMost_24 rfl ?_
        refine K_istore_n (lv' := [(2, .int u12), (0, .ref 7000), (1, .int x1), (3, .int u12)]) dX1_firstOfMost_25 (by decide) rfl ?_
        refine K_iinc 3 (w := u12 + 1) (lv' := [(3, .int (u12 + 1)), (2, .int u12), (0, .ref 7000), (1, .int x1)]) dX1_firstOfMost_26 rfl rfl (by decide) rfl ?_
        refine K_goto 4 dX1_firstOfMost_29 rfl ?_
        refine K_loc [2, 3, 1, 0] (lv' := [(0, .ref 7000), (1, .int x1), (2, .int u12), (3, .int (u12 + 1))]) rfl ?_
        exact ih u12 (u12 + 1)
theorem k_X1_firstOfMost {G : GE} (m0 m1 m2 m3 m4 m5 m6 m7 m8 m9 m10 m11 : Mem) (x1 : Int32) : K G (mi_X1_firstOfMost 1) (e_X1_firstOfMost m0 m1 m2 m3 m4 m5 m6 m7 m8 m9 m10 m11) 0 [(0, .ref 7000), (1, .int x1)] [] [m0, m1, m2, m3, m4, m5, m6, m7, m8, m9, m10, m11] (f_X1_firstOfMost m7 x1) := by
  unfold f_X1_firstOfMost
  refine K_iconst (v := 0) dX1_firstOfMost_0 (by decide) ?_
  refine K_istore_n (lv' := [(2, .int 0), (0, .ref 7000), (1, .int x1)]) dX1_firstOfMost_1 (by decide) rfl ?_
  refine K_iconst (v := 1) dX1_firstOfMost_2 (by decide) ?_
  refine K_istore_n (lv' := [(3, .int 1), (2, .int 0), (0, .ref 7000), (1, .int x1)]) dX1_firstOfMost_3 (by decide) rfl ?_
  refine K_loc [2, 3, 1, 0] (lv' := [(0, .ref 7000), (1, .int x1), (2, .int 0), (3, .int 1)]) rfl ?_
  refine k_X1_firstOfMost_L4  m0 m1 m2 m3 m4 m5 m6 m7 m8 m9 m10 m11 x1 _ (fun u13 u14 => ?_) 100000 0 1
  refine K_iload_n 2 dX1_firstOfMost_32 rfl ?_
  exact K_ret (rv := some (.int u13)) dX1_firstOfMost_33 rfl rfl rfl
theorem c_X1_firstOfMost {G : GE} (hj : dj G) (m0 m1 m2 m3 m4 m5 m6 m7 m8 m9 m10 m11 : Mem) (x1 : Int32) {r : Int32} (hr : f_X1_firstOfMost m7 x1 = some r) : Ctr G yX1_firstOfMost (mi_X1_firstOfMost 1) [.ref 7000, .int x1] [m0, m1, m2, m3, m4, m5, m6, m7, m8, m9, m10, m11] ((e_X1_firstOfMost m0 m1 m2 m3 m4 m5 m6 m7 m8 m9 m10 m11) r).1 ((e_X1_firstOfMost m0 m1 m2 m3 m4 m5 m6 m7 m8 m9 m10 m11) r).2 := Ctr_of hj (by decide) rfl hr rfl (Nat.le_of_ble_eq_true rfl) (k_X1_firstOfMost m0 m1 m2 m3 m4 m5 m6 m7 m8 m9 m10 m11 x1)
abbrev e_X1_missingDrives (m0 m1 m2 m3 m4 m5 m6 m7 m8 m9 m10 m11 : Mem) : Int32 → Option Value × List Mem := fun r => (some (.int r), [m0, m1, m2, m3, m4, m5, m6, m7, m8, m9, m10, m11])
theorem k_X1_missingDrives_L16 {G : GE} (m0 m1 m2 m3 m4 m5 m6 m7 m8 m9 m10 m11 : Mem) (x1 : Int32) (x12 : Int32) (k : Int32 → Int32 → Option (Int32)) (hk : ∀ (u13 : Int32) (u14 : Int32), K G (mi_X1_missingDrives 2) (e_X1_missingDrives m0 m1 m2 m3 m4 m5 m6 m7 m8 m9 m10 m11) 40 [(0, .ref 7000), (1, .int x1), (2, .int x12), (3, .int u13), (4, .int u14)] [] [m0, m1, m2, m3, m4, m5, m6, m7, m8, m9, m10, m11] (k u13 u14)) : ∀ (t : Nat) (u13 : Int32) (u14 : Int32), K G (mi_X1_missingDrives 2) (e_X1_missingDrives m0 m1 m2 m3 m4 m5 m6 m7 m8 m9 m10 m11) 16 [(0, .ref 7000), (1, .int x1), (2, .int x12), (3, .int u13), (4, .int u14)] [] [m0, m1, m2, m3, m4, m5, m6, m7, m8, m9, m10, m11] (f_X1_missingDrives_L16 k x1 m7 x12 t u13 u14) := by
  intro t
  induction t with
  | zero => intro u13 u14; exact K_none
  | succ t ih =>
    intro u13 u14
    rw [f_X1_missingDrives_L16]
    refine K_iload 4 dX1_missingDrives_16 rfl ?_
    refine K_iload_n 1 dX1_missingDrives_18 rfl ?_
    refine K_icmp_ge 40 dX1_missingDrives_19 rfl (fun _ => ?_) (fun _ => ?_)
    · refine K_loc [0, 1, 2, 3, 4] (lv' := [(0, .ref 7000), (1, .int x1), (2, .int x12), (3, .int u13), (4, .int u14)]) rfl ?_
      exact hk u13 u14
    · refine K_iload_n 3 dX1_missingDrives_22 rfl ?_
      refine K_iload_n 2 dX1_missingDrives_23 rfl ?_
      refine K_aload_n 0 dX1_missingDrives_24 rfl ?_
      refine K_get (v := .ref 7001) dX1_missingDrives_25 fl_X1_9 kl_7000 rfl rfl ?_
      refine K_iload 4 dX1_missingDrives_28 rfl ?_
      refine K_iald (f := m7 1) dX1_missingDrives_30 kl_7001 rfl ?_
      refine K_isub dX1_missingDrives_31 ?_
      refine K_iadd dX1_missingDrives_32 ?_
      refine K_nmi (fun x15 => ?_)
      refine K_istore_n (lv' := [(3, .int x15), (0, .ref 7000), (1, .int x1), (2, .int x12), (4, .int u14)]) dX1_missingDrives_33 (by decide) rfl ?_
      refine K_iinc 4 (w := u14 + 1) (lv' := [(4, .int (u14 + 1)), (3, .int x15), (0, .ref 7000), (1, .int x1), (2, .int x12)]) dX1_missingDrives_34 rfl rfl (by decide) rfl ?_
      refine K_goto 16 dX1_missingDrives_37 rfl ?_
      refine K_loc [2, 3, 4, 1, 0] (lv' := [(0, .ref 7000), (1, .int x1), (2, .int x12), (3, .int x15), (4, .int (u14 + 1))]) rfl ?_
      exact ih x15 (u14 + 1)
theorem k_X1_missingDrives {G : GE} (m0 m1 m2 m3 m4 m5 m6 m7 m8 m9 m10 m11 : Mem) (x1 : Int32) : K G (mi_X1_missingDrives 2) (e_X1_missingDrives m0 m1 m2 m3 m4 m5 m6 m7 m8 m9 m10 m11) 0 [(0, .ref 7000), (1, .int x1)] [] [m0, m1, m2, m3, m4, m5, m6, m7, m8, m9, m10, m11] (f_X1_missingDrives m7 x1) := by
  unfold f_X1_missingDrives
  refine K_aload_n 0 dX1_missingDrives_0 rfl ?_
  refine K_get (v := .ref 7001) dX1_missingDrives_1 fl_X1_9 kl_7000 rfl rfl ?_
  refine K_aload_n 0 dX1_missingDrives_4 rfl ?_
  refine K_iload_n 1 dX1_missingDrives_5 rfl ?_
  refine K_callV (E' := e_X1_firstOfMost m0 m1 m2 m3 m4 m5 m6 m7 m8 m9 m10 m11) (b := 7000) (As := [.int x1]) (rest := [.ref 7001]) dX1_missingDrives_6 ml_X1_31 (mf_X1_firstOfMost 1) mv_X1_firstOfMost (fun hj r hr => c_X1_firstOfMost hj m0 m1 m2 m3 m4 m5 m6 m7 m8 m9 m10 m11 x1 hr) (rcv_obj (q := (RX1, TX1, 2)) kl_7000 rfl) rfl rfl (Nat.le_of_ble_eq_true rfl) (Nat.le_of_ble_eq_true rfl) (fun r11 => ?_)
  show K G (mi_X1_missingDrives 2) (e_X1_missingDrives m0 m1 m2 m3 m4 m5 m6 m7 m8 m9 m10 m11) 9 [(0, .ref 7000), (1, .int x1)] [.int r11, .ref 7001] [m0, m1, m2, m3, m4, m5, m6, m7, m8, m9, m10, m11] _
  refine K_iald (f := m7 1) dX1_missingDrives_9 kl_7001 rfl ?_
  refine K_nmi (fun x12 => ?_)
  refine K_istore_n (lv' := [(2, .int x12), (0, .ref 7000), (1, .int x1)]) dX1_missingDrives_10 (by decide) rfl ?_
  refine K_iconst (v := 0) dX1_missingDrives_11 (by decide) ?_
  refine K_istore_n (lv' := [(3, .int 0), (2, .int x12), (0, .ref 7000), (1, .int x1)]) dX1_missingDrives_12 (by decide) rfl ?_
  refine K_iconst (v := 0) dX1_missingDrives_13 (by decide) ?_
  refine K_istore (lv' := [(4, .int 0), (3, .int 0), (2, .int x12), (0, .ref 7000), (1, .int x1)]) dX1_missingDrives_14 (by decide) rfl ?_
  refine K_loc [3, 4, 2, 1, 0] (lv' := [(0, .ref 7000), (1, .int x1), (2, .int x12), (3, .int 0), (4, .int 0)]) rfl ?_
  refine k_X1_missingDrives_L16  m0 m1 m2 m3 m4 m5 m6 m7 m8 m9 m10 m11 x1 x12 _ (fun u16 u17 => ?_) 100000 0 0
  refine K_iload_n 3 dX1_missingDrives_40 rfl ?_
  exact K_ret (rv := some (.int u16)) dX1_missingDrives_41 rfl rfl rfl
theorem c_X1_missingDrives {G : GE} (hj : dj G) (m0 m1 m2 m3 m4 m5 m6 m7 m8 m9 m10 m11 : Mem) (x1 : Int32) {r : Int32} (hr : f_X1_missingDrives m7 x1 = some r) : Ctr G yX1_missingDrives (mi_X1_missingDrives 2) [.ref 7000, .int x1] [m0, m1, m2, m3, m4, m5, m6, m7, m8, m9, m10, m11] ((e_X1_missingDrives m0 m1 m2 m3 m4 m5 m6 m7 m8 m9 m10 m11) r).1 ((e_X1_missingDrives m0 m1 m2 m3 m4 m5 m6 m7 m8 m9 m10 m11) r).2 := Ctr_of hj (by decide) rfl hr rfl (Nat.le_of_ble_eq_true rfl) (k_X1_missingDrives m0 m1 m2 m3 m4 m5 m6 m7 m8 m9 m10 m11 x1)
abbrev e_X1_firstOfFewest (m0 m1 m2 m3 m4 m5 m6 m7 m8 m9 m10 m11 : Mem) : Int32 → Option Value × List Mem := fun r => (some (.int r), [m0, m1, m2, m3, m4, m5, m6, m7, m8, m9, m10, m11])
theorem k_X1_firstOfFewest_L4 {G : GE} (m0 m1 m2 m3 m4 m5 m6 m7 m8 m9 m10 m11 : Mem) (x1 : Int32) (k : Int32 → Int32 → Option (Int32)) (hk : ∀ (u11 : Int32) (u12 : Int32), K G (mi_X1_firstOfFewest 1) (e_X1_firstOfFewest m0 m1 m2 m3 m4 m5 m6 m7 m8 m9 m10 m11) 32 [(0, .ref 7000), (1, .int x1), (2, .int u11), (3, .int u12)] [] [m0, m1, m2, m3, m4, m5, m6, m7, m8, m9, m10, m11] (k u11 u12)) : ∀ (t : Nat) (u11 : Int32) (u12 : Int32), K G (mi_X1_firstOfFewest 1) (e_X1_firstOfFewest m0 m1 m2 m3 m4 m5 m6 m7 m8 m9 m10 m11) 4 [(0, .ref 7000), (1, .int x1), (2, .int u11), (3, .int u12)] [] [m0, m1, m2, m3, m4, m5, m6, m7, m8, m9, m10, m11] (f_X1_firstOfFewest_L4 k x1 m7 t u11 u12) := by
  intro t
  induction t with
  | zero => intro u11 u12; exact K_none
  | succ t ih =>
    intro u11 u12
    rw [f_X1_firstOfFewest_L4]
    refine K_iload_n 3 dX1_firstOfFewest_4 rfl ?_
    refine K_iload_n 1 dX1_firstOfFewest_5 rfl ?_
    refine K_icmp_ge 32 dX1_firstOfFewest_6 rfl (fun _ => ?_) (fun _ => ?_)
    · refine K_loc [0, 1, 2, 3] (lv' := [(0, .ref 7000), (1, .int x1), (2, .int u11), (3, .int u12)]) rfl ?_
      exact hk u11 u12
    · refine K_aload_n 0 dX1_firstOfFewest_9 rfl ?_
      refine K_get (v := .ref 7001) dX1_firstOfFewest_10 fl_X1_9 kl_7000 rfl rfl ?_
      refine K_iload_n 3 dX1_firstOfFewest_13 rfl ?_
      refine K_iald (f := m7 1) dX1_firstOfFewest_14 kl_7001 rfl ?_
      refine K_aload_n 0 dX1_firstOfFewest_15 rfl ?_
      refine K_get (v := .ref 7001) dX1_firstOfFewest_16 fl_X1_9 kl_7000 rfl rfl ?_
      refine K_iload_n 2 dX1_firstOfFewest_19 rfl ?_
      refine K_iald (f := m7 1) dX1_firstOfFewest_20 kl_7001 rfl ?_
      refine K_icmp_ge 26 dX1_firstOfFewest_21 rfl (fun _ => ?_) (fun _ => ?_)
      · refine K_iinc 3 (w := u12 + 1) (lv' := [(3, .int (u12 + 1)), (0, .ref 7000), (1, .int x1), (2, .int u11)]) dX1_firstOfFewest_26 rfl rfl (by decide) rfl ?_
        refine K_goto 4 dX1_firstOfFewest_29 rfl ?_
        refine K_loc [1, 2, 3, 0] (lv' := [(0, .ref 7000), (1, .int x1), (2, .int u11), (3, .int (u12 + 1))]) rfl ?_
        exact ih u11 (u12 + 1)
      · refine K_iload_n 3 dX1_firstOfFewest_24 rfl ?_
        refine K_istore_n (lv' := [(2, .int u12), (0, .ref 7000), (1, .int x1), (3, .int u12)]) dX1_firstOfFewest_25 (by decide) rfl ?_
        refine K_iinc 3 (w := u12 + 1) (lv' := [(3, .int (u12 + 1)), (2, .int u12), (0, .ref 7000), (1, .int x1)]) dX1_firstOfFewest_26 rfl rfl (by decide) rfl ?_
        refine K_goto 4 dX1_firstOfFewest_29 rfl ?_
        refine K_loc [2, 3, 1, 0] (lv' := [(0, .ref 7000), (1, .int x1), (2, .int u12), (3, .int (u12 + 1))]) rfl ?_
        exact ih u12 (u12 + 1)
theorem k_X1_firstOfFewest {G : GE} (m0 m1 m2 m3 m4 m5 m6 m7 m8 m9 m10 m11 : Mem) (x1 : Int32) : K G (mi_X1_firstOfFewest 1) (e_X1_firstOfFewest m0 m1 m2 m3 m4 m5 m6 m7 m8 m9 m10 m11) 0 [(0, .ref 7000), (1, .int x1)] [] [m0, m1, m2, m3, m4, m5, m6, m7, m8, m9, m10, m11] (f_X1_firstOfFewest m7 x1) := by
  unfold f_X1_firstOfFewest
  refine K_iconst (v := 0) dX1_firstOfFewest_0 (by decide) ?_
  refine K_istore_n (lv' := [(2, .int 0), (0, .ref 7000), (1, .int x1)]) dX1_firstOfFewest_1 (by decide) rfl ?_
  refine K_iconst (v := 1) dX1_firstOfFewest_2 (by decide) ?_
  refine K_istore_n (lv' := [(3, .int 1), (2, .int 0), (0, .ref 7000), (1, .int x1)]) dX1_firstOfFewest_3 (by decide) rfl ?_
  refine K_loc [2, 3, 1, 0] (lv' := [(0, .ref 7000), (1, .int x1), (2, .int 0), (3, .int 1)]) rfl ?_
  refine k_X1_firstOfFewest_L4  m0 m1 m2 m3 m4 m5 m6 m7 m8 m9 m10 m11 x1 _ (fun u13 u14 => ?_) 100000 0 1
  refine K_iload_n 2 dX1_firstOfFewest_32 rfl ?_
  exact K_ret (rv := some (.int u13)) dX1_firstOfFewest_33 rfl rfl rfl
theorem c_X1_firstOfFewest {G : GE} (hj : dj G) (m0 m1 m2 m3 m4 m5 m6 m7 m8 m9 m10 m11 : Mem) (x1 : Int32) {r : Int32} (hr : f_X1_firstOfFewest m7 x1 = some r) : Ctr G yX1_firstOfFewest (mi_X1_firstOfFewest 1) [.ref 7000, .int x1] [m0, m1, m2, m3, m4, m5, m6, m7, m8, m9, m10, m11] ((e_X1_firstOfFewest m0 m1 m2 m3 m4 m5 m6 m7 m8 m9 m10 m11) r).1 ((e_X1_firstOfFewest m0 m1 m2 m3 m4 m5 m6 m7 m8 m9 m10 m11) r).2 := Ctr_of hj (by decide) rfl hr rfl (Nat.le_of_ble_eq_true rfl) (k_X1_firstOfFewest m0 m1 m2 m3 m4 m5 m6 m7 m8 m9 m10 m11 x1)
abbrev e_X7_turn (m0 m1 m2 m3 m4 m5 m6 m7 m8 m9 m10 m11 : Mem) : (Int32 × Mem × Mem) → Option Value × List Mem := fun r => (some (.int r.1), [m0, m1, m2, m3, m4, m5, m6, r.2.1, m8, m9, m10, r.2.2])
theorem k_X7_turn {G : GE} (m0 m1 m2 m3 m4 m5 m6 m7 m8 m9 m10 m11 : Mem) (x1 : Int32) (x2 : Int32) (x3 : Int32) (h7 : m11 0 7 = 1) : K G (mi_X7_turn 3) (e_X7_turn m0 m1 m2 m3 m4 m5 m6 m7 m8 m9 m10 m11) 0 [(0, .ref 11000), (1, .int x1), (2, .int x2), (3, .int x3)] [] [m0, m1, m2, m3, m4, m5, m6, m7, m8, m9, m10, m11] (f_X7_turn m1 m5 m7 m11 x1 x2 x3) := by
  unfold f_X7_turn
  refine K_aload_n 0 dX7_turn_0 rfl ?_
  refine K_get (v := .ref 1000) dX7_turn_1 fl_X7_58 kl_11000 rfl (nd_ref h7) ?_
  refine K_get (v := .int (m1 0 6)) dX7_turn_4 fl_X7_122 kl_1000 rfl rfl ?_
  refine K_if_ne 13 dX7_turn_7 rfl (fun _ => ?_) (fun _ => ?_)
  · refine K_iload_n 1 dX7_turn_13 rfl ?_
    refine K_callS (E' := e_X7_isRow [m0, m1, m2, m3, m4, m5, m6, m7, m8, m9, m10, m11]) (As := [.int x1]) (rest := []) dX7_turn_14 ml_X7_69 (mf_X7_isRow 1) ms_X7_isRow (fun hj r hr => c_X7_isRow hj [m0, m1, m2, m3, m4, m5, m6, m7, m8, m9, m10, m11] x1 hr) rfl rfl (Nat.le_of_ble_eq_true rfl) (Nat.le_of_ble_eq_true rfl) (fun r11 => ?_)
    show K G (mi_X7_turn 3) (e_X7_turn m0 m1 m2 m3 m4 m5 m6 m7 m8 m9 m10 m11) 17 [(0, .ref 11000), (1, .int x1), (2, .int x2), (3, .int x3)] [.int r11] [m0, m1, m2, m3, m4, m5, m6, m7, m8, m9, m10, m11] _
    refine K_if_eq 39 dX7_turn_17 rfl (fun _ => ?_) (fun _ => ?_)
    · refine K_ldc (v := (-1000001)) dX7_turn_39 cst_X7_73 ?_
      exact K_ret (rv := some (.int (-1000001))) dX7_turn_41 rfl rfl rfl
    · refine K_iload_n 2 dX7_turn_20 rfl ?_
      refine K_if_lt 39 dX7_turn_21 rfl (fun _ => ?_) (fun _ => ?_)
      · refine K_ldc (v := (-1000001)) dX7_turn_39 cst_X7_73 ?_
        exact K_ret (rv := some (.int (-1000001))) dX7_turn_41 rfl rfl rfl
      · refine K_iload_n 2 dX7_turn_24 rfl ?_
        refine K_bipush (v := 40) dX7_turn_25 (by decide) ?_
        refine K_icmp_gt 39 dX7_turn_27 rfl (fun _ => ?_) (fun _ => ?_)
        · refine K_ldc (v := (-1000001)) dX7_turn_39 cst_X7_73 ?_
          exact K_ret (rv := some (.int (-1000001))) dX7_turn_41 rfl rfl rfl
        · refine K_iload_n 3 dX7_turn_30 rfl ?_
          refine K_if_lt 39 dX7_turn_31 rfl (fun _ => ?_) (fun _ => ?_)
          · refine K_ldc (v := (-1000001)) dX7_turn_39 cst_X7_73 ?_
            exact K_ret (rv := some (.int (-1000001))) dX7_turn_41 rfl rfl rfl
          · refine K_iload_n 3 dX7_turn_34 rfl ?_
            refine K_iconst (v := 2) dX7_turn_35 (by decide) ?_
            refine K_icmp_le 42 dX7_turn_36 rfl (fun _ => ?_) (fun _ => ?_)
            · refine K_aload_n 0 dX7_turn_42 rfl ?_
              refine K_get (v := .ref 5000) dX7_turn_43 fl_X7_10 kl_11000 rfl rfl ?_
              refine K_iload_n 1 dX7_turn_46 rfl ?_
              refine K_callV (E' := e_X6_isMissing m0 m1 m2 m3 m4 m5 m6 m7 m8 m9 m10 m11) (b := 5000) (As := [.int x1]) (rest := []) dX7_turn_47 ml_X7_85 (mf_X6_isMissing 1) mv_X6_isMissing (fun hj r hr => c_X6_isMissing hj m0 m1 m2 m3 m4 m5 m6 m7 m8 m9 m10 m11 x1 hr) (rcv_obj (q := (RX6, TX6, 3)) kl_5000 rfl) rfl rfl (Nat.le_of_ble_eq_true rfl) (Nat.le_of_ble_eq_true rfl) (fun r12 => ?_)
              show K G (mi_X7_turn 3) (e_X7_turn m0 m1 m2 m3 m4 m5 m6 m7 m8 m9 m10 m11) 50 [(0, .ref 11000), (1, .int x1), (2, .int x2), (3, .int x3)] [.int r12] [m0, m1, m2, m3, m4, m5, m6, m7, m8, m9, m10, m11] _
              refine K_if_eq 59 dX7_turn_50 rfl (fun _ => ?_) (fun _ => ?_)
              · refine K_aload_n 0 dX7_turn_59 rfl ?_
                refine K_get (v := .ref 5000) dX7_turn_60 fl_X7_10 kl_11000 rfl rfl ?_
                refine K_iload_n 1 dX7_turn_63 rfl ?_
                refine K_iconst (v := 0) dX7_turn_64 (by decide) ?_
                refine K_iload_n 2 dX7_turn_65 rfl ?_
                refine K_callV (E' := e_X6_hasStretch m0 m1 m2 m3 m4 m5 m6 m7 m8 m9 m10 m11) (b := 5000) (As := [.int x1, .int 0, .int x2]) (rest := []) dX7_turn_66 ml_X7_88 (mf_X6_hasStretch 1) mv_X6_hasStretch (fun hj r hr => c_X6_hasStretch hj m0 m1 m2 m3 m4 m5 m6 m7 m8 m9 m10 m11 x1 (0 : Int32) x2 hr) (rcv_obj (q := (RX6, TX6, 3)) kl_5000 rfl) rfl rfl (Nat.le_of_ble_eq_true rfl) (Nat.le_of_ble_eq_true rfl) (fun r13 => ?_)
                show K G (mi_X7_turn 3) (e_X7_turn m0 m1 m2 m3 m4 m5 m6 m7 m8 m9 m10 m11) 69 [(0, .ref 11000), (1, .int x1), (2, .int x2), (3, .int x3)] [.int r13] [m0, m1, m2, m3, m4, m5, m6, m7, m8, m9, m10, m11] _
                refine K_if_ne 78 dX7_turn_69 rfl (fun _ => ?_) (fun _ => ?_)
                · refine K_aload_n 0 dX7_turn_78 rfl ?_
                  refine K_get (v := .ref 7000) dX7_turn_79 fl_X7_47 kl_11000 rfl rfl ?_
                  refine K_aload_n 0 dX7_turn_82 rfl ?_
                  refine K_get (v := .ref 5000) dX7_turn_83 fl_X7_10 kl_11000 rfl rfl ?_
                  refine K_iload_n 1 dX7_turn_86 rfl ?_
                  refine K_iload_n 2 dX7_turn_87 rfl ?_
                  refine K_aload_n 0 dX7_turn_88 rfl ?_
                  refine K_get (v := .ref 1000) dX7_turn_89 fl_X7_58 kl_11000 rfl (nd_ref h7) ?_
                  refine K_get (v := .int (m1 0 6)) dX7_turn_92 fl_X7_122 kl_1000 rfl rfl ?_
                  refine K_callV (E' := e_X1_countDrives m0 m1 m2 m3 m4 m5 m6 m7 m8 m9 m10 m11) (b := 7000) (As := [.ref 5000, .int x1, .int x2, .int (m1 0 6)]) (rest := []) dX7_turn_95 ml_X7_238 (mf_X1_countDrives 2) mv_X1_countDrives (fun hj r hr => c_X1_countDrives hj m0 m1 m2 m3 m4 m5 m6 m7 m8 m9 m10 m11 x1 x2 (m1 0 6) hr) (rcv_obj (q := (RX1, TX1, 2)) kl_7000 rfl) rfl rfl (Nat.le_of_ble_eq_true rfl) (Nat.le_of_ble_eq_true rfl) (fun r14 => ?_)
                  show K G (mi_X7_turn 3) (e_X7_turn m0 m1 m2 m3 m4 m5 m6 m7 m8 m9 m10 m11) 98 [(0, .ref 11000), (1, .int x1), (2, .int x2), (3, .int x3)] [.int r14.1] [m0, m1, m2, m3, m4, m5, m6, r14.2, m8, m9, m10, m11] _
                  refine K_if_ne 104 dX7_turn_98 rfl (fun _ => ?_) (fun _ => ?_)
                  · refine K_iload_n 3 dX7_turn_104 rfl ?_
                    refine K_iconst (v := 2) dX7_turn_105 (by decide) ?_
                    refine K_icmp_ne 128 dX7_turn_106 rfl (fun _ => ?_) (fun _ => ?_)
                    · refine K_aload_n 0 dX7_turn_128 rfl ?_
                      refine K_get (v := .ref 7000) dX7_turn_129 fl_X7_47 kl_11000 rfl rfl ?_
                      refine K_aload_n 0 dX7_turn_132 rfl ?_
                      refine K_get (v := .ref 1000) dX7_turn_133 fl_X7_58 kl_11000 rfl (nd_ref h7) ?_
                      refine K_get (v := .int (m1 0 6)) dX7_turn_136 fl_X7_122 kl_1000 rfl rfl ?_
                      refine K_callV (E' := e_X1_firstOfFewest m0 m1 m2 m3 m4 m5 m6 r14.2 m8 m9 m10 m11) (b := 7000) (As := [.int (m1 0 6)]) (rest := []) dX7_turn_139 ml_X7_245 (mf_X1_firstOfFewest 1) mv_X1_firstOfFewest (fun hj r hr => c_X1_firstOfFewest hj m0 m1 m2 m3 m4 m5 m6 r14.2 m8 m9 m10 m11 (m1 0 6) hr) (rcv_obj (q := (RX1, TX1, 2)) kl_7000 rfl) rfl rfl (Nat.le_of_ble_eq_true rfl) (Nat.le_of_ble_eq_true rfl) (fun r15 => ?_)
                      show K G (mi_X7_turn 3) (e_X7_turn m0 m1 m2 m3 m4 m5 m6 m7 m8 m9 m10 m11) 142 [(0, .ref 11000), (1, .int x1), (2, .int x2), (3, .int x3)] [.int r15] [m0, m1, m2, m3, m4, m5, m6, r14.2, m8, m9, m10, m11] _
                      refine K_istore (lv' := [(4, .int r15), (0, .ref 11000), (1, .int x1), (2, .int x2), (3, .int x3)]) dX7_turn_142 (by decide) rfl ?_
                      refine K_aload_n 1 dX7_turn_144 rfl ?_
                      refine K_iload_n 4 dX7_turn_145 rfl ?_
                      refine K_if_ne 154 dX7_turn_146 rfl (fun _ => ?_) (fun _ => ?_)
                      · refine K_aload_n 1 dX7_turn_154 rfl ?_
                        refine K_get (v := .ref 7000) dX7_turn_155 fl_X7_47 kl_11000 rfl rfl ?_
                        refine K_get (v := .ref 7001) dX7_turn_158 fl_X7_248 kl_7000 rfl rfl ?_
                        refine K_iload 0 dX7_turn_161 rfl ?_
                        refine K_iald (f := r14.2 1) dX7_turn_163 kl_7001 rfl ?_
                        refine K_callV (E' := e_X7_fine m0 m1 m2 m3 m4 m5 m6 r14.2 m8 m9 m10 m11) (b := 11000) (As := [.int (r14.2 1 r15.toNatClampNeg)]) (rest := []) dX7_turn_164 ml_X7_82 (mf_X7_fine 1) mv_X7_fine (fun hj r hr => c_X7_fine hj m0 m1 m2 m3 m4 m5 m6 r14.2 m8 m9 m10 m11 (r14.2 1 r15.toNatClampNeg) hr) (rcv_obj (q := (RX7, TX7, 10)) kl_11000 rfl) rfl rfl (Nat.le_of_ble_eq_true rfl) (Nat.le_of_ble_eq_true rfl) (fun r16 => ?_)
                        show K G (mi_X7_turn 3) (e_X7_turn m0 m1 m2 m3 m4 m5 m6 m7 m8 m9 m10 m11) 167 [(4, .int r15), (0, .ref 11000), (1, .int x1), (2, .int x2), (3, .int x3)] [.int r16.1] [m0, m1, m2, m3, m4, m5, m6, r14.2, m8, m9, m10, r16.2] _
                        exact K_ret (rv := some (.int r16.1)) dX7_turn_167 rfl rfl rfl
                      · refine K_iload 0 dX7_turn_149 rfl ?_
                        refine K_goto 164 dX7_turn_151 rfl ?_
                        refine K_callV (E' := e_X7_fine m0 m1 m2 m3 m4 m5 m6 r14.2 m8 m9 m10 m11) (b := 11000) (As := [.int r15]) (rest := []) dX7_turn_164 ml_X7_82 (mf_X7_fine 1) mv_X7_fine (fun hj r hr => c_X7_fine hj m0 m1 m2 m3 m4 m5 m6 r14.2 m8 m9 m10 m11 r15 hr) (rcv_obj (q := (RX7, TX7, 10)) kl_11000 rfl) rfl rfl (Nat.le_of_ble_eq_true rfl) (Nat.le_of_ble_eq_true rfl) (fun r17 => ?_)
                        show K G (mi_X7_turn 3) (e_X7_turn m0 m1 m2 m3 m4 m5 m6 m7 m8 m9 m10 m11) 167 [(4, .int r15), (0, .ref 11000), (1, .int x1), (2, .int x2), (3, .int x3)] [.int r17.1] [m0, m1, m2, m3, m4, m5, m6, r14.2, m8, m9, m10, r17.2] _
                        exact K_ret (rv := some (.int r17.1)) dX7_turn_167 rfl rfl rfl
                    · refine K_aload_n 0 dX7_turn_109 rfl ?_
                      refine K_aload_n 0 dX7_turn_110 rfl ?_
                      refine K_get (v := .ref 7000) dX7_turn_111 fl_X7_47 kl_11000 rfl rfl ?_
                      refine K_aload_n 0 dX7_turn_114 rfl ?_
                      refine K_get (v := .ref 1000) dX7_turn_115 fl_X7_58 kl_11000 rfl (nd_ref h7) ?_
                      refine K_get (v := .int (m1 0 6)) dX7_turn_118 fl_X7_122 kl_1000 rfl rfl ?_
                      refine K_callV (E' := e_X1_missingDrives m0 m1 m2 m3 m4 m5 m6 r14.2 m8 m9 m10 m11) (b := 7000) (As := [.int (m1 0 6)]) (rest := [.ref 11000]) dX7_turn_121 ml_X7_242 (mf_X1_missingDrives 2) mv_X1_missingDrives (fun hj r hr => c_X1_missingDrives hj m0 m1 m2 m3 m4 m5 m6 r14.2 m8 m9 m10 m11 (m1 0 6) hr) (rcv_obj (q := (RX1, TX1, 2)) kl_7000 rfl) rfl rfl (Nat.le_of_ble_eq_true rfl) (Nat.le_of_ble_eq_true rfl) (fun r18 => ?_)
                      show K G (mi_X7_turn 3) (e_X7_turn m0 m1 m2 m3 m4 m5 m6 m7 m8 m9 m10 m11) 124 [(0, .ref 11000), (1, .int x1), (2, .int x2), (3, .int x3)] [.int r18, .ref 11000] [m0, m1, m2, m3, m4, m5, m6, r14.2, m8, m9, m10, m11] _
                      refine K_callV (E' := e_X7_fine m0 m1 m2 m3 m4 m5 m6 r14.2 m8 m9 m10 m11) (b := 11000) (As := [.int r18]) (rest := []) dX7_turn_124 ml_X7_82 (mf_X7_fine 1) mv_X7_fine (fun hj r hr => c_X7_fine hj m0 m1 m2 m3 m4 m5 m6 r14.2 m8 m9 m10 m11 r18 hr) (rcv_obj (q := (RX7, TX7, 10)) kl_11000 rfl) rfl rfl (Nat.le_of_ble_eq_true rfl) (Nat.le_of_ble_eq_true rfl) (fun r19 => ?_)
                      show K G (mi_X7_turn 3) (e_X7_turn m0 m1 m2 m3 m4 m5 m6 m7 m8 m9 m10 m11) 127 [(0, .ref 11000), (1, .int x1), (2, .int x2), (3, .int x3)] [.int r19.1] [m0, m1, m2, m3, m4, m5, m6, r14.2, m8, m9, m10, r19.2] _
                      exact K_ret (rv := some (.int r19.1)) dX7_turn_127 rfl rfl rfl
                  · refine K_ldc (v := (-1000001)) dX7_turn_101 cst_X7_73 ?_
                    exact K_ret (rv := some (.int (-1000001))) dX7_turn_103 rfl rfl rfl
                · refine K_aload_n 0 dX7_turn_72 rfl ?_
                  refine K_iconst (v := 2) dX7_turn_73 (by decide) ?_
                  refine K_callV (E' := e_X7_found m0 m1 m2 m3 m4 m5 m6 m7 m8 m9 m10 m11) (b := 11000) (As := [.int 2]) (rest := []) dX7_turn_74 ml_X7_74 (mf_X7_found 1) mv_X7_found (fun hj r hr => c_X7_found hj m0 m1 m2 m3 m4 m5 m6 m7 m8 m9 m10 m11 (2 : Int32) hr) (rcv_obj (q := (RX7, TX7, 10)) kl_11000 rfl) rfl rfl (Nat.le_of_ble_eq_true rfl) (Nat.le_of_ble_eq_true rfl) (fun r20 => ?_)
                  show K G (mi_X7_turn 3) (e_X7_turn m0 m1 m2 m3 m4 m5 m6 m7 m8 m9 m10 m11) 77 [(0, .ref 11000), (1, .int x1), (2, .int x2), (3, .int x3)] [.int r20.1] [m0, m1, m2, m3, m4, m5, m6, m7, m8, m9, m10, r20.2] _
                  exact K_ret (rv := some (.int r20.1)) dX7_turn_77 rfl rfl rfl
              · refine K_aload_n 0 dX7_turn_53 rfl ?_
                refine K_iconst (v := 1) dX7_turn_54 (by decide) ?_
                refine K_callV (E' := e_X7_found m0 m1 m2 m3 m4 m5 m6 m7 m8 m9 m10 m11) (b := 11000) (As := [.int 1]) (rest := []) dX7_turn_55 ml_X7_74 (mf_X7_found 1) mv_X7_found (fun hj r hr => c_X7_found hj m0 m1 m2 m3 m4 m5 m6 m7 m8 m9 m10 m11 (1 : Int32) hr) (rcv_obj (q := (RX7, TX7, 10)) kl_11000 rfl) rfl rfl (Nat.le_of_ble_eq_true rfl) (Nat.le_of_ble_eq_true rfl) (fun r21 => ?_)
                show K G (mi_X7_turn 3) (e_X7_turn m0 m1 m2 m3 m4 m5 m6 m7 m8 m9 m10 m11) 58 [(0, .ref 11000), (1, .int x1), (2, .int x2), (3, .int x3)] [.int r21.1] [m0, m1, m2, m3, m4, m5, m6, m7, m8, m9, m10, r21.2] _
                exact K_ret (rv := some (.int r21.1)) dX7_turn_58 rfl rfl rfl
            · refine K_ldc (v := (-1000001)) dX7_turn_39 cst_X7_73 ?_
              exact K_ret (rv := some (.int (-1000001))) dX7_turn_41 rfl rfl rfl
  · refine K_ldc (v := (-1000002)) dX7_turn_10 cst_X7_143 ?_
    exact K_ret (rv := some (.int (-1000002))) dX7_turn_12 rfl rfl rfl
theorem c_X7_turn {G : GE} (hj : dj G) (m0 m1 m2 m3 m4 m5 m6 m7 m8 m9 m10 m11 : Mem) (x1 : Int32) (x2 : Int32) (x3 : Int32) (h7 : m11 0 7 = 1) {r : Int32 × Mem × Mem} (hr : f_X7_turn m1 m5 m7 m11 x1 x2 x3 = some r) : Ctr G yX7_turn (mi_X7_turn 3) [.ref 11000, .int x1, .int x2, .int x3] [m0, m1, m2, m3, m4, m5, m6, m7, m8, m9, m10, m11] ((e_X7_turn m0 m1 m2 m3 m4 m5 m6 m7 m8 m9 m10 m11) r).1 ((e_X7_turn m0 m1 m2 m3 m4 m5 m6 m7 m8 m9 m10 m11) r).2 := Ctr_of hj (by decide) rfl hr rfl (Nat.le_of_ble_eq_true rfl) (k_X7_turn m0 m1 m2 m3 m4 m5 m6 m7 m8 m9 m10 m11 x1 x2 x3 h7)
abbrev e_X1_countSitters (m0 m1 m2 m3 m4 m5 m6 m7 m8 m9 m10 m11 : Mem) : (Int32 × Mem) → Option Value × List Mem := fun r => (some (.int r.1), [m0, m1, m2, m3, m4, m5, m6, r.2, m8, m9, m10, m11])
theorem k_X1_countSitters_L66 {G : GE} (m0 m1 m2 m3 m4 m5 m6 m7 m8 m9 m10 m11 : Mem) (x4 : Int32) (r16 : Int32) (x2 : Int32) (x3 : Int32) (x12 : Int32) (u14 : Int32) (k : Int32 → Mem → Option (Int32 × Mem)) (hk : ∀ (u18 : Int32) (w19 : Mem), K G (mi_X1_countSitters 2) (e_X1_countSitters m0 m1 m2 m3 m4 m5 m6 m7 m8 m9 m10 m11) 96 [(0, .ref 7000), (1, .ref 5000), (2, .int x2), (3, .int x3), (4, .int x4), (5, .int x12), (6, .int u14), (7, .int r16), (8, .int u18)] [] [m0, m1, m2, m3, m4, m5, m6, w19, m8, m9, m10, m11] (k u18 w19)) : ∀ (t : Nat) (u18 : Int32) (w19 : Mem), K G (mi_X1_countSitters 2) (e_X1_countSitters m0 m1 m2 m3 m4 m5 m6 m7 m8 m9 m10 m11) 66 [(0, .ref 7000), (1, .ref 5000), (2, .int x2), (3, .int x3), (4, .int x4), (5, .int x12), (6, .int u14), (7, .int r16), (8, .int u18)] [] [m0, m1, m2, m3, m4, m5, m6, w19, m8, m9, m10, m11] (f_X1_countSitters_L66 k x4 r16 t u18 w19) := by
  intro t
  induction t with
  | zero => intro u18 w19; exact K_none
  | succ t ih =>
    intro u18 w19
    rw [f_X1_countSitters_L66]
    refine K_iload 8 dX1_countSitters_66 rfl ?_
    refine K_iload 4 dX1_countSitters_68 rfl ?_
    refine K_icmp_ge 96 dX1_countSitters_70 rfl (fun _ => ?_) (fun _ => ?_)
    · refine K_loc [0, 1, 2, 3, 4, 5, 6, 7, 8] (lv' := [(0, .ref 7000), (1, .ref 5000), (2, .int x2), (3, .int x3), (4, .int x4), (5, .int x12), (6, .int u14), (7, .int r16), (8, .int u18)]) rfl ?_
      exact hk u18 w19
    · refine K_aload_n 0 dX1_countSitters_73 rfl ?_
      refine K_get (v := .ref 7001) dX1_countSitters_74 fl_X1_9 kl_7000 rfl rfl ?_
      refine K_iload 8 dX1_countSitters_77 rfl ?_
      refine K_dup2 dX1_countSitters_79 rfl rfl ?_
      refine K_iald (f := w19 1) dX1_countSitters_80 kl_7001 rfl ?_
      refine K_iload 7 dX1_countSitters_81 rfl ?_
      refine K_iload 8 dX1_countSitters_83 rfl ?_
      refine K_ishr dX1_countSitters_85 ?_
      refine K_iconst (v := 1) dX1_countSitters_86 (by decide) ?_
      refine K_iand dX1_countSitters_87 ?_
      refine K_iadd dX1_countSitters_88 ?_
      refine K_iast (Ms' := [m0, m1, m2, m3, m4, m5, m6, (up w19 1 u18.toNatClampNeg ((w19 1 u18.toNatClampNeg) + ((r16 >>> (u18 &&& 31)) &&& 1))), m8, m9, m10, m11]) dX1_countSitters_89 kl_7001 (Nat.le_of_ble_eq_true rfl) rfl ?_
      refine K_nmm (fun w => [m0, m1, m2, m3, m4, m5, m6, w, m8, m9, m10, m11]) rfl (fun w20 => ?_)
      refine K_iinc 8 (w := u18 + 1) (lv' := [(8, .int (u18 + 1)), (0, .ref 7000), (1, .ref 5000), (2, .int x2), (3, .int x3), (4, .int x4), (5, .int x12), (6, .int u14), (7, .int r16)]) dX1_countSitters_90 rfl rfl (by decide) rfl ?_
      refine K_goto 66 dX1_countSitters_93 rfl ?_
      refine K_loc [1, 2, 3, 4, 5, 6, 7, 8, 0] (lv' := [(0, .ref 7000), (1, .ref 5000), (2, .int x2), (3, .int x3), (4, .int x4), (5, .int x12), (6, .int u14), (7, .int r16), (8, .int (u18 + 1))]) rfl ?_
      exact ih (u18 + 1) w20
theorem k_X1_countSitters_L25 {G : GE} (m0 m1 m2 m3 m4 m5 m6 m7 m8 m9 m10 m11 : Mem) (x2 : Int32) (x3 : Int32) (x4 : Int32) (x12 : Int32) (k : Int32 → Mem → Option (Int32 × Mem)) (hk : ∀ (u14 : Int32) (w15 : Mem), K G (mi_X1_countSitters 2) (e_X1_countSitters m0 m1 m2 m3 m4 m5 m6 m7 m8 m9 m10 m11) 102 [(0, .ref 7000), (1, .ref 5000), (2, .int x2), (3, .int x3), (4, .int x4), (5, .int x12), (6, .int u14)] [] [m0, m1, m2, m3, m4, m5, m6, w15, m8, m9, m10, m11] (k u14 w15)) : ∀ (t : Nat) (u14 : Int32) (w15 : Mem), K G (mi_X1_countSitters 2) (e_X1_countSitters m0 m1 m2 m3 m4 m5 m6 m7 m8 m9 m10 m11) 25 [(0, .ref 7000), (1, .ref 5000), (2, .int x2), (3, .int x3), (4, .int x4), (5, .int x12), (6, .int u14)] [] [m0, m1, m2, m3, m4, m5, m6, w15, m8, m9, m10, m11] (f_X1_countSitters_L25 k x2 x3 x4 m5 x12 t u14 w15) := by
  intro t
  induction t with
  | zero => intro u14 w15; exact K_none
  | succ t ih =>
    intro u14 w15
    rw [f_X1_countSitters_L25]
    refine K_iload 6 dX1_countSitters_25 rfl ?_
    refine K_iload_n 3 dX1_countSitters_27 rfl ?_
    refine K_icmp_ge 102 dX1_countSitters_28 rfl (fun _ => ?_) (fun _ => ?_)
    · refine K_loc [0, 1, 2, 3, 4, 5, 6] (lv' := [(0, .ref 7000), (1, .ref 5000), (2, .int x2), (3, .int x3), (4, .int x4), (5, .int x12), (6, .int u14)]) rfl ?_
      exact hk u14 w15
    · refine K_aload_n 1 dX1_countSitters_31 rfl ?_
      refine K_iload_n 2 dX1_countSitters_32 rfl ?_
      refine K_iload 6 dX1_countSitters_33 rfl ?_
      refine K_callV (E' := e_X6_item m0 m1 m2 m3 m4 m5 m6 w15 m8 m9 m10 m11) (b := 5000) (As := [.int x2, .int u14]) (rest := []) dX1_countSitters_35 ml_X1_25 (mf_X6_item 1) mv_X6_item (fun hj r hr => c_X6_item hj m0 m1 m2 m3 m4 m5 m6 w15 m8 m9 m10 m11 x2 u14 hr) (rcv_obj (q := (RX6, TX6, 3)) kl_5000 rfl) rfl rfl (Nat.le_of_ble_eq_true rfl) (Nat.le_of_ble_eq_true rfl) (fun r16 => ?_)
      show K G (mi_X1_countSitters 2) (e_X1_countSitters m0 m1 m2 m3 m4 m5 m6 m7 m8 m9 m10 m11) 38 [(0, .ref 7000), (1, .ref 5000), (2, .int x2), (3, .int x3), (4, .int x4), (5, .int x12), (6, .int u14)] [.int r16] [m0, m1, m2, m3, m4, m5, m6, w15, m8, m9, m10, m11] _
      refine K_istore (lv' := [(7, .int r16), (0, .ref 7000), (1, .ref 5000), (2, .int x2), (3, .int x3), (4, .int x4), (5, .int x12), (6, .int u14)]) dX1_countSitters_38 (by decide) rfl ?_
      refine K_iload 0 dX1_countSitters_40 rfl ?_
      refine K_iload 6 dX1_countSitters_42 rfl ?_
      refine K_iconst (v := (-1)) dX1_countSitters_44 (by decide) ?_
      refine K_ixor dX1_countSitters_45 ?_
      refine K_iand dX1_countSitters_46 ?_
      refine K_if_eq 52 dX1_countSitters_47 rfl (fun _ => ?_) (fun _ => ?_)
      · refine K_aload_n 1 dX1_countSitters_52 rfl ?_
        refine K_dup dX1_countSitters_53 rfl ?_
        refine K_get (v := .int (w15 0 1)) dX1_countSitters_54 fl_X1_15 kl_7000 rfl rfl ?_
        refine K_iload 0 dX1_countSitters_57 rfl ?_
        refine K_iand dX1_countSitters_59 ?_
        refine K_put (Ms' := [m0, m1, m2, m3, m4, m5, m6, (up w15 0 1 ((w15 0 1) &&& r16)), m8, m9, m10, m11]) dX1_countSitters_60 fp_X1_15 kl_7000 rfl rfl rfl (Nat.le_of_ble_eq_true rfl) rfl ?_
        refine K_nmm (fun w => [m0, m1, m2, m3, m4, m5, m6, w, m8, m9, m10, m11]) rfl (fun w17 => ?_)
        refine K_iconst (v := 0) dX1_countSitters_63 (by decide) ?_
        refine K_istore (lv' := [(8, .int 0), (7, .int r16), (0, .ref 7000), (1, .ref 5000), (2, .int x2), (3, .int x3), (4, .int x4), (5, .int x12), (6, .int u14)]) dX1_countSitters_64 (by decide) rfl ?_
        refine K_loc [2, 3, 4, 5, 6, 7, 8, 1, 0] (lv' := [(0, .ref 7000), (1, .ref 5000), (2, .int x2), (3, .int x3), (4, .int x4), (5, .int x12), (6, .int u14), (7, .int r16), (8, .int 0)]) rfl ?_
        refine k_X1_countSitters_L66  m0 m1 m2 m3 m4 m5 m6 m7 m8 m9 m10 m11 x4 r16 x2 x3 x12 u14 _ (fun u21 w22 => ?_) 100000 0 w17
        refine K_iinc 6 (w := u14 + 1) (lv' := [(6, .int (u14 + 1)), (0, .ref 7000), (1, .ref 5000), (2, .int x2), (3, .int x3), (4, .int x4), (5, .int x12), (7, .int r16), (8, .int u21)]) dX1_countSitters_96 rfl rfl (by decide) rfl ?_
        refine K_goto 25 dX1_countSitters_99 rfl ?_
        refine K_loc [1, 2, 3, 4, 5, 6, 0] (lv' := [(0, .ref 7000), (1, .ref 5000), (2, .int x2), (3, .int x3), (4, .int x4), (5, .int x12), (6, .int (u14 + 1))]) rfl ?_
        exact ih (u14 + 1) w22
      · refine K_iconst (v := 0) dX1_countSitters_50 (by decide) ?_
        exact K_ret (rv := some (.int 0)) dX1_countSitters_51 rfl rfl rfl
theorem k_X1_countSitters {G : GE} (m0 m1 m2 m3 m4 m5 m6 m7 m8 m9 m10 m11 : Mem) (x2 : Int32) (x3 : Int32) (x4 : Int32) : K G (mi_X1_countSitters 2) (e_X1_countSitters m0 m1 m2 m3 m4 m5 m6 m7 m8 m9 m10 m11) 0 [(0, .ref 7000), (1, .ref 5000), (2, .int x2), (3, .int x3), (4, .int x4)] [] [m0, m1, m2, m3, m4, m5, m6, m7, m8, m9, m10, m11] (f_X1_countSitters m5 m7 x2 x3 x4) := by
  unfold f_X1_countSitters
  refine K_aload_n 0 dX1_countSitters_0 rfl ?_
  refine K_get (v := .ref 7001) dX1_countSitters_1 fl_X1_9 kl_7000 rfl rfl ?_
  refine K_iconst (v := 0) dX1_countSitters_4 (by decide) ?_
  refine K_fill (Ms' := [m0, m1, m2, m3, m4, m5, m6, (upA m7 1 (fillf 7 0 (m7 1))), m8, m9, m10, m11]) dX1_countSitters_5 ml_X1_19 (Nat.le_of_ble_eq_true rfl) (Nat.le_of_ble_eq_true rfl) kl_7001 (Nat.le_of_ble_eq_true rfl) rfl ?_
  refine K_nmm (fun w => [m0, m1, m2, m3, m4, m5, m6, w, m8, m9, m10, m11]) rfl (fun w11 => ?_)
  refine K_iconst (v := 1) dX1_countSitters_8 (by decide) ?_
  refine K_iload 4 dX1_countSitters_9 rfl ?_
  refine K_ishl dX1_countSitters_11 ?_
  refine K_iconst (v := 1) dX1_countSitters_12 (by decide) ?_
  refine K_isub dX1_countSitters_13 ?_
  refine K_nmi (fun x12 => ?_)
  refine K_istore (lv' := [(5, .int x12), (0, .ref 7000), (1, .ref 5000), (2, .int x2), (3, .int x3), (4, .int x4)]) dX1_countSitters_14 (by decide) rfl ?_
  refine K_aload_n 1 dX1_countSitters_16 rfl ?_
  refine K_iload 0 dX1_countSitters_17 rfl ?_
  refine K_put (Ms' := [m0, m1, m2, m3, m4, m5, m6, (up w11 0 1 x12), m8, m9, m10, m11]) dX1_countSitters_19 fp_X1_15 kl_7000 rfl rfl rfl (Nat.le_of_ble_eq_true rfl) rfl ?_
  refine K_nmm (fun w => [m0, m1, m2, m3, m4, m5, m6, w, m8, m9, m10, m11]) rfl (fun w13 => ?_)
  refine K_iconst (v := 0) dX1_countSitters_22 (by decide) ?_
  refine K_istore (lv' := [(6, .int 0), (5, .int x12), (0, .ref 7000), (1, .ref 5000), (2, .int x2), (3, .int x3), (4, .int x4)]) dX1_countSitters_23 (by decide) rfl ?_
  refine K_loc [2, 3, 4, 5, 6, 1, 0] (lv' := [(0, .ref 7000), (1, .ref 5000), (2, .int x2), (3, .int x3), (4, .int x4), (5, .int x12), (6, .int 0)]) rfl ?_
  refine k_X1_countSitters_L25  m0 m1 m2 m3 m4 m5 m6 m7 m8 m9 m10 m11 x2 x3 x4 x12 _ (fun u23 w24 => ?_) 100000 0 w13
  refine K_iconst (v := 1) dX1_countSitters_102 (by decide) ?_
  exact K_ret (rv := some (.int 1)) dX1_countSitters_103 rfl rfl rfl
theorem c_X1_countSitters {G : GE} (hj : dj G) (m0 m1 m2 m3 m4 m5 m6 m7 m8 m9 m10 m11 : Mem) (x2 : Int32) (x3 : Int32) (x4 : Int32) {r : Int32 × Mem} (hr : f_X1_countSitters m5 m7 x2 x3 x4 = some r) : Ctr G yX1_countSitters (mi_X1_countSitters 2) [.ref 7000, .ref 5000, .int x2, .int x3, .int x4] [m0, m1, m2, m3, m4, m5, m6, m7, m8, m9, m10, m11] ((e_X1_countSitters m0 m1 m2 m3 m4 m5 m6 m7 m8 m9 m10 m11) r).1 ((e_X1_countSitters m0 m1 m2 m3 m4 m5 m6 m7 m8 m9 m10 m11) r).2 := Ctr_of hj (by decide) rfl hr rfl (Nat.le_of_ble_eq_true rfl) (k_X1_countSitters m0 m1 m2 m3 m4 m5 m6 m7 m8 m9 m10 m11 x2 x3 x4)
abbrev e_X7_gloves (m0 m1 m2 m3 m4 m5 m6 m7 m8 m9 m10 m11 : Mem) : (Int32 × Mem × Mem) → Option Value × List Mem := fun r => (some (.int r.1), [m0, m1, m2, m3, m4, m5, m6, r.2.1, m8, m9, m10, r.2.2])
theorem k_X7_gloves {G : GE} (m0 m1 m2 m3 m4 m5 m6 m7 m8 m9 m10 m11 : Mem) (x1 : Int32) (x2 : Int32) (x3 : Int32) (h7 : m11 0 7 = 1) : K G (mi_X7_gloves 3) (e_X7_gloves m0 m1 m2 m3 m4 m5 m6 m7 m8 m9 m10 m11) 0 [(0, .ref 11000), (1, .int x1), (2, .int x2), (3, .int x3)] [] [m0, m1, m2, m3, m4, m5, m6, m7, m8, m9, m10, m11] (f_X7_gloves m1 m5 m7 m11 x1 x2 x3) := by
  unfold f_X7_gloves
  refine K_aload_n 0 dX7_gloves_0 rfl ?_
  refine K_get (v := .ref 1000) dX7_gloves_1 fl_X7_58 kl_11000 rfl (nd_ref h7) ?_
  refine K_get (v := .int (m1 0 6)) dX7_gloves_4 fl_X7_122 kl_1000 rfl rfl ?_
  refine K_if_ne 13 dX7_gloves_7 rfl (fun _ => ?_) (fun _ => ?_)
  · refine K_iload_n 1 dX7_gloves_13 rfl ?_
    refine K_callS (E' := e_X7_isRow [m0, m1, m2, m3, m4, m5, m6, m7, m8, m9, m10, m11]) (As := [.int x1]) (rest := []) dX7_gloves_14 ml_X7_69 (mf_X7_isRow 1) ms_X7_isRow (fun hj r hr => c_X7_isRow hj [m0, m1, m2, m3, m4, m5, m6, m7, m8, m9, m10, m11] x1 hr) rfl rfl (Nat.le_of_ble_eq_true rfl) (Nat.le_of_ble_eq_true rfl) (fun r11 => ?_)
    show K G (mi_X7_gloves 3) (e_X7_gloves m0 m1 m2 m3 m4 m5 m6 m7 m8 m9 m10 m11) 17 [(0, .ref 11000), (1, .int x1), (2, .int x2), (3, .int x3)] [.int r11] [m0, m1, m2, m3, m4, m5, m6, m7, m8, m9, m10, m11] _
    refine K_if_eq 40 dX7_gloves_17 rfl (fun _ => ?_) (fun _ => ?_)
    · refine K_ldc (v := (-1000001)) dX7_gloves_40 cst_X7_73 ?_
      exact K_ret (rv := some (.int (-1000001))) dX7_gloves_42 rfl rfl rfl
    · refine K_iload_n 2 dX7_gloves_20 rfl ?_
      refine K_iconst (v := 1) dX7_gloves_21 (by decide) ?_
      refine K_icmp_lt 40 dX7_gloves_22 rfl (fun _ => ?_) (fun _ => ?_)
      · refine K_ldc (v := (-1000001)) dX7_gloves_40 cst_X7_73 ?_
        exact K_ret (rv := some (.int (-1000001))) dX7_gloves_42 rfl rfl rfl
      · refine K_iload_n 2 dX7_gloves_25 rfl ?_
        refine K_bipush (v := 40) dX7_gloves_26 (by decide) ?_
        refine K_icmp_gt 40 dX7_gloves_28 rfl (fun _ => ?_) (fun _ => ?_)
        · refine K_ldc (v := (-1000001)) dX7_gloves_40 cst_X7_73 ?_
          exact K_ret (rv := some (.int (-1000001))) dX7_gloves_42 rfl rfl rfl
        · refine K_iload_n 3 dX7_gloves_31 rfl ?_
          refine K_if_lt 40 dX7_gloves_32 rfl (fun _ => ?_) (fun _ => ?_)
          · refine K_ldc (v := (-1000001)) dX7_gloves_40 cst_X7_73 ?_
            exact K_ret (rv := some (.int (-1000001))) dX7_gloves_42 rfl rfl rfl
          · refine K_iload_n 3 dX7_gloves_35 rfl ?_
            refine K_iconst (v := 1) dX7_gloves_36 (by decide) ?_
            refine K_icmp_le 43 dX7_gloves_37 rfl (fun _ => ?_) (fun _ => ?_)
            · refine K_aload_n 0 dX7_gloves_43 rfl ?_
              refine K_get (v := .ref 5000) dX7_gloves_44 fl_X7_10 kl_11000 rfl rfl ?_
              refine K_iload_n 1 dX7_gloves_47 rfl ?_
              refine K_callV (E' := e_X6_isMissing m0 m1 m2 m3 m4 m5 m6 m7 m8 m9 m10 m11) (b := 5000) (As := [.int x1]) (rest := []) dX7_gloves_48 ml_X7_85 (mf_X6_isMissing 1) mv_X6_isMissing (fun hj r hr => c_X6_isMissing hj m0 m1 m2 m3 m4 m5 m6 m7 m8 m9 m10 m11 x1 hr) (rcv_obj (q := (RX6, TX6, 3)) kl_5000 rfl) rfl rfl (Nat.le_of_ble_eq_true rfl) (Nat.le_of_ble_eq_true rfl) (fun r12 => ?_)
              show K G (mi_X7_gloves 3) (e_X7_gloves m0 m1 m2 m3 m4 m5 m6 m7 m8 m9 m10 m11) 51 [(0, .ref 11000), (1, .int x1), (2, .int x2), (3, .int x3)] [.int r12] [m0, m1, m2, m3, m4, m5, m6, m7, m8, m9, m10, m11] _
              refine K_if_eq 60 dX7_gloves_51 rfl (fun _ => ?_) (fun _ => ?_)
              · refine K_aload_n 0 dX7_gloves_60 rfl ?_
                refine K_get (v := .ref 5000) dX7_gloves_61 fl_X7_10 kl_11000 rfl rfl ?_
                refine K_iload_n 1 dX7_gloves_64 rfl ?_
                refine K_iconst (v := 0) dX7_gloves_65 (by decide) ?_
                refine K_iload_n 2 dX7_gloves_66 rfl ?_
                refine K_callV (E' := e_X6_hasStretch m0 m1 m2 m3 m4 m5 m6 m7 m8 m9 m10 m11) (b := 5000) (As := [.int x1, .int 0, .int x2]) (rest := []) dX7_gloves_67 ml_X7_88 (mf_X6_hasStretch 1) mv_X6_hasStretch (fun hj r hr => c_X6_hasStretch hj m0 m1 m2 m3 m4 m5 m6 m7 m8 m9 m10 m11 x1 (0 : Int32) x2 hr) (rcv_obj (q := (RX6, TX6, 3)) kl_5000 rfl) rfl rfl (Nat.le_of_ble_eq_true rfl) (Nat.le_of_ble_eq_true rfl) (fun r13 => ?_)
                show K G (mi_X7_gloves 3) (e_X7_gloves m0 m1 m2 m3 m4 m5 m6 m7 m8 m9 m10 m11) 70 [(0, .ref 11000), (1, .int x1), (2, .int x2), (3, .int x3)] [.int r13] [m0, m1, m2, m3, m4, m5, m6, m7, m8, m9, m10, m11] _
                refine K_if_ne 79 dX7_gloves_70 rfl (fun _ => ?_) (fun _ => ?_)
                · refine K_aload_n 0 dX7_gloves_79 rfl ?_
                  refine K_get (v := .ref 7000) dX7_gloves_80 fl_X7_47 kl_11000 rfl rfl ?_
                  refine K_aload_n 0 dX7_gloves_83 rfl ?_
                  refine K_get (v := .ref 5000) dX7_gloves_84 fl_X7_10 kl_11000 rfl rfl ?_
                  refine K_iload_n 1 dX7_gloves_87 rfl ?_
                  refine K_iload_n 2 dX7_gloves_88 rfl ?_
                  refine K_aload_n 0 dX7_gloves_89 rfl ?_
                  refine K_get (v := .ref 1000) dX7_gloves_90 fl_X7_58 kl_11000 rfl (nd_ref h7) ?_
                  refine K_get (v := .int (m1 0 6)) dX7_gloves_93 fl_X7_122 kl_1000 rfl rfl ?_
                  refine K_callV (E' := e_X1_countSitters m0 m1 m2 m3 m4 m5 m6 m7 m8 m9 m10 m11) (b := 7000) (As := [.ref 5000, .int x1, .int x2, .int (m1 0 6)]) (rest := []) dX7_gloves_96 ml_X7_251 (mf_X1_countSitters 2) mv_X1_countSitters (fun hj r hr => c_X1_countSitters hj m0 m1 m2 m3 m4 m5 m6 m7 m8 m9 m10 m11 x1 x2 (m1 0 6) hr) (rcv_obj (q := (RX1, TX1, 2)) kl_7000 rfl) rfl rfl (Nat.le_of_ble_eq_true rfl) (Nat.le_of_ble_eq_true rfl) (fun r14 => ?_)
                  show K G (mi_X7_gloves 3) (e_X7_gloves m0 m1 m2 m3 m4 m5 m6 m7 m8 m9 m10 m11) 99 [(0, .ref 11000), (1, .int x1), (2, .int x2), (3, .int x3)] [.int r14.1] [m0, m1, m2, m3, m4, m5, m6, r14.2, m8, m9, m10, m11] _
                  refine K_if_ne 105 dX7_gloves_99 rfl (fun _ => ?_) (fun _ => ?_)
                  · refine K_aload_n 0 dX7_gloves_105 rfl ?_
                    refine K_iload_n 3 dX7_gloves_106 rfl ?_
                    refine K_if_ne 120 dX7_gloves_107 rfl (fun _ => ?_) (fun _ => ?_)
                    · refine K_aload_n 0 dX7_gloves_120 rfl ?_
                      refine K_get (v := .ref 7000) dX7_gloves_121 fl_X7_47 kl_11000 rfl rfl ?_
                      refine K_aload_n 0 dX7_gloves_124 rfl ?_
                      refine K_get (v := .ref 1000) dX7_gloves_125 fl_X7_58 kl_11000 rfl (nd_ref h7) ?_
                      refine K_get (v := .int (m1 0 6)) dX7_gloves_128 fl_X7_122 kl_1000 rfl rfl ?_
                      refine K_callV (E' := e_X1_firstOfMost m0 m1 m2 m3 m4 m5 m6 r14.2 m8 m9 m10 m11) (b := 7000) (As := [.int (m1 0 6)]) (rest := [.ref 11000]) dX7_gloves_131 ml_X7_257 (mf_X1_firstOfMost 1) mv_X1_firstOfMost (fun hj r hr => c_X1_firstOfMost hj m0 m1 m2 m3 m4 m5 m6 r14.2 m8 m9 m10 m11 (m1 0 6) hr) (rcv_obj (q := (RX1, TX1, 2)) kl_7000 rfl) rfl rfl (Nat.le_of_ble_eq_true rfl) (Nat.le_of_ble_eq_true rfl) (fun r15 => ?_)
                      show K G (mi_X7_gloves 3) (e_X7_gloves m0 m1 m2 m3 m4 m5 m6 m7 m8 m9 m10 m11) 134 [(0, .ref 11000), (1, .int x1), (2, .int x2), (3, .int x3)] [.int r15, .ref 11000] [m0, m1, m2, m3, m4, m5, m6, r14.2, m8, m9, m10, m11] _
                      refine K_callV (E' := e_X7_fine m0 m1 m2 m3 m4 m5 m6 r14.2 m8 m9 m10 m11) (b := 11000) (As := [.int r15]) (rest := []) dX7_gloves_134 ml_X7_82 (mf_X7_fine 1) mv_X7_fine (fun hj r hr => c_X7_fine hj m0 m1 m2 m3 m4 m5 m6 r14.2 m8 m9 m10 m11 r15 hr) (rcv_obj (q := (RX7, TX7, 10)) kl_11000 rfl) rfl rfl (Nat.le_of_ble_eq_true rfl) (Nat.le_of_ble_eq_true rfl) (fun r16 => ?_)
                      show K G (mi_X7_gloves 3) (e_X7_gloves m0 m1 m2 m3 m4 m5 m6 m7 m8 m9 m10 m11) 137 [(0, .ref 11000), (1, .int x1), (2, .int x2), (3, .int x3)] [.int r16.1] [m0, m1, m2, m3, m4, m5, m6, r14.2, m8, m9, m10, r16.2] _
                      exact K_ret (rv := some (.int r16.1)) dX7_gloves_137 rfl rfl rfl
                    · refine K_aload_n 0 dX7_gloves_110 rfl ?_
                      refine K_get (v := .ref 7000) dX7_gloves_111 fl_X7_47 kl_11000 rfl rfl ?_
                      refine K_get (v := .int (r14.2 0 1)) dX7_gloves_114 fl_X7_254 kl_7000 rfl rfl ?_
                      refine K_goto 134 dX7_gloves_117 rfl ?_
                      refine K_callV (E' := e_X7_fine m0 m1 m2 m3 m4 m5 m6 r14.2 m8 m9 m10 m11) (b := 11000) (As := [.int (r14.2 0 1)]) (rest := []) dX7_gloves_134 ml_X7_82 (mf_X7_fine 1) mv_X7_fine (fun hj r hr => c_X7_fine hj m0 m1 m2 m3 m4 m5 m6 r14.2 m8 m9 m10 m11 (r14.2 0 1) hr) (rcv_obj (q := (RX7, TX7, 10)) kl_11000 rfl) rfl rfl (Nat.le_of_ble_eq_true rfl) (Nat.le_of_ble_eq_true rfl) (fun r17 => ?_)
                      show K G (mi_X7_gloves 3) (e_X7_gloves m0 m1 m2 m3 m4 m5 m6 m7 m8 m9 m10 m11) 137 [(0, .ref 11000), (1, .int x1), (2, .int x2), (3, .int x3)] [.int r17.1] [m0, m1, m2, m3, m4, m5, m6, r14.2, m8, m9, m10, r17.2] _
                      exact K_ret (rv := some (.int r17.1)) dX7_gloves_137 rfl rfl rfl
                  · refine K_ldc (v := (-1000001)) dX7_gloves_102 cst_X7_73 ?_
                    exact K_ret (rv := some (.int (-1000001))) dX7_gloves_104 rfl rfl rfl
                · refine K_aload_n 0 dX7_gloves_73 rfl ?_
                  refine K_iconst (v := 2) dX7_gloves_74 (by decide) ?_
                  refine K_callV (E' := e_X7_found m0 m1 m2 m3 m4 m5 m6 m7 m8 m9 m10 m11) (b := 11000) (As := [.int 2]) (rest := []) dX7_gloves_75 ml_X7_74 (mf_X7_found 1) mv_X7_found (fun hj r hr => c_X7_found hj m0 m1 m2 m3 m4 m5 m6 m7 m8 m9 m10 m11 (2 : Int32) hr) (rcv_obj (q := (RX7, TX7, 10)) kl_11000 rfl) rfl rfl (Nat.le_of_ble_eq_true rfl) (Nat.le_of_ble_eq_true rfl) (fun r18 => ?_)
                  show K G (mi_X7_gloves 3) (e_X7_gloves m0 m1 m2 m3 m4 m5 m6 m7 m8 m9 m10 m11) 78 [(0, .ref 11000), (1, .int x1), (2, .int x2), (3, .int x3)] [.int r18.1] [m0, m1, m2, m3, m4, m5, m6, m7, m8, m9, m10, r18.2] _
                  exact K_ret (rv := some (.int r18.1)) dX7_gloves_78 rfl rfl rfl
              · refine K_aload_n 0 dX7_gloves_54 rfl ?_
                refine K_iconst (v := 1) dX7_gloves_55 (by decide) ?_
                refine K_callV (E' := e_X7_found m0 m1 m2 m3 m4 m5 m6 m7 m8 m9 m10 m11) (b := 11000) (As := [.int 1]) (rest := []) dX7_gloves_56 ml_X7_74 (mf_X7_found 1) mv_X7_found (fun hj r hr => c_X7_found hj m0 m1 m2 m3 m4 m5 m6 m7 m8 m9 m10 m11 (1 : Int32) hr) (rcv_obj (q := (RX7, TX7, 10)) kl_11000 rfl) rfl rfl (Nat.le_of_ble_eq_true rfl) (Nat.le_of_ble_eq_true rfl) (fun r19 => ?_)
                show K G (mi_X7_gloves 3) (e_X7_gloves m0 m1 m2 m3 m4 m5 m6 m7 m8 m9 m10 m11) 59 [(0, .ref 11000), (1, .int x1), (2, .int x2), (3, .int x3)] [.int r19.1] [m0, m1, m2, m3, m4, m5, m6, m7, m8, m9, m10, r19.2] _
                exact K_ret (rv := some (.int r19.1)) dX7_gloves_59 rfl rfl rfl
            · refine K_ldc (v := (-1000001)) dX7_gloves_40 cst_X7_73 ?_
              exact K_ret (rv := some (.int (-1000001))) dX7_gloves_42 rfl rfl rfl
  · refine K_ldc (v := (-1000002)) dX7_gloves_10 cst_X7_143 ?_
    exact K_ret (rv := some (.int (-1000002))) dX7_gloves_12 rfl rfl rfl
theorem c_X7_gloves {G : GE} (hj : dj G) (m0 m1 m2 m3 m4 m5 m6 m7 m8 m9 m10 m11 : Mem) (x1 : Int32) (x2 : Int32) (x3 : Int32) (h7 : m11 0 7 = 1) {r : Int32 × Mem × Mem} (hr : f_X7_gloves m1 m5 m7 m11 x1 x2 x3 = some r) : Ctr G yX7_gloves (mi_X7_gloves 3) [.ref 11000, .int x1, .int x2, .int x3] [m0, m1, m2, m3, m4, m5, m6, m7, m8, m9, m10, m11] ((e_X7_gloves m0 m1 m2 m3 m4 m5 m6 m7 m8 m9 m10 m11) r).1 ((e_X7_gloves m0 m1 m2 m3 m4 m5 m6 m7 m8 m9 m10 m11) r).2 := Ctr_of hj (by decide) rfl hr rfl (Nat.le_of_ble_eq_true rfl) (k_X7_gloves m0 m1 m2 m3 m4 m5 m6 m7 m8 m9 m10 m11 x1 x2 x3 h7)
