abbrev e_X8_readPerson (m0 : Mem) (q : List Mem) : Mem → Option Value × List Mem := fun r => (none, (r :: q))
theorem k_X8_readPerson {G : GE} (m0 : Mem) (q : List Mem)  : K G (mi_X8_readPerson 5) (e_X8_readPerson m0 q) 0 [(0, .ref 0)] [] (m0 :: q) (f_X8_readPerson m0) := by
  unfold f_X8_readPerson
  refine K_aload_n 0 dX8_readPerson_0 rfl ?_
  refine K_iconst (v := 4) dX8_readPerson_1 (by decide) ?_
  refine K_bipush (v := 7) dX8_readPerson_2 (by decide) ?_
  refine K_callV (E' := e_X8_begins m0 q) (b := 0) (As := [.int 4, .int 7]) (rest := []) dX8_readPerson_4 ml_X8_161 (mf_X8_begins 4) mv_X8_begins (fun hj r hr => c_X8_begins hj m0 q (4 : Int32) (7 : Int32) hr) (rcv_obj (q := (RX8, TX8, 37)) kl_0 rfl) rfl rfl (Nat.le_of_ble_eq_true rfl) (Nat.le_of_ble_eq_true rfl) (fun r11 => ?_)
  show K G (mi_X8_readPerson 5) (e_X8_readPerson m0 q) 7 [(0, .ref 0)] [] (r11 :: q) _
  refine K_aload_n 0 dX8_readPerson_7 rfl ?_
  refine K_callV (E' := e_X8_name r11 q) (b := 0) (As := []) (rest := []) dX8_readPerson_8 ml_X8_172 (mf_X8_name 1) mv_X8_name (fun hj r hr => c_X8_name hj r11 q  hr) (rcv_obj (q := (RX8, TX8, 37)) kl_0 rfl) rfl rfl (Nat.le_of_ble_eq_true rfl) (Nat.le_of_ble_eq_true rfl) (fun r12 => ?_)
  show K G (mi_X8_readPerson 5) (e_X8_readPerson m0 q) 11 [(0, .ref 0)] [.long r12] (r11 :: q) _
  refine K_callS (E' := e_X8_kindBy (r11 :: q)) (As := [.long r12]) (rest := []) dX8_readPerson_11 ml_X8_176 (mf_X8_kindBy 1) ms_X8_kindBy (fun hj r hr => c_X8_kindBy hj (r11 :: q) r12 hr) rfl rfl (Nat.le_of_ble_eq_true rfl) (Nat.le_of_ble_eq_true rfl) (fun r13 => ?_)
  show K G (mi_X8_readPerson 5) (e_X8_readPerson m0 q) 14 [(0, .ref 0)] [.int r13] (r11 :: q) _
  refine K_istore_n (lv' := [(1, .int r13), (0, .ref 0)]) dX8_readPerson_14 (by decide) rfl ?_
  refine K_aload_n 1 dX8_readPerson_15 rfl ?_
  refine K_get (v := .int (r11 0 19)) dX8_readPerson_16 fl_X8_126 kl_0 rfl rfl ?_
  refine K_jn (fun j17 => ∀ a16 : Mem, K G (mi_X8_readPerson 5) (e_X8_readPerson m0 q) 37 [(0, .ref 0), (1, .int r13)] [] (a16 :: q) (j17 a16)) (fun a16 => ?_) (fun j17 hj17 => ?_)
  · refine K_aload_n 0 dX8_readPerson_37 rfl ?_
    refine K_iconst (v := 1) dX8_readPerson_38 (by decide) ?_
    refine K_bipush (v := 7) dX8_readPerson_39 (by decide) ?_
    refine K_callV (E' := e_X8_number a16 q) (b := 0) (As := [.int 1, .int 7]) (rest := []) dX8_readPerson_41 ml_X8_157 (mf_X8_number 4) mv_X8_number (fun hj r hr => c_X8_number hj a16 q (1 : Int32) (7 : Int32) hr) (rcv_obj (q := (RX8, TX8, 37)) kl_0 rfl) rfl rfl (Nat.le_of_ble_eq_true rfl) (Nat.le_of_ble_eq_true rfl) (fun r18 => ?_)
    show K G (mi_X8_readPerson 5) (e_X8_readPerson m0 q) 44 [(0, .ref 0), (1, .int r13)] [.int r18.1] (r18.2 :: q) _
    refine K_nmi (fun x19 => ?_)
    refine K_istore_n (lv' := [(2, .int x19), (0, .ref 0), (1, .int r13)]) dX8_readPerson_44 (by decide) rfl ?_
    refine K_aload_n 1 dX8_readPerson_45 rfl ?_
    refine K_iconst (v := 0) dX8_readPerson_46 (by decide) ?_
    refine K_bipush (v := 9) dX8_readPerson_47 (by decide) ?_
    refine K_callV (E' := e_X8_number r18.2 q) (b := 0) (As := [.int 0, .int 9]) (rest := []) dX8_readPerson_49 ml_X8_157 (mf_X8_number 4) mv_X8_number (fun hj r hr => c_X8_number hj r18.2 q (0 : Int32) (9 : Int32) hr) (rcv_obj (q := (RX8, TX8, 37)) kl_0 rfl) rfl rfl (Nat.le_of_ble_eq_true rfl) (Nat.le_of_ble_eq_true rfl) (fun r20 => ?_)
    show K G (mi_X8_readPerson 5) (e_X8_readPerson m0 q) 52 [(2, .int x19), (0, .ref 0), (1, .int r13)] [.int r20.1] (r20.2 :: q) _
    refine K_nmi (fun x21 => ?_)
    refine K_istore_n (lv' := [(3, .int x21), (2, .int x19), (0, .ref 0), (1, .int r13)]) dX8_readPerson_52 (by decide) rfl ?_
    refine K_aload_n 2 dX8_readPerson_53 rfl ?_
    refine K_callV (E' := e_X8_mustEnd r20.2 q) (b := 0) (As := []) (rest := []) dX8_readPerson_54 ml_X8_169 (mf_X8_mustEnd 4) mv_X8_mustEnd (fun hj r hr => c_X8_mustEnd hj r20.2 q  hr) (rcv_obj (q := (RX8, TX8, 37)) kl_0 rfl) rfl rfl (Nat.le_of_ble_eq_true rfl) (Nat.le_of_ble_eq_true rfl) (fun r22 => ?_)
    show K G (mi_X8_readPerson 5) (e_X8_readPerson m0 q) 57 [(3, .int x21), (2, .int x19), (0, .ref 0), (1, .int r13)] [] (r22 :: q) _
    refine K_aload_n 2 dX8_readPerson_57 rfl ?_
    refine K_get (v := .int (r22 0 19)) dX8_readPerson_58 fl_X8_126 kl_0 rfl rfl ?_
    refine K_if_ne 115 dX8_readPerson_61 rfl (fun _ => ?_) (fun _ => ?_)
    · exact K_ret (rv := none) dX8_readPerson_115 trivial rfl rfl
    · refine K_bipush (v := 72) dX8_readPerson_64 (by decide) ?_
      refine K_iconst (v := 4) dX8_readPerson_66 (by decide) ?_
      refine K_aload_n 2 dX8_readPerson_67 rfl ?_
      refine K_get (v := .ref 7) dX8_readPerson_68 fl_X8_22 kl_0 rfl rfl ?_
      refine K_iconst (v := 4) dX8_readPerson_71 (by decide) ?_
      refine K_iald (f := r22 7) dX8_readPerson_72 kl_7 rfl ?_
      refine K_imul dX8_readPerson_73 ?_
      refine K_iadd dX8_readPerson_74 ?_
      refine K_nmi (fun x23 => ?_)
      refine K_istore (lv' := [(4, .int x23), (3, .int x21), (2, .int x19), (0, .ref 0), (1, .int r13)]) dX8_readPerson_75 (by decide) rfl ?_
      refine K_aload_n 3 dX8_readPerson_77 rfl ?_
      refine K_get (v := .ref 7) dX8_readPerson_78 fl_X8_22 kl_0 rfl rfl ?_
      refine K_iload 0 dX8_readPerson_81 rfl ?_
      refine K_iload_n 4 dX8_readPerson_83 rfl ?_
      refine K_iast (Ms' := ((up r22 7 x23.toNatClampNeg r13) :: q)) dX8_readPerson_84 kl_7 (Nat.succ_pos _) rfl ?_
      refine K_nmm (fun w => (w :: q)) rfl (fun w24 => ?_)
      refine K_aload_n 3 dX8_readPerson_85 rfl ?_
      refine K_get (v := .ref 7) dX8_readPerson_86 fl_X8_22 kl_0 rfl rfl ?_
      refine K_iload 0 dX8_readPerson_89 rfl ?_
      refine K_iconst (v := 1) dX8_readPerson_91 (by decide) ?_
      refine K_iadd dX8_readPerson_92 ?_
      refine K_iload_n 2 dX8_readPerson_93 rfl ?_
      refine K_iast (Ms' := ((up w24 7 (x23 + 1).toNatClampNeg x19) :: q)) dX8_readPerson_94 kl_7 (Nat.succ_pos _) rfl ?_
      refine K_nmm (fun w => (w :: q)) rfl (fun w25 => ?_)
      refine K_aload_n 3 dX8_readPerson_95 rfl ?_
      refine K_get (v := .ref 7) dX8_readPerson_96 fl_X8_22 kl_0 rfl rfl ?_
      refine K_iload 0 dX8_readPerson_99 rfl ?_
      refine K_iconst (v := 2) dX8_readPerson_101 (by decide) ?_
      refine K_iadd dX8_readPerson_102 ?_
      refine K_iload_n 1 dX8_readPerson_103 rfl ?_
      refine K_iast (Ms' := ((up w25 7 (x23 + 2).toNatClampNeg x21) :: q)) dX8_readPerson_104 kl_7 (Nat.succ_pos _) rfl ?_
      refine K_nmm (fun w => (w :: q)) rfl (fun w26 => ?_)
      refine K_aload_n 3 dX8_readPerson_105 rfl ?_
      refine K_get (v := .ref 7) dX8_readPerson_106 fl_X8_22 kl_0 rfl rfl ?_
      refine K_iconst (v := 4) dX8_readPerson_109 (by decide) ?_
      refine K_dup2 dX8_readPerson_110 rfl rfl ?_
      refine K_iald (f := w26 7) dX8_readPerson_111 kl_7 rfl ?_
      refine K_iconst (v := 1) dX8_readPerson_112 (by decide) ?_
      refine K_iadd dX8_readPerson_113 ?_
      refine K_iast (Ms' := ((up w26 7 (4 : Int32).toNatClampNeg ((w26 7 (4 : Int32).toNatClampNeg) + 1)) :: q)) dX8_readPerson_114 kl_7 (Nat.succ_pos _) rfl ?_
      refine K_nmm (fun w => (w :: q)) rfl (fun w27 => ?_)
      exact K_ret (rv := none) dX8_readPerson_115 trivial rfl rfl
  · refine K_if_ne 37 dX8_readPerson_19 rfl (fun _ => ?_) (fun _ => ?_)
    · refine K_loc [1, 0] (lv' := [(0, .ref 0), (1, .int r13)]) rfl ?_
      exact hj17 r11
    · refine K_aload_n 1 dX8_readPerson_22 rfl ?_
      refine K_iload_n 0 dX8_readPerson_23 rfl ?_
      refine K_ldc (v := (-1000000)) dX8_readPerson_24 cst_X8_104 ?_
      refine K_icmp_eq 33 dX8_readPerson_26 rfl (fun _ => ?_) (fun _ => ?_)
      · refine K_iconst (v := 0) dX8_readPerson_33 (by decide) ?_
        refine K_callV (E' := e_X8_must r11 q) (b := 0) (As := [.int 0]) (rest := []) dX8_readPerson_34 ml_X8_143 (mf_X8_must 3) mv_X8_must (fun hj r hr => c_X8_must hj r11 q (0 : Int32) hr) (rcv_obj (q := (RX8, TX8, 37)) kl_0 rfl) rfl rfl (Nat.le_of_ble_eq_true rfl) (Nat.le_of_ble_eq_true rfl) (fun r14 => ?_)
        show K G (mi_X8_readPerson 5) (e_X8_readPerson m0 q) 37 [(1, .int r13), (0, .ref 0)] [] (r14 :: q) _
        refine K_loc [1, 0] (lv' := [(0, .ref 0), (1, .int r13)]) rfl ?_
        exact hj17 r14
      · refine K_iconst (v := 1) dX8_readPerson_29 (by decide) ?_
        refine K_goto 34 dX8_readPerson_30 rfl ?_
        refine K_callV (E' := e_X8_must r11 q) (b := 0) (As := [.int 1]) (rest := []) dX8_readPerson_34 ml_X8_143 (mf_X8_must 3) mv_X8_must (fun hj r hr => c_X8_must hj r11 q (1 : Int32) hr) (rcv_obj (q := (RX8, TX8, 37)) kl_0 rfl) rfl rfl (Nat.le_of_ble_eq_true rfl) (Nat.le_of_ble_eq_true rfl) (fun r15 => ?_)
        show K G (mi_X8_readPerson 5) (e_X8_readPerson m0 q) 37 [(1, .int r13), (0, .ref 0)] [] (r15 :: q) _
        refine K_loc [1, 0] (lv' := [(0, .ref 0), (1, .int r13)]) rfl ?_
        exact hj17 r15
theorem c_X8_readPerson {G : GE} (hj : dj G) (m0 : Mem) (q : List Mem)  {r : Mem} (hr : f_X8_readPerson m0 = some r) : Ctr G yX8_readPerson (mi_X8_readPerson 5) [.ref 0] (m0 :: q) ((e_X8_readPerson m0 q) r).1 ((e_X8_readPerson m0 q) r).2 := Ctr_of hj (by decide) rfl hr rfl (Nat.le_of_ble_eq_true rfl) (k_X8_readPerson m0 q )
abbrev e_X8_isOwner (m0 : Mem) (q : List Mem) : Int32 → Option Value × List Mem := fun r => (some (.int r), (m0 :: q))
theorem k_X8_isOwner_L4 {G : GE} (m0 : Mem) (q : List Mem) (x1 : Int32) (k : Int32 → Int32 → Option (Int32)) (hk : ∀ (u11 : Int32) (u12 : Int32), K G (mi_X8_isOwner 1) (e_X8_isOwner m0 q) 45 [(0, .ref 0), (1, .int x1), (2, .int u11), (3, .int u12)] [] (m0 :: q) (k u11 u12)) : ∀ (t : Nat) (u11 : Int32) (u12 : Int32), K G (mi_X8_isOwner 1) (e_X8_isOwner m0 q) 4 [(0, .ref 0), (1, .int x1), (2, .int u11), (3, .int u12)] [] (m0 :: q) (f_X8_isOwner_L4 k x1 m0 t u11 u12) := by
  intro t
  induction t with
  | zero => intro u11 u12; exact K_none
  | succ t ih =>
    intro u11 u12
    rw [f_X8_isOwner_L4]
    refine K_iload_n 3 dX8_isOwner_4 rfl ?_
    refine K_aload_n 0 dX8_isOwner_5 rfl ?_
    refine K_get (v := .ref 7) dX8_isOwner_6 fl_X8_22 kl_0 rfl rfl ?_
    refine K_iconst (v := 5) dX8_isOwner_9 (by decide) ?_
    refine K_iald (f := m0 7) dX8_isOwner_10 kl_7 rfl ?_
    refine K_icmp_ge 45 dX8_isOwner_11 rfl (fun _ => ?_) (fun _ => ?_)
    · refine K_loc [0, 1, 2, 3] (lv' := [(0, .ref 0), (1, .int x1), (2, .int u11), (3, .int u12)]) rfl ?_
      exact hk u11 u12
    · refine K_iload_n 2 dX8_isOwner_14 rfl ?_
      refine K_if_ne 33 dX8_isOwner_15 rfl (fun _ => ?_) (fun _ => ?_)
      · refine K_iconst (v := 1) dX8_isOwner_33 (by decide) ?_
        refine K_goto 38 dX8_isOwner_34 rfl ?_
        refine K_istore_n (lv' := [(2, .int 1), (0, .ref 0), (1, .int x1), (3, .int u12)]) dX8_isOwner_38 (by decide) rfl ?_
        refine K_iinc 3 (w := u12 + 1) (lv' := [(3, .int (u12 + 1)), (2, .int 1), (0, .ref 0), (1, .int x1)]) dX8_isOwner_39 rfl rfl (by decide) rfl ?_
        refine K_goto 4 dX8_isOwner_42 rfl ?_
        refine K_loc [2, 3, 1, 0] (lv' := [(0, .ref 0), (1, .int x1), (2, .int 1), (3, .int (u12 + 1))]) rfl ?_
        exact ih 1 (u12 + 1)
      · refine K_aload_n 0 dX8_isOwner_18 rfl ?_
        refine K_get (v := .ref 7) dX8_isOwner_19 fl_X8_22 kl_0 rfl rfl ?_
        refine K_bipush (v := 100) dX8_isOwner_22 (by decide) ?_
        refine K_iconst (v := 3) dX8_isOwner_24 (by decide) ?_
        refine K_iload_n 3 dX8_isOwner_25 rfl ?_
        refine K_imul dX8_isOwner_26 ?_
        refine K_iadd dX8_isOwner_27 ?_
        refine K_iald (f := m0 7) dX8_isOwner_28 kl_7 rfl ?_
        refine K_iload_n 1 dX8_isOwner_29 rfl ?_
        refine K_icmp_ne 37 dX8_isOwner_30 rfl (fun _ => ?_) (fun _ => ?_)
        · refine K_iconst (v := 0) dX8_isOwner_37 (by decide) ?_
          refine K_istore_n (lv' := [(2, .int 0), (0, .ref 0), (1, .int x1), (3, .int u12)]) dX8_isOwner_38 (by decide) rfl ?_
          refine K_iinc 3 (w := u12 + 1) (lv' := [(3, .int (u12 + 1)), (2, .int 0), (0, .ref 0), (1, .int x1)]) dX8_isOwner_39 rfl rfl (by decide) rfl ?_
          refine K_goto 4 dX8_isOwner_42 rfl ?_
          refine K_loc [2, 3, 1, 0] (lv' := [(0, .ref 0), (1, .int x1), (2, .int 0), (3, .int (u12 + 1))]) rfl ?_
          exact ih 0 (u12 + 1)
        · refine K_iconst (v := 1) dX8_isOwner_33 (by decide) ?_
          refine K_goto 38 dX8_isOwner_34 rfl ?_
          refine K_istore_n (lv' := [(2, .int 1), (0, .ref 0), (1, .int x1), (3, .int u12)]) dX8_isOwner_38 (by decide) rfl ?_
          refine K_iinc 3 (w := u12 + 1) (lv' := [(3, .int (u12 + 1)), (2, .int 1), (0, .ref 0), (1, .int x1)]) dX8_isOwner_39 rfl rfl (by decide) rfl ?_
          refine K_goto 4 dX8_isOwner_42 rfl ?_
          refine K_loc [2, 3, 1, 0] (lv' := [(0, .ref 0), (1, .int x1), (2, .int 1), (3, .int (u12 + 1))]) rfl ?_
          exact ih 1 (u12 + 1)
theorem k_X8_isOwner {G : GE} (m0 : Mem) (q : List Mem) (x1 : Int32) : K G (mi_X8_isOwner 1) (e_X8_isOwner m0 q) 0 [(0, .ref 0), (1, .int x1)] [] (m0 :: q) (f_X8_isOwner m0 x1) := by
  unfold f_X8_isOwner
  refine K_iconst (v := 0) dX8_isOwner_0 (by decide) ?_
  refine K_istore_n (lv' := [(2, .int 0), (0, .ref 0), (1, .int x1)]) dX8_isOwner_1 (by decide) rfl ?_
  refine K_iconst (v := 0) dX8_isOwner_2 (by decide) ?_
  refine K_istore_n (lv' := [(3, .int 0), (2, .int 0), (0, .ref 0), (1, .int x1)]) dX8_isOwner_3 (by decide) rfl ?_
  refine K_loc [2, 3, 1, 0] (lv' := [(0, .ref 0), (1, .int x1), (2, .int 0), (3, .int 0)]) rfl ?_
  refine k_X8_isOwner_L4  m0 q x1 _ (fun u13 u14 => ?_) 100000 0 0
  refine K_iload_n 2 dX8_isOwner_45 rfl ?_
  exact K_retB dX8_isOwner_46 rfl rfl
theorem c_X8_isOwner {G : GE} (hj : dj G) (m0 : Mem) (q : List Mem) (x1 : Int32) {r : Int32} (hr : f_X8_isOwner m0 x1 = some r) : Ctr G yX8_isOwner (mi_X8_isOwner 1) [.ref 0, .int x1] (m0 :: q) ((e_X8_isOwner m0 q) r).1 ((e_X8_isOwner m0 q) r).2 := Ctr_of hj (by decide) rfl hr rfl (Nat.le_of_ble_eq_true rfl) (k_X8_isOwner m0 q x1)
abbrev e_X8_readCar (m0 : Mem) (q : List Mem) : Mem → Option Value × List Mem := fun r => (none, (r :: q))
theorem k_X8_readCar {G : GE} (m0 : Mem) (q : List Mem)  : K G (mi_X8_readCar 5) (e_X8_readCar m0 q) 0 [(0, .ref 0)] [] (m0 :: q) (f_X8_readCar m0) := by
  unfold f_X8_readCar
  refine K_aload_n 0 dX8_readCar_0 rfl ?_
  refine K_iconst (v := 5) dX8_readCar_1 (by decide) ?_
  refine K_iconst (v := 3) dX8_readCar_2 (by decide) ?_
  refine K_callV (E' := e_X8_begins m0 q) (b := 0) (As := [.int 5, .int 3]) (rest := []) dX8_readCar_3 ml_X8_161 (mf_X8_begins 4) mv_X8_begins (fun hj r hr => c_X8_begins hj m0 q (5 : Int32) (3 : Int32) hr) (rcv_obj (q := (RX8, TX8, 37)) kl_0 rfl) rfl rfl (Nat.le_of_ble_eq_true rfl) (Nat.le_of_ble_eq_true rfl) (fun r11 => ?_)
  show K G (mi_X8_readCar 5) (e_X8_readCar m0 q) 6 [(0, .ref 0)] [] (r11 :: q) _
  refine K_aload_n 0 dX8_readCar_6 rfl ?_
  refine K_get (v := .int (r11 0 19)) dX8_readCar_7 fl_X8_126 kl_0 rfl rfl ?_
  refine K_jn (fun j16 => ∀ a15 : Mem, K G (mi_X8_readCar 5) (e_X8_readCar m0 q) 37 [(0, .ref 0)] [] (a15 :: q) (j16 a15)) (fun a15 => ?_) (fun j16 hj16 => ?_)
  · refine K_aload_n 0 dX8_readCar_37 rfl ?_
    refine K_iconst (v := 0) dX8_readCar_38 (by decide) ?_
    refine K_aload_n 0 dX8_readCar_39 rfl ?_
    refine K_get (v := .ref 7) dX8_readCar_40 fl_X8_22 kl_0 rfl rfl ?_
    refine K_iconst (v := 4) dX8_readCar_43 (by decide) ?_
    refine K_iald (f := a15 7) dX8_readCar_44 kl_7 rfl ?_
    refine K_iconst (v := 1) dX8_readCar_45 (by decide) ?_
    refine K_isub dX8_readCar_46 ?_
    refine K_callV (E' := e_X8_number a15 q) (b := 0) (As := [.int 0, .int ((a15 7 (4 : Int32).toNatClampNeg) - 1)]) (rest := []) dX8_readCar_47 ml_X8_157 (mf_X8_number 4) mv_X8_number (fun hj r hr => c_X8_number hj a15 q (0 : Int32) ((a15 7 (4 : Int32).toNatClampNeg) - 1) hr) (rcv_obj (q := (RX8, TX8, 37)) kl_0 rfl) rfl rfl (Nat.le_of_ble_eq_true rfl) (Nat.le_of_ble_eq_true rfl) (fun r17 => ?_)
    show K G (mi_X8_readCar 5) (e_X8_readCar m0 q) 50 [(0, .ref 0)] [.int r17.1] (r17.2 :: q) _
    refine K_nmi (fun x18 => ?_)
    refine K_istore_n (lv' := [(1, .int x18), (0, .ref 0)]) dX8_readCar_50 (by decide) rfl ?_
    refine K_aload_n 1 dX8_readCar_51 rfl ?_
    refine K_iconst (v := 1) dX8_readCar_52 (by decide) ?_
    refine K_iconst (v := 4) dX8_readCar_53 (by decide) ?_
    refine K_callV (E' := e_X8_number r17.2 q) (b := 0) (As := [.int 1, .int 4]) (rest := []) dX8_readCar_54 ml_X8_157 (mf_X8_number 4) mv_X8_number (fun hj r hr => c_X8_number hj r17.2 q (1 : Int32) (4 : Int32) hr) (rcv_obj (q := (RX8, TX8, 37)) kl_0 rfl) rfl rfl (Nat.le_of_ble_eq_true rfl) (Nat.le_of_ble_eq_true rfl) (fun r19 => ?_)
    show K G (mi_X8_readCar 5) (e_X8_readCar m0 q) 57 [(1, .int x18), (0, .ref 0)] [.int r19.1] (r19.2 :: q) _
    refine K_nmi (fun x20 => ?_)
    refine K_istore_n (lv' := [(2, .int x20), (1, .int x18), (0, .ref 0)]) dX8_readCar_57 (by decide) rfl ?_
    refine K_aload_n 2 dX8_readCar_58 rfl ?_
    refine K_iconst (v := 0) dX8_readCar_59 (by decide) ?_
    refine K_iconst (v := 1) dX8_readCar_60 (by decide) ?_
    refine K_callV (E' := e_X8_number r19.2 q) (b := 0) (As := [.int 0, .int 1]) (rest := []) dX8_readCar_61 ml_X8_157 (mf_X8_number 4) mv_X8_number (fun hj r hr => c_X8_number hj r19.2 q (0 : Int32) (1 : Int32) hr) (rcv_obj (q := (RX8, TX8, 37)) kl_0 rfl) rfl rfl (Nat.le_of_ble_eq_true rfl) (Nat.le_of_ble_eq_true rfl) (fun r21 => ?_)
    show K G (mi_X8_readCar 5) (e_X8_readCar m0 q) 64 [(2, .int x20), (1, .int x18), (0, .ref 0)] [.int r21.1] (r21.2 :: q) _
    refine K_nmi (fun x22 => ?_)
    refine K_istore_n (lv' := [(3, .int x22), (2, .int x20), (1, .int x18), (0, .ref 0)]) dX8_readCar_64 (by decide) rfl ?_
    refine K_aload_n 3 dX8_readCar_65 rfl ?_
    refine K_callV (E' := e_X8_mustEnd r21.2 q) (b := 0) (As := []) (rest := []) dX8_readCar_66 ml_X8_169 (mf_X8_mustEnd 4) mv_X8_mustEnd (fun hj r hr => c_X8_mustEnd hj r21.2 q  hr) (rcv_obj (q := (RX8, TX8, 37)) kl_0 rfl) rfl rfl (Nat.le_of_ble_eq_true rfl) (Nat.le_of_ble_eq_true rfl) (fun r23 => ?_)
    show K G (mi_X8_readCar 5) (e_X8_readCar m0 q) 69 [(3, .int x22), (2, .int x20), (1, .int x18), (0, .ref 0)] [] (r23 :: q) _
    refine K_aload_n 3 dX8_readCar_69 rfl ?_
    refine K_get (v := .int (r23 0 19)) dX8_readCar_70 fl_X8_126 kl_0 rfl rfl ?_
    refine K_if_ne 127 dX8_readCar_73 rfl (fun _ => ?_) (fun _ => ?_)
    · exact K_ret (rv := none) dX8_readCar_127 trivial rfl rfl
    · refine K_bipush (v := 100) dX8_readCar_76 (by decide) ?_
      refine K_iconst (v := 3) dX8_readCar_78 (by decide) ?_
      refine K_aload_n 3 dX8_readCar_79 rfl ?_
      refine K_get (v := .ref 7) dX8_readCar_80 fl_X8_22 kl_0 rfl rfl ?_
      refine K_iconst (v := 5) dX8_readCar_83 (by decide) ?_
      refine K_iald (f := r23 7) dX8_readCar_84 kl_7 rfl ?_
      refine K_imul dX8_readCar_85 ?_
      refine K_iadd dX8_readCar_86 ?_
      refine K_nmi (fun x24 => ?_)
      refine K_istore (lv' := [(4, .int x24), (3, .int x22), (2, .int x20), (1, .int x18), (0, .ref 0)]) dX8_readCar_87 (by decide) rfl ?_
      refine K_aload_n 4 dX8_readCar_89 rfl ?_
      refine K_get (v := .ref 7) dX8_readCar_90 fl_X8_22 kl_0 rfl rfl ?_
      refine K_iload 0 dX8_readCar_93 rfl ?_
      refine K_iload_n 3 dX8_readCar_95 rfl ?_
      refine K_iast (Ms' := ((up r23 7 x24.toNatClampNeg x18) :: q)) dX8_readCar_96 kl_7 (Nat.succ_pos _) rfl ?_
      refine K_nmm (fun w => (w :: q)) rfl (fun w25 => ?_)
      refine K_aload_n 4 dX8_readCar_97 rfl ?_
      refine K_get (v := .ref 7) dX8_readCar_98 fl_X8_22 kl_0 rfl rfl ?_
      refine K_iload 0 dX8_readCar_101 rfl ?_
      refine K_iconst (v := 1) dX8_readCar_103 (by decide) ?_
      refine K_iadd dX8_readCar_104 ?_
      refine K_iload_n 2 dX8_readCar_105 rfl ?_
      refine K_iast (Ms' := ((up w25 7 (x24 + 1).toNatClampNeg x20) :: q)) dX8_readCar_106 kl_7 (Nat.succ_pos _) rfl ?_
      refine K_nmm (fun w => (w :: q)) rfl (fun w26 => ?_)
      refine K_aload_n 4 dX8_readCar_107 rfl ?_
      refine K_get (v := .ref 7) dX8_readCar_108 fl_X8_22 kl_0 rfl rfl ?_
      refine K_iload 0 dX8_readCar_111 rfl ?_
      refine K_iconst (v := 2) dX8_readCar_113 (by decide) ?_
      refine K_iadd dX8_readCar_114 ?_
      refine K_iload_n 1 dX8_readCar_115 rfl ?_
      refine K_iast (Ms' := ((up w26 7 (x24 + 2).toNatClampNeg x22) :: q)) dX8_readCar_116 kl_7 (Nat.succ_pos _) rfl ?_
      refine K_nmm (fun w => (w :: q)) rfl (fun w27 => ?_)
      refine K_aload_n 4 dX8_readCar_117 rfl ?_
      refine K_get (v := .ref 7) dX8_readCar_118 fl_X8_22 kl_0 rfl rfl ?_
      refine K_iconst (v := 5) dX8_readCar_121 (by decide) ?_
      refine K_dup2 dX8_readCar_122 rfl rfl ?_
      refine K_iald (f := w27 7) dX8_readCar_123 kl_7 rfl ?_
      refine K_iconst (v := 1) dX8_readCar_124 (by decide) ?_
      refine K_iadd dX8_readCar_125 ?_
      refine K_iast (Ms' := ((up w27 7 (5 : Int32).toNatClampNeg ((w27 7 (5 : Int32).toNatClampNeg) + 1)) :: q)) dX8_readCar_126 kl_7 (Nat.succ_pos _) rfl ?_
      refine K_nmm (fun w => (w :: q)) rfl (fun w28 => ?_)
      exact K_ret (rv := none) dX8_readCar_127 trivial rfl rfl
  · refine K_if_ne 37 dX8_readCar_10 rfl (fun _ => ?_) (fun _ => ?_)
    · exact hj16 r11
    · refine K_aload_n 0 dX8_readCar_13 rfl ?_
      refine K_get (v := .int (r11 0 16)) dX8_readCar_14 fl_X8_114 kl_0 rfl rfl ?_
      refine K_iconst (v := 3) dX8_readCar_17 (by decide) ?_
      refine K_icmp_ne 37 dX8_readCar_18 rfl (fun _ => ?_) (fun _ => ?_)
      · exact hj16 r11
      · refine K_aload_n 0 dX8_readCar_21 rfl ?_
        refine K_aload_n 0 dX8_readCar_22 rfl ?_
        refine K_callV (E' := e_X8_figures r11 q) (b := 0) (As := []) (rest := [.ref 0]) dX8_readCar_23 ml_X8_139 (mf_X8_figures 1) mv_X8_figures (fun hj r hr => c_X8_figures hj r11 q  hr) (rcv_obj (q := (RX8, TX8, 37)) kl_0 rfl) rfl rfl (Nat.le_of_ble_eq_true rfl) (Nat.le_of_ble_eq_true rfl) (fun r12 => ?_)
        show K G (mi_X8_readCar 5) (e_X8_readCar m0 q) 26 [(0, .ref 0)] [.int r12, .ref 0] (r11 :: q) _
        refine K_callV (E' := e_X8_isOwner r11 q) (b := 0) (As := [.int r12]) (rest := []) dX8_readCar_26 ml_X8_180 (mf_X8_isOwner 1) mv_X8_isOwner (fun hj r hr => c_X8_isOwner hj r11 q r12 hr) (rcv_obj (q := (RX8, TX8, 37)) kl_0 rfl) rfl rfl (Nat.le_of_ble_eq_true rfl) (Nat.le_of_ble_eq_true rfl) (fun r13 => ?_)
        show K G (mi_X8_readCar 5) (e_X8_readCar m0 q) 29 [(0, .ref 0)] [.int r13] (r11 :: q) _
        refine K_if_eq 37 dX8_readCar_29 rfl (fun _ => ?_) (fun _ => ?_)
        · exact hj16 r11
        · refine K_aload_n 0 dX8_readCar_32 rfl ?_
          refine K_iconst (v := 2) dX8_readCar_33 (by decide) ?_
          refine K_callV (E' := e_X8_bad r11 q) (b := 0) (As := [.int 2]) (rest := []) dX8_readCar_34 ml_X8_135 (mf_X8_bad 1) mv_X8_bad (fun hj r hr => c_X8_bad hj r11 q (2 : Int32) hr) (rcv_obj (q := (RX8, TX8, 37)) kl_0 rfl) rfl rfl (Nat.le_of_ble_eq_true rfl) (Nat.le_of_ble_eq_true rfl) (fun r14 => ?_)
          show K G (mi_X8_readCar 5) (e_X8_readCar m0 q) 37 [(0, .ref 0)] [] (r14 :: q) _
          exact hj16 r14
theorem c_X8_readCar {G : GE} (hj : dj G) (m0 : Mem) (q : List Mem)  {r : Mem} (hr : f_X8_readCar m0 = some r) : Ctr G yX8_readCar (mi_X8_readCar 5) [.ref 0] (m0 :: q) ((e_X8_readCar m0 q) r).1 ((e_X8_readCar m0 q) r).2 := Ctr_of hj (by decide) rfl hr rfl (Nat.le_of_ble_eq_true rfl) (k_X8_readCar m0 q )
abbrev e_X8_readQuarrel (m0 : Mem) (q : List Mem) : Mem → Option Value × List Mem := fun r => (none, (r :: q))
theorem k_X8_readQuarrel {G : GE} (m0 : Mem) (q : List Mem)  : K G (mi_X8_readQuarrel 6) (e_X8_readQuarrel m0 q) 0 [(0, .ref 0)] [] (m0 :: q) (f_X8_readQuarrel m0) := by
  unfold f_X8_readQuarrel
  refine K_aload_n 0 dX8_readQuarrel_0 rfl ?_
  refine K_bipush (v := 6) dX8_readQuarrel_1 (by decide) ?_
  refine K_bipush (v := 6) dX8_readQuarrel_3 (by decide) ?_
  refine K_callV (E' := e_X8_begins m0 q) (b := 0) (As := [.int 6, .int 6]) (rest := []) dX8_readQuarrel_5 ml_X8_161 (mf_X8_begins 4) mv_X8_begins (fun hj r hr => c_X8_begins hj m0 q (6 : Int32) (6 : Int32) hr) (rcv_obj (q := (RX8, TX8, 37)) kl_0 rfl) rfl rfl (Nat.le_of_ble_eq_true rfl) (Nat.le_of_ble_eq_true rfl) (fun r11 => ?_)
  show K G (mi_X8_readQuarrel 6) (e_X8_readQuarrel m0 q) 8 [(0, .ref 0)] [] (r11 :: q) _
  refine K_aload_n 0 dX8_readQuarrel_8 rfl ?_
  refine K_iconst (v := 0) dX8_readQuarrel_9 (by decide) ?_
  refine K_aload_n 0 dX8_readQuarrel_10 rfl ?_
  refine K_get (v := .ref 7) dX8_readQuarrel_11 fl_X8_22 kl_0 rfl rfl ?_
  refine K_iconst (v := 4) dX8_readQuarrel_14 (by decide) ?_
  refine K_iald (f := r11 7) dX8_readQuarrel_15 kl_7 rfl ?_
  refine K_iconst (v := 1) dX8_readQuarrel_16 (by decide) ?_
  refine K_isub dX8_readQuarrel_17 ?_
  refine K_callV (E' := e_X8_number r11 q) (b := 0) (As := [.int 0, .int ((r11 7 (4 : Int32).toNatClampNeg) - 1)]) (rest := []) dX8_readQuarrel_18 ml_X8_157 (mf_X8_number 4) mv_X8_number (fun hj r hr => c_X8_number hj r11 q (0 : Int32) ((r11 7 (4 : Int32).toNatClampNeg) - 1) hr) (rcv_obj (q := (RX8, TX8, 37)) kl_0 rfl) rfl rfl (Nat.le_of_ble_eq_true rfl) (Nat.le_of_ble_eq_true rfl) (fun r12 => ?_)
  show K G (mi_X8_readQuarrel 6) (e_X8_readQuarrel m0 q) 21 [(0, .ref 0)] [.int r12.1] (r12.2 :: q) _
  refine K_nmi (fun x13 => ?_)
  refine K_istore_n (lv' := [(1, .int x13), (0, .ref 0)]) dX8_readQuarrel_21 (by decide) rfl ?_
  refine K_aload_n 1 dX8_readQuarrel_22 rfl ?_
  refine K_iconst (v := 0) dX8_readQuarrel_23 (by decide) ?_
  refine K_aload_n 1 dX8_readQuarrel_24 rfl ?_
  refine K_get (v := .ref 7) dX8_readQuarrel_25 fl_X8_22 kl_0 rfl rfl ?_
  refine K_iconst (v := 4) dX8_readQuarrel_28 (by decide) ?_
  refine K_iald (f := r12.2 7) dX8_readQuarrel_29 kl_7 rfl ?_
  refine K_iconst (v := 1) dX8_readQuarrel_30 (by decide) ?_
  refine K_isub dX8_readQuarrel_31 ?_
  refine K_iload_n 0 dX8_readQuarrel_32 rfl ?_
  refine K_callV (E' := e_X8_unlike r12.2 q) (b := 0) (As := [.int 0, .int ((r12.2 7 (4 : Int32).toNatClampNeg) - 1), .int x13]) (rest := []) dX8_readQuarrel_33 ml_X8_165 (mf_X8_unlike 5) mv_X8_unlike (fun hj r hr => c_X8_unlike hj r12.2 q (0 : Int32) ((r12.2 7 (4 : Int32).toNatClampNeg) - 1) x13 hr) (rcv_obj (q := (RX8, TX8, 37)) kl_0 rfl) rfl rfl (Nat.le_of_ble_eq_true rfl) (Nat.le_of_ble_eq_true rfl) (fun r14 => ?_)
  show K G (mi_X8_readQuarrel 6) (e_X8_readQuarrel m0 q) 36 [(1, .int x13), (0, .ref 0)] [.int r14.1] (r14.2 :: q) _
  refine K_nmi (fun x15 => ?_)
  refine K_istore_n (lv' := [(2, .int x15), (1, .int x13), (0, .ref 0)]) dX8_readQuarrel_36 (by decide) rfl ?_
  refine K_aload_n 2 dX8_readQuarrel_37 rfl ?_
  refine K_callV (E' := e_X8_mustEnd r14.2 q) (b := 0) (As := []) (rest := []) dX8_readQuarrel_38 ml_X8_169 (mf_X8_mustEnd 4) mv_X8_mustEnd (fun hj r hr => c_X8_mustEnd hj r14.2 q  hr) (rcv_obj (q := (RX8, TX8, 37)) kl_0 rfl) rfl rfl (Nat.le_of_ble_eq_true rfl) (Nat.le_of_ble_eq_true rfl) (fun r16 => ?_)
  show K G (mi_X8_readQuarrel 6) (e_X8_readQuarrel m0 q) 41 [(2, .int x15), (1, .int x13), (0, .ref 0)] [] (r16 :: q) _
  refine K_aload_n 2 dX8_readQuarrel_41 rfl ?_
  refine K_get (v := .int (r16 0 19)) dX8_readQuarrel_42 fl_X8_126 kl_0 rfl rfl ?_
  refine K_if_ne 97 dX8_readQuarrel_45 rfl (fun _ => ?_) (fun _ => ?_)
  · exact K_ret (rv := none) dX8_readQuarrel_97 trivial rfl rfl
  · refine K_aload_n 2 dX8_readQuarrel_48 rfl ?_
    refine K_get (v := .ref 7) dX8_readQuarrel_49 fl_X8_22 kl_0 rfl rfl ?_
    refine K_bipush (v := 72) dX8_readQuarrel_52 (by decide) ?_
    refine K_iconst (v := 4) dX8_readQuarrel_54 (by decide) ?_
    refine K_iload_n 1 dX8_readQuarrel_55 rfl ?_
    refine K_imul dX8_readQuarrel_56 ?_
    refine K_iadd dX8_readQuarrel_57 ?_
    refine K_iconst (v := 3) dX8_readQuarrel_58 (by decide) ?_
    refine K_iadd dX8_readQuarrel_59 ?_
    refine K_dup2 dX8_readQuarrel_60 rfl rfl ?_
    refine K_iald (f := r16 7) dX8_readQuarrel_61 kl_7 rfl ?_
    refine K_iconst (v := 1) dX8_readQuarrel_62 (by decide) ?_
    refine K_iload_n 0 dX8_readQuarrel_63 rfl ?_
    refine K_ishl dX8_readQuarrel_64 ?_
    refine K_ior dX8_readQuarrel_65 ?_
    refine K_iast (Ms' := ((up r16 7 ((72 + (4 * x13)) + 3).toNatClampNeg ((r16 7 ((72 + (4 * x13)) + 3).toNatClampNeg) ||| (1 <<< (x15 &&& 31)))) :: q)) dX8_readQuarrel_66 kl_7 (Nat.succ_pos _) rfl ?_
    refine K_nmm (fun w => (w :: q)) rfl (fun w17 => ?_)
    refine K_aload_n 2 dX8_readQuarrel_67 rfl ?_
    refine K_get (v := .ref 7) dX8_readQuarrel_68 fl_X8_22 kl_0 rfl rfl ?_
    refine K_bipush (v := 72) dX8_readQuarrel_71 (by decide) ?_
    refine K_iconst (v := 4) dX8_readQuarrel_73 (by decide) ?_
    refine K_iload_n 0 dX8_readQuarrel_74 rfl ?_
    refine K_imul dX8_readQuarrel_75 ?_
    refine K_iadd dX8_readQuarrel_76 ?_
    refine K_iconst (v := 3) dX8_readQuarrel_77 (by decide) ?_
    refine K_iadd dX8_readQuarrel_78 ?_
    refine K_dup2 dX8_readQuarrel_79 rfl rfl ?_
    refine K_iald (f := w17 7) dX8_readQuarrel_80 kl_7 rfl ?_
    refine K_iconst (v := 1) dX8_readQuarrel_81 (by decide) ?_
    refine K_iload_n 1 dX8_readQuarrel_82 rfl ?_
    refine K_ishl dX8_readQuarrel_83 ?_
    refine K_ior dX8_readQuarrel_84 ?_
    refine K_iast (Ms' := ((up w17 7 ((72 + (4 * x15)) + 3).toNatClampNeg ((w17 7 ((72 + (4 * x15)) + 3).toNatClampNeg) ||| (1 <<< (x13 &&& 31)))) :: q)) dX8_readQuarrel_85 kl_7 (Nat.succ_pos _) rfl ?_
    refine K_nmm (fun w => (w :: q)) rfl (fun w18 => ?_)
    refine K_aload_n 2 dX8_readQuarrel_86 rfl ?_
    refine K_get (v := .ref 7) dX8_readQuarrel_87 fl_X8_22 kl_0 rfl rfl ?_
    refine K_bipush (v := 6) dX8_readQuarrel_90 (by decide) ?_
    refine K_dup2 dX8_readQuarrel_92 rfl rfl ?_
    refine K_iald (f := w18 7) dX8_readQuarrel_93 kl_7 rfl ?_
    refine K_iconst (v := 1) dX8_readQuarrel_94 (by decide) ?_
    refine K_iadd dX8_readQuarrel_95 ?_
    refine K_iast (Ms' := ((up w18 7 (6 : Int32).toNatClampNeg ((w18 7 (6 : Int32).toNatClampNeg) + 1)) :: q)) dX8_readQuarrel_96 kl_7 (Nat.succ_pos _) rfl ?_
    refine K_nmm (fun w => (w :: q)) rfl (fun w19 => ?_)
    exact K_ret (rv := none) dX8_readQuarrel_97 trivial rfl rfl
theorem c_X8_readQuarrel {G : GE} (hj : dj G) (m0 : Mem) (q : List Mem)  {r : Mem} (hr : f_X8_readQuarrel m0 = some r) : Ctr G yX8_readQuarrel (mi_X8_readQuarrel 6) [.ref 0] (m0 :: q) ((e_X8_readQuarrel m0 q) r).1 ((e_X8_readQuarrel m0 q) r).2 := Ctr_of hj (by decide) rfl hr rfl (Nat.le_of_ble_eq_true rfl) (k_X8_readQuarrel m0 q )
abbrev e_X8_layFar (m0 : Mem) (q : List Mem) : Mem → Option Value × List Mem := fun r => (none, (r :: q))
theorem k_X8_layFar_L18 {G : GE} (m0 : Mem) (q : List Mem) (u11 : Int32) (u13 : Int32) (k : Int32 → Mem → Option (Mem)) (hk : ∀ (u15 : Int32) (w16 : Mem), K G (mi_X8_layFar 1) (e_X8_layFar m0 q) 113 [(0, .ref 0), (1, .int u11), (2, .int u13), (3, .int u15)] [] (w16 :: q) (k u15 w16)) : ∀ (t : Nat) (u15 : Int32) (w16 : Mem), K G (mi_X8_layFar 1) (e_X8_layFar m0 q) 18 [(0, .ref 0), (1, .int u11), (2, .int u13), (3, .int u15)] [] (w16 :: q) (f_X8_layFar_L18 k u11 u13 t u15 w16) := by
  intro t
  induction t with
  | zero => intro u15 w16; exact K_none
  | succ t ih =>
    intro u15 w16
    rw [f_X8_layFar_L18]
    refine K_iload_n 3 dX8_layFar_18 rfl ?_
    refine K_bipush (v := 8) dX8_layFar_19 (by decide) ?_
    refine K_icmp_ge 113 dX8_layFar_21 rfl (fun _ => ?_) (fun _ => ?_)
    · refine K_loc [0, 1, 2, 3] (lv' := [(0, .ref 0), (1, .int u11), (2, .int u13), (3, .int u15)]) rfl ?_
      exact hk u15 w16
    · refine K_aload_n 0 dX8_layFar_24 rfl ?_
      refine K_get (v := .ref 7) dX8_layFar_25 fl_X8_22 kl_0 rfl rfl ?_
      refine K_bipush (v := 8) dX8_layFar_28 (by decide) ?_
      refine K_bipush (v := 8) dX8_layFar_30 (by decide) ?_
      refine K_iload_n 2 dX8_layFar_32 rfl ?_
      refine K_imul dX8_layFar_33 ?_
      refine K_iadd dX8_layFar_34 ?_
      refine K_iload_n 1 dX8_layFar_35 rfl ?_
      refine K_iadd dX8_layFar_36 ?_
      refine K_iald (f := w16 7) dX8_layFar_37 kl_7 rfl ?_
      refine K_aload_n 0 dX8_layFar_38 rfl ?_
      refine K_get (v := .ref 7) dX8_layFar_39 fl_X8_22 kl_0 rfl rfl ?_
      refine K_bipush (v := 8) dX8_layFar_42 (by decide) ?_
      refine K_bipush (v := 8) dX8_layFar_44 (by decide) ?_
      refine K_iload_n 1 dX8_layFar_46 rfl ?_
      refine K_imul dX8_layFar_47 ?_
      refine K_iadd dX8_layFar_48 ?_
      refine K_iload_n 3 dX8_layFar_49 rfl ?_
      refine K_iadd dX8_layFar_50 ?_
      refine K_iald (f := w16 7) dX8_layFar_51 kl_7 rfl ?_
      refine K_iadd dX8_layFar_52 ?_
      refine K_nmi (fun x17 => ?_)
      refine K_istore (lv' := [(4, .int x17), (0, .ref 0), (1, .int u11), (2, .int u13), (3, .int u15)]) dX8_layFar_53 (by decide) rfl ?_
      refine K_aload_n 1 dX8_layFar_55 rfl ?_
      refine K_get (v := .ref 7) dX8_layFar_56 fl_X8_22 kl_0 rfl rfl ?_
      refine K_bipush (v := 8) dX8_layFar_59 (by decide) ?_
      refine K_bipush (v := 8) dX8_layFar_61 (by decide) ?_
      refine K_iload_n 3 dX8_layFar_63 rfl ?_
      refine K_imul dX8_layFar_64 ?_
      refine K_iadd dX8_layFar_65 ?_
      refine K_iload_n 4 dX8_layFar_66 rfl ?_
      refine K_iadd dX8_layFar_67 ?_
      refine K_iload 0 dX8_layFar_68 rfl ?_
      refine K_aload_n 1 dX8_layFar_70 rfl ?_
      refine K_get (v := .ref 7) dX8_layFar_71 fl_X8_22 kl_0 rfl rfl ?_
      refine K_bipush (v := 8) dX8_layFar_74 (by decide) ?_
      refine K_bipush (v := 8) dX8_layFar_76 (by decide) ?_
      refine K_iload_n 3 dX8_layFar_78 rfl ?_
      refine K_imul dX8_layFar_79 ?_
      refine K_iadd dX8_layFar_80 ?_
      refine K_iload_n 4 dX8_layFar_81 rfl ?_
      refine K_iadd dX8_layFar_82 ?_
      refine K_iald (f := w16 7) dX8_layFar_83 kl_7 rfl ?_
      refine K_icmp_ge 92 dX8_layFar_84 rfl (fun _ => ?_) (fun _ => ?_)
      · refine K_aload_n 1 dX8_layFar_92 rfl ?_
        refine K_get (v := .ref 7) dX8_layFar_93 fl_X8_22 kl_0 rfl rfl ?_
        refine K_bipush (v := 8) dX8_layFar_96 (by decide) ?_
        refine K_bipush (v := 8) dX8_layFar_98 (by decide) ?_
        refine K_iload_n 3 dX8_layFar_100 rfl ?_
        refine K_imul dX8_layFar_101 ?_
        refine K_iadd dX8_layFar_102 ?_
        refine K_iload_n 4 dX8_layFar_103 rfl ?_
        refine K_iadd dX8_layFar_104 ?_
        refine K_iald (f := w16 7) dX8_layFar_105 kl_7 rfl ?_
        refine K_iast (Ms' := ((up w16 7 ((8 + (8 * u13)) + u15).toNatClampNeg (w16 7 ((8 + (8 * u13)) + u15).toNatClampNeg)) :: q)) dX8_layFar_106 kl_7 (Nat.succ_pos _) rfl ?_
        refine K_nmm (fun w => (w :: q)) rfl (fun w18 => ?_)
        refine K_iinc 4 (w := u15 + 1) (lv' := [(3, .int (u15 + 1)), (4, .int x17), (0, .ref 0), (1, .int u11), (2, .int u13)]) dX8_layFar_107 rfl rfl (by decide) rfl ?_
        refine K_goto 18 dX8_layFar_110 rfl ?_
        refine K_loc [2, 3, 4, 0] (lv' := [(0, .ref 0), (1, .int u11), (2, .int u13), (3, .int (u15 + 1))]) rfl ?_
        exact ih (u15 + 1) w18
      · refine K_iload 0 dX8_layFar_87 rfl ?_
        refine K_goto 106 dX8_layFar_89 rfl ?_
        refine K_iast (Ms' := ((up w16 7 ((8 + (8 * u13)) + u15).toNatClampNeg x17) :: q)) dX8_layFar_106 kl_7 (Nat.succ_pos _) rfl ?_
        refine K_nmm (fun w => (w :: q)) rfl (fun w19 => ?_)
        refine K_iinc 4 (w := u15 + 1) (lv' := [(3, .int (u15 + 1)), (4, .int x17), (0, .ref 0), (1, .int u11), (2, .int u13)]) dX8_layFar_107 rfl rfl (by decide) rfl ?_
        refine K_goto 18 dX8_layFar_110 rfl ?_
        refine K_loc [2, 3, 4, 0] (lv' := [(0, .ref 0), (1, .int u11), (2, .int u13), (3, .int (u15 + 1))]) rfl ?_
        exact ih (u15 + 1) w19
theorem k_X8_layFar_L10 {G : GE} (m0 : Mem) (q : List Mem) (u11 : Int32) (k : Int32 → Mem → Option (Mem)) (hk : ∀ (u13 : Int32) (w14 : Mem), K G (mi_X8_layFar 1) (e_X8_layFar m0 q) 119 [(0, .ref 0), (1, .int u11), (2, .int u13)] [] (w14 :: q) (k u13 w14)) : ∀ (t : Nat) (u13 : Int32) (w14 : Mem), K G (mi_X8_layFar 1) (e_X8_layFar m0 q) 10 [(0, .ref 0), (1, .int u11), (2, .int u13)] [] (w14 :: q) (f_X8_layFar_L10 k u11 t u13 w14) := by
  intro t
  induction t with
  | zero => intro u13 w14; exact K_none
  | succ t ih =>
    intro u13 w14
    rw [f_X8_layFar_L10]
    refine K_iload_n 2 dX8_layFar_10 rfl ?_
    refine K_bipush (v := 8) dX8_layFar_11 (by decide) ?_
    refine K_icmp_ge 119 dX8_layFar_13 rfl (fun _ => ?_) (fun _ => ?_)
    · refine K_loc [0, 1, 2] (lv' := [(0, .ref 0), (1, .int u11), (2, .int u13)]) rfl ?_
      exact hk u13 w14
    · refine K_iconst (v := 0) dX8_layFar_16 (by decide) ?_
      refine K_istore_n (lv' := [(3, .int 0), (0, .ref 0), (1, .int u11), (2, .int u13)]) dX8_layFar_17 (by decide) rfl ?_
      refine K_loc [1, 2, 3, 0] (lv' := [(0, .ref 0), (1, .int u11), (2, .int u13), (3, .int 0)]) rfl ?_
      refine k_X8_layFar_L18  m0 q u11 u13 _ (fun u20 w21 => ?_) 100000 0 w14
      refine K_iinc 2 (w := u13 + 1) (lv' := [(2, .int (u13 + 1)), (0, .ref 0), (1, .int u11), (3, .int u20)]) dX8_layFar_113 rfl rfl (by decide) rfl ?_
      refine K_goto 10 dX8_layFar_116 rfl ?_
      refine K_loc [1, 2, 0] (lv' := [(0, .ref 0), (1, .int u11), (2, .int (u13 + 1))]) rfl ?_
      exact ih (u13 + 1) w21
theorem k_X8_layFar_L2 {G : GE} (m0 : Mem) (q : List Mem) (k : Int32 → Mem → Option (Mem)) (hk : ∀ (u11 : Int32) (w12 : Mem), K G (mi_X8_layFar 1) (e_X8_layFar m0 q) 125 [(0, .ref 0), (1, .int u11)] [] (w12 :: q) (k u11 w12)) : ∀ (t : Nat) (u11 : Int32) (w12 : Mem), K G (mi_X8_layFar 1) (e_X8_layFar m0 q) 2 [(0, .ref 0), (1, .int u11)] [] (w12 :: q) (f_X8_layFar_L2 k t u11 w12) := by
  intro t
  induction t with
  | zero => intro u11 w12; exact K_none
  | succ t ih =>
    intro u11 w12
    rw [f_X8_layFar_L2]
    refine K_iload_n 1 dX8_layFar_2 rfl ?_
    refine K_bipush (v := 8) dX8_layFar_3 (by decide) ?_
    refine K_icmp_ge 125 dX8_layFar_5 rfl (fun _ => ?_) (fun _ => ?_)
    · refine K_loc [0, 1] (lv' := [(0, .ref 0), (1, .int u11)]) rfl ?_
      exact hk u11 w12
    · refine K_iconst (v := 0) dX8_layFar_8 (by decide) ?_
      refine K_istore_n (lv' := [(2, .int 0), (0, .ref 0), (1, .int u11)]) dX8_layFar_9 (by decide) rfl ?_
      refine K_loc [1, 2, 0] (lv' := [(0, .ref 0), (1, .int u11), (2, .int 0)]) rfl ?_
      refine k_X8_layFar_L10  m0 q u11 _ (fun u22 w23 => ?_) 100000 0 w12
      refine K_iinc 1 (w := u11 + 1) (lv' := [(1, .int (u11 + 1)), (0, .ref 0), (2, .int u22)]) dX8_layFar_119 rfl rfl (by decide) rfl ?_
      refine K_goto 2 dX8_layFar_122 rfl ?_
      refine K_loc [1, 0] (lv' := [(0, .ref 0), (1, .int (u11 + 1))]) rfl ?_
      exact ih (u11 + 1) w23
theorem k_X8_layFar {G : GE} (m0 : Mem) (q : List Mem)  : K G (mi_X8_layFar 1) (e_X8_layFar m0 q) 0 [(0, .ref 0)] [] (m0 :: q) (f_X8_layFar m0) := by
  unfold f_X8_layFar
  refine K_iconst (v := 0) dX8_layFar_0 (by decide) ?_
  refine K_istore_n (lv' := [(1, .int 0), (0, .ref 0)]) dX8_layFar_1 (by decide) rfl ?_
  refine K_loc [1, 0] (lv' := [(0, .ref 0), (1, .int 0)]) rfl ?_
  refine k_X8_layFar_L2  m0 q  _ (fun u24 w25 => ?_) 100000 0 m0
  exact K_ret (rv := none) dX8_layFar_125 trivial rfl rfl
theorem c_X8_layFar {G : GE} (hj : dj G) (m0 : Mem) (q : List Mem)  {r : Mem} (hr : f_X8_layFar m0 = some r) : Ctr G yX8_layFar (mi_X8_layFar 1) [.ref 0] (m0 :: q) ((e_X8_layFar m0 q) r).1 ((e_X8_layFar m0 q) r).2 := Ctr_of hj (by decide) rfl hr rfl (Nat.le_of_ble_eq_true rfl) (k_X8_layFar m0 q )
