abbrev e_X8_fetch (m0 : Mem) (q : List Mem) : (Int32 × Mem) → Option Value × List Mem := fun r => (some (.int r.1), (r.2 :: q))
theorem k_X8_fetch_L49 {G : GE} (m0 : Mem) (q : List Mem) (r13 : Int32) (w11 : Mem) (x15 : Int32) (k : Int32 → Int32 → Option (Int32 × Mem)) (hk : ∀ (u16 : Int32) (u17 : Int32), K G (mi_X8_fetch 5) (e_X8_fetch m0 q) 102 [(0, .ref 0), (2, .int r13), (3, .int x15), (4, .int u16), (5, .int u17)] [] (w11 :: q) (k u16 u17)) : ∀ (t : Nat) (u16 : Int32) (u17 : Int32), K G (mi_X8_fetch 5) (e_X8_fetch m0 q) 49 [(0, .ref 0), (2, .int r13), (3, .int x15), (4, .int u16), (5, .int u17)] [] (w11 :: q) (f_X8_fetch_L49 k r13 w11 t u16 u17) := by
  intro t
  induction t with
  | zero => intro u16 u17; exact K_none
  | succ t ih =>
    intro u16 u17
    rw [f_X8_fetch_L49]
    refine K_iload 4 dX8_fetch_49 rfl ?_
    refine K_aload_n 0 dX8_fetch_51 rfl ?_
    refine K_get (v := .ref 6) dX8_fetch_52 fl_X8_19 kl_0 rfl rfl ?_
    refine K_iconst (v := 5) dX8_fetch_55 (by decide) ?_
    refine K_iald (f := w11 6) dX8_fetch_56 kl_6 rfl ?_
    refine K_icmp_ge 102 dX8_fetch_57 rfl (fun _ => ?_) (fun _ => ?_)
    · refine K_loc [0, 1, 2, 3, 4] (lv' := [(0, .ref 0), (2, .int r13), (3, .int x15), (4, .int u16), (5, .int u17)]) rfl ?_
      exact hk u16 u17
    · refine K_iload_n 1 dX8_fetch_60 rfl ?_
      refine K_iload 4 dX8_fetch_61 rfl ?_
      refine K_ishr dX8_fetch_63 ?_
      refine K_iconst (v := 1) dX8_fetch_64 (by decide) ?_
      refine K_iand dX8_fetch_65 ?_
      refine K_iconst (v := 1) dX8_fetch_66 (by decide) ?_
      refine K_icmp_ne 92 dX8_fetch_67 rfl (fun _ => ?_) (fun _ => ?_)
      · refine K_iload 3 dX8_fetch_92 rfl ?_
        refine K_istore (lv' := [(4, .int u16), (0, .ref 0), (2, .int r13), (3, .int x15), (5, .int u17)]) dX8_fetch_94 (by decide) rfl ?_
        refine K_iinc 4 (w := u17 + 1) (lv' := [(5, .int (u17 + 1)), (4, .int u16), (0, .ref 0), (2, .int r13), (3, .int x15)]) dX8_fetch_96 rfl rfl (by decide) rfl ?_
        refine K_goto 49 dX8_fetch_99 rfl ?_
        refine K_loc [2, 3, 4, 1, 0] (lv' := [(0, .ref 0), (2, .int r13), (3, .int x15), (4, .int u16), (5, .int (u17 + 1))]) rfl ?_
        exact ih u16 (u17 + 1)
      · refine K_aload_n 0 dX8_fetch_70 rfl ?_
        refine K_iload 4 dX8_fetch_71 rfl ?_
        refine K_iconst (v := 1) dX8_fetch_73 (by decide) ?_
        refine K_callV (E' := e_X8_car0 w11 q) (b := 0) (As := [.int u17, .int 1]) (rest := []) dX8_fetch_74 ml_X8_229 (mf_X8_car0 1) mv_X8_car0 (fun hj r hr => c_X8_car0 hj w11 q u17 (1 : Int32) hr) (rcv_obj (q := (RX8, TX8, 37)) kl_0 rfl) rfl rfl (Nat.le_of_ble_eq_true rfl) (Nat.le_of_ble_eq_true rfl) (fun r18 => ?_)
        show K G (mi_X8_fetch 5) (e_X8_fetch m0 q) 77 [(0, .ref 0), (2, .int r13), (3, .int x15), (4, .int u16), (5, .int u17)] [.int r18] (w11 :: q) _
        refine K_iload 3 dX8_fetch_77 rfl ?_
        refine K_icmp_le 92 dX8_fetch_79 rfl (fun _ => ?_) (fun _ => ?_)
        · refine K_iload 3 dX8_fetch_92 rfl ?_
          refine K_istore (lv' := [(4, .int u16), (0, .ref 0), (2, .int r13), (3, .int x15), (5, .int u17)]) dX8_fetch_94 (by decide) rfl ?_
          refine K_iinc 4 (w := u17 + 1) (lv' := [(5, .int (u17 + 1)), (4, .int u16), (0, .ref 0), (2, .int r13), (3, .int x15)]) dX8_fetch_96 rfl rfl (by decide) rfl ?_
          refine K_goto 49 dX8_fetch_99 rfl ?_
          refine K_loc [2, 3, 4, 1, 0] (lv' := [(0, .ref 0), (2, .int r13), (3, .int x15), (4, .int u16), (5, .int (u17 + 1))]) rfl ?_
          exact ih u16 (u17 + 1)
        · refine K_aload_n 0 dX8_fetch_82 rfl ?_
          refine K_iload 4 dX8_fetch_83 rfl ?_
          refine K_iconst (v := 1) dX8_fetch_85 (by decide) ?_
          refine K_callV (E' := e_X8_car0 w11 q) (b := 0) (As := [.int u17, .int 1]) (rest := []) dX8_fetch_86 ml_X8_229 (mf_X8_car0 1) mv_X8_car0 (fun hj r hr => c_X8_car0 hj w11 q u17 (1 : Int32) hr) (rcv_obj (q := (RX8, TX8, 37)) kl_0 rfl) rfl rfl (Nat.le_of_ble_eq_true rfl) (Nat.le_of_ble_eq_true rfl) (fun r19 => ?_)
          show K G (mi_X8_fetch 5) (e_X8_fetch m0 q) 89 [(0, .ref 0), (2, .int r13), (3, .int x15), (4, .int u16), (5, .int u17)] [.int r19] (w11 :: q) _
          refine K_goto 94 dX8_fetch_89 rfl ?_
          refine K_istore (lv' := [(4, .int r19), (0, .ref 0), (2, .int r13), (3, .int x15), (5, .int u17)]) dX8_fetch_94 (by decide) rfl ?_
          refine K_iinc 4 (w := u17 + 1) (lv' := [(5, .int (u17 + 1)), (4, .int r19), (0, .ref 0), (2, .int r13), (3, .int x15)]) dX8_fetch_96 rfl rfl (by decide) rfl ?_
          refine K_goto 49 dX8_fetch_99 rfl ?_
          refine K_loc [2, 3, 4, 1, 0] (lv' := [(0, .ref 0), (2, .int r13), (3, .int x15), (4, .int r19), (5, .int (u17 + 1))]) rfl ?_
          exact ih r19 (u17 + 1)
theorem k_X8_fetch_L108 {G : GE} (m0 : Mem) (q : List Mem) (w11 : Mem) (x15 : Int32) (u20 : Int32) (k : Int32 → Int32 → Option (Int32 × Mem)) (hk : ∀ (u22 : Int32) (u23 : Int32), K G (mi_X8_fetch 5) (e_X8_fetch m0 q) 146 [(0, .ref 0), (3, .int x15), (4, .int u20), (5, .int u22), (6, .int u23)] [] (w11 :: q) (k u22 u23)) : ∀ (t : Nat) (u22 : Int32) (u23 : Int32), K G (mi_X8_fetch 5) (e_X8_fetch m0 q) 108 [(0, .ref 0), (3, .int x15), (4, .int u20), (5, .int u22), (6, .int u23)] [] (w11 :: q) (f_X8_fetch_L108 k w11 t u22 u23) := by
  intro t
  induction t with
  | zero => intro u22 u23; exact K_none
  | succ t ih =>
    intro u22 u23
    rw [f_X8_fetch_L108]
    refine K_iload 4 dX8_fetch_108 rfl ?_
    refine K_aload_n 0 dX8_fetch_110 rfl ?_
    refine K_get (v := .ref 6) dX8_fetch_111 fl_X8_19 kl_0 rfl rfl ?_
    refine K_iconst (v := 4) dX8_fetch_114 (by decide) ?_
    refine K_iald (f := w11 6) dX8_fetch_115 kl_6 rfl ?_
    refine K_icmp_ge 146 dX8_fetch_116 rfl (fun _ => ?_) (fun _ => ?_)
    · refine K_loc [0, 1, 2, 3, 4] (lv' := [(0, .ref 0), (3, .int x15), (4, .int u20), (5, .int u22), (6, .int u23)]) rfl ?_
      exact hk u22 u23
    · refine K_iload 3 dX8_fetch_119 rfl ?_
      refine K_aload_n 0 dX8_fetch_121 rfl ?_
      refine K_iload 4 dX8_fetch_122 rfl ?_
      refine K_iconst (v := 0) dX8_fetch_124 (by decide) ?_
      refine K_callV (E' := e_X8_of w11 q) (b := 0) (As := [.int u23, .int 0]) (rest := [.int u22]) dX8_fetch_125 ml_X8_237 (mf_X8_of 1) mv_X8_of (fun hj r hr => c_X8_of hj w11 q u23 (0 : Int32) hr) (rcv_obj (q := (RX8, TX8, 37)) kl_0 rfl) rfl rfl (Nat.le_of_ble_eq_true rfl) (Nat.le_of_ble_eq_true rfl) (fun r24 => ?_)
      show K G (mi_X8_fetch 5) (e_X8_fetch m0 q) 128 [(0, .ref 0), (3, .int x15), (4, .int u20), (5, .int u22), (6, .int u23)] [.int r24, .int u22] (w11 :: q) _
      refine K_iconst (v := 5) dX8_fetch_128 (by decide) ?_
      refine K_icmp_ne 136 dX8_fetch_129 rfl (fun _ => ?_) (fun _ => ?_)
      · refine K_iconst (v := 1) dX8_fetch_136 (by decide) ?_
        refine K_iadd dX8_fetch_137 ?_
        refine K_nmi (fun x25 => ?_)
        refine K_istore (lv' := [(5, .int x25), (0, .ref 0), (3, .int x15), (4, .int u20), (6, .int u23)]) dX8_fetch_138 (by decide) rfl ?_
        refine K_iinc 4 (w := u23 + 1) (lv' := [(6, .int (u23 + 1)), (5, .int x25), (0, .ref 0), (3, .int x15), (4, .int u20)]) dX8_fetch_140 rfl rfl (by decide) rfl ?_
        refine K_goto 108 dX8_fetch_143 rfl ?_
        refine K_loc [2, 3, 4, 1, 0] (lv' := [(0, .ref 0), (3, .int x15), (4, .int u20), (5, .int x25), (6, .int (u23 + 1))]) rfl ?_
        exact ih x25 (u23 + 1)
      · refine K_iconst (v := 0) dX8_fetch_132 (by decide) ?_
        refine K_goto 137 dX8_fetch_133 rfl ?_
        refine K_iadd dX8_fetch_137 ?_
        refine K_nmi (fun x26 => ?_)
        refine K_istore (lv' := [(5, .int x26), (0, .ref 0), (3, .int x15), (4, .int u20), (6, .int u23)]) dX8_fetch_138 (by decide) rfl ?_
        refine K_iinc 4 (w := u23 + 1) (lv' := [(6, .int (u23 + 1)), (5, .int x26), (0, .ref 0), (3, .int x15), (4, .int u20)]) dX8_fetch_140 rfl rfl (by decide) rfl ?_
        refine K_goto 108 dX8_fetch_143 rfl ?_
        refine K_loc [2, 3, 4, 1, 0] (lv' := [(0, .ref 0), (3, .int x15), (4, .int u20), (5, .int x26), (6, .int (u23 + 1))]) rfl ?_
        exact ih x26 (u23 + 1)
theorem k_X8_fetch {G : GE} (m0 : Mem) (q : List Mem) (x1 : Int32) : K G (mi_X8_fetch 5) (e_X8_fetch m0 q) 0 [(0, .ref 0), (1, .int x1)] [] (m0 :: q) (f_X8_fetch m0 x1) := by
  unfold f_X8_fetch
  refine K_aload_n 0 dX8_fetch_0 rfl ?_
  refine K_iconst (v := 0) dX8_fetch_1 (by decide) ?_
  refine K_put (Ms' := ((up m0 0 0 0) :: q)) dX8_fetch_2 fp_X8_68 kl_0 rfl rfl rfl (Nat.succ_pos _) rfl ?_
  refine K_nmm (fun w => (w :: q)) rfl (fun w11 => ?_)
  refine K_aload_n 0 dX8_fetch_5 rfl ?_
  refine K_get (v := .int (w11 0 7)) dX8_fetch_6 fl_X8_217 kl_0 rfl rfl ?_
  refine K_if_ne 15 dX8_fetch_9 rfl (fun _ => ?_) (fun _ => ?_)
  · refine K_iload_n 1 dX8_fetch_15 rfl ?_
    refine K_callS (E' := e_X8_isMinute (w11 :: q)) (As := [.int x1]) (rest := []) dX8_fetch_16 ml_X8_255 (mf_X8_isMinute 2) ms_X8_isMinute (fun hj r hr => c_X8_isMinute hj (w11 :: q) x1 hr) rfl rfl (Nat.le_of_ble_eq_true rfl) (Nat.le_of_ble_eq_true rfl) (fun r12 => ?_)
    show K G (mi_X8_fetch 5) (e_X8_fetch m0 q) 19 [(0, .ref 0), (1, .int x1)] [.int r12] (w11 :: q) _
    refine K_if_ne 25 dX8_fetch_19 rfl (fun _ => ?_) (fun _ => ?_)
    · refine K_aload_n 0 dX8_fetch_25 rfl ?_
      refine K_iload_n 1 dX8_fetch_26 rfl ?_
      refine K_callV (E' := e_X8_goingAt w11 q) (b := 0) (As := [.int x1]) (rest := []) dX8_fetch_27 ml_X8_272 (mf_X8_goingAt 4) mv_X8_goingAt (fun hj r hr => c_X8_goingAt hj w11 q x1 hr) (rcv_obj (q := (RX8, TX8, 37)) kl_0 rfl) rfl rfl (Nat.le_of_ble_eq_true rfl) (Nat.le_of_ble_eq_true rfl) (fun r13 => ?_)
      show K G (mi_X8_fetch 5) (e_X8_fetch m0 q) 30 [(0, .ref 0), (1, .int x1)] [.int r13] (w11 :: q) _
      refine K_istore_n (lv' := [(2, .int r13), (0, .ref 0), (1, .int x1)]) dX8_fetch_30 (by decide) rfl ?_
      refine K_aload_n 1 dX8_fetch_31 rfl ?_
      refine K_get (v := .ref 6) dX8_fetch_32 fl_X8_19 kl_0 rfl rfl ?_
      refine K_iconst (v := 5) dX8_fetch_35 (by decide) ?_
      refine K_iald (f := w11 6) dX8_fetch_36 kl_6 rfl ?_
      refine K_iload_n 0 dX8_fetch_37 rfl ?_
      refine K_callS (E' := e_X8_bits (w11 :: q)) (As := [.int r13]) (rest := [.int (w11 6 (5 : Int32).toNatClampNeg)]) dX8_fetch_38 ml_X8_275 (mf_X8_bits 1) ms_X8_bits (fun hj r hr => c_X8_bits hj (w11 :: q) r13 hr) rfl rfl (Nat.le_of_ble_eq_true rfl) (Nat.le_of_ble_eq_true rfl) (fun r14 => ?_)
      show K G (mi_X8_fetch 5) (e_X8_fetch m0 q) 41 [(2, .int r13), (0, .ref 0), (1, .int x1)] [.int r14, .int (w11 6 (5 : Int32).toNatClampNeg)] (w11 :: q) _
      refine K_isub dX8_fetch_41 ?_
      refine K_nmi (fun x15 => ?_)
      refine K_istore_n (lv' := [(3, .int x15), (2, .int r13), (0, .ref 0), (1, .int x1)]) dX8_fetch_42 (by decide) rfl ?_
      refine K_iconst (v := 0) dX8_fetch_43 (by decide) ?_
      refine K_istore (lv' := [(4, .int 0), (3, .int x15), (2, .int r13), (0, .ref 0), (1, .int x1)]) dX8_fetch_44 (by decide) rfl ?_
      refine K_iconst (v := 0) dX8_fetch_46 (by decide) ?_
      refine K_istore (lv' := [(5, .int 0), (4, .int 0), (3, .int x15), (2, .int r13), (0, .ref 0), (1, .int x1)]) dX8_fetch_47 (by decide) rfl ?_
      refine K_loc [4, 3, 2, 1, 0] (lv' := [(0, .ref 0), (2, .int r13), (3, .int x15), (4, .int 0), (5, .int 0)]) rfl ?_
      refine k_X8_fetch_L49  m0 q r13 w11 x15 _ (fun u20 u21 => ?_) 100000 0 0
      refine K_iconst (v := (-1)) dX8_fetch_102 (by decide) ?_
      refine K_istore (lv' := [(5, .int (-1)), (0, .ref 0), (2, .int r13), (3, .int x15), (4, .int u20)]) dX8_fetch_103 (by decide) rfl ?_
      refine K_iconst (v := 0) dX8_fetch_105 (by decide) ?_
      refine K_istore (lv' := [(6, .int 0), (5, .int (-1)), (0, .ref 0), (2, .int r13), (3, .int x15), (4, .int u20)]) dX8_fetch_106 (by decide) rfl ?_
      refine K_loc [2, 4, 5, 1, 0] (lv' := [(0, .ref 0), (3, .int x15), (4, .int u20), (5, .int (-1)), (6, .int 0)]) rfl ?_
      refine k_X8_fetch_L108  m0 q w11 x15 u20 _ (fun u27 u28 => ?_) 100000 (-1) 0
      refine K_iload 2 dX8_fetch_146 rfl ?_
      refine K_iload 3 dX8_fetch_148 rfl ?_
      refine K_pick (fun j30 => (if u27 ≤ u20 then (j30 u27) else (j30 u20))) (fun j30 => ∀ a29 : Int32, K G (mi_X8_fetch 5) (e_X8_fetch m0 q) 160 [(3, .int x15)] [.int a29] (w11 :: q) (j30 a29)) (fun j30 => by simp only [apply_ite j30]) (fun a29 => ?_) (fun j30 hj30 => ?_)
      · refine K_istore (lv' := [(6, .int a29), (3, .int x15)]) dX8_fetch_160 (by decide) rfl ?_
        refine K_iload_n 1 dX8_fetch_162 rfl ?_
        refine K_if_ne 170 dX8_fetch_163 rfl (fun _ => ?_) (fun _ => ?_)
        · refine K_iload 0 dX8_fetch_170 rfl ?_
          refine K_iconst (v := 1) dX8_fetch_172 (by decide) ?_
          refine K_icmp_ge 181 dX8_fetch_173 rfl (fun _ => ?_) (fun _ => ?_)
          · refine K_iload_n 1 dX8_fetch_181 rfl ?_
            refine K_iload 0 dX8_fetch_182 rfl ?_
            refine K_iadd dX8_fetch_184 ?_
            refine K_iconst (v := 1) dX8_fetch_185 (by decide) ?_
            refine K_isub dX8_fetch_186 ?_
            refine K_iload 0 dX8_fetch_187 rfl ?_
            refine K_idiv dX8_fetch_189 ?_
            exact K_ret (rv := some (.int (((x15 + a29) - 1) / a29))) dX8_fetch_190 rfl rfl rfl
          · refine K_ldc (v := (-1000000)) dX8_fetch_176 cst_X8_104 ?_
            refine K_goto 190 dX8_fetch_178 rfl ?_
            exact K_ret (rv := some (.int (-1000000))) dX8_fetch_190 rfl rfl rfl
        · refine K_iconst (v := 0) dX8_fetch_166 (by decide) ?_
          refine K_goto 190 dX8_fetch_167 rfl ?_
          exact K_ret (rv := some (.int 0)) dX8_fetch_190 rfl rfl rfl
      · refine K_icmp_ge 158 dX8_fetch_150 rfl (fun _ => ?_) (fun _ => ?_)
        · refine K_iload 3 dX8_fetch_158 rfl ?_
          refine K_loc [1] (lv' := [(3, .int x15)]) rfl ?_
          exact hj30 u27
        · refine K_iload 2 dX8_fetch_153 rfl ?_
          refine K_goto 160 dX8_fetch_155 rfl ?_
          refine K_loc [1] (lv' := [(3, .int x15)]) rfl ?_
          exact hj30 u20
    · refine K_ldc (v := (-1000001)) dX8_fetch_22 cst_X8_88 ?_
      exact K_ret (rv := some (.int (-1000001))) dX8_fetch_24 rfl rfl rfl
  · refine K_ldc (v := (-1000002)) dX8_fetch_12 cst_X8_240 ?_
    exact K_ret (rv := some (.int (-1000002))) dX8_fetch_14 rfl rfl rfl
theorem c_X8_fetch {G : GE} (hj : dj G) (m0 : Mem) (q : List Mem) (x1 : Int32) {r : Int32 × Mem} (hr : f_X8_fetch m0 x1 = some r) : Ctr G yX8_fetch (mi_X8_fetch 5) [.ref 0, .int x1] (m0 :: q) ((e_X8_fetch m0 q) r).1 ((e_X8_fetch m0 q) r).2 := Ctr_of hj (by decide) rfl hr rfl (Nat.le_of_ble_eq_true rfl) (k_X8_fetch m0 q x1)
abbrev e_X8_allFar (m0 : Mem) (q : List Mem) : Int32 → Option Value × List Mem := fun r => (some (.int r), (m0 :: q))
theorem k_X8_allFar_L4 {G : GE} (m0 : Mem) (q : List Mem) (x1 : Int32) (k : Int32 → Int32 → Option (Int32)) (hk : ∀ (u11 : Int32) (u12 : Int32), K G (mi_X8_allFar 2) (e_X8_allFar m0 q) 34 [(0, .ref 0), (1, .int x1), (2, .int u11), (3, .int u12)] [] (m0 :: q) (k u11 u12)) : ∀ (t : Nat) (u11 : Int32) (u12 : Int32), K G (mi_X8_allFar 2) (e_X8_allFar m0 q) 4 [(0, .ref 0), (1, .int x1), (2, .int u11), (3, .int u12)] [] (m0 :: q) (f_X8_allFar_L4 k x1 m0 t u11 u12) := by
  intro t
  induction t with
  | zero => intro u11 u12; exact K_none
  | succ t ih =>
    intro u11 u12
    rw [f_X8_allFar_L4]
    refine K_iload_n 3 dX8_allFar_4 rfl ?_
    refine K_aload_n 0 dX8_allFar_5 rfl ?_
    refine K_get (v := .ref 6) dX8_allFar_6 fl_X8_19 kl_0 rfl rfl ?_
    refine K_iconst (v := 4) dX8_allFar_9 (by decide) ?_
    refine K_iald (f := m0 6) dX8_allFar_10 kl_6 rfl ?_
    refine K_icmp_ge 34 dX8_allFar_11 rfl (fun _ => ?_) (fun _ => ?_)
    · refine K_loc [0, 1, 2, 3] (lv' := [(0, .ref 0), (1, .int x1), (2, .int u11), (3, .int u12)]) rfl ?_
      exact hk u11 u12
    · refine K_iload_n 2 dX8_allFar_14 rfl ?_
      refine K_aload_n 0 dX8_allFar_15 rfl ?_
      refine K_iload_n 1 dX8_allFar_16 rfl ?_
      refine K_aload_n 0 dX8_allFar_17 rfl ?_
      refine K_iload_n 3 dX8_allFar_18 rfl ?_
      refine K_iconst (v := 1) dX8_allFar_19 (by decide) ?_
      refine K_callV (E' := e_X8_of m0 q) (b := 0) (As := [.int u12, .int 1]) (rest := [.int x1, .ref 0, .int u11]) dX8_allFar_20 ml_X8_237 (mf_X8_of 1) mv_X8_of (fun hj r hr => c_X8_of hj m0 q u12 (1 : Int32) hr) (rcv_obj (q := (RX8, TX8, 37)) kl_0 rfl) rfl rfl (Nat.le_of_ble_eq_true rfl) (Nat.le_of_ble_eq_true rfl) (fun r13 => ?_)
      show K G (mi_X8_allFar 2) (e_X8_allFar m0 q) 23 [(0, .ref 0), (1, .int x1), (2, .int u11), (3, .int u12)] [.int r13, .int x1, .ref 0, .int u11] (m0 :: q) _
      refine K_callV (E' := e_X8_farOf m0 q) (b := 0) (As := [.int x1, .int r13]) (rest := [.int u11]) dX8_allFar_23 ml_X8_249 (mf_X8_farOf 1) mv_X8_farOf (fun hj r hr => c_X8_farOf hj m0 q x1 r13 hr) (rcv_obj (q := (RX8, TX8, 37)) kl_0 rfl) rfl rfl (Nat.le_of_ble_eq_true rfl) (Nat.le_of_ble_eq_true rfl) (fun r14 => ?_)
      show K G (mi_X8_allFar 2) (e_X8_allFar m0 q) 26 [(0, .ref 0), (1, .int x1), (2, .int u11), (3, .int u12)] [.int r14, .int u11] (m0 :: q) _
      refine K_iadd dX8_allFar_26 ?_
      refine K_nmi (fun x15 => ?_)
      refine K_istore_n (lv' := [(2, .int x15), (0, .ref 0), (1, .int x1), (3, .int u12)]) dX8_allFar_27 (by decide) rfl ?_
      refine K_iinc 3 (w := u12 + 1) (lv' := [(3, .int (u12 + 1)), (2, .int x15), (0, .ref 0), (1, .int x1)]) dX8_allFar_28 rfl rfl (by decide) rfl ?_
      refine K_goto 4 dX8_allFar_31 rfl ?_
      refine K_loc [2, 3, 1, 0] (lv' := [(0, .ref 0), (1, .int x1), (2, .int x15), (3, .int (u12 + 1))]) rfl ?_
      exact ih x15 (u12 + 1)
theorem k_X8_allFar {G : GE} (m0 : Mem) (q : List Mem) (x1 : Int32) : K G (mi_X8_allFar 2) (e_X8_allFar m0 q) 0 [(0, .ref 0), (1, .int x1)] [] (m0 :: q) (f_X8_allFar m0 x1) := by
  unfold f_X8_allFar
  refine K_iconst (v := 0) dX8_allFar_0 (by decide) ?_
  refine K_istore_n (lv' := [(2, .int 0), (0, .ref 0), (1, .int x1)]) dX8_allFar_1 (by decide) rfl ?_
  refine K_iconst (v := 0) dX8_allFar_2 (by decide) ?_
  refine K_istore_n (lv' := [(3, .int 0), (2, .int 0), (0, .ref 0), (1, .int x1)]) dX8_allFar_3 (by decide) rfl ?_
  refine K_loc [2, 3, 1, 0] (lv' := [(0, .ref 0), (1, .int x1), (2, .int 0), (3, .int 0)]) rfl ?_
  refine k_X8_allFar_L4  m0 q x1 _ (fun u16 u17 => ?_) 100000 0 0
  refine K_iload_n 2 dX8_allFar_34 rfl ?_
  exact K_ret (rv := some (.int u16)) dX8_allFar_35 rfl rfl rfl
theorem c_X8_allFar {G : GE} (hj : dj G) (m0 : Mem) (q : List Mem) (x1 : Int32) {r : Int32} (hr : f_X8_allFar m0 x1 = some r) : Ctr G yX8_allFar (mi_X8_allFar 2) [.ref 0, .int x1] (m0 :: q) ((e_X8_allFar m0 q) r).1 ((e_X8_allFar m0 q) r).2 := Ctr_of hj (by decide) rfl hr rfl (Nat.le_of_ble_eq_true rfl) (k_X8_allFar m0 q x1)
abbrev e_X8_house (m0 : Mem) (q : List Mem) : (Int32 × Mem) → Option Value × List Mem := fun r => (some (.int r.1), (r.2 :: q))
theorem k_X8_house_L38 {G : GE} (m0 : Mem) (q : List Mem) (w11 : Mem) (x1 : Int32) (k : Int32 → Int32 → Int32 → Option (Int32 × Mem)) (hk : ∀ (u13 : Int32) (u14 : Int32) (u15 : Int32), K G (mi_X8_house 3) (e_X8_house m0 q) 94 [(0, .ref 0), (1, .int x1), (2, .int u13), (3, .int u14), (4, .int u15)] [] (w11 :: q) (k u13 u14 u15)) : ∀ (t : Nat) (u13 : Int32) (u14 : Int32) (u15 : Int32), K G (mi_X8_house 3) (e_X8_house m0 q) 38 [(0, .ref 0), (1, .int x1), (2, .int u13), (3, .int u14), (4, .int u15)] [] (w11 :: q) (f_X8_house_L38 k w11 t u13 u14 u15) := by
  intro t
  induction t with
  | zero => intro u13 u14 u15; exact K_none
  | succ t ih =>
    intro u13 u14 u15
    rw [f_X8_house_L38]
    refine K_iload 4 dX8_house_38 rfl ?_
    refine K_aload_n 0 dX8_house_40 rfl ?_
    refine K_get (v := .ref 6) dX8_house_41 fl_X8_19 kl_0 rfl rfl ?_
    refine K_iconst (v := 4) dX8_house_44 (by decide) ?_
    refine K_iald (f := w11 6) dX8_house_45 kl_6 rfl ?_
    refine K_icmp_ge 94 dX8_house_46 rfl (fun _ => ?_) (fun _ => ?_)
    · refine K_loc [0, 1, 2, 3, 4] (lv' := [(0, .ref 0), (1, .int x1), (2, .int u13), (3, .int u14), (4, .int u15)]) rfl ?_
      exact hk u13 u14 u15
    · refine K_aload_n 0 dX8_house_49 rfl ?_
      refine K_aload_n 0 dX8_house_50 rfl ?_
      refine K_iload 4 dX8_house_51 rfl ?_
      refine K_iconst (v := 1) dX8_house_53 (by decide) ?_
      refine K_callV (E' := e_X8_of w11 q) (b := 0) (As := [.int u15, .int 1]) (rest := [.ref 0]) dX8_house_54 ml_X8_237 (mf_X8_of 1) mv_X8_of (fun hj r hr => c_X8_of hj w11 q u15 (1 : Int32) hr) (rcv_obj (q := (RX8, TX8, 37)) kl_0 rfl) rfl rfl (Nat.le_of_ble_eq_true rfl) (Nat.le_of_ble_eq_true rfl) (fun r16 => ?_)
      show K G (mi_X8_house 3) (e_X8_house m0 q) 57 [(0, .ref 0), (1, .int x1), (2, .int u13), (3, .int u14), (4, .int u15)] [.int r16, .ref 0] (w11 :: q) _
      refine K_callV (E' := e_X8_allFar w11 q) (b := 0) (As := [.int r16]) (rest := []) dX8_house_57 ml_X8_317 (mf_X8_allFar 2) mv_X8_allFar (fun hj r hr => c_X8_allFar hj w11 q r16 hr) (rcv_obj (q := (RX8, TX8, 37)) kl_0 rfl) rfl rfl (Nat.le_of_ble_eq_true rfl) (Nat.le_of_ble_eq_true rfl) (fun r17 => ?_)
      show K G (mi_X8_house 3) (e_X8_house m0 q) 60 [(0, .ref 0), (1, .int x1), (2, .int u13), (3, .int u14), (4, .int u15)] [.int r17] (w11 :: q) _
      refine K_istore (lv' := [(5, .int r17), (0, .ref 0), (1, .int x1), (2, .int u13), (3, .int u14), (4, .int u15)]) dX8_house_60 (by decide) rfl ?_
      refine K_iload 0 dX8_house_62 rfl ?_
      refine K_iload_n 4 dX8_house_64 rfl ?_
      refine K_icmp_ge 73 dX8_house_65 rfl (fun _ => ?_) (fun _ => ?_)
      · refine K_iload_n 3 dX8_house_73 rfl ?_
        refine K_istore_n (lv' := [(2, .int u13), (5, .int r17), (0, .ref 0), (1, .int x1), (3, .int u14), (4, .int u15)]) dX8_house_74 (by decide) rfl ?_
        refine K_iload 1 dX8_house_75 rfl ?_
        refine K_iload_n 4 dX8_house_77 rfl ?_
        refine K_icmp_ge 86 dX8_house_78 rfl (fun _ => ?_) (fun _ => ?_)
        · refine K_iload_n 4 dX8_house_86 rfl ?_
          refine K_istore_n (lv' := [(3, .int u14), (2, .int u13), (5, .int r17), (0, .ref 0), (1, .int x1), (4, .int u15)]) dX8_house_87 (by decide) rfl ?_
          refine K_iinc 5 (w := u15 + 1) (lv' := [(4, .int (u15 + 1)), (3, .int u14), (2, .int u13), (5, .int r17), (0, .ref 0), (1, .int x1)]) dX8_house_88 rfl rfl (by decide) rfl ?_
          refine K_goto 38 dX8_house_91 rfl ?_
          refine K_loc [4, 5, 2, 1, 0] (lv' := [(0, .ref 0), (1, .int x1), (2, .int u13), (3, .int u14), (4, .int (u15 + 1))]) rfl ?_
          exact ih u13 u14 (u15 + 1)
        · refine K_iload 1 dX8_house_81 rfl ?_
          refine K_goto 87 dX8_house_83 rfl ?_
          refine K_istore_n (lv' := [(3, .int r17), (2, .int u13), (5, .int r17), (0, .ref 0), (1, .int x1), (4, .int u15)]) dX8_house_87 (by decide) rfl ?_
          refine K_iinc 5 (w := u15 + 1) (lv' := [(4, .int (u15 + 1)), (3, .int r17), (2, .int u13), (5, .int r17), (0, .ref 0), (1, .int x1)]) dX8_house_88 rfl rfl (by decide) rfl ?_
          refine K_goto 38 dX8_house_91 rfl ?_
          refine K_loc [4, 5, 2, 1, 0] (lv' := [(0, .ref 0), (1, .int x1), (2, .int u13), (3, .int r17), (4, .int (u15 + 1))]) rfl ?_
          exact ih u13 r17 (u15 + 1)
      · refine K_iload 5 dX8_house_68 rfl ?_
        refine K_goto 74 dX8_house_70 rfl ?_
        refine K_istore_n (lv' := [(2, .int u15), (5, .int r17), (0, .ref 0), (1, .int x1), (3, .int u14), (4, .int u15)]) dX8_house_74 (by decide) rfl ?_
        refine K_iload 1 dX8_house_75 rfl ?_
        refine K_iload_n 4 dX8_house_77 rfl ?_
        refine K_icmp_ge 86 dX8_house_78 rfl (fun _ => ?_) (fun _ => ?_)
        · refine K_iload_n 4 dX8_house_86 rfl ?_
          refine K_istore_n (lv' := [(3, .int u14), (2, .int u15), (5, .int r17), (0, .ref 0), (1, .int x1), (4, .int u15)]) dX8_house_87 (by decide) rfl ?_
          refine K_iinc 5 (w := u15 + 1) (lv' := [(4, .int (u15 + 1)), (3, .int u14), (2, .int u15), (5, .int r17), (0, .ref 0), (1, .int x1)]) dX8_house_88 rfl rfl (by decide) rfl ?_
          refine K_goto 38 dX8_house_91 rfl ?_
          refine K_loc [4, 5, 2, 1, 0] (lv' := [(0, .ref 0), (1, .int x1), (2, .int u15), (3, .int u14), (4, .int (u15 + 1))]) rfl ?_
          exact ih u15 u14 (u15 + 1)
        · refine K_iload 1 dX8_house_81 rfl ?_
          refine K_goto 87 dX8_house_83 rfl ?_
          refine K_istore_n (lv' := [(3, .int r17), (2, .int u15), (5, .int r17), (0, .ref 0), (1, .int x1), (4, .int u15)]) dX8_house_87 (by decide) rfl ?_
          refine K_iinc 5 (w := u15 + 1) (lv' := [(4, .int (u15 + 1)), (3, .int r17), (2, .int u15), (5, .int r17), (0, .ref 0), (1, .int x1)]) dX8_house_88 rfl rfl (by decide) rfl ?_
          refine K_goto 38 dX8_house_91 rfl ?_
          refine K_loc [4, 5, 2, 1, 0] (lv' := [(0, .ref 0), (1, .int x1), (2, .int u15), (3, .int r17), (4, .int (u15 + 1))]) rfl ?_
          exact ih u15 r17 (u15 + 1)
theorem k_X8_house {G : GE} (m0 : Mem) (q : List Mem) (x1 : Int32) : K G (mi_X8_house 3) (e_X8_house m0 q) 0 [(0, .ref 0), (1, .int x1)] [] (m0 :: q) (f_X8_house m0 x1) := by
  unfold f_X8_house
  refine K_aload_n 0 dX8_house_0 rfl ?_
  refine K_iconst (v := 0) dX8_house_1 (by decide) ?_
  refine K_put (Ms' := ((up m0 0 0 0) :: q)) dX8_house_2 fp_X8_68 kl_0 rfl rfl rfl (Nat.succ_pos _) rfl ?_
  refine K_nmm (fun w => (w :: q)) rfl (fun w11 => ?_)
  refine K_aload_n 0 dX8_house_5 rfl ?_
  refine K_get (v := .int (w11 0 7)) dX8_house_6 fl_X8_217 kl_0 rfl rfl ?_
  refine K_if_ne 15 dX8_house_9 rfl (fun _ => ?_) (fun _ => ?_)
  · refine K_iload_n 1 dX8_house_15 rfl ?_
    refine K_i2l dX8_house_16 ?_
    refine K_lconst (v := 0) dX8_house_17 (by decide) ?_
    refine K_lconst (v := 1) dX8_house_18 (by decide) ?_
    refine K_callS (E' := e_X8_in (w11 :: q)) (As := [.long x1.toInt64, .long 0, .long 1]) (rest := []) dX8_house_19 ml_X8_78 (mf_X8_in 1) ms_X8_in (fun hj r hr => c_X8_in hj (w11 :: q) x1.toInt64 (0 : Int64) (1 : Int64) hr) rfl rfl (Nat.le_of_ble_eq_true rfl) (Nat.le_of_ble_eq_true rfl) (fun r12 => ?_)
    show K G (mi_X8_house 3) (e_X8_house m0 q) 22 [(0, .ref 0), (1, .int x1)] [.int r12] (w11 :: q) _
    refine K_if_ne 28 dX8_house_22 rfl (fun _ => ?_) (fun _ => ?_)
    · refine K_ldc (v := (-1000000)) dX8_house_28 cst_X8_104 ?_
      refine K_istore_n (lv' := [(2, .int (-1000000)), (0, .ref 0), (1, .int x1)]) dX8_house_30 (by decide) rfl ?_
      refine K_sipush (v := 10000) dX8_house_31 (by decide) ?_
      refine K_istore_n (lv' := [(3, .int 10000), (2, .int (-1000000)), (0, .ref 0), (1, .int x1)]) dX8_house_34 (by decide) rfl ?_
      refine K_iconst (v := 0) dX8_house_35 (by decide) ?_
      refine K_istore (lv' := [(4, .int 0), (3, .int 10000), (2, .int (-1000000)), (0, .ref 0), (1, .int x1)]) dX8_house_36 (by decide) rfl ?_
      refine K_loc [3, 4, 2, 1, 0] (lv' := [(0, .ref 0), (1, .int x1), (2, .int (-1000000)), (3, .int 10000), (4, .int 0)]) rfl ?_
      refine k_X8_house_L38  m0 q w11 x1 _ (fun u18 u19 u20 => ?_) 100000 (-1000000) 10000 0
      refine K_iload_n 2 dX8_house_94 rfl ?_
      refine K_ldc (v := (-1000000)) dX8_house_95 cst_X8_104 ?_
      refine K_icmp_eq 104 dX8_house_97 rfl (fun _ => ?_) (fun _ => ?_)
      · refine K_iload_n 2 dX8_house_104 rfl ?_
        refine K_goto 109 dX8_house_105 rfl ?_
        exact K_ret (rv := some (.int u18)) dX8_house_109 rfl rfl rfl
      · refine K_iload_n 1 dX8_house_100 rfl ?_
        refine K_if_ne 108 dX8_house_101 rfl (fun _ => ?_) (fun _ => ?_)
        · refine K_iload_n 3 dX8_house_108 rfl ?_
          exact K_ret (rv := some (.int u19)) dX8_house_109 rfl rfl rfl
        · refine K_iload_n 2 dX8_house_104 rfl ?_
          refine K_goto 109 dX8_house_105 rfl ?_
          exact K_ret (rv := some (.int u18)) dX8_house_109 rfl rfl rfl
    · refine K_ldc (v := (-1000001)) dX8_house_25 cst_X8_88 ?_
      exact K_ret (rv := some (.int (-1000001))) dX8_house_27 rfl rfl rfl
  · refine K_ldc (v := (-1000002)) dX8_house_12 cst_X8_240 ?_
    exact K_ret (rv := some (.int (-1000002))) dX8_house_14 rfl rfl rfl
theorem c_X8_house {G : GE} (hj : dj G) (m0 : Mem) (q : List Mem) (x1 : Int32) {r : Int32 × Mem} (hr : f_X8_house m0 x1 = some r) : Ctr G yX8_house (mi_X8_house 3) [.ref 0, .int x1] (m0 :: q) ((e_X8_house m0 q) r).1 ((e_X8_house m0 q) r).2 := Ctr_of hj (by decide) rfl hr rfl (Nat.le_of_ble_eq_true rfl) (k_X8_house m0 q x1)
abbrev e_X8_lack (m0 : Mem) (q : List Mem) : Int32 → Option Value × List Mem := fun r => (some (.int r), (m0 :: q))
theorem k_X8_lack {G : GE} (m0 : Mem) (q : List Mem) (x1 : Int32) (x2 : Int32) : K G (mi_X8_lack 1) (e_X8_lack m0 q) 0 [(0, .ref 0), (1, .int x1), (2, .int x2)] [] (m0 :: q) (f_X8_lack m0 x1 x2) := by
  unfold f_X8_lack
  refine K_aload_n 0 dX8_lack_0 rfl ?_
  refine K_get (v := .ref 3) dX8_lack_1 fl_X8_7 kl_0 rfl rfl ?_
  refine K_iload_n 1 dX8_lack_4 rfl ?_
  refine K_iald (f := m0 3) dX8_lack_5 kl_3 rfl ?_
  refine K_if_ge 13 dX8_lack_6 rfl (fun _ => ?_) (fun _ => ?_)
  · refine K_iload_n 2 dX8_lack_13 rfl ?_
    refine K_aload_n 0 dX8_lack_14 rfl ?_
    refine K_get (v := .ref 4) dX8_lack_15 fl_X8_13 kl_0 rfl rfl ?_
    refine K_iload_n 1 dX8_lack_18 rfl ?_
    refine K_iald (f := m0 4) dX8_lack_19 kl_4 rfl ?_
    refine K_icmp_le 27 dX8_lack_20 rfl (fun _ => ?_) (fun _ => ?_)
    · refine K_iconst (v := 0) dX8_lack_27 (by decide) ?_
      exact K_ret (rv := some (.int 0)) dX8_lack_28 rfl rfl rfl
    · refine K_iconst (v := 2) dX8_lack_23 (by decide) ?_
      refine K_goto 28 dX8_lack_24 rfl ?_
      exact K_ret (rv := some (.int 2)) dX8_lack_28 rfl rfl rfl
  · refine K_iconst (v := 1) dX8_lack_9 (by decide) ?_
    refine K_goto 28 dX8_lack_10 rfl ?_
    exact K_ret (rv := some (.int 1)) dX8_lack_28 rfl rfl rfl
theorem c_X8_lack {G : GE} (hj : dj G) (m0 : Mem) (q : List Mem) (x1 : Int32) (x2 : Int32) {r : Int32} (hr : f_X8_lack m0 x1 x2 = some r) : Ctr G yX8_lack (mi_X8_lack 1) [.ref 0, .int x1, .int x2] (m0 :: q) ((e_X8_lack m0 q) r).1 ((e_X8_lack m0 q) r).2 := Ctr_of hj (by decide) rfl hr rfl (Nat.le_of_ble_eq_true rfl) (k_X8_lack m0 q x1 x2)
abbrev e_X8_noTimes (m0 : Mem) (q : List Mem) : Mem → Option Value × List Mem := fun r => (none, (r :: q))
theorem k_X8_noTimes_L2 {G : GE} (m0 : Mem) (q : List Mem) (k : Int32 → Mem → Option (Mem)) (hk : ∀ (u11 : Int32) (w12 : Mem), K G (mi_X8_noTimes 1) (e_X8_noTimes m0 q) 21 [(0, .ref 0), (1, .int u11)] [] (w12 :: q) (k u11 w12)) : ∀ (t : Nat) (u11 : Int32) (w12 : Mem), K G (mi_X8_noTimes 1) (e_X8_noTimes m0 q) 2 [(0, .ref 0), (1, .int u11)] [] (w12 :: q) (f_X8_noTimes_L2 k t u11 w12) := by
  intro t
  induction t with
  | zero => intro u11 w12; exact K_none
  | succ t ih =>
    intro u11 w12
    rw [f_X8_noTimes_L2]
    refine K_iload_n 1 dX8_noTimes_2 rfl ?_
    refine K_bipush (v := 7) dX8_noTimes_3 (by decide) ?_
    refine K_icmp_ge 21 dX8_noTimes_5 rfl (fun _ => ?_) (fun _ => ?_)
    · refine K_loc [0, 1] (lv' := [(0, .ref 0), (1, .int u11)]) rfl ?_
      exact hk u11 w12
    · refine K_aload_n 0 dX8_noTimes_8 rfl ?_
      refine K_get (v := .ref 33) dX8_noTimes_9 fl_X8_55 kl_0 rfl rfl ?_
      refine K_iload_n 1 dX8_noTimes_12 rfl ?_
      refine K_iconst (v := 0) dX8_noTimes_13 (by decide) ?_
      refine K_iast (Ms' := ((up w12 33 u11.toNatClampNeg 0) :: q)) dX8_noTimes_14 kl_33 (Nat.succ_pos _) rfl ?_
      refine K_nmm (fun w => (w :: q)) rfl (fun w13 => ?_)
      refine K_iinc 1 (w := u11 + 1) (lv' := [(1, .int (u11 + 1)), (0, .ref 0)]) dX8_noTimes_15 rfl rfl (by decide) rfl ?_
      refine K_goto 2 dX8_noTimes_18 rfl ?_
      refine K_loc [1, 0] (lv' := [(0, .ref 0), (1, .int (u11 + 1))]) rfl ?_
      exact ih (u11 + 1) w13
theorem k_X8_noTimes {G : GE} (m0 : Mem) (q : List Mem)  : K G (mi_X8_noTimes 1) (e_X8_noTimes m0 q) 0 [(0, .ref 0)] [] (m0 :: q) (f_X8_noTimes m0) := by
  unfold f_X8_noTimes
  refine K_iconst (v := 0) dX8_noTimes_0 (by decide) ?_
  refine K_istore_n (lv' := [(1, .int 0), (0, .ref 0)]) dX8_noTimes_1 (by decide) rfl ?_
  refine K_loc [1, 0] (lv' := [(0, .ref 0), (1, .int 0)]) rfl ?_
  refine k_X8_noTimes_L2  m0 q  _ (fun u14 w15 => ?_) 100000 0 m0
  exact K_ret (rv := none) dX8_noTimes_21 trivial rfl rfl
theorem c_X8_noTimes {G : GE} (hj : dj G) (m0 : Mem) (q : List Mem)  {r : Mem} (hr : f_X8_noTimes m0 = some r) : Ctr G yX8_noTimes (mi_X8_noTimes 1) [.ref 0] (m0 :: q) ((e_X8_noTimes m0 q) r).1 ((e_X8_noTimes m0 q) r).2 := Ctr_of hj (by decide) rfl hr rfl (Nat.le_of_ble_eq_true rfl) (k_X8_noTimes m0 q )
abbrev e_X8_turn (m0 : Mem) (q : List Mem) : (Int32 × Mem) → Option Value × List Mem := fun r => (some (.int r.1), (r.2 :: q))
theorem k_X8_turn_L78 {G : GE} (m0 : Mem) (q : List Mem) (x1 : Int32) (x2 : Int32) (x3 : Int32) (k : Int32 → Mem → Option (Int32 × Mem)) (hk : ∀ (u17 : Int32) (w18 : Mem), K G (mi_X8_turn 3) (e_X8_turn m0 q) 127 [(0, .ref 0), (1, .int x1), (2, .int x2), (3, .int x3), (5, .int u17)] [] (w18 :: q) (k u17 w18)) : ∀ (t : Nat) (u17 : Int32) (w18 : Mem), K G (mi_X8_turn 3) (e_X8_turn m0 q) 78 [(0, .ref 0), (1, .int x1), (2, .int x2), (3, .int x3), (5, .int u17)] [] (w18 :: q) (f_X8_turn_L78 k x1 x2 t u17 w18) := by
  intro t
  induction t with
  | zero => intro u17 w18; exact K_none
  | succ t ih =>
    intro u17 w18
    rw [f_X8_turn_L78]
    refine K_iload 4 dX8_turn_78 rfl ?_
    refine K_iload_n 2 dX8_turn_80 rfl ?_
    refine K_icmp_ge 127 dX8_turn_81 rfl (fun _ => ?_) (fun _ => ?_)
    · refine K_loc [0, 1, 2, 3, 4] (lv' := [(0, .ref 0), (1, .int x1), (2, .int x2), (3, .int x3), (5, .int u17)]) rfl ?_
      exact hk u17 w18
    · refine K_aload_n 0 dX8_turn_84 rfl ?_
      refine K_get (v := .ref 5) dX8_turn_85 fl_X8_16 kl_0 rfl rfl ?_
      refine K_bipush (v := 40) dX8_turn_88 (by decide) ?_
      refine K_iload_n 1 dX8_turn_90 rfl ?_
      refine K_imul dX8_turn_91 ?_
      refine K_iload 4 dX8_turn_92 rfl ?_
      refine K_iadd dX8_turn_94 ?_
      refine K_iald (f := w18 5) dX8_turn_95 kl_5 rfl ?_
      refine K_nmi (fun x19 => ?_)
      refine K_istore (lv' := [(6, .int x19), (0, .ref 0), (1, .int x1), (2, .int x2), (3, .int x3), (5, .int u17)]) dX8_turn_96 (by decide) rfl ?_
      refine K_aload_n 1 dX8_turn_98 rfl ?_
      refine K_iload 0 dX8_turn_99 rfl ?_
      refine K_callV (E' := e_X8_isPerson w18 q) (b := 0) (As := [.int x19]) (rest := []) dX8_turn_101 ml_X8_232 (mf_X8_isPerson 2) mv_X8_isPerson (fun hj r hr => c_X8_isPerson hj w18 q x19 hr) (rcv_obj (q := (RX8, TX8, 37)) kl_0 rfl) rfl rfl (Nat.le_of_ble_eq_true rfl) (Nat.le_of_ble_eq_true rfl) (fun r20 => ?_)
      show K G (mi_X8_turn 3) (e_X8_turn m0 q) 104 [(6, .int x19), (0, .ref 0), (1, .int x1), (2, .int x2), (3, .int x3), (5, .int u17)] [.int r20] (w18 :: q) _
      refine K_if_ne 110 dX8_turn_104 rfl (fun _ => ?_) (fun _ => ?_)
      · refine K_aload_n 1 dX8_turn_110 rfl ?_
        refine K_get (v := .ref 33) dX8_turn_111 fl_X8_55 kl_0 rfl rfl ?_
        refine K_iload 0 dX8_turn_114 rfl ?_
        refine K_dup2 dX8_turn_116 rfl rfl ?_
        refine K_iald (f := w18 33) dX8_turn_117 kl_33 rfl ?_
        refine K_iconst (v := 1) dX8_turn_118 (by decide) ?_
        refine K_iadd dX8_turn_119 ?_
        refine K_iast (Ms' := ((up w18 33 x19.toNatClampNeg ((w18 33 x19.toNatClampNeg) + 1)) :: q)) dX8_turn_120 kl_33 (Nat.succ_pos _) rfl ?_
        refine K_nmm (fun w => (w :: q)) rfl (fun w21 => ?_)
        refine K_iinc 5 (w := u17 + 1) (lv' := [(5, .int (u17 + 1)), (6, .int x19), (0, .ref 0), (1, .int x1), (2, .int x2), (3, .int x3)]) dX8_turn_121 rfl rfl (by decide) rfl ?_
        refine K_goto 78 dX8_turn_124 rfl ?_
        refine K_loc [2, 3, 4, 5, 0] (lv' := [(0, .ref 0), (1, .int x1), (2, .int x2), (3, .int x3), (5, .int (u17 + 1))]) rfl ?_
        exact ih (u17 + 1) w21
      · refine K_ldc (v := (-1000001)) dX8_turn_107 cst_X8_88 ?_
        exact K_ret (rv := some (.int (-1000001))) dX8_turn_109 rfl rfl rfl
theorem k_X8_turn_L141 {G : GE} (m0 : Mem) (q : List Mem) (w24 : Mem) (x2 : Int32) (x3 : Int32) (k : Int32 → Int32 → Int32 → Option (Int32 × Mem)) (hk : ∀ (u25 : Int32) (u26 : Int32) (u27 : Int32), K G (mi_X8_turn 3) (e_X8_turn m0 q) 210 [(0, .ref 0), (2, .int x2), (3, .int x3), (5, .int u25), (6, .int u26), (7, .int u27)] [] (w24 :: q) (k u25 u26 u27)) : ∀ (t : Nat) (u25 : Int32) (u26 : Int32) (u27 : Int32), K G (mi_X8_turn 3) (e_X8_turn m0 q) 141 [(0, .ref 0), (2, .int x2), (3, .int x3), (5, .int u25), (6, .int u26), (7, .int u27)] [] (w24 :: q) (f_X8_turn_L141 k w24 t u25 u26 u27) := by
  intro t
  induction t with
  | zero => intro u25 u26 u27; exact K_none
  | succ t ih =>
    intro u25 u26 u27
    rw [f_X8_turn_L141]
    refine K_iload 5 dX8_turn_141 rfl ?_
    refine K_aload_n 0 dX8_turn_143 rfl ?_
    refine K_get (v := .ref 6) dX8_turn_144 fl_X8_19 kl_0 rfl rfl ?_
    refine K_iconst (v := 4) dX8_turn_147 (by decide) ?_
    refine K_iald (f := w24 6) dX8_turn_148 kl_6 rfl ?_
    refine K_icmp_ge 210 dX8_turn_149 rfl (fun _ => ?_) (fun _ => ?_)
    · refine K_loc [0, 1, 2, 3, 4, 5] (lv' := [(0, .ref 0), (2, .int x2), (3, .int x3), (5, .int u25), (6, .int u26), (7, .int u27)]) rfl ?_
      exact hk u25 u26 u27
    · refine K_aload_n 0 dX8_turn_152 rfl ?_
      refine K_get (v := .ref 33) dX8_turn_153 fl_X8_55 kl_0 rfl rfl ?_
      refine K_iload 5 dX8_turn_156 rfl ?_
      refine K_iald (f := w24 33) dX8_turn_158 kl_33 rfl ?_
      refine K_aload_n 0 dX8_turn_159 rfl ?_
      refine K_get (v := .ref 33) dX8_turn_160 fl_X8_55 kl_0 rfl rfl ?_
      refine K_iload 3 dX8_turn_163 rfl ?_
      refine K_iald (f := w24 33) dX8_turn_165 kl_33 rfl ?_
      refine K_pick (fun j29 => (if (w24 33 u25.toNatClampNeg) ≤ (w24 33 u27.toNatClampNeg) then (j29 u25) else (j29 u27))) (fun j29 => ∀ a28 : Int32, K G (mi_X8_turn 3) (e_X8_turn m0 q) 176 [(0, .ref 0), (2, .int x2), (3, .int x3), (6, .int u26), (7, .int u27)] [.int a28] (w24 :: q) (j29 a28)) (fun j29 => by simp only [apply_ite j29]) (fun a28 => ?_) (fun j29 hj29 => ?_)
      · refine K_istore (lv' := [(5, .int a28), (0, .ref 0), (2, .int x2), (3, .int x3), (6, .int u26), (7, .int u27)]) dX8_turn_176 (by decide) rfl ?_
        refine K_aload_n 1 dX8_turn_178 rfl ?_
        refine K_get (v := .ref 33) dX8_turn_179 fl_X8_55 kl_0 rfl rfl ?_
        refine K_iload 5 dX8_turn_182 rfl ?_
        refine K_iald (f := w24 33) dX8_turn_184 kl_33 rfl ?_
        refine K_aload_n 1 dX8_turn_185 rfl ?_
        refine K_get (v := .ref 33) dX8_turn_186 fl_X8_55 kl_0 rfl rfl ?_
        refine K_iload 4 dX8_turn_189 rfl ?_
        refine K_iald (f := w24 33) dX8_turn_191 kl_33 rfl ?_
        refine K_icmp_le 200 dX8_turn_192 rfl (fun _ => ?_) (fun _ => ?_)
        · refine K_iload 4 dX8_turn_200 rfl ?_
          refine K_istore (lv' := [(6, .int u26), (5, .int a28), (0, .ref 0), (2, .int x2), (3, .int x3), (7, .int u27)]) dX8_turn_202 (by decide) rfl ?_
          refine K_iinc 5 (w := u27 + 1) (lv' := [(7, .int (u27 + 1)), (6, .int u26), (5, .int a28), (0, .ref 0), (2, .int x2), (3, .int x3)]) dX8_turn_204 rfl rfl (by decide) rfl ?_
          refine K_goto 141 dX8_turn_207 rfl ?_
          refine K_loc [3, 4, 5, 2, 1, 0] (lv' := [(0, .ref 0), (2, .int x2), (3, .int x3), (5, .int a28), (6, .int u26), (7, .int (u27 + 1))]) rfl ?_
          exact ih a28 u26 (u27 + 1)
        · refine K_iload 5 dX8_turn_195 rfl ?_
          refine K_goto 202 dX8_turn_197 rfl ?_
          refine K_istore (lv' := [(6, .int u27), (5, .int a28), (0, .ref 0), (2, .int x2), (3, .int x3), (7, .int u27)]) dX8_turn_202 (by decide) rfl ?_
          refine K_iinc 5 (w := u27 + 1) (lv' := [(7, .int (u27 + 1)), (6, .int u27), (5, .int a28), (0, .ref 0), (2, .int x2), (3, .int x3)]) dX8_turn_204 rfl rfl (by decide) rfl ?_
          refine K_goto 141 dX8_turn_207 rfl ?_
          refine K_loc [3, 4, 5, 2, 1, 0] (lv' := [(0, .ref 0), (2, .int x2), (3, .int x3), (5, .int a28), (6, .int u27), (7, .int (u27 + 1))]) rfl ?_
          exact ih a28 u27 (u27 + 1)
      · refine K_icmp_ge 174 dX8_turn_166 rfl (fun _ => ?_) (fun _ => ?_)
        · refine K_iload 3 dX8_turn_174 rfl ?_
          refine K_loc [0, 1, 2, 4, 5] (lv' := [(0, .ref 0), (2, .int x2), (3, .int x3), (6, .int u26), (7, .int u27)]) rfl ?_
          exact hj29 u25
        · refine K_iload 5 dX8_turn_169 rfl ?_
          refine K_goto 176 dX8_turn_171 rfl ?_
          refine K_loc [0, 1, 2, 4, 5] (lv' := [(0, .ref 0), (2, .int x2), (3, .int x3), (6, .int u26), (7, .int u27)]) rfl ?_
          exact hj29 u27
theorem k_X8_turn {G : GE} (m0 : Mem) (q : List Mem) (x1 : Int32) (x2 : Int32) (x3 : Int32) : K G (mi_X8_turn 3) (e_X8_turn m0 q) 0 [(0, .ref 0), (1, .int x1), (2, .int x2), (3, .int x3)] [] (m0 :: q) (f_X8_turn m0 x1 x2 x3) := by
  unfold f_X8_turn
  refine K_aload_n 0 dX8_turn_0 rfl ?_
  refine K_iconst (v := 0) dX8_turn_1 (by decide) ?_
  refine K_put (Ms' := ((up m0 0 0 0) :: q)) dX8_turn_2 fp_X8_68 kl_0 rfl rfl rfl (Nat.succ_pos _) rfl ?_
  refine K_nmm (fun w => (w :: q)) rfl (fun w11 => ?_)
  refine K_aload_n 0 dX8_turn_5 rfl ?_
  refine K_get (v := .ref 6) dX8_turn_6 fl_X8_19 kl_0 rfl rfl ?_
  refine K_iconst (v := 4) dX8_turn_9 (by decide) ?_
  refine K_iald (f := w11 6) dX8_turn_10 kl_6 rfl ?_
  refine K_if_ne 17 dX8_turn_11 rfl (fun _ => ?_) (fun _ => ?_)
  · refine K_iload_n 1 dX8_turn_17 rfl ?_
    refine K_callS (E' := e_X8_isRow (w11 :: q)) (As := [.int x1]) (rest := []) dX8_turn_18 ml_X8_82 (mf_X8_isRow 2) ms_X8_isRow (fun hj r hr => c_X8_isRow hj (w11 :: q) x1 hr) rfl rfl (Nat.le_of_ble_eq_true rfl) (Nat.le_of_ble_eq_true rfl) (fun r12 => ?_)
    show K G (mi_X8_turn 3) (e_X8_turn m0 q) 21 [(0, .ref 0), (1, .int x1), (2, .int x2), (3, .int x3)] [.int r12] (w11 :: q) _
    refine K_if_eq 48 dX8_turn_21 rfl (fun _ => ?_) (fun _ => ?_)
    · refine K_ldc (v := (-1000001)) dX8_turn_48 cst_X8_88 ?_
      exact K_ret (rv := some (.int (-1000001))) dX8_turn_50 rfl rfl rfl
    · refine K_iload_n 2 dX8_turn_24 rfl ?_
      refine K_i2l dX8_turn_25 ?_
      refine K_lconst (v := 0) dX8_turn_26 (by decide) ?_
      refine K_ldc2 (v := 40) dX8_turn_27 cst_X8_320 ?_
      refine K_callS (E' := e_X8_in (w11 :: q)) (As := [.long x2.toInt64, .long 0, .long 40]) (rest := []) dX8_turn_30 ml_X8_78 (mf_X8_in 1) ms_X8_in (fun hj r hr => c_X8_in hj (w11 :: q) x2.toInt64 (0 : Int64) (40 : Int64) hr) rfl rfl (Nat.le_of_ble_eq_true rfl) (Nat.le_of_ble_eq_true rfl) (fun r13 => ?_)
      show K G (mi_X8_turn 3) (e_X8_turn m0 q) 33 [(0, .ref 0), (1, .int x1), (2, .int x2), (3, .int x3)] [.int r13] (w11 :: q) _
      refine K_if_eq 48 dX8_turn_33 rfl (fun _ => ?_) (fun _ => ?_)
      · refine K_ldc (v := (-1000001)) dX8_turn_48 cst_X8_88 ?_
        exact K_ret (rv := some (.int (-1000001))) dX8_turn_50 rfl rfl rfl
      · refine K_iload_n 3 dX8_turn_36 rfl ?_
        refine K_i2l dX8_turn_37 ?_
        refine K_lconst (v := 0) dX8_turn_38 (by decide) ?_
        refine K_ldc2 (v := 2) dX8_turn_39 cst_X8_86 ?_
        refine K_callS (E' := e_X8_in (w11 :: q)) (As := [.long x3.toInt64, .long 0, .long 2]) (rest := []) dX8_turn_42 ml_X8_78 (mf_X8_in 1) ms_X8_in (fun hj r hr => c_X8_in hj (w11 :: q) x3.toInt64 (0 : Int64) (2 : Int64) hr) rfl rfl (Nat.le_of_ble_eq_true rfl) (Nat.le_of_ble_eq_true rfl) (fun r14 => ?_)
        show K G (mi_X8_turn 3) (e_X8_turn m0 q) 45 [(0, .ref 0), (1, .int x1), (2, .int x2), (3, .int x3)] [.int r14] (w11 :: q) _
        refine K_if_ne 51 dX8_turn_45 rfl (fun _ => ?_) (fun _ => ?_)
        · refine K_aload_n 0 dX8_turn_51 rfl ?_
          refine K_iload_n 1 dX8_turn_52 rfl ?_
          refine K_iload_n 2 dX8_turn_53 rfl ?_
          refine K_callV (E' := e_X8_lack w11 q) (b := 0) (As := [.int x1, .int x2]) (rest := []) dX8_turn_54 ml_X8_322 (mf_X8_lack 1) mv_X8_lack (fun hj r hr => c_X8_lack hj w11 q x1 x2 hr) (rcv_obj (q := (RX8, TX8, 37)) kl_0 rfl) rfl rfl (Nat.le_of_ble_eq_true rfl) (Nat.le_of_ble_eq_true rfl) (fun r15 => ?_)
          show K G (mi_X8_turn 3) (e_X8_turn m0 q) 57 [(0, .ref 0), (1, .int x1), (2, .int x2), (3, .int x3)] [.int r15] (w11 :: q) _
          refine K_istore (lv' := [(4, .int r15), (0, .ref 0), (1, .int x1), (2, .int x2), (3, .int x3)]) dX8_turn_57 (by decide) rfl ?_
          refine K_iload 0 dX8_turn_59 rfl ?_
          refine K_if_le 71 dX8_turn_61 rfl (fun _ => ?_) (fun _ => ?_)
          · refine K_aload_n 1 dX8_turn_71 rfl ?_
            refine K_callV (E' := e_X8_noTimes w11 q) (b := 0) (As := []) (rest := []) dX8_turn_72 ml_X8_325 (mf_X8_noTimes 1) mv_X8_noTimes (fun hj r hr => c_X8_noTimes hj w11 q  hr) (rcv_obj (q := (RX8, TX8, 37)) kl_0 rfl) rfl rfl (Nat.le_of_ble_eq_true rfl) (Nat.le_of_ble_eq_true rfl) (fun r16 => ?_)
            show K G (mi_X8_turn 3) (e_X8_turn m0 q) 75 [(4, .int r15), (0, .ref 0), (1, .int x1), (2, .int x2), (3, .int x3)] [] (r16 :: q) _
            refine K_iconst (v := 0) dX8_turn_75 (by decide) ?_
            refine K_istore (lv' := [(5, .int 0), (4, .int r15), (0, .ref 0), (1, .int x1), (2, .int x2), (3, .int x3)]) dX8_turn_76 (by decide) rfl ?_
            refine K_loc [2, 3, 4, 5, 0] (lv' := [(0, .ref 0), (1, .int x1), (2, .int x2), (3, .int x3), (5, .int 0)]) rfl ?_
            refine k_X8_turn_L78  m0 q x1 x2 x3 _ (fun u22 w23 => ?_) 100000 0 r16
            refine K_aload_n 0 dX8_turn_127 rfl ?_
            refine K_iconst (v := 0) dX8_turn_128 (by decide) ?_
            refine K_put (Ms' := ((up w23 0 1 0) :: q)) dX8_turn_129 fp_X8_72 kl_0 rfl rfl rfl (Nat.succ_pos _) rfl ?_
            refine K_nmm (fun w => (w :: q)) rfl (fun w24 => ?_)
            refine K_iconst (v := 0) dX8_turn_132 (by decide) ?_
            refine K_istore (lv' := [(5, .int 0), (0, .ref 0), (1, .int x1), (2, .int x2), (3, .int x3)]) dX8_turn_133 (by decide) rfl ?_
            refine K_iconst (v := 0) dX8_turn_135 (by decide) ?_
            refine K_istore (lv' := [(6, .int 0), (5, .int 0), (0, .ref 0), (1, .int x1), (2, .int x2), (3, .int x3)]) dX8_turn_136 (by decide) rfl ?_
            refine K_iconst (v := 1) dX8_turn_138 (by decide) ?_
            refine K_istore (lv' := [(7, .int 1), (6, .int 0), (5, .int 0), (0, .ref 0), (1, .int x1), (2, .int x2), (3, .int x3)]) dX8_turn_139 (by decide) rfl ?_
            refine K_loc [3, 5, 6, 2, 1, 0] (lv' := [(0, .ref 0), (2, .int x2), (3, .int x3), (5, .int 0), (6, .int 0), (7, .int 1)]) rfl ?_
            refine k_X8_turn_L141  m0 q w24 x2 x3 _ (fun u30 u31 u32 => ?_) 100000 0 0 1
            refine K_iload_n 2 dX8_turn_210 rfl ?_
            refine K_if_ne 219 dX8_turn_211 rfl (fun _ => ?_) (fun _ => ?_)
            · refine K_iload_n 2 dX8_turn_219 rfl ?_
              refine K_iconst (v := 1) dX8_turn_220 (by decide) ?_
              refine K_icmp_ne 234 dX8_turn_221 rfl (fun _ => ?_) (fun _ => ?_)
              · refine K_aload_n 0 dX8_turn_234 rfl ?_
                refine K_get (v := .ref 33) dX8_turn_235 fl_X8_55 kl_0 rfl rfl ?_
                refine K_iload 4 dX8_turn_238 rfl ?_
                refine K_iald (f := w24 33) dX8_turn_240 kl_33 rfl ?_
                refine K_aload_n 0 dX8_turn_241 rfl ?_
                refine K_get (v := .ref 6) dX8_turn_242 fl_X8_19 kl_0 rfl rfl ?_
                refine K_iconst (v := 4) dX8_turn_245 (by decide) ?_
                refine K_iald (f := w24 6) dX8_turn_246 kl_6 rfl ?_
                refine K_imul dX8_turn_247 ?_
                refine K_iload_n 1 dX8_turn_248 rfl ?_
                refine K_isub dX8_turn_249 ?_
                exact K_ret (rv := some (.int (((w24 33 u31.toNatClampNeg) * (w24 6 (4 : Int32).toNatClampNeg)) - x2))) dX8_turn_250 rfl rfl rfl
              · refine K_aload_n 0 dX8_turn_224 rfl ?_
                refine K_get (v := .ref 33) dX8_turn_225 fl_X8_55 kl_0 rfl rfl ?_
                refine K_iload 3 dX8_turn_228 rfl ?_
                refine K_iald (f := w24 33) dX8_turn_230 kl_33 rfl ?_
                refine K_goto 250 dX8_turn_231 rfl ?_
                exact K_ret (rv := some (.int (w24 33 u30.toNatClampNeg))) dX8_turn_250 rfl rfl rfl
            · refine K_iload 3 dX8_turn_214 rfl ?_
              refine K_goto 250 dX8_turn_216 rfl ?_
              exact K_ret (rv := some (.int u30)) dX8_turn_250 rfl rfl rfl
          · refine K_aload_n 1 dX8_turn_64 rfl ?_
            refine K_iload 0 dX8_turn_65 rfl ?_
            refine K_callV (E' := e_X8_finding w11 q) (b := 0) (As := [.int r15]) (rest := []) dX8_turn_67 ml_X8_89 (mf_X8_finding 1) mv_X8_finding (fun hj r hr => c_X8_finding hj w11 q r15 hr) (rcv_obj (q := (RX8, TX8, 37)) kl_0 rfl) rfl rfl (Nat.le_of_ble_eq_true rfl) (Nat.le_of_ble_eq_true rfl) (fun r33 => ?_)
            show K G (mi_X8_turn 3) (e_X8_turn m0 q) 70 [(4, .int r15), (0, .ref 0), (1, .int x1), (2, .int x2), (3, .int x3)] [.int r33.1] (r33.2 :: q) _
            exact K_ret (rv := some (.int r33.1)) dX8_turn_70 rfl rfl rfl
        · refine K_ldc (v := (-1000001)) dX8_turn_48 cst_X8_88 ?_
          exact K_ret (rv := some (.int (-1000001))) dX8_turn_50 rfl rfl rfl
  · refine K_ldc (v := (-1000002)) dX8_turn_14 cst_X8_240 ?_
    exact K_ret (rv := some (.int (-1000002))) dX8_turn_16 rfl rfl rfl
theorem c_X8_turn {G : GE} (hj : dj G) (m0 : Mem) (q : List Mem) (x1 : Int32) (x2 : Int32) (x3 : Int32) {r : Int32 × Mem} (hr : f_X8_turn m0 x1 x2 x3 = some r) : Ctr G yX8_turn (mi_X8_turn 3) [.ref 0, .int x1, .int x2, .int x3] (m0 :: q) ((e_X8_turn m0 q) r).1 ((e_X8_turn m0 q) r).2 := Ctr_of hj (by decide) rfl hr rfl (Nat.le_of_ble_eq_true rfl) (k_X8_turn m0 q x1 x2 x3)
