abbrev e_X8_gloves (m0 : Mem) (q : List Mem) : (Int32 × Mem) → Option Value × List Mem := fun r => (some (.int r.1), (r.2 :: q))
theorem k_X8_gloves_L138 {G : GE} (m0 : Mem) (q : List Mem) (x21 : Int32) (x1 : Int32) (x2 : Int32) (x3 : Int32) (x17 : Int32) (x23 : Int32) (u19 : Int32) (k : Int32 → Mem → Option (Int32 × Mem)) (hk : ∀ (u24 : Int32) (w25 : Mem), K G (mi_X8_gloves 3) (e_X8_gloves m0 q) 168 [(0, .ref 0), (1, .int x1), (2, .int x2), (3, .int x3), (5, .int x17), (6, .int x23), (7, .int u19), (8, .int x21), (9, .int u24)] [] (w25 :: q) (k u24 w25)) : ∀ (t : Nat) (u24 : Int32) (w25 : Mem), K G (mi_X8_gloves 3) (e_X8_gloves m0 q) 138 [(0, .ref 0), (1, .int x1), (2, .int x2), (3, .int x3), (5, .int x17), (6, .int x23), (7, .int u19), (8, .int x21), (9, .int u24)] [] (w25 :: q) (f_X8_gloves_L138 k x21 t u24 w25) := by
  intro t
  induction t with
  | zero => intro u24 w25; exact K_none
  | succ t ih =>
    intro u24 w25
    rw [f_X8_gloves_L138]
    refine K_iload 8 dX8_gloves_138 rfl ?_
    refine K_bipush (v := 7) dX8_gloves_140 (by decide) ?_
    refine K_icmp_ge 168 dX8_gloves_142 rfl (fun _ => ?_) (fun _ => ?_)
    · refine K_loc [0, 1, 2, 3, 4, 5, 6, 7, 8] (lv' := [(0, .ref 0), (1, .int x1), (2, .int x2), (3, .int x3), (5, .int x17), (6, .int x23), (7, .int u19), (8, .int x21), (9, .int u24)]) rfl ?_
      exact hk u24 w25
    · refine K_aload_n 0 dX8_gloves_145 rfl ?_
      refine K_get (v := .ref 33) dX8_gloves_146 fl_X8_55 kl_0 rfl rfl ?_
      refine K_iload 8 dX8_gloves_149 rfl ?_
      refine K_dup2 dX8_gloves_151 rfl rfl ?_
      refine K_iald (f := w25 33) dX8_gloves_152 kl_33 rfl ?_
      refine K_iload 7 dX8_gloves_153 rfl ?_
      refine K_iload 8 dX8_gloves_155 rfl ?_
      refine K_ishr dX8_gloves_157 ?_
      refine K_iconst (v := 1) dX8_gloves_158 (by decide) ?_
      refine K_iand dX8_gloves_159 ?_
      refine K_iadd dX8_gloves_160 ?_
      refine K_iast (Ms' := ((up w25 33 u24.toNatClampNeg ((w25 33 u24.toNatClampNeg) + ((x21 >>> (u24 &&& 31)) &&& 1))) :: q)) dX8_gloves_161 kl_33 (Nat.succ_pos _) rfl ?_
      refine K_nmm (fun w => (w :: q)) rfl (fun w26 => ?_)
      refine K_iinc 8 (w := u24 + 1) (lv' := [(9, .int (u24 + 1)), (0, .ref 0), (1, .int x1), (2, .int x2), (3, .int x3), (5, .int x17), (6, .int x23), (7, .int u19), (8, .int x21)]) dX8_gloves_162 rfl rfl (by decide) rfl ?_
      refine K_goto 138 dX8_gloves_165 rfl ?_
      refine K_loc [1, 2, 3, 4, 5, 6, 7, 8, 0] (lv' := [(0, .ref 0), (1, .int x1), (2, .int x2), (3, .int x3), (5, .int x17), (6, .int x23), (7, .int u19), (8, .int x21), (9, .int (u24 + 1))]) rfl ?_
      exact ih (u24 + 1) w26
theorem k_X8_gloves_L92 {G : GE} (m0 : Mem) (q : List Mem) (x1 : Int32) (x2 : Int32) (x17 : Int32) (x3 : Int32) (k : Int32 → Int32 → Mem → Option (Int32 × Mem)) (hk : ∀ (u18 : Int32) (u19 : Int32) (w20 : Mem), K G (mi_X8_gloves 3) (e_X8_gloves m0 q) 174 [(0, .ref 0), (1, .int x1), (2, .int x2), (3, .int x3), (5, .int x17), (6, .int u18), (7, .int u19)] [] (w20 :: q) (k u18 u19 w20)) : ∀ (t : Nat) (u18 : Int32) (u19 : Int32) (w20 : Mem), K G (mi_X8_gloves 3) (e_X8_gloves m0 q) 92 [(0, .ref 0), (1, .int x1), (2, .int x2), (3, .int x3), (5, .int x17), (6, .int u18), (7, .int u19)] [] (w20 :: q) (f_X8_gloves_L92 k x1 x2 x17 t u18 u19 w20) := by
  intro t
  induction t with
  | zero => intro u18 u19 w20; exact K_none
  | succ t ih =>
    intro u18 u19 w20
    rw [f_X8_gloves_L92]
    refine K_iload 6 dX8_gloves_92 rfl ?_
    refine K_iload_n 2 dX8_gloves_94 rfl ?_
    refine K_icmp_ge 174 dX8_gloves_95 rfl (fun _ => ?_) (fun _ => ?_)
    · refine K_loc [0, 1, 2, 3, 4, 5, 6] (lv' := [(0, .ref 0), (1, .int x1), (2, .int x2), (3, .int x3), (5, .int x17), (6, .int u18), (7, .int u19)]) rfl ?_
      exact hk u18 u19 w20
    · refine K_aload_n 0 dX8_gloves_98 rfl ?_
      refine K_get (v := .ref 5) dX8_gloves_99 fl_X8_16 kl_0 rfl rfl ?_
      refine K_bipush (v := 40) dX8_gloves_102 (by decide) ?_
      refine K_iload_n 1 dX8_gloves_104 rfl ?_
      refine K_imul dX8_gloves_105 ?_
      refine K_iload 6 dX8_gloves_106 rfl ?_
      refine K_iadd dX8_gloves_108 ?_
      refine K_iald (f := w20 5) dX8_gloves_109 kl_5 rfl ?_
      refine K_nmi (fun x21 => ?_)
      refine K_istore (lv' := [(8, .int x21), (0, .ref 0), (1, .int x1), (2, .int x2), (3, .int x3), (5, .int x17), (6, .int u18), (7, .int u19)]) dX8_gloves_110 (by decide) rfl ?_
      refine K_iload 0 dX8_gloves_112 rfl ?_
      refine K_i2l dX8_gloves_114 ?_
      refine K_lconst (v := 0) dX8_gloves_115 (by decide) ?_
      refine K_iload 5 dX8_gloves_116 rfl ?_
      refine K_i2l dX8_gloves_118 ?_
      refine K_callS (E' := e_X8_in (w20 :: q)) (As := [.long x21.toInt64, .long 0, .long x17.toInt64]) (rest := []) dX8_gloves_119 ml_X8_78 (mf_X8_in 1) ms_X8_in (fun hj r hr => c_X8_in hj (w20 :: q) x21.toInt64 (0 : Int64) x17.toInt64 hr) rfl rfl (Nat.le_of_ble_eq_true rfl) (Nat.le_of_ble_eq_true rfl) (fun r22 => ?_)
      show K G (mi_X8_gloves 3) (e_X8_gloves m0 q) 122 [(8, .int x21), (0, .ref 0), (1, .int x1), (2, .int x2), (3, .int x3), (5, .int x17), (6, .int u18), (7, .int u19)] [.int r22] (w20 :: q) _
      refine K_if_ne 128 dX8_gloves_122 rfl (fun _ => ?_) (fun _ => ?_)
      · refine K_iload 6 dX8_gloves_128 rfl ?_
        refine K_iload 0 dX8_gloves_130 rfl ?_
        refine K_iand dX8_gloves_132 ?_
        refine K_nmi (fun x23 => ?_)
        refine K_istore (lv' := [(6, .int x23), (8, .int x21), (0, .ref 0), (1, .int x1), (2, .int x2), (3, .int x3), (5, .int x17), (7, .int u19)]) dX8_gloves_133 (by decide) rfl ?_
        refine K_iconst (v := 0) dX8_gloves_135 (by decide) ?_
        refine K_istore (lv' := [(9, .int 0), (6, .int x23), (8, .int x21), (0, .ref 0), (1, .int x1), (2, .int x2), (3, .int x3), (5, .int x17), (7, .int u19)]) dX8_gloves_136 (by decide) rfl ?_
        refine K_loc [3, 4, 5, 6, 7, 1, 8, 2, 0] (lv' := [(0, .ref 0), (1, .int x1), (2, .int x2), (3, .int x3), (5, .int x17), (6, .int x23), (7, .int u19), (8, .int x21), (9, .int 0)]) rfl ?_
        refine k_X8_gloves_L138  m0 q x21 x1 x2 x3 x17 x23 u19 _ (fun u27 w28 => ?_) 100000 0 w20
        refine K_iinc 6 (w := u19 + 1) (lv' := [(7, .int (u19 + 1)), (0, .ref 0), (1, .int x1), (2, .int x2), (3, .int x3), (5, .int x17), (6, .int x23), (8, .int x21), (9, .int u27)]) dX8_gloves_168 rfl rfl (by decide) rfl ?_
        refine K_goto 92 dX8_gloves_171 rfl ?_
        refine K_loc [1, 2, 3, 4, 5, 6, 0] (lv' := [(0, .ref 0), (1, .int x1), (2, .int x2), (3, .int x3), (5, .int x17), (6, .int x23), (7, .int (u19 + 1))]) rfl ?_
        exact ih x23 (u19 + 1) w28
      · refine K_ldc (v := (-1000001)) dX8_gloves_125 cst_X8_88 ?_
        exact K_ret (rv := some (.int (-1000001))) dX8_gloves_127 rfl rfl rfl
theorem k_X8_gloves_L185 {G : GE} (m0 : Mem) (q : List Mem) (w32 : Mem) (x3 : Int32) (u29 : Int32) (k : Int32 → Int32 → Option (Int32 × Mem)) (hk : ∀ (u33 : Int32) (u34 : Int32), K G (mi_X8_gloves 3) (e_X8_gloves m0 q) 228 [(0, .ref 0), (3, .int x3), (6, .int u29), (7, .int u33), (8, .int u34)] [] (w32 :: q) (k u33 u34)) : ∀ (t : Nat) (u33 : Int32) (u34 : Int32), K G (mi_X8_gloves 3) (e_X8_gloves m0 q) 185 [(0, .ref 0), (3, .int x3), (6, .int u29), (7, .int u33), (8, .int u34)] [] (w32 :: q) (f_X8_gloves_L185 k w32 t u33 u34) := by
  intro t
  induction t with
  | zero => intro u33 u34; exact K_none
  | succ t ih =>
    intro u33 u34
    rw [f_X8_gloves_L185]
    refine K_iload 4 dX8_gloves_185 rfl ?_
    refine K_aload_n 0 dX8_gloves_187 rfl ?_
    refine K_get (v := .ref 6) dX8_gloves_188 fl_X8_19 kl_0 rfl rfl ?_
    refine K_iconst (v := 4) dX8_gloves_191 (by decide) ?_
    refine K_iald (f := w32 6) dX8_gloves_192 kl_6 rfl ?_
    refine K_icmp_ge 228 dX8_gloves_193 rfl (fun _ => ?_) (fun _ => ?_)
    · refine K_loc [0, 1, 2, 3, 4] (lv' := [(0, .ref 0), (3, .int x3), (6, .int u29), (7, .int u33), (8, .int u34)]) rfl ?_
      exact hk u33 u34
    · refine K_aload_n 0 dX8_gloves_196 rfl ?_
      refine K_get (v := .ref 33) dX8_gloves_197 fl_X8_55 kl_0 rfl rfl ?_
      refine K_iload 4 dX8_gloves_200 rfl ?_
      refine K_iald (f := w32 33) dX8_gloves_202 kl_33 rfl ?_
      refine K_aload_n 0 dX8_gloves_203 rfl ?_
      refine K_get (v := .ref 33) dX8_gloves_204 fl_X8_55 kl_0 rfl rfl ?_
      refine K_iload 3 dX8_gloves_207 rfl ?_
      refine K_iald (f := w32 33) dX8_gloves_209 kl_33 rfl ?_
      refine K_icmp_le 218 dX8_gloves_210 rfl (fun _ => ?_) (fun _ => ?_)
      · refine K_iload 3 dX8_gloves_218 rfl ?_
        refine K_istore (lv' := [(7, .int u33), (0, .ref 0), (3, .int x3), (6, .int u29), (8, .int u34)]) dX8_gloves_220 (by decide) rfl ?_
        refine K_iinc 4 (w := u34 + 1) (lv' := [(8, .int (u34 + 1)), (7, .int u33), (0, .ref 0), (3, .int x3), (6, .int u29)]) dX8_gloves_222 rfl rfl (by decide) rfl ?_
        refine K_goto 185 dX8_gloves_225 rfl ?_
        refine K_loc [2, 3, 4, 1, 0] (lv' := [(0, .ref 0), (3, .int x3), (6, .int u29), (7, .int u33), (8, .int (u34 + 1))]) rfl ?_
        exact ih u33 (u34 + 1)
      · refine K_iload 4 dX8_gloves_213 rfl ?_
        refine K_goto 220 dX8_gloves_215 rfl ?_
        refine K_istore (lv' := [(7, .int u34), (0, .ref 0), (3, .int x3), (6, .int u29), (8, .int u34)]) dX8_gloves_220 (by decide) rfl ?_
        refine K_iinc 4 (w := u34 + 1) (lv' := [(8, .int (u34 + 1)), (7, .int u34), (0, .ref 0), (3, .int x3), (6, .int u29)]) dX8_gloves_222 rfl rfl (by decide) rfl ?_
        refine K_goto 185 dX8_gloves_225 rfl ?_
        refine K_loc [2, 3, 4, 1, 0] (lv' := [(0, .ref 0), (3, .int x3), (6, .int u29), (7, .int u34), (8, .int (u34 + 1))]) rfl ?_
        exact ih u34 (u34 + 1)
theorem k_X8_gloves {G : GE} (m0 : Mem) (q : List Mem) (x1 : Int32) (x2 : Int32) (x3 : Int32) : K G (mi_X8_gloves 3) (e_X8_gloves m0 q) 0 [(0, .ref 0), (1, .int x1), (2, .int x2), (3, .int x3)] [] (m0 :: q) (f_X8_gloves m0 x1 x2 x3) := by
  unfold f_X8_gloves
  refine K_aload_n 0 dX8_gloves_0 rfl ?_
  refine K_iconst (v := 0) dX8_gloves_1 (by decide) ?_
  refine K_put (Ms' := ((up m0 0 0 0) :: q)) dX8_gloves_2 fp_X8_68 kl_0 rfl rfl rfl (Nat.succ_pos _) rfl ?_
  refine K_nmm (fun w => (w :: q)) rfl (fun w11 => ?_)
  refine K_aload_n 0 dX8_gloves_5 rfl ?_
  refine K_get (v := .ref 6) dX8_gloves_6 fl_X8_19 kl_0 rfl rfl ?_
  refine K_iconst (v := 4) dX8_gloves_9 (by decide) ?_
  refine K_iald (f := w11 6) dX8_gloves_10 kl_6 rfl ?_
  refine K_if_ne 17 dX8_gloves_11 rfl (fun _ => ?_) (fun _ => ?_)
  · refine K_iload_n 1 dX8_gloves_17 rfl ?_
    refine K_callS (E' := e_X8_isRow (w11 :: q)) (As := [.int x1]) (rest := []) dX8_gloves_18 ml_X8_82 (mf_X8_isRow 2) ms_X8_isRow (fun hj r hr => c_X8_isRow hj (w11 :: q) x1 hr) rfl rfl (Nat.le_of_ble_eq_true rfl) (Nat.le_of_ble_eq_true rfl) (fun r12 => ?_)
    show K G (mi_X8_gloves 3) (e_X8_gloves m0 q) 21 [(0, .ref 0), (1, .int x1), (2, .int x2), (3, .int x3)] [.int r12] (w11 :: q) _
    refine K_if_eq 46 dX8_gloves_21 rfl (fun _ => ?_) (fun _ => ?_)
    · refine K_ldc (v := (-1000001)) dX8_gloves_46 cst_X8_88 ?_
      exact K_ret (rv := some (.int (-1000001))) dX8_gloves_48 rfl rfl rfl
    · refine K_iload_n 2 dX8_gloves_24 rfl ?_
      refine K_i2l dX8_gloves_25 ?_
      refine K_lconst (v := 1) dX8_gloves_26 (by decide) ?_
      refine K_ldc2 (v := 40) dX8_gloves_27 cst_X8_320 ?_
      refine K_callS (E' := e_X8_in (w11 :: q)) (As := [.long x2.toInt64, .long 1, .long 40]) (rest := []) dX8_gloves_30 ml_X8_78 (mf_X8_in 1) ms_X8_in (fun hj r hr => c_X8_in hj (w11 :: q) x2.toInt64 (1 : Int64) (40 : Int64) hr) rfl rfl (Nat.le_of_ble_eq_true rfl) (Nat.le_of_ble_eq_true rfl) (fun r13 => ?_)
      show K G (mi_X8_gloves 3) (e_X8_gloves m0 q) 33 [(0, .ref 0), (1, .int x1), (2, .int x2), (3, .int x3)] [.int r13] (w11 :: q) _
      refine K_if_eq 46 dX8_gloves_33 rfl (fun _ => ?_) (fun _ => ?_)
      · refine K_ldc (v := (-1000001)) dX8_gloves_46 cst_X8_88 ?_
        exact K_ret (rv := some (.int (-1000001))) dX8_gloves_48 rfl rfl rfl
      · refine K_iload_n 3 dX8_gloves_36 rfl ?_
        refine K_i2l dX8_gloves_37 ?_
        refine K_lconst (v := 0) dX8_gloves_38 (by decide) ?_
        refine K_lconst (v := 1) dX8_gloves_39 (by decide) ?_
        refine K_callS (E' := e_X8_in (w11 :: q)) (As := [.long x3.toInt64, .long 0, .long 1]) (rest := []) dX8_gloves_40 ml_X8_78 (mf_X8_in 1) ms_X8_in (fun hj r hr => c_X8_in hj (w11 :: q) x3.toInt64 (0 : Int64) (1 : Int64) hr) rfl rfl (Nat.le_of_ble_eq_true rfl) (Nat.le_of_ble_eq_true rfl) (fun r14 => ?_)
        show K G (mi_X8_gloves 3) (e_X8_gloves m0 q) 43 [(0, .ref 0), (1, .int x1), (2, .int x2), (3, .int x3)] [.int r14] (w11 :: q) _
        refine K_if_ne 49 dX8_gloves_43 rfl (fun _ => ?_) (fun _ => ?_)
        · refine K_aload_n 0 dX8_gloves_49 rfl ?_
          refine K_iload_n 1 dX8_gloves_50 rfl ?_
          refine K_iload_n 2 dX8_gloves_51 rfl ?_
          refine K_callV (E' := e_X8_lack w11 q) (b := 0) (As := [.int x1, .int x2]) (rest := []) dX8_gloves_52 ml_X8_322 (mf_X8_lack 1) mv_X8_lack (fun hj r hr => c_X8_lack hj w11 q x1 x2 hr) (rcv_obj (q := (RX8, TX8, 37)) kl_0 rfl) rfl rfl (Nat.le_of_ble_eq_true rfl) (Nat.le_of_ble_eq_true rfl) (fun r15 => ?_)
          show K G (mi_X8_gloves 3) (e_X8_gloves m0 q) 55 [(0, .ref 0), (1, .int x1), (2, .int x2), (3, .int x3)] [.int r15] (w11 :: q) _
          refine K_istore (lv' := [(4, .int r15), (0, .ref 0), (1, .int x1), (2, .int x2), (3, .int x3)]) dX8_gloves_55 (by decide) rfl ?_
          refine K_iload 0 dX8_gloves_57 rfl ?_
          refine K_if_le 69 dX8_gloves_59 rfl (fun _ => ?_) (fun _ => ?_)
          · refine K_aload_n 1 dX8_gloves_69 rfl ?_
            refine K_callV (E' := e_X8_noTimes w11 q) (b := 0) (As := []) (rest := []) dX8_gloves_70 ml_X8_325 (mf_X8_noTimes 1) mv_X8_noTimes (fun hj r hr => c_X8_noTimes hj w11 q  hr) (rcv_obj (q := (RX8, TX8, 37)) kl_0 rfl) rfl rfl (Nat.le_of_ble_eq_true rfl) (Nat.le_of_ble_eq_true rfl) (fun r16 => ?_)
            show K G (mi_X8_gloves 3) (e_X8_gloves m0 q) 73 [(4, .int r15), (0, .ref 0), (1, .int x1), (2, .int x2), (3, .int x3)] [] (r16 :: q) _
            refine K_iconst (v := 1) dX8_gloves_73 (by decide) ?_
            refine K_aload_n 1 dX8_gloves_74 rfl ?_
            refine K_get (v := .ref 6) dX8_gloves_75 fl_X8_19 kl_0 rfl rfl ?_
            refine K_iconst (v := 4) dX8_gloves_78 (by decide) ?_
            refine K_iald (f := r16 6) dX8_gloves_79 kl_6 rfl ?_
            refine K_ishl dX8_gloves_80 ?_
            refine K_iconst (v := 1) dX8_gloves_81 (by decide) ?_
            refine K_isub dX8_gloves_82 ?_
            refine K_nmi (fun x17 => ?_)
            refine K_istore (lv' := [(5, .int x17), (4, .int r15), (0, .ref 0), (1, .int x1), (2, .int x2), (3, .int x3)]) dX8_gloves_83 (by decide) rfl ?_
            refine K_iload 0 dX8_gloves_85 rfl ?_
            refine K_istore (lv' := [(6, .int x17), (5, .int x17), (4, .int r15), (0, .ref 0), (1, .int x1), (2, .int x2), (3, .int x3)]) dX8_gloves_87 (by decide) rfl ?_
            refine K_iconst (v := 0) dX8_gloves_89 (by decide) ?_
            refine K_istore (lv' := [(7, .int 0), (6, .int x17), (5, .int x17), (4, .int r15), (0, .ref 0), (1, .int x1), (2, .int x2), (3, .int x3)]) dX8_gloves_90 (by decide) rfl ?_
            refine K_loc [4, 5, 6, 7, 2, 1, 0] (lv' := [(0, .ref 0), (1, .int x1), (2, .int x2), (3, .int x3), (5, .int x17), (6, .int x17), (7, .int 0)]) rfl ?_
            refine k_X8_gloves_L92  m0 q x1 x2 x17 x3 _ (fun u29 u30 w31 => ?_) 100000 x17 0 r16
            refine K_aload_n 0 dX8_gloves_174 rfl ?_
            refine K_iconst (v := 0) dX8_gloves_175 (by decide) ?_
            refine K_put (Ms' := ((up w31 0 1 0) :: q)) dX8_gloves_176 fp_X8_72 kl_0 rfl rfl rfl (Nat.succ_pos _) rfl ?_
            refine K_nmm (fun w => (w :: q)) rfl (fun w32 => ?_)
            refine K_iconst (v := 0) dX8_gloves_179 (by decide) ?_
            refine K_istore (lv' := [(7, .int 0), (0, .ref 0), (1, .int x1), (2, .int x2), (3, .int x3), (5, .int x17), (6, .int u29)]) dX8_gloves_180 (by decide) rfl ?_
            refine K_iconst (v := 1) dX8_gloves_182 (by decide) ?_
            refine K_istore (lv' := [(8, .int 1), (7, .int 0), (0, .ref 0), (1, .int x1), (2, .int x2), (3, .int x3), (5, .int x17), (6, .int u29)]) dX8_gloves_183 (by decide) rfl ?_
            refine K_loc [2, 5, 7, 1, 0] (lv' := [(0, .ref 0), (3, .int x3), (6, .int u29), (7, .int 0), (8, .int 1)]) rfl ?_
            refine k_X8_gloves_L185  m0 q w32 x3 u29 _ (fun u35 u36 => ?_) 100000 0 1
            refine K_iload_n 1 dX8_gloves_228 rfl ?_
            refine K_if_ne 237 dX8_gloves_229 rfl (fun _ => ?_) (fun _ => ?_)
            · refine K_iload 3 dX8_gloves_237 rfl ?_
              exact K_ret (rv := some (.int u35)) dX8_gloves_239 rfl rfl rfl
            · refine K_iload 2 dX8_gloves_232 rfl ?_
              refine K_goto 239 dX8_gloves_234 rfl ?_
              exact K_ret (rv := some (.int u29)) dX8_gloves_239 rfl rfl rfl
          · refine K_aload_n 1 dX8_gloves_62 rfl ?_
            refine K_iload 0 dX8_gloves_63 rfl ?_
            refine K_callV (E' := e_X8_finding w11 q) (b := 0) (As := [.int r15]) (rest := []) dX8_gloves_65 ml_X8_89 (mf_X8_finding 1) mv_X8_finding (fun hj r hr => c_X8_finding hj w11 q r15 hr) (rcv_obj (q := (RX8, TX8, 37)) kl_0 rfl) rfl rfl (Nat.le_of_ble_eq_true rfl) (Nat.le_of_ble_eq_true rfl) (fun r37 => ?_)
            show K G (mi_X8_gloves 3) (e_X8_gloves m0 q) 68 [(4, .int r15), (0, .ref 0), (1, .int x1), (2, .int x2), (3, .int x3)] [.int r37.1] (r37.2 :: q) _
            exact K_ret (rv := some (.int r37.1)) dX8_gloves_68 rfl rfl rfl
        · refine K_ldc (v := (-1000001)) dX8_gloves_46 cst_X8_88 ?_
          exact K_ret (rv := some (.int (-1000001))) dX8_gloves_48 rfl rfl rfl
  · refine K_ldc (v := (-1000002)) dX8_gloves_14 cst_X8_240 ?_
    exact K_ret (rv := some (.int (-1000002))) dX8_gloves_16 rfl rfl rfl
theorem c_X8_gloves {G : GE} (hj : dj G) (m0 : Mem) (q : List Mem) (x1 : Int32) (x2 : Int32) (x3 : Int32) {r : Int32 × Mem} (hr : f_X8_gloves m0 x1 x2 x3 = some r) : Ctr G yX8_gloves (mi_X8_gloves 3) [.ref 0, .int x1, .int x2, .int x3] (m0 :: q) ((e_X8_gloves m0 q) r).1 ((e_X8_gloves m0 q) r).2 := Ctr_of hj (by decide) rfl hr rfl (Nat.le_of_ble_eq_true rfl) (k_X8_gloves m0 q x1 x2 x3)
abbrev e_X8_image (m0 : Mem) (q : List Mem) : (Int32 × Mem) → Option Value × List Mem := fun r => (some (.int r.1), (r.2 :: q))
theorem k_X8_image_L30 {G : GE} (m0 : Mem) (q : List Mem) (x1 : Int32) (k : Int32 → Mem → Option (Int32 × Mem)) (hk : ∀ (u13 : Int32) (w14 : Mem), K G (mi_X8_image 2) (e_X8_image m0 q) 59 [(0, .ref 0), (1, .int x1), (2, .int u13)] [] (w14 :: q) (k u13 w14)) : ∀ (t : Nat) (u13 : Int32) (w14 : Mem), K G (mi_X8_image 2) (e_X8_image m0 q) 30 [(0, .ref 0), (1, .int x1), (2, .int u13)] [] (w14 :: q) (f_X8_image_L30 k x1 t u13 w14) := by
  intro t
  induction t with
  | zero => intro u13 w14; exact K_none
  | succ t ih =>
    intro u13 w14
    rw [f_X8_image_L30]
    refine K_iload_n 2 dX8_image_30 rfl ?_
    refine K_bipush (v := 109) dX8_image_31 (by decide) ?_
    refine K_icmp_ge 59 dX8_image_33 rfl (fun _ => ?_) (fun _ => ?_)
    · refine K_loc [0, 1, 2] (lv' := [(0, .ref 0), (1, .int x1), (2, .int u13)]) rfl ?_
      exact hk u13 w14
    · refine K_aload_n 0 dX8_image_36 rfl ?_
      refine K_get (v := .ref 35) dX8_image_37 fl_X8_62 kl_0 rfl rfl ?_
      refine K_bipush (v := 109) dX8_image_40 (by decide) ?_
      refine K_iload_n 1 dX8_image_42 rfl ?_
      refine K_imul dX8_image_43 ?_
      refine K_iload_n 2 dX8_image_44 rfl ?_
      refine K_iadd dX8_image_45 ?_
      refine K_aload_n 0 dX8_image_46 rfl ?_
      refine K_get (v := .ref 6) dX8_image_47 fl_X8_19 kl_0 rfl rfl ?_
      refine K_iload_n 2 dX8_image_50 rfl ?_
      refine K_iald (f := w14 6) dX8_image_51 kl_6 rfl ?_
      refine K_iast (Ms' := ((up w14 35 ((109 * x1) + u13).toNatClampNeg (w14 6 u13.toNatClampNeg)) :: q)) dX8_image_52 kl_35 (Nat.succ_pos _) rfl ?_
      refine K_nmm (fun w => (w :: q)) rfl (fun w15 => ?_)
      refine K_iinc 2 (w := u13 + 1) (lv' := [(2, .int (u13 + 1)), (0, .ref 0), (1, .int x1)]) dX8_image_53 rfl rfl (by decide) rfl ?_
      refine K_goto 30 dX8_image_56 rfl ?_
      refine K_loc [1, 2, 0] (lv' := [(0, .ref 0), (1, .int x1), (2, .int (u13 + 1))]) rfl ?_
      exact ih (u13 + 1) w15
theorem k_X8_image {G : GE} (m0 : Mem) (q : List Mem) (x1 : Int32) : K G (mi_X8_image 2) (e_X8_image m0 q) 0 [(0, .ref 0), (1, .int x1)] [] (m0 :: q) (f_X8_image m0 x1) := by
  unfold f_X8_image
  refine K_aload_n 0 dX8_image_0 rfl ?_
  refine K_iconst (v := 0) dX8_image_1 (by decide) ?_
  refine K_put (Ms' := ((up m0 0 0 0) :: q)) dX8_image_2 fp_X8_68 kl_0 rfl rfl rfl (Nat.succ_pos _) rfl ?_
  refine K_nmm (fun w => (w :: q)) rfl (fun w11 => ?_)
  refine K_iload_n 1 dX8_image_5 rfl ?_
  refine K_i2l dX8_image_6 ?_
  refine K_lconst (v := 0) dX8_image_7 (by decide) ?_
  refine K_lconst (v := 1) dX8_image_8 (by decide) ?_
  refine K_callS (E' := e_X8_in (w11 :: q)) (As := [.long x1.toInt64, .long 0, .long 1]) (rest := []) dX8_image_9 ml_X8_78 (mf_X8_in 1) ms_X8_in (fun hj r hr => c_X8_in hj (w11 :: q) x1.toInt64 (0 : Int64) (1 : Int64) hr) rfl rfl (Nat.le_of_ble_eq_true rfl) (Nat.le_of_ble_eq_true rfl) (fun r12 => ?_)
  show K G (mi_X8_image 2) (e_X8_image m0 q) 12 [(0, .ref 0), (1, .int x1)] [.int r12] (w11 :: q) _
  refine K_if_ne 18 dX8_image_12 rfl (fun _ => ?_) (fun _ => ?_)
  · refine K_aload_n 0 dX8_image_18 rfl ?_
    refine K_get (v := .int (w11 0 7)) dX8_image_19 fl_X8_217 kl_0 rfl rfl ?_
    refine K_if_ne 28 dX8_image_22 rfl (fun _ => ?_) (fun _ => ?_)
    · refine K_iconst (v := 0) dX8_image_28 (by decide) ?_
      refine K_istore_n (lv' := [(2, .int 0), (0, .ref 0), (1, .int x1)]) dX8_image_29 (by decide) rfl ?_
      refine K_loc [1, 2, 0] (lv' := [(0, .ref 0), (1, .int x1), (2, .int 0)]) rfl ?_
      refine k_X8_image_L30  m0 q x1 _ (fun u16 w17 => ?_) 100000 0 w11
      refine K_aload_n 0 dX8_image_59 rfl ?_
      refine K_get (v := .ref 34) dX8_image_60 fl_X8_58 kl_0 rfl rfl ?_
      refine K_iload_n 1 dX8_image_63 rfl ?_
      refine K_iconst (v := 1) dX8_image_64 (by decide) ?_
      refine K_zast (Ms' := ((up w17 34 x1.toNatClampNeg (vp_nar .boolean 1)) :: q)) dX8_image_65 kl_34 (Nat.succ_pos _) rfl ?_
      refine K_nmm (fun w => (w :: q)) rfl (fun w18 => ?_)
      refine K_iconst (v := 1) dX8_image_66 (by decide) ?_
      exact K_ret (rv := some (.int 1)) dX8_image_67 rfl rfl rfl
    · refine K_ldc (v := (-1000002)) dX8_image_25 cst_X8_240 ?_
      exact K_ret (rv := some (.int (-1000002))) dX8_image_27 rfl rfl rfl
  · refine K_ldc (v := (-1000001)) dX8_image_15 cst_X8_88 ?_
    exact K_ret (rv := some (.int (-1000001))) dX8_image_17 rfl rfl rfl
theorem c_X8_image {G : GE} (hj : dj G) (m0 : Mem) (q : List Mem) (x1 : Int32) {r : Int32 × Mem} (hr : f_X8_image m0 x1 = some r) : Ctr G yX8_image (mi_X8_image 2) [.ref 0, .int x1] (m0 :: q) ((e_X8_image m0 q) r).1 ((e_X8_image m0 q) r).2 := Ctr_of hj (by decide) rfl hr rfl (Nat.le_of_ble_eq_true rfl) (k_X8_image m0 q x1)
abbrev e_X8_restore (m0 : Mem) (q : List Mem) : (Int32 × Mem) → Option Value × List Mem := fun r => (some (.int r.1), (r.2 :: q))
theorem k_X8_restore_L32 {G : GE} (m0 : Mem) (q : List Mem) (x1 : Int32) (k : Int32 → Mem → Option (Int32 × Mem)) (hk : ∀ (u13 : Int32) (w14 : Mem), K G (mi_X8_restore 2) (e_X8_restore m0 q) 61 [(0, .ref 0), (1, .int x1), (2, .int u13)] [] (w14 :: q) (k u13 w14)) : ∀ (t : Nat) (u13 : Int32) (w14 : Mem), K G (mi_X8_restore 2) (e_X8_restore m0 q) 32 [(0, .ref 0), (1, .int x1), (2, .int u13)] [] (w14 :: q) (f_X8_restore_L32 k x1 t u13 w14) := by
  intro t
  induction t with
  | zero => intro u13 w14; exact K_none
  | succ t ih =>
    intro u13 w14
    rw [f_X8_restore_L32]
    refine K_iload_n 2 dX8_restore_32 rfl ?_
    refine K_bipush (v := 109) dX8_restore_33 (by decide) ?_
    refine K_icmp_ge 61 dX8_restore_35 rfl (fun _ => ?_) (fun _ => ?_)
    · refine K_loc [0, 1, 2] (lv' := [(0, .ref 0), (1, .int x1), (2, .int u13)]) rfl ?_
      exact hk u13 w14
    · refine K_aload_n 0 dX8_restore_38 rfl ?_
      refine K_get (v := .ref 6) dX8_restore_39 fl_X8_19 kl_0 rfl rfl ?_
      refine K_iload_n 2 dX8_restore_42 rfl ?_
      refine K_aload_n 0 dX8_restore_43 rfl ?_
      refine K_get (v := .ref 35) dX8_restore_44 fl_X8_62 kl_0 rfl rfl ?_
      refine K_bipush (v := 109) dX8_restore_47 (by decide) ?_
      refine K_iload_n 1 dX8_restore_49 rfl ?_
      refine K_imul dX8_restore_50 ?_
      refine K_iload_n 2 dX8_restore_51 rfl ?_
      refine K_iadd dX8_restore_52 ?_
      refine K_iald (f := w14 35) dX8_restore_53 kl_35 rfl ?_
      refine K_iast (Ms' := ((up w14 6 u13.toNatClampNeg (w14 35 ((109 * x1) + u13).toNatClampNeg)) :: q)) dX8_restore_54 kl_6 (Nat.succ_pos _) rfl ?_
      refine K_nmm (fun w => (w :: q)) rfl (fun w15 => ?_)
      refine K_iinc 2 (w := u13 + 1) (lv' := [(2, .int (u13 + 1)), (0, .ref 0), (1, .int x1)]) dX8_restore_55 rfl rfl (by decide) rfl ?_
      refine K_goto 32 dX8_restore_58 rfl ?_
      refine K_loc [1, 2, 0] (lv' := [(0, .ref 0), (1, .int x1), (2, .int (u13 + 1))]) rfl ?_
      exact ih (u13 + 1) w15
theorem k_X8_restore {G : GE} (m0 : Mem) (q : List Mem) (x1 : Int32) : K G (mi_X8_restore 2) (e_X8_restore m0 q) 0 [(0, .ref 0), (1, .int x1)] [] (m0 :: q) (f_X8_restore m0 x1) := by
  unfold f_X8_restore
  refine K_aload_n 0 dX8_restore_0 rfl ?_
  refine K_iconst (v := 0) dX8_restore_1 (by decide) ?_
  refine K_put (Ms' := ((up m0 0 0 0) :: q)) dX8_restore_2 fp_X8_68 kl_0 rfl rfl rfl (Nat.succ_pos _) rfl ?_
  refine K_nmm (fun w => (w :: q)) rfl (fun w11 => ?_)
  refine K_iload_n 1 dX8_restore_5 rfl ?_
  refine K_i2l dX8_restore_6 ?_
  refine K_lconst (v := 0) dX8_restore_7 (by decide) ?_
  refine K_lconst (v := 1) dX8_restore_8 (by decide) ?_
  refine K_callS (E' := e_X8_in (w11 :: q)) (As := [.long x1.toInt64, .long 0, .long 1]) (rest := []) dX8_restore_9 ml_X8_78 (mf_X8_in 1) ms_X8_in (fun hj r hr => c_X8_in hj (w11 :: q) x1.toInt64 (0 : Int64) (1 : Int64) hr) rfl rfl (Nat.le_of_ble_eq_true rfl) (Nat.le_of_ble_eq_true rfl) (fun r12 => ?_)
  show K G (mi_X8_restore 2) (e_X8_restore m0 q) 12 [(0, .ref 0), (1, .int x1)] [.int r12] (w11 :: q) _
  refine K_if_ne 18 dX8_restore_12 rfl (fun _ => ?_) (fun _ => ?_)
  · refine K_aload_n 0 dX8_restore_18 rfl ?_
    refine K_get (v := .ref 34) dX8_restore_19 fl_X8_58 kl_0 rfl rfl ?_
    refine K_iload_n 1 dX8_restore_22 rfl ?_
    refine K_zald (f := w11 34) dX8_restore_23 kl_34 rfl ?_
    refine K_if_ne 30 dX8_restore_24 rfl (fun _ => ?_) (fun _ => ?_)
    · refine K_iconst (v := 0) dX8_restore_30 (by decide) ?_
      refine K_istore_n (lv' := [(2, .int 0), (0, .ref 0), (1, .int x1)]) dX8_restore_31 (by decide) rfl ?_
      refine K_loc [1, 2, 0] (lv' := [(0, .ref 0), (1, .int x1), (2, .int 0)]) rfl ?_
      refine k_X8_restore_L32  m0 q x1 _ (fun u16 w17 => ?_) 100000 0 w11
      refine K_aload_n 0 dX8_restore_61 rfl ?_
      refine K_iconst (v := 0) dX8_restore_62 (by decide) ?_
      refine K_put (Ms' := ((up w17 0 10 0) :: q)) dX8_restore_63 fp_X8_221 kl_0 rfl rfl rfl (Nat.succ_pos _) rfl ?_
      refine K_nmm (fun w => (w :: q)) rfl (fun w18 => ?_)
      refine K_iconst (v := 1) dX8_restore_66 (by decide) ?_
      exact K_ret (rv := some (.int 1)) dX8_restore_67 rfl rfl rfl
    · refine K_ldc (v := (-1000002)) dX8_restore_27 cst_X8_240 ?_
      exact K_ret (rv := some (.int (-1000002))) dX8_restore_29 rfl rfl rfl
  · refine K_ldc (v := (-1000001)) dX8_restore_15 cst_X8_88 ?_
    exact K_ret (rv := some (.int (-1000001))) dX8_restore_17 rfl rfl rfl
theorem c_X8_restore {G : GE} (hj : dj G) (m0 : Mem) (q : List Mem) (x1 : Int32) {r : Int32 × Mem} (hr : f_X8_restore m0 x1 = some r) : Ctr G yX8_restore (mi_X8_restore 2) [.ref 0, .int x1] (m0 :: q) ((e_X8_restore m0 q) r).1 ((e_X8_restore m0 q) r).2 := Ctr_of hj (by decide) rfl hr rfl (Nat.le_of_ble_eq_true rfl) (k_X8_restore m0 q x1)
abbrev e_X8_kind (m0 : Mem) (q : List Mem) : (Int32 × Mem) → Option Value × List Mem := fun r => (some (.int r.1), (r.2 :: q))
theorem k_X8_kind {G : GE} (m0 : Mem) (q : List Mem) (x1 : Int32) : K G (mi_X8_kind 3) (e_X8_kind m0 q) 0 [(0, .ref 0), (1, .int x1)] [] (m0 :: q) (f_X8_kind m0 x1) := by
  unfold f_X8_kind
  refine K_aload_n 0 dX8_kind_0 rfl ?_
  refine K_iconst (v := 0) dX8_kind_1 (by decide) ?_
  refine K_put (Ms' := ((up m0 0 0 0) :: q)) dX8_kind_2 fp_X8_68 kl_0 rfl rfl rfl (Nat.succ_pos _) rfl ?_
  refine K_nmm (fun w => (w :: q)) rfl (fun w11 => ?_)
  refine K_aload_n 0 dX8_kind_5 rfl ?_
  refine K_iload_n 1 dX8_kind_6 rfl ?_
  refine K_callV (E' := e_X8_isPerson w11 q) (b := 0) (As := [.int x1]) (rest := []) dX8_kind_7 ml_X8_232 (mf_X8_isPerson 2) mv_X8_isPerson (fun hj r hr => c_X8_isPerson hj w11 q x1 hr) (rcv_obj (q := (RX8, TX8, 37)) kl_0 rfl) rfl rfl (Nat.le_of_ble_eq_true rfl) (Nat.le_of_ble_eq_true rfl) (fun r12 => ?_)
  show K G (mi_X8_kind 3) (e_X8_kind m0 q) 10 [(0, .ref 0), (1, .int x1)] [.int r12] (w11 :: q) _
  refine K_if_eq 22 dX8_kind_10 rfl (fun _ => ?_) (fun _ => ?_)
  · refine K_ldc (v := (-1000001)) dX8_kind_22 cst_X8_88 ?_
    exact K_ret (rv := some (.int (-1000001))) dX8_kind_24 rfl rfl rfl
  · refine K_aload_n 0 dX8_kind_13 rfl ?_
    refine K_iload_n 1 dX8_kind_14 rfl ?_
    refine K_iconst (v := 0) dX8_kind_15 (by decide) ?_
    refine K_callV (E' := e_X8_of w11 q) (b := 0) (As := [.int x1, .int 0]) (rest := []) dX8_kind_16 ml_X8_237 (mf_X8_of 1) mv_X8_of (fun hj r hr => c_X8_of hj w11 q x1 (0 : Int32) hr) (rcv_obj (q := (RX8, TX8, 37)) kl_0 rfl) rfl rfl (Nat.le_of_ble_eq_true rfl) (Nat.le_of_ble_eq_true rfl) (fun r13 => ?_)
    show K G (mi_X8_kind 3) (e_X8_kind m0 q) 19 [(0, .ref 0), (1, .int x1)] [.int r13] (w11 :: q) _
    refine K_goto 24 dX8_kind_19 rfl ?_
    exact K_ret (rv := some (.int r13)) dX8_kind_24 rfl rfl rfl
theorem c_X8_kind {G : GE} (hj : dj G) (m0 : Mem) (q : List Mem) (x1 : Int32) {r : Int32 × Mem} (hr : f_X8_kind m0 x1 = some r) : Ctr G yX8_kind (mi_X8_kind 3) [.ref 0, .int x1] (m0 :: q) ((e_X8_kind m0 q) r).1 ((e_X8_kind m0 q) r).2 := Ctr_of hj (by decide) rfl hr rfl (Nat.le_of_ble_eq_true rfl) (k_X8_kind m0 q x1)
abbrev e_X8_isOf (Ms : List Mem) : Int32 → Option Value × List Mem := fun r => (some (.int r), Ms)
theorem k_X8_isOf {G : GE} (Ms : List Mem) (x0 : Int32) (x1 : Int32) : K G (mi_X8_isOf 1) (e_X8_isOf Ms) 0 [(0, .int x0), (1, .int x1)] [] Ms (f_X8_isOf x0 x1) := by
  unfold f_X8_isOf
  refine K_iload_n 1 dX8_isOf_0 rfl ?_
  refine K_if_eq 29 dX8_isOf_1 rfl (fun _ => ?_) (fun _ => ?_)
  · refine K_iconst (v := 1) dX8_isOf_29 (by decide) ?_
    refine K_goto 34 dX8_isOf_30 rfl ?_
    exact K_ret (rv := some (.int 1)) dX8_isOf_34 rfl rfl rfl
  · refine K_iload_n 0 dX8_isOf_4 rfl ?_
    refine K_iload_n 1 dX8_isOf_5 rfl ?_
    refine K_icmp_eq 29 dX8_isOf_6 rfl (fun _ => ?_) (fun _ => ?_)
    · refine K_iconst (v := 1) dX8_isOf_29 (by decide) ?_
      refine K_goto 34 dX8_isOf_30 rfl ?_
      exact K_ret (rv := some (.int 1)) dX8_isOf_34 rfl rfl rfl
    · refine K_iload_n 1 dX8_isOf_9 rfl ?_
      refine K_iconst (v := 1) dX8_isOf_10 (by decide) ?_
      refine K_icmp_ne 19 dX8_isOf_11 rfl (fun _ => ?_) (fun _ => ?_)
      · refine K_iload_n 1 dX8_isOf_19 rfl ?_
        refine K_iconst (v := 4) dX8_isOf_20 (by decide) ?_
        refine K_icmp_ne 33 dX8_isOf_21 rfl (fun _ => ?_) (fun _ => ?_)
        · refine K_iconst (v := 0) dX8_isOf_33 (by decide) ?_
          exact K_ret (rv := some (.int 0)) dX8_isOf_34 rfl rfl rfl
        · refine K_iload_n 0 dX8_isOf_24 rfl ?_
          refine K_iconst (v := 5) dX8_isOf_25 (by decide) ?_
          refine K_icmp_ne 33 dX8_isOf_26 rfl (fun _ => ?_) (fun _ => ?_)
          · refine K_iconst (v := 0) dX8_isOf_33 (by decide) ?_
            exact K_ret (rv := some (.int 0)) dX8_isOf_34 rfl rfl rfl
          · refine K_iconst (v := 1) dX8_isOf_29 (by decide) ?_
            refine K_goto 34 dX8_isOf_30 rfl ?_
            exact K_ret (rv := some (.int 1)) dX8_isOf_34 rfl rfl rfl
      · refine K_iload_n 0 dX8_isOf_14 rfl ?_
        refine K_iconst (v := 4) dX8_isOf_15 (by decide) ?_
        refine K_icmp_lt 29 dX8_isOf_16 rfl (fun _ => ?_) (fun _ => ?_)
        · refine K_iconst (v := 1) dX8_isOf_29 (by decide) ?_
          refine K_goto 34 dX8_isOf_30 rfl ?_
          exact K_ret (rv := some (.int 1)) dX8_isOf_34 rfl rfl rfl
        · refine K_iload_n 1 dX8_isOf_19 rfl ?_
          refine K_iconst (v := 4) dX8_isOf_20 (by decide) ?_
          refine K_icmp_ne 33 dX8_isOf_21 rfl (fun _ => ?_) (fun _ => ?_)
          · refine K_iconst (v := 0) dX8_isOf_33 (by decide) ?_
            exact K_ret (rv := some (.int 0)) dX8_isOf_34 rfl rfl rfl
          · refine K_iload_n 0 dX8_isOf_24 rfl ?_
            refine K_iconst (v := 5) dX8_isOf_25 (by decide) ?_
            refine K_icmp_ne 33 dX8_isOf_26 rfl (fun _ => ?_) (fun _ => ?_)
            · refine K_iconst (v := 0) dX8_isOf_33 (by decide) ?_
              exact K_ret (rv := some (.int 0)) dX8_isOf_34 rfl rfl rfl
            · refine K_iconst (v := 1) dX8_isOf_29 (by decide) ?_
              refine K_goto 34 dX8_isOf_30 rfl ?_
              exact K_ret (rv := some (.int 1)) dX8_isOf_34 rfl rfl rfl
theorem c_X8_isOf {G : GE} (hj : dj G) (Ms : List Mem) (x0 : Int32) (x1 : Int32) {r : Int32} (hr : f_X8_isOf x0 x1 = some r) : Ctr G yX8_isOf (mi_X8_isOf 1) [.int x0, .int x1] Ms ((e_X8_isOf Ms) r).1 ((e_X8_isOf Ms) r).2 := Ctr_of hj (by decide) rfl hr rfl (Nat.le_of_ble_eq_true rfl) (k_X8_isOf Ms x0 x1)
abbrev e_X8_as (m0 : Mem) (q : List Mem) : (Int32 × Mem) → Option Value × List Mem := fun r => (some (.int r.1), (r.2 :: q))
theorem k_X8_as {G : GE} (m0 : Mem) (q : List Mem) (x1 : Int32) (x2 : Int32) : K G (mi_X8_as 3) (e_X8_as m0 q) 0 [(0, .ref 0), (1, .int x1), (2, .int x2)] [] (m0 :: q) (f_X8_as m0 x1 x2) := by
  unfold f_X8_as
  refine K_aload_n 0 dX8_as_0 rfl ?_
  refine K_iconst (v := 0) dX8_as_1 (by decide) ?_
  refine K_put (Ms' := ((up m0 0 0 0) :: q)) dX8_as_2 fp_X8_68 kl_0 rfl rfl rfl (Nat.succ_pos _) rfl ?_
  refine K_nmm (fun w => (w :: q)) rfl (fun w11 => ?_)
  refine K_aload_n 0 dX8_as_5 rfl ?_
  refine K_iload_n 1 dX8_as_6 rfl ?_
  refine K_callV (E' := e_X8_isPerson w11 q) (b := 0) (As := [.int x1]) (rest := []) dX8_as_7 ml_X8_232 (mf_X8_isPerson 2) mv_X8_isPerson (fun hj r hr => c_X8_isPerson hj w11 q x1 hr) (rcv_obj (q := (RX8, TX8, 37)) kl_0 rfl) rfl rfl (Nat.le_of_ble_eq_true rfl) (Nat.le_of_ble_eq_true rfl) (fun r12 => ?_)
  show K G (mi_X8_as 3) (e_X8_as m0 q) 10 [(0, .ref 0), (1, .int x1), (2, .int x2)] [.int r12] (w11 :: q) _
  refine K_if_eq 25 dX8_as_10 rfl (fun _ => ?_) (fun _ => ?_)
  · refine K_ldc (v := (-1000001)) dX8_as_25 cst_X8_88 ?_
    exact K_ret (rv := some (.int (-1000001))) dX8_as_27 rfl rfl rfl
  · refine K_iload_n 2 dX8_as_13 rfl ?_
    refine K_i2l dX8_as_14 ?_
    refine K_lconst (v := 0) dX8_as_15 (by decide) ?_
    refine K_ldc2 (v := 5) dX8_as_16 cst_X8_328 ?_
    refine K_callS (E' := e_X8_in (w11 :: q)) (As := [.long x2.toInt64, .long 0, .long 5]) (rest := []) dX8_as_19 ml_X8_78 (mf_X8_in 1) ms_X8_in (fun hj r hr => c_X8_in hj (w11 :: q) x2.toInt64 (0 : Int64) (5 : Int64) hr) rfl rfl (Nat.le_of_ble_eq_true rfl) (Nat.le_of_ble_eq_true rfl) (fun r13 => ?_)
    show K G (mi_X8_as 3) (e_X8_as m0 q) 22 [(0, .ref 0), (1, .int x1), (2, .int x2)] [.int r13] (w11 :: q) _
    refine K_if_ne 28 dX8_as_22 rfl (fun _ => ?_) (fun _ => ?_)
    · refine K_aload_n 0 dX8_as_28 rfl ?_
      refine K_iconst (v := 0) dX8_as_29 (by decide) ?_
      refine K_put (Ms' := ((up w11 0 1 0) :: q)) dX8_as_30 fp_X8_72 kl_0 rfl rfl rfl (Nat.succ_pos _) rfl ?_
      refine K_nmm (fun w => (w :: q)) rfl (fun w14 => ?_)
      refine K_aload_n 0 dX8_as_33 rfl ?_
      refine K_iload_n 1 dX8_as_34 rfl ?_
      refine K_iconst (v := 0) dX8_as_35 (by decide) ?_
      refine K_callV (E' := e_X8_of w14 q) (b := 0) (As := [.int x1, .int 0]) (rest := []) dX8_as_36 ml_X8_237 (mf_X8_of 1) mv_X8_of (fun hj r hr => c_X8_of hj w14 q x1 (0 : Int32) hr) (rcv_obj (q := (RX8, TX8, 37)) kl_0 rfl) rfl rfl (Nat.le_of_ble_eq_true rfl) (Nat.le_of_ble_eq_true rfl) (fun r15 => ?_)
      show K G (mi_X8_as 3) (e_X8_as m0 q) 39 [(0, .ref 0), (1, .int x1), (2, .int x2)] [.int r15] (w14 :: q) _
      refine K_iload_n 2 dX8_as_39 rfl ?_
      refine K_callS (E' := e_X8_isOf (w14 :: q)) (As := [.int r15, .int x2]) (rest := []) dX8_as_40 ml_X8_330 (mf_X8_isOf 1) ms_X8_isOf (fun hj r hr => c_X8_isOf hj (w14 :: q) r15 x2 hr) rfl rfl (Nat.le_of_ble_eq_true rfl) (Nat.le_of_ble_eq_true rfl) (fun r16 => ?_)
      show K G (mi_X8_as 3) (e_X8_as m0 q) 43 [(0, .ref 0), (1, .int x1), (2, .int x2)] [.int r16] (w14 :: q) _
      refine K_if_eq 50 dX8_as_43 rfl (fun _ => ?_) (fun _ => ?_)
      · refine K_aload_n 0 dX8_as_50 rfl ?_
        refine K_iconst (v := 3) dX8_as_51 (by decide) ?_
        refine K_callV (E' := e_X8_finding w14 q) (b := 0) (As := [.int 3]) (rest := []) dX8_as_52 ml_X8_89 (mf_X8_finding 1) mv_X8_finding (fun hj r hr => c_X8_finding hj w14 q (3 : Int32) hr) (rcv_obj (q := (RX8, TX8, 37)) kl_0 rfl) rfl rfl (Nat.le_of_ble_eq_true rfl) (Nat.le_of_ble_eq_true rfl) (fun r17 => ?_)
        show K G (mi_X8_as 3) (e_X8_as m0 q) 55 [(0, .ref 0), (1, .int x1), (2, .int x2)] [.int r17.1] (r17.2 :: q) _
        exact K_ret (rv := some (.int r17.1)) dX8_as_55 rfl rfl rfl
      · refine K_iload_n 1 dX8_as_46 rfl ?_
        refine K_goto 55 dX8_as_47 rfl ?_
        exact K_ret (rv := some (.int x1)) dX8_as_55 rfl rfl rfl
    · refine K_ldc (v := (-1000001)) dX8_as_25 cst_X8_88 ?_
      exact K_ret (rv := some (.int (-1000001))) dX8_as_27 rfl rfl rfl
theorem c_X8_as {G : GE} (hj : dj G) (m0 : Mem) (q : List Mem) (x1 : Int32) (x2 : Int32) {r : Int32 × Mem} (hr : f_X8_as m0 x1 x2 = some r) : Ctr G yX8_as (mi_X8_as 3) [.ref 0, .int x1, .int x2] (m0 :: q) ((e_X8_as m0 q) r).1 ((e_X8_as m0 q) r).2 := Ctr_of hj (by decide) rfl hr rfl (Nat.le_of_ble_eq_true rfl) (k_X8_as m0 q x1 x2)
abbrev e_X8_began (m0 : Mem) (q : List Mem) : Mem → Option Value × List Mem := fun r => (none, (r :: q))
theorem k_X8_began {G : GE} (m0 : Mem) (q : List Mem) (x1 : Int32) : K G (mi_X8_began 1) (e_X8_began m0 q) 0 [(0, .ref 0), (1, .int x1)] [] (m0 :: q) (f_X8_began m0 x1) := by
  unfold f_X8_began
  refine K_aload_n 0 dX8_began_0 rfl ?_
  refine K_get (v := .int (m0 0 36)) dX8_began_1 fl_X8_333 kl_0 rfl rfl ?_
  refine K_bipush (v := 16) dX8_began_4 (by decide) ?_
  refine K_icmp_ge 29 dX8_began_6 rfl (fun _ => ?_) (fun _ => ?_)
  · exact K_ret (rv := none) dX8_began_29 trivial rfl rfl
  · refine K_aload_n 0 dX8_began_9 rfl ?_
    refine K_get (v := .ref 36) dX8_began_10 fl_X8_65 kl_0 rfl rfl ?_
    refine K_aload_n 0 dX8_began_13 rfl ?_
    refine K_get (v := .int (m0 0 36)) dX8_began_14 fl_X8_333 kl_0 rfl rfl ?_
    refine K_iload_n 1 dX8_began_17 rfl ?_
    refine K_iast (Ms' := ((up m0 36 (m0 0 36).toNatClampNeg x1) :: q)) dX8_began_18 kl_36 (Nat.succ_pos _) rfl ?_
    refine K_nmm (fun w => (w :: q)) rfl (fun w11 => ?_)
    refine K_aload_n 0 dX8_began_19 rfl ?_
    refine K_dup dX8_began_20 rfl ?_
    refine K_get (v := .int (w11 0 36)) dX8_began_21 fl_X8_333 kl_0 rfl rfl ?_
    refine K_iconst (v := 1) dX8_began_24 (by decide) ?_
    refine K_iadd dX8_began_25 ?_
    refine K_put (Ms' := ((up w11 0 36 ((w11 0 36) + 1)) :: q)) dX8_began_26 fp_X8_333 kl_0 rfl rfl rfl (Nat.succ_pos _) rfl ?_
    refine K_nmm (fun w => (w :: q)) rfl (fun w12 => ?_)
    exact K_ret (rv := none) dX8_began_29 trivial rfl rfl
theorem c_X8_began {G : GE} (hj : dj G) (m0 : Mem) (q : List Mem) (x1 : Int32) {r : Mem} (hr : f_X8_began m0 x1 = some r) : Ctr G yX8_began (mi_X8_began 1) [.ref 0, .int x1] (m0 :: q) ((e_X8_began m0 q) r).1 ((e_X8_began m0 q) r).2 := Ctr_of hj (by decide) rfl hr rfl (Nat.le_of_ble_eq_true rfl) (k_X8_began m0 q x1)
abbrev e_X8_plainSize (m0 : Mem) (q : List Mem) : (Int32 × Mem) → Option Value × List Mem := fun r => (some (.int r.1), (r.2 :: q))
theorem k_X8_plainSize {G : GE} (m0 : Mem) (q : List Mem) (x1 : Int32) : K G (mi_X8_plainSize 2) (e_X8_plainSize m0 q) 0 [(0, .ref 0), (1, .int x1)] [] (m0 :: q) (f_X8_plainSize m0 x1) := by
  unfold f_X8_plainSize
  refine K_aload_n 0 dX8_plainSize_0 rfl ?_
  refine K_bipush (v := 10) dX8_plainSize_1 (by decide) ?_
  refine K_callV (E' := e_X8_began m0 q) (b := 0) (As := [.int 10]) (rest := []) dX8_plainSize_3 ml_X8_336 (mf_X8_began 1) mv_X8_began (fun hj r hr => c_X8_began hj m0 q (10 : Int32) hr) (rcv_obj (q := (RX8, TX8, 37)) kl_0 rfl) rfl rfl (Nat.le_of_ble_eq_true rfl) (Nat.le_of_ble_eq_true rfl) (fun r11 => ?_)
  show K G (mi_X8_plainSize 2) (e_X8_plainSize m0 q) 6 [(0, .ref 0), (1, .int x1)] [] (r11 :: q) _
  refine K_aload_n 0 dX8_plainSize_6 rfl ?_
  refine K_iload_n 1 dX8_plainSize_7 rfl ?_
  refine K_iconst (v := 2) dX8_plainSize_8 (by decide) ?_
  refine K_callV (E' := e_X8_of r11 q) (b := 0) (As := [.int x1, .int 2]) (rest := []) dX8_plainSize_9 ml_X8_237 (mf_X8_of 1) mv_X8_of (fun hj r hr => c_X8_of hj r11 q x1 (2 : Int32) hr) (rcv_obj (q := (RX8, TX8, 37)) kl_0 rfl) rfl rfl (Nat.le_of_ble_eq_true rfl) (Nat.le_of_ble_eq_true rfl) (fun r12 => ?_)
  show K G (mi_X8_plainSize 2) (e_X8_plainSize m0 q) 12 [(0, .ref 0), (1, .int x1)] [.int r12] (r11 :: q) _
  exact K_ret (rv := some (.int r12)) dX8_plainSize_12 rfl rfl rfl
theorem c_X8_plainSize {G : GE} (hj : dj G) (m0 : Mem) (q : List Mem) (x1 : Int32) {r : Int32 × Mem} (hr : f_X8_plainSize m0 x1 = some r) : Ctr G yX8_plainSize (mi_X8_plainSize 2) [.ref 0, .int x1] (m0 :: q) ((e_X8_plainSize m0 q) r).1 ((e_X8_plainSize m0 q) r).2 := Ctr_of hj (by decide) rfl hr rfl (Nat.le_of_ble_eq_true rfl) (k_X8_plainSize m0 q x1)
abbrev e_X8_sickSize (m0 : Mem) (q : List Mem) : (Int32 × Mem) → Option Value × List Mem := fun r => (some (.int r.1), (r.2 :: q))
theorem k_X8_sickSize {G : GE} (m0 : Mem) (q : List Mem) (x1 : Int32) : K G (mi_X8_sickSize 3) (e_X8_sickSize m0 q) 0 [(0, .ref 0), (1, .int x1)] [] (m0 :: q) (f_X8_sickSize m0 x1) := by
  unfold f_X8_sickSize
  refine K_aload_n 0 dX8_sickSize_0 rfl ?_
  refine K_iload_n 1 dX8_sickSize_1 rfl ?_
  refine K_iconst (v := 0) dX8_sickSize_2 (by decide) ?_
  refine K_callV (E' := e_X8_of m0 q) (b := 0) (As := [.int x1, .int 0]) (rest := []) dX8_sickSize_3 ml_X8_237 (mf_X8_of 1) mv_X8_of (fun hj r hr => c_X8_of hj m0 q x1 (0 : Int32) hr) (rcv_obj (q := (RX8, TX8, 37)) kl_0 rfl) rfl rfl (Nat.le_of_ble_eq_true rfl) (Nat.le_of_ble_eq_true rfl) (fun r11 => ?_)
  show K G (mi_X8_sickSize 3) (e_X8_sickSize m0 q) 6 [(0, .ref 0), (1, .int x1)] [.int r11] (m0 :: q) _
  refine K_iconst (v := 5) dX8_sickSize_6 (by decide) ?_
  refine K_jn (fun j14 => ∀ a13 : Mem, K G (mi_X8_sickSize 3) (e_X8_sickSize m0 q) 16 [(0, .ref 0), (1, .int x1)] [] (a13 :: q) (j14 a13)) (fun a13 => ?_) (fun j14 hj14 => ?_)
  · refine K_aload_n 0 dX8_sickSize_16 rfl ?_
    refine K_bipush (v := 13) dX8_sickSize_17 (by decide) ?_
    refine K_callV (E' := e_X8_began a13 q) (b := 0) (As := [.int 13]) (rest := []) dX8_sickSize_19 ml_X8_336 (mf_X8_began 1) mv_X8_began (fun hj r hr => c_X8_began hj a13 q (13 : Int32) hr) (rcv_obj (q := (RX8, TX8, 37)) kl_0 rfl) rfl rfl (Nat.le_of_ble_eq_true rfl) (Nat.le_of_ble_eq_true rfl) (fun r15 => ?_)
    show K G (mi_X8_sickSize 3) (e_X8_sickSize m0 q) 22 [(0, .ref 0), (1, .int x1)] [] (r15 :: q) _
    refine K_aload_n 0 dX8_sickSize_22 rfl ?_
    refine K_iload_n 1 dX8_sickSize_23 rfl ?_
    refine K_callV (E' := e_X8_plainSize r15 q) (b := 0) (As := [.int x1]) (rest := []) dX8_sickSize_24 ml_X8_339 (mf_X8_plainSize 2) mv_X8_plainSize (fun hj r hr => c_X8_plainSize hj r15 q x1 hr) (rcv_obj (q := (RX8, TX8, 37)) kl_0 rfl) rfl rfl (Nat.le_of_ble_eq_true rfl) (Nat.le_of_ble_eq_true rfl) (fun r16 => ?_)
    show K G (mi_X8_sickSize 3) (e_X8_sickSize m0 q) 27 [(0, .ref 0), (1, .int x1)] [.int r16.1] (r16.2 :: q) _
    refine K_bipush (v := 100) dX8_sickSize_27 (by decide) ?_
    refine K_isub dX8_sickSize_29 ?_
    refine K_nmi (fun x17 => ?_)
    refine K_istore_n (lv' := [(2, .int x17), (0, .ref 0), (1, .int x1)]) dX8_sickSize_30 (by decide) rfl ?_
    refine K_aload_n 1 dX8_sickSize_31 rfl ?_
    refine K_iload_n 2 dX8_sickSize_32 rfl ?_
    refine K_iconst (v := 0) dX8_sickSize_33 (by decide) ?_
    refine K_callV (E' := e_X8_of r16.2 q) (b := 0) (As := [.int x1, .int 0]) (rest := []) dX8_sickSize_34 ml_X8_237 (mf_X8_of 1) mv_X8_of (fun hj r hr => c_X8_of hj r16.2 q x1 (0 : Int32) hr) (rcv_obj (q := (RX8, TX8, 37)) kl_0 rfl) rfl rfl (Nat.le_of_ble_eq_true rfl) (Nat.le_of_ble_eq_true rfl) (fun r18 => ?_)
    show K G (mi_X8_sickSize 3) (e_X8_sickSize m0 q) 37 [(2, .int x17), (0, .ref 0), (1, .int x1)] [.int r18] (r16.2 :: q) _
    refine K_iconst (v := 5) dX8_sickSize_37 (by decide) ?_
    refine K_icmp_ne 47 dX8_sickSize_38 rfl (fun _ => ?_) (fun _ => ?_)
    · refine K_iload_n 0 dX8_sickSize_47 rfl ?_
      exact K_ret (rv := some (.int x17)) dX8_sickSize_48 rfl rfl rfl
    · refine K_iconst (v := 2) dX8_sickSize_41 (by decide) ?_
      refine K_iload_n 0 dX8_sickSize_42 rfl ?_
      refine K_imul dX8_sickSize_43 ?_
      refine K_goto 48 dX8_sickSize_44 rfl ?_
      exact K_ret (rv := some (.int (2 * x17))) dX8_sickSize_48 rfl rfl rfl
  · refine K_icmp_ne 16 dX8_sickSize_7 rfl (fun _ => ?_) (fun _ => ?_)
    · exact hj14 m0
    · refine K_aload_n 0 dX8_sickSize_10 rfl ?_
      refine K_bipush (v := 14) dX8_sickSize_11 (by decide) ?_
      refine K_callV (E' := e_X8_began m0 q) (b := 0) (As := [.int 14]) (rest := []) dX8_sickSize_13 ml_X8_336 (mf_X8_began 1) mv_X8_began (fun hj r hr => c_X8_began hj m0 q (14 : Int32) hr) (rcv_obj (q := (RX8, TX8, 37)) kl_0 rfl) rfl rfl (Nat.le_of_ble_eq_true rfl) (Nat.le_of_ble_eq_true rfl) (fun r12 => ?_)
      show K G (mi_X8_sickSize 3) (e_X8_sickSize m0 q) 16 [(0, .ref 0), (1, .int x1)] [] (r12 :: q) _
      exact hj14 r12
theorem c_X8_sickSize {G : GE} (hj : dj G) (m0 : Mem) (q : List Mem) (x1 : Int32) {r : Int32 × Mem} (hr : f_X8_sickSize m0 x1 = some r) : Ctr G yX8_sickSize (mi_X8_sickSize 3) [.ref 0, .int x1] (m0 :: q) ((e_X8_sickSize m0 q) r).1 ((e_X8_sickSize m0 q) r).2 := Ctr_of hj (by decide) rfl hr rfl (Nat.le_of_ble_eq_true rfl) (k_X8_sickSize m0 q x1)
abbrev e_X8_markOf (m0 : Mem) (q : List Mem) : (Int32 × Mem) → Option Value × List Mem := fun r => (some (.int r.1), (r.2 :: q))
theorem k_X8_markOf {G : GE} (m0 : Mem) (q : List Mem) (x1 : Int32) : K G (mi_X8_markOf 4) (e_X8_markOf m0 q) 0 [(0, .ref 0), (1, .int x1)] [] (m0 :: q) (f_X8_markOf m0 x1) := by
  unfold f_X8_markOf
  refine K_aload_n 0 dX8_markOf_0 rfl ?_
  refine K_iload_n 1 dX8_markOf_1 rfl ?_
  refine K_iconst (v := 0) dX8_markOf_2 (by decide) ?_
  refine K_callV (E' := e_X8_of m0 q) (b := 0) (As := [.int x1, .int 0]) (rest := []) dX8_markOf_3 ml_X8_237 (mf_X8_of 1) mv_X8_of (fun hj r hr => c_X8_of hj m0 q x1 (0 : Int32) hr) (rcv_obj (q := (RX8, TX8, 37)) kl_0 rfl) rfl rfl (Nat.le_of_ble_eq_true rfl) (Nat.le_of_ble_eq_true rfl) (fun r11 => ?_)
  show K G (mi_X8_markOf 4) (e_X8_markOf m0 q) 6 [(0, .ref 0), (1, .int x1)] [.int r11] (m0 :: q) _
  refine K_istore_n (lv' := [(2, .int r11), (0, .ref 0), (1, .int x1)]) dX8_markOf_6 (by decide) rfl ?_
  refine K_iload_n 0 dX8_markOf_7 rfl ?_
  refine K_iconst (v := 4) dX8_markOf_8 (by decide) ?_
  refine K_icmp_lt 32 dX8_markOf_9 rfl (fun _ => ?_) (fun _ => ?_)
  · refine K_iload_n 0 dX8_markOf_32 rfl ?_
    refine K_iconst (v := 1) dX8_markOf_33 (by decide) ?_
    refine K_jn (fun j15 => ∀ a14 : Mem, K G (mi_X8_markOf 4) (e_X8_markOf m0 q) 53 [(0, .ref 0), (1, .int x1), (2, .int r11)] [] (a14 :: q) (j15 a14)) (fun a14 => ?_) (fun j15 hj15 => ?_)
    · refine K_aload_n 0 dX8_markOf_53 rfl ?_
      refine K_bipush (v := 21) dX8_markOf_54 (by decide) ?_
      refine K_callV (E' := e_X8_began a14 q) (b := 0) (As := [.int 21]) (rest := []) dX8_markOf_56 ml_X8_336 (mf_X8_began 1) mv_X8_began (fun hj r hr => c_X8_began hj a14 q (21 : Int32) hr) (rcv_obj (q := (RX8, TX8, 37)) kl_0 rfl) rfl rfl (Nat.le_of_ble_eq_true rfl) (Nat.le_of_ble_eq_true rfl) (fun r16 => ?_)
      show K G (mi_X8_markOf 4) (e_X8_markOf m0 q) 59 [(0, .ref 0), (1, .int x1), (2, .int r11)] [] (r16 :: q) _
      refine K_aload_n 0 dX8_markOf_59 rfl ?_
      refine K_bipush (v := 20) dX8_markOf_60 (by decide) ?_
      refine K_callV (E' := e_X8_began r16 q) (b := 0) (As := [.int 20]) (rest := []) dX8_markOf_62 ml_X8_336 (mf_X8_began 1) mv_X8_began (fun hj r hr => c_X8_began hj r16 q (20 : Int32) hr) (rcv_obj (q := (RX8, TX8, 37)) kl_0 rfl) rfl rfl (Nat.le_of_ble_eq_true rfl) (Nat.le_of_ble_eq_true rfl) (fun r17 => ?_)
      show K G (mi_X8_markOf 4) (e_X8_markOf m0 q) 65 [(0, .ref 0), (1, .int x1), (2, .int r11)] [] (r17 :: q) _
      refine K_iload_n 1 dX8_markOf_65 rfl ?_
      refine K_bipush (v := 10) dX8_markOf_66 (by decide) ?_
      refine K_aload_n 0 dX8_markOf_68 rfl ?_
      refine K_iload_n 1 dX8_markOf_69 rfl ?_
      refine K_iconst (v := 1) dX8_markOf_70 (by decide) ?_
      refine K_callV (E' := e_X8_of r17 q) (b := 0) (As := [.int x1, .int 1]) (rest := [.int 10, .int x1]) dX8_markOf_71 ml_X8_237 (mf_X8_of 1) mv_X8_of (fun hj r hr => c_X8_of hj r17 q x1 (1 : Int32) hr) (rcv_obj (q := (RX8, TX8, 37)) kl_0 rfl) rfl rfl (Nat.le_of_ble_eq_true rfl) (Nat.le_of_ble_eq_true rfl) (fun r18 => ?_)
      show K G (mi_X8_markOf 4) (e_X8_markOf m0 q) 74 [(0, .ref 0), (1, .int x1), (2, .int r11)] [.int r18, .int 10, .int x1] (r17 :: q) _
      refine K_imul dX8_markOf_74 ?_
      refine K_iadd dX8_markOf_75 ?_
      refine K_nmi (fun x19 => ?_)
      refine K_istore_n (lv' := [(3, .int x19), (0, .ref 0), (1, .int x1), (2, .int r11)]) dX8_markOf_76 (by decide) rfl ?_
      refine K_iload_n 3 dX8_markOf_77 rfl ?_
      refine K_iconst (v := 1) dX8_markOf_78 (by decide) ?_
      refine K_icmp_ne 86 dX8_markOf_79 rfl (fun _ => ?_) (fun _ => ?_)
      · refine K_iload_n 3 dX8_markOf_86 rfl ?_
        refine K_iconst (v := 2) dX8_markOf_87 (by decide) ?_
        refine K_icmp_ne 99 dX8_markOf_88 rfl (fun _ => ?_) (fun _ => ?_)
        · refine K_iconst (v := 2) dX8_markOf_99 (by decide) ?_
          refine K_iload_n 0 dX8_markOf_100 rfl ?_
          refine K_imul dX8_markOf_101 ?_
          exact K_ret (rv := some (.int (2 * x19))) dX8_markOf_102 rfl rfl rfl
        · refine K_iload_n 0 dX8_markOf_91 rfl ?_
          refine K_sipush (v := 1000) dX8_markOf_92 (by decide) ?_
          refine K_isub dX8_markOf_95 ?_
          refine K_goto 102 dX8_markOf_96 rfl ?_
          exact K_ret (rv := some (.int (x19 - 1000))) dX8_markOf_102 rfl rfl rfl
      · refine K_iload_n 0 dX8_markOf_82 rfl ?_
        refine K_goto 102 dX8_markOf_83 rfl ?_
        exact K_ret (rv := some (.int x19)) dX8_markOf_102 rfl rfl rfl
    · refine K_icmp_eq 53 dX8_markOf_34 rfl (fun _ => ?_) (fun _ => ?_)
      · refine K_loc [1, 2, 0] (lv' := [(0, .ref 0), (1, .int x1), (2, .int r11)]) rfl ?_
        exact hj15 m0
      · refine K_aload_n 1 dX8_markOf_37 rfl ?_
        refine K_iload_n 0 dX8_markOf_38 rfl ?_
        refine K_iconst (v := 2) dX8_markOf_39 (by decide) ?_
        refine K_icmp_ne 48 dX8_markOf_40 rfl (fun _ => ?_) (fun _ => ?_)
        · refine K_bipush (v := 24) dX8_markOf_48 (by decide) ?_
          refine K_callV (E' := e_X8_began m0 q) (b := 0) (As := [.int 24]) (rest := []) dX8_markOf_50 ml_X8_336 (mf_X8_began 1) mv_X8_began (fun hj r hr => c_X8_began hj m0 q (24 : Int32) hr) (rcv_obj (q := (RX8, TX8, 37)) kl_0 rfl) rfl rfl (Nat.le_of_ble_eq_true rfl) (Nat.le_of_ble_eq_true rfl) (fun r12 => ?_)
          show K G (mi_X8_markOf 4) (e_X8_markOf m0 q) 53 [(2, .int r11), (0, .ref 0), (1, .int x1)] [] (r12 :: q) _
          refine K_loc [1, 2, 0] (lv' := [(0, .ref 0), (1, .int x1), (2, .int r11)]) rfl ?_
          exact hj15 r12
        · refine K_bipush (v := 22) dX8_markOf_43 (by decide) ?_
          refine K_goto 50 dX8_markOf_45 rfl ?_
          refine K_callV (E' := e_X8_began m0 q) (b := 0) (As := [.int 22]) (rest := []) dX8_markOf_50 ml_X8_336 (mf_X8_began 1) mv_X8_began (fun hj r hr => c_X8_began hj m0 q (22 : Int32) hr) (rcv_obj (q := (RX8, TX8, 37)) kl_0 rfl) rfl rfl (Nat.le_of_ble_eq_true rfl) (Nat.le_of_ble_eq_true rfl) (fun r13 => ?_)
          show K G (mi_X8_markOf 4) (e_X8_markOf m0 q) 53 [(2, .int r11), (0, .ref 0), (1, .int x1)] [] (r13 :: q) _
          refine K_loc [1, 2, 0] (lv' := [(0, .ref 0), (1, .int x1), (2, .int r11)]) rfl ?_
          exact hj15 r13
  · refine K_aload_n 1 dX8_markOf_12 rfl ?_
    refine K_bipush (v := 23) dX8_markOf_13 (by decide) ?_
    refine K_callV (E' := e_X8_began m0 q) (b := 0) (As := [.int 23]) (rest := []) dX8_markOf_15 ml_X8_336 (mf_X8_began 1) mv_X8_began (fun hj r hr => c_X8_began hj m0 q (23 : Int32) hr) (rcv_obj (q := (RX8, TX8, 37)) kl_0 rfl) rfl rfl (Nat.le_of_ble_eq_true rfl) (Nat.le_of_ble_eq_true rfl) (fun r20 => ?_)
    show K G (mi_X8_markOf 4) (e_X8_markOf m0 q) 18 [(2, .int r11), (0, .ref 0), (1, .int x1)] [] (r20 :: q) _
    refine K_aload_n 1 dX8_markOf_18 rfl ?_
    refine K_bipush (v := 20) dX8_markOf_19 (by decide) ?_
    refine K_callV (E' := e_X8_began r20 q) (b := 0) (As := [.int 20]) (rest := []) dX8_markOf_21 ml_X8_336 (mf_X8_began 1) mv_X8_began (fun hj r hr => c_X8_began hj r20 q (20 : Int32) hr) (rcv_obj (q := (RX8, TX8, 37)) kl_0 rfl) rfl rfl (Nat.le_of_ble_eq_true rfl) (Nat.le_of_ble_eq_true rfl) (fun r21 => ?_)
    show K G (mi_X8_markOf 4) (e_X8_markOf m0 q) 24 [(2, .int r11), (0, .ref 0), (1, .int x1)] [] (r21 :: q) _
    refine K_iload_n 2 dX8_markOf_24 rfl ?_
    refine K_aload_n 1 dX8_markOf_25 rfl ?_
    refine K_iload_n 2 dX8_markOf_26 rfl ?_
    refine K_callV (E' := e_X8_sickSize r21 q) (b := 0) (As := [.int x1]) (rest := [.int x1]) dX8_markOf_27 ml_X8_342 (mf_X8_sickSize 3) mv_X8_sickSize (fun hj r hr => c_X8_sickSize hj r21 q x1 hr) (rcv_obj (q := (RX8, TX8, 37)) kl_0 rfl) rfl rfl (Nat.le_of_ble_eq_true rfl) (Nat.le_of_ble_eq_true rfl) (fun r22 => ?_)
    show K G (mi_X8_markOf 4) (e_X8_markOf m0 q) 30 [(2, .int r11), (0, .ref 0), (1, .int x1)] [.int r22.1, .int x1] (r22.2 :: q) _
    refine K_isub dX8_markOf_30 ?_
    exact K_ret (rv := some (.int (x1 - r22.1))) dX8_markOf_31 rfl rfl rfl
theorem c_X8_markOf {G : GE} (hj : dj G) (m0 : Mem) (q : List Mem) (x1 : Int32) {r : Int32 × Mem} (hr : f_X8_markOf m0 x1 = some r) : Ctr G yX8_markOf (mi_X8_markOf 4) [.ref 0, .int x1] (m0 :: q) ((e_X8_markOf m0 q) r).1 ((e_X8_markOf m0 q) r).2 := Ctr_of hj (by decide) rfl hr rfl (Nat.le_of_ble_eq_true rfl) (k_X8_markOf m0 q x1)
abbrev e_X8_sizeOf (m0 : Mem) (q : List Mem) : (Int32 × Mem) → Option Value × List Mem := fun r => (some (.int r.1), (r.2 :: q))
theorem k_X8_sizeOf {G : GE} (m0 : Mem) (q : List Mem) (x1 : Int32) : K G (mi_X8_sizeOf 5) (e_X8_sizeOf m0 q) 0 [(0, .ref 0), (1, .int x1)] [] (m0 :: q) (f_X8_sizeOf m0 x1) := by
  unfold f_X8_sizeOf
  refine K_aload_n 0 dX8_sizeOf_0 rfl ?_
  refine K_iload_n 1 dX8_sizeOf_1 rfl ?_
  refine K_iconst (v := 0) dX8_sizeOf_2 (by decide) ?_
  refine K_callV (E' := e_X8_of m0 q) (b := 0) (As := [.int x1, .int 0]) (rest := []) dX8_sizeOf_3 ml_X8_237 (mf_X8_of 1) mv_X8_of (fun hj r hr => c_X8_of hj m0 q x1 (0 : Int32) hr) (rcv_obj (q := (RX8, TX8, 37)) kl_0 rfl) rfl rfl (Nat.le_of_ble_eq_true rfl) (Nat.le_of_ble_eq_true rfl) (fun r11 => ?_)
  show K G (mi_X8_sizeOf 5) (e_X8_sizeOf m0 q) 6 [(0, .ref 0), (1, .int x1)] [.int r11] (m0 :: q) _
  refine K_istore_n (lv' := [(2, .int r11), (0, .ref 0), (1, .int x1)]) dX8_sizeOf_6 (by decide) rfl ?_
  refine K_iload_n 0 dX8_sizeOf_7 rfl ?_
  refine K_iconst (v := 4) dX8_sizeOf_8 (by decide) ?_
  refine K_icmp_lt 18 dX8_sizeOf_9 rfl (fun _ => ?_) (fun _ => ?_)
  · refine K_iload_n 0 dX8_sizeOf_18 rfl ?_
    refine K_iconst (v := 3) dX8_sizeOf_19 (by decide) ?_
    refine K_jn (fun j14 => ∀ a13 : Mem, K G (mi_X8_sizeOf 5) (e_X8_sizeOf m0 q) 29 [(0, .ref 0), (1, .int x1), (2, .int r11)] [] (a13 :: q) (j14 a13)) (fun a13 => ?_) (fun j14 hj14 => ?_)
    · refine K_aload_n 0 dX8_sizeOf_29 rfl ?_
      refine K_bipush (v := 11) dX8_sizeOf_30 (by decide) ?_
      refine K_callV (E' := e_X8_began a13 q) (b := 0) (As := [.int 11]) (rest := []) dX8_sizeOf_32 ml_X8_336 (mf_X8_began 1) mv_X8_began (fun hj r hr => c_X8_began hj a13 q (11 : Int32) hr) (rcv_obj (q := (RX8, TX8, 37)) kl_0 rfl) rfl rfl (Nat.le_of_ble_eq_true rfl) (Nat.le_of_ble_eq_true rfl) (fun r15 => ?_)
      show K G (mi_X8_sizeOf 5) (e_X8_sizeOf m0 q) 35 [(0, .ref 0), (1, .int x1), (2, .int r11)] [] (r15 :: q) _
      refine K_aload_n 0 dX8_sizeOf_35 rfl ?_
      refine K_iload_n 1 dX8_sizeOf_36 rfl ?_
      refine K_callV (E' := e_X8_plainSize r15 q) (b := 0) (As := [.int x1]) (rest := []) dX8_sizeOf_37 ml_X8_339 (mf_X8_plainSize 2) mv_X8_plainSize (fun hj r hr => c_X8_plainSize hj r15 q x1 hr) (rcv_obj (q := (RX8, TX8, 37)) kl_0 rfl) rfl rfl (Nat.le_of_ble_eq_true rfl) (Nat.le_of_ble_eq_true rfl) (fun r16 => ?_)
      show K G (mi_X8_sizeOf 5) (e_X8_sizeOf m0 q) 40 [(0, .ref 0), (1, .int x1), (2, .int r11)] [.int r16.1] (r16.2 :: q) _
      refine K_nmi (fun x17 => ?_)
      refine K_istore_n (lv' := [(3, .int x17), (0, .ref 0), (1, .int x1), (2, .int r11)]) dX8_sizeOf_40 (by decide) rfl ?_
      refine K_iload_n 0 dX8_sizeOf_41 rfl ?_
      refine K_aload_n 1 dX8_sizeOf_42 rfl ?_
      refine K_iload_n 2 dX8_sizeOf_43 rfl ?_
      refine K_callV (E' := e_X8_markOf r16.2 q) (b := 0) (As := [.int x1]) (rest := [.int x17]) dX8_sizeOf_44 ml_X8_345 (mf_X8_markOf 4) mv_X8_markOf (fun hj r hr => c_X8_markOf hj r16.2 q x1 hr) (rcv_obj (q := (RX8, TX8, 37)) kl_0 rfl) rfl rfl (Nat.le_of_ble_eq_true rfl) (Nat.le_of_ble_eq_true rfl) (fun r18 => ?_)
      show K G (mi_X8_sizeOf 5) (e_X8_sizeOf m0 q) 47 [(3, .int x17), (0, .ref 0), (1, .int x1), (2, .int r11)] [.int r18.1, .int x17] (r18.2 :: q) _
      refine K_iadd dX8_sizeOf_47 ?_
      refine K_nmi (fun x19 => ?_)
      refine K_istore_n (lv' := [(3, .int x19), (0, .ref 0), (1, .int x1), (2, .int r11)]) dX8_sizeOf_48 (by decide) rfl ?_
      refine K_iload_n 3 dX8_sizeOf_49 rfl ?_
      refine K_iconst (v := 3) dX8_sizeOf_50 (by decide) ?_
      refine K_icmp_ne 59 dX8_sizeOf_51 rfl (fun _ => ?_) (fun _ => ?_)
      · refine K_iload_n 0 dX8_sizeOf_59 rfl ?_
        exact K_ret (rv := some (.int x19)) dX8_sizeOf_60 rfl rfl rfl
      · refine K_iload_n 0 dX8_sizeOf_54 rfl ?_
        refine K_ineg dX8_sizeOf_55 ?_
        refine K_goto 60 dX8_sizeOf_56 rfl ?_
        exact K_ret (rv := some (.int (-x19))) dX8_sizeOf_60 rfl rfl rfl
    · refine K_icmp_ne 29 dX8_sizeOf_20 rfl (fun _ => ?_) (fun _ => ?_)
      · refine K_loc [1, 2, 0] (lv' := [(0, .ref 0), (1, .int x1), (2, .int r11)]) rfl ?_
        exact hj14 m0
      · refine K_aload_n 1 dX8_sizeOf_23 rfl ?_
        refine K_bipush (v := 12) dX8_sizeOf_24 (by decide) ?_
        refine K_callV (E' := e_X8_began m0 q) (b := 0) (As := [.int 12]) (rest := []) dX8_sizeOf_26 ml_X8_336 (mf_X8_began 1) mv_X8_began (fun hj r hr => c_X8_began hj m0 q (12 : Int32) hr) (rcv_obj (q := (RX8, TX8, 37)) kl_0 rfl) rfl rfl (Nat.le_of_ble_eq_true rfl) (Nat.le_of_ble_eq_true rfl) (fun r12 => ?_)
        show K G (mi_X8_sizeOf 5) (e_X8_sizeOf m0 q) 29 [(2, .int r11), (0, .ref 0), (1, .int x1)] [] (r12 :: q) _
        refine K_loc [1, 2, 0] (lv' := [(0, .ref 0), (1, .int x1), (2, .int r11)]) rfl ?_
        exact hj14 r12
  · refine K_aload_n 1 dX8_sizeOf_12 rfl ?_
    refine K_iload_n 2 dX8_sizeOf_13 rfl ?_
    refine K_callV (E' := e_X8_sickSize m0 q) (b := 0) (As := [.int x1]) (rest := []) dX8_sizeOf_14 ml_X8_342 (mf_X8_sickSize 3) mv_X8_sickSize (fun hj r hr => c_X8_sickSize hj m0 q x1 hr) (rcv_obj (q := (RX8, TX8, 37)) kl_0 rfl) rfl rfl (Nat.le_of_ble_eq_true rfl) (Nat.le_of_ble_eq_true rfl) (fun r20 => ?_)
    show K G (mi_X8_sizeOf 5) (e_X8_sizeOf m0 q) 17 [(2, .int r11), (0, .ref 0), (1, .int x1)] [.int r20.1] (r20.2 :: q) _
    exact K_ret (rv := some (.int r20.1)) dX8_sizeOf_17 rfl rfl rfl
theorem c_X8_sizeOf {G : GE} (hj : dj G) (m0 : Mem) (q : List Mem) (x1 : Int32) {r : Int32 × Mem} (hr : f_X8_sizeOf m0 x1 = some r) : Ctr G yX8_sizeOf (mi_X8_sizeOf 5) [.ref 0, .int x1] (m0 :: q) ((e_X8_sizeOf m0 q) r).1 ((e_X8_sizeOf m0 q) r).2 := Ctr_of hj (by decide) rfl hr rfl (Nat.le_of_ble_eq_true rfl) (k_X8_sizeOf m0 q x1)
