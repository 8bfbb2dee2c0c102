abbrev e_X8_next (m0 : Mem) (q : List Mem) : Mem → Option Value × List Mem := fun r => (none, (r :: q))
theorem k_X8_next_L0 {G : GE} (m0 : Mem) (q : List Mem) (k : Mem → Option (Mem)) (hk : ∀ (w11 : Mem), K G (mi_X8_next 2) (e_X8_next m0 q) 39 [(0, .ref 0)] [] (w11 :: q) (k w11)) : ∀ (t : Nat) (w11 : Mem), K G (mi_X8_next 2) (e_X8_next m0 q) 0 [(0, .ref 0)] [] (w11 :: q) (f_X8_next_L0 k t w11) := by
  intro t
  induction t with
  | zero => intro w11; exact K_none
  | succ t ih =>
    intro w11
    rw [f_X8_next_L0]
    refine K_aload_n 0 dX8_next_0 rfl ?_
    refine K_aload_n 0 dX8_next_1 rfl ?_
    refine K_get (v := .int (w11 0 15)) dX8_next_2 fl_X8_105 kl_0 rfl rfl ?_
    refine K_callV (E' := e_X8_byteAt w11 q) (b := 0) (As := [.int (w11 0 15)]) (rest := []) dX8_next_5 ml_X8_108 (mf_X8_byteAt 1) mv_X8_byteAt (fun hj r hr => c_X8_byteAt hj w11 q (w11 0 15) hr) (rcv_obj (q := (RX8, TX8, 37)) kl_0 rfl) rfl rfl (Nat.le_of_ble_eq_true rfl) (Nat.le_of_ble_eq_true rfl) (fun r12 => ?_)
    show K G (mi_X8_next 2) (e_X8_next m0 q) 8 [(0, .ref 0)] [.int r12] (w11 :: q) _
    refine K_bipush (v := 32) dX8_next_8 (by decide) ?_
    refine K_icmp_eq 26 dX8_next_10 rfl (fun _ => ?_) (fun _ => ?_)
    · refine K_aload_n 0 dX8_next_26 rfl ?_
      refine K_dup dX8_next_27 rfl ?_
      refine K_get (v := .int (w11 0 15)) dX8_next_28 fl_X8_105 kl_0 rfl rfl ?_
      refine K_iconst (v := 1) dX8_next_31 (by decide) ?_
      refine K_iadd dX8_next_32 ?_
      refine K_put (Ms' := ((up w11 0 15 ((w11 0 15) + 1)) :: q)) dX8_next_33 fp_X8_105 kl_0 rfl rfl rfl (Nat.succ_pos _) rfl ?_
      refine K_nmm (fun w => (w :: q)) rfl (fun w14 => ?_)
      refine K_goto 0 dX8_next_36 rfl ?_
      refine K_loc [0] (lv' := [(0, .ref 0)]) rfl ?_
      exact ih w14
    · refine K_aload_n 0 dX8_next_13 rfl ?_
      refine K_aload_n 0 dX8_next_14 rfl ?_
      refine K_get (v := .int (w11 0 15)) dX8_next_15 fl_X8_105 kl_0 rfl rfl ?_
      refine K_callV (E' := e_X8_byteAt w11 q) (b := 0) (As := [.int (w11 0 15)]) (rest := []) dX8_next_18 ml_X8_108 (mf_X8_byteAt 1) mv_X8_byteAt (fun hj r hr => c_X8_byteAt hj w11 q (w11 0 15) hr) (rcv_obj (q := (RX8, TX8, 37)) kl_0 rfl) rfl rfl (Nat.le_of_ble_eq_true rfl) (Nat.le_of_ble_eq_true rfl) (fun r15 => ?_)
      show K G (mi_X8_next 2) (e_X8_next m0 q) 21 [(0, .ref 0)] [.int r15] (w11 :: q) _
      refine K_bipush (v := 10) dX8_next_21 (by decide) ?_
      refine K_icmp_ne 39 dX8_next_23 rfl (fun _ => ?_) (fun _ => ?_)
      · refine K_loc [0] (lv' := [(0, .ref 0)]) rfl ?_
        exact hk w11
      · refine K_aload_n 0 dX8_next_26 rfl ?_
        refine K_dup dX8_next_27 rfl ?_
        refine K_get (v := .int (w11 0 15)) dX8_next_28 fl_X8_105 kl_0 rfl rfl ?_
        refine K_iconst (v := 1) dX8_next_31 (by decide) ?_
        refine K_iadd dX8_next_32 ?_
        refine K_put (Ms' := ((up w11 0 15 ((w11 0 15) + 1)) :: q)) dX8_next_33 fp_X8_105 kl_0 rfl rfl rfl (Nat.succ_pos _) rfl ?_
        refine K_nmm (fun w => (w :: q)) rfl (fun w16 => ?_)
        refine K_goto 0 dX8_next_36 rfl ?_
        refine K_loc [0] (lv' := [(0, .ref 0)]) rfl ?_
        exact ih w16
theorem k_X8_next_L119 {G : GE} (m0 : Mem) (q : List Mem) (k : Mem → Option (Mem)) (hk : ∀ (w27 : Mem), K G (mi_X8_next 2) (e_X8_next m0 q) 146 [(0, .ref 0)] [] (w27 :: q) (k w27)) : ∀ (t : Nat) (w27 : Mem), K G (mi_X8_next 2) (e_X8_next m0 q) 119 [(0, .ref 0)] [] (w27 :: q) (f_X8_next_L119 k t w27) := by
  intro t
  induction t with
  | zero => intro w27; exact K_none
  | succ t ih =>
    intro w27
    rw [f_X8_next_L119]
    refine K_aload_n 0 dX8_next_119 rfl ?_
    refine K_aload_n 0 dX8_next_120 rfl ?_
    refine K_get (v := .int (w27 0 15)) dX8_next_121 fl_X8_105 kl_0 rfl rfl ?_
    refine K_callV (E' := e_X8_byteAt w27 q) (b := 0) (As := [.int (w27 0 15)]) (rest := []) dX8_next_124 ml_X8_108 (mf_X8_byteAt 1) mv_X8_byteAt (fun hj r hr => c_X8_byteAt hj w27 q (w27 0 15) hr) (rcv_obj (q := (RX8, TX8, 37)) kl_0 rfl) rfl rfl (Nat.le_of_ble_eq_true rfl) (Nat.le_of_ble_eq_true rfl) (fun r28 => ?_)
    show K G (mi_X8_next 2) (e_X8_next m0 q) 127 [(0, .ref 0)] [.int r28] (w27 :: q) _
    refine K_callS (E' := e_X8_isFigure (w27 :: q)) (As := [.int r28]) (rest := []) dX8_next_127 ml_X8_120 (mf_X8_isFigure 1) ms_X8_isFigure (fun hj r hr => c_X8_isFigure hj (w27 :: q) r28 hr) rfl rfl (Nat.le_of_ble_eq_true rfl) (Nat.le_of_ble_eq_true rfl) (fun r29 => ?_)
    show K G (mi_X8_next 2) (e_X8_next m0 q) 130 [(0, .ref 0)] [.int r29] (w27 :: q) _
    refine K_if_eq 146 dX8_next_130 rfl (fun _ => ?_) (fun _ => ?_)
    · refine K_loc [0] (lv' := [(0, .ref 0)]) rfl ?_
      exact hk w27
    · refine K_aload_n 0 dX8_next_133 rfl ?_
      refine K_dup dX8_next_134 rfl ?_
      refine K_get (v := .int (w27 0 15)) dX8_next_135 fl_X8_105 kl_0 rfl rfl ?_
      refine K_iconst (v := 1) dX8_next_138 (by decide) ?_
      refine K_iadd dX8_next_139 ?_
      refine K_put (Ms' := ((up w27 0 15 ((w27 0 15) + 1)) :: q)) dX8_next_140 fp_X8_105 kl_0 rfl rfl rfl (Nat.succ_pos _) rfl ?_
      refine K_nmm (fun w => (w :: q)) rfl (fun w30 => ?_)
      refine K_goto 119 dX8_next_143 rfl ?_
      refine K_loc [0] (lv' := [(0, .ref 0)]) rfl ?_
      exact ih w30
theorem k_X8_next_L77 {G : GE} (m0 : Mem) (q : List Mem) (k : Mem → Option (Mem)) (hk : ∀ (w36 : Mem), K G (mi_X8_next 2) (e_X8_next m0 q) 104 [(0, .ref 0)] [] (w36 :: q) (k w36)) : ∀ (t : Nat) (w36 : Mem), K G (mi_X8_next 2) (e_X8_next m0 q) 77 [(0, .ref 0)] [] (w36 :: q) (f_X8_next_L77 k t w36) := by
  intro t
  induction t with
  | zero => intro w36; exact K_none
  | succ t ih =>
    intro w36
    rw [f_X8_next_L77]
    refine K_aload_n 0 dX8_next_77 rfl ?_
    refine K_aload_n 0 dX8_next_78 rfl ?_
    refine K_get (v := .int (w36 0 15)) dX8_next_79 fl_X8_105 kl_0 rfl rfl ?_
    refine K_callV (E' := e_X8_byteAt w36 q) (b := 0) (As := [.int (w36 0 15)]) (rest := []) dX8_next_82 ml_X8_108 (mf_X8_byteAt 1) mv_X8_byteAt (fun hj r hr => c_X8_byteAt hj w36 q (w36 0 15) hr) (rcv_obj (q := (RX8, TX8, 37)) kl_0 rfl) rfl rfl (Nat.le_of_ble_eq_true rfl) (Nat.le_of_ble_eq_true rfl) (fun r37 => ?_)
    show K G (mi_X8_next 2) (e_X8_next m0 q) 85 [(0, .ref 0)] [.int r37] (w36 :: q) _
    refine K_callS (E' := e_X8_isLetter (w36 :: q)) (As := [.int r37]) (rest := []) dX8_next_85 ml_X8_117 (mf_X8_isLetter 1) ms_X8_isLetter (fun hj r hr => c_X8_isLetter hj (w36 :: q) r37 hr) rfl rfl (Nat.le_of_ble_eq_true rfl) (Nat.le_of_ble_eq_true rfl) (fun r38 => ?_)
    show K G (mi_X8_next 2) (e_X8_next m0 q) 88 [(0, .ref 0)] [.int r38] (w36 :: q) _
    refine K_if_eq 104 dX8_next_88 rfl (fun _ => ?_) (fun _ => ?_)
    · refine K_loc [0] (lv' := [(0, .ref 0)]) rfl ?_
      exact hk w36
    · refine K_aload_n 0 dX8_next_91 rfl ?_
      refine K_dup dX8_next_92 rfl ?_
      refine K_get (v := .int (w36 0 15)) dX8_next_93 fl_X8_105 kl_0 rfl rfl ?_
      refine K_iconst (v := 1) dX8_next_96 (by decide) ?_
      refine K_iadd dX8_next_97 ?_
      refine K_put (Ms' := ((up w36 0 15 ((w36 0 15) + 1)) :: q)) dX8_next_98 fp_X8_105 kl_0 rfl rfl rfl (Nat.succ_pos _) rfl ?_
      refine K_nmm (fun w => (w :: q)) rfl (fun w39 => ?_)
      refine K_goto 77 dX8_next_101 rfl ?_
      refine K_loc [0] (lv' := [(0, .ref 0)]) rfl ?_
      exact ih w39
theorem k_X8_next {G : GE} (m0 : Mem) (q : List Mem)  : K G (mi_X8_next 2) (e_X8_next m0 q) 0 [(0, .ref 0)] [] (m0 :: q) (f_X8_next m0) := by
  unfold f_X8_next
  refine K_loc [0] (lv' := [(0, .ref 0)]) rfl ?_
  refine k_X8_next_L0  m0 q  _ (fun w17 => ?_) 100000 m0
  refine K_aload_n 0 dX8_next_39 rfl ?_
  refine K_aload_n 0 dX8_next_40 rfl ?_
  refine K_get (v := .int (w17 0 15)) dX8_next_41 fl_X8_105 kl_0 rfl rfl ?_
  refine K_put (Ms' := ((up w17 0 17 (w17 0 15)) :: q)) dX8_next_44 fp_X8_111 kl_0 rfl rfl rfl (Nat.succ_pos _) rfl ?_
  refine K_nmm (fun w => (w :: q)) rfl (fun w18 => ?_)
  refine K_aload_n 0 dX8_next_47 rfl ?_
  refine K_aload_n 0 dX8_next_48 rfl ?_
  refine K_get (v := .int (w18 0 15)) dX8_next_49 fl_X8_105 kl_0 rfl rfl ?_
  refine K_callV (E' := e_X8_byteAt w18 q) (b := 0) (As := [.int (w18 0 15)]) (rest := []) dX8_next_52 ml_X8_108 (mf_X8_byteAt 1) mv_X8_byteAt (fun hj r hr => c_X8_byteAt hj w18 q (w18 0 15) hr) (rcv_obj (q := (RX8, TX8, 37)) kl_0 rfl) rfl rfl (Nat.le_of_ble_eq_true rfl) (Nat.le_of_ble_eq_true rfl) (fun r19 => ?_)
  show K G (mi_X8_next 2) (e_X8_next m0 q) 55 [(0, .ref 0)] [.int r19] (w18 :: q) _
  refine K_istore_n (lv' := [(1, .int r19), (0, .ref 0)]) dX8_next_55 (by decide) rfl ?_
  refine K_iload_n 0 dX8_next_56 rfl ?_
  refine K_ldc (v := (-1000000)) dX8_next_57 cst_X8_104 ?_
  refine K_icmp_ne 70 dX8_next_59 rfl (fun _ => ?_) (fun _ => ?_)
  · refine K_iload_n 0 dX8_next_70 rfl ?_
    refine K_callS (E' := e_X8_isLetter (w18 :: q)) (As := [.int r19]) (rest := []) dX8_next_71 ml_X8_117 (mf_X8_isLetter 1) ms_X8_isLetter (fun hj r hr => c_X8_isLetter hj (w18 :: q) r19 hr) rfl rfl (Nat.le_of_ble_eq_true rfl) (Nat.le_of_ble_eq_true rfl) (fun r20 => ?_)
    show K G (mi_X8_next 2) (e_X8_next m0 q) 74 [(1, .int r19), (0, .ref 0)] [.int r20] (w18 :: q) _
    refine K_if_eq 112 dX8_next_74 rfl (fun _ => ?_) (fun _ => ?_)
    · refine K_iload_n 0 dX8_next_112 rfl ?_
      refine K_callS (E' := e_X8_isFigure (w18 :: q)) (As := [.int r19]) (rest := []) dX8_next_113 ml_X8_120 (mf_X8_isFigure 1) ms_X8_isFigure (fun hj r hr => c_X8_isFigure hj (w18 :: q) r19 hr) rfl rfl (Nat.le_of_ble_eq_true rfl) (Nat.le_of_ble_eq_true rfl) (fun r21 => ?_)
      show K G (mi_X8_next 2) (e_X8_next m0 q) 116 [(1, .int r19), (0, .ref 0)] [.int r21] (w18 :: q) _
      refine K_if_eq 171 dX8_next_116 rfl (fun _ => ?_) (fun _ => ?_)
      · refine K_aload_n 1 dX8_next_171 rfl ?_
        refine K_dup dX8_next_172 rfl ?_
        refine K_get (v := .int (w18 0 15)) dX8_next_173 fl_X8_105 kl_0 rfl rfl ?_
        refine K_iconst (v := 1) dX8_next_176 (by decide) ?_
        refine K_iadd dX8_next_177 ?_
        refine K_put (Ms' := ((up w18 0 15 ((w18 0 15) + 1)) :: q)) dX8_next_178 fp_X8_105 kl_0 rfl rfl rfl (Nat.succ_pos _) rfl ?_
        refine K_nmm (fun w => (w :: q)) rfl (fun w22 => ?_)
        refine K_aload_n 1 dX8_next_181 rfl ?_
        refine K_iload_n 0 dX8_next_182 rfl ?_
        refine K_bipush (v := 59) dX8_next_183 (by decide) ?_
        refine K_icmp_ne 192 dX8_next_185 rfl (fun _ => ?_) (fun _ => ?_)
        · refine K_iconst (v := 0) dX8_next_192 (by decide) ?_
          refine K_put (Ms' := ((up w22 0 16 0) :: q)) dX8_next_193 fp_X8_114 kl_0 rfl rfl rfl (Nat.succ_pos _) rfl ?_
          refine K_nmm (fun w => (w :: q)) rfl (fun w23 => ?_)
          refine K_aload_n 1 dX8_next_196 rfl ?_
          refine K_aload_n 1 dX8_next_197 rfl ?_
          refine K_get (v := .int (w23 0 15)) dX8_next_198 fl_X8_105 kl_0 rfl rfl ?_
          refine K_put (Ms' := ((up w23 0 18 (w23 0 15)) :: q)) dX8_next_201 fp_X8_123 kl_0 rfl rfl rfl (Nat.succ_pos _) rfl ?_
          refine K_nmm (fun w => (w :: q)) rfl (fun w24 => ?_)
          exact K_ret (rv := none) dX8_next_204 trivial rfl rfl
        · refine K_iconst (v := 4) dX8_next_188 (by decide) ?_
          refine K_goto 193 dX8_next_189 rfl ?_
          refine K_put (Ms' := ((up w22 0 16 4) :: q)) dX8_next_193 fp_X8_114 kl_0 rfl rfl rfl (Nat.succ_pos _) rfl ?_
          refine K_nmm (fun w => (w :: q)) rfl (fun w25 => ?_)
          refine K_aload_n 1 dX8_next_196 rfl ?_
          refine K_aload_n 1 dX8_next_197 rfl ?_
          refine K_get (v := .int (w25 0 15)) dX8_next_198 fl_X8_105 kl_0 rfl rfl ?_
          refine K_put (Ms' := ((up w25 0 18 (w25 0 15)) :: q)) dX8_next_201 fp_X8_123 kl_0 rfl rfl rfl (Nat.succ_pos _) rfl ?_
          refine K_nmm (fun w => (w :: q)) rfl (fun w26 => ?_)
          exact K_ret (rv := none) dX8_next_204 trivial rfl rfl
      · refine K_loc [1] (lv' := [(0, .ref 0)]) rfl ?_
        refine k_X8_next_L119  m0 q  _ (fun w31 => ?_) 100000 w18
        refine K_aload_n 0 dX8_next_146 rfl ?_
        refine K_aload_n 0 dX8_next_147 rfl ?_
        refine K_get (v := .int (w31 0 15)) dX8_next_148 fl_X8_105 kl_0 rfl rfl ?_
        refine K_aload_n 0 dX8_next_151 rfl ?_
        refine K_get (v := .int (w31 0 17)) dX8_next_152 fl_X8_111 kl_0 rfl rfl ?_
        refine K_isub dX8_next_155 ?_
        refine K_iconst (v := 3) dX8_next_156 (by decide) ?_
        refine K_icmp_le 164 dX8_next_157 rfl (fun _ => ?_) (fun _ => ?_)
        · refine K_iconst (v := 3) dX8_next_164 (by decide) ?_
          refine K_put (Ms' := ((up w31 0 16 3) :: q)) dX8_next_165 fp_X8_114 kl_0 rfl rfl rfl (Nat.succ_pos _) rfl ?_
          refine K_nmm (fun w => (w :: q)) rfl (fun w32 => ?_)
          refine K_goto 196 dX8_next_168 rfl ?_
          refine K_aload_n 0 dX8_next_196 rfl ?_
          refine K_aload_n 0 dX8_next_197 rfl ?_
          refine K_get (v := .int (w32 0 15)) dX8_next_198 fl_X8_105 kl_0 rfl rfl ?_
          refine K_put (Ms' := ((up w32 0 18 (w32 0 15)) :: q)) dX8_next_201 fp_X8_123 kl_0 rfl rfl rfl (Nat.succ_pos _) rfl ?_
          refine K_nmm (fun w => (w :: q)) rfl (fun w33 => ?_)
          exact K_ret (rv := none) dX8_next_204 trivial rfl rfl
        · refine K_iconst (v := 0) dX8_next_160 (by decide) ?_
          refine K_goto 165 dX8_next_161 rfl ?_
          refine K_put (Ms' := ((up w31 0 16 0) :: q)) dX8_next_165 fp_X8_114 kl_0 rfl rfl rfl (Nat.succ_pos _) rfl ?_
          refine K_nmm (fun w => (w :: q)) rfl (fun w34 => ?_)
          refine K_goto 196 dX8_next_168 rfl ?_
          refine K_aload_n 0 dX8_next_196 rfl ?_
          refine K_aload_n 0 dX8_next_197 rfl ?_
          refine K_get (v := .int (w34 0 15)) dX8_next_198 fl_X8_105 kl_0 rfl rfl ?_
          refine K_put (Ms' := ((up w34 0 18 (w34 0 15)) :: q)) dX8_next_201 fp_X8_123 kl_0 rfl rfl rfl (Nat.succ_pos _) rfl ?_
          refine K_nmm (fun w => (w :: q)) rfl (fun w35 => ?_)
          exact K_ret (rv := none) dX8_next_204 trivial rfl rfl
    · refine K_loc [1] (lv' := [(0, .ref 0)]) rfl ?_
      refine k_X8_next_L77  m0 q  _ (fun w40 => ?_) 100000 w18
      refine K_aload_n 0 dX8_next_104 rfl ?_
      refine K_iconst (v := 2) dX8_next_105 (by decide) ?_
      refine K_put (Ms' := ((up w40 0 16 2) :: q)) dX8_next_106 fp_X8_114 kl_0 rfl rfl rfl (Nat.succ_pos _) rfl ?_
      refine K_nmm (fun w => (w :: q)) rfl (fun w41 => ?_)
      refine K_goto 196 dX8_next_109 rfl ?_
      refine K_aload_n 0 dX8_next_196 rfl ?_
      refine K_aload_n 0 dX8_next_197 rfl ?_
      refine K_get (v := .int (w41 0 15)) dX8_next_198 fl_X8_105 kl_0 rfl rfl ?_
      refine K_put (Ms' := ((up w41 0 18 (w41 0 15)) :: q)) dX8_next_201 fp_X8_123 kl_0 rfl rfl rfl (Nat.succ_pos _) rfl ?_
      refine K_nmm (fun w => (w :: q)) rfl (fun w42 => ?_)
      exact K_ret (rv := none) dX8_next_204 trivial rfl rfl
  · refine K_aload_n 1 dX8_next_62 rfl ?_
    refine K_iconst (v := 1) dX8_next_63 (by decide) ?_
    refine K_put (Ms' := ((up w18 0 16 1) :: q)) dX8_next_64 fp_X8_114 kl_0 rfl rfl rfl (Nat.succ_pos _) rfl ?_
    refine K_nmm (fun w => (w :: q)) rfl (fun w43 => ?_)
    refine K_goto 196 dX8_next_67 rfl ?_
    refine K_aload_n 1 dX8_next_196 rfl ?_
    refine K_aload_n 1 dX8_next_197 rfl ?_
    refine K_get (v := .int (w43 0 15)) dX8_next_198 fl_X8_105 kl_0 rfl rfl ?_
    refine K_put (Ms' := ((up w43 0 18 (w43 0 15)) :: q)) dX8_next_201 fp_X8_123 kl_0 rfl rfl rfl (Nat.succ_pos _) rfl ?_
    refine K_nmm (fun w => (w :: q)) rfl (fun w44 => ?_)
    exact K_ret (rv := none) dX8_next_204 trivial rfl rfl
theorem c_X8_next {G : GE} (hj : dj G) (m0 : Mem) (q : List Mem)  {r : Mem} (hr : f_X8_next m0 = some r) : Ctr G yX8_next (mi_X8_next 2) [.ref 0] (m0 :: q) ((e_X8_next m0 q) r).1 ((e_X8_next m0 q) r).2 := Ctr_of hj (by decide) rfl hr rfl (Nat.le_of_ble_eq_true rfl) (k_X8_next m0 q )
abbrev e_X8_begin (m0 : Mem) (q : List Mem) : Mem → Option Value × List Mem := fun r => (none, (r :: q))
theorem k_X8_begin {G : GE} (m0 : Mem) (q : List Mem)  : K G (mi_X8_begin 3) (e_X8_begin m0 q) 0 [(0, .ref 0)] [] (m0 :: q) (f_X8_begin m0) := by
  unfold f_X8_begin
  refine K_aload_n 0 dX8_begin_0 rfl ?_
  refine K_aload_n 0 dX8_begin_1 rfl ?_
  refine K_get (v := .int (m0 0 12)) dX8_begin_2 fl_X8_95 kl_0 rfl rfl ?_
  refine K_put (Ms' := ((up m0 0 14 (m0 0 12)) :: q)) dX8_begin_5 fp_X8_101 kl_0 rfl rfl rfl (Nat.succ_pos _) rfl ?_
  refine K_nmm (fun w => (w :: q)) rfl (fun w11 => ?_)
  refine K_aload_n 0 dX8_begin_8 rfl ?_
  refine K_iconst (v := 0) dX8_begin_9 (by decide) ?_
  refine K_put (Ms' := ((up w11 0 12 0) :: q)) dX8_begin_10 fp_X8_95 kl_0 rfl rfl rfl (Nat.succ_pos _) rfl ?_
  refine K_nmm (fun w => (w :: q)) rfl (fun w12 => ?_)
  refine K_aload_n 0 dX8_begin_13 rfl ?_
  refine K_iconst (v := 0) dX8_begin_14 (by decide) ?_
  refine K_put (Ms' := ((up w12 0 15 0) :: q)) dX8_begin_15 fp_X8_105 kl_0 rfl rfl rfl (Nat.succ_pos _) rfl ?_
  refine K_nmm (fun w => (w :: q)) rfl (fun w13 => ?_)
  refine K_aload_n 0 dX8_begin_18 rfl ?_
  refine K_iconst (v := 0) dX8_begin_19 (by decide) ?_
  refine K_put (Ms' := ((up w13 0 19 0) :: q)) dX8_begin_20 fp_X8_126 kl_0 rfl rfl rfl (Nat.succ_pos _) rfl ?_
  refine K_nmm (fun w => (w :: q)) rfl (fun w14 => ?_)
  refine K_aload_n 0 dX8_begin_23 rfl ?_
  refine K_callV (E' := e_X8_next w14 q) (b := 0) (As := []) (rest := []) dX8_begin_24 ml_X8_129 (mf_X8_next 2) mv_X8_next (fun hj r hr => c_X8_next hj w14 q  hr) (rcv_obj (q := (RX8, TX8, 37)) kl_0 rfl) rfl rfl (Nat.le_of_ble_eq_true rfl) (Nat.le_of_ble_eq_true rfl) (fun r15 => ?_)
  show K G (mi_X8_begin 3) (e_X8_begin m0 q) 27 [(0, .ref 0)] [] (r15 :: q) _
  exact K_ret (rv := none) dX8_begin_27 trivial rfl rfl
theorem c_X8_begin {G : GE} (hj : dj G) (m0 : Mem) (q : List Mem)  {r : Mem} (hr : f_X8_begin m0 = some r) : Ctr G yX8_begin (mi_X8_begin 3) [.ref 0] (m0 :: q) ((e_X8_begin m0 q) r).1 ((e_X8_begin m0 q) r).2 := Ctr_of hj (by decide) rfl hr rfl (Nat.le_of_ble_eq_true rfl) (k_X8_begin m0 q )
abbrev e_X8_name (m0 : Mem) (q : List Mem) : Int64 → Option Value × List Mem := fun r => (some (.long r), (m0 :: q))
theorem k_X8_name_L7 {G : GE} (m0 : Mem) (q : List Mem) (k : Int64 → Int32 → Option (Int64)) (hk : ∀ (u12 : Int64) (u13 : Int32), K G (mi_X8_name 1) (e_X8_name m0 q) 56 [(0, .ref 0), (1, .long u12), (3, .int u13)] [] (m0 :: q) (k u12 u13)) : ∀ (t : Nat) (u12 : Int64) (u13 : Int32), K G (mi_X8_name 1) (e_X8_name m0 q) 7 [(0, .ref 0), (1, .long u12), (3, .int u13)] [] (m0 :: q) (f_X8_name_L7 k m0 t u12 u13) := by
  intro t
  induction t with
  | zero => intro u12 u13; exact K_none
  | succ t ih =>
    intro u12 u13
    rw [f_X8_name_L7]
    refine K_iload_n 2 dX8_name_7 rfl ?_
    refine K_aload_n 0 dX8_name_8 rfl ?_
    refine K_get (v := .int (m0 0 18)) dX8_name_9 fl_X8_123 kl_0 rfl rfl ?_
    refine K_icmp_ge 56 dX8_name_12 rfl (fun _ => ?_) (fun _ => ?_)
    · refine K_loc [0, 1, 2] (lv' := [(0, .ref 0), (1, .long u12), (3, .int u13)]) rfl ?_
      exact hk u12 u13
    · refine K_aload_n 0 dX8_name_15 rfl ?_
      refine K_get (v := .int (m0 0 16)) dX8_name_16 fl_X8_114 kl_0 rfl rfl ?_
      refine K_iconst (v := 2) dX8_name_19 (by decide) ?_
      refine K_icmp_ne 56 dX8_name_20 rfl (fun _ => ?_) (fun _ => ?_)
      · refine K_loc [0, 1, 2] (lv' := [(0, .ref 0), (1, .long u12), (3, .int u13)]) rfl ?_
        exact hk u12 u13
      · refine K_aload_n 0 dX8_name_23 rfl ?_
        refine K_get (v := .int (m0 0 18)) dX8_name_24 fl_X8_123 kl_0 rfl rfl ?_
        refine K_aload_n 0 dX8_name_27 rfl ?_
        refine K_get (v := .int (m0 0 17)) dX8_name_28 fl_X8_111 kl_0 rfl rfl ?_
        refine K_isub dX8_name_31 ?_
        refine K_bipush (v := 9) dX8_name_32 (by decide) ?_
        refine K_icmp_ge 56 dX8_name_34 rfl (fun _ => ?_) (fun _ => ?_)
        · refine K_loc [0, 1, 2] (lv' := [(0, .ref 0), (1, .long u12), (3, .int u13)]) rfl ?_
          exact hk u12 u13
        · refine K_lload_n 1 dX8_name_37 rfl ?_
          refine K_bipush (v := 8) dX8_name_38 (by decide) ?_
          refine K_lshl dX8_name_40 ?_
          refine K_aload_n 0 dX8_name_41 rfl ?_
          refine K_get (v := .ref 12) dX8_name_42 fl_X8_31 kl_0 rfl rfl ?_
          refine K_iload_n 2 dX8_name_45 rfl ?_
          refine K_iald (f := m0 12) dX8_name_46 kl_12 rfl ?_
          refine K_i2l dX8_name_47 ?_
          refine K_lor dX8_name_48 ?_
          refine K_nml (fun x14 => ?_)
          refine K_lstore_n (lv' := [(1, .long x14), (0, .ref 0), (3, .int u13)]) dX8_name_49 (by decide) rfl ?_
          refine K_iinc 2 (w := u13 + 1) (lv' := [(3, .int (u13 + 1)), (1, .long x14), (0, .ref 0)]) dX8_name_50 rfl rfl (by decide) rfl ?_
          refine K_goto 7 dX8_name_53 rfl ?_
          refine K_loc [2, 1, 0] (lv' := [(0, .ref 0), (1, .long x14), (3, .int (u13 + 1))]) rfl ?_
          exact ih x14 (u13 + 1)
theorem k_X8_name {G : GE} (m0 : Mem) (q : List Mem)  : K G (mi_X8_name 1) (e_X8_name m0 q) 0 [(0, .ref 0)] [] (m0 :: q) (f_X8_name m0) := by
  unfold f_X8_name
  refine K_lconst (v := 0) dX8_name_0 (by decide) ?_
  refine K_lstore_n (lv' := [(1, .long 0), (0, .ref 0)]) dX8_name_1 (by decide) rfl ?_
  refine K_aload_n 1 dX8_name_2 rfl ?_
  refine K_get (v := .int (m0 0 17)) dX8_name_3 fl_X8_111 kl_0 rfl rfl ?_
  refine K_nmi (fun x11 => ?_)
  refine K_istore_n (lv' := [(3, .int x11), (1, .long 0), (0, .ref 0)]) dX8_name_6 (by decide) rfl ?_
  refine K_loc [2, 1, 0] (lv' := [(0, .ref 0), (1, .long 0), (3, .int x11)]) rfl ?_
  refine k_X8_name_L7  m0 q  _ (fun u15 u16 => ?_) 100000 0 x11
  refine K_aload_n 0 dX8_name_56 rfl ?_
  refine K_get (v := .int (m0 0 19)) dX8_name_57 fl_X8_126 kl_0 rfl rfl ?_
  refine K_if_ne 67 dX8_name_60 rfl (fun _ => ?_) (fun _ => ?_)
  · refine K_lconst (v := 0) dX8_name_67 (by decide) ?_
    exact K_ret (rv := some (.long 0)) dX8_name_68 trivial rfl rfl
  · refine K_lload_n 1 dX8_name_63 rfl ?_
    refine K_goto 68 dX8_name_64 rfl ?_
    exact K_ret (rv := some (.long u15)) dX8_name_68 trivial rfl rfl
theorem c_X8_name {G : GE} (hj : dj G) (m0 : Mem) (q : List Mem)  {r : Int64} (hr : f_X8_name m0 = some r) : Ctr G yX8_name (mi_X8_name 1) [.ref 0] (m0 :: q) ((e_X8_name m0 q) r).1 ((e_X8_name m0 q) r).2 := Ctr_of hj (by decide) rfl hr rfl (Nat.le_of_ble_eq_true rfl) (k_X8_name m0 q )
abbrev e_X8_bad (m0 : Mem) (q : List Mem) : Mem → Option Value × List Mem := fun r => (none, (r :: q))
theorem k_X8_bad {G : GE} (m0 : Mem) (q : List Mem) (x1 : Int32) : K G (mi_X8_bad 1) (e_X8_bad m0 q) 0 [(0, .ref 0), (1, .int x1)] [] (m0 :: q) (f_X8_bad m0 x1) := by
  unfold f_X8_bad
  refine K_aload_n 0 dX8_bad_0 rfl ?_
  refine K_get (v := .int (m0 0 19)) dX8_bad_1 fl_X8_126 kl_0 rfl rfl ?_
  refine K_if_ne 20 dX8_bad_4 rfl (fun _ => ?_) (fun _ => ?_)
  · exact K_ret (rv := none) dX8_bad_20 trivial rfl rfl
  · refine K_aload_n 0 dX8_bad_7 rfl ?_
    refine K_iload_n 1 dX8_bad_8 rfl ?_
    refine K_put (Ms' := ((up m0 0 19 x1) :: q)) dX8_bad_9 fp_X8_126 kl_0 rfl rfl rfl (Nat.succ_pos _) rfl ?_
    refine K_nmm (fun w => (w :: q)) rfl (fun w11 => ?_)
    refine K_aload_n 0 dX8_bad_12 rfl ?_
    refine K_aload_n 0 dX8_bad_13 rfl ?_
    refine K_get (v := .int (w11 0 17)) dX8_bad_14 fl_X8_111 kl_0 rfl rfl ?_
    refine K_put (Ms' := ((up w11 0 20 (w11 0 17)) :: q)) dX8_bad_17 fp_X8_132 kl_0 rfl rfl rfl (Nat.succ_pos _) rfl ?_
    refine K_nmm (fun w => (w :: q)) rfl (fun w12 => ?_)
    exact K_ret (rv := none) dX8_bad_20 trivial rfl rfl
theorem c_X8_bad {G : GE} (hj : dj G) (m0 : Mem) (q : List Mem) (x1 : Int32) {r : Mem} (hr : f_X8_bad m0 x1 = some r) : Ctr G yX8_bad (mi_X8_bad 1) [.ref 0, .int x1] (m0 :: q) ((e_X8_bad m0 q) r).1 ((e_X8_bad m0 q) r).2 := Ctr_of hj (by decide) rfl hr rfl (Nat.le_of_ble_eq_true rfl) (k_X8_bad m0 q x1)
abbrev e_X8_must (m0 : Mem) (q : List Mem) : Mem → Option Value × List Mem := fun r => (none, (r :: q))
theorem k_X8_must {G : GE} (m0 : Mem) (q : List Mem) (x1 : Int32) : K G (mi_X8_must 3) (e_X8_must m0 q) 0 [(0, .ref 0), (1, .int x1)] [] (m0 :: q) (f_X8_must m0 x1) := by
  unfold f_X8_must
  refine K_iload_n 1 dX8_must_0 rfl ?_
  refine K_jn (fun j13 => ∀ a12 : Mem, K G (mi_X8_must 3) (e_X8_must m0 q) 9 [(0, .ref 0)] [] (a12 :: q) (j13 a12)) (fun a12 => ?_) (fun j13 hj13 => ?_)
  · refine K_aload_n 0 dX8_must_9 rfl ?_
    refine K_get (v := .int (a12 0 19)) dX8_must_10 fl_X8_126 kl_0 rfl rfl ?_
    refine K_if_ne 20 dX8_must_13 rfl (fun _ => ?_) (fun _ => ?_)
    · exact K_ret (rv := none) dX8_must_20 trivial rfl rfl
    · refine K_aload_n 0 dX8_must_16 rfl ?_
      refine K_callV (E' := e_X8_next a12 q) (b := 0) (As := []) (rest := []) dX8_must_17 ml_X8_129 (mf_X8_next 2) mv_X8_next (fun hj r hr => c_X8_next hj a12 q  hr) (rcv_obj (q := (RX8, TX8, 37)) kl_0 rfl) rfl rfl (Nat.le_of_ble_eq_true rfl) (Nat.le_of_ble_eq_true rfl) (fun r14 => ?_)
      show K G (mi_X8_must 3) (e_X8_must m0 q) 20 [(0, .ref 0)] [] (r14 :: q) _
      exact K_ret (rv := none) dX8_must_20 trivial rfl rfl
  · refine K_if_ne 9 dX8_must_1 rfl (fun _ => ?_) (fun _ => ?_)
    · refine K_loc [0] (lv' := [(0, .ref 0)]) rfl ?_
      exact hj13 m0
    · refine K_aload_n 0 dX8_must_4 rfl ?_
      refine K_iconst (v := 1) dX8_must_5 (by decide) ?_
      refine K_callV (E' := e_X8_bad m0 q) (b := 0) (As := [.int 1]) (rest := []) dX8_must_6 ml_X8_135 (mf_X8_bad 1) mv_X8_bad (fun hj r hr => c_X8_bad hj m0 q (1 : Int32) hr) (rcv_obj (q := (RX8, TX8, 37)) kl_0 rfl) rfl rfl (Nat.le_of_ble_eq_true rfl) (Nat.le_of_ble_eq_true rfl) (fun r11 => ?_)
      show K G (mi_X8_must 3) (e_X8_must m0 q) 9 [(0, .ref 0), (1, .int x1)] [] (r11 :: q) _
      refine K_loc [0] (lv' := [(0, .ref 0)]) rfl ?_
      exact hj13 r11
theorem c_X8_must {G : GE} (hj : dj G) (m0 : Mem) (q : List Mem) (x1 : Int32) {r : Mem} (hr : f_X8_must m0 x1 = some r) : Ctr G yX8_must (mi_X8_must 3) [.ref 0, .int x1] (m0 :: q) ((e_X8_must m0 q) r).1 ((e_X8_must m0 q) r).2 := Ctr_of hj (by decide) rfl hr rfl (Nat.le_of_ble_eq_true rfl) (k_X8_must m0 q x1)
abbrev e_X8_figures (m0 : Mem) (q : List Mem) : Int32 → Option Value × List Mem := fun r => (some (.int r), (m0 :: q))
theorem k_X8_figures_L7 {G : GE} (m0 : Mem) (q : List Mem) (k : Int32 → Int32 → Option (Int32)) (hk : ∀ (u12 : Int32) (u13 : Int32), K G (mi_X8_figures 1) (e_X8_figures m0 q) 44 [(0, .ref 0), (1, .int u12), (2, .int u13)] [] (m0 :: q) (k u12 u13)) : ∀ (t : Nat) (u12 : Int32) (u13 : Int32), K G (mi_X8_figures 1) (e_X8_figures m0 q) 7 [(0, .ref 0), (1, .int u12), (2, .int u13)] [] (m0 :: q) (f_X8_figures_L7 k m0 t u12 u13) := by
  intro t
  induction t with
  | zero => intro u12 u13; exact K_none
  | succ t ih =>
    intro u12 u13
    rw [f_X8_figures_L7]
    refine K_iload_n 2 dX8_figures_7 rfl ?_
    refine K_aload_n 0 dX8_figures_8 rfl ?_
    refine K_get (v := .int (m0 0 18)) dX8_figures_9 fl_X8_123 kl_0 rfl rfl ?_
    refine K_icmp_ge 44 dX8_figures_12 rfl (fun _ => ?_) (fun _ => ?_)
    · refine K_loc [0, 1, 2] (lv' := [(0, .ref 0), (1, .int u12), (2, .int u13)]) rfl ?_
      exact hk u12 u13
    · refine K_aload_n 0 dX8_figures_15 rfl ?_
      refine K_get (v := .int (m0 0 16)) dX8_figures_16 fl_X8_114 kl_0 rfl rfl ?_
      refine K_iconst (v := 3) dX8_figures_19 (by decide) ?_
      refine K_icmp_ne 44 dX8_figures_20 rfl (fun _ => ?_) (fun _ => ?_)
      · refine K_loc [0, 1, 2] (lv' := [(0, .ref 0), (1, .int u12), (2, .int u13)]) rfl ?_
        exact hk u12 u13
      · refine K_bipush (v := 10) dX8_figures_23 (by decide) ?_
        refine K_iload_n 1 dX8_figures_25 rfl ?_
        refine K_imul dX8_figures_26 ?_
        refine K_aload_n 0 dX8_figures_27 rfl ?_
        refine K_get (v := .ref 12) dX8_figures_28 fl_X8_31 kl_0 rfl rfl ?_
        refine K_iload_n 2 dX8_figures_31 rfl ?_
        refine K_iald (f := m0 12) dX8_figures_32 kl_12 rfl ?_
        refine K_iadd dX8_figures_33 ?_
        refine K_bipush (v := 48) dX8_figures_34 (by decide) ?_
        refine K_isub dX8_figures_36 ?_
        refine K_nmi (fun x14 => ?_)
        refine K_istore_n (lv' := [(1, .int x14), (0, .ref 0), (2, .int u13)]) dX8_figures_37 (by decide) rfl ?_
        refine K_iinc 2 (w := u13 + 1) (lv' := [(2, .int (u13 + 1)), (1, .int x14), (0, .ref 0)]) dX8_figures_38 rfl rfl (by decide) rfl ?_
        refine K_goto 7 dX8_figures_41 rfl ?_
        refine K_loc [2, 1, 0] (lv' := [(0, .ref 0), (1, .int x14), (2, .int (u13 + 1))]) rfl ?_
        exact ih x14 (u13 + 1)
theorem k_X8_figures {G : GE} (m0 : Mem) (q : List Mem)  : K G (mi_X8_figures 1) (e_X8_figures m0 q) 0 [(0, .ref 0)] [] (m0 :: q) (f_X8_figures m0) := by
  unfold f_X8_figures
  refine K_iconst (v := 0) dX8_figures_0 (by decide) ?_
  refine K_istore_n (lv' := [(1, .int 0), (0, .ref 0)]) dX8_figures_1 (by decide) rfl ?_
  refine K_aload_n 1 dX8_figures_2 rfl ?_
  refine K_get (v := .int (m0 0 17)) dX8_figures_3 fl_X8_111 kl_0 rfl rfl ?_
  refine K_nmi (fun x11 => ?_)
  refine K_istore_n (lv' := [(2, .int x11), (1, .int 0), (0, .ref 0)]) dX8_figures_6 (by decide) rfl ?_
  refine K_loc [2, 1, 0] (lv' := [(0, .ref 0), (1, .int 0), (2, .int x11)]) rfl ?_
  refine k_X8_figures_L7  m0 q  _ (fun u15 u16 => ?_) 100000 0 x11
  refine K_iload_n 1 dX8_figures_44 rfl ?_
  exact K_ret (rv := some (.int u15)) dX8_figures_45 rfl rfl rfl
theorem c_X8_figures {G : GE} (hj : dj G) (m0 : Mem) (q : List Mem)  {r : Int32} (hr : f_X8_figures m0 = some r) : Ctr G yX8_figures (mi_X8_figures 1) [.ref 0] (m0 :: q) ((e_X8_figures m0 q) r).1 ((e_X8_figures m0 q) r).2 := Ctr_of hj (by decide) rfl hr rfl (Nat.le_of_ble_eq_true rfl) (k_X8_figures m0 q )
abbrev e_X8_number (m0 : Mem) (q : List Mem) : (Int32 × Mem) → Option Value × List Mem := fun r => (some (.int r.1), (r.2 :: q))
theorem k_X8_number {G : GE} (m0 : Mem) (q : List Mem) (x1 : Int32) (x2 : Int32) : K G (mi_X8_number 4) (e_X8_number m0 q) 0 [(0, .ref 0), (1, .int x1), (2, .int x2)] [] (m0 :: q) (f_X8_number m0 x1 x2) := by
  unfold f_X8_number
  refine K_aload_n 0 dX8_number_0 rfl ?_
  refine K_get (v := .int (m0 0 19)) dX8_number_1 fl_X8_126 kl_0 rfl rfl ?_
  refine K_if_le 9 dX8_number_4 rfl (fun _ => ?_) (fun _ => ?_)
  · refine K_aload_n 0 dX8_number_9 rfl ?_
    refine K_callV (E' := e_X8_figures m0 q) (b := 0) (As := []) (rest := []) dX8_number_10 ml_X8_139 (mf_X8_figures 1) mv_X8_figures (fun hj r hr => c_X8_figures hj m0 q  hr) (rcv_obj (q := (RX8, TX8, 37)) kl_0 rfl) rfl rfl (Nat.le_of_ble_eq_true rfl) (Nat.le_of_ble_eq_true rfl) (fun r11 => ?_)
    show K G (mi_X8_number 4) (e_X8_number m0 q) 13 [(0, .ref 0), (1, .int x1), (2, .int x2)] [.int r11] (m0 :: q) _
    refine K_istore_n (lv' := [(3, .int r11), (0, .ref 0), (1, .int x1), (2, .int x2)]) dX8_number_13 (by decide) rfl ?_
    refine K_aload_n 1 dX8_number_14 rfl ?_
    refine K_get (v := .int (m0 0 16)) dX8_number_15 fl_X8_114 kl_0 rfl rfl ?_
    refine K_iconst (v := 3) dX8_number_18 (by decide) ?_
    refine K_jn (fun j15 => ∀ a14 : Mem, K G (mi_X8_number 4) (e_X8_number m0 q) 39 [(0, .ref 0), (3, .int r11)] [] (a14 :: q) (j15 a14)) (fun a14 => ?_) (fun j15 hj15 => ?_)
    · refine K_aload_n 0 dX8_number_39 rfl ?_
      refine K_aload_n 0 dX8_number_40 rfl ?_
      refine K_get (v := .int (a14 0 16)) dX8_number_41 fl_X8_114 kl_0 rfl rfl ?_
      refine K_iconst (v := 3) dX8_number_44 (by decide) ?_
      refine K_icmp_ne 52 dX8_number_45 rfl (fun _ => ?_) (fun _ => ?_)
      · refine K_iconst (v := 0) dX8_number_52 (by decide) ?_
        refine K_callV (E' := e_X8_must a14 q) (b := 0) (As := [.int 0]) (rest := []) dX8_number_53 ml_X8_143 (mf_X8_must 3) mv_X8_must (fun hj r hr => c_X8_must hj a14 q (0 : Int32) hr) (rcv_obj (q := (RX8, TX8, 37)) kl_0 rfl) rfl rfl (Nat.le_of_ble_eq_true rfl) (Nat.le_of_ble_eq_true rfl) (fun r16 => ?_)
        show K G (mi_X8_number 4) (e_X8_number m0 q) 56 [(0, .ref 0), (3, .int r11)] [] (r16 :: q) _
        refine K_iload_n 1 dX8_number_56 rfl ?_
        exact K_ret (rv := some (.int r11)) dX8_number_57 rfl rfl rfl
      · refine K_iconst (v := 1) dX8_number_48 (by decide) ?_
        refine K_goto 53 dX8_number_49 rfl ?_
        refine K_callV (E' := e_X8_must a14 q) (b := 0) (As := [.int 1]) (rest := []) dX8_number_53 ml_X8_143 (mf_X8_must 3) mv_X8_must (fun hj r hr => c_X8_must hj a14 q (1 : Int32) hr) (rcv_obj (q := (RX8, TX8, 37)) kl_0 rfl) rfl rfl (Nat.le_of_ble_eq_true rfl) (Nat.le_of_ble_eq_true rfl) (fun r17 => ?_)
        show K G (mi_X8_number 4) (e_X8_number m0 q) 56 [(0, .ref 0), (3, .int r11)] [] (r17 :: q) _
        refine K_iload_n 1 dX8_number_56 rfl ?_
        exact K_ret (rv := some (.int r11)) dX8_number_57 rfl rfl rfl
    · refine K_icmp_ne 39 dX8_number_19 rfl (fun _ => ?_) (fun _ => ?_)
      · refine K_loc [1, 0] (lv' := [(0, .ref 0), (3, .int r11)]) rfl ?_
        exact hj15 m0
      · refine K_iload_n 0 dX8_number_22 rfl ?_
        refine K_i2l dX8_number_23 ?_
        refine K_iload_n 2 dX8_number_24 rfl ?_
        refine K_i2l dX8_number_25 ?_
        refine K_iload_n 3 dX8_number_26 rfl ?_
        refine K_i2l dX8_number_27 ?_
        refine K_callS (E' := e_X8_in (m0 :: q)) (As := [.long r11.toInt64, .long x1.toInt64, .long x2.toInt64]) (rest := []) dX8_number_28 ml_X8_78 (mf_X8_in 1) ms_X8_in (fun hj r hr => c_X8_in hj (m0 :: q) r11.toInt64 x1.toInt64 x2.toInt64 hr) rfl rfl (Nat.le_of_ble_eq_true rfl) (Nat.le_of_ble_eq_true rfl) (fun r12 => ?_)
        show K G (mi_X8_number 4) (e_X8_number m0 q) 31 [(3, .int r11), (0, .ref 0), (1, .int x1), (2, .int x2)] [.int r12] (m0 :: q) _
        refine K_if_ne 39 dX8_number_31 rfl (fun _ => ?_) (fun _ => ?_)
        · refine K_loc [1, 0] (lv' := [(0, .ref 0), (3, .int r11)]) rfl ?_
          exact hj15 m0
        · refine K_aload_n 1 dX8_number_34 rfl ?_
          refine K_iconst (v := 2) dX8_number_35 (by decide) ?_
          refine K_callV (E' := e_X8_bad m0 q) (b := 0) (As := [.int 2]) (rest := []) dX8_number_36 ml_X8_135 (mf_X8_bad 1) mv_X8_bad (fun hj r hr => c_X8_bad hj m0 q (2 : Int32) hr) (rcv_obj (q := (RX8, TX8, 37)) kl_0 rfl) rfl rfl (Nat.le_of_ble_eq_true rfl) (Nat.le_of_ble_eq_true rfl) (fun r13 => ?_)
          show K G (mi_X8_number 4) (e_X8_number m0 q) 39 [(3, .int r11), (0, .ref 0), (1, .int x1), (2, .int x2)] [] (r13 :: q) _
          refine K_loc [1, 0] (lv' := [(0, .ref 0), (3, .int r11)]) rfl ?_
          exact hj15 r13
  · refine K_iconst (v := 0) dX8_number_7 (by decide) ?_
    exact K_ret (rv := some (.int 0)) dX8_number_8 rfl rfl rfl
theorem c_X8_number {G : GE} (hj : dj G) (m0 : Mem) (q : List Mem) (x1 : Int32) (x2 : Int32) {r : Int32 × Mem} (hr : f_X8_number m0 x1 x2 = some r) : Ctr G yX8_number (mi_X8_number 4) [.ref 0, .int x1, .int x2] (m0 :: q) ((e_X8_number m0 q) r).1 ((e_X8_number m0 q) r).2 := Ctr_of hj (by decide) rfl hr rfl (Nat.le_of_ble_eq_true rfl) (k_X8_number m0 q x1 x2)
abbrev e_X8_mustEnd (m0 : Mem) (q : List Mem) : Mem → Option Value × List Mem := fun r => (none, (r :: q))
theorem k_X8_mustEnd {G : GE} (m0 : Mem) (q : List Mem)  : K G (mi_X8_mustEnd 4) (e_X8_mustEnd m0 q) 0 [(0, .ref 0)] [] (m0 :: q) (f_X8_mustEnd m0) := by
  unfold f_X8_mustEnd
  refine K_aload_n 0 dX8_mustEnd_0 rfl ?_
  refine K_get (v := .int (m0 0 19)) dX8_mustEnd_1 fl_X8_126 kl_0 rfl rfl ?_
  refine K_if_ne 24 dX8_mustEnd_4 rfl (fun _ => ?_) (fun _ => ?_)
  · exact K_ret (rv := none) dX8_mustEnd_24 trivial rfl rfl
  · refine K_aload_n 0 dX8_mustEnd_7 rfl ?_
    refine K_aload_n 0 dX8_mustEnd_8 rfl ?_
    refine K_get (v := .int (m0 0 16)) dX8_mustEnd_9 fl_X8_114 kl_0 rfl rfl ?_
    refine K_iconst (v := 4) dX8_mustEnd_12 (by decide) ?_
    refine K_icmp_ne 20 dX8_mustEnd_13 rfl (fun _ => ?_) (fun _ => ?_)
    · refine K_iconst (v := 0) dX8_mustEnd_20 (by decide) ?_
      refine K_callV (E' := e_X8_must m0 q) (b := 0) (As := [.int 0]) (rest := []) dX8_mustEnd_21 ml_X8_143 (mf_X8_must 3) mv_X8_must (fun hj r hr => c_X8_must hj m0 q (0 : Int32) hr) (rcv_obj (q := (RX8, TX8, 37)) kl_0 rfl) rfl rfl (Nat.le_of_ble_eq_true rfl) (Nat.le_of_ble_eq_true rfl) (fun r11 => ?_)
      show K G (mi_X8_mustEnd 4) (e_X8_mustEnd m0 q) 24 [(0, .ref 0)] [] (r11 :: q) _
      exact K_ret (rv := none) dX8_mustEnd_24 trivial rfl rfl
    · refine K_iconst (v := 1) dX8_mustEnd_16 (by decide) ?_
      refine K_goto 21 dX8_mustEnd_17 rfl ?_
      refine K_callV (E' := e_X8_must m0 q) (b := 0) (As := [.int 1]) (rest := []) dX8_mustEnd_21 ml_X8_143 (mf_X8_must 3) mv_X8_must (fun hj r hr => c_X8_must hj m0 q (1 : Int32) hr) (rcv_obj (q := (RX8, TX8, 37)) kl_0 rfl) rfl rfl (Nat.le_of_ble_eq_true rfl) (Nat.le_of_ble_eq_true rfl) (fun r12 => ?_)
      show K G (mi_X8_mustEnd 4) (e_X8_mustEnd m0 q) 24 [(0, .ref 0)] [] (r12 :: q) _
      exact K_ret (rv := none) dX8_mustEnd_24 trivial rfl rfl
theorem c_X8_mustEnd {G : GE} (hj : dj G) (m0 : Mem) (q : List Mem)  {r : Mem} (hr : f_X8_mustEnd m0 = some r) : Ctr G yX8_mustEnd (mi_X8_mustEnd 4) [.ref 0] (m0 :: q) ((e_X8_mustEnd m0 q) r).1 ((e_X8_mustEnd m0 q) r).2 := Ctr_of hj (by decide) rfl hr rfl (Nat.le_of_ble_eq_true rfl) (k_X8_mustEnd m0 q )
abbrev e_X8_begins (m0 : Mem) (q : List Mem) : Mem → Option Value × List Mem := fun r => (none, (r :: q))
theorem k_X8_begins {G : GE} (m0 : Mem) (q : List Mem) (x1 : Int32) (x2 : Int32) : K G (mi_X8_begins 4) (e_X8_begins m0 q) 0 [(0, .ref 0), (1, .int x1), (2, .int x2)] [] (m0 :: q) (f_X8_begins m0 x1 x2) := by
  unfold f_X8_begins
  refine K_aload_n 0 dX8_begins_0 rfl ?_
  refine K_get (v := .ref 7) dX8_begins_1 fl_X8_22 kl_0 rfl rfl ?_
  refine K_iload_n 1 dX8_begins_4 rfl ?_
  refine K_iald (f := m0 7) dX8_begins_5 kl_7 rfl ?_
  refine K_iload_n 2 dX8_begins_6 rfl ?_
  refine K_icmp_ne 15 dX8_begins_7 rfl (fun _ => ?_) (fun _ => ?_)
  · refine K_aload_n 0 dX8_begins_15 rfl ?_
    refine K_iconst (v := 1) dX8_begins_16 (by decide) ?_
    refine K_callV (E' := e_X8_must m0 q) (b := 0) (As := [.int 1]) (rest := []) dX8_begins_17 ml_X8_143 (mf_X8_must 3) mv_X8_must (fun hj r hr => c_X8_must hj m0 q (1 : Int32) hr) (rcv_obj (q := (RX8, TX8, 37)) kl_0 rfl) rfl rfl (Nat.le_of_ble_eq_true rfl) (Nat.le_of_ble_eq_true rfl) (fun r11 => ?_)
    show K G (mi_X8_begins 4) (e_X8_begins m0 q) 20 [(0, .ref 0), (1, .int x1), (2, .int x2)] [] (r11 :: q) _
    exact K_ret (rv := none) dX8_begins_20 trivial rfl rfl
  · refine K_aload_n 0 dX8_begins_10 rfl ?_
    refine K_iconst (v := 3) dX8_begins_11 (by decide) ?_
    refine K_callV (E' := e_X8_bad m0 q) (b := 0) (As := [.int 3]) (rest := []) dX8_begins_12 ml_X8_135 (mf_X8_bad 1) mv_X8_bad (fun hj r hr => c_X8_bad hj m0 q (3 : Int32) hr) (rcv_obj (q := (RX8, TX8, 37)) kl_0 rfl) rfl rfl (Nat.le_of_ble_eq_true rfl) (Nat.le_of_ble_eq_true rfl) (fun r12 => ?_)
    show K G (mi_X8_begins 4) (e_X8_begins m0 q) 15 [(0, .ref 0), (1, .int x1), (2, .int x2)] [] (r12 :: q) _
    refine K_aload_n 0 dX8_begins_15 rfl ?_
    refine K_iconst (v := 1) dX8_begins_16 (by decide) ?_
    refine K_callV (E' := e_X8_must r12 q) (b := 0) (As := [.int 1]) (rest := []) dX8_begins_17 ml_X8_143 (mf_X8_must 3) mv_X8_must (fun hj r hr => c_X8_must hj r12 q (1 : Int32) hr) (rcv_obj (q := (RX8, TX8, 37)) kl_0 rfl) rfl rfl (Nat.le_of_ble_eq_true rfl) (Nat.le_of_ble_eq_true rfl) (fun r13 => ?_)
    show K G (mi_X8_begins 4) (e_X8_begins m0 q) 20 [(0, .ref 0), (1, .int x1), (2, .int x2)] [] (r13 :: q) _
    exact K_ret (rv := none) dX8_begins_20 trivial rfl rfl
theorem c_X8_begins {G : GE} (hj : dj G) (m0 : Mem) (q : List Mem) (x1 : Int32) (x2 : Int32) {r : Mem} (hr : f_X8_begins m0 x1 x2 = some r) : Ctr G yX8_begins (mi_X8_begins 4) [.ref 0, .int x1, .int x2] (m0 :: q) ((e_X8_begins m0 q) r).1 ((e_X8_begins m0 q) r).2 := Ctr_of hj (by decide) rfl hr rfl (Nat.le_of_ble_eq_true rfl) (k_X8_begins m0 q x1 x2)
abbrev e_X8_unlike (m0 : Mem) (q : List Mem) : (Int32 × Mem) → Option Value × List Mem := fun r => (some (.int r.1), (r.2 :: q))
theorem k_X8_unlike {G : GE} (m0 : Mem) (q : List Mem) (x1 : Int32) (x2 : Int32) (x3 : Int32) : K G (mi_X8_unlike 5) (e_X8_unlike m0 q) 0 [(0, .ref 0), (1, .int x1), (2, .int x2), (3, .int x3)] [] (m0 :: q) (f_X8_unlike m0 x1 x2 x3) := by
  unfold f_X8_unlike
  refine K_aload_n 0 dX8_unlike_0 rfl ?_
  refine K_get (v := .int (m0 0 19)) dX8_unlike_1 fl_X8_126 kl_0 rfl rfl ?_
  refine K_jn (fun j14 => ∀ a13 : Mem, K G (mi_X8_unlike 5) (e_X8_unlike m0 q) 28 [(0, .ref 0), (1, .int x1), (2, .int x2)] [] (a13 :: q) (j14 a13)) (fun a13 => ?_) (fun j14 hj14 => ?_)
  · refine K_aload_n 0 dX8_unlike_28 rfl ?_
    refine K_iload_n 1 dX8_unlike_29 rfl ?_
    refine K_iload_n 2 dX8_unlike_30 rfl ?_
    refine K_callV (E' := e_X8_number a13 q) (b := 0) (As := [.int x1, .int x2]) (rest := []) dX8_unlike_31 ml_X8_157 (mf_X8_number 4) mv_X8_number (fun hj r hr => c_X8_number hj a13 q x1 x2 hr) (rcv_obj (q := (RX8, TX8, 37)) kl_0 rfl) rfl rfl (Nat.le_of_ble_eq_true rfl) (Nat.le_of_ble_eq_true rfl) (fun r15 => ?_)
    show K G (mi_X8_unlike 5) (e_X8_unlike m0 q) 34 [(0, .ref 0), (1, .int x1), (2, .int x2)] [.int r15.1] (r15.2 :: q) _
    exact K_ret (rv := some (.int r15.1)) dX8_unlike_34 rfl rfl rfl
  · refine K_if_ne 28 dX8_unlike_4 rfl (fun _ => ?_) (fun _ => ?_)
    · refine K_loc [0, 1, 2] (lv' := [(0, .ref 0), (1, .int x1), (2, .int x2)]) rfl ?_
      exact hj14 m0
    · refine K_aload_n 0 dX8_unlike_7 rfl ?_
      refine K_get (v := .int (m0 0 16)) dX8_unlike_8 fl_X8_114 kl_0 rfl rfl ?_
      refine K_iconst (v := 3) dX8_unlike_11 (by decide) ?_
      refine K_icmp_ne 28 dX8_unlike_12 rfl (fun _ => ?_) (fun _ => ?_)
      · refine K_loc [0, 1, 2] (lv' := [(0, .ref 0), (1, .int x1), (2, .int x2)]) rfl ?_
        exact hj14 m0
      · refine K_aload_n 0 dX8_unlike_15 rfl ?_
        refine K_callV (E' := e_X8_figures m0 q) (b := 0) (As := []) (rest := []) dX8_unlike_16 ml_X8_139 (mf_X8_figures 1) mv_X8_figures (fun hj r hr => c_X8_figures hj m0 q  hr) (rcv_obj (q := (RX8, TX8, 37)) kl_0 rfl) rfl rfl (Nat.le_of_ble_eq_true rfl) (Nat.le_of_ble_eq_true rfl) (fun r11 => ?_)
        show K G (mi_X8_unlike 5) (e_X8_unlike m0 q) 19 [(0, .ref 0), (1, .int x1), (2, .int x2), (3, .int x3)] [.int r11] (m0 :: q) _
        refine K_iload_n 3 dX8_unlike_19 rfl ?_
        refine K_icmp_ne 28 dX8_unlike_20 rfl (fun _ => ?_) (fun _ => ?_)
        · refine K_loc [0, 1, 2] (lv' := [(0, .ref 0), (1, .int x1), (2, .int x2)]) rfl ?_
          exact hj14 m0
        · refine K_aload_n 0 dX8_unlike_23 rfl ?_
          refine K_iconst (v := 2) dX8_unlike_24 (by decide) ?_
          refine K_callV (E' := e_X8_bad m0 q) (b := 0) (As := [.int 2]) (rest := []) dX8_unlike_25 ml_X8_135 (mf_X8_bad 1) mv_X8_bad (fun hj r hr => c_X8_bad hj m0 q (2 : Int32) hr) (rcv_obj (q := (RX8, TX8, 37)) kl_0 rfl) rfl rfl (Nat.le_of_ble_eq_true rfl) (Nat.le_of_ble_eq_true rfl) (fun r12 => ?_)
          show K G (mi_X8_unlike 5) (e_X8_unlike m0 q) 28 [(0, .ref 0), (1, .int x1), (2, .int x2), (3, .int x3)] [] (r12 :: q) _
          refine K_loc [0, 1, 2] (lv' := [(0, .ref 0), (1, .int x1), (2, .int x2)]) rfl ?_
          exact hj14 r12
theorem c_X8_unlike {G : GE} (hj : dj G) (m0 : Mem) (q : List Mem) (x1 : Int32) (x2 : Int32) (x3 : Int32) {r : Int32 × Mem} (hr : f_X8_unlike m0 x1 x2 x3 = some r) : Ctr G yX8_unlike (mi_X8_unlike 5) [.ref 0, .int x1, .int x2, .int x3] (m0 :: q) ((e_X8_unlike m0 q) r).1 ((e_X8_unlike m0 q) r).2 := Ctr_of hj (by decide) rfl hr rfl (Nat.le_of_ble_eq_true rfl) (k_X8_unlike m0 q x1 x2 x3)
abbrev e_X8_readWay (m0 : Mem) (q : List Mem) : Mem → Option Value × List Mem := fun r => (none, (r :: q))
theorem k_X8_readWay {G : GE} (m0 : Mem) (q : List Mem)  : K G (mi_X8_readWay 6) (e_X8_readWay m0 q) 0 [(0, .ref 0)] [] (m0 :: q) (f_X8_readWay m0) := by
  unfold f_X8_readWay
  refine K_aload_n 0 dX8_readWay_0 rfl ?_
  refine K_iconst (v := 2) dX8_readWay_1 (by decide) ?_
  refine K_bipush (v := 16) dX8_readWay_2 (by decide) ?_
  refine K_callV (E' := e_X8_begins m0 q) (b := 0) (As := [.int 2, .int 16]) (rest := []) dX8_readWay_4 ml_X8_161 (mf_X8_begins 4) mv_X8_begins (fun hj r hr => c_X8_begins hj m0 q (2 : Int32) (16 : Int32) hr) (rcv_obj (q := (RX8, TX8, 37)) kl_0 rfl) rfl rfl (Nat.le_of_ble_eq_true rfl) (Nat.le_of_ble_eq_true rfl) (fun r11 => ?_)
  show K G (mi_X8_readWay 6) (e_X8_readWay m0 q) 7 [(0, .ref 0)] [] (r11 :: q) _
  refine K_aload_n 0 dX8_readWay_7 rfl ?_
  refine K_iconst (v := 0) dX8_readWay_8 (by decide) ?_
  refine K_bipush (v := 7) dX8_readWay_9 (by decide) ?_
  refine K_callV (E' := e_X8_number r11 q) (b := 0) (As := [.int 0, .int 7]) (rest := []) dX8_readWay_11 ml_X8_157 (mf_X8_number 4) mv_X8_number (fun hj r hr => c_X8_number hj r11 q (0 : Int32) (7 : Int32) hr) (rcv_obj (q := (RX8, TX8, 37)) kl_0 rfl) rfl rfl (Nat.le_of_ble_eq_true rfl) (Nat.le_of_ble_eq_true rfl) (fun r12 => ?_)
  show K G (mi_X8_readWay 6) (e_X8_readWay m0 q) 14 [(0, .ref 0)] [.int r12.1] (r12.2 :: q) _
  refine K_nmi (fun x13 => ?_)
  refine K_istore_n (lv' := [(1, .int x13), (0, .ref 0)]) dX8_readWay_14 (by decide) rfl ?_
  refine K_aload_n 1 dX8_readWay_15 rfl ?_
  refine K_iconst (v := 0) dX8_readWay_16 (by decide) ?_
  refine K_bipush (v := 7) dX8_readWay_17 (by decide) ?_
  refine K_iload_n 0 dX8_readWay_19 rfl ?_
  refine K_callV (E' := e_X8_unlike r12.2 q) (b := 0) (As := [.int 0, .int 7, .int x13]) (rest := []) dX8_readWay_20 ml_X8_165 (mf_X8_unlike 5) mv_X8_unlike (fun hj r hr => c_X8_unlike hj r12.2 q (0 : Int32) (7 : Int32) x13 hr) (rcv_obj (q := (RX8, TX8, 37)) kl_0 rfl) rfl rfl (Nat.le_of_ble_eq_true rfl) (Nat.le_of_ble_eq_true rfl) (fun r14 => ?_)
  show K G (mi_X8_readWay 6) (e_X8_readWay m0 q) 23 [(1, .int x13), (0, .ref 0)] [.int r14.1] (r14.2 :: q) _
  refine K_nmi (fun x15 => ?_)
  refine K_istore_n (lv' := [(2, .int x15), (1, .int x13), (0, .ref 0)]) dX8_readWay_23 (by decide) rfl ?_
  refine K_aload_n 2 dX8_readWay_24 rfl ?_
  refine K_iconst (v := 1) dX8_readWay_25 (by decide) ?_
  refine K_bipush (v := 99) dX8_readWay_26 (by decide) ?_
  refine K_callV (E' := e_X8_number r14.2 q) (b := 0) (As := [.int 1, .int 99]) (rest := []) dX8_readWay_28 ml_X8_157 (mf_X8_number 4) mv_X8_number (fun hj r hr => c_X8_number hj r14.2 q (1 : Int32) (99 : Int32) hr) (rcv_obj (q := (RX8, TX8, 37)) kl_0 rfl) rfl rfl (Nat.le_of_ble_eq_true rfl) (Nat.le_of_ble_eq_true rfl) (fun r16 => ?_)
  show K G (mi_X8_readWay 6) (e_X8_readWay m0 q) 31 [(2, .int x15), (1, .int x13), (0, .ref 0)] [.int r16.1] (r16.2 :: q) _
  refine K_nmi (fun x17 => ?_)
  refine K_istore_n (lv' := [(3, .int x17), (2, .int x15), (1, .int x13), (0, .ref 0)]) dX8_readWay_31 (by decide) rfl ?_
  refine K_aload_n 3 dX8_readWay_32 rfl ?_
  refine K_callV (E' := e_X8_mustEnd r16.2 q) (b := 0) (As := []) (rest := []) dX8_readWay_33 ml_X8_169 (mf_X8_mustEnd 4) mv_X8_mustEnd (fun hj r hr => c_X8_mustEnd hj r16.2 q  hr) (rcv_obj (q := (RX8, TX8, 37)) kl_0 rfl) rfl rfl (Nat.le_of_ble_eq_true rfl) (Nat.le_of_ble_eq_true rfl) (fun r18 => ?_)
  show K G (mi_X8_readWay 6) (e_X8_readWay m0 q) 36 [(3, .int x17), (2, .int x15), (1, .int x13), (0, .ref 0)] [] (r18 :: q) _
  refine K_aload_n 3 dX8_readWay_36 rfl ?_
  refine K_get (v := .int (r18 0 19)) dX8_readWay_37 fl_X8_126 kl_0 rfl rfl ?_
  refine K_if_ne 123 dX8_readWay_40 rfl (fun _ => ?_) (fun _ => ?_)
  · exact K_ret (rv := none) dX8_readWay_123 trivial rfl rfl
  · refine K_aload_n 3 dX8_readWay_43 rfl ?_
    refine K_get (v := .ref 7) dX8_readWay_44 fl_X8_22 kl_0 rfl rfl ?_
    refine K_bipush (v := 8) dX8_readWay_47 (by decide) ?_
    refine K_bipush (v := 8) dX8_readWay_49 (by decide) ?_
    refine K_iload_n 2 dX8_readWay_51 rfl ?_
    refine K_imul dX8_readWay_52 ?_
    refine K_iadd dX8_readWay_53 ?_
    refine K_iload_n 1 dX8_readWay_54 rfl ?_
    refine K_iadd dX8_readWay_55 ?_
    refine K_iald (f := r18 7) dX8_readWay_56 kl_7 rfl ?_
    refine K_iload_n 0 dX8_readWay_57 rfl ?_
    refine K_jn (fun j20 => ∀ a19 : Int32, K G (mi_X8_readWay 6) (e_X8_readWay m0 q) 79 [(0, .ref 0), (1, .int x13), (2, .int x15)] [.int a19] (r18 :: q) (j20 a19)) (fun a19 => ?_) (fun j20 hj20 => ?_)
    · refine K_istore (lv' := [(4, .int a19), (0, .ref 0), (1, .int x13), (2, .int x15)]) dX8_readWay_79 (by decide) rfl ?_
      refine K_aload_n 1 dX8_readWay_81 rfl ?_
      refine K_get (v := .ref 7) dX8_readWay_82 fl_X8_22 kl_0 rfl rfl ?_
      refine K_bipush (v := 8) dX8_readWay_85 (by decide) ?_
      refine K_bipush (v := 8) dX8_readWay_87 (by decide) ?_
      refine K_iload_n 2 dX8_readWay_89 rfl ?_
      refine K_imul dX8_readWay_90 ?_
      refine K_iadd dX8_readWay_91 ?_
      refine K_iload_n 3 dX8_readWay_92 rfl ?_
      refine K_iadd dX8_readWay_93 ?_
      refine K_iload 0 dX8_readWay_94 rfl ?_
      refine K_iast (Ms' := ((up r18 7 ((8 + (8 * x13)) + x15).toNatClampNeg a19) :: q)) dX8_readWay_96 kl_7 (Nat.succ_pos _) rfl ?_
      refine K_nmm (fun w => (w :: q)) rfl (fun w21 => ?_)
      refine K_aload_n 1 dX8_readWay_97 rfl ?_
      refine K_get (v := .ref 7) dX8_readWay_98 fl_X8_22 kl_0 rfl rfl ?_
      refine K_bipush (v := 8) dX8_readWay_101 (by decide) ?_
      refine K_bipush (v := 8) dX8_readWay_103 (by decide) ?_
      refine K_iload_n 3 dX8_readWay_105 rfl ?_
      refine K_imul dX8_readWay_106 ?_
      refine K_iadd dX8_readWay_107 ?_
      refine K_iload_n 2 dX8_readWay_108 rfl ?_
      refine K_iadd dX8_readWay_109 ?_
      refine K_iload 0 dX8_readWay_110 rfl ?_
      refine K_iast (Ms' := ((up w21 7 ((8 + (8 * x15)) + x13).toNatClampNeg a19) :: q)) dX8_readWay_112 kl_7 (Nat.succ_pos _) rfl ?_
      refine K_nmm (fun w => (w :: q)) rfl (fun w22 => ?_)
      refine K_aload_n 1 dX8_readWay_113 rfl ?_
      refine K_get (v := .ref 7) dX8_readWay_114 fl_X8_22 kl_0 rfl rfl ?_
      refine K_iconst (v := 2) dX8_readWay_117 (by decide) ?_
      refine K_dup2 dX8_readWay_118 rfl rfl ?_
      refine K_iald (f := w22 7) dX8_readWay_119 kl_7 rfl ?_
      refine K_iconst (v := 1) dX8_readWay_120 (by decide) ?_
      refine K_iadd dX8_readWay_121 ?_
      refine K_iast (Ms' := ((up w22 7 (2 : Int32).toNatClampNeg ((w22 7 (2 : Int32).toNatClampNeg) + 1)) :: q)) dX8_readWay_122 kl_7 (Nat.succ_pos _) rfl ?_
      refine K_nmm (fun w => (w :: q)) rfl (fun w23 => ?_)
      exact K_ret (rv := none) dX8_readWay_123 trivial rfl rfl
    · refine K_icmp_ge 78 dX8_readWay_58 rfl (fun _ => ?_) (fun _ => ?_)
      · refine K_iload_n 0 dX8_readWay_78 rfl ?_
        refine K_loc [3, 2, 1] (lv' := [(0, .ref 0), (1, .int x13), (2, .int x15)]) rfl ?_
        exact hj20 x17
      · refine K_aload_n 3 dX8_readWay_61 rfl ?_
        refine K_get (v := .ref 7) dX8_readWay_62 fl_X8_22 kl_0 rfl rfl ?_
        refine K_bipush (v := 8) dX8_readWay_65 (by decide) ?_
        refine K_bipush (v := 8) dX8_readWay_67 (by decide) ?_
        refine K_iload_n 2 dX8_readWay_69 rfl ?_
        refine K_imul dX8_readWay_70 ?_
        refine K_iadd dX8_readWay_71 ?_
        refine K_iload_n 1 dX8_readWay_72 rfl ?_
        refine K_iadd dX8_readWay_73 ?_
        refine K_iald (f := r18 7) dX8_readWay_74 kl_7 rfl ?_
        refine K_goto 79 dX8_readWay_75 rfl ?_
        refine K_loc [3, 2, 1] (lv' := [(0, .ref 0), (1, .int x13), (2, .int x15)]) rfl ?_
        exact hj20 (r18 7 ((8 + (8 * x13)) + x15).toNatClampNeg)
theorem c_X8_readWay {G : GE} (hj : dj G) (m0 : Mem) (q : List Mem)  {r : Mem} (hr : f_X8_readWay m0 = some r) : Ctr G yX8_readWay (mi_X8_readWay 6) [.ref 0] (m0 :: q) ((e_X8_readWay m0 q) r).1 ((e_X8_readWay m0 q) r).2 := Ctr_of hj (by decide) rfl hr rfl (Nat.le_of_ble_eq_true rfl) (k_X8_readWay m0 q )
abbrev e_X8_readHill (m0 : Mem) (q : List Mem) : Mem → Option Value × List Mem := fun r => (none, (r :: q))
theorem k_X8_readHill {G : GE} (m0 : Mem) (q : List Mem)  : K G (mi_X8_readHill 5) (e_X8_readHill m0 q) 0 [(0, .ref 0)] [] (m0 :: q) (f_X8_readHill m0) := by
  unfold f_X8_readHill
  refine K_aload_n 0 dX8_readHill_0 rfl ?_
  refine K_iconst (v := 3) dX8_readHill_1 (by decide) ?_
  refine K_bipush (v := 7) dX8_readHill_2 (by decide) ?_
  refine K_callV (E' := e_X8_begins m0 q) (b := 0) (As := [.int 3, .int 7]) (rest := []) dX8_readHill_4 ml_X8_161 (mf_X8_begins 4) mv_X8_begins (fun hj r hr => c_X8_begins hj m0 q (3 : Int32) (7 : Int32) hr) (rcv_obj (q := (RX8, TX8, 37)) kl_0 rfl) rfl rfl (Nat.le_of_ble_eq_true rfl) (Nat.le_of_ble_eq_true rfl) (fun r11 => ?_)
  show K G (mi_X8_readHill 5) (e_X8_readHill m0 q) 7 [(0, .ref 0)] [] (r11 :: q) _
  refine K_aload_n 0 dX8_readHill_7 rfl ?_
  refine K_iconst (v := 1) dX8_readHill_8 (by decide) ?_
  refine K_bipush (v := 7) dX8_readHill_9 (by decide) ?_
  refine K_callV (E' := e_X8_number r11 q) (b := 0) (As := [.int 1, .int 7]) (rest := []) dX8_readHill_11 ml_X8_157 (mf_X8_number 4) mv_X8_number (fun hj r hr => c_X8_number hj r11 q (1 : Int32) (7 : Int32) hr) (rcv_obj (q := (RX8, TX8, 37)) kl_0 rfl) rfl rfl (Nat.le_of_ble_eq_true rfl) (Nat.le_of_ble_eq_true rfl) (fun r12 => ?_)
  show K G (mi_X8_readHill 5) (e_X8_readHill m0 q) 14 [(0, .ref 0)] [.int r12.1] (r12.2 :: q) _
  refine K_nmi (fun x13 => ?_)
  refine K_istore_n (lv' := [(1, .int x13), (0, .ref 0)]) dX8_readHill_14 (by decide) rfl ?_
  refine K_aload_n 1 dX8_readHill_15 rfl ?_
  refine K_callV (E' := e_X8_mustEnd r12.2 q) (b := 0) (As := []) (rest := []) dX8_readHill_16 ml_X8_169 (mf_X8_mustEnd 4) mv_X8_mustEnd (fun hj r hr => c_X8_mustEnd hj r12.2 q  hr) (rcv_obj (q := (RX8, TX8, 37)) kl_0 rfl) rfl rfl (Nat.le_of_ble_eq_true rfl) (Nat.le_of_ble_eq_true rfl) (fun r14 => ?_)
  show K G (mi_X8_readHill 5) (e_X8_readHill m0 q) 19 [(1, .int x13), (0, .ref 0)] [] (r14 :: q) _
  refine K_aload_n 1 dX8_readHill_19 rfl ?_
  refine K_get (v := .int (r14 0 19)) dX8_readHill_20 fl_X8_126 kl_0 rfl rfl ?_
  refine K_if_ne 49 dX8_readHill_23 rfl (fun _ => ?_) (fun _ => ?_)
  · exact K_ret (rv := none) dX8_readHill_49 trivial rfl rfl
  · refine K_aload_n 1 dX8_readHill_26 rfl ?_
    refine K_get (v := .ref 7) dX8_readHill_27 fl_X8_22 kl_0 rfl rfl ?_
    refine K_bipush (v := 7) dX8_readHill_30 (by decide) ?_
    refine K_dup2 dX8_readHill_32 rfl rfl ?_
    refine K_iald (f := r14 7) dX8_readHill_33 kl_7 rfl ?_
    refine K_iconst (v := 1) dX8_readHill_34 (by decide) ?_
    refine K_iload_n 0 dX8_readHill_35 rfl ?_
    refine K_ishl dX8_readHill_36 ?_
    refine K_ior dX8_readHill_37 ?_
    refine K_iast (Ms' := ((up r14 7 (7 : Int32).toNatClampNeg ((r14 7 (7 : Int32).toNatClampNeg) ||| (1 <<< (x13 &&& 31)))) :: q)) dX8_readHill_38 kl_7 (Nat.succ_pos _) rfl ?_
    refine K_nmm (fun w => (w :: q)) rfl (fun w15 => ?_)
    refine K_aload_n 1 dX8_readHill_39 rfl ?_
    refine K_get (v := .ref 7) dX8_readHill_40 fl_X8_22 kl_0 rfl rfl ?_
    refine K_iconst (v := 3) dX8_readHill_43 (by decide) ?_
    refine K_dup2 dX8_readHill_44 rfl rfl ?_
    refine K_iald (f := w15 7) dX8_readHill_45 kl_7 rfl ?_
    refine K_iconst (v := 1) dX8_readHill_46 (by decide) ?_
    refine K_iadd dX8_readHill_47 ?_
    refine K_iast (Ms' := ((up w15 7 (3 : Int32).toNatClampNeg ((w15 7 (3 : Int32).toNatClampNeg) + 1)) :: q)) dX8_readHill_48 kl_7 (Nat.succ_pos _) rfl ?_
    refine K_nmm (fun w => (w :: q)) rfl (fun w16 => ?_)
    exact K_ret (rv := none) dX8_readHill_49 trivial rfl rfl
theorem c_X8_readHill {G : GE} (hj : dj G) (m0 : Mem) (q : List Mem)  {r : Mem} (hr : f_X8_readHill m0 = some r) : Ctr G yX8_readHill (mi_X8_readHill 5) [.ref 0] (m0 :: q) ((e_X8_readHill m0 q) r).1 ((e_X8_readHill m0 q) r).2 := Ctr_of hj (by decide) rfl hr rfl (Nat.le_of_ble_eq_true rfl) (k_X8_readHill m0 q )
abbrev e_X8_kindBy (Ms : List Mem) : Int32 → Option Value × List Mem := fun r => (some (.int r), Ms)
theorem k_X8_kindBy {G : GE} (Ms : List Mem) (x0 : Int64) : K G (mi_X8_kindBy 1) (e_X8_kindBy Ms) 0 [(0, .long x0)] [] Ms (f_X8_kindBy x0) := by
  unfold f_X8_kindBy
  refine K_lload_n 0 dX8_kindBy_0 rfl ?_
  refine K_ldc2 (v := 482854660462) dX8_kindBy_1 cst_X8_147 ?_
  refine K_lcmp dX8_kindBy_4 ?_
  refine K_if_ne 12 dX8_kindBy_5 rfl (fun _ => ?_) (fun _ => ?_)
  · refine K_lload_n 0 dX8_kindBy_12 rfl ?_
    refine K_ldc2 (v := 1936286571) dX8_kindBy_13 cst_X8_149 ?_
    refine K_lcmp dX8_kindBy_16 ?_
    refine K_if_ne 24 dX8_kindBy_17 rfl (fun _ => ?_) (fun _ => ?_)
    · refine K_lload_n 0 dX8_kindBy_24 rfl ?_
      refine K_ldc2 (v := 426953501796) dX8_kindBy_25 cst_X8_151 ?_
      refine K_lcmp dX8_kindBy_28 ?_
      refine K_if_ne 36 dX8_kindBy_29 rfl (fun _ => ?_) (fun _ => ?_)
      · refine K_lload_n 0 dX8_kindBy_36 rfl ?_
        refine K_ldc2 (v := 110442558416242) dX8_kindBy_37 cst_X8_153 ?_
        refine K_lcmp dX8_kindBy_40 ?_
        refine K_if_ne 48 dX8_kindBy_41 rfl (fun _ => ?_) (fun _ => ?_)
        · refine K_lload_n 0 dX8_kindBy_48 rfl ?_
          refine K_ldc2 (v := 8319400174449812850) dX8_kindBy_49 cst_X8_155 ?_
          refine K_lcmp dX8_kindBy_52 ?_
          refine K_if_ne 60 dX8_kindBy_53 rfl (fun _ => ?_) (fun _ => ?_)
          · refine K_ldc (v := (-1000000)) dX8_kindBy_60 cst_X8_104 ?_
            exact K_ret (rv := some (.int (-1000000))) dX8_kindBy_62 rfl rfl rfl
          · refine K_iconst (v := 3) dX8_kindBy_56 (by decide) ?_
            refine K_goto 62 dX8_kindBy_57 rfl ?_
            exact K_ret (rv := some (.int 3)) dX8_kindBy_62 rfl rfl rfl
        · refine K_iconst (v := 2) dX8_kindBy_44 (by decide) ?_
          refine K_goto 62 dX8_kindBy_45 rfl ?_
          exact K_ret (rv := some (.int 2)) dX8_kindBy_62 rfl rfl rfl
      · refine K_iconst (v := 5) dX8_kindBy_32 (by decide) ?_
        refine K_goto 62 dX8_kindBy_33 rfl ?_
        exact K_ret (rv := some (.int 5)) dX8_kindBy_62 rfl rfl rfl
    · refine K_iconst (v := 4) dX8_kindBy_20 (by decide) ?_
      refine K_goto 62 dX8_kindBy_21 rfl ?_
      exact K_ret (rv := some (.int 4)) dX8_kindBy_62 rfl rfl rfl
  · refine K_iconst (v := 1) dX8_kindBy_8 (by decide) ?_
    refine K_goto 62 dX8_kindBy_9 rfl ?_
    exact K_ret (rv := some (.int 1)) dX8_kindBy_62 rfl rfl rfl
theorem c_X8_kindBy {G : GE} (hj : dj G) (Ms : List Mem) (x0 : Int64) {r : Int32} (hr : f_X8_kindBy x0 = some r) : Ctr G yX8_kindBy (mi_X8_kindBy 1) [.long x0] Ms ((e_X8_kindBy Ms) r).1 ((e_X8_kindBy Ms) r).2 := Ctr_of hj (by decide) rfl hr rfl (Nat.le_of_ble_eq_true rfl) (k_X8_kindBy Ms x0)
