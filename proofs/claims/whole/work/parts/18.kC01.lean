abbrev e_X3_clear_2 (m0 m1 m2 m3 m4 m5 m6 m7 m8 m9 m10 m11 : Mem) : Mem → Option Value × List Mem := fun r => (none, [m0, m1, r, m3, m4, m5, m6, m7, m8, m9, m10, m11])
theorem k_X3_clear_2_L51 {G : GE} (m0 m1 m2 m3 m4 m5 m6 m7 m8 m9 m10 m11 : Mem) (k : Int32 → Mem → Option (Mem)) (hk : ∀ (u20 : Int32) (w21 : Mem), K G (mi_X3_clear 2) (e_X3_clear_2 m0 m1 m2 m3 m4 m5 m6 m7 m8 m9 m10 m11) 75 [(0, .ref 2000), (1, .int u20)] [] [m0, m1, w21, m3, m4, m5, m6, m7, m8, m9, m10, m11] (k u20 w21)) : ∀ (t : Nat) (u20 : Int32) (w21 : Mem), K G (mi_X3_clear 2) (e_X3_clear_2 m0 m1 m2 m3 m4 m5 m6 m7 m8 m9 m10 m11) 51 [(0, .ref 2000), (1, .int u20)] [] [m0, m1, w21, m3, m4, m5, m6, m7, m8, m9, m10, m11] (f_X3_clear_L51 k t u20 w21) := by
  intro t
  induction t with
  | zero => intro u20 w21; exact K_none
  | succ t ih =>
    intro u20 w21
    rw [f_X3_clear_L51]
    refine K_iload_n 1 dX3_clear_51 rfl ?_
    refine K_bipush (v := 8) dX3_clear_52 (by decide) ?_
    refine K_icmp_ge 75 dX3_clear_54 rfl (fun _ => ?_) (fun _ => ?_)
    · refine K_loc [0, 1] (lv' := [(0, .ref 2000), (1, .int u20)]) rfl ?_
      exact hk u20 w21
    · refine K_aload_n 0 dX3_clear_57 rfl ?_
      refine K_get (v := .ref 2011) dX3_clear_58 fl_X3_15 kl_2000 rfl rfl ?_
      refine K_iload_n 1 dX3_clear_61 rfl ?_
      refine K_bipush (v := 8) dX3_clear_62 (by decide) ?_
      refine K_imul dX3_clear_64 ?_
      refine K_iload_n 1 dX3_clear_65 rfl ?_
      refine K_iadd dX3_clear_66 ?_
      refine K_iconst (v := 0) dX3_clear_67 (by decide) ?_
      refine K_iast (Ms' := [m0, m1, (up w21 11 ((u20 * 8) + u20).toNatClampNeg 0), m3, m4, m5, m6, m7, m8, m9, m10, m11]) dX3_clear_68 kl_2011 (Nat.le_of_ble_eq_true rfl) rfl ?_
      refine K_nmm (fun w => [m0, m1, w, m3, m4, m5, m6, m7, m8, m9, m10, m11]) rfl (fun w22 => ?_)
      refine K_iinc 1 (w := u20 + 1) (lv' := [(1, .int (u20 + 1)), (0, .ref 2000)]) dX3_clear_69 rfl rfl (by decide) rfl ?_
      refine K_goto 51 dX3_clear_72 rfl ?_
      refine K_loc [1, 0] (lv' := [(0, .ref 2000), (1, .int (u20 + 1))]) rfl ?_
      exact ih (u20 + 1) w22
theorem k_X3_clear_2 {G : GE} (m0 m1 m2 m3 m4 m5 m6 m7 m8 m9 m10 m11 : Mem)  : K G (mi_X3_clear 2) (e_X3_clear_2 m0 m1 m2 m3 m4 m5 m6 m7 m8 m9 m10 m11) 0 [(0, .ref 2000)] [] [m0, m1, m2, m3, m4, m5, m6, m7, m8, m9, m10, m11] (f_X3_clear m2) := by
  unfold f_X3_clear
  refine K_aload_n 0 dX3_clear_0 rfl ?_
  refine K_iconst (v := 0) dX3_clear_1 (by decide) ?_
  refine K_put (Ms' := [m0, m1, (up m2 0 0 0), m3, m4, m5, m6, m7, m8, m9, m10, m11]) dX3_clear_2 fp_X3_9 kl_2000 rfl rfl rfl (Nat.le_of_ble_eq_true rfl) rfl ?_
  refine K_nmm (fun w => [m0, m1, w, m3, m4, m5, m6, m7, m8, m9, m10, m11]) rfl (fun w11 => ?_)
  refine K_aload_n 0 dX3_clear_5 rfl ?_
  refine K_iconst (v := 0) dX3_clear_6 (by decide) ?_
  refine K_put (Ms' := [m0, m1, (up w11 0 3 0), m3, m4, m5, m6, m7, m8, m9, m10, m11]) dX3_clear_7 fp_X3_40 kl_2000 rfl rfl rfl (Nat.le_of_ble_eq_true rfl) rfl ?_
  refine K_nmm (fun w => [m0, m1, w, m3, m4, m5, m6, m7, m8, m9, m10, m11]) rfl (fun w12 => ?_)
  refine K_aload_n 0 dX3_clear_10 rfl ?_
  refine K_iconst (v := 0) dX3_clear_11 (by decide) ?_
  refine K_put (Ms' := [m0, m1, (up w12 0 4 0), m3, m4, m5, m6, m7, m8, m9, m10, m11]) dX3_clear_12 fp_X3_44 kl_2000 rfl rfl rfl (Nat.le_of_ble_eq_true rfl) rfl ?_
  refine K_nmm (fun w => [m0, m1, w, m3, m4, m5, m6, m7, m8, m9, m10, m11]) rfl (fun w13 => ?_)
  refine K_aload_n 0 dX3_clear_15 rfl ?_
  refine K_iconst (v := 0) dX3_clear_16 (by decide) ?_
  refine K_put (Ms' := [m0, m1, (up w13 0 5 0), m3, m4, m5, m6, m7, m8, m9, m10, m11]) dX3_clear_17 fp_X3_47 kl_2000 rfl rfl rfl (Nat.le_of_ble_eq_true rfl) rfl ?_
  refine K_nmm (fun w => [m0, m1, w, m3, m4, m5, m6, m7, m8, m9, m10, m11]) rfl (fun w14 => ?_)
  refine K_aload_n 0 dX3_clear_20 rfl ?_
  refine K_iconst (v := 0) dX3_clear_21 (by decide) ?_
  refine K_put (Ms' := [m0, m1, (up w14 0 6 0), m3, m4, m5, m6, m7, m8, m9, m10, m11]) dX3_clear_22 fp_X3_50 kl_2000 rfl rfl rfl (Nat.le_of_ble_eq_true rfl) rfl ?_
  refine K_nmm (fun w => [m0, m1, w, m3, m4, m5, m6, m7, m8, m9, m10, m11]) rfl (fun w15 => ?_)
  refine K_aload_n 0 dX3_clear_25 rfl ?_
  refine K_iconst (v := 0) dX3_clear_26 (by decide) ?_
  refine K_put (Ms' := [m0, m1, (up w15 0 7 0), m3, m4, m5, m6, m7, m8, m9, m10, m11]) dX3_clear_27 fp_X3_53 kl_2000 rfl rfl rfl (Nat.le_of_ble_eq_true rfl) rfl ?_
  refine K_nmm (fun w => [m0, m1, w, m3, m4, m5, m6, m7, m8, m9, m10, m11]) rfl (fun w16 => ?_)
  refine K_aload_n 0 dX3_clear_30 rfl ?_
  refine K_iconst (v := 0) dX3_clear_31 (by decide) ?_
  refine K_put (Ms' := [m0, m1, (up w16 0 8 0), m3, m4, m5, m6, m7, m8, m9, m10, m11]) dX3_clear_32 fp_X3_56 kl_2000 rfl rfl rfl (Nat.le_of_ble_eq_true rfl) rfl ?_
  refine K_nmm (fun w => [m0, m1, w, m3, m4, m5, m6, m7, m8, m9, m10, m11]) rfl (fun w17 => ?_)
  refine K_aload_n 0 dX3_clear_35 rfl ?_
  refine K_iconst (v := 0) dX3_clear_36 (by decide) ?_
  refine K_put (Ms' := [m0, m1, (up w17 0 9 0), m3, m4, m5, m6, m7, m8, m9, m10, m11]) dX3_clear_37 fp_X3_59 kl_2000 rfl rfl rfl (Nat.le_of_ble_eq_true rfl) rfl ?_
  refine K_nmm (fun w => [m0, m1, w, m3, m4, m5, m6, m7, m8, m9, m10, m11]) rfl (fun w18 => ?_)
  refine K_aload_n 0 dX3_clear_40 rfl ?_
  refine K_get (v := .ref 2011) dX3_clear_41 fl_X3_15 kl_2000 rfl rfl ?_
  refine K_ldc (v := 1000000) dX3_clear_44 cst_X3_62 ?_
  refine K_fill (Ms' := [m0, m1, (upA w18 11 (fillf 64 1000000 (w18 11))), m3, m4, m5, m6, m7, m8, m9, m10, m11]) dX3_clear_46 ml_X3_63 (Nat.le_of_ble_eq_true rfl) (Nat.le_of_ble_eq_true rfl) kl_2011 (Nat.le_of_ble_eq_true rfl) rfl ?_
  refine K_nmm (fun w => [m0, m1, w, m3, m4, m5, m6, m7, m8, m9, m10, m11]) rfl (fun w19 => ?_)
  refine K_iconst (v := 0) dX3_clear_49 (by decide) ?_
  refine K_istore_n (lv' := [(1, .int 0), (0, .ref 2000)]) dX3_clear_50 (by decide) rfl ?_
  refine K_loc [1, 0] (lv' := [(0, .ref 2000), (1, .int 0)]) rfl ?_
  refine k_X3_clear_2_L51  m0 m1 m2 m3 m4 m5 m6 m7 m8 m9 m10 m11  _ (fun u23 w24 => ?_) 100000 0 w19
  refine K_aload_n 0 dX3_clear_75 rfl ?_
  refine K_get (v := .ref 2015) dX3_clear_76 fl_X3_28 kl_2000 rfl rfl ?_
  refine K_iconst (v := 0) dX3_clear_79 (by decide) ?_
  refine K_fill (Ms' := [m0, m1, (upA w24 15 (fillf 7 0 (w24 15))), m3, m4, m5, m6, m7, m8, m9, m10, m11]) dX3_clear_80 ml_X3_63 (Nat.le_of_ble_eq_true rfl) (Nat.le_of_ble_eq_true rfl) kl_2015 (Nat.le_of_ble_eq_true rfl) rfl ?_
  refine K_nmm (fun w => [m0, m1, w, m3, m4, m5, m6, m7, m8, m9, m10, m11]) rfl (fun w25 => ?_)
  exact K_ret (rv := none) dX3_clear_83 trivial rfl rfl
theorem c_X3_clear_2 {G : GE} (hj : dj G) (m0 m1 m2 m3 m4 m5 m6 m7 m8 m9 m10 m11 : Mem)  {r : Mem} (hr : f_X3_clear m2 = some r) : Ctr G yX3_clear (mi_X3_clear 2) [.ref 2000] [m0, m1, m2, m3, m4, m5, m6, m7, m8, m9, m10, m11] ((e_X3_clear_2 m0 m1 m2 m3 m4 m5 m6 m7 m8 m9 m10 m11) r).1 ((e_X3_clear_2 m0 m1 m2 m3 m4 m5 m6 m7 m8 m9 m10 m11) r).2 := Ctr_of hj (by decide) rfl hr rfl (Nat.le_of_ble_eq_true rfl) (k_X3_clear_2 m0 m1 m2 m3 m4 m5 m6 m7 m8 m9 m10 m11 )
abbrev e_X5_isGap (Ms : List Mem) : Int32 → Option Value × List Mem := fun r => (some (.int r), Ms)
theorem k_X5_isGap {G : GE} (Ms : List Mem) (x0 : Int32) : K G (mi_X5_isGap 1) (e_X5_isGap Ms) 0 [(0, .int x0)] [] Ms (f_X5_isGap x0) := by
  unfold f_X5_isGap
  refine K_iload_n 0 dX5_isGap_0 rfl ?_
  refine K_bipush (v := 32) dX5_isGap_1 (by decide) ?_
  refine K_icmp_eq 12 dX5_isGap_3 rfl (fun _ => ?_) (fun _ => ?_)
  · refine K_iconst (v := 1) dX5_isGap_12 (by decide) ?_
    refine K_goto 17 dX5_isGap_13 rfl ?_
    exact K_ret (rv := some (.int 1)) dX5_isGap_17 rfl rfl rfl
  · refine K_iload_n 0 dX5_isGap_6 rfl ?_
    refine K_bipush (v := 10) dX5_isGap_7 (by decide) ?_
    refine K_icmp_ne 16 dX5_isGap_9 rfl (fun _ => ?_) (fun _ => ?_)
    · refine K_iconst (v := 0) dX5_isGap_16 (by decide) ?_
      exact K_ret (rv := some (.int 0)) dX5_isGap_17 rfl rfl rfl
    · refine K_iconst (v := 1) dX5_isGap_12 (by decide) ?_
      refine K_goto 17 dX5_isGap_13 rfl ?_
      exact K_ret (rv := some (.int 1)) dX5_isGap_17 rfl rfl rfl
theorem c_X5_isGap {G : GE} (hj : dj G) (Ms : List Mem) (x0 : Int32) {r : Int32} (hr : f_X5_isGap x0 = some r) : Ctr G yX5_isGap (mi_X5_isGap 1) [.int x0] Ms ((e_X5_isGap Ms) r).1 ((e_X5_isGap Ms) r).2 := Ctr_of hj (by decide) rfl hr rfl (Nat.le_of_ble_eq_true rfl) (k_X5_isGap Ms x0)
abbrev e_X5_isLetter (Ms : List Mem) : Int32 → Option Value × List Mem := fun r => (some (.int r), Ms)
theorem k_X5_isLetter {G : GE} (Ms : List Mem) (x0 : Int32) : K G (mi_X5_isLetter 1) (e_X5_isLetter Ms) 0 [(0, .int x0)] [] Ms (f_X5_isLetter x0) := by
  unfold f_X5_isLetter
  refine K_iload_n 0 dX5_isLetter_0 rfl ?_
  refine K_bipush (v := 97) dX5_isLetter_1 (by decide) ?_
  refine K_icmp_lt 16 dX5_isLetter_3 rfl (fun _ => ?_) (fun _ => ?_)
  · refine K_iconst (v := 0) dX5_isLetter_16 (by decide) ?_
    exact K_ret (rv := some (.int 0)) dX5_isLetter_17 rfl rfl rfl
  · refine K_iload_n 0 dX5_isLetter_6 rfl ?_
    refine K_bipush (v := 122) dX5_isLetter_7 (by decide) ?_
    refine K_icmp_gt 16 dX5_isLetter_9 rfl (fun _ => ?_) (fun _ => ?_)
    · refine K_iconst (v := 0) dX5_isLetter_16 (by decide) ?_
      exact K_ret (rv := some (.int 0)) dX5_isLetter_17 rfl rfl rfl
    · refine K_iconst (v := 1) dX5_isLetter_12 (by decide) ?_
      refine K_goto 17 dX5_isLetter_13 rfl ?_
      exact K_ret (rv := some (.int 1)) dX5_isLetter_17 rfl rfl rfl
theorem c_X5_isLetter {G : GE} (hj : dj G) (Ms : List Mem) (x0 : Int32) {r : Int32} (hr : f_X5_isLetter x0 = some r) : Ctr G yX5_isLetter (mi_X5_isLetter 1) [.int x0] Ms ((e_X5_isLetter Ms) r).1 ((e_X5_isLetter Ms) r).2 := Ctr_of hj (by decide) rfl hr rfl (Nat.le_of_ble_eq_true rfl) (k_X5_isLetter Ms x0)
abbrev e_X5_readLetters (m0 m1 m2 m3 m4 m5 m6 m7 m8 m9 m10 m11 : Mem) : Mem → Option Value × List Mem := fun r => (none, [m0, m1, m2, m3, r, m5, m6, m7, m8, m9, m10, m11])
theorem k_X5_readLetters_L5 {G : GE} (m0 m1 m2 m3 m4 m5 m6 m7 m8 m9 m10 m11 : Mem) (k : Mem → Option (Mem)) (hk : ∀ (w12 : Mem), K G (mi_X5_readLetters 2) (e_X5_readLetters m0 m1 m2 m3 m4 m5 m6 m7 m8 m9 m10 m11) 44 [(0, .ref 4000)] [] [m0, m1, m2, m3, w12, m5, m6, m7, m8, m9, m10, m11] (k w12)) : ∀ (t : Nat) (w12 : Mem), K G (mi_X5_readLetters 2) (e_X5_readLetters m0 m1 m2 m3 m4 m5 m6 m7 m8 m9 m10 m11) 5 [(0, .ref 4000)] [] [m0, m1, m2, m3, w12, m5, m6, m7, m8, m9, m10, m11] (f_X5_readLetters_L5 k t w12) := by
  intro t
  induction t with
  | zero => intro w12; exact K_none
  | succ t ih =>
    intro w12
    rw [f_X5_readLetters_L5]
    refine K_aload_n 0 dX5_readLetters_5 rfl ?_
    refine K_get (v := .int (w12 0 6)) dX5_readLetters_6 fl_X5_26 kl_4000 rfl rfl ?_
    refine K_aload_n 0 dX5_readLetters_9 rfl ?_
    refine K_get (v := .int (w12 0 1)) dX5_readLetters_10 fl_X5_15 kl_4000 rfl rfl ?_
    refine K_icmp_ge 44 dX5_readLetters_13 rfl (fun _ => ?_) (fun _ => ?_)
    · refine K_loc [0] (lv' := [(0, .ref 4000)]) rfl ?_
      exact hk w12
    · refine K_aload_n 0 dX5_readLetters_16 rfl ?_
      refine K_get (v := .ref 4001) dX5_readLetters_17 fl_X5_9 kl_4000 rfl rfl ?_
      refine K_aload_n 0 dX5_readLetters_20 rfl ?_
      refine K_get (v := .int (w12 0 6)) dX5_readLetters_21 fl_X5_26 kl_4000 rfl rfl ?_
      refine K_bald (f := w12 1) dX5_readLetters_24 kl_4001 rfl ?_
      refine K_callS (E' := e_X5_isLetter [m0, m1, m2, m3, w12, m5, m6, m7, m8, m9, m10, m11]) (As := [.int (w12 1 (w12 0 6).toNatClampNeg)]) (rest := []) dX5_readLetters_25 ml_X5_167 (mf_X5_isLetter 1) ms_X5_isLetter (fun hj r hr => c_X5_isLetter hj [m0, m1, m2, m3, w12, m5, m6, m7, m8, m9, m10, m11] (w12 1 (w12 0 6).toNatClampNeg) hr) rfl rfl (Nat.le_of_ble_eq_true rfl) (Nat.le_of_ble_eq_true rfl) (fun r13 => ?_)
      show K G (mi_X5_readLetters 2) (e_X5_readLetters m0 m1 m2 m3 m4 m5 m6 m7 m8 m9 m10 m11) 28 [(0, .ref 4000)] [.int r13] [m0, m1, m2, m3, w12, m5, m6, m7, m8, m9, m10, m11] _
      refine K_if_eq 44 dX5_readLetters_28 rfl (fun _ => ?_) (fun _ => ?_)
      · refine K_loc [0] (lv' := [(0, .ref 4000)]) rfl ?_
        exact hk w12
      · refine K_aload_n 0 dX5_readLetters_31 rfl ?_
        refine K_dup dX5_readLetters_32 rfl ?_
        refine K_get (v := .int (w12 0 6)) dX5_readLetters_33 fl_X5_26 kl_4000 rfl rfl ?_
        refine K_iconst (v := 1) dX5_readLetters_36 (by decide) ?_
        refine K_iadd dX5_readLetters_37 ?_
        refine K_put (Ms' := [m0, m1, m2, m3, (up w12 0 6 ((w12 0 6) + 1)), m5, m6, m7, m8, m9, m10, m11]) dX5_readLetters_38 fp_X5_26 kl_4000 rfl rfl rfl (Nat.le_of_ble_eq_true rfl) rfl ?_
        refine K_nmm (fun w => [m0, m1, m2, m3, w, m5, m6, m7, m8, m9, m10, m11]) rfl (fun w14 => ?_)
        refine K_goto 5 dX5_readLetters_41 rfl ?_
        refine K_loc [0] (lv' := [(0, .ref 4000)]) rfl ?_
        exact ih w14
theorem k_X5_readLetters {G : GE} (m0 m1 m2 m3 m4 m5 m6 m7 m8 m9 m10 m11 : Mem)  : K G (mi_X5_readLetters 2) (e_X5_readLetters m0 m1 m2 m3 m4 m5 m6 m7 m8 m9 m10 m11) 0 [(0, .ref 4000)] [] [m0, m1, m2, m3, m4, m5, m6, m7, m8, m9, m10, m11] (f_X5_readLetters m4) := by
  unfold f_X5_readLetters
  refine K_aload_n 0 dX5_readLetters_0 rfl ?_
  refine K_iconst (v := 1) dX5_readLetters_1 (by decide) ?_
  refine K_put (Ms' := [m0, m1, m2, m3, (up m4 0 4 1), m5, m6, m7, m8, m9, m10, m11]) dX5_readLetters_2 fp_X5_44 kl_4000 rfl rfl rfl (Nat.le_of_ble_eq_true rfl) rfl ?_
  refine K_nmm (fun w => [m0, m1, m2, m3, w, m5, m6, m7, m8, m9, m10, m11]) rfl (fun w11 => ?_)
  refine K_loc [0] (lv' := [(0, .ref 4000)]) rfl ?_
  refine k_X5_readLetters_L5  m0 m1 m2 m3 m4 m5 m6 m7 m8 m9 m10 m11  _ (fun w15 => ?_) 100000 w11
  exact K_ret (rv := none) dX5_readLetters_44 trivial rfl rfl
theorem c_X5_readLetters {G : GE} (hj : dj G) (m0 m1 m2 m3 m4 m5 m6 m7 m8 m9 m10 m11 : Mem)  {r : Mem} (hr : f_X5_readLetters m4 = some r) : Ctr G yX5_readLetters (mi_X5_readLetters 2) [.ref 4000] [m0, m1, m2, m3, m4, m5, m6, m7, m8, m9, m10, m11] ((e_X5_readLetters m0 m1 m2 m3 m4 m5 m6 m7 m8 m9 m10 m11) r).1 ((e_X5_readLetters m0 m1 m2 m3 m4 m5 m6 m7 m8 m9 m10 m11) r).2 := Ctr_of hj (by decide) rfl hr rfl (Nat.le_of_ble_eq_true rfl) (k_X5_readLetters m0 m1 m2 m3 m4 m5 m6 m7 m8 m9 m10 m11 )
abbrev e_X5_isFigure (Ms : List Mem) : Int32 → Option Value × List Mem := fun r => (some (.int r), Ms)
theorem k_X5_isFigure {G : GE} (Ms : List Mem) (x0 : Int32) : K G (mi_X5_isFigure 1) (e_X5_isFigure Ms) 0 [(0, .int x0)] [] Ms (f_X5_isFigure x0) := by
  unfold f_X5_isFigure
  refine K_iload_n 0 dX5_isFigure_0 rfl ?_
  refine K_bipush (v := 48) dX5_isFigure_1 (by decide) ?_
  refine K_icmp_lt 16 dX5_isFigure_3 rfl (fun _ => ?_) (fun _ => ?_)
  · refine K_iconst (v := 0) dX5_isFigure_16 (by decide) ?_
    exact K_ret (rv := some (.int 0)) dX5_isFigure_17 rfl rfl rfl
  · refine K_iload_n 0 dX5_isFigure_6 rfl ?_
    refine K_bipush (v := 57) dX5_isFigure_7 (by decide) ?_
    refine K_icmp_gt 16 dX5_isFigure_9 rfl (fun _ => ?_) (fun _ => ?_)
    · refine K_iconst (v := 0) dX5_isFigure_16 (by decide) ?_
      exact K_ret (rv := some (.int 0)) dX5_isFigure_17 rfl rfl rfl
    · refine K_iconst (v := 1) dX5_isFigure_12 (by decide) ?_
      refine K_goto 17 dX5_isFigure_13 rfl ?_
      exact K_ret (rv := some (.int 1)) dX5_isFigure_17 rfl rfl rfl
theorem c_X5_isFigure {G : GE} (hj : dj G) (Ms : List Mem) (x0 : Int32) {r : Int32} (hr : f_X5_isFigure x0 = some r) : Ctr G yX5_isFigure (mi_X5_isFigure 1) [.int x0] Ms ((e_X5_isFigure Ms) r).1 ((e_X5_isFigure Ms) r).2 := Ctr_of hj (by decide) rfl hr rfl (Nat.le_of_ble_eq_true rfl) (k_X5_isFigure Ms x0)
abbrev e_X5_readFigures (m0 m1 m2 m3 m4 m5 m6 m7 m8 m9 m10 m11 : Mem) : Mem → Option Value × List Mem := fun r => (none, [m0, m1, m2, m3, r, m5, m6, m7, m8, m9, m10, m11])
theorem k_X5_readFigures_L5 {G : GE} (m0 m1 m2 m3 m4 m5 m6 m7 m8 m9 m10 m11 : Mem) (k : Mem → Option (Mem)) (hk : ∀ (w12 : Mem), K G (mi_X5_readFigures 2) (e_X5_readFigures m0 m1 m2 m3 m4 m5 m6 m7 m8 m9 m10 m11) 81 [(0, .ref 4000)] [] [m0, m1, m2, m3, w12, m5, m6, m7, m8, m9, m10, m11] (k w12)) : ∀ (t : Nat) (w12 : Mem), K G (mi_X5_readFigures 2) (e_X5_readFigures m0 m1 m2 m3 m4 m5 m6 m7 m8 m9 m10 m11) 5 [(0, .ref 4000)] [] [m0, m1, m2, m3, w12, m5, m6, m7, m8, m9, m10, m11] (f_X5_readFigures_L5 k t w12) := by
  intro t
  induction t with
  | zero => intro w12; exact K_none
  | succ t ih =>
    intro w12
    rw [f_X5_readFigures_L5]
    refine K_aload_n 0 dX5_readFigures_5 rfl ?_
    refine K_get (v := .int (w12 0 6)) dX5_readFigures_6 fl_X5_26 kl_4000 rfl rfl ?_
    refine K_aload_n 0 dX5_readFigures_9 rfl ?_
    refine K_get (v := .int (w12 0 1)) dX5_readFigures_10 fl_X5_15 kl_4000 rfl rfl ?_
    refine K_icmp_ge 81 dX5_readFigures_13 rfl (fun _ => ?_) (fun _ => ?_)
    · refine K_loc [0] (lv' := [(0, .ref 4000)]) rfl ?_
      exact hk w12
    · refine K_aload_n 0 dX5_readFigures_16 rfl ?_
      refine K_get (v := .ref 4001) dX5_readFigures_17 fl_X5_9 kl_4000 rfl rfl ?_
      refine K_aload_n 0 dX5_readFigures_20 rfl ?_
      refine K_get (v := .int (w12 0 6)) dX5_readFigures_21 fl_X5_26 kl_4000 rfl rfl ?_
      refine K_bald (f := w12 1) dX5_readFigures_24 kl_4001 rfl ?_
      refine K_callS (E' := e_X5_isFigure [m0, m1, m2, m3, w12, m5, m6, m7, m8, m9, m10, m11]) (As := [.int (w12 1 (w12 0 6).toNatClampNeg)]) (rest := []) dX5_readFigures_25 ml_X5_173 (mf_X5_isFigure 1) ms_X5_isFigure (fun hj r hr => c_X5_isFigure hj [m0, m1, m2, m3, w12, m5, m6, m7, m8, m9, m10, m11] (w12 1 (w12 0 6).toNatClampNeg) hr) rfl rfl (Nat.le_of_ble_eq_true rfl) (Nat.le_of_ble_eq_true rfl) (fun r13 => ?_)
      show K G (mi_X5_readFigures 2) (e_X5_readFigures m0 m1 m2 m3 m4 m5 m6 m7 m8 m9 m10 m11) 28 [(0, .ref 4000)] [.int r13] [m0, m1, m2, m3, w12, m5, m6, m7, m8, m9, m10, m11] _
      refine K_if_eq 81 dX5_readFigures_28 rfl (fun _ => ?_) (fun _ => ?_)
      · refine K_loc [0] (lv' := [(0, .ref 4000)]) rfl ?_
        exact hk w12
      · refine K_aload_n 0 dX5_readFigures_31 rfl ?_
        refine K_get (v := .int (w12 0 6)) dX5_readFigures_32 fl_X5_26 kl_4000 rfl rfl ?_
        refine K_aload_n 0 dX5_readFigures_35 rfl ?_
        refine K_get (v := .int (w12 0 5)) dX5_readFigures_36 fl_X5_160 kl_4000 rfl rfl ?_
        refine K_isub dX5_readFigures_39 ?_
        refine K_iconst (v := 3) dX5_readFigures_40 (by decide) ?_
        refine K_icmp_ge 68 dX5_readFigures_41 rfl (fun _ => ?_) (fun _ => ?_)
        · refine K_aload_n 0 dX5_readFigures_68 rfl ?_
          refine K_dup dX5_readFigures_69 rfl ?_
          refine K_get (v := .int (w12 0 6)) dX5_readFigures_70 fl_X5_26 kl_4000 rfl rfl ?_
          refine K_iconst (v := 1) dX5_readFigures_73 (by decide) ?_
          refine K_iadd dX5_readFigures_74 ?_
          refine K_put (Ms' := [m0, m1, m2, m3, (up w12 0 6 ((w12 0 6) + 1)), m5, m6, m7, m8, m9, m10, m11]) dX5_readFigures_75 fp_X5_26 kl_4000 rfl rfl rfl (Nat.le_of_ble_eq_true rfl) rfl ?_
          refine K_nmm (fun w => [m0, m1, m2, m3, w, m5, m6, m7, m8, m9, m10, m11]) rfl (fun w14 => ?_)
          refine K_goto 5 dX5_readFigures_78 rfl ?_
          refine K_loc [0] (lv' := [(0, .ref 4000)]) rfl ?_
          exact ih w14
        · refine K_aload_n 0 dX5_readFigures_44 rfl ?_
          refine K_bipush (v := 10) dX5_readFigures_45 (by decide) ?_
          refine K_aload_n 0 dX5_readFigures_47 rfl ?_
          refine K_get (v := .int (w12 0 7)) dX5_readFigures_48 fl_X5_67 kl_4000 rfl rfl ?_
          refine K_imul dX5_readFigures_51 ?_
          refine K_aload_n 0 dX5_readFigures_52 rfl ?_
          refine K_get (v := .ref 4001) dX5_readFigures_53 fl_X5_9 kl_4000 rfl rfl ?_
          refine K_aload_n 0 dX5_readFigures_56 rfl ?_
          refine K_get (v := .int (w12 0 6)) dX5_readFigures_57 fl_X5_26 kl_4000 rfl rfl ?_
          refine K_bald (f := w12 1) dX5_readFigures_60 kl_4001 rfl ?_
          refine K_iadd dX5_readFigures_61 ?_
          refine K_bipush (v := 48) dX5_readFigures_62 (by decide) ?_
          refine K_isub dX5_readFigures_64 ?_
          refine K_put (Ms' := [m0, m1, m2, m3, (up w12 0 7 (((10 * (w12 0 7)) + (w12 1 (w12 0 6).toNatClampNeg)) - 48)), m5, m6, m7, m8, m9, m10, m11]) dX5_readFigures_65 fp_X5_67 kl_4000 rfl rfl rfl (Nat.le_of_ble_eq_true rfl) rfl ?_
          refine K_nmm (fun w => [m0, m1, m2, m3, w, m5, m6, m7, m8, m9, m10, m11]) rfl (fun w15 => ?_)
          refine K_aload_n 0 dX5_readFigures_68 rfl ?_
          refine K_dup dX5_readFigures_69 rfl ?_
          refine K_get (v := .int (w15 0 6)) dX5_readFigures_70 fl_X5_26 kl_4000 rfl rfl ?_
          refine K_iconst (v := 1) dX5_readFigures_73 (by decide) ?_
          refine K_iadd dX5_readFigures_74 ?_
          refine K_put (Ms' := [m0, m1, m2, m3, (up w15 0 6 ((w15 0 6) + 1)), m5, m6, m7, m8, m9, m10, m11]) dX5_readFigures_75 fp_X5_26 kl_4000 rfl rfl rfl (Nat.le_of_ble_eq_true rfl) rfl ?_
          refine K_nmm (fun w => [m0, m1, m2, m3, w, m5, m6, m7, m8, m9, m10, m11]) rfl (fun w16 => ?_)
          refine K_goto 5 dX5_readFigures_78 rfl ?_
          refine K_loc [0] (lv' := [(0, .ref 4000)]) rfl ?_
          exact ih w16
theorem k_X5_readFigures {G : GE} (m0 m1 m2 m3 m4 m5 m6 m7 m8 m9 m10 m11 : Mem)  : K G (mi_X5_readFigures 2) (e_X5_readFigures m0 m1 m2 m3 m4 m5 m6 m7 m8 m9 m10 m11) 0 [(0, .ref 4000)] [] [m0, m1, m2, m3, m4, m5, m6, m7, m8, m9, m10, m11] (f_X5_readFigures m4) := by
  unfold f_X5_readFigures
  refine K_aload_n 0 dX5_readFigures_0 rfl ?_
  refine K_iconst (v := 0) dX5_readFigures_1 (by decide) ?_
  refine K_put (Ms' := [m0, m1, m2, m3, (up m4 0 7 0), m5, m6, m7, m8, m9, m10, m11]) dX5_readFigures_2 fp_X5_67 kl_4000 rfl rfl rfl (Nat.le_of_ble_eq_true rfl) rfl ?_
  refine K_nmm (fun w => [m0, m1, m2, m3, w, m5, m6, m7, m8, m9, m10, m11]) rfl (fun w11 => ?_)
  refine K_loc [0] (lv' := [(0, .ref 4000)]) rfl ?_
  refine k_X5_readFigures_L5  m0 m1 m2 m3 m4 m5 m6 m7 m8 m9 m10 m11  _ (fun w17 => ?_) 100000 w11
  refine K_aload_n 0 dX5_readFigures_81 rfl ?_
  refine K_aload_n 0 dX5_readFigures_82 rfl ?_
  refine K_get (v := .int (w17 0 6)) dX5_readFigures_83 fl_X5_26 kl_4000 rfl rfl ?_
  refine K_aload_n 0 dX5_readFigures_86 rfl ?_
  refine K_get (v := .int (w17 0 5)) dX5_readFigures_87 fl_X5_160 kl_4000 rfl rfl ?_
  refine K_isub dX5_readFigures_90 ?_
  refine K_iconst (v := 3) dX5_readFigures_91 (by decide) ?_
  refine K_icmp_gt 99 dX5_readFigures_92 rfl (fun _ => ?_) (fun _ => ?_)
  · refine K_iconst (v := 4) dX5_readFigures_99 (by decide) ?_
    refine K_put (Ms' := [m0, m1, m2, m3, (up w17 0 4 4), m5, m6, m7, m8, m9, m10, m11]) dX5_readFigures_100 fp_X5_44 kl_4000 rfl rfl rfl (Nat.le_of_ble_eq_true rfl) rfl ?_
    refine K_nmm (fun w => [m0, m1, m2, m3, w, m5, m6, m7, m8, m9, m10, m11]) rfl (fun w18 => ?_)
    exact K_ret (rv := none) dX5_readFigures_103 trivial rfl rfl
  · refine K_iconst (v := 2) dX5_readFigures_95 (by decide) ?_
    refine K_goto 100 dX5_readFigures_96 rfl ?_
    refine K_put (Ms' := [m0, m1, m2, m3, (up w17 0 4 2), m5, m6, m7, m8, m9, m10, m11]) dX5_readFigures_100 fp_X5_44 kl_4000 rfl rfl rfl (Nat.le_of_ble_eq_true rfl) rfl ?_
    refine K_nmm (fun w => [m0, m1, m2, m3, w, m5, m6, m7, m8, m9, m10, m11]) rfl (fun w19 => ?_)
    exact K_ret (rv := none) dX5_readFigures_103 trivial rfl rfl
theorem c_X5_readFigures {G : GE} (hj : dj G) (m0 m1 m2 m3 m4 m5 m6 m7 m8 m9 m10 m11 : Mem)  {r : Mem} (hr : f_X5_readFigures m4 = some r) : Ctr G yX5_readFigures (mi_X5_readFigures 2) [.ref 4000] [m0, m1, m2, m3, m4, m5, m6, m7, m8, m9, m10, m11] ((e_X5_readFigures m0 m1 m2 m3 m4 m5 m6 m7 m8 m9 m10 m11) r).1 ((e_X5_readFigures m0 m1 m2 m3 m4 m5 m6 m7 m8 m9 m10 m11) r).2 := Ctr_of hj (by decide) rfl hr rfl (Nat.le_of_ble_eq_true rfl) (k_X5_readFigures m0 m1 m2 m3 m4 m5 m6 m7 m8 m9 m10 m11 )
abbrev e_X5_readToken (m0 m1 m2 m3 m4 m5 m6 m7 m8 m9 m10 m11 : Mem) : Mem → Option Value × List Mem := fun r => (none, [m0, m1, m2, m3, r, m5, m6, m7, m8, m9, m10, m11])
theorem k_X5_readToken_L8 {G : GE} (m0 m1 m2 m3 m4 m5 m6 m7 m8 m9 m10 m11 : Mem) (k : Mem → Option (Mem)) (hk : ∀ (w12 : Mem), K G (mi_X5_readToken 3) (e_X5_readToken m0 m1 m2 m3 m4 m5 m6 m7 m8 m9 m10 m11) 47 [(0, .ref 4000)] [] [m0, m1, m2, m3, w12, m5, m6, m7, m8, m9, m10, m11] (k w12)) : ∀ (t : Nat) (w12 : Mem), K G (mi_X5_readToken 3) (e_X5_readToken m0 m1 m2 m3 m4 m5 m6 m7 m8 m9 m10 m11) 8 [(0, .ref 4000)] [] [m0, m1, m2, m3, w12, m5, m6, m7, m8, m9, m10, m11] (f_X5_readToken_L8 k t w12) := by
  intro t
  induction t with
  | zero => intro w12; exact K_none
  | succ t ih =>
    intro w12
    rw [f_X5_readToken_L8]
    refine K_aload_n 0 dX5_readToken_8 rfl ?_
    refine K_get (v := .int (w12 0 5)) dX5_readToken_9 fl_X5_160 kl_4000 rfl rfl ?_
    refine K_aload_n 0 dX5_readToken_12 rfl ?_
    refine K_get (v := .int (w12 0 1)) dX5_readToken_13 fl_X5_15 kl_4000 rfl rfl ?_
    refine K_icmp_ge 47 dX5_readToken_16 rfl (fun _ => ?_) (fun _ => ?_)
    · refine K_loc [0] (lv' := [(0, .ref 4000)]) rfl ?_
      exact hk w12
    · refine K_aload_n 0 dX5_readToken_19 rfl ?_
      refine K_get (v := .ref 4001) dX5_readToken_20 fl_X5_9 kl_4000 rfl rfl ?_
      refine K_aload_n 0 dX5_readToken_23 rfl ?_
      refine K_get (v := .int (w12 0 5)) dX5_readToken_24 fl_X5_160 kl_4000 rfl rfl ?_
      refine K_bald (f := w12 1) dX5_readToken_27 kl_4001 rfl ?_
      refine K_callS (E' := e_X5_isGap [m0, m1, m2, m3, w12, m5, m6, m7, m8, m9, m10, m11]) (As := [.int (w12 1 (w12 0 5).toNatClampNeg)]) (rest := []) dX5_readToken_28 ml_X5_163 (mf_X5_isGap 1) ms_X5_isGap (fun hj r hr => c_X5_isGap hj [m0, m1, m2, m3, w12, m5, m6, m7, m8, m9, m10, m11] (w12 1 (w12 0 5).toNatClampNeg) hr) rfl rfl (Nat.le_of_ble_eq_true rfl) (Nat.le_of_ble_eq_true rfl) (fun r13 => ?_)
      show K G (mi_X5_readToken 3) (e_X5_readToken m0 m1 m2 m3 m4 m5 m6 m7 m8 m9 m10 m11) 31 [(0, .ref 4000)] [.int r13] [m0, m1, m2, m3, w12, m5, m6, m7, m8, m9, m10, m11] _
      refine K_if_eq 47 dX5_readToken_31 rfl (fun _ => ?_) (fun _ => ?_)
      · refine K_loc [0] (lv' := [(0, .ref 4000)]) rfl ?_
        exact hk w12
      · refine K_aload_n 0 dX5_readToken_34 rfl ?_
        refine K_dup dX5_readToken_35 rfl ?_
        refine K_get (v := .int (w12 0 5)) dX5_readToken_36 fl_X5_160 kl_4000 rfl rfl ?_
        refine K_iconst (v := 1) dX5_readToken_39 (by decide) ?_
        refine K_iadd dX5_readToken_40 ?_
        refine K_put (Ms' := [m0, m1, m2, m3, (up w12 0 5 ((w12 0 5) + 1)), m5, m6, m7, m8, m9, m10, m11]) dX5_readToken_41 fp_X5_160 kl_4000 rfl rfl rfl (Nat.le_of_ble_eq_true rfl) rfl ?_
        refine K_nmm (fun w => [m0, m1, m2, m3, w, m5, m6, m7, m8, m9, m10, m11]) rfl (fun w14 => ?_)
        refine K_goto 8 dX5_readToken_44 rfl ?_
        refine K_loc [0] (lv' := [(0, .ref 4000)]) rfl ?_
        exact ih w14
theorem k_X5_readToken {G : GE} (m0 m1 m2 m3 m4 m5 m6 m7 m8 m9 m10 m11 : Mem)  : K G (mi_X5_readToken 3) (e_X5_readToken m0 m1 m2 m3 m4 m5 m6 m7 m8 m9 m10 m11) 0 [(0, .ref 4000)] [] [m0, m1, m2, m3, m4, m5, m6, m7, m8, m9, m10, m11] (f_X5_readToken m4) := by
  unfold f_X5_readToken
  refine K_aload_n 0 dX5_readToken_0 rfl ?_
  refine K_aload_n 0 dX5_readToken_1 rfl ?_
  refine K_get (v := .int (m4 0 6)) dX5_readToken_2 fl_X5_26 kl_4000 rfl rfl ?_
  refine K_put (Ms' := [m0, m1, m2, m3, (up m4 0 5 (m4 0 6)), m5, m6, m7, m8, m9, m10, m11]) dX5_readToken_5 fp_X5_160 kl_4000 rfl rfl rfl (Nat.le_of_ble_eq_true rfl) rfl ?_
  refine K_nmm (fun w => [m0, m1, m2, m3, w, m5, m6, m7, m8, m9, m10, m11]) rfl (fun w11 => ?_)
  refine K_loc [0] (lv' := [(0, .ref 4000)]) rfl ?_
  refine k_X5_readToken_L8  m0 m1 m2 m3 m4 m5 m6 m7 m8 m9 m10 m11  _ (fun w15 => ?_) 100000 w11
  refine K_aload_n 0 dX5_readToken_47 rfl ?_
  refine K_aload_n 0 dX5_readToken_48 rfl ?_
  refine K_get (v := .int (w15 0 5)) dX5_readToken_49 fl_X5_160 kl_4000 rfl rfl ?_
  refine K_put (Ms' := [m0, m1, m2, m3, (up w15 0 6 (w15 0 5)), m5, m6, m7, m8, m9, m10, m11]) dX5_readToken_52 fp_X5_26 kl_4000 rfl rfl rfl (Nat.le_of_ble_eq_true rfl) rfl ?_
  refine K_nmm (fun w => [m0, m1, m2, m3, w, m5, m6, m7, m8, m9, m10, m11]) rfl (fun w16 => ?_)
  refine K_aload_n 0 dX5_readToken_55 rfl ?_
  refine K_get (v := .int (w16 0 5)) dX5_readToken_56 fl_X5_160 kl_4000 rfl rfl ?_
  refine K_aload_n 0 dX5_readToken_59 rfl ?_
  refine K_get (v := .int (w16 0 1)) dX5_readToken_60 fl_X5_15 kl_4000 rfl rfl ?_
  refine K_icmp_lt 74 dX5_readToken_63 rfl (fun _ => ?_) (fun _ => ?_)
  · refine K_aload_n 0 dX5_readToken_74 rfl ?_
    refine K_get (v := .ref 4001) dX5_readToken_75 fl_X5_9 kl_4000 rfl rfl ?_
    refine K_aload_n 0 dX5_readToken_78 rfl ?_
    refine K_get (v := .int (w16 0 5)) dX5_readToken_79 fl_X5_160 kl_4000 rfl rfl ?_
    refine K_bald (f := w16 1) dX5_readToken_82 kl_4001 rfl ?_
    refine K_callS (E' := e_X5_isLetter [m0, m1, m2, m3, w16, m5, m6, m7, m8, m9, m10, m11]) (As := [.int (w16 1 (w16 0 5).toNatClampNeg)]) (rest := []) dX5_readToken_83 ml_X5_167 (mf_X5_isLetter 1) ms_X5_isLetter (fun hj r hr => c_X5_isLetter hj [m0, m1, m2, m3, w16, m5, m6, m7, m8, m9, m10, m11] (w16 1 (w16 0 5).toNatClampNeg) hr) rfl rfl (Nat.le_of_ble_eq_true rfl) (Nat.le_of_ble_eq_true rfl) (fun r17 => ?_)
    show K G (mi_X5_readToken 3) (e_X5_readToken m0 m1 m2 m3 m4 m5 m6 m7 m8 m9 m10 m11) 86 [(0, .ref 4000)] [.int r17] [m0, m1, m2, m3, w16, m5, m6, m7, m8, m9, m10, m11] _
    refine K_if_eq 96 dX5_readToken_86 rfl (fun _ => ?_) (fun _ => ?_)
    · refine K_aload_n 0 dX5_readToken_96 rfl ?_
      refine K_get (v := .ref 4001) dX5_readToken_97 fl_X5_9 kl_4000 rfl rfl ?_
      refine K_aload_n 0 dX5_readToken_100 rfl ?_
      refine K_get (v := .int (w16 0 5)) dX5_readToken_101 fl_X5_160 kl_4000 rfl rfl ?_
      refine K_bald (f := w16 1) dX5_readToken_104 kl_4001 rfl ?_
      refine K_callS (E' := e_X5_isFigure [m0, m1, m2, m3, w16, m5, m6, m7, m8, m9, m10, m11]) (As := [.int (w16 1 (w16 0 5).toNatClampNeg)]) (rest := []) dX5_readToken_105 ml_X5_173 (mf_X5_isFigure 1) ms_X5_isFigure (fun hj r hr => c_X5_isFigure hj [m0, m1, m2, m3, w16, m5, m6, m7, m8, m9, m10, m11] (w16 1 (w16 0 5).toNatClampNeg) hr) rfl rfl (Nat.le_of_ble_eq_true rfl) (Nat.le_of_ble_eq_true rfl) (fun r18 => ?_)
      show K G (mi_X5_readToken 3) (e_X5_readToken m0 m1 m2 m3 m4 m5 m6 m7 m8 m9 m10 m11) 108 [(0, .ref 4000)] [.int r18] [m0, m1, m2, m3, w16, m5, m6, m7, m8, m9, m10, m11] _
      refine K_if_eq 118 dX5_readToken_108 rfl (fun _ => ?_) (fun _ => ?_)
      · refine K_aload_n 0 dX5_readToken_118 rfl ?_
        refine K_aload_n 0 dX5_readToken_119 rfl ?_
        refine K_get (v := .ref 4001) dX5_readToken_120 fl_X5_9 kl_4000 rfl rfl ?_
        refine K_aload_n 0 dX5_readToken_123 rfl ?_
        refine K_get (v := .int (w16 0 5)) dX5_readToken_124 fl_X5_160 kl_4000 rfl rfl ?_
        refine K_bald (f := w16 1) dX5_readToken_127 kl_4001 rfl ?_
        refine K_bipush (v := 59) dX5_readToken_128 (by decide) ?_
        refine K_icmp_ne 137 dX5_readToken_130 rfl (fun _ => ?_) (fun _ => ?_)
        · refine K_iconst (v := 4) dX5_readToken_137 (by decide) ?_
          refine K_put (Ms' := [m0, m1, m2, m3, (up w16 0 4 4), m5, m6, m7, m8, m9, m10, m11]) dX5_readToken_138 fp_X5_44 kl_4000 rfl rfl rfl (Nat.le_of_ble_eq_true rfl) rfl ?_
          refine K_nmm (fun w => [m0, m1, m2, m3, w, m5, m6, m7, m8, m9, m10, m11]) rfl (fun w19 => ?_)
          refine K_aload_n 0 dX5_readToken_141 rfl ?_
          refine K_dup dX5_readToken_142 rfl ?_
          refine K_get (v := .int (w19 0 6)) dX5_readToken_143 fl_X5_26 kl_4000 rfl rfl ?_
          refine K_iconst (v := 1) dX5_readToken_146 (by decide) ?_
          refine K_iadd dX5_readToken_147 ?_
          refine K_put (Ms' := [m0, m1, m2, m3, (up w19 0 6 ((w19 0 6) + 1)), m5, m6, m7, m8, m9, m10, m11]) dX5_readToken_148 fp_X5_26 kl_4000 rfl rfl rfl (Nat.le_of_ble_eq_true rfl) rfl ?_
          refine K_nmm (fun w => [m0, m1, m2, m3, w, m5, m6, m7, m8, m9, m10, m11]) rfl (fun w20 => ?_)
          exact K_ret (rv := none) dX5_readToken_151 trivial rfl rfl
        · refine K_iconst (v := 3) dX5_readToken_133 (by decide) ?_
          refine K_goto 138 dX5_readToken_134 rfl ?_
          refine K_put (Ms' := [m0, m1, m2, m3, (up w16 0 4 3), m5, m6, m7, m8, m9, m10, m11]) dX5_readToken_138 fp_X5_44 kl_4000 rfl rfl rfl (Nat.le_of_ble_eq_true rfl) rfl ?_
          refine K_nmm (fun w => [m0, m1, m2, m3, w, m5, m6, m7, m8, m9, m10, m11]) rfl (fun w21 => ?_)
          refine K_aload_n 0 dX5_readToken_141 rfl ?_
          refine K_dup dX5_readToken_142 rfl ?_
          refine K_get (v := .int (w21 0 6)) dX5_readToken_143 fl_X5_26 kl_4000 rfl rfl ?_
          refine K_iconst (v := 1) dX5_readToken_146 (by decide) ?_
          refine K_iadd dX5_readToken_147 ?_
          refine K_put (Ms' := [m0, m1, m2, m3, (up w21 0 6 ((w21 0 6) + 1)), m5, m6, m7, m8, m9, m10, m11]) dX5_readToken_148 fp_X5_26 kl_4000 rfl rfl rfl (Nat.le_of_ble_eq_true rfl) rfl ?_
          refine K_nmm (fun w => [m0, m1, m2, m3, w, m5, m6, m7, m8, m9, m10, m11]) rfl (fun w22 => ?_)
          exact K_ret (rv := none) dX5_readToken_151 trivial rfl rfl
      · refine K_aload_n 0 dX5_readToken_111 rfl ?_
        refine K_callV (E' := e_X5_readFigures m0 m1 m2 m3 w16 m5 m6 m7 m8 m9 m10 m11) (b := 4000) (As := []) (rest := []) dX5_readToken_112 ml_X5_176 (mf_X5_readFigures 2) mv_X5_readFigures (fun hj r hr => c_X5_readFigures hj m0 m1 m2 m3 w16 m5 m6 m7 m8 m9 m10 m11  hr) (rcv_obj (q := (RX5, TX5, 9)) kl_4000 rfl) rfl rfl (Nat.le_of_ble_eq_true rfl) (Nat.le_of_ble_eq_true rfl) (fun r23 => ?_)
        show K G (mi_X5_readToken 3) (e_X5_readToken m0 m1 m2 m3 m4 m5 m6 m7 m8 m9 m10 m11) 115 [(0, .ref 4000)] [] [m0, m1, m2, m3, r23, m5, m6, m7, m8, m9, m10, m11] _
        refine K_goto 151 dX5_readToken_115 rfl ?_
        exact K_ret (rv := none) dX5_readToken_151 trivial rfl rfl
    · refine K_aload_n 0 dX5_readToken_89 rfl ?_
      refine K_callV (E' := e_X5_readLetters m0 m1 m2 m3 w16 m5 m6 m7 m8 m9 m10 m11) (b := 4000) (As := []) (rest := []) dX5_readToken_90 ml_X5_170 (mf_X5_readLetters 2) mv_X5_readLetters (fun hj r hr => c_X5_readLetters hj m0 m1 m2 m3 w16 m5 m6 m7 m8 m9 m10 m11  hr) (rcv_obj (q := (RX5, TX5, 9)) kl_4000 rfl) rfl rfl (Nat.le_of_ble_eq_true rfl) (Nat.le_of_ble_eq_true rfl) (fun r24 => ?_)
      show K G (mi_X5_readToken 3) (e_X5_readToken m0 m1 m2 m3 m4 m5 m6 m7 m8 m9 m10 m11) 93 [(0, .ref 4000)] [] [m0, m1, m2, m3, r24, m5, m6, m7, m8, m9, m10, m11] _
      refine K_goto 151 dX5_readToken_93 rfl ?_
      exact K_ret (rv := none) dX5_readToken_151 trivial rfl rfl
  · refine K_aload_n 0 dX5_readToken_66 rfl ?_
    refine K_iconst (v := 0) dX5_readToken_67 (by decide) ?_
    refine K_put (Ms' := [m0, m1, m2, m3, (up w16 0 4 0), m5, m6, m7, m8, m9, m10, m11]) dX5_readToken_68 fp_X5_44 kl_4000 rfl rfl rfl (Nat.le_of_ble_eq_true rfl) rfl ?_
    refine K_nmm (fun w => [m0, m1, m2, m3, w, m5, m6, m7, m8, m9, m10, m11]) rfl (fun w25 => ?_)
    refine K_goto 151 dX5_readToken_71 rfl ?_
    exact K_ret (rv := none) dX5_readToken_151 trivial rfl rfl
theorem c_X5_readToken {G : GE} (hj : dj G) (m0 m1 m2 m3 m4 m5 m6 m7 m8 m9 m10 m11 : Mem)  {r : Mem} (hr : f_X5_readToken m4 = some r) : Ctr G yX5_readToken (mi_X5_readToken 3) [.ref 4000] [m0, m1, m2, m3, m4, m5, m6, m7, m8, m9, m10, m11] ((e_X5_readToken m0 m1 m2 m3 m4 m5 m6 m7 m8 m9 m10 m11) r).1 ((e_X5_readToken m0 m1 m2 m3 m4 m5 m6 m7 m8 m9 m10 m11) r).2 := Ctr_of hj (by decide) rfl hr rfl (Nat.le_of_ble_eq_true rfl) (k_X5_readToken m0 m1 m2 m3 m4 m5 m6 m7 m8 m9 m10 m11 )
abbrev e_X5_isWord (m0 m1 m2 m3 m4 m5 m6 m7 m8 m9 m10 m11 : Mem) : Int32 → Option Value × List Mem := fun r => (some (.int r), [m0, m1, m2, m3, m4, m5, m6, m7, m8, m9, m10, m11])
theorem k_X5_isWord_L28 {G : GE} (m0 m1 m2 m3 m4 m5 m6 m7 m8 m9 m10 m11 : Mem) (i : Nat) (k : Int32 → Option (Int32)) (hi : i < 11) (hk : ∀ (u11 : Int32), K G (mi_X5_isWord 7) (e_X5_isWord m0 m1 m2 m3 m4 m5 m6 m7 m8 m9 m10 m11) 63 [(0, .ref 4000), (1, .ref (20000 + i)), (2, .int u11)] [] [m0, m1, m2, m3, m4, m5, m6, m7, m8, m9, m10, m11] (k u11)) : ∀ (t : Nat) (u11 : Int32), K G (mi_X5_isWord 7) (e_X5_isWord m0 m1 m2 m3 m4 m5 m6 m7 m8 m9 m10 m11) 28 [(0, .ref 4000), (1, .ref (20000 + i)), (2, .int u11)] [] [m0, m1, m2, m3, m4, m5, m6, m7, m8, m9, m10, m11] (f_X5_isWord_L28 k i m4 t u11) := by
  intro t
  induction t with
  | zero => intro u11; exact K_none
  | succ t ih =>
    intro u11
    rw [f_X5_isWord_L28]
    refine K_iload_n 2 dX5_isWord_28 rfl ?_
    refine K_aload_n 1 dX5_isWord_29 rfl ?_
    refine K_strlen hi dX5_isWord_30 ml_X5_179 (Nat.le_of_ble_eq_true rfl) (Nat.le_of_ble_eq_true rfl) ?_
    refine K_icmp_ge 63 dX5_isWord_33 rfl (fun _ => ?_) (fun _ => ?_)
    · refine K_loc [0, 1, 2] (lv' := [(0, .ref 4000), (1, .ref (20000 + i)), (2, .int u11)]) rfl ?_
      exact hk u11
    · refine K_aload_n 0 dX5_isWord_36 rfl ?_
      refine K_get (v := .ref 4001) dX5_isWord_37 fl_X5_9 kl_4000 rfl rfl ?_
      refine K_aload_n 0 dX5_isWord_40 rfl ?_
      refine K_get (v := .int (m4 0 5)) dX5_isWord_41 fl_X5_160 kl_4000 rfl rfl ?_
      refine K_iload_n 2 dX5_isWord_44 rfl ?_
      refine K_iadd dX5_isWord_45 ?_
      refine K_bald (f := m4 1) dX5_isWord_46 kl_4001 rfl ?_
      refine K_aload_n 1 dX5_isWord_47 rfl ?_
      refine K_iload_n 2 dX5_isWord_48 rfl ?_
      refine K_charAt hi dX5_isWord_49 ml_X5_183 (Nat.le_of_ble_eq_true rfl) (Nat.le_of_ble_eq_true rfl) ?_
      refine K_icmp_eq 57 dX5_isWord_52 rfl (fun _ => ?_) (fun _ => ?_)
      · refine K_iinc 2 (w := u11 + 1) (lv' := [(2, .int (u11 + 1)), (0, .ref 4000), (1, .ref (20000 + i))]) dX5_isWord_57 rfl rfl (by decide) rfl ?_
        refine K_goto 28 dX5_isWord_60 rfl ?_
        refine K_loc [1, 2, 0] (lv' := [(0, .ref 4000), (1, .ref (20000 + i)), (2, .int (u11 + 1))]) rfl ?_
        exact ih (u11 + 1)
      · refine K_iconst (v := 0) dX5_isWord_55 (by decide) ?_
        exact K_ret (rv := some (.int 0)) dX5_isWord_56 rfl rfl rfl
theorem k_X5_isWord {G : GE} (m0 m1 m2 m3 m4 m5 m6 m7 m8 m9 m10 m11 : Mem) (i : Nat) (hi : i < 11) : K G (mi_X5_isWord 7) (e_X5_isWord m0 m1 m2 m3 m4 m5 m6 m7 m8 m9 m10 m11) 0 [(0, .ref 4000), (1, .ref (20000 + i))] [] [m0, m1, m2, m3, m4, m5, m6, m7, m8, m9, m10, m11] (f_X5_isWord m4 i) := by
  unfold f_X5_isWord
  refine K_aload_n 0 dX5_isWord_0 rfl ?_
  refine K_get (v := .int (m4 0 4)) dX5_isWord_1 fl_X5_44 kl_4000 rfl rfl ?_
  refine K_iconst (v := 1) dX5_isWord_4 (by decide) ?_
  refine K_icmp_ne 24 dX5_isWord_5 rfl (fun _ => ?_) (fun _ => ?_)
  · refine K_iconst (v := 0) dX5_isWord_24 (by decide) ?_
    exact K_ret (rv := some (.int 0)) dX5_isWord_25 rfl rfl rfl
  · refine K_aload_n 0 dX5_isWord_8 rfl ?_
    refine K_get (v := .int (m4 0 6)) dX5_isWord_9 fl_X5_26 kl_4000 rfl rfl ?_
    refine K_aload_n 0 dX5_isWord_12 rfl ?_
    refine K_get (v := .int (m4 0 5)) dX5_isWord_13 fl_X5_160 kl_4000 rfl rfl ?_
    refine K_isub dX5_isWord_16 ?_
    refine K_aload_n 1 dX5_isWord_17 rfl ?_
    refine K_strlen hi dX5_isWord_18 ml_X5_179 (Nat.le_of_ble_eq_true rfl) (Nat.le_of_ble_eq_true rfl) ?_
    refine K_icmp_eq 26 dX5_isWord_21 rfl (fun _ => ?_) (fun _ => ?_)
    · refine K_iconst (v := 0) dX5_isWord_26 (by decide) ?_
      refine K_istore_n (lv' := [(2, .int 0), (0, .ref 4000), (1, .ref (20000 + i))]) dX5_isWord_27 (by decide) rfl ?_
      refine K_loc [1, 2, 0] (lv' := [(0, .ref 4000), (1, .ref (20000 + i)), (2, .int 0)]) rfl ?_
      refine k_X5_isWord_L28  m0 m1 m2 m3 m4 m5 m6 m7 m8 m9 m10 m11 i _ hi (fun u12 => ?_) 100000 0
      refine K_iconst (v := 1) dX5_isWord_63 (by decide) ?_
      exact K_ret (rv := some (.int 1)) dX5_isWord_64 rfl rfl rfl
    · refine K_iconst (v := 0) dX5_isWord_24 (by decide) ?_
      exact K_ret (rv := some (.int 0)) dX5_isWord_25 rfl rfl rfl
theorem c_X5_isWord {G : GE} (hj : dj G) (m0 m1 m2 m3 m4 m5 m6 m7 m8 m9 m10 m11 : Mem) (i : Nat) (hi : i < 11) {r : Int32} (hr : f_X5_isWord m4 i = some r) : Ctr G yX5_isWord (mi_X5_isWord 7) [.ref 4000, .ref (20000 + i)] [m0, m1, m2, m3, m4, m5, m6, m7, m8, m9, m10, m11] ((e_X5_isWord m0 m1 m2 m3 m4 m5 m6 m7 m8 m9 m10 m11) r).1 ((e_X5_isWord m0 m1 m2 m3 m4 m5 m6 m7 m8 m9 m10 m11) r).2 := Ctr_of hj (by decide) rfl hr rfl (Nat.le_of_ble_eq_true rfl) (k_X5_isWord m0 m1 m2 m3 m4 m5 m6 m7 m8 m9 m10 m11 i hi)
abbrev e_X5_fail (m0 m1 m2 m3 m4 m5 m6 m7 m8 m9 m10 m11 : Mem) : (Int32 × Mem) → Option Value × List Mem := fun r => (some (.int r.1), [m0, m1, m2, m3, r.2, m5, m6, m7, m8, m9, m10, m11])
theorem k_X5_fail {G : GE} (m0 m1 m2 m3 m4 m5 m6 m7 m8 m9 m10 m11 : Mem) (x1 : Int32) : K G (mi_X5_fail 1) (e_X5_fail m0 m1 m2 m3 m4 m5 m6 m7 m8 m9 m10 m11) 0 [(0, .ref 4000), (1, .int x1)] [] [m0, m1, m2, m3, m4, m5, m6, m7, m8, m9, m10, m11] (f_X5_fail m4 x1) := by
  unfold f_X5_fail
  refine K_aload_n 0 dX5_fail_0 rfl ?_
  refine K_iload_n 1 dX5_fail_1 rfl ?_
  refine K_put (Ms' := [m0, m1, m2, m3, (up m4 0 2 x1), m5, m6, m7, m8, m9, m10, m11]) dX5_fail_2 fp_X5_19 kl_4000 rfl rfl rfl (Nat.le_of_ble_eq_true rfl) rfl ?_
  refine K_nmm (fun w => [m0, m1, m2, m3, w, m5, m6, m7, m8, m9, m10, m11]) rfl (fun w11 => ?_)
  refine K_aload_n 0 dX5_fail_5 rfl ?_
  refine K_aload_n 0 dX5_fail_6 rfl ?_
  refine K_get (v := .int (w11 0 5)) dX5_fail_7 fl_X5_160 kl_4000 rfl rfl ?_
  refine K_put (Ms' := [m0, m1, m2, m3, (up w11 0 3 (w11 0 5)), m5, m6, m7, m8, m9, m10, m11]) dX5_fail_10 fp_X5_22 kl_4000 rfl rfl rfl (Nat.le_of_ble_eq_true rfl) rfl ?_
  refine K_nmm (fun w => [m0, m1, m2, m3, w, m5, m6, m7, m8, m9, m10, m11]) rfl (fun w12 => ?_)
  refine K_iconst (v := 0) dX5_fail_13 (by decide) ?_
  exact K_ret (rv := some (.int 0)) dX5_fail_14 rfl rfl rfl
theorem c_X5_fail {G : GE} (hj : dj G) (m0 m1 m2 m3 m4 m5 m6 m7 m8 m9 m10 m11 : Mem) (x1 : Int32) {r : Int32 × Mem} (hr : f_X5_fail m4 x1 = some r) : Ctr G yX5_fail (mi_X5_fail 1) [.ref 4000, .int x1] [m0, m1, m2, m3, m4, m5, m6, m7, m8, m9, m10, m11] ((e_X5_fail m0 m1 m2 m3 m4 m5 m6 m7 m8 m9 m10 m11) r).1 ((e_X5_fail m0 m1 m2 m3 m4 m5 m6 m7 m8 m9 m10 m11) r).2 := Ctr_of hj (by decide) rfl hr rfl (Nat.le_of_ble_eq_true rfl) (k_X5_fail m0 m1 m2 m3 m4 m5 m6 m7 m8 m9 m10 m11 x1)
abbrev e_X5_readNumber (m0 m1 m2 m3 m4 m5 m6 m7 m8 m9 m10 m11 : Mem) : (Int32 × Mem) → Option Value × List Mem := fun r => (some (.int r.1), [m0, m1, m2, m3, r.2, m5, m6, m7, m8, m9, m10, m11])
theorem k_X5_readNumber {G : GE} (m0 m1 m2 m3 m4 m5 m6 m7 m8 m9 m10 m11 : Mem) (x1 : Int32) (x2 : Int32) : K G (mi_X5_readNumber 4) (e_X5_readNumber m0 m1 m2 m3 m4 m5 m6 m7 m8 m9 m10 m11) 0 [(0, .ref 4000), (1, .int x1), (2, .int x2)] [] [m0, m1, m2, m3, m4, m5, m6, m7, m8, m9, m10, m11] (f_X5_readNumber m4 x1 x2) := by
  unfold f_X5_readNumber
  refine K_aload_n 0 dX5_readNumber_0 rfl ?_
  refine K_callV (E' := e_X5_readToken m0 m1 m2 m3 m4 m5 m6 m7 m8 m9 m10 m11) (b := 4000) (As := []) (rest := []) dX5_readNumber_1 ml_X5_41 (mf_X5_readToken 3) mv_X5_readToken (fun hj r hr => c_X5_readToken hj m0 m1 m2 m3 m4 m5 m6 m7 m8 m9 m10 m11  hr) (rcv_obj (q := (RX5, TX5, 9)) kl_4000 rfl) rfl rfl (Nat.le_of_ble_eq_true rfl) (Nat.le_of_ble_eq_true rfl) (fun r11 => ?_)
  show K G (mi_X5_readNumber 4) (e_X5_readNumber m0 m1 m2 m3 m4 m5 m6 m7 m8 m9 m10 m11) 4 [(0, .ref 4000), (1, .int x1), (2, .int x2)] [] [m0, m1, m2, m3, r11, m5, m6, m7, m8, m9, m10, m11] _
  refine K_aload_n 0 dX5_readNumber_4 rfl ?_
  refine K_get (v := .int (r11 0 4)) dX5_readNumber_5 fl_X5_44 kl_4000 rfl rfl ?_
  refine K_iconst (v := 2) dX5_readNumber_8 (by decide) ?_
  refine K_icmp_eq 18 dX5_readNumber_9 rfl (fun _ => ?_) (fun _ => ?_)
  · refine K_aload_n 0 dX5_readNumber_18 rfl ?_
    refine K_get (v := .int (r11 0 7)) dX5_readNumber_19 fl_X5_67 kl_4000 rfl rfl ?_
    refine K_iload_n 1 dX5_readNumber_22 rfl ?_
    refine K_icmp_lt 34 dX5_readNumber_23 rfl (fun _ => ?_) (fun _ => ?_)
    · refine K_aload_n 0 dX5_readNumber_34 rfl ?_
      refine K_iconst (v := 2) dX5_readNumber_35 (by decide) ?_
      refine K_callV (E' := e_X5_fail m0 m1 m2 m3 r11 m5 m6 m7 m8 m9 m10 m11) (b := 4000) (As := [.int 2]) (rest := []) dX5_readNumber_36 ml_X5_59 (mf_X5_fail 1) mv_X5_fail (fun hj r hr => c_X5_fail hj m0 m1 m2 m3 r11 m5 m6 m7 m8 m9 m10 m11 (2 : Int32) hr) (rcv_obj (q := (RX5, TX5, 9)) kl_4000 rfl) rfl rfl (Nat.le_of_ble_eq_true rfl) (Nat.le_of_ble_eq_true rfl) (fun r12 => ?_)
      show K G (mi_X5_readNumber 4) (e_X5_readNumber m0 m1 m2 m3 m4 m5 m6 m7 m8 m9 m10 m11) 39 [(0, .ref 4000), (1, .int x1), (2, .int x2)] [.int r12.1] [m0, m1, m2, m3, r12.2, m5, m6, m7, m8, m9, m10, m11] _
      refine K_if_eq 46 dX5_readNumber_39 rfl (fun _ => ?_) (fun _ => ?_)
      · refine K_iconst (v := 0) dX5_readNumber_46 (by decide) ?_
        exact K_ret (rv := some (.int 0)) dX5_readNumber_47 rfl rfl rfl
      · refine K_iconst (v := 1) dX5_readNumber_42 (by decide) ?_
        refine K_goto 47 dX5_readNumber_43 rfl ?_
        exact K_ret (rv := some (.int 1)) dX5_readNumber_47 rfl rfl rfl
    · refine K_aload_n 0 dX5_readNumber_26 rfl ?_
      refine K_get (v := .int (r11 0 7)) dX5_readNumber_27 fl_X5_67 kl_4000 rfl rfl ?_
      refine K_iload_n 2 dX5_readNumber_30 rfl ?_
      refine K_icmp_le 42 dX5_readNumber_31 rfl (fun _ => ?_) (fun _ => ?_)
      · refine K_iconst (v := 1) dX5_readNumber_42 (by decide) ?_
        refine K_goto 47 dX5_readNumber_43 rfl ?_
        exact K_ret (rv := some (.int 1)) dX5_readNumber_47 rfl rfl rfl
      · refine K_aload_n 0 dX5_readNumber_34 rfl ?_
        refine K_iconst (v := 2) dX5_readNumber_35 (by decide) ?_
        refine K_callV (E' := e_X5_fail m0 m1 m2 m3 r11 m5 m6 m7 m8 m9 m10 m11) (b := 4000) (As := [.int 2]) (rest := []) dX5_readNumber_36 ml_X5_59 (mf_X5_fail 1) mv_X5_fail (fun hj r hr => c_X5_fail hj m0 m1 m2 m3 r11 m5 m6 m7 m8 m9 m10 m11 (2 : Int32) hr) (rcv_obj (q := (RX5, TX5, 9)) kl_4000 rfl) rfl rfl (Nat.le_of_ble_eq_true rfl) (Nat.le_of_ble_eq_true rfl) (fun r13 => ?_)
        show K G (mi_X5_readNumber 4) (e_X5_readNumber m0 m1 m2 m3 m4 m5 m6 m7 m8 m9 m10 m11) 39 [(0, .ref 4000), (1, .int x1), (2, .int x2)] [.int r13.1] [m0, m1, m2, m3, r13.2, m5, m6, m7, m8, m9, m10, m11] _
        refine K_if_eq 46 dX5_readNumber_39 rfl (fun _ => ?_) (fun _ => ?_)
        · refine K_iconst (v := 0) dX5_readNumber_46 (by decide) ?_
          exact K_ret (rv := some (.int 0)) dX5_readNumber_47 rfl rfl rfl
        · refine K_iconst (v := 1) dX5_readNumber_42 (by decide) ?_
          refine K_goto 47 dX5_readNumber_43 rfl ?_
          exact K_ret (rv := some (.int 1)) dX5_readNumber_47 rfl rfl rfl
  · refine K_aload_n 0 dX5_readNumber_12 rfl ?_
    refine K_iconst (v := 1) dX5_readNumber_13 (by decide) ?_
    refine K_callV (E' := e_X5_fail m0 m1 m2 m3 r11 m5 m6 m7 m8 m9 m10 m11) (b := 4000) (As := [.int 1]) (rest := []) dX5_readNumber_14 ml_X5_59 (mf_X5_fail 1) mv_X5_fail (fun hj r hr => c_X5_fail hj m0 m1 m2 m3 r11 m5 m6 m7 m8 m9 m10 m11 (1 : Int32) hr) (rcv_obj (q := (RX5, TX5, 9)) kl_4000 rfl) rfl rfl (Nat.le_of_ble_eq_true rfl) (Nat.le_of_ble_eq_true rfl) (fun r14 => ?_)
    show K G (mi_X5_readNumber 4) (e_X5_readNumber m0 m1 m2 m3 m4 m5 m6 m7 m8 m9 m10 m11) 17 [(0, .ref 4000), (1, .int x1), (2, .int x2)] [.int r14.1] [m0, m1, m2, m3, r14.2, m5, m6, m7, m8, m9, m10, m11] _
    exact K_retB dX5_readNumber_17 rfl rfl
theorem c_X5_readNumber {G : GE} (hj : dj G) (m0 m1 m2 m3 m4 m5 m6 m7 m8 m9 m10 m11 : Mem) (x1 : Int32) (x2 : Int32) {r : Int32 × Mem} (hr : f_X5_readNumber m4 x1 x2 = some r) : Ctr G yX5_readNumber (mi_X5_readNumber 4) [.ref 4000, .int x1, .int x2] [m0, m1, m2, m3, m4, m5, m6, m7, m8, m9, m10, m11] ((e_X5_readNumber m0 m1 m2 m3 m4 m5 m6 m7 m8 m9 m10 m11) r).1 ((e_X5_readNumber m0 m1 m2 m3 m4 m5 m6 m7 m8 m9 m10 m11) r).2 := Ctr_of hj (by decide) rfl hr rfl (Nat.le_of_ble_eq_true rfl) (k_X5_readNumber m0 m1 m2 m3 m4 m5 m6 m7 m8 m9 m10 m11 x1 x2)
abbrev e_X5_readSign (m0 m1 m2 m3 m4 m5 m6 m7 m8 m9 m10 m11 : Mem) : (Int32 × Mem) → Option Value × List Mem := fun r => (some (.int r.1), [m0, m1, m2, m3, r.2, m5, m6, m7, m8, m9, m10, m11])
theorem k_X5_readSign {G : GE} (m0 m1 m2 m3 m4 m5 m6 m7 m8 m9 m10 m11 : Mem)  : K G (mi_X5_readSign 4) (e_X5_readSign m0 m1 m2 m3 m4 m5 m6 m7 m8 m9 m10 m11) 0 [(0, .ref 4000)] [] [m0, m1, m2, m3, m4, m5, m6, m7, m8, m9, m10, m11] (f_X5_readSign m4) := by
  unfold f_X5_readSign
  refine K_aload_n 0 dX5_readSign_0 rfl ?_
  refine K_callV (E' := e_X5_readToken m0 m1 m2 m3 m4 m5 m6 m7 m8 m9 m10 m11) (b := 4000) (As := []) (rest := []) dX5_readSign_1 ml_X5_41 (mf_X5_readToken 3) mv_X5_readToken (fun hj r hr => c_X5_readToken hj m0 m1 m2 m3 m4 m5 m6 m7 m8 m9 m10 m11  hr) (rcv_obj (q := (RX5, TX5, 9)) kl_4000 rfl) rfl rfl (Nat.le_of_ble_eq_true rfl) (Nat.le_of_ble_eq_true rfl) (fun r11 => ?_)
  show K G (mi_X5_readSign 4) (e_X5_readSign m0 m1 m2 m3 m4 m5 m6 m7 m8 m9 m10 m11) 4 [(0, .ref 4000)] [] [m0, m1, m2, m3, r11, m5, m6, m7, m8, m9, m10, m11] _
  refine K_aload_n 0 dX5_readSign_4 rfl ?_
  refine K_get (v := .int (r11 0 4)) dX5_readSign_5 fl_X5_44 kl_4000 rfl rfl ?_
  refine K_iconst (v := 3) dX5_readSign_8 (by decide) ?_
  refine K_icmp_eq 20 dX5_readSign_9 rfl (fun _ => ?_) (fun _ => ?_)
  · refine K_iconst (v := 1) dX5_readSign_20 (by decide) ?_
    refine K_goto 25 dX5_readSign_21 rfl ?_
    exact K_ret (rv := some (.int 1)) dX5_readSign_25 rfl rfl rfl
  · refine K_aload_n 0 dX5_readSign_12 rfl ?_
    refine K_iconst (v := 1) dX5_readSign_13 (by decide) ?_
    refine K_callV (E' := e_X5_fail m0 m1 m2 m3 r11 m5 m6 m7 m8 m9 m10 m11) (b := 4000) (As := [.int 1]) (rest := []) dX5_readSign_14 ml_X5_59 (mf_X5_fail 1) mv_X5_fail (fun hj r hr => c_X5_fail hj m0 m1 m2 m3 r11 m5 m6 m7 m8 m9 m10 m11 (1 : Int32) hr) (rcv_obj (q := (RX5, TX5, 9)) kl_4000 rfl) rfl rfl (Nat.le_of_ble_eq_true rfl) (Nat.le_of_ble_eq_true rfl) (fun r12 => ?_)
    show K G (mi_X5_readSign 4) (e_X5_readSign m0 m1 m2 m3 m4 m5 m6 m7 m8 m9 m10 m11) 17 [(0, .ref 4000)] [.int r12.1] [m0, m1, m2, m3, r12.2, m5, m6, m7, m8, m9, m10, m11] _
    refine K_if_eq 24 dX5_readSign_17 rfl (fun _ => ?_) (fun _ => ?_)
    · refine K_iconst (v := 0) dX5_readSign_24 (by decide) ?_
      exact K_ret (rv := some (.int 0)) dX5_readSign_25 rfl rfl rfl
    · refine K_iconst (v := 1) dX5_readSign_20 (by decide) ?_
      refine K_goto 25 dX5_readSign_21 rfl ?_
      exact K_ret (rv := some (.int 1)) dX5_readSign_25 rfl rfl rfl
theorem c_X5_readSign {G : GE} (hj : dj G) (m0 m1 m2 m3 m4 m5 m6 m7 m8 m9 m10 m11 : Mem)  {r : Int32 × Mem} (hr : f_X5_readSign m4 = some r) : Ctr G yX5_readSign (mi_X5_readSign 4) [.ref 4000] [m0, m1, m2, m3, m4, m5, m6, m7, m8, m9, m10, m11] ((e_X5_readSign m0 m1 m2 m3 m4 m5 m6 m7 m8 m9 m10 m11) r).1 ((e_X5_readSign m0 m1 m2 m3 m4 m5 m6 m7 m8 m9 m10 m11) r).2 := Ctr_of hj (by decide) rfl hr rfl (Nat.le_of_ble_eq_true rfl) (k_X5_readSign m0 m1 m2 m3 m4 m5 m6 m7 m8 m9 m10 m11 )
abbrev e_X5_readLaw (m0 m1 m2 m3 m4 m5 m6 m7 m8 m9 m10 m11 : Mem) : (Int32 × Mem × Mem) → Option Value × List Mem := fun r => (some (.int r.1), [m0, m1, r.2.1, m3, r.2.2, m5, m6, m7, m8, m9, m10, m11])
theorem k_X5_readLaw {G : GE} (m0 m1 m2 m3 m4 m5 m6 m7 m8 m9 m10 m11 : Mem)  : K G (mi_X5_readLaw 8) (e_X5_readLaw m0 m1 m2 m3 m4 m5 m6 m7 m8 m9 m10 m11) 0 [(0, .ref 4000), (1, .ref 2000)] [] [m0, m1, m2, m3, m4, m5, m6, m7, m8, m9, m10, m11] (f_X5_readLaw m2 m4) := by
  unfold f_X5_readLaw
  refine K_aload_n 0 dX5_readLaw_0 rfl ?_
  refine K_callV (E' := e_X5_readToken m0 m1 m2 m3 m4 m5 m6 m7 m8 m9 m10 m11) (b := 4000) (As := []) (rest := []) dX5_readLaw_1 ml_X5_41 (mf_X5_readToken 3) mv_X5_readToken (fun hj r hr => c_X5_readToken hj m0 m1 m2 m3 m4 m5 m6 m7 m8 m9 m10 m11  hr) (rcv_obj (q := (RX5, TX5, 9)) kl_4000 rfl) rfl rfl (Nat.le_of_ble_eq_true rfl) (Nat.le_of_ble_eq_true rfl) (fun r11 => ?_)
  show K G (mi_X5_readLaw 8) (e_X5_readLaw m0 m1 m2 m3 m4 m5 m6 m7 m8 m9 m10 m11) 4 [(0, .ref 4000), (1, .ref 2000)] [] [m0, m1, m2, m3, r11, m5, m6, m7, m8, m9, m10, m11] _
  refine K_aload_n 0 dX5_readLaw_4 rfl ?_
  refine K_ldcS (i := 0) (by decide) dX5_readLaw_5 rfl rfl ?_
  refine K_callV (E' := e_X5_isWord m0 m1 m2 m3 r11 m5 m6 m7 m8 m9 m10 m11) (b := 4000) (As := [.ref 20000]) (rest := []) dX5_readLaw_7 ml_X5_55 (mf_X5_isWord 7) mv_X5_isWord (fun hj r hr => c_X5_isWord hj m0 m1 m2 m3 r11 m5 m6 m7 m8 m9 m10 m11 0 (by decide) hr) (rcv_obj (q := (RX5, TX5, 9)) kl_4000 rfl) rfl rfl (Nat.le_of_ble_eq_true rfl) (Nat.le_of_ble_eq_true rfl) (fun r12 => ?_)
  show K G (mi_X5_readLaw 8) (e_X5_readLaw m0 m1 m2 m3 m4 m5 m6 m7 m8 m9 m10 m11) 10 [(0, .ref 4000), (1, .ref 2000)] [.int r12] [m0, m1, m2, m3, r11, m5, m6, m7, m8, m9, m10, m11] _
  refine K_if_ne 19 dX5_readLaw_10 rfl (fun _ => ?_) (fun _ => ?_)
  · refine K_aload_n 0 dX5_readLaw_19 rfl ?_
    refine K_iconst (v := 0) dX5_readLaw_20 (by decide) ?_
    refine K_bipush (v := 50) dX5_readLaw_21 (by decide) ?_
    refine K_callV (E' := e_X5_readNumber m0 m1 m2 m3 r11 m5 m6 m7 m8 m9 m10 m11) (b := 4000) (As := [.int 0, .int 50]) (rest := []) dX5_readLaw_23 ml_X5_63 (mf_X5_readNumber 4) mv_X5_readNumber (fun hj r hr => c_X5_readNumber hj m0 m1 m2 m3 r11 m5 m6 m7 m8 m9 m10 m11 (0 : Int32) (50 : Int32) hr) (rcv_obj (q := (RX5, TX5, 9)) kl_4000 rfl) rfl rfl (Nat.le_of_ble_eq_true rfl) (Nat.le_of_ble_eq_true rfl) (fun r13 => ?_)
    show K G (mi_X5_readLaw 8) (e_X5_readLaw m0 m1 m2 m3 m4 m5 m6 m7 m8 m9 m10 m11) 26 [(0, .ref 4000), (1, .ref 2000)] [.int r13.1] [m0, m1, m2, m3, r13.2, m5, m6, m7, m8, m9, m10, m11] _
    refine K_if_ne 31 dX5_readLaw_26 rfl (fun _ => ?_) (fun _ => ?_)
    · refine K_aload_n 1 dX5_readLaw_31 rfl ?_
      refine K_aload_n 0 dX5_readLaw_32 rfl ?_
      refine K_get (v := .int (r13.2 0 7)) dX5_readLaw_33 fl_X5_67 kl_4000 rfl rfl ?_
      refine K_put (Ms' := [m0, m1, (up m2 0 1 (r13.2 0 7)), m3, r13.2, m5, m6, m7, m8, m9, m10, m11]) dX5_readLaw_36 fp_X5_70 kl_2000 rfl rfl rfl (Nat.le_of_ble_eq_true rfl) rfl ?_
      refine K_nmm (fun w => [m0, m1, w, m3, r13.2, m5, m6, m7, m8, m9, m10, m11]) rfl (fun w14 => ?_)
      refine K_aload_n 0 dX5_readLaw_39 rfl ?_
      refine K_iconst (v := 1) dX5_readLaw_40 (by decide) ?_
      refine K_bipush (v := 20) dX5_readLaw_41 (by decide) ?_
      refine K_callV (E' := e_X5_readNumber m0 m1 w14 m3 r13.2 m5 m6 m7 m8 m9 m10 m11) (b := 4000) (As := [.int 1, .int 20]) (rest := []) dX5_readLaw_43 ml_X5_63 (mf_X5_readNumber 4) mv_X5_readNumber (fun hj r hr => c_X5_readNumber hj m0 m1 w14 m3 r13.2 m5 m6 m7 m8 m9 m10 m11 (1 : Int32) (20 : Int32) hr) (rcv_obj (q := (RX5, TX5, 9)) kl_4000 rfl) rfl rfl (Nat.le_of_ble_eq_true rfl) (Nat.le_of_ble_eq_true rfl) (fun r15 => ?_)
      show K G (mi_X5_readLaw 8) (e_X5_readLaw m0 m1 m2 m3 m4 m5 m6 m7 m8 m9 m10 m11) 46 [(0, .ref 4000), (1, .ref 2000)] [.int r15.1] [m0, m1, w14, m3, r15.2, m5, m6, m7, m8, m9, m10, m11] _
      refine K_if_ne 51 dX5_readLaw_46 rfl (fun _ => ?_) (fun _ => ?_)
      · refine K_aload_n 1 dX5_readLaw_51 rfl ?_
        refine K_aload_n 0 dX5_readLaw_52 rfl ?_
        refine K_get (v := .int (r15.2 0 7)) dX5_readLaw_53 fl_X5_67 kl_4000 rfl rfl ?_
        refine K_put (Ms' := [m0, m1, (up w14 0 2 (r15.2 0 7)), m3, r15.2, m5, m6, m7, m8, m9, m10, m11]) dX5_readLaw_56 fp_X5_73 kl_2000 rfl rfl rfl (Nat.le_of_ble_eq_true rfl) rfl ?_
        refine K_nmm (fun w => [m0, m1, w, m3, r15.2, m5, m6, m7, m8, m9, m10, m11]) rfl (fun w16 => ?_)
        refine K_aload_n 0 dX5_readLaw_59 rfl ?_
        refine K_callV (E' := e_X5_readSign m0 m1 w16 m3 r15.2 m5 m6 m7 m8 m9 m10 m11) (b := 4000) (As := []) (rest := []) dX5_readLaw_60 ml_X5_76 (mf_X5_readSign 4) mv_X5_readSign (fun hj r hr => c_X5_readSign hj m0 m1 w16 m3 r15.2 m5 m6 m7 m8 m9 m10 m11  hr) (rcv_obj (q := (RX5, TX5, 9)) kl_4000 rfl) rfl rfl (Nat.le_of_ble_eq_true rfl) (Nat.le_of_ble_eq_true rfl) (fun r17 => ?_)
        show K G (mi_X5_readLaw 8) (e_X5_readLaw m0 m1 m2 m3 m4 m5 m6 m7 m8 m9 m10 m11) 63 [(0, .ref 4000), (1, .ref 2000)] [.int r17.1] [m0, m1, w16, m3, r17.2, m5, m6, m7, m8, m9, m10, m11] _
        exact K_retB dX5_readLaw_63 rfl rfl
      · refine K_iconst (v := 0) dX5_readLaw_49 (by decide) ?_
        exact K_ret (rv := some (.int 0)) dX5_readLaw_50 rfl rfl rfl
    · refine K_iconst (v := 0) dX5_readLaw_29 (by decide) ?_
      exact K_ret (rv := some (.int 0)) dX5_readLaw_30 rfl rfl rfl
  · refine K_aload_n 0 dX5_readLaw_13 rfl ?_
    refine K_iconst (v := 1) dX5_readLaw_14 (by decide) ?_
    refine K_callV (E' := e_X5_fail m0 m1 m2 m3 r11 m5 m6 m7 m8 m9 m10 m11) (b := 4000) (As := [.int 1]) (rest := []) dX5_readLaw_15 ml_X5_59 (mf_X5_fail 1) mv_X5_fail (fun hj r hr => c_X5_fail hj m0 m1 m2 m3 r11 m5 m6 m7 m8 m9 m10 m11 (1 : Int32) hr) (rcv_obj (q := (RX5, TX5, 9)) kl_4000 rfl) rfl rfl (Nat.le_of_ble_eq_true rfl) (Nat.le_of_ble_eq_true rfl) (fun r18 => ?_)
    show K G (mi_X5_readLaw 8) (e_X5_readLaw m0 m1 m2 m3 m4 m5 m6 m7 m8 m9 m10 m11) 18 [(0, .ref 4000), (1, .ref 2000)] [.int r18.1] [m0, m1, m2, m3, r18.2, m5, m6, m7, m8, m9, m10, m11] _
    exact K_retB dX5_readLaw_18 rfl rfl
theorem c_X5_readLaw {G : GE} (hj : dj G) (m0 m1 m2 m3 m4 m5 m6 m7 m8 m9 m10 m11 : Mem)  {r : Int32 × Mem × Mem} (hr : f_X5_readLaw m2 m4 = some r) : Ctr G yX5_readLaw (mi_X5_readLaw 8) [.ref 4000, .ref 2000] [m0, m1, m2, m3, m4, m5, m6, m7, m8, m9, m10, m11] ((e_X5_readLaw m0 m1 m2 m3 m4 m5 m6 m7 m8 m9 m10 m11) r).1 ((e_X5_readLaw m0 m1 m2 m3 m4 m5 m6 m7 m8 m9 m10 m11) r).2 := Ctr_of hj (by decide) rfl hr rfl (Nat.le_of_ble_eq_true rfl) (k_X5_readLaw m0 m1 m2 m3 m4 m5 m6 m7 m8 m9 m10 m11 )
