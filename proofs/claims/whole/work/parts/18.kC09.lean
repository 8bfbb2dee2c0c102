abbrev e_X3_takeFrom_1_9 (m0 m1 m2 m3 m4 m5 m6 m7 m8 m9 m10 m11 : Mem) : Mem → Option Value × List Mem := fun r => (none, [m0, r, m2, m3, m4, m5, m6, m7, m8, m9, m10, m11])
theorem k_X3_takeFrom_1_9 {G : GE} (m0 m1 m2 m3 m4 m5 m6 m7 m8 m9 m10 m11 : Mem)  : K G (mi_X3_takeFrom 1) (e_X3_takeFrom_1_9 m0 m1 m2 m3 m4 m5 m6 m7 m8 m9 m10 m11) 0 [(0, .ref 1000), (1, .ref 9000)] [] [m0, m1, m2, m3, m4, m5, m6, m7, m8, m9, m10, m11] (f_X3_takeFrom m1 m9) := by
  unfold f_X3_takeFrom
  refine K_aload_n 0 dX3_takeFrom_0 rfl ?_
  refine K_aload_n 1 dX3_takeFrom_1 rfl ?_
  refine K_get (v := .int (m9 0 0)) dX3_takeFrom_2 fl_X3_9 kl_9000 rfl rfl ?_
  refine K_putB (Ms' := [m0, (up m1 0 0 (m9 0 0)), m2, m3, m4, m5, m6, m7, m8, m9, m10, m11]) dX3_takeFrom_5 fp_X3_9 kl_1000 rfl (Nat.le_of_ble_eq_true rfl) rfl ?_
  refine K_nmm (fun w => [m0, w, m2, m3, m4, m5, m6, m7, m8, m9, m10, m11]) rfl (fun w11 => ?_)
  refine K_aload_n 0 dX3_takeFrom_8 rfl ?_
  refine K_aload_n 1 dX3_takeFrom_9 rfl ?_
  refine K_get (v := .int (m9 0 1)) dX3_takeFrom_10 fl_X3_69 kl_9000 rfl rfl ?_
  refine K_put (Ms' := [m0, (up w11 0 1 (m9 0 1)), m2, m3, m4, m5, m6, m7, m8, m9, m10, m11]) dX3_takeFrom_13 fp_X3_69 kl_1000 rfl rfl rfl (Nat.le_of_ble_eq_true rfl) rfl ?_
  refine K_nmm (fun w => [m0, w, m2, m3, m4, m5, m6, m7, m8, m9, m10, m11]) rfl (fun w12 => ?_)
  refine K_aload_n 0 dX3_takeFrom_16 rfl ?_
  refine K_aload_n 1 dX3_takeFrom_17 rfl ?_
  refine K_get (v := .int (m9 0 2)) dX3_takeFrom_18 fl_X3_72 kl_9000 rfl rfl ?_
  refine K_put (Ms' := [m0, (up w12 0 2 (m9 0 2)), m2, m3, m4, m5, m6, m7, m8, m9, m10, m11]) dX3_takeFrom_21 fp_X3_72 kl_1000 rfl rfl rfl (Nat.le_of_ble_eq_true rfl) rfl ?_
  refine K_nmm (fun w => [m0, w, m2, m3, m4, m5, m6, m7, m8, m9, m10, m11]) rfl (fun w13 => ?_)
  refine K_aload_n 0 dX3_takeFrom_24 rfl ?_
  refine K_aload_n 1 dX3_takeFrom_25 rfl ?_
  refine K_get (v := .int (m9 0 3)) dX3_takeFrom_26 fl_X3_40 kl_9000 rfl rfl ?_
  refine K_put (Ms' := [m0, (up w13 0 3 (m9 0 3)), m2, m3, m4, m5, m6, m7, m8, m9, m10, m11]) dX3_takeFrom_29 fp_X3_40 kl_1000 rfl rfl rfl (Nat.le_of_ble_eq_true rfl) rfl ?_
  refine K_nmm (fun w => [m0, w, m2, m3, m4, m5, m6, m7, m8, m9, m10, m11]) rfl (fun w14 => ?_)
  refine K_aload_n 0 dX3_takeFrom_32 rfl ?_
  refine K_aload_n 1 dX3_takeFrom_33 rfl ?_
  refine K_get (v := .int (m9 0 4)) dX3_takeFrom_34 fl_X3_44 kl_9000 rfl rfl ?_
  refine K_put (Ms' := [m0, (up w14 0 4 (m9 0 4)), m2, m3, m4, m5, m6, m7, m8, m9, m10, m11]) dX3_takeFrom_37 fp_X3_44 kl_1000 rfl rfl rfl (Nat.le_of_ble_eq_true rfl) rfl ?_
  refine K_nmm (fun w => [m0, w, m2, m3, m4, m5, m6, m7, m8, m9, m10, m11]) rfl (fun w15 => ?_)
  refine K_aload_n 0 dX3_takeFrom_40 rfl ?_
  refine K_aload_n 1 dX3_takeFrom_41 rfl ?_
  refine K_get (v := .int (m9 0 5)) dX3_takeFrom_42 fl_X3_47 kl_9000 rfl rfl ?_
  refine K_put (Ms' := [m0, (up w15 0 5 (m9 0 5)), m2, m3, m4, m5, m6, m7, m8, m9, m10, m11]) dX3_takeFrom_45 fp_X3_47 kl_1000 rfl rfl rfl (Nat.le_of_ble_eq_true rfl) rfl ?_
  refine K_nmm (fun w => [m0, w, m2, m3, m4, m5, m6, m7, m8, m9, m10, m11]) rfl (fun w16 => ?_)
  refine K_aload_n 0 dX3_takeFrom_48 rfl ?_
  refine K_aload_n 1 dX3_takeFrom_49 rfl ?_
  refine K_get (v := .int (m9 0 6)) dX3_takeFrom_50 fl_X3_50 kl_9000 rfl rfl ?_
  refine K_put (Ms' := [m0, (up w16 0 6 (m9 0 6)), m2, m3, m4, m5, m6, m7, m8, m9, m10, m11]) dX3_takeFrom_53 fp_X3_50 kl_1000 rfl rfl rfl (Nat.le_of_ble_eq_true rfl) rfl ?_
  refine K_nmm (fun w => [m0, w, m2, m3, m4, m5, m6, m7, m8, m9, m10, m11]) rfl (fun w17 => ?_)
  refine K_aload_n 0 dX3_takeFrom_56 rfl ?_
  refine K_aload_n 1 dX3_takeFrom_57 rfl ?_
  refine K_get (v := .int (m9 0 7)) dX3_takeFrom_58 fl_X3_53 kl_9000 rfl rfl ?_
  refine K_put (Ms' := [m0, (up w17 0 7 (m9 0 7)), m2, m3, m4, m5, m6, m7, m8, m9, m10, m11]) dX3_takeFrom_61 fp_X3_53 kl_1000 rfl rfl rfl (Nat.le_of_ble_eq_true rfl) rfl ?_
  refine K_nmm (fun w => [m0, w, m2, m3, m4, m5, m6, m7, m8, m9, m10, m11]) rfl (fun w18 => ?_)
  refine K_aload_n 0 dX3_takeFrom_64 rfl ?_
  refine K_aload_n 1 dX3_takeFrom_65 rfl ?_
  refine K_get (v := .int (m9 0 8)) dX3_takeFrom_66 fl_X3_56 kl_9000 rfl rfl ?_
  refine K_put (Ms' := [m0, (up w18 0 8 (m9 0 8)), m2, m3, m4, m5, m6, m7, m8, m9, m10, m11]) dX3_takeFrom_69 fp_X3_56 kl_1000 rfl rfl rfl (Nat.le_of_ble_eq_true rfl) rfl ?_
  refine K_nmm (fun w => [m0, w, m2, m3, m4, m5, m6, m7, m8, m9, m10, m11]) rfl (fun w19 => ?_)
  refine K_aload_n 0 dX3_takeFrom_72 rfl ?_
  refine K_aload_n 1 dX3_takeFrom_73 rfl ?_
  refine K_get (v := .int (m9 0 9)) dX3_takeFrom_74 fl_X3_59 kl_9000 rfl rfl ?_
  refine K_put (Ms' := [m0, (up w19 0 9 (m9 0 9)), m2, m3, m4, m5, m6, m7, m8, m9, m10, m11]) dX3_takeFrom_77 fp_X3_59 kl_1000 rfl rfl rfl (Nat.le_of_ble_eq_true rfl) rfl ?_
  refine K_nmm (fun w => [m0, w, m2, m3, m4, m5, m6, m7, m8, m9, m10, m11]) rfl (fun w20 => ?_)
  refine K_aload_n 1 dX3_takeFrom_80 rfl ?_
  refine K_get (v := .ref 9011) dX3_takeFrom_81 fl_X3_15 kl_9000 rfl rfl ?_
  refine K_iconst (v := 0) dX3_takeFrom_84 (by decide) ?_
  refine K_aload_n 0 dX3_takeFrom_85 rfl ?_
  refine K_get (v := .ref 1011) dX3_takeFrom_86 fl_X3_15 kl_1000 rfl rfl ?_
  refine K_iconst (v := 0) dX3_takeFrom_89 (by decide) ?_
  refine K_aload_n 0 dX3_takeFrom_90 rfl ?_
  refine K_get (v := .ref 1011) dX3_takeFrom_91 fl_X3_15 kl_1000 rfl rfl ?_
  refine K_alen (v := 64) dX3_takeFrom_94 kl_1011 (by decide) (by decide) ?_
  refine K_copy (Ms' := [m0, (upA w20 11 (va_cpy (m9 11) (w20 11) (0 : Int32).toNatClampNeg (0 : Int32).toNatClampNeg (64 : Int32).toNatClampNeg)), m2, m3, m4, m5, m6, m7, m8, m9, m10, m11]) dX3_takeFrom_95 mlk_X3_75 acp.1 acp.2.1 acp.2.2 (Nat.le_of_ble_eq_true rfl) (Nat.le_of_ble_eq_true rfl) kl_9011 kl_1011 (Nat.le_of_ble_eq_true rfl) rfl ?_
  refine K_nmm (fun w => [m0, w, m2, m3, m4, m5, m6, m7, m8, m9, m10, m11]) rfl (fun w21 => ?_)
  refine K_aload_n 1 dX3_takeFrom_98 rfl ?_
  refine K_get (v := .ref 9012) dX3_takeFrom_99 fl_X3_19 kl_9000 rfl rfl ?_
  refine K_iconst (v := 0) dX3_takeFrom_102 (by decide) ?_
  refine K_aload_n 0 dX3_takeFrom_103 rfl ?_
  refine K_get (v := .ref 1012) dX3_takeFrom_104 fl_X3_19 kl_1000 rfl rfl ?_
  refine K_iconst (v := 0) dX3_takeFrom_107 (by decide) ?_
  refine K_bipush (v := 7) dX3_takeFrom_108 (by decide) ?_
  refine K_copy (Ms' := [m0, (upA w21 12 (va_cpy (m9 12) (w21 12) (0 : Int32).toNatClampNeg (0 : Int32).toNatClampNeg (7 : Int32).toNatClampNeg)), m2, m3, m4, m5, m6, m7, m8, m9, m10, m11]) dX3_takeFrom_110 mlk_X3_75 acp.1 acp.2.1 acp.2.2 (Nat.le_of_ble_eq_true rfl) (Nat.le_of_ble_eq_true rfl) kl_9012 kl_1012 (Nat.le_of_ble_eq_true rfl) rfl ?_
  refine K_nmm (fun w => [m0, w, m2, m3, m4, m5, m6, m7, m8, m9, m10, m11]) rfl (fun w22 => ?_)
  refine K_aload_n 1 dX3_takeFrom_113 rfl ?_
  refine K_get (v := .ref 9013) dX3_takeFrom_114 fl_X3_22 kl_9000 rfl rfl ?_
  refine K_iconst (v := 0) dX3_takeFrom_117 (by decide) ?_
  refine K_aload_n 0 dX3_takeFrom_118 rfl ?_
  refine K_get (v := .ref 1013) dX3_takeFrom_119 fl_X3_22 kl_1000 rfl rfl ?_
  refine K_iconst (v := 0) dX3_takeFrom_122 (by decide) ?_
  refine K_bipush (v := 7) dX3_takeFrom_123 (by decide) ?_
  refine K_copy (Ms' := [m0, (upA w22 13 (va_cpy (m9 13) (w22 13) (0 : Int32).toNatClampNeg (0 : Int32).toNatClampNeg (7 : Int32).toNatClampNeg)), m2, m3, m4, m5, m6, m7, m8, m9, m10, m11]) dX3_takeFrom_125 mlk_X3_75 acp.1 acp.2.1 acp.2.2 (Nat.le_of_ble_eq_true rfl) (Nat.le_of_ble_eq_true rfl) kl_9013 kl_1013 (Nat.le_of_ble_eq_true rfl) rfl ?_
  refine K_nmm (fun w => [m0, w, m2, m3, m4, m5, m6, m7, m8, m9, m10, m11]) rfl (fun w23 => ?_)
  refine K_aload_n 1 dX3_takeFrom_128 rfl ?_
  refine K_get (v := .ref 9014) dX3_takeFrom_129 fl_X3_25 kl_9000 rfl rfl ?_
  refine K_iconst (v := 0) dX3_takeFrom_132 (by decide) ?_
  refine K_aload_n 0 dX3_takeFrom_133 rfl ?_
  refine K_get (v := .ref 1014) dX3_takeFrom_134 fl_X3_25 kl_1000 rfl rfl ?_
  refine K_iconst (v := 0) dX3_takeFrom_137 (by decide) ?_
  refine K_bipush (v := 7) dX3_takeFrom_138 (by decide) ?_
  refine K_copy (Ms' := [m0, (upA w23 14 (va_cpy (m9 14) (w23 14) (0 : Int32).toNatClampNeg (0 : Int32).toNatClampNeg (7 : Int32).toNatClampNeg)), m2, m3, m4, m5, m6, m7, m8, m9, m10, m11]) dX3_takeFrom_140 mlk_X3_75 acp.1 acp.2.1 acp.2.2 (Nat.le_of_ble_eq_true rfl) (Nat.le_of_ble_eq_true rfl) kl_9014 kl_1014 (Nat.le_of_ble_eq_true rfl) rfl ?_
  refine K_nmm (fun w => [m0, w, m2, m3, m4, m5, m6, m7, m8, m9, m10, m11]) rfl (fun w24 => ?_)
  refine K_aload_n 1 dX3_takeFrom_143 rfl ?_
  refine K_get (v := .ref 9015) dX3_takeFrom_144 fl_X3_28 kl_9000 rfl rfl ?_
  refine K_iconst (v := 0) dX3_takeFrom_147 (by decide) ?_
  refine K_aload_n 0 dX3_takeFrom_148 rfl ?_
  refine K_get (v := .ref 1015) dX3_takeFrom_149 fl_X3_28 kl_1000 rfl rfl ?_
  refine K_iconst (v := 0) dX3_takeFrom_152 (by decide) ?_
  refine K_bipush (v := 7) dX3_takeFrom_153 (by decide) ?_
  refine K_copy (Ms' := [m0, (upA w24 15 (va_cpy (m9 15) (w24 15) (0 : Int32).toNatClampNeg (0 : Int32).toNatClampNeg (7 : Int32).toNatClampNeg)), m2, m3, m4, m5, m6, m7, m8, m9, m10, m11]) dX3_takeFrom_155 mlk_X3_75 acp.1 acp.2.1 acp.2.2 (Nat.le_of_ble_eq_true rfl) (Nat.le_of_ble_eq_true rfl) kl_9015 kl_1015 (Nat.le_of_ble_eq_true rfl) rfl ?_
  refine K_nmm (fun w => [m0, w, m2, m3, m4, m5, m6, m7, m8, m9, m10, m11]) rfl (fun w25 => ?_)
  refine K_aload_n 1 dX3_takeFrom_158 rfl ?_
  refine K_get (v := .ref 9016) dX3_takeFrom_159 fl_X3_31 kl_9000 rfl rfl ?_
  refine K_iconst (v := 0) dX3_takeFrom_162 (by decide) ?_
  refine K_aload_n 0 dX3_takeFrom_163 rfl ?_
  refine K_get (v := .ref 1016) dX3_takeFrom_164 fl_X3_31 kl_1000 rfl rfl ?_
  refine K_iconst (v := 0) dX3_takeFrom_167 (by decide) ?_
  refine K_iconst (v := 3) dX3_takeFrom_168 (by decide) ?_
  refine K_copy (Ms' := [m0, (upA w25 16 (va_cpy (m9 16) (w25 16) (0 : Int32).toNatClampNeg (0 : Int32).toNatClampNeg (3 : Int32).toNatClampNeg)), m2, m3, m4, m5, m6, m7, m8, m9, m10, m11]) dX3_takeFrom_169 mlk_X3_75 acp.1 acp.2.1 acp.2.2 (Nat.le_of_ble_eq_true rfl) (Nat.le_of_ble_eq_true rfl) kl_9016 kl_1016 (Nat.le_of_ble_eq_true rfl) rfl ?_
  refine K_nmm (fun w => [m0, w, m2, m3, m4, m5, m6, m7, m8, m9, m10, m11]) rfl (fun w26 => ?_)
  refine K_aload_n 1 dX3_takeFrom_172 rfl ?_
  refine K_get (v := .ref 9017) dX3_takeFrom_173 fl_X3_34 kl_9000 rfl rfl ?_
  refine K_iconst (v := 0) dX3_takeFrom_176 (by decide) ?_
  refine K_aload_n 0 dX3_takeFrom_177 rfl ?_
  refine K_get (v := .ref 1017) dX3_takeFrom_178 fl_X3_34 kl_1000 rfl rfl ?_
  refine K_iconst (v := 0) dX3_takeFrom_181 (by decide) ?_
  refine K_iconst (v := 3) dX3_takeFrom_182 (by decide) ?_
  refine K_copy (Ms' := [m0, (upA w26 17 (va_cpy (m9 17) (w26 17) (0 : Int32).toNatClampNeg (0 : Int32).toNatClampNeg (3 : Int32).toNatClampNeg)), m2, m3, m4, m5, m6, m7, m8, m9, m10, m11]) dX3_takeFrom_183 mlk_X3_75 acp.1 acp.2.1 acp.2.2 (Nat.le_of_ble_eq_true rfl) (Nat.le_of_ble_eq_true rfl) kl_9017 kl_1017 (Nat.le_of_ble_eq_true rfl) rfl ?_
  refine K_nmm (fun w => [m0, w, m2, m3, m4, m5, m6, m7, m8, m9, m10, m11]) rfl (fun w27 => ?_)
  refine K_aload_n 1 dX3_takeFrom_186 rfl ?_
  refine K_get (v := .ref 9018) dX3_takeFrom_187 fl_X3_37 kl_9000 rfl rfl ?_
  refine K_iconst (v := 0) dX3_takeFrom_190 (by decide) ?_
  refine K_aload_n 0 dX3_takeFrom_191 rfl ?_
  refine K_get (v := .ref 1018) dX3_takeFrom_192 fl_X3_37 kl_1000 rfl rfl ?_
  refine K_iconst (v := 0) dX3_takeFrom_195 (by decide) ?_
  refine K_iconst (v := 3) dX3_takeFrom_196 (by decide) ?_
  refine K_copy (Ms' := [m0, (upA w27 18 (va_cpy (m9 18) (w27 18) (0 : Int32).toNatClampNeg (0 : Int32).toNatClampNeg (3 : Int32).toNatClampNeg)), m2, m3, m4, m5, m6, m7, m8, m9, m10, m11]) dX3_takeFrom_197 mlk_X3_75 acp.1 acp.2.1 acp.2.2 (Nat.le_of_ble_eq_true rfl) (Nat.le_of_ble_eq_true rfl) kl_9018 kl_1018 (Nat.le_of_ble_eq_true rfl) rfl ?_
  refine K_nmm (fun w => [m0, w, m2, m3, m4, m5, m6, m7, m8, m9, m10, m11]) rfl (fun w28 => ?_)
  exact K_ret (rv := none) dX3_takeFrom_200 trivial rfl rfl
theorem c_X3_takeFrom_1_9 {G : GE} (hj : dj G) (m0 m1 m2 m3 m4 m5 m6 m7 m8 m9 m10 m11 : Mem)  {r : Mem} (hr : f_X3_takeFrom m1 m9 = some r) : Ctr G yX3_takeFrom (mi_X3_takeFrom 1) [.ref 1000, .ref 9000] [m0, m1, m2, m3, m4, m5, m6, m7, m8, m9, m10, m11] ((e_X3_takeFrom_1_9 m0 m1 m2 m3 m4 m5 m6 m7 m8 m9 m10 m11) r).1 ((e_X3_takeFrom_1_9 m0 m1 m2 m3 m4 m5 m6 m7 m8 m9 m10 m11) r).2 := Ctr_of hj (by decide) rfl hr rfl (Nat.le_of_ble_eq_true rfl) (k_X3_takeFrom_1_9 m0 m1 m2 m3 m4 m5 m6 m7 m8 m9 m10 m11 )
abbrev e_X3_takeFrom_1_10 (m0 m1 m2 m3 m4 m5 m6 m7 m8 m9 m10 m11 : Mem) : Mem → Option Value × List Mem := fun r => (none, [m0, r, m2, m3, m4, m5, m6, m7, m8, m9, m10, m11])
theorem k_X3_takeFrom_1_10 {G : GE} (m0 m1 m2 m3 m4 m5 m6 m7 m8 m9 m10 m11 : Mem)  : K G (mi_X3_takeFrom 1) (e_X3_takeFrom_1_10 m0 m1 m2 m3 m4 m5 m6 m7 m8 m9 m10 m11) 0 [(0, .ref 1000), (1, .ref 10000)] [] [m0, m1, m2, m3, m4, m5, m6, m7, m8, m9, m10, m11] (f_X3_takeFrom m1 m10) := by
  unfold f_X3_takeFrom
  refine K_aload_n 0 dX3_takeFrom_0 rfl ?_
  refine K_aload_n 1 dX3_takeFrom_1 rfl ?_
  refine K_get (v := .int (m10 0 0)) dX3_takeFrom_2 fl_X3_9 kl_10000 rfl rfl ?_
  refine K_putB (Ms' := [m0, (up m1 0 0 (m10 0 0)), m2, m3, m4, m5, m6, m7, m8, m9, m10, m11]) dX3_takeFrom_5 fp_X3_9 kl_1000 rfl (Nat.le_of_ble_eq_true rfl) rfl ?_
  refine K_nmm (fun w => [m0, w, m2, m3, m4, m5, m6, m7, m8, m9, m10, m11]) rfl (fun w11 => ?_)
  refine K_aload_n 0 dX3_takeFrom_8 rfl ?_
  refine K_aload_n 1 dX3_takeFrom_9 rfl ?_
  refine K_get (v := .int (m10 0 1)) dX3_takeFrom_10 fl_X3_69 kl_10000 rfl rfl ?_
  refine K_put (Ms' := [m0, (up w11 0 1 (m10 0 1)), m2, m3, m4, m5, m6, m7, m8, m9, m10, m11]) dX3_takeFrom_13 fp_X3_69 kl_1000 rfl rfl rfl (Nat.le_of_ble_eq_true rfl) rfl ?_
  refine K_nmm (fun w => [m0, w, m2, m3, m4, m5, m6, m7, m8, m9, m10, m11]) rfl (fun w12 => ?_)
  refine K_aload_n 0 dX3_takeFrom_16 rfl ?_
  refine K_aload_n 1 dX3_takeFrom_17 rfl ?_
  refine K_get (v := .int (m10 0 2)) dX3_takeFrom_18 fl_X3_72 kl_10000 rfl rfl ?_
  refine K_put (Ms' := [m0, (up w12 0 2 (m10 0 2)), m2, m3, m4, m5, m6, m7, m8, m9, m10, m11]) dX3_takeFrom_21 fp_X3_72 kl_1000 rfl rfl rfl (Nat.le_of_ble_eq_true rfl) rfl ?_
  refine K_nmm (fun w => [m0, w, m2, m3, m4, m5, m6, m7, m8, m9, m10, m11]) rfl (fun w13 => ?_)
  refine K_aload_n 0 dX3_takeFrom_24 rfl ?_
  refine K_aload_n 1 dX3_takeFrom_25 rfl ?_
  refine K_get (v := .int (m10 0 3)) dX3_takeFrom_26 fl_X3_40 kl_10000 rfl rfl ?_
  refine K_put (Ms' := [m0, (up w13 0 3 (m10 0 3)), m2, m3, m4, m5, m6, m7, m8, m9, m10, m11]) dX3_takeFrom_29 fp_X3_40 kl_1000 rfl rfl rfl (Nat.le_of_ble_eq_true rfl) rfl ?_
  refine K_nmm (fun w => [m0, w, m2, m3, m4, m5, m6, m7, m8, m9, m10, m11]) rfl (fun w14 => ?_)
  refine K_aload_n 0 dX3_takeFrom_32 rfl ?_
  refine K_aload_n 1 dX3_takeFrom_33 rfl ?_
  refine K_get (v := .int (m10 0 4)) dX3_takeFrom_34 fl_X3_44 kl_10000 rfl rfl ?_
  refine K_put (Ms' := [m0, (up w14 0 4 (m10 0 4)), m2, m3, m4, m5, m6, m7, m8, m9, m10, m11]) dX3_takeFrom_37 fp_X3_44 kl_1000 rfl rfl rfl (Nat.le_of_ble_eq_true rfl) rfl ?_
  refine K_nmm (fun w => [m0, w, m2, m3, m4, m5, m6, m7, m8, m9, m10, m11]) rfl (fun w15 => ?_)
  refine K_aload_n 0 dX3_takeFrom_40 rfl ?_
  refine K_aload_n 1 dX3_takeFrom_41 rfl ?_
  refine K_get (v := .int (m10 0 5)) dX3_takeFrom_42 fl_X3_47 kl_10000 rfl rfl ?_
  refine K_put (Ms' := [m0, (up w15 0 5 (m10 0 5)), m2, m3, m4, m5, m6, m7, m8, m9, m10, m11]) dX3_takeFrom_45 fp_X3_47 kl_1000 rfl rfl rfl (Nat.le_of_ble_eq_true rfl) rfl ?_
  refine K_nmm (fun w => [m0, w, m2, m3, m4, m5, m6, m7, m8, m9, m10, m11]) rfl (fun w16 => ?_)
  refine K_aload_n 0 dX3_takeFrom_48 rfl ?_
  refine K_aload_n 1 dX3_takeFrom_49 rfl ?_
  refine K_get (v := .int (m10 0 6)) dX3_takeFrom_50 fl_X3_50 kl_10000 rfl rfl ?_
  refine K_put (Ms' := [m0, (up w16 0 6 (m10 0 6)), m2, m3, m4, m5, m6, m7, m8, m9, m10, m11]) dX3_takeFrom_53 fp_X3_50 kl_1000 rfl rfl rfl (Nat.le_of_ble_eq_true rfl) rfl ?_
  refine K_nmm (fun w => [m0, w, m2, m3, m4, m5, m6, m7, m8, m9, m10, m11]) rfl (fun w17 => ?_)
  refine K_aload_n 0 dX3_takeFrom_56 rfl ?_
  refine K_aload_n 1 dX3_takeFrom_57 rfl ?_
  refine K_get (v := .int (m10 0 7)) dX3_takeFrom_58 fl_X3_53 kl_10000 rfl rfl ?_
  refine K_put (Ms' := [m0, (up w17 0 7 (m10 0 7)), m2, m3, m4, m5, m6, m7, m8, m9, m10, m11]) dX3_takeFrom_61 fp_X3_53 kl_1000 rfl rfl rfl (Nat.le_of_ble_eq_true rfl) rfl ?_
  refine K_nmm (fun w => [m0, w, m2, m3, m4, m5, m6, m7, m8, m9, m10, m11]) rfl (fun w18 => ?_)
  refine K_aload_n 0 dX3_takeFrom_64 rfl ?_
  refine K_aload_n 1 dX3_takeFrom_65 rfl ?_
  refine K_get (v := .int (m10 0 8)) dX3_takeFrom_66 fl_X3_56 kl_10000 rfl rfl ?_
  refine K_put (Ms' := [m0, (up w18 0 8 (m10 0 8)), m2, m3, m4, m5, m6, m7, m8, m9, m10, m11]) dX3_takeFrom_69 fp_X3_56 kl_1000 rfl rfl rfl (Nat.le_of_ble_eq_true rfl) rfl ?_
  refine K_nmm (fun w => [m0, w, m2, m3, m4, m5, m6, m7, m8, m9, m10, m11]) rfl (fun w19 => ?_)
  refine K_aload_n 0 dX3_takeFrom_72 rfl ?_
  refine K_aload_n 1 dX3_takeFrom_73 rfl ?_
  refine K_get (v := .int (m10 0 9)) dX3_takeFrom_74 fl_X3_59 kl_10000 rfl rfl ?_
  refine K_put (Ms' := [m0, (up w19 0 9 (m10 0 9)), m2, m3, m4, m5, m6, m7, m8, m9, m10, m11]) dX3_takeFrom_77 fp_X3_59 kl_1000 rfl rfl rfl (Nat.le_of_ble_eq_true rfl) rfl ?_
  refine K_nmm (fun w => [m0, w, m2, m3, m4, m5, m6, m7, m8, m9, m10, m11]) rfl (fun w20 => ?_)
  refine K_aload_n 1 dX3_takeFrom_80 rfl ?_
  refine K_get (v := .ref 10011) dX3_takeFrom_81 fl_X3_15 kl_10000 rfl rfl ?_
  refine K_iconst (v := 0) dX3_takeFrom_84 (by decide) ?_
  refine K_aload_n 0 dX3_takeFrom_85 rfl ?_
  refine K_get (v := .ref 1011) dX3_takeFrom_86 fl_X3_15 kl_1000 rfl rfl ?_
  refine K_iconst (v := 0) dX3_takeFrom_89 (by decide) ?_
  refine K_aload_n 0 dX3_takeFrom_90 rfl ?_
  refine K_get (v := .ref 1011) dX3_takeFrom_91 fl_X3_15 kl_1000 rfl rfl ?_
  refine K_alen (v := 64) dX3_takeFrom_94 kl_1011 (by decide) (by decide) ?_
  refine K_copy (Ms' := [m0, (upA w20 11 (va_cpy (m10 11) (w20 11) (0 : Int32).toNatClampNeg (0 : Int32).toNatClampNeg (64 : Int32).toNatClampNeg)), m2, m3, m4, m5, m6, m7, m8, m9, m10, m11]) dX3_takeFrom_95 mlk_X3_75 acp.1 acp.2.1 acp.2.2 (Nat.le_of_ble_eq_true rfl) (Nat.le_of_ble_eq_true rfl) kl_10011 kl_1011 (Nat.le_of_ble_eq_true rfl) rfl ?_
  refine K_nmm (fun w => [m0, w, m2, m3, m4, m5, m6, m7, m8, m9, m10, m11]) rfl (fun w21 => ?_)
  refine K_aload_n 1 dX3_takeFrom_98 rfl ?_
  refine K_get (v := .ref 10012) dX3_takeFrom_99 fl_X3_19 kl_10000 rfl rfl ?_
  refine K_iconst (v := 0) dX3_takeFrom_102 (by decide) ?_
  refine K_aload_n 0 dX3_takeFrom_103 rfl ?_
  refine K_get (v := .ref 1012) dX3_takeFrom_104 fl_X3_19 kl_1000 rfl rfl ?_
  refine K_iconst (v := 0) dX3_takeFrom_107 (by decide) ?_
  refine K_bipush (v := 7) dX3_takeFrom_108 (by decide) ?_
  refine K_copy (Ms' := [m0, (upA w21 12 (va_cpy (m10 12) (w21 12) (0 : Int32).toNatClampNeg (0 : Int32).toNatClampNeg (7 : Int32).toNatClampNeg)), m2, m3, m4, m5, m6, m7, m8, m9, m10, m11]) dX3_takeFrom_110 mlk_X3_75 acp.1 acp.2.1 acp.2.2 (Nat.le_of_ble_eq_true rfl) (Nat.le_of_ble_eq_true rfl) kl_10012 kl_1012 (Nat.le_of_ble_eq_true rfl) rfl ?_
  refine K_nmm (fun w => [m0, w, m2, m3, m4, m5, m6, m7, m8, m9, m10, m11]) rfl (fun w22 => ?_)
  refine K_aload_n 1 dX3_takeFrom_113 rfl ?_
  refine K_get (v := .ref 10013) dX3_takeFrom_114 fl_X3_22 kl_10000 rfl rfl ?_
  refine K_iconst (v := 0) dX3_takeFrom_117 (by decide) ?_
  refine K_aload_n 0 dX3_takeFrom_118 rfl ?_
  refine K_get (v := .ref 1013) dX3_takeFrom_119 fl_X3_22 kl_1000 rfl rfl ?_
  refine K_iconst (v := 0) dX3_takeFrom_122 (by decide) ?_
  refine K_bipush (v := 7) dX3_takeFrom_123 (by decide) ?_
  refine K_copy (Ms' := [m0, (upA w22 13 (va_cpy (m10 13) (w22 13) (0 : Int32).toNatClampNeg (0 : Int32).toNatClampNeg (7 : Int32).toNatClampNeg)), m2, m3, m4, m5, m6, m7, m8, m9, m10, m11]) dX3_takeFrom_125 mlk_X3_75 acp.1 acp.2.1 acp.2.2 (Nat.le_of_ble_eq_true rfl) (Nat.le_of_ble_eq_true rfl) kl_10013 kl_1013 (Nat.le_of_ble_eq_true rfl) rfl ?_
  refine K_nmm (fun w => [m0, w, m2, m3, m4, m5, m6, m7, m8, m9, m10, m11]) rfl (fun w23 => ?_)
  refine K_aload_n 1 dX3_takeFrom_128 rfl ?_
  refine K_get (v := .ref 10014) dX3_takeFrom_129 fl_X3_25 kl_10000 rfl rfl ?_
  refine K_iconst (v := 0) dX3_takeFrom_132 (by decide) ?_
  refine K_aload_n 0 dX3_takeFrom_133 rfl ?_
  refine K_get (v := .ref 1014) dX3_takeFrom_134 fl_X3_25 kl_1000 rfl rfl ?_
  refine K_iconst (v := 0) dX3_takeFrom_137 (by decide) ?_
  refine K_bipush (v := 7) dX3_takeFrom_138 (by decide) ?_
  refine K_copy (Ms' := [m0, (upA w23 14 (va_cpy (m10 14) (w23 14) (0 : Int32).toNatClampNeg (0 : Int32).toNatClampNeg (7 : Int32).toNatClampNeg)), m2, m3, m4, m5, m6, m7, m8, m9, m10, m11]) dX3_takeFrom_140 mlk_X3_75 acp.1 acp.2.1 acp.2.2 (Nat.le_of_ble_eq_true rfl) (Nat.le_of_ble_eq_true rfl) kl_10014 kl_1014 (Nat.le_of_ble_eq_true rfl) rfl ?_
  refine K_nmm (fun w => [m0, w, m2, m3, m4, m5, m6, m7, m8, m9, m10, m11]) rfl (fun w24 => ?_)
  refine K_aload_n 1 dX3_takeFrom_143 rfl ?_
  refine K_get (v := .ref 10015) dX3_takeFrom_144 fl_X3_28 kl_10000 rfl rfl ?_
  refine K_iconst (v := 0) dX3_takeFrom_147 (by decide) ?_
  refine K_aload_n 0 dX3_takeFrom_148 rfl ?_
  refine K_get (v := .ref 1015) dX3_takeFrom_149 fl_X3_28 kl_1000 rfl rfl ?_
  refine K_iconst (v := 0) dX3_takeFrom_152 (by decide) ?_
  refine K_bipush (v := 7) dX3_takeFrom_153 (by decide) ?_
  refine K_copy (Ms' := [m0, (upA w24 15 (va_cpy (m10 15) (w24 15) (0 : Int32).toNatClampNeg (0 : Int32).toNatClampNeg (7 : Int32).toNatClampNeg)), m2, m3, m4, m5, m6, m7, m8, m9, m10, m11]) dX3_takeFrom_155 mlk_X3_75 acp.1 acp.2.1 acp.2.2 (Nat.le_of_ble_eq_true rfl) (Nat.le_of_ble_eq_true rfl) kl_10015 kl_1015 (Nat.le_of_ble_eq_true rfl) rfl ?_
  refine K_nmm (fun w => [m0, w, m2, m3, m4, m5, m6, m7, m8, m9, m10, m11]) rfl (fun w25 => ?_)
  refine K_aload_n 1 dX3_takeFrom_158 rfl ?_
  refine K_get (v := .ref 10016) dX3_takeFrom_159 fl_X3_31 kl_10000 rfl rfl ?_
  refine K_iconst (v := 0) dX3_takeFrom_162 (by decide) ?_
  refine K_aload_n 0 dX3_takeFrom_163 rfl ?_
  refine K_get (v := .ref 1016) dX3_takeFrom_164 fl_X3_31 kl_1000 rfl rfl ?_
  refine K_iconst (v := 0) dX3_takeFrom_167 (by decide) ?_
  refine K_iconst (v := 3) dX3_takeFrom_168 (by decide) ?_
  refine K_copy (Ms' := [m0, (upA w25 16 (va_cpy (m10 16) (w25 16) (0 : Int32).toNatClampNeg (0 : Int32).toNatClampNeg (3 : Int32).toNatClampNeg)), m2, m3, m4, m5, m6, m7, m8, m9, m10, m11]) dX3_takeFrom_169 mlk_X3_75 acp.1 acp.2.1 acp.2.2 (Nat.le_of_ble_eq_true rfl) (Nat.le_of_ble_eq_true rfl) kl_10016 kl_1016 (Nat.le_of_ble_eq_true rfl) rfl ?_
  refine K_nmm (fun w => [m0, w, m2, m3, m4, m5, m6, m7, m8, m9, m10, m11]) rfl (fun w26 => ?_)
  refine K_aload_n 1 dX3_takeFrom_172 rfl ?_
  refine K_get (v := .ref 10017) dX3_takeFrom_173 fl_X3_34 kl_10000 rfl rfl ?_
  refine K_iconst (v := 0) dX3_takeFrom_176 (by decide) ?_
  refine K_aload_n 0 dX3_takeFrom_177 rfl ?_
  refine K_get (v := .ref 1017) dX3_takeFrom_178 fl_X3_34 kl_1000 rfl rfl ?_
  refine K_iconst (v := 0) dX3_takeFrom_181 (by decide) ?_
  refine K_iconst (v := 3) dX3_takeFrom_182 (by decide) ?_
  refine K_copy (Ms' := [m0, (upA w26 17 (va_cpy (m10 17) (w26 17) (0 : Int32).toNatClampNeg (0 : Int32).toNatClampNeg (3 : Int32).toNatClampNeg)), m2, m3, m4, m5, m6, m7, m8, m9, m10, m11]) dX3_takeFrom_183 mlk_X3_75 acp.1 acp.2.1 acp.2.2 (Nat.le_of_ble_eq_true rfl) (Nat.le_of_ble_eq_true rfl) kl_10017 kl_1017 (Nat.le_of_ble_eq_true rfl) rfl ?_
  refine K_nmm (fun w => [m0, w, m2, m3, m4, m5, m6, m7, m8, m9, m10, m11]) rfl (fun w27 => ?_)
  refine K_aload_n 1 dX3_takeFrom_186 rfl ?_
  refine K_get (v := .ref 10018) dX3_takeFrom_187 fl_X3_37 kl_10000 rfl rfl ?_
  refine K_iconst (v := 0) dX3_takeFrom_190 (by decide) ?_
  refine K_aload_n 0 dX3_takeFrom_191 rfl ?_
  refine K_get (v := .ref 1018) dX3_takeFrom_192 fl_X3_37 kl_1000 rfl rfl ?_
  refine K_iconst (v := 0) dX3_takeFrom_195 (by decide) ?_
  refine K_iconst (v := 3) dX3_takeFrom_196 (by decide) ?_
  refine K_copy (Ms' := [m0, (upA w27 18 (va_cpy (m10 18) (w27 18) (0 : Int32).toNatClampNeg (0 : Int32).toNatClampNeg (3 : Int32).toNatClampNeg)), m2, m3, m4, m5, m6, m7, m8, m9, m10, m11]) dX3_takeFrom_197 mlk_X3_75 acp.1 acp.2.1 acp.2.2 (Nat.le_of_ble_eq_true rfl) (Nat.le_of_ble_eq_true rfl) kl_10018 kl_1018 (Nat.le_of_ble_eq_true rfl) rfl ?_
  refine K_nmm (fun w => [m0, w, m2, m3, m4, m5, m6, m7, m8, m9, m10, m11]) rfl (fun w28 => ?_)
  exact K_ret (rv := none) dX3_takeFrom_200 trivial rfl rfl
theorem c_X3_takeFrom_1_10 {G : GE} (hj : dj G) (m0 m1 m2 m3 m4 m5 m6 m7 m8 m9 m10 m11 : Mem)  {r : Mem} (hr : f_X3_takeFrom m1 m10 = some r) : Ctr G yX3_takeFrom (mi_X3_takeFrom 1) [.ref 1000, .ref 10000] [m0, m1, m2, m3, m4, m5, m6, m7, m8, m9, m10, m11] ((e_X3_takeFrom_1_10 m0 m1 m2 m3 m4 m5 m6 m7 m8 m9 m10 m11) r).1 ((e_X3_takeFrom_1_10 m0 m1 m2 m3 m4 m5 m6 m7 m8 m9 m10 m11) r).2 := Ctr_of hj (by decide) rfl hr rfl (Nat.le_of_ble_eq_true rfl) (k_X3_takeFrom_1_10 m0 m1 m2 m3 m4 m5 m6 m7 m8 m9 m10 m11 )
abbrev e_X3_takeFrom_9_1 (m0 m1 m2 m3 m4 m5 m6 m7 m8 m9 m10 m11 : Mem) : Mem → Option Value × List Mem := fun r => (none, [m0, m1, m2, m3, m4, m5, m6, m7, m8, r, m10, m11])
theorem k_X3_takeFrom_9_1 {G : GE} (m0 m1 m2 m3 m4 m5 m6 m7 m8 m9 m10 m11 : Mem)  : K G (mi_X3_takeFrom 1) (e_X3_takeFrom_9_1 m0 m1 m2 m3 m4 m5 m6 m7 m8 m9 m10 m11) 0 [(0, .ref 9000), (1, .ref 1000)] [] [m0, m1, m2, m3, m4, m5, m6, m7, m8, m9, m10, m11] (f_X3_takeFrom m9 m1) := by
  unfold f_X3_takeFrom
  refine K_aload_n 0 dX3_takeFrom_0 rfl ?_
  refine K_aload_n 1 dX3_takeFrom_1 rfl ?_
  refine K_get (v := .int (m1 0 0)) dX3_takeFrom_2 fl_X3_9 kl_1000 rfl rfl ?_
  refine K_putB (Ms' := [m0, m1, m2, m3, m4, m5, m6, m7, m8, (up m9 0 0 (m1 0 0)), m10, m11]) dX3_takeFrom_5 fp_X3_9 kl_9000 rfl (Nat.le_of_ble_eq_true rfl) rfl ?_
  refine K_nmm (fun w => [m0, m1, m2, m3, m4, m5, m6, m7, m8, w, m10, m11]) rfl (fun w11 => ?_)
  refine K_aload_n 0 dX3_takeFrom_8 rfl ?_
  refine K_aload_n 1 dX3_takeFrom_9 rfl ?_
  refine K_get (v := .int (m1 0 1)) dX3_takeFrom_10 fl_X3_69 kl_1000 rfl rfl ?_
  refine K_put (Ms' := [m0, m1, m2, m3, m4, m5, m6, m7, m8, (up w11 0 1 (m1 0 1)), m10, m11]) dX3_takeFrom_13 fp_X3_69 kl_9000 rfl rfl rfl (Nat.le_of_ble_eq_true rfl) rfl ?_
  refine K_nmm (fun w => [m0, m1, m2, m3, m4, m5, m6, m7, m8, w, m10, m11]) rfl (fun w12 => ?_)
  refine K_aload_n 0 dX3_takeFrom_16 rfl ?_
  refine K_aload_n 1 dX3_takeFrom_17 rfl ?_
  refine K_get (v := .int (m1 0 2)) dX3_takeFrom_18 fl_X3_72 kl_1000 rfl rfl ?_
  refine K_put (Ms' := [m0, m1, m2, m3, m4, m5, m6, m7, m8, (up w12 0 2 (m1 0 2)), m10, m11]) dX3_takeFrom_21 fp_X3_72 kl_9000 rfl rfl rfl (Nat.le_of_ble_eq_true rfl) rfl ?_
  refine K_nmm (fun w => [m0, m1, m2, m3, m4, m5, m6, m7, m8, w, m10, m11]) rfl (fun w13 => ?_)
  refine K_aload_n 0 dX3_takeFrom_24 rfl ?_
  refine K_aload_n 1 dX3_takeFrom_25 rfl ?_
  refine K_get (v := .int (m1 0 3)) dX3_takeFrom_26 fl_X3_40 kl_1000 rfl rfl ?_
  refine K_put (Ms' := [m0, m1, m2, m3, m4, m5, m6, m7, m8, (up w13 0 3 (m1 0 3)), m10, m11]) dX3_takeFrom_29 fp_X3_40 kl_9000 rfl rfl rfl (Nat.le_of_ble_eq_true rfl) rfl ?_
  refine K_nmm (fun w => [m0, m1, m2, m3, m4, m5, m6, m7, m8, w, m10, m11]) rfl (fun w14 => ?_)
  refine K_aload_n 0 dX3_takeFrom_32 rfl ?_
  refine K_aload_n 1 dX3_takeFrom_33 rfl ?_
  refine K_get (v := .int (m1 0 4)) dX3_takeFrom_34 fl_X3_44 kl_1000 rfl rfl ?_
  refine K_put (Ms' := [m0, m1, m2, m3, m4, m5, m6, m7, m8, (up w14 0 4 (m1 0 4)), m10, m11]) dX3_takeFrom_37 fp_X3_44 kl_9000 rfl rfl rfl (Nat.le_of_ble_eq_true rfl) rfl ?_
  refine K_nmm (fun w => [m0, m1, m2, m3, m4, m5, m6, m7, m8, w, m10, m11]) rfl (fun w15 => ?_)
  refine K_aload_n 0 dX3_takeFrom_40 rfl ?_
  refine K_aload_n 1 dX3_takeFrom_41 rfl ?_
  refine K_get (v := .int (m1 0 5)) dX3_takeFrom_42 fl_X3_47 kl_1000 rfl rfl ?_
  refine K_put (Ms' := [m0, m1, m2, m3, m4, m5, m6, m7, m8, (up w15 0 5 (m1 0 5)), m10, m11]) dX3_takeFrom_45 fp_X3_47 kl_9000 rfl rfl rfl (Nat.le_of_ble_eq_true rfl) rfl ?_
  refine K_nmm (fun w => [m0, m1, m2, m3, m4, m5, m6, m7, m8, w, m10, m11]) rfl (fun w16 => ?_)
  refine K_aload_n 0 dX3_takeFrom_48 rfl ?_
  refine K_aload_n 1 dX3_takeFrom_49 rfl ?_
  refine K_get (v := .int (m1 0 6)) dX3_takeFrom_50 fl_X3_50 kl_1000 rfl rfl ?_
  refine K_put (Ms' := [m0, m1, m2, m3, m4, m5, m6, m7, m8, (up w16 0 6 (m1 0 6)), m10, m11]) dX3_takeFrom_53 fp_X3_50 kl_9000 rfl rfl rfl (Nat.le_of_ble_eq_true rfl) rfl ?_
  refine K_nmm (fun w => [m0, m1, m2, m3, m4, m5, m6, m7, m8, w, m10, m11]) rfl (fun w17 => ?_)
  refine K_aload_n 0 dX3_takeFrom_56 rfl ?_
  refine K_aload_n 1 dX3_takeFrom_57 rfl ?_
  refine K_get (v := .int (m1 0 7)) dX3_takeFrom_58 fl_X3_53 kl_1000 rfl rfl ?_
  refine K_put (Ms' := [m0, m1, m2, m3, m4, m5, m6, m7, m8, (up w17 0 7 (m1 0 7)), m10, m11]) dX3_takeFrom_61 fp_X3_53 kl_9000 rfl rfl rfl (Nat.le_of_ble_eq_true rfl) rfl ?_
  refine K_nmm (fun w => [m0, m1, m2, m3, m4, m5, m6, m7, m8, w, m10, m11]) rfl (fun w18 => ?_)
  refine K_aload_n 0 dX3_takeFrom_64 rfl ?_
  refine K_aload_n 1 dX3_takeFrom_65 rfl ?_
  refine K_get (v := .int (m1 0 8)) dX3_takeFrom_66 fl_X3_56 kl_1000 rfl rfl ?_
  refine K_put (Ms' := [m0, m1, m2, m3, m4, m5, m6, m7, m8, (up w18 0 8 (m1 0 8)), m10, m11]) dX3_takeFrom_69 fp_X3_56 kl_9000 rfl rfl rfl (Nat.le_of_ble_eq_true rfl) rfl ?_
  refine K_nmm (fun w => [m0, m1, m2, m3, m4, m5, m6, m7, m8, w, m10, m11]) rfl (fun w19 => ?_)
  refine K_aload_n 0 dX3_takeFrom_72 rfl ?_
  refine K_aload_n 1 dX3_takeFrom_73 rfl ?_
  refine K_get (v := .int (m1 0 9)) dX3_takeFrom_74 fl_X3_59 kl_1000 rfl rfl ?_
  refine K_put (Ms' := [m0, m1, m2, m3, m4, m5, m6, m7, m8, (up w19 0 9 (m1 0 9)), m10, m11]) dX3_takeFrom_77 fp_X3_59 kl_9000 rfl rfl rfl (Nat.le_of_ble_eq_true rfl) rfl ?_
  refine K_nmm (fun w => [m0, m1, m2, m3, m4, m5, m6, m7, m8, w, m10, m11]) rfl (fun w20 => ?_)
  refine K_aload_n 1 dX3_takeFrom_80 rfl ?_
  refine K_get (v := .ref 1011) dX3_takeFrom_81 fl_X3_15 kl_1000 rfl rfl ?_
  refine K_iconst (v := 0) dX3_takeFrom_84 (by decide) ?_
  refine K_aload_n 0 dX3_takeFrom_85 rfl ?_
  refine K_get (v := .ref 9011) dX3_takeFrom_86 fl_X3_15 kl_9000 rfl rfl ?_
  refine K_iconst (v := 0) dX3_takeFrom_89 (by decide) ?_
  refine K_aload_n 0 dX3_takeFrom_90 rfl ?_
  refine K_get (v := .ref 9011) dX3_takeFrom_91 fl_X3_15 kl_9000 rfl rfl ?_
  refine K_alen (v := 64) dX3_takeFrom_94 kl_9011 (by decide) (by decide) ?_
  refine K_copy (Ms' := [m0, m1, m2, m3, m4, m5, m6, m7, m8, (upA w20 11 (va_cpy (m1 11) (w20 11) (0 : Int32).toNatClampNeg (0 : Int32).toNatClampNeg (64 : Int32).toNatClampNeg)), m10, m11]) dX3_takeFrom_95 mlk_X3_75 acp.1 acp.2.1 acp.2.2 (Nat.le_of_ble_eq_true rfl) (Nat.le_of_ble_eq_true rfl) kl_1011 kl_9011 (Nat.le_of_ble_eq_true rfl) rfl ?_
  refine K_nmm (fun w => [m0, m1, m2, m3, m4, m5, m6, m7, m8, w, m10, m11]) rfl (fun w21 => ?_)
  refine K_aload_n 1 dX3_takeFrom_98 rfl ?_
  refine K_get (v := .ref 1012) dX3_takeFrom_99 fl_X3_19 kl_1000 rfl rfl ?_
  refine K_iconst (v := 0) dX3_takeFrom_102 (by decide) ?_
  refine K_aload_n 0 dX3_takeFrom_103 rfl ?_
  refine K_get (v := .ref 9012) dX3_takeFrom_104 fl_X3_19 kl_9000 rfl rfl ?_
  refine K_iconst (v := 0) dX3_takeFrom_107 (by decide) ?_
  refine K_bipush (v := 7) dX3_takeFrom_108 (by decide) ?_
  refine K_copy (Ms' := [m0, m1, m2, m3, m4, m5, m6, m7, m8, (upA w21 12 (va_cpy (m1 12) (w21 12) (0 : Int32).toNatClampNeg (0 : Int32).toNatClampNeg (7 : Int32).toNatClampNeg)), m10, m11]) dX3_takeFrom_110 mlk_X3_75 acp.1 acp.2.1 acp.2.2 (Nat.le_of_ble_eq_true rfl) (Nat.le_of_ble_eq_true rfl) kl_1012 kl_9012 (Nat.le_of_ble_eq_true rfl) rfl ?_
  refine K_nmm (fun w => [m0, m1, m2, m3, m4, m5, m6, m7, m8, w, m10, m11]) rfl (fun w22 => ?_)
  refine K_aload_n 1 dX3_takeFrom_113 rfl ?_
  refine K_get (v := .ref 1013) dX3_takeFrom_114 fl_X3_22 kl_1000 rfl rfl ?_
  refine K_iconst (v := 0) dX3_takeFrom_117 (by decide) ?_
  refine K_aload_n 0 dX3_takeFrom_118 rfl ?_
  refine K_get (v := .ref 9013) dX3_takeFrom_119 fl_X3_22 kl_9000 rfl rfl ?_
  refine K_iconst (v := 0) dX3_takeFrom_122 (by decide) ?_
  refine K_bipush (v := 7) dX3_takeFrom_123 (by decide) ?_
  refine K_copy (Ms' := [m0, m1, m2, m3, m4, m5, m6, m7, m8, (upA w22 13 (va_cpy (m1 13) (w22 13) (0 : Int32).toNatClampNeg (0 : Int32).toNatClampNeg (7 : Int32).toNatClampNeg)), m10, m11]) dX3_takeFrom_125 mlk_X3_75 acp.1 acp.2.1 acp.2.2 (Nat.le_of_ble_eq_true rfl) (Nat.le_of_ble_eq_true rfl) kl_1013 kl_9013 (Nat.le_of_ble_eq_true rfl) rfl ?_
  refine K_nmm (fun w => [m0, m1, m2, m3, m4, m5, m6, m7, m8, w, m10, m11]) rfl (fun w23 => ?_)
  refine K_aload_n 1 dX3_takeFrom_128 rfl ?_
  refine K_get (v := .ref 1014) dX3_takeFrom_129 fl_X3_25 kl_1000 rfl rfl ?_
  refine K_iconst (v := 0) dX3_takeFrom_132 (by decide) ?_
  refine K_aload_n 0 dX3_takeFrom_133 rfl ?_
  refine K_get (v := .ref 9014) dX3_takeFrom_134 fl_X3_25 kl_9000 rfl rfl ?_
  refine K_iconst (v := 0) dX3_takeFrom_137 (by decide) ?_
  refine K_bipush (v := 7) dX3_takeFrom_138 (by decide) ?_
  refine K_copy (Ms' := [m0, m1, m2, m3, m4, m5, m6, m7, m8, (upA w23 14 (va_cpy (m1 14) (w23 14) (0 : Int32).toNatClampNeg (0 : Int32).toNatClampNeg (7 : Int32).toNatClampNeg)), m10, m11]) dX3_takeFrom_140 mlk_X3_75 acp.1 acp.2.1 acp.2.2 (Nat.le_of_ble_eq_true rfl) (Nat.le_of_ble_eq_true rfl) kl_1014 kl_9014 (Nat.le_of_ble_eq_true rfl) rfl ?_
  refine K_nmm (fun w => [m0, m1, m2, m3, m4, m5, m6, m7, m8, w, m10, m11]) rfl (fun w24 => ?_)
  refine K_aload_n 1 dX3_takeFrom_143 rfl ?_
  refine K_get (v := .ref 1015) dX3_takeFrom_144 fl_X3_28 kl_1000 rfl rfl ?_
  refine K_iconst (v := 0) dX3_takeFrom_147 (by decide) ?_
  refine K_aload_n 0 dX3_takeFrom_148 rfl ?_
  refine K_get (v := .ref 9015) dX3_takeFrom_149 fl_X3_28 kl_9000 rfl rfl ?_
  refine K_iconst (v := 0) dX3_takeFrom_152 (by decide) ?_
  refine K_bipush (v := 7) dX3_takeFrom_153 (by decide) ?_
  refine K_copy (Ms' := [m0, m1, m2, m3, m4, m5, m6, m7, m8, (upA w24 15 (va_cpy (m1 15) (w24 15) (0 : Int32).toNatClampNeg (0 : Int32).toNatClampNeg (7 : Int32).toNatClampNeg)), m10, m11]) dX3_takeFrom_155 mlk_X3_75 acp.1 acp.2.1 acp.2.2 (Nat.le_of_ble_eq_true rfl) (Nat.le_of_ble_eq_true rfl) kl_1015 kl_9015 (Nat.le_of_ble_eq_true rfl) rfl ?_
  refine K_nmm (fun w => [m0, m1, m2, m3, m4, m5, m6, m7, m8, w, m10, m11]) rfl (fun w25 => ?_)
  refine K_aload_n 1 dX3_takeFrom_158 rfl ?_
  refine K_get (v := .ref 1016) dX3_takeFrom_159 fl_X3_31 kl_1000 rfl rfl ?_
  refine K_iconst (v := 0) dX3_takeFrom_162 (by decide) ?_
  refine K_aload_n 0 dX3_takeFrom_163 rfl ?_
  refine K_get (v := .ref 9016) dX3_takeFrom_164 fl_X3_31 kl_9000 rfl rfl ?_
  refine K_iconst (v := 0) dX3_takeFrom_167 (by decide) ?_
  refine K_iconst (v := 3) dX3_takeFrom_168 (by decide) ?_
  refine K_copy (Ms' := [m0, m1, m2, m3, m4, m5, m6, m7, m8, (upA w25 16 (va_cpy (m1 16) (w25 16) (0 : Int32).toNatClampNeg (0 : Int32).toNatClampNeg (3 : Int32).toNatClampNeg)), m10, m11]) dX3_takeFrom_169 mlk_X3_75 acp.1 acp.2.1 acp.2.2 (Nat.le_of_ble_eq_true rfl) (Nat.le_of_ble_eq_true rfl) kl_1016 kl_9016 (Nat.le_of_ble_eq_true rfl) rfl ?_
  refine K_nmm (fun w => [m0, m1, m2, m3, m4, m5, m6, m7, m8, w, m10, m11]) rfl (fun w26 => ?_)
  refine K_aload_n 1 dX3_takeFrom_172 rfl ?_
  refine K_get (v := .ref 1017) dX3_takeFrom_173 fl_X3_34 kl_1000 rfl rfl ?_
  refine K_iconst (v := 0) dX3_takeFrom_176 (by decide) ?_
  refine K_aload_n 0 dX3_takeFrom_177 rfl ?_
  refine K_get (v := .ref 9017) dX3_takeFrom_178 fl_X3_34 kl_9000 rfl rfl ?_
  refine K_iconst (v := 0) dX3_takeFrom_181 (by decide) ?_
  refine K_iconst (v := 3) dX3_takeFrom_182 (by decide) ?_
  refine K_copy (Ms' := [m0, m1, m2, m3, m4, m5, m6, m7, m8, (upA w26 17 (va_cpy (m1 17) (w26 17) (0 : Int32).toNatClampNeg (0 : Int32).toNatClampNeg (3 : Int32).toNatClampNeg)), m10, m11]) dX3_takeFrom_183 mlk_X3_75 acp.1 acp.2.1 acp.2.2 (Nat.le_of_ble_eq_true rfl) (Nat.le_of_ble_eq_true rfl) kl_1017 kl_9017 (Nat.le_of_ble_eq_true rfl) rfl ?_
  refine K_nmm (fun w => [m0, m1, m2, m3, m4, m5, m6, m7, m8, w, m10, m11]) rfl (fun w27 => ?_)
  refine K_aload_n 1 dX3_takeFrom_186 rfl ?_
  refine K_get (v := .ref 1018) dX3_takeFrom_187 fl_X3_37 kl_1000 rfl rfl ?_
  refine K_iconst (v := 0) dX3_takeFrom_190 (by decide) ?_
  refine K_aload_n 0 dX3_takeFrom_191 rfl ?_
  refine K_get (v := .ref 9018) dX3_takeFrom_192 fl_X3_37 kl_9000 rfl rfl ?_
  refine K_iconst (v := 0) dX3_takeFrom_195 (by decide) ?_
  refine K_iconst (v := 3) dX3_takeFrom_196 (by decide) ?_
  refine K_copy (Ms' := [m0, m1, m2, m3, m4, m5, m6, m7, m8, (upA w27 18 (va_cpy (m1 18) (w27 18) (0 : Int32).toNatClampNeg (0 : Int32).toNatClampNeg (3 : Int32).toNatClampNeg)), m10, m11]) dX3_takeFrom_197 mlk_X3_75 acp.1 acp.2.1 acp.2.2 (Nat.le_of_ble_eq_true rfl) (Nat.le_of_ble_eq_true rfl) kl_1018 kl_9018 (Nat.le_of_ble_eq_true rfl) rfl ?_
  refine K_nmm (fun w => [m0, m1, m2, m3, m4, m5, m6, m7, m8, w, m10, m11]) rfl (fun w28 => ?_)
  exact K_ret (rv := none) dX3_takeFrom_200 trivial rfl rfl
theorem c_X3_takeFrom_9_1 {G : GE} (hj : dj G) (m0 m1 m2 m3 m4 m5 m6 m7 m8 m9 m10 m11 : Mem)  {r : Mem} (hr : f_X3_takeFrom m9 m1 = some r) : Ctr G yX3_takeFrom (mi_X3_takeFrom 1) [.ref 9000, .ref 1000] [m0, m1, m2, m3, m4, m5, m6, m7, m8, m9, m10, m11] ((e_X3_takeFrom_9_1 m0 m1 m2 m3 m4 m5 m6 m7 m8 m9 m10 m11) r).1 ((e_X3_takeFrom_9_1 m0 m1 m2 m3 m4 m5 m6 m7 m8 m9 m10 m11) r).2 := Ctr_of hj (by decide) rfl hr rfl (Nat.le_of_ble_eq_true rfl) (k_X3_takeFrom_9_1 m0 m1 m2 m3 m4 m5 m6 m7 m8 m9 m10 m11 )
abbrev e_X3_takeFrom_10_1 (m0 m1 m2 m3 m4 m5 m6 m7 m8 m9 m10 m11 : Mem) : Mem → Option Value × List Mem := fun r => (none, [m0, m1, m2, m3, m4, m5, m6, m7, m8, m9, r, m11])
theorem k_X3_takeFrom_10_1 {G : GE} (m0 m1 m2 m3 m4 m5 m6 m7 m8 m9 m10 m11 : Mem)  : K G (mi_X3_takeFrom 1) (e_X3_takeFrom_10_1 m0 m1 m2 m3 m4 m5 m6 m7 m8 m9 m10 m11) 0 [(0, .ref 10000), (1, .ref 1000)] [] [m0, m1, m2, m3, m4, m5, m6, m7, m8, m9, m10, m11] (f_X3_takeFrom m10 m1) := by
  unfold f_X3_takeFrom
  refine K_aload_n 0 dX3_takeFrom_0 rfl ?_
  refine K_aload_n 1 dX3_takeFrom_1 rfl ?_
  refine K_get (v := .int (m1 0 0)) dX3_takeFrom_2 fl_X3_9 kl_1000 rfl rfl ?_
  refine K_putB (Ms' := [m0, m1, m2, m3, m4, m5, m6, m7, m8, m9, (up m10 0 0 (m1 0 0)), m11]) dX3_takeFrom_5 fp_X3_9 kl_10000 rfl (Nat.le_of_ble_eq_true rfl) rfl ?_
  refine K_nmm (fun w => [m0, m1, m2, m3, m4, m5, m6, m7, m8, m9, w, m11]) rfl (fun w11 => ?_)
  refine K_aload_n 0 dX3_takeFrom_8 rfl ?_
  refine K_aload_n 1 dX3_takeFrom_9 rfl ?_
  refine K_get (v := .int (m1 0 1)) dX3_takeFrom_10 fl_X3_69 kl_1000 rfl rfl ?_
  refine K_put (Ms' := [m0, m1, m2, m3, m4, m5, m6, m7, m8, m9, (up w11 0 1 (m1 0 1)), m11]) dX3_takeFrom_13 fp_X3_69 kl_10000 rfl rfl rfl (Nat.le_of_ble_eq_true rfl) rfl ?_
  refine K_nmm (fun w => [m0, m1, m2, m3, m4, m5, m6, m7, m8, m9, w, m11]) rfl (fun w12 => ?_)
  refine K_aload_n 0 dX3_takeFrom_16 rfl ?_
  refine K_aload_n 1 dX3_takeFrom_17 rfl ?_
  refine K_get (v := .int (m1 0 2)) dX3_takeFrom_18 fl_X3_72 kl_1000 rfl rfl ?_
  refine K_put (Ms' := [m0, m1, m2, m3, m4, m5, m6, m7, m8, m9, (up w12 0 2 (m1 0 2)), m11]) dX3_takeFrom_21 fp_X3_72 kl_10000 rfl rfl rfl (Nat.le_of_ble_eq_true rfl) rfl ?_
  refine K_nmm (fun w => [m0, m1, m2, m3, m4, m5, m6, m7, m8, m9, w, m11]) rfl (fun w13 => ?_)
  refine K_aload_n 0 dX3_takeFrom_24 rfl ?_
  refine K_aload_n 1 dX3_takeFrom_25 rfl ?_
  refine K_get (v := .int (m1 0 3)) dX3_takeFrom_26 fl_X3_40 kl_1000 rfl rfl ?_
  refine K_put (Ms' := [m0, m1, m2, m3, m4, m5, m6, m7, m8, m9, (up w13 0 3 (m1 0 3)), m11]) dX3_takeFrom_29 fp_X3_40 kl_10000 rfl rfl rfl (Nat.le_of_ble_eq_true rfl) rfl ?_
  refine K_nmm (fun w => [m0, m1, m2, m3, m4, m5, m6, m7, m8, m9, w, m11]) rfl (fun w14 => ?_)
  refine K_aload_n 0 dX3_takeFrom_32 rfl ?_
  refine K_aload_n 1 dX3_takeFrom_33 rfl ?_
  refine K_get (v := .int (m1 0 4)) dX3_takeFrom_34 fl_X3_44 kl_1000 rfl rfl ?_
  refine K_put (Ms' := [m0, m1, m2, m3, m4, m5, m6, m7, m8, m9, (up w14 0 4 (m1 0 4)), m11]) dX3_takeFrom_37 fp_X3_44 kl_10000 rfl rfl rfl (Nat.le_of_ble_eq_true rfl) rfl ?_
  refine K_nmm (fun w => [m0, m1, m2, m3, m4, m5, m6, m7, m8, m9, w, m11]) rfl (fun w15 => ?_)
  refine K_aload_n 0 dX3_takeFrom_40 rfl ?_
  refine K_aload_n 1 dX3_takeFrom_41 rfl ?_
  refine K_get (v := .int (m1 0 5)) dX3_takeFrom_42 fl_X3_47 kl_1000 rfl rfl ?_
  refine K_put (Ms' := [m0, m1, m2, m3, m4, m5, m6, m7, m8, m9, (up w15 0 5 (m1 0 5)), m11]) dX3_takeFrom_45 fp_X3_47 kl_10000 rfl rfl rfl (Nat.le_of_ble_eq_true rfl) rfl ?_
  refine K_nmm (fun w => [m0, m1, m2, m3, m4, m5, m6, m7, m8, m9, w, m11]) rfl (fun w16 => ?_)
  refine K_aload_n 0 dX3_takeFrom_48 rfl ?_
  refine K_aload_n 1 dX3_takeFrom_49 rfl ?_
  refine K_get (v := .int (m1 0 6)) dX3_takeFrom_50 fl_X3_50 kl_1000 rfl rfl ?_
  refine K_put (Ms' := [m0, m1, m2, m3, m4, m5, m6, m7, m8, m9, (up w16 0 6 (m1 0 6)), m11]) dX3_takeFrom_53 fp_X3_50 kl_10000 rfl rfl rfl (Nat.le_of_ble_eq_true rfl) rfl ?_
  refine K_nmm (fun w => [m0, m1, m2, m3, m4, m5, m6, m7, m8, m9, w, m11]) rfl (fun w17 => ?_)
  refine K_aload_n 0 dX3_takeFrom_56 rfl ?_
  refine K_aload_n 1 dX3_takeFrom_57 rfl ?_
  refine K_get (v := .int (m1 0 7)) dX3_takeFrom_58 fl_X3_53 kl_1000 rfl rfl ?_
  refine K_put (Ms' := [m0, m1, m2, m3, m4, m5, m6, m7, m8, m9, (up w17 0 7 (m1 0 7)), m11]) dX3_takeFrom_61 fp_X3_53 kl_10000 rfl rfl rfl (Nat.le_of_ble_eq_true rfl) rfl ?_
  refine K_nmm (fun w => [m0, m1, m2, m3, m4, m5, m6, m7, m8, m9, w, m11]) rfl (fun w18 => ?_)
  refine K_aload_n 0 dX3_takeFrom_64 rfl ?_
  refine K_aload_n 1 dX3_takeFrom_65 rfl ?_
  refine K_get (v := .int (m1 0 8)) dX3_takeFrom_66 fl_X3_56 kl_1000 rfl rfl ?_
  refine K_put (Ms' := [m0, m1, m2, m3, m4, m5, m6, m7, m8, m9, (up w18 0 8 (m1 0 8)), m11]) dX3_takeFrom_69 fp_X3_56 kl_10000 rfl rfl rfl (Nat.le_of_ble_eq_true rfl) rfl ?_
  refine K_nmm (fun w => [m0, m1, m2, m3, m4, m5, m6, m7, m8, m9, w, m11]) rfl (fun w19 => ?_)
  refine K_aload_n 0 dX3_takeFrom_72 rfl ?_
  refine K_aload_n 1 dX3_takeFrom_73 rfl ?_
  refine K_get (v := .int (m1 0 9)) dX3_takeFrom_74 fl_X3_59 kl_1000 rfl rfl ?_
  refine K_put (Ms' := [m0, m1, m2, m3, m4, m5, m6, m7, m8, m9, (up w19 0 9 (m1 0 9)), m11]) dX3_takeFrom_77 fp_X3_59 kl_10000 rfl rfl rfl (Nat.le_of_ble_eq_true rfl) rfl ?_
  refine K_nmm (fun w => [m0, m1, m2, m3, m4, m5, m6, m7, m8, m9, w, m11]) rfl (fun w20 => ?_)
  refine K_aload_n 1 dX3_takeFrom_80 rfl ?_
  refine K_get (v := .ref 1011) dX3_takeFrom_81 fl_X3_15 kl_1000 rfl rfl ?_
  refine K_iconst (v := 0) dX3_takeFrom_84 (by decide) ?_
  refine K_aload_n 0 dX3_takeFrom_85 rfl ?_
  refine K_get (v := .ref 10011) dX3_takeFrom_86 fl_X3_15 kl_10000 rfl rfl ?_
  refine K_iconst (v := 0) dX3_takeFrom_89 (by decide) ?_
  refine K_aload_n 0 dX3_takeFrom_90 rfl ?_
  refine K_get (v := .ref 10011) dX3_takeFrom_91 fl_X3_15 kl_10000 rfl rfl ?_
  refine K_alen (v := 64) dX3_takeFrom_94 kl_10011 (by decide) (by decide) ?_
  refine K_copy (Ms' := [m0, m1, m2, m3, m4, m5, m6, m7, m8, m9, (upA w20 11 (va_cpy (m1 11) (w20 11) (0 : Int32).toNatClampNeg (0 : Int32).toNatClampNeg (64 : Int32).toNatClampNeg)), m11]) dX3_takeFrom_95 mlk_X3_75 acp.1 acp.2.1 acp.2.2 (Nat.le_of_ble_eq_true rfl) (Nat.le_of_ble_eq_true rfl) kl_1011 kl_10011 (Nat.le_of_ble_eq_true rfl) rfl ?_
  refine K_nmm (fun w => [m0, m1, m2, m3, m4, m5, m6, m7, m8, m9, w, m11]) rfl (fun w21 => ?_)
  refine K_aload_n 1 dX3_takeFrom_98 rfl ?_
  refine K_get (v := .ref 1012) dX3_takeFrom_99 fl_X3_19 kl_1000 rfl rfl ?_
  refine K_iconst (v := 0) dX3_takeFrom_102 (by decide) ?_
  refine K_aload_n 0 dX3_takeFrom_103 rfl ?_
  refine K_get (v := .ref 10012) dX3_takeFrom_104 fl_X3_19 kl_10000 rfl rfl ?_
  refine K_iconst (v := 0) dX3_takeFrom_107 (by decide) ?_
  refine K_bipush (v := 7) dX3_takeFrom_108 (by decide) ?_
  refine K_copy (Ms' := [m0, m1, m2, m3, m4, m5, m6, m7, m8, m9, (upA w21 12 (va_cpy (m1 12) (w21 12) (0 : Int32).toNatClampNeg (0 : Int32).toNatClampNeg (7 : Int32).toNatClampNeg)), m11]) dX3_takeFrom_110 mlk_X3_75 acp.1 acp.2.1 acp.2.2 (Nat.le_of_ble_eq_true rfl) (Nat.le_of_ble_eq_true rfl) kl_1012 kl_10012 (Nat.le_of_ble_eq_true rfl) rfl ?_
  refine K_nmm (fun w => [m0, m1, m2, m3, m4, m5, m6, m7, m8, m9, w, m11]) rfl (fun w22 => ?_)
  refine K_aload_n 1 dX3_takeFrom_113 rfl ?_
  refine K_get (v := .ref 1013) dX3_takeFrom_114 fl_X3_22 kl_1000 rfl rfl ?_
  refine K_iconst (v := 0) dX3_takeFrom_117 (by decide) ?_
  refine K_aload_n 0 dX3_takeFrom_118 rfl ?_
  refine K_get (v := .ref 10013) dX3_takeFrom_119 fl_X3_22 kl_10000 rfl rfl ?_
  refine K_iconst (v := 0) dX3_takeFrom_122 (by decide) ?_
  refine K_bipush (v := 7) dX3_takeFrom_123 (by decide) ?_
  refine K_copy (Ms' := [m0, m1, m2, m3, m4, m5, m6, m7, m8, m9, (upA w22 13 (va_cpy (m1 13) (w22 13) (0 : Int32).toNatClampNeg (0 : Int32).toNatClampNeg (7 : Int32).toNatClampNeg)), m11]) dX3_takeFrom_125 mlk_X3_75 acp.1 acp.2.1 acp.2.2 (Nat.le_of_ble_eq_true rfl) (Nat.le_of_ble_eq_true rfl) kl_1013 kl_10013 (Nat.le_of_ble_eq_true rfl) rfl ?_
  refine K_nmm (fun w => [m0, m1, m2, m3, m4, m5, m6, m7, m8, m9, w, m11]) rfl (fun w23 => ?_)
  refine K_aload_n 1 dX3_takeFrom_128 rfl ?_
  refine K_get (v := .ref 1014) dX3_takeFrom_129 fl_X3_25 kl_1000 rfl rfl ?_
  refine K_iconst (v := 0) dX3_takeFrom_132 (by decide) ?_
  refine K_aload_n 0 dX3_takeFrom_133 rfl ?_
  refine K_get (v := .ref 10014) dX3_takeFrom_134 fl_X3_25 kl_10000 rfl rfl ?_
  refine K_iconst (v := 0) dX3_takeFrom_137 (by decide) ?_
  refine K_bipush (v := 7) dX3_takeFrom_138 (by decide) ?_
  refine K_copy (Ms' := [m0, m1, m2, m3, m4, m5, m6, m7, m8, m9, (upA w23 14 (va_cpy (m1 14) (w23 14) (0 : Int32).toNatClampNeg (0 : Int32).toNatClampNeg (7 : Int32).toNatClampNeg)), m11]) dX3_takeFrom_140 mlk_X3_75 acp.1 acp.2.1 acp.2.2 (Nat.le_of_ble_eq_true rfl) (Nat.le_of_ble_eq_true rfl) kl_1014 kl_10014 (Nat.le_of_ble_eq_true rfl) rfl ?_
  refine K_nmm (fun w => [m0, m1, m2, m3, m4, m5, m6, m7, m8, m9, w, m11]) rfl (fun w24 => ?_)
  refine K_aload_n 1 dX3_takeFrom_143 rfl ?_
  refine K_get (v := .ref 1015) dX3_takeFrom_144 fl_X3_28 kl_1000 rfl rfl ?_
  refine K_iconst (v := 0) dX3_takeFrom_147 (by decide) ?_
  refine K_aload_n 0 dX3_takeFrom_148 rfl ?_
  refine K_get (v := .ref 10015) dX3_takeFrom_149 fl_X3_28 kl_10000 rfl rfl ?_
  refine K_iconst (v := 0) dX3_takeFrom_152 (by decide) ?_
  refine K_bipush (v := 7) dX3_takeFrom_153 (by decide) ?_
  refine K_copy (Ms' := [m0, m1, m2, m3, m4, m5, m6, m7, m8, m9, (upA w24 15 (va_cpy (m1 15) (w24 15) (0 : Int32).toNatClampNeg (0 : Int32).toNatClampNeg (7 : Int32).toNatClampNeg)), m11]) dX3_takeFrom_155 mlk_X3_75 acp.1 acp.2.1 acp.2.2 (Nat.le_of_ble_eq_true rfl) (Nat.le_of_ble_eq_true rfl) kl_1015 kl_10015 (Nat.le_of_ble_eq_true rfl) rfl ?_
  refine K_nmm (fun w => [m0, m1, m2, m3, m4, m5, m6, m7, m8, m9, w, m11]) rfl (fun w25 => ?_)
  refine K_aload_n 1 dX3_takeFrom_158 rfl ?_
  refine K_get (v := .ref 1016) dX3_takeFrom_159 fl_X3_31 kl_1000 rfl rfl ?_
  refine K_iconst (v := 0) dX3_takeFrom_162 (by decide) ?_
  refine K_aload_n 0 dX3_takeFrom_163 rfl ?_
  refine K_get (v := .ref 10016) dX3_takeFrom_164 fl_X3_31 kl_10000 rfl rfl ?_
  refine K_iconst (v := 0) dX3_takeFrom_167 (by decide) ?_
  refine K_iconst (v := 3) dX3_takeFrom_168 (by decide) ?_
  refine K_copy (Ms' := [m0, m1, m2, m3, m4, m5, m6, m7, m8, m9, (upA w25 16 (va_cpy (m1 16) (w25 16) (0 : Int32).toNatClampNeg (0 : Int32).toNatClampNeg (3 : Int32).toNatClampNeg)), m11]) dX3_takeFrom_169 mlk_X3_75 acp.1 acp.2.1 acp.2.2 (Nat.le_of_ble_eq_true rfl) (Nat.le_of_ble_eq_true rfl) kl_1016 kl_10016 (Nat.le_of_ble_eq_true rfl) rfl ?_
  refine K_nmm (fun w => [m0, m1, m2, m3, m4, m5, m6, m7, m8, m9, w, m11]) rfl (fun w26 => ?_)
  refine K_aload_n 1 dX3_takeFrom_172 rfl ?_
  refine K_get (v := .ref 1017) dX3_takeFrom_173 fl_X3_34 kl_1000 rfl rfl ?_
  refine K_iconst (v := 0) dX3_takeFrom_176 (by decide) ?_
  refine K_aload_n 0 dX3_takeFrom_177 rfl ?_
  refine K_get (v := .ref 10017) dX3_takeFrom_178 fl_X3_34 kl_10000 rfl rfl ?_
  refine K_iconst (v := 0) dX3_takeFrom_181 (by decide) ?_
  refine K_iconst (v := 3) dX3_takeFrom_182 (by decide) ?_
  refine K_copy (Ms' := [m0, m1, m2, m3, m4, m5, m6, m7, m8, m9, (upA w26 17 (va_cpy (m1 17) (w26 17) (0 : Int32).toNatClampNeg (0 : Int32).toNatClampNeg (3 : Int32).toNatClampNeg)), m11]) dX3_takeFrom_183 mlk_X3_75 acp.1 acp.2.1 acp.2.2 (Nat.le_of_ble_eq_true rfl) (Nat.le_of_ble_eq_true rfl) kl_1017 kl_10017 (Nat.le_of_ble_eq_true rfl) rfl ?_
  refine K_nmm (fun w => [m0, m1, m2, m3, m4, m5, m6, m7, m8, m9, w, m11]) rfl (fun w27 => ?_)
  refine K_aload_n 1 dX3_takeFrom_186 rfl ?_
  refine K_get (v := .ref 1018) dX3_takeFrom_187 fl_X3_37 kl_1000 rfl rfl ?_
  refine K_iconst (v := 0) dX3_takeFrom_190 (by decide) ?_
  refine K_aload_n 0 dX3_takeFrom_191 rfl ?_
  refine K_get (v := .ref 10018) dX3_takeFrom_192 fl_X3_37 kl_10000 rfl rfl ?_
  refine K_iconst (v := 0) dX3_takeFrom_195 (by decide) ?_
  refine K_iconst (v := 3) dX3_takeFrom_196 (by decide) ?_
  refine K_copy (Ms' := [m0, m1, m2, m3, m4, m5, m6, m7, m8, m9, (upA w27 18 (va_cpy (m1 18) (w27 18) (0 : Int32).toNatClampNeg (0 : Int32).toNatClampNeg (3 : Int32).toNatClampNeg)), m11]) dX3_takeFrom_197 mlk_X3_75 acp.1 acp.2.1 acp.2.2 (Nat.le_of_ble_eq_true rfl) (Nat.le_of_ble_eq_true rfl) kl_1018 kl_10018 (Nat.le_of_ble_eq_true rfl) rfl ?_
  refine K_nmm (fun w => [m0, m1, m2, m3, m4, m5, m6, m7, m8, m9, w, m11]) rfl (fun w28 => ?_)
  exact K_ret (rv := none) dX3_takeFrom_200 trivial rfl rfl
theorem c_X3_takeFrom_10_1 {G : GE} (hj : dj G) (m0 m1 m2 m3 m4 m5 m6 m7 m8 m9 m10 m11 : Mem)  {r : Mem} (hr : f_X3_takeFrom m10 m1 = some r) : Ctr G yX3_takeFrom (mi_X3_takeFrom 1) [.ref 10000, .ref 1000] [m0, m1, m2, m3, m4, m5, m6, m7, m8, m9, m10, m11] ((e_X3_takeFrom_10_1 m0 m1 m2 m3 m4 m5 m6 m7 m8 m9 m10 m11) r).1 ((e_X3_takeFrom_10_1 m0 m1 m2 m3 m4 m5 m6 m7 m8 m9 m10 m11) r).2 := Ctr_of hj (by decide) rfl hr rfl (Nat.le_of_ble_eq_true rfl) (k_X3_takeFrom_10_1 m0 m1 m2 m3 m4 m5 m6 m7 m8 m9 m10 m11 )
abbrev e_X7_image (m0 m1 m2 m3 m4 m5 m6 m7 m8 m9 m10 m11 : Mem) : (Int32 × Mem × Mem) → Option Value × List Mem := fun r => (some (.int r.1), [m0, m1, m2, m3, m4, m5, m6, m7, m8, r.2.1, r.2.2, m11])
theorem k_X7_image {G : GE} (m0 m1 m2 m3 m4 m5 m6 m7 m8 m9 m10 m11 : Mem) (x1 : Int32) (h7 : m11 0 7 = 1) : K G (mi_X7_image 2) (e_X7_image m0 m1 m2 m3 m4 m5 m6 m7 m8 m9 m10 m11) 0 [(0, .ref 11000), (1, .int x1)] [] [m0, m1, m2, m3, m4, m5, m6, m7, m8, m9, m10, m11] (f_X7_image m1 m9 m10 x1) := by
  unfold f_X7_image
  refine K_iload_n 1 dX7_image_0 rfl ?_
  refine K_if_lt 9 dX7_image_1 rfl (fun _ => ?_) (fun _ => ?_)
  · refine K_ldc (v := (-1000001)) dX7_image_9 cst_X7_73 ?_
    exact K_ret (rv := some (.int (-1000001))) dX7_image_11 rfl rfl rfl
  · refine K_iload_n 1 dX7_image_4 rfl ?_
    refine K_iconst (v := 2) dX7_image_5 (by decide) ?_
    refine K_icmp_lt 12 dX7_image_6 rfl (fun _ => ?_) (fun _ => ?_)
    · refine K_aload_n 0 dX7_image_12 rfl ?_
      refine K_get (v := .ref 1000) dX7_image_13 fl_X7_58 kl_11000 rfl (nd_ref h7) ?_
      refine K_get (v := .int (m1 0 0)) dX7_image_16 fl_X7_169 kl_1000 rfl rfl ?_
      refine K_if_ne 25 dX7_image_19 rfl (fun _ => ?_) (fun _ => ?_)
      · refine K_aload_n 0 dX7_image_25 rfl ?_
        refine K_get (v := .ref 11003) dX7_image_26 fl_X7_26 kl_11000 rfl rfl ?_
        refine K_iload_n 1 dX7_image_29 rfl ?_
        refine K_aald dX7_image_30 kl_11003 (Or.inl rfl) (fun hb11 => ?_)
        refine K_ite (c := x1 = 0) (fun ehb11 => ?_) (fun _ => ?_)
        · refine K_st (st' := [.ref 9000]) (by rw [ehb11]; rfl) ?_
          refine K_aload_n 0 dX7_image_31 rfl ?_
          refine K_get (v := .ref 1000) dX7_image_32 fl_X7_58 kl_11000 rfl (nd_ref h7) ?_
          refine K_callV (E' := e_X3_takeFrom_9_1 m0 m1 m2 m3 m4 m5 m6 m7 m8 m9 m10 m11) (b := 9000) (As := [.ref 1000]) (rest := []) dX7_image_35 ml_X7_260 (mf_X3_takeFrom 1) mv_X3_takeFrom (fun hj r hr => c_X3_takeFrom_9_1 hj m0 m1 m2 m3 m4 m5 m6 m7 m8 m9 m10 m11  hr) (rcv_obj (q := (RX3, TX3, 18)) kl_9000 rfl) rfl rfl (Nat.le_of_ble_eq_true rfl) (Nat.le_of_ble_eq_true rfl) (fun r12 => ?_)
          show K G (mi_X7_image 2) (e_X7_image m0 m1 m2 m3 m4 m5 m6 m7 m8 m9 m10 m11) 38 [(0, .ref 11000), (1, .int x1)] [] [m0, m1, m2, m3, m4, m5, m6, m7, m8, r12, m10, m11] _
          refine K_iconst (v := 1) dX7_image_38 (by decide) ?_
          exact K_ret (rv := some (.int 1)) dX7_image_39 rfl rfl rfl
        refine K_ite (c := x1 = 1) (fun ehb11 => ?_) (fun _ => K_none)
        refine K_st (st' := [.ref 10000]) (by rw [ehb11]; rfl) ?_
        refine K_aload_n 0 dX7_image_31 rfl ?_
        refine K_get (v := .ref 1000) dX7_image_32 fl_X7_58 kl_11000 rfl (nd_ref h7) ?_
        refine K_callV (E' := e_X3_takeFrom_10_1 m0 m1 m2 m3 m4 m5 m6 m7 m8 m9 m10 m11) (b := 10000) (As := [.ref 1000]) (rest := []) dX7_image_35 ml_X7_260 (mf_X3_takeFrom 1) mv_X3_takeFrom (fun hj r hr => c_X3_takeFrom_10_1 hj m0 m1 m2 m3 m4 m5 m6 m7 m8 m9 m10 m11  hr) (rcv_obj (q := (RX3, TX3, 18)) kl_10000 rfl) rfl rfl (Nat.le_of_ble_eq_true rfl) (Nat.le_of_ble_eq_true rfl) (fun r13 => ?_)
        show K G (mi_X7_image 2) (e_X7_image m0 m1 m2 m3 m4 m5 m6 m7 m8 m9 m10 m11) 38 [(0, .ref 11000), (1, .int x1)] [] [m0, m1, m2, m3, m4, m5, m6, m7, m8, m9, r13, m11] _
        refine K_iconst (v := 1) dX7_image_38 (by decide) ?_
        exact K_ret (rv := some (.int 1)) dX7_image_39 rfl rfl rfl
      · refine K_ldc (v := (-1000002)) dX7_image_22 cst_X7_143 ?_
        exact K_ret (rv := some (.int (-1000002))) dX7_image_24 rfl rfl rfl
    · refine K_ldc (v := (-1000001)) dX7_image_9 cst_X7_73 ?_
      exact K_ret (rv := some (.int (-1000001))) dX7_image_11 rfl rfl rfl
theorem c_X7_image {G : GE} (hj : dj G) (m0 m1 m2 m3 m4 m5 m6 m7 m8 m9 m10 m11 : Mem) (x1 : Int32) (h7 : m11 0 7 = 1) {r : Int32 × Mem × Mem} (hr : f_X7_image m1 m9 m10 x1 = some r) : Ctr G yX7_image (mi_X7_image 2) [.ref 11000, .int x1] [m0, m1, m2, m3, m4, m5, m6, m7, m8, m9, m10, m11] ((e_X7_image m0 m1 m2 m3 m4 m5 m6 m7 m8 m9 m10 m11) r).1 ((e_X7_image m0 m1 m2 m3 m4 m5 m6 m7 m8 m9 m10 m11) r).2 := Ctr_of hj (by decide) rfl hr rfl (Nat.le_of_ble_eq_true rfl) (k_X7_image m0 m1 m2 m3 m4 m5 m6 m7 m8 m9 m10 m11 x1 h7)
