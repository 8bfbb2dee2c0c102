abbrev e_X8_layRow (m0 : Mem) (q : List Mem) : Mem → Option Value × List Mem := fun r => (none, (r :: q))
theorem k_X8_layRow_L4 {G : GE} (m0 : Mem) (q : List Mem) (x1 : Int32) (k : Int32 → Mem → Option (Mem)) (hk : ∀ (u11 : Int32) (w12 : Mem), K G (mi_X8_layRow 1) (e_X8_layRow m0 q) 22 [(0, .ref 0), (2, .int x1), (3, .int u11)] [] (w12 :: q) (k u11 w12)) : ∀ (t : Nat) (u11 : Int32) (w12 : Mem), K G (mi_X8_layRow 1) (e_X8_layRow m0 q) 4 [(0, .ref 0), (2, .int x1), (3, .int u11)] [] (w12 :: q) (f_X8_layRow_L4 k t u11 w12) := by
  intro t
  induction t with
  | zero => intro u11 w12; exact K_none
  | succ t ih =>
    intro u11 w12
    rw [f_X8_layRow_L4]
    refine K_iload_n 2 dX8_layRow_4 rfl ?_
    refine K_iconst (v := 4) dX8_layRow_5 (by decide) ?_
    refine K_icmp_ge 22 dX8_layRow_6 rfl (fun _ => ?_) (fun _ => ?_)
    · refine K_loc [0, 1, 2] (lv' := [(0, .ref 0), (2, .int x1), (3, .int u11)]) rfl ?_
      exact hk u11 w12
    · refine K_aload_n 0 dX8_layRow_9 rfl ?_
      refine K_get (v := .ref 32) dX8_layRow_10 fl_X8_52 kl_0 rfl rfl ?_
      refine K_iload_n 2 dX8_layRow_13 rfl ?_
      refine K_iconst (v := 0) dX8_layRow_14 (by decide) ?_
      refine K_iast (Ms' := ((up w12 32 u11.toNatClampNeg 0) :: q)) dX8_layRow_15 kl_32 (Nat.succ_pos _) rfl ?_
      refine K_nmm (fun w => (w :: q)) rfl (fun w13 => ?_)
      refine K_iinc 2 (w := u11 + 1) (lv' := [(3, .int (u11 + 1)), (0, .ref 0), (2, .int x1)]) dX8_layRow_16 rfl rfl (by decide) rfl ?_
      refine K_goto 4 dX8_layRow_19 rfl ?_
      refine K_loc [1, 2, 0] (lv' := [(0, .ref 0), (2, .int x1), (3, .int (u11 + 1))]) rfl ?_
      exact ih (u11 + 1) w13
theorem k_X8_layRow_L29 {G : GE} (m0 : Mem) (q : List Mem) (k : Int32 → Int32 → Mem → Option (Mem)) (hk : ∀ (u17 : Int32) (u18 : Int32) (w19 : Mem), K G (mi_X8_layRow 1) (e_X8_layRow m0 q) 62 [(0, .ref 0), (2, .int u17), (3, .int u18)] [] (w19 :: q) (k u17 u18 w19)) : ∀ (t : Nat) (u17 : Int32) (u18 : Int32) (w19 : Mem), K G (mi_X8_layRow 1) (e_X8_layRow m0 q) 29 [(0, .ref 0), (2, .int u17), (3, .int u18)] [] (w19 :: q) (f_X8_layRow_L29 k t u17 u18 w19) := by
  intro t
  induction t with
  | zero => intro u17 u18 w19; exact K_none
  | succ t ih =>
    intro u17 u18 w19
    rw [f_X8_layRow_L29]
    refine K_iload_n 2 dX8_layRow_29 rfl ?_
    refine K_if_lt 62 dX8_layRow_30 rfl (fun _ => ?_) (fun _ => ?_)
    · refine K_loc [0, 1, 2] (lv' := [(0, .ref 0), (2, .int u17), (3, .int u18)]) rfl ?_
      exact hk u17 u18 w19
    · refine K_aload_n 0 dX8_layRow_33 rfl ?_
      refine K_get (v := .ref 32) dX8_layRow_34 fl_X8_52 kl_0 rfl rfl ?_
      refine K_iload_n 1 dX8_layRow_37 rfl ?_
      refine K_iconst (v := 3) dX8_layRow_38 (by decide) ?_
      refine K_iand dX8_layRow_39 ?_
      refine K_dup2 dX8_layRow_40 rfl rfl ?_
      refine K_iald (f := w19 32) dX8_layRow_41 kl_32 rfl ?_
      refine K_iconst (v := 1) dX8_layRow_42 (by decide) ?_
      refine K_aload_n 0 dX8_layRow_43 rfl ?_
      refine K_get (v := .ref 30) dX8_layRow_44 fl_X8_49 kl_0 rfl rfl ?_
      refine K_iload_n 2 dX8_layRow_47 rfl ?_
      refine K_iald (f := w19 30) dX8_layRow_48 kl_30 rfl ?_
      refine K_ishl dX8_layRow_49 ?_
      refine K_ior dX8_layRow_50 ?_
      refine K_iast (Ms' := ((up w19 32 (u17 &&& 3).toNatClampNeg ((w19 32 (u17 &&& 3).toNatClampNeg) ||| (1 <<< ((w19 30 u18.toNatClampNeg) &&& 31)))) :: q)) dX8_layRow_51 kl_32 (Nat.succ_pos _) rfl ?_
      refine K_nmm (fun w => (w :: q)) rfl (fun w20 => ?_)
      refine K_iload_n 1 dX8_layRow_52 rfl ?_
      refine K_iconst (v := 2) dX8_layRow_53 (by decide) ?_
      refine K_ishr dX8_layRow_54 ?_
      refine K_nmi (fun x21 => ?_)
      refine K_istore_n (lv' := [(2, .int x21), (0, .ref 0), (3, .int u18)]) dX8_layRow_55 (by decide) rfl ?_
      refine K_iinc 2 (w := u18 + (-1)) (lv' := [(3, .int (u18 + (-1))), (2, .int x21), (0, .ref 0)]) dX8_layRow_56 rfl rfl (by decide) rfl ?_
      refine K_goto 29 dX8_layRow_59 rfl ?_
      refine K_loc [2, 1, 0] (lv' := [(0, .ref 0), (2, .int x21), (3, .int (u18 + (-1)))]) rfl ?_
      exact ih x21 (u18 + (-1)) w20
theorem k_X8_layRow {G : GE} (m0 : Mem) (q : List Mem) (x1 : Int32) : K G (mi_X8_layRow 1) (e_X8_layRow m0 q) 0 [(0, .ref 0), (1, .int x1)] [] (m0 :: q) (f_X8_layRow m0 x1) := by
  unfold f_X8_layRow
  refine K_iload_n 1 dX8_layRow_0 rfl ?_
  refine K_istore_n (lv' := [(2, .int x1), (0, .ref 0), (1, .int x1)]) dX8_layRow_1 (by decide) rfl ?_
  refine K_iconst (v := 0) dX8_layRow_2 (by decide) ?_
  refine K_istore_n (lv' := [(3, .int 0), (2, .int x1), (0, .ref 0), (1, .int x1)]) dX8_layRow_3 (by decide) rfl ?_
  refine K_loc [2, 1, 0] (lv' := [(0, .ref 0), (2, .int x1), (3, .int 0)]) rfl ?_
  refine k_X8_layRow_L4  m0 q x1 _ (fun u14 w15 => ?_) 100000 0 m0
  refine K_aload_n 0 dX8_layRow_22 rfl ?_
  refine K_get (v := .int (w15 0 30)) dX8_layRow_23 fl_X8_284 kl_0 rfl rfl ?_
  refine K_iconst (v := 1) dX8_layRow_26 (by decide) ?_
  refine K_isub dX8_layRow_27 ?_
  refine K_nmi (fun x16 => ?_)
  refine K_istore_n (lv' := [(3, .int x16), (0, .ref 0), (2, .int x1)]) dX8_layRow_28 (by decide) rfl ?_
  refine K_loc [1, 2, 0] (lv' := [(0, .ref 0), (2, .int x1), (3, .int x16)]) rfl ?_
  refine k_X8_layRow_L29  m0 q  _ (fun u22 u23 w24 => ?_) 100000 x1 x16 w15
  exact K_ret (rv := none) dX8_layRow_62 trivial rfl rfl
theorem c_X8_layRow {G : GE} (hj : dj G) (m0 : Mem) (q : List Mem) (x1 : Int32) {r : Mem} (hr : f_X8_layRow m0 x1 = some r) : Ctr G yX8_layRow (mi_X8_layRow 1) [.ref 0, .int x1] (m0 :: q) ((e_X8_layRow m0 q) r).1 ((e_X8_layRow m0 q) r).2 := Ctr_of hj (by decide) rfl hr rfl (Nat.le_of_ble_eq_true rfl) (k_X8_layRow m0 q x1)
abbrev e_X8_sumOf (m0 : Mem) (q : List Mem) : Int32 → Option Value × List Mem := fun r => (some (.int r), (m0 :: q))
theorem k_X8_sumOf_L4 {G : GE} (m0 : Mem) (q : List Mem) (k : Int32 → Int32 → Option (Int32)) (hk : ∀ (u11 : Int32) (u12 : Int32), K G (mi_X8_sumOf 1) (e_X8_sumOf m0 q) 97 [(0, .ref 0), (1, .int u11), (2, .int u12)] [] (m0 :: q) (k u11 u12)) : ∀ (t : Nat) (u11 : Int32) (u12 : Int32), K G (mi_X8_sumOf 1) (e_X8_sumOf m0 q) 4 [(0, .ref 0), (1, .int u11), (2, .int u12)] [] (m0 :: q) (f_X8_sumOf_L4 k m0 t u11 u12) := by
  intro t
  induction t with
  | zero => intro u11 u12; exact K_none
  | succ t ih =>
    intro u11 u12
    rw [f_X8_sumOf_L4]
    refine K_iload_n 2 dX8_sumOf_4 rfl ?_
    refine K_iconst (v := 3) dX8_sumOf_5 (by decide) ?_
    refine K_icmp_ge 97 dX8_sumOf_6 rfl (fun _ => ?_) (fun _ => ?_)
    · refine K_loc [0, 1, 2] (lv' := [(0, .ref 0), (1, .int u11), (2, .int u12)]) rfl ?_
      exact hk u11 u12
    · refine K_iload_n 1 dX8_sumOf_9 rfl ?_
      refine K_ldc (v := (-1000000)) dX8_sumOf_10 cst_X8_104 ?_
      refine K_icmp_eq 97 dX8_sumOf_12 rfl (fun _ => ?_) (fun _ => ?_)
      · refine K_loc [0, 1, 2] (lv' := [(0, .ref 0), (1, .int u11), (2, .int u12)]) rfl ?_
        exact hk u11 u12
      · refine K_aload_n 0 dX8_sumOf_15 rfl ?_
        refine K_get (v := .int (m0 0 27)) dX8_sumOf_16 fl_X8_287 kl_0 rfl rfl ?_
        refine K_iload_n 2 dX8_sumOf_19 rfl ?_
        refine K_ishr dX8_sumOf_20 ?_
        refine K_iconst (v := 1) dX8_sumOf_21 (by decide) ?_
        refine K_iand dX8_sumOf_22 ?_
        refine K_iconst (v := 1) dX8_sumOf_23 (by decide) ?_
        refine K_pick (fun j14 => (if (((m0 0 27) >>> (u12 &&& 31)) &&& 1) = (1 : Int32) then (j14 1) else (j14 0))) (fun j14 => ∀ a13 : Int32, K G (mi_X8_sumOf 1) (e_X8_sumOf m0 q) 32 [(0, .ref 0), (1, .int u11), (2, .int u12)] [.int a13] (m0 :: q) (j14 a13)) (fun j14 => by simp only [apply_ite j14]) (fun a13 => ?_) (fun j14 hj14 => ?_)
        · refine K_istore_n (lv' := [(3, .int a13), (0, .ref 0), (1, .int u11), (2, .int u12)]) dX8_sumOf_32 (by decide) rfl ?_
          refine K_aload_n 1 dX8_sumOf_33 rfl ?_
          refine K_get (v := .ref 22) dX8_sumOf_34 fl_X8_34 kl_0 rfl rfl ?_
          refine K_sipush (v := 128) dX8_sumOf_37 (by decide) ?_
          refine K_iload_n 3 dX8_sumOf_40 rfl ?_
          refine K_imul dX8_sumOf_41 ?_
          refine K_aload_n 1 dX8_sumOf_42 rfl ?_
          refine K_get (v := .ref 32) dX8_sumOf_43 fl_X8_52 kl_0 rfl rfl ?_
          refine K_iload_n 3 dX8_sumOf_46 rfl ?_
          refine K_iald (f := m0 32) dX8_sumOf_47 kl_32 rfl ?_
          refine K_iadd dX8_sumOf_48 ?_
          refine K_iald (f := m0 22) dX8_sumOf_49 kl_22 rfl ?_
          refine K_nmi (fun x15 => ?_)
          refine K_istore (lv' := [(4, .int x15), (3, .int a13), (0, .ref 0), (1, .int u11), (2, .int u12)]) dX8_sumOf_50 (by decide) rfl ?_
          refine K_iload_n 1 dX8_sumOf_52 rfl ?_
          refine K_if_eq 75 dX8_sumOf_53 rfl (fun _ => ?_) (fun _ => ?_)
          · refine K_aload_n 2 dX8_sumOf_75 rfl ?_
            refine K_get (v := .ref 32) dX8_sumOf_76 fl_X8_52 kl_0 rfl rfl ?_
            refine K_iload_n 4 dX8_sumOf_79 rfl ?_
            refine K_iald (f := m0 32) dX8_sumOf_80 kl_32 rfl ?_
            refine K_if_ne 88 dX8_sumOf_81 rfl (fun _ => ?_) (fun _ => ?_)
            · refine K_ldc (v := (-1000000)) dX8_sumOf_88 cst_X8_104 ?_
              refine K_istore_n (lv' := [(1, .int (-1000000)), (4, .int x15), (3, .int a13), (0, .ref 0), (2, .int u12)]) dX8_sumOf_90 (by decide) rfl ?_
              refine K_iinc 4 (w := u12 + 1) (lv' := [(2, .int (u12 + 1)), (1, .int (-1000000)), (4, .int x15), (3, .int a13), (0, .ref 0)]) dX8_sumOf_91 rfl rfl (by decide) rfl ?_
              refine K_goto 4 dX8_sumOf_94 rfl ?_
              refine K_loc [4, 1, 0] (lv' := [(0, .ref 0), (1, .int (-1000000)), (2, .int (u12 + 1))]) rfl ?_
              exact ih (-1000000) (u12 + 1)
            · refine K_iload_n 3 dX8_sumOf_84 rfl ?_
              refine K_goto 90 dX8_sumOf_85 rfl ?_
              refine K_istore_n (lv' := [(1, .int u11), (4, .int x15), (3, .int a13), (0, .ref 0), (2, .int u12)]) dX8_sumOf_90 (by decide) rfl ?_
              refine K_iinc 4 (w := u12 + 1) (lv' := [(2, .int (u12 + 1)), (1, .int u11), (4, .int x15), (3, .int a13), (0, .ref 0)]) dX8_sumOf_91 rfl rfl (by decide) rfl ?_
              refine K_goto 4 dX8_sumOf_94 rfl ?_
              refine K_loc [4, 1, 0] (lv' := [(0, .ref 0), (1, .int u11), (2, .int (u12 + 1))]) rfl ?_
              exact ih u11 (u12 + 1)
          · refine K_iload 0 dX8_sumOf_56 rfl ?_
            refine K_ldc (v := (-1000000)) dX8_sumOf_58 cst_X8_104 ?_
            refine K_icmp_ne 68 dX8_sumOf_60 rfl (fun _ => ?_) (fun _ => ?_)
            · refine K_iload_n 3 dX8_sumOf_68 rfl ?_
              refine K_iload 0 dX8_sumOf_69 rfl ?_
              refine K_iadd dX8_sumOf_71 ?_
              refine K_goto 90 dX8_sumOf_72 rfl ?_
              refine K_nmi (fun x16 => ?_)
              refine K_istore_n (lv' := [(1, .int x16), (4, .int x15), (3, .int a13), (0, .ref 0), (2, .int u12)]) dX8_sumOf_90 (by decide) rfl ?_
              refine K_iinc 4 (w := u12 + 1) (lv' := [(2, .int (u12 + 1)), (1, .int x16), (4, .int x15), (3, .int a13), (0, .ref 0)]) dX8_sumOf_91 rfl rfl (by decide) rfl ?_
              refine K_goto 4 dX8_sumOf_94 rfl ?_
              refine K_loc [4, 1, 0] (lv' := [(0, .ref 0), (1, .int x16), (2, .int (u12 + 1))]) rfl ?_
              exact ih x16 (u12 + 1)
            · refine K_ldc (v := (-1000000)) dX8_sumOf_63 cst_X8_104 ?_
              refine K_goto 90 dX8_sumOf_65 rfl ?_
              refine K_istore_n (lv' := [(1, .int (-1000000)), (4, .int x15), (3, .int a13), (0, .ref 0), (2, .int u12)]) dX8_sumOf_90 (by decide) rfl ?_
              refine K_iinc 4 (w := u12 + 1) (lv' := [(2, .int (u12 + 1)), (1, .int (-1000000)), (4, .int x15), (3, .int a13), (0, .ref 0)]) dX8_sumOf_91 rfl rfl (by decide) rfl ?_
              refine K_goto 4 dX8_sumOf_94 rfl ?_
              refine K_loc [4, 1, 0] (lv' := [(0, .ref 0), (1, .int (-1000000)), (2, .int (u12 + 1))]) rfl ?_
              exact ih (-1000000) (u12 + 1)
        · refine K_icmp_ne 31 dX8_sumOf_24 rfl (fun _ => ?_) (fun _ => ?_)
          · refine K_iconst (v := 0) dX8_sumOf_31 (by decide) ?_
            exact hj14 0
          · refine K_iconst (v := 1) dX8_sumOf_27 (by decide) ?_
            refine K_goto 32 dX8_sumOf_28 rfl ?_
            exact hj14 1
theorem k_X8_sumOf {G : GE} (m0 : Mem) (q : List Mem)  : K G (mi_X8_sumOf 1) (e_X8_sumOf m0 q) 0 [(0, .ref 0)] [] (m0 :: q) (f_X8_sumOf m0) := by
  unfold f_X8_sumOf
  refine K_iconst (v := 0) dX8_sumOf_0 (by decide) ?_
  refine K_istore_n (lv' := [(1, .int 0), (0, .ref 0)]) dX8_sumOf_1 (by decide) rfl ?_
  refine K_iconst (v := 0) dX8_sumOf_2 (by decide) ?_
  refine K_istore_n (lv' := [(2, .int 0), (1, .int 0), (0, .ref 0)]) dX8_sumOf_3 (by decide) rfl ?_
  refine K_loc [2, 1, 0] (lv' := [(0, .ref 0), (1, .int 0), (2, .int 0)]) rfl ?_
  refine k_X8_sumOf_L4  m0 q  _ (fun u17 u18 => ?_) 100000 0 0
  refine K_iload_n 1 dX8_sumOf_97 rfl ?_
  exact K_ret (rv := some (.int u17)) dX8_sumOf_98 rfl rfl rfl
theorem c_X8_sumOf {G : GE} (hj : dj G) (m0 : Mem) (q : List Mem)  {r : Int32} (hr : f_X8_sumOf m0 = some r) : Ctr G yX8_sumOf (mi_X8_sumOf 1) [.ref 0] (m0 :: q) ((e_X8_sumOf m0 q) r).1 ((e_X8_sumOf m0 q) r).2 := Ctr_of hj (by decide) rfl hr rfl (Nat.le_of_ble_eq_true rfl) (k_X8_sumOf m0 q )
abbrev e_X8_layHome (m0 : Mem) (q : List Mem) : Mem → Option Value × List Mem := fun r => (none, (r :: q))
theorem k_X8_layHome_L111 {G : GE} (m0 : Mem) (q : List Mem) (r21 : Int32) (u17 : Int32) (k : Int32 → Mem → Option (Mem)) (hk : ∀ (u24 : Int32) (w25 : Mem), K G (mi_X8_layHome 5) (e_X8_layHome m0 q) 137 [(0, .ref 0), (2, .int r21), (3, .int u17), (6, .int u24)] [] (w25 :: q) (k u24 w25)) : ∀ (t : Nat) (u24 : Int32) (w25 : Mem), K G (mi_X8_layHome 5) (e_X8_layHome m0 q) 111 [(0, .ref 0), (2, .int r21), (3, .int u17), (6, .int u24)] [] (w25 :: q) (f_X8_layHome_L111 k t u24 w25) := by
  intro t
  induction t with
  | zero => intro u24 w25; exact K_none
  | succ t ih =>
    intro u24 w25
    rw [f_X8_layHome_L111]
    refine K_iload 3 dX8_layHome_111 rfl ?_
    refine K_iconst (v := 3) dX8_layHome_113 (by decide) ?_
    refine K_icmp_ge 137 dX8_layHome_114 rfl (fun _ => ?_) (fun _ => ?_)
    · refine K_loc [0, 1, 2, 3] (lv' := [(0, .ref 0), (2, .int r21), (3, .int u17), (6, .int u24)]) rfl ?_
      exact hk u24 w25
    · refine K_aload_n 0 dX8_layHome_117 rfl ?_
      refine K_get (v := .ref 26) dX8_layHome_118 fl_X8_46 kl_0 rfl rfl ?_
      refine K_iload 3 dX8_layHome_121 rfl ?_
      refine K_aload_n 0 dX8_layHome_123 rfl ?_
      refine K_get (v := .ref 32) dX8_layHome_124 fl_X8_52 kl_0 rfl rfl ?_
      refine K_iload 3 dX8_layHome_127 rfl ?_
      refine K_iald (f := w25 32) dX8_layHome_129 kl_32 rfl ?_
      refine K_iast (Ms' := ((up w25 26 u24.toNatClampNeg (w25 32 u24.toNatClampNeg)) :: q)) dX8_layHome_130 kl_26 (Nat.succ_pos _) rfl ?_
      refine K_nmm (fun w => (w :: q)) rfl (fun w26 => ?_)
      refine K_iinc 3 (w := u24 + 1) (lv' := [(6, .int (u24 + 1)), (0, .ref 0), (2, .int r21), (3, .int u17)]) dX8_layHome_131 rfl rfl (by decide) rfl ?_
      refine K_goto 111 dX8_layHome_134 rfl ?_
      refine K_loc [1, 2, 3, 0] (lv' := [(0, .ref 0), (2, .int r21), (3, .int u17), (6, .int (u24 + 1))]) rfl ?_
      exact ih (u24 + 1) w26
theorem k_X8_layHome_L27 {G : GE} (m0 : Mem) (q : List Mem) (k : Int32 → Int32 → Mem → Option (Mem)) (hk : ∀ (u16 : Int32) (u17 : Int32) (w18 : Mem), K G (mi_X8_layHome 5) (e_X8_layHome m0 q) 143 [(0, .ref 0), (2, .int u16), (3, .int u17)] [] (w18 :: q) (k u16 u17 w18)) : ∀ (t : Nat) (u16 : Int32) (u17 : Int32) (w18 : Mem), K G (mi_X8_layHome 5) (e_X8_layHome m0 q) 27 [(0, .ref 0), (2, .int u16), (3, .int u17)] [] (w18 :: q) (f_X8_layHome_L27 k t u16 u17 w18) := by
  intro t
  induction t with
  | zero => intro u16 u17 w18; exact K_none
  | succ t ih =>
    intro u16 u17 w18
    rw [f_X8_layHome_L27]
    refine K_iload_n 2 dX8_layHome_27 rfl ?_
    refine K_iconst (v := 1) dX8_layHome_28 (by decide) ?_
    refine K_iconst (v := 2) dX8_layHome_29 (by decide) ?_
    refine K_aload_n 0 dX8_layHome_30 rfl ?_
    refine K_get (v := .int (w18 0 30)) dX8_layHome_31 fl_X8_284 kl_0 rfl rfl ?_
    refine K_imul dX8_layHome_34 ?_
    refine K_ishl dX8_layHome_35 ?_
    refine K_icmp_ge 143 dX8_layHome_36 rfl (fun _ => ?_) (fun _ => ?_)
    · refine K_loc [0, 1, 2] (lv' := [(0, .ref 0), (2, .int u16), (3, .int u17)]) rfl ?_
      exact hk u16 u17 w18
    · refine K_aload_n 0 dX8_layHome_39 rfl ?_
      refine K_iload_n 2 dX8_layHome_40 rfl ?_
      refine K_callV (E' := e_X8_layRow w18 q) (b := 0) (As := [.int u17]) (rest := []) dX8_layHome_41 ml_X8_305 (mf_X8_layRow 1) mv_X8_layRow (fun hj r hr => c_X8_layRow hj w18 q u17 hr) (rcv_obj (q := (RX8, TX8, 37)) kl_0 rfl) rfl rfl (Nat.le_of_ble_eq_true rfl) (Nat.le_of_ble_eq_true rfl) (fun r19 => ?_)
      show K G (mi_X8_layHome 5) (e_X8_layHome m0 q) 44 [(0, .ref 0), (2, .int u16), (3, .int u17)] [] (r19 :: q) _
      refine K_aload_n 0 dX8_layHome_44 rfl ?_
      refine K_callV (E' := e_X8_sumOf r19 q) (b := 0) (As := []) (rest := []) dX8_layHome_45 ml_X8_308 (mf_X8_sumOf 1) mv_X8_sumOf (fun hj r hr => c_X8_sumOf hj r19 q  hr) (rcv_obj (q := (RX8, TX8, 37)) kl_0 rfl) rfl rfl (Nat.le_of_ble_eq_true rfl) (Nat.le_of_ble_eq_true rfl) (fun r20 => ?_)
      show K G (mi_X8_layHome 5) (e_X8_layHome m0 q) 48 [(0, .ref 0), (2, .int u16), (3, .int u17)] [.int r20] (r19 :: q) _
      refine K_istore (lv' := [(4, .int r20), (0, .ref 0), (2, .int u16), (3, .int u17)]) dX8_layHome_48 (by decide) rfl ?_
      refine K_aload_n 1 dX8_layHome_50 rfl ?_
      refine K_get (v := .ref 32) dX8_layHome_51 fl_X8_52 kl_0 rfl rfl ?_
      refine K_iconst (v := 3) dX8_layHome_54 (by decide) ?_
      refine K_iald (f := r19 32) dX8_layHome_55 kl_32 rfl ?_
      refine K_callS (E' := e_X8_bits (r19 :: q)) (As := [.int (r19 32 (3 : Int32).toNatClampNeg)]) (rest := []) dX8_layHome_56 ml_X8_275 (mf_X8_bits 1) ms_X8_bits (fun hj r hr => c_X8_bits hj (r19 :: q) (r19 32 (3 : Int32).toNatClampNeg) hr) rfl rfl (Nat.le_of_ble_eq_true rfl) (Nat.le_of_ble_eq_true rfl) (fun r21 => ?_)
      show K G (mi_X8_layHome 5) (e_X8_layHome m0 q) 59 [(4, .int r20), (0, .ref 0), (2, .int u16), (3, .int u17)] [.int r21] (r19 :: q) _
      refine K_istore (lv' := [(5, .int r21), (4, .int r20), (0, .ref 0), (2, .int u16), (3, .int u17)]) dX8_layHome_59 (by decide) rfl ?_
      refine K_iload 1 dX8_layHome_61 rfl ?_
      refine K_ldc (v := (-1000000)) dX8_layHome_63 cst_X8_104 ?_
      refine K_icmp_eq 137 dX8_layHome_65 rfl (fun _ => ?_) (fun _ => ?_)
      · refine K_iinc 4 (w := u17 + 1) (lv' := [(3, .int (u17 + 1)), (5, .int r21), (4, .int r20), (0, .ref 0), (2, .int u16)]) dX8_layHome_137 rfl rfl (by decide) rfl ?_
        refine K_goto 27 dX8_layHome_140 rfl ?_
        refine K_loc [3, 4, 0] (lv' := [(0, .ref 0), (2, .int u16), (3, .int (u17 + 1))]) rfl ?_
        exact ih u16 (u17 + 1) r19
      · refine K_iload 0 dX8_layHome_68 rfl ?_
        refine K_iload_n 3 dX8_layHome_70 rfl ?_
        refine K_icmp_lt 89 dX8_layHome_71 rfl (fun _ => ?_) (fun _ => ?_)
        · refine K_iload 0 dX8_layHome_89 rfl ?_
          refine K_istore_n (lv' := [(2, .int r21), (5, .int r21), (4, .int r20), (0, .ref 0), (3, .int u17)]) dX8_layHome_91 (by decide) rfl ?_
          refine K_aload_n 3 dX8_layHome_92 rfl ?_
          refine K_iload 2 dX8_layHome_93 rfl ?_
          refine K_put (Ms' := ((up r19 0 28 r20) :: q)) dX8_layHome_95 fp_X8_302 kl_0 rfl rfl rfl (Nat.succ_pos _) rfl ?_
          refine K_nmm (fun w => (w :: q)) rfl (fun w22 => ?_)
          refine K_aload_n 3 dX8_layHome_98 rfl ?_
          refine K_aload_n 3 dX8_layHome_99 rfl ?_
          refine K_get (v := .ref 32) dX8_layHome_100 fl_X8_52 kl_0 rfl rfl ?_
          refine K_iconst (v := 3) dX8_layHome_103 (by decide) ?_
          refine K_iald (f := w22 32) dX8_layHome_104 kl_32 rfl ?_
          refine K_put (Ms' := ((up w22 0 26 (w22 32 (3 : Int32).toNatClampNeg)) :: q)) dX8_layHome_105 fp_X8_311 kl_0 rfl rfl rfl (Nat.succ_pos _) rfl ?_
          refine K_nmm (fun w => (w :: q)) rfl (fun w23 => ?_)
          refine K_iconst (v := 0) dX8_layHome_108 (by decide) ?_
          refine K_istore (lv' := [(6, .int 0), (2, .int r21), (5, .int r21), (4, .int r20), (0, .ref 0), (3, .int u17)]) dX8_layHome_109 (by decide) rfl ?_
          refine K_loc [4, 1, 5, 0] (lv' := [(0, .ref 0), (2, .int r21), (3, .int u17), (6, .int 0)]) rfl ?_
          refine k_X8_layHome_L111  m0 q r21 u17 _ (fun u27 w28 => ?_) 100000 0 w23
          refine K_iinc 2 (w := u17 + 1) (lv' := [(3, .int (u17 + 1)), (0, .ref 0), (2, .int r21), (6, .int u27)]) dX8_layHome_137 rfl rfl (by decide) rfl ?_
          refine K_goto 27 dX8_layHome_140 rfl ?_
          refine K_loc [1, 2, 0] (lv' := [(0, .ref 0), (2, .int r21), (3, .int (u17 + 1))]) rfl ?_
          exact ih r21 (u17 + 1) w28
        · refine K_iload 0 dX8_layHome_74 rfl ?_
          refine K_iload_n 3 dX8_layHome_76 rfl ?_
          refine K_icmp_ne 137 dX8_layHome_77 rfl (fun _ => ?_) (fun _ => ?_)
          · refine K_iinc 4 (w := u17 + 1) (lv' := [(3, .int (u17 + 1)), (5, .int r21), (4, .int r20), (0, .ref 0), (2, .int u16)]) dX8_layHome_137 rfl rfl (by decide) rfl ?_
            refine K_goto 27 dX8_layHome_140 rfl ?_
            refine K_loc [3, 4, 0] (lv' := [(0, .ref 0), (2, .int u16), (3, .int (u17 + 1))]) rfl ?_
            exact ih u16 (u17 + 1) r19
          · refine K_iload 1 dX8_layHome_80 rfl ?_
            refine K_aload_n 2 dX8_layHome_82 rfl ?_
            refine K_get (v := .int (r19 0 28)) dX8_layHome_83 fl_X8_302 kl_0 rfl rfl ?_
            refine K_icmp_ge 137 dX8_layHome_86 rfl (fun _ => ?_) (fun _ => ?_)
            · refine K_iinc 4 (w := u17 + 1) (lv' := [(3, .int (u17 + 1)), (5, .int r21), (4, .int r20), (0, .ref 0), (2, .int u16)]) dX8_layHome_137 rfl rfl (by decide) rfl ?_
              refine K_goto 27 dX8_layHome_140 rfl ?_
              refine K_loc [3, 4, 0] (lv' := [(0, .ref 0), (2, .int u16), (3, .int (u17 + 1))]) rfl ?_
              exact ih u16 (u17 + 1) r19
            · refine K_iload 0 dX8_layHome_89 rfl ?_
              refine K_istore_n (lv' := [(2, .int r21), (5, .int r21), (4, .int r20), (0, .ref 0), (3, .int u17)]) dX8_layHome_91 (by decide) rfl ?_
              refine K_aload_n 3 dX8_layHome_92 rfl ?_
              refine K_iload 2 dX8_layHome_93 rfl ?_
              refine K_put (Ms' := ((up r19 0 28 r20) :: q)) dX8_layHome_95 fp_X8_302 kl_0 rfl rfl rfl (Nat.succ_pos _) rfl ?_
              refine K_nmm (fun w => (w :: q)) rfl (fun w29 => ?_)
              refine K_aload_n 3 dX8_layHome_98 rfl ?_
              refine K_aload_n 3 dX8_layHome_99 rfl ?_
              refine K_get (v := .ref 32) dX8_layHome_100 fl_X8_52 kl_0 rfl rfl ?_
              refine K_iconst (v := 3) dX8_layHome_103 (by decide) ?_
              refine K_iald (f := w29 32) dX8_layHome_104 kl_32 rfl ?_
              refine K_put (Ms' := ((up w29 0 26 (w29 32 (3 : Int32).toNatClampNeg)) :: q)) dX8_layHome_105 fp_X8_311 kl_0 rfl rfl rfl (Nat.succ_pos _) rfl ?_
              refine K_nmm (fun w => (w :: q)) rfl (fun w30 => ?_)
              refine K_iconst (v := 0) dX8_layHome_108 (by decide) ?_
              refine K_istore (lv' := [(6, .int 0), (2, .int r21), (5, .int r21), (4, .int r20), (0, .ref 0), (3, .int u17)]) dX8_layHome_109 (by decide) rfl ?_
              refine K_loc [4, 1, 5, 0] (lv' := [(0, .ref 0), (2, .int r21), (3, .int u17), (6, .int 0)]) rfl ?_
              refine k_X8_layHome_L111  m0 q r21 u17 _ (fun u34 w35 => ?_) 100000 0 w30
              refine K_iinc 2 (w := u17 + 1) (lv' := [(3, .int (u17 + 1)), (0, .ref 0), (2, .int r21), (6, .int u34)]) dX8_layHome_137 rfl rfl (by decide) rfl ?_
              refine K_goto 27 dX8_layHome_140 rfl ?_
              refine K_loc [1, 2, 0] (lv' := [(0, .ref 0), (2, .int r21), (3, .int (u17 + 1))]) rfl ?_
              exact ih r21 (u17 + 1) w35
theorem k_X8_layHome {G : GE} (m0 : Mem) (q : List Mem) (x1 : Int32) : K G (mi_X8_layHome 5) (e_X8_layHome m0 q) 0 [(0, .ref 0), (1, .int x1)] [] (m0 :: q) (f_X8_layHome m0 x1) := by
  unfold f_X8_layHome
  refine K_aload_n 0 dX8_layHome_0 rfl ?_
  refine K_aload_n 0 dX8_layHome_1 rfl ?_
  refine K_iload_n 1 dX8_layHome_2 rfl ?_
  refine K_callV (E' := e_X8_goingAt m0 q) (b := 0) (As := [.int x1]) (rest := [.ref 0]) dX8_layHome_3 ml_X8_272 (mf_X8_goingAt 4) mv_X8_goingAt (fun hj r hr => c_X8_goingAt hj m0 q x1 hr) (rcv_obj (q := (RX8, TX8, 37)) kl_0 rfl) rfl rfl (Nat.le_of_ble_eq_true rfl) (Nat.le_of_ble_eq_true rfl) (fun r11 => ?_)
  show K G (mi_X8_layHome 5) (e_X8_layHome m0 q) 6 [(0, .ref 0), (1, .int x1)] [.int r11, .ref 0] (m0 :: q) _
  refine K_put (Ms' := ((up m0 0 27 r11) :: q)) dX8_layHome_6 fp_X8_287 kl_0 rfl rfl rfl (Nat.succ_pos _) rfl ?_
  refine K_nmm (fun w => (w :: q)) rfl (fun w12 => ?_)
  refine K_aload_n 0 dX8_layHome_9 rfl ?_
  refine K_callV (E' := e_X8_layRiders w12 q) (b := 0) (As := []) (rest := []) dX8_layHome_10 ml_X8_296 (mf_X8_layRiders 3) mv_X8_layRiders (fun hj r hr => c_X8_layRiders hj w12 q  hr) (rcv_obj (q := (RX8, TX8, 37)) kl_0 rfl) rfl rfl (Nat.le_of_ble_eq_true rfl) (Nat.le_of_ble_eq_true rfl) (fun r13 => ?_)
  show K G (mi_X8_layHome 5) (e_X8_layHome m0 q) 13 [(0, .ref 0), (1, .int x1)] [] (r13 :: q) _
  refine K_aload_n 0 dX8_layHome_13 rfl ?_
  refine K_callV (E' := e_X8_layTakes r13 q) (b := 0) (As := []) (rest := []) dX8_layHome_14 ml_X8_299 (mf_X8_layTakes 4) mv_X8_layTakes (fun hj r hr => c_X8_layTakes hj r13 q  hr) (rcv_obj (q := (RX8, TX8, 37)) kl_0 rfl) rfl rfl (Nat.le_of_ble_eq_true rfl) (Nat.le_of_ble_eq_true rfl) (fun r14 => ?_)
  show K G (mi_X8_layHome 5) (e_X8_layHome m0 q) 17 [(0, .ref 0), (1, .int x1)] [] (r14 :: q) _
  refine K_bipush (v := 99) dX8_layHome_17 (by decide) ?_
  refine K_istore_n (lv' := [(2, .int 99), (0, .ref 0), (1, .int x1)]) dX8_layHome_19 (by decide) rfl ?_
  refine K_aload_n 1 dX8_layHome_20 rfl ?_
  refine K_iconst (v := 0) dX8_layHome_21 (by decide) ?_
  refine K_put (Ms' := ((up r14 0 28 0) :: q)) dX8_layHome_22 fp_X8_302 kl_0 rfl rfl rfl (Nat.succ_pos _) rfl ?_
  refine K_nmm (fun w => (w :: q)) rfl (fun w15 => ?_)
  refine K_iconst (v := 0) dX8_layHome_25 (by decide) ?_
  refine K_istore_n (lv' := [(3, .int 0), (2, .int 99), (0, .ref 0), (1, .int x1)]) dX8_layHome_26 (by decide) rfl ?_
  refine K_loc [2, 1, 0] (lv' := [(0, .ref 0), (2, .int 99), (3, .int 0)]) rfl ?_
  refine k_X8_layHome_L27  m0 q  _ (fun u36 u37 w38 => ?_) 100000 99 0 w15
  exact K_ret (rv := none) dX8_layHome_143 trivial rfl rfl
theorem c_X8_layHome {G : GE} (hj : dj G) (m0 : Mem) (q : List Mem) (x1 : Int32) {r : Mem} (hr : f_X8_layHome m0 x1 = some r) : Ctr G yX8_layHome (mi_X8_layHome 5) [.ref 0, .int x1] (m0 :: q) ((e_X8_layHome m0 q) r).1 ((e_X8_layHome m0 q) r).2 := Ctr_of hj (by decide) rfl hr rfl (Nat.le_of_ble_eq_true rfl) (k_X8_layHome m0 q x1)
abbrev e_X8_home (m0 : Mem) (q : List Mem) : (Int32 × Mem) → Option Value × List Mem := fun r => (some (.int r.1), (r.2 :: q))
theorem k_X8_home {G : GE} (m0 : Mem) (q : List Mem) (x1 : Int32) (x2 : Int32) : K G (mi_X8_home 6) (e_X8_home m0 q) 0 [(0, .ref 0), (1, .int x1), (2, .int x2)] [] (m0 :: q) (f_X8_home m0 x1 x2) := by
  unfold f_X8_home
  refine K_aload_n 0 dX8_home_0 rfl ?_
  refine K_iconst (v := 0) dX8_home_1 (by decide) ?_
  refine K_put (Ms' := ((up m0 0 0 0) :: q)) dX8_home_2 fp_X8_68 kl_0 rfl rfl rfl (Nat.succ_pos _) rfl ?_
  refine K_nmm (fun w => (w :: q)) rfl (fun w11 => ?_)
  refine K_aload_n 0 dX8_home_5 rfl ?_
  refine K_get (v := .int (w11 0 7)) dX8_home_6 fl_X8_217 kl_0 rfl rfl ?_
  refine K_if_ne 15 dX8_home_9 rfl (fun _ => ?_) (fun _ => ?_)
  · refine K_iload_n 1 dX8_home_15 rfl ?_
    refine K_callS (E' := e_X8_isMinute (w11 :: q)) (As := [.int x1]) (rest := []) dX8_home_16 ml_X8_255 (mf_X8_isMinute 2) ms_X8_isMinute (fun hj r hr => c_X8_isMinute hj (w11 :: q) x1 hr) rfl rfl (Nat.le_of_ble_eq_true rfl) (Nat.le_of_ble_eq_true rfl) (fun r12 => ?_)
    show K G (mi_X8_home 6) (e_X8_home m0 q) 19 [(0, .ref 0), (1, .int x1), (2, .int x2)] [.int r12] (w11 :: q) _
    refine K_if_eq 40 dX8_home_19 rfl (fun _ => ?_) (fun _ => ?_)
    · refine K_ldc (v := (-1000001)) dX8_home_40 cst_X8_88 ?_
      exact K_ret (rv := some (.int (-1000001))) dX8_home_42 rfl rfl rfl
    · refine K_iload_n 2 dX8_home_22 rfl ?_
      refine K_i2l dX8_home_23 ?_
      refine K_lconst (v := 0) dX8_home_24 (by decide) ?_
      refine K_iconst (v := 2) dX8_home_25 (by decide) ?_
      refine K_aload_n 0 dX8_home_26 rfl ?_
      refine K_get (v := .ref 6) dX8_home_27 fl_X8_19 kl_0 rfl rfl ?_
      refine K_iconst (v := 5) dX8_home_30 (by decide) ?_
      refine K_iald (f := w11 6) dX8_home_31 kl_6 rfl ?_
      refine K_iadd dX8_home_32 ?_
      refine K_i2l dX8_home_33 ?_
      refine K_callS (E' := e_X8_in (w11 :: q)) (As := [.long x2.toInt64, .long 0, .long ((2 + (w11 6 (5 : Int32).toNatClampNeg)).toInt64)]) (rest := []) dX8_home_34 ml_X8_78 (mf_X8_in 1) ms_X8_in (fun hj r hr => c_X8_in hj (w11 :: q) x2.toInt64 (0 : Int64) ((2 + (w11 6 (5 : Int32).toNatClampNeg)).toInt64) hr) rfl rfl (Nat.le_of_ble_eq_true rfl) (Nat.le_of_ble_eq_true rfl) (fun r13 => ?_)
      show K G (mi_X8_home 6) (e_X8_home m0 q) 37 [(0, .ref 0), (1, .int x1), (2, .int x2)] [.int r13] (w11 :: q) _
      refine K_if_ne 43 dX8_home_37 rfl (fun _ => ?_) (fun _ => ?_)
      · refine K_aload_n 0 dX8_home_43 rfl ?_
        refine K_iload_n 1 dX8_home_44 rfl ?_
        refine K_callV (E' := e_X8_layHome w11 q) (b := 0) (As := [.int x1]) (rest := []) dX8_home_45 ml_X8_314 (mf_X8_layHome 5) mv_X8_layHome (fun hj r hr => c_X8_layHome hj w11 q x1 hr) (rcv_obj (q := (RX8, TX8, 37)) kl_0 rfl) rfl rfl (Nat.le_of_ble_eq_true rfl) (Nat.le_of_ble_eq_true rfl) (fun r14 => ?_)
        show K G (mi_X8_home 6) (e_X8_home m0 q) 48 [(0, .ref 0), (1, .int x1), (2, .int x2)] [] (r14 :: q) _
        refine K_iload_n 2 dX8_home_48 rfl ?_
        refine K_if_ne 62 dX8_home_49 rfl (fun _ => ?_) (fun _ => ?_)
        · refine K_iload_n 2 dX8_home_62 rfl ?_
          refine K_iconst (v := 1) dX8_home_63 (by decide) ?_
          refine K_icmp_ne 74 dX8_home_64 rfl (fun _ => ?_) (fun _ => ?_)
          · refine K_iload_n 2 dX8_home_74 rfl ?_
            refine K_iconst (v := 2) dX8_home_75 (by decide) ?_
            refine K_icmp_ne 86 dX8_home_76 rfl (fun _ => ?_) (fun _ => ?_)
            · refine K_aload_n 0 dX8_home_86 rfl ?_
              refine K_get (v := .ref 26) dX8_home_87 fl_X8_46 kl_0 rfl rfl ?_
              refine K_iload_n 2 dX8_home_90 rfl ?_
              refine K_iconst (v := 3) dX8_home_91 (by decide) ?_
              refine K_isub dX8_home_92 ?_
              refine K_iald (f := r14 26) dX8_home_93 kl_26 rfl ?_
              exact K_ret (rv := some (.int (r14 26 (x2 - 3).toNatClampNeg))) dX8_home_94 rfl rfl rfl
            · refine K_aload_n 0 dX8_home_79 rfl ?_
              refine K_get (v := .int (r14 0 26)) dX8_home_80 fl_X8_311 kl_0 rfl rfl ?_
              refine K_goto 94 dX8_home_83 rfl ?_
              exact K_ret (rv := some (.int (r14 0 26))) dX8_home_94 rfl rfl rfl
          · refine K_aload_n 0 dX8_home_67 rfl ?_
            refine K_get (v := .int (r14 0 28)) dX8_home_68 fl_X8_302 kl_0 rfl rfl ?_
            refine K_goto 94 dX8_home_71 rfl ?_
            exact K_ret (rv := some (.int (r14 0 28))) dX8_home_94 rfl rfl rfl
        · refine K_aload_n 0 dX8_home_52 rfl ?_
          refine K_get (v := .int (r14 0 26)) dX8_home_53 fl_X8_311 kl_0 rfl rfl ?_
          refine K_callS (E' := e_X8_bits (r14 :: q)) (As := [.int (r14 0 26)]) (rest := []) dX8_home_56 ml_X8_275 (mf_X8_bits 1) ms_X8_bits (fun hj r hr => c_X8_bits hj (r14 :: q) (r14 0 26) hr) rfl rfl (Nat.le_of_ble_eq_true rfl) (Nat.le_of_ble_eq_true rfl) (fun r15 => ?_)
          show K G (mi_X8_home 6) (e_X8_home m0 q) 59 [(0, .ref 0), (1, .int x1), (2, .int x2)] [.int r15] (r14 :: q) _
          refine K_goto 94 dX8_home_59 rfl ?_
          exact K_ret (rv := some (.int r15)) dX8_home_94 rfl rfl rfl
      · refine K_ldc (v := (-1000001)) dX8_home_40 cst_X8_88 ?_
        exact K_ret (rv := some (.int (-1000001))) dX8_home_42 rfl rfl rfl
  · refine K_ldc (v := (-1000002)) dX8_home_12 cst_X8_240 ?_
    exact K_ret (rv := some (.int (-1000002))) dX8_home_14 rfl rfl rfl
theorem c_X8_home {G : GE} (hj : dj G) (m0 : Mem) (q : List Mem) (x1 : Int32) (x2 : Int32) {r : Int32 × Mem} (hr : f_X8_home m0 x1 x2 = some r) : Ctr G yX8_home (mi_X8_home 6) [.ref 0, .int x1, .int x2] (m0 :: q) ((e_X8_home m0 q) r).1 ((e_X8_home m0 q) r).2 := Ctr_of hj (by decide) rfl hr rfl (Nat.le_of_ble_eq_true rfl) (k_X8_home m0 q x1 x2)
abbrev e_X8_order (m0 : Mem) (q : List Mem) : (Int32 × Mem) → Option Value × List Mem := fun r => (some (.int r.1), (r.2 :: q))
theorem k_X8_order {G : GE} (m0 : Mem) (q : List Mem) (x1 : Int32) (x2 : Int32) (x3 : Int32) : K G (mi_X8_order 6) (e_X8_order m0 q) 0 [(0, .ref 0), (1, .int x1), (2, .int x2), (3, .int x3)] [] (m0 :: q) (f_X8_order m0 x1 x2 x3) := by
  unfold f_X8_order
  refine K_aload_n 0 dX8_order_0 rfl ?_
  refine K_iconst (v := 0) dX8_order_1 (by decide) ?_
  refine K_put (Ms' := ((up m0 0 0 0) :: q)) dX8_order_2 fp_X8_68 kl_0 rfl rfl rfl (Nat.succ_pos _) rfl ?_
  refine K_nmm (fun w => (w :: q)) rfl (fun w11 => ?_)
  refine K_iload_n 1 dX8_order_5 rfl ?_
  refine K_callS (E' := e_X8_isMinute (w11 :: q)) (As := [.int x1]) (rest := []) dX8_order_6 ml_X8_255 (mf_X8_isMinute 2) ms_X8_isMinute (fun hj r hr => c_X8_isMinute hj (w11 :: q) x1 hr) rfl rfl (Nat.le_of_ble_eq_true rfl) (Nat.le_of_ble_eq_true rfl) (fun r12 => ?_)
  show K G (mi_X8_order 6) (e_X8_order m0 q) 9 [(0, .ref 0), (1, .int x1), (2, .int x2), (3, .int x3)] [.int r12] (w11 :: q) _
  refine K_if_eq 25 dX8_order_9 rfl (fun _ => ?_) (fun _ => ?_)
  · refine K_ldc (v := (-1000001)) dX8_order_25 cst_X8_88 ?_
    exact K_ret (rv := some (.int (-1000001))) dX8_order_27 rfl rfl rfl
  · refine K_aload_n 0 dX8_order_12 rfl ?_
    refine K_iload_n 2 dX8_order_13 rfl ?_
    refine K_callV (E' := e_X8_isCar w11 q) (b := 0) (As := [.int x2]) (rest := []) dX8_order_14 ml_X8_246 (mf_X8_isCar 2) mv_X8_isCar (fun hj r hr => c_X8_isCar hj w11 q x2 hr) (rcv_obj (q := (RX8, TX8, 37)) kl_0 rfl) rfl rfl (Nat.le_of_ble_eq_true rfl) (Nat.le_of_ble_eq_true rfl) (fun r13 => ?_)
    show K G (mi_X8_order 6) (e_X8_order m0 q) 17 [(0, .ref 0), (1, .int x1), (2, .int x2), (3, .int x3)] [.int r13] (w11 :: q) _
    refine K_if_eq 25 dX8_order_17 rfl (fun _ => ?_) (fun _ => ?_)
    · refine K_ldc (v := (-1000001)) dX8_order_25 cst_X8_88 ?_
      exact K_ret (rv := some (.int (-1000001))) dX8_order_27 rfl rfl rfl
    · refine K_iload_n 3 dX8_order_20 rfl ?_
      refine K_iconst (v := (-1)) dX8_order_21 (by decide) ?_
      refine K_icmp_ge 28 dX8_order_22 rfl (fun _ => ?_) (fun _ => ?_)
      · refine K_aload_n 0 dX8_order_28 rfl ?_
        refine K_iload_n 1 dX8_order_29 rfl ?_
        refine K_callV (E' := e_X8_layHome w11 q) (b := 0) (As := [.int x1]) (rest := []) dX8_order_30 ml_X8_314 (mf_X8_layHome 5) mv_X8_layHome (fun hj r hr => c_X8_layHome hj w11 q x1 hr) (rcv_obj (q := (RX8, TX8, 37)) kl_0 rfl) rfl rfl (Nat.le_of_ble_eq_true rfl) (Nat.le_of_ble_eq_true rfl) (fun r14 => ?_)
        show K G (mi_X8_order 6) (e_X8_order m0 q) 33 [(0, .ref 0), (1, .int x1), (2, .int x2), (3, .int x3)] [] (r14 :: q) _
        refine K_aload_n 0 dX8_order_33 rfl ?_
        refine K_get (v := .int (r14 0 27)) dX8_order_34 fl_X8_287 kl_0 rfl rfl ?_
        refine K_iload_n 2 dX8_order_37 rfl ?_
        refine K_ishr dX8_order_38 ?_
        refine K_iconst (v := 1) dX8_order_39 (by decide) ?_
        refine K_iand dX8_order_40 ?_
        refine K_if_ne 47 dX8_order_41 rfl (fun _ => ?_) (fun _ => ?_)
        · refine K_aload_n 0 dX8_order_47 rfl ?_
          refine K_iload_n 2 dX8_order_48 rfl ?_
          refine K_aload_n 0 dX8_order_49 rfl ?_
          refine K_get (v := .ref 26) dX8_order_50 fl_X8_46 kl_0 rfl rfl ?_
          refine K_iload_n 2 dX8_order_53 rfl ?_
          refine K_iald (f := r14 26) dX8_order_54 kl_26 rfl ?_
          refine K_callV (E' := e_X8_leastOf r14 q) (b := 0) (As := [.int x2, .int (r14 26 x2.toNatClampNeg)]) (rest := []) dX8_order_55 ml_X8_293 (mf_X8_leastOf 3) mv_X8_leastOf (fun hj r hr => c_X8_leastOf hj r14 q x2 (r14 26 x2.toNatClampNeg) hr) (rcv_obj (q := (RX8, TX8, 37)) kl_0 rfl) rfl rfl (Nat.le_of_ble_eq_true rfl) (Nat.le_of_ble_eq_true rfl) (fun r15 => ?_)
          show K G (mi_X8_order 6) (e_X8_order m0 q) 58 [(0, .ref 0), (1, .int x1), (2, .int x2), (3, .int x3)] [.int r15.1] (r15.2 :: q) _
          refine K_nmi (fun x16 => ?_)
          refine K_istore (lv' := [(4, .int x16), (0, .ref 0), (1, .int x1), (2, .int x2), (3, .int x3)]) dX8_order_58 (by decide) rfl ?_
          refine K_iload_n 4 dX8_order_60 rfl ?_
          refine K_if_ge 69 dX8_order_61 rfl (fun _ => ?_) (fun _ => ?_)
          · refine K_iload_n 4 dX8_order_69 rfl ?_
            refine K_aload_n 1 dX8_order_70 rfl ?_
            refine K_get (v := .ref 26) dX8_order_71 fl_X8_46 kl_0 rfl rfl ?_
            refine K_iload_n 3 dX8_order_74 rfl ?_
            refine K_iald (f := r15.2 26) dX8_order_75 kl_26 rfl ?_
            refine K_callS (E' := e_X8_bits (r15.2 :: q)) (As := [.int (r15.2 26 x2.toNatClampNeg)]) (rest := [.int x3]) dX8_order_76 ml_X8_275 (mf_X8_bits 1) ms_X8_bits (fun hj r hr => c_X8_bits hj (r15.2 :: q) (r15.2 26 x2.toNatClampNeg) hr) rfl rfl (Nat.le_of_ble_eq_true rfl) (Nat.le_of_ble_eq_true rfl) (fun r17 => ?_)
            show K G (mi_X8_order 6) (e_X8_order m0 q) 79 [(4, .int x16), (0, .ref 0), (1, .int x1), (2, .int x2), (3, .int x3)] [.int r17, .int x3] (r15.2 :: q) _
            refine K_icmp_ge 91 dX8_order_79 rfl (fun _ => ?_) (fun _ => ?_)
            · refine K_ldc (v := (-1000000)) dX8_order_91 cst_X8_104 ?_
              exact K_ret (rv := some (.int (-1000000))) dX8_order_93 rfl rfl rfl
            · refine K_aload_n 1 dX8_order_82 rfl ?_
              refine K_get (v := .ref 25) dX8_order_83 fl_X8_43 kl_0 rfl rfl ?_
              refine K_iload_n 4 dX8_order_86 rfl ?_
              refine K_iald (f := r15.2 25) dX8_order_87 kl_25 rfl ?_
              refine K_goto 93 dX8_order_88 rfl ?_
              exact K_ret (rv := some (.int (r15.2 25 x3.toNatClampNeg))) dX8_order_93 rfl rfl rfl
          · refine K_iload 0 dX8_order_64 rfl ?_
            refine K_goto 93 dX8_order_66 rfl ?_
            exact K_ret (rv := some (.int x16)) dX8_order_93 rfl rfl rfl
        · refine K_ldc (v := (-1000000)) dX8_order_44 cst_X8_104 ?_
          exact K_ret (rv := some (.int (-1000000))) dX8_order_46 rfl rfl rfl
      · refine K_ldc (v := (-1000001)) dX8_order_25 cst_X8_88 ?_
        exact K_ret (rv := some (.int (-1000001))) dX8_order_27 rfl rfl rfl
theorem c_X8_order {G : GE} (hj : dj G) (m0 : Mem) (q : List Mem) (x1 : Int32) (x2 : Int32) (x3 : Int32) {r : Int32 × Mem} (hr : f_X8_order m0 x1 x2 x3 = some r) : Ctr G yX8_order (mi_X8_order 6) [.ref 0, .int x1, .int x2, .int x3] (m0 :: q) ((e_X8_order m0 q) r).1 ((e_X8_order m0 q) r).2 := Ctr_of hj (by decide) rfl hr rfl (Nat.le_of_ble_eq_true rfl) (k_X8_order m0 q x1 x2 x3)
abbrev e_X8_detour (m0 : Mem) (q : List Mem) : (Int32 × Mem) → Option Value × List Mem := fun r => (some (.int r.1), (r.2 :: q))
theorem k_X8_detour_L30 {G : GE} (m0 : Mem) (q : List Mem) (x2 : Int32) (k : Int32 → Mem → Option (Int32 × Mem)) (hk : ∀ (u15 : Int32) (w16 : Mem), K G (mi_X8_detour 6) (e_X8_detour m0 q) 96 [(0, .ref 0), (2, .int x2), (3, .int u15)] [] (w16 :: q) (k u15 w16)) : ∀ (t : Nat) (u15 : Int32) (w16 : Mem), K G (mi_X8_detour 6) (e_X8_detour m0 q) 30 [(0, .ref 0), (2, .int x2), (3, .int u15)] [] (w16 :: q) (f_X8_detour_L30 k x2 t u15 w16) := by
  intro t
  induction t with
  | zero => intro u15 w16; exact K_none
  | succ t ih =>
    intro u15 w16
    rw [f_X8_detour_L30]
    refine K_iload_n 2 dX8_detour_30 rfl ?_
    refine K_aload_n 0 dX8_detour_31 rfl ?_
    refine K_get (v := .ref 6) dX8_detour_32 fl_X8_19 kl_0 rfl rfl ?_
    refine K_iconst (v := 5) dX8_detour_35 (by decide) ?_
    refine K_iald (f := w16 6) dX8_detour_36 kl_6 rfl ?_
    refine K_icmp_ge 96 dX8_detour_37 rfl (fun _ => ?_) (fun _ => ?_)
    · refine K_loc [0, 1, 2] (lv' := [(0, .ref 0), (2, .int x2), (3, .int u15)]) rfl ?_
      exact hk u15 w16
    · refine K_aload_n 0 dX8_detour_40 rfl ?_
      refine K_get (v := .ref 26) dX8_detour_41 fl_X8_46 kl_0 rfl rfl ?_
      refine K_iload_n 2 dX8_detour_44 rfl ?_
      refine K_iald (f := w16 26) dX8_detour_45 kl_26 rfl ?_
      refine K_iload_n 1 dX8_detour_46 rfl ?_
      refine K_ishr dX8_detour_47 ?_
      refine K_iconst (v := 1) dX8_detour_48 (by decide) ?_
      refine K_iand dX8_detour_49 ?_
      refine K_iconst (v := 1) dX8_detour_50 (by decide) ?_
      refine K_icmp_ne 90 dX8_detour_51 rfl (fun _ => ?_) (fun _ => ?_)
      · refine K_iinc 2 (w := u15 + 1) (lv' := [(3, .int (u15 + 1)), (0, .ref 0), (2, .int x2)]) dX8_detour_90 rfl rfl (by decide) rfl ?_
        refine K_goto 30 dX8_detour_93 rfl ?_
        refine K_loc [1, 2, 0] (lv' := [(0, .ref 0), (2, .int x2), (3, .int (u15 + 1))]) rfl ?_
        exact ih (u15 + 1) w16
      · refine K_aload_n 0 dX8_detour_54 rfl ?_
        refine K_get (v := .ref 22) dX8_detour_55 fl_X8_34 kl_0 rfl rfl ?_
        refine K_sipush (v := 128) dX8_detour_58 (by decide) ?_
        refine K_iload_n 2 dX8_detour_61 rfl ?_
        refine K_imul dX8_detour_62 ?_
        refine K_aload_n 0 dX8_detour_63 rfl ?_
        refine K_get (v := .ref 26) dX8_detour_64 fl_X8_46 kl_0 rfl rfl ?_
        refine K_iload_n 2 dX8_detour_67 rfl ?_
        refine K_iald (f := w16 26) dX8_detour_68 kl_26 rfl ?_
        refine K_iadd dX8_detour_69 ?_
        refine K_iald (f := w16 22) dX8_detour_70 kl_22 rfl ?_
        refine K_aload_n 0 dX8_detour_71 rfl ?_
        refine K_iload_n 2 dX8_detour_72 rfl ?_
        refine K_aload_n 0 dX8_detour_73 rfl ?_
        refine K_get (v := .ref 26) dX8_detour_74 fl_X8_46 kl_0 rfl rfl ?_
        refine K_iload_n 2 dX8_detour_77 rfl ?_
        refine K_iald (f := w16 26) dX8_detour_78 kl_26 rfl ?_
        refine K_iconst (v := 1) dX8_detour_79 (by decide) ?_
        refine K_iload_n 1 dX8_detour_80 rfl ?_
        refine K_ishl dX8_detour_81 ?_
        refine K_iconst (v := (-1)) dX8_detour_82 (by decide) ?_
        refine K_ixor dX8_detour_83 ?_
        refine K_iand dX8_detour_84 ?_
        refine K_callV (E' := e_X8_leastOf w16 q) (b := 0) (As := [.int u15, .int ((w16 26 u15.toNatClampNeg) &&& ((1 <<< (x2 &&& 31)) ^^^ (-1)))]) (rest := [.int (w16 22 ((128 * u15) + (w16 26 u15.toNatClampNeg)).toNatClampNeg)]) dX8_detour_85 ml_X8_293 (mf_X8_leastOf 3) mv_X8_leastOf (fun hj r hr => c_X8_leastOf hj w16 q u15 ((w16 26 u15.toNatClampNeg) &&& ((1 <<< (x2 &&& 31)) ^^^ (-1))) hr) (rcv_obj (q := (RX8, TX8, 37)) kl_0 rfl) rfl rfl (Nat.le_of_ble_eq_true rfl) (Nat.le_of_ble_eq_true rfl) (fun r17 => ?_)
        show K G (mi_X8_detour 6) (e_X8_detour m0 q) 88 [(0, .ref 0), (2, .int x2), (3, .int u15)] [.int r17.1, .int (w16 22 ((128 * u15) + (w16 26 u15.toNatClampNeg)).toNatClampNeg)] (r17.2 :: q) _
        refine K_isub dX8_detour_88 ?_
        exact K_ret (rv := some (.int ((w16 22 ((128 * u15) + (w16 26 u15.toNatClampNeg)).toNatClampNeg) - r17.1))) dX8_detour_89 rfl rfl rfl
theorem k_X8_detour {G : GE} (m0 : Mem) (q : List Mem) (x1 : Int32) (x2 : Int32) : K G (mi_X8_detour 6) (e_X8_detour m0 q) 0 [(0, .ref 0), (1, .int x1), (2, .int x2)] [] (m0 :: q) (f_X8_detour m0 x1 x2) := by
  unfold f_X8_detour
  refine K_aload_n 0 dX8_detour_0 rfl ?_
  refine K_iconst (v := 0) dX8_detour_1 (by decide) ?_
  refine K_put (Ms' := ((up m0 0 0 0) :: q)) dX8_detour_2 fp_X8_68 kl_0 rfl rfl rfl (Nat.succ_pos _) rfl ?_
  refine K_nmm (fun w => (w :: q)) rfl (fun w11 => ?_)
  refine K_iload_n 1 dX8_detour_5 rfl ?_
  refine K_callS (E' := e_X8_isMinute (w11 :: q)) (As := [.int x1]) (rest := []) dX8_detour_6 ml_X8_255 (mf_X8_isMinute 2) ms_X8_isMinute (fun hj r hr => c_X8_isMinute hj (w11 :: q) x1 hr) rfl rfl (Nat.le_of_ble_eq_true rfl) (Nat.le_of_ble_eq_true rfl) (fun r12 => ?_)
  show K G (mi_X8_detour 6) (e_X8_detour m0 q) 9 [(0, .ref 0), (1, .int x1), (2, .int x2)] [.int r12] (w11 :: q) _
  refine K_if_eq 20 dX8_detour_9 rfl (fun _ => ?_) (fun _ => ?_)
  · refine K_ldc (v := (-1000001)) dX8_detour_20 cst_X8_88 ?_
    exact K_ret (rv := some (.int (-1000001))) dX8_detour_22 rfl rfl rfl
  · refine K_aload_n 0 dX8_detour_12 rfl ?_
    refine K_iload_n 2 dX8_detour_13 rfl ?_
    refine K_callV (E' := e_X8_isPerson w11 q) (b := 0) (As := [.int x2]) (rest := []) dX8_detour_14 ml_X8_232 (mf_X8_isPerson 2) mv_X8_isPerson (fun hj r hr => c_X8_isPerson hj w11 q x2 hr) (rcv_obj (q := (RX8, TX8, 37)) kl_0 rfl) rfl rfl (Nat.le_of_ble_eq_true rfl) (Nat.le_of_ble_eq_true rfl) (fun r13 => ?_)
    show K G (mi_X8_detour 6) (e_X8_detour m0 q) 17 [(0, .ref 0), (1, .int x1), (2, .int x2)] [.int r13] (w11 :: q) _
    refine K_if_ne 23 dX8_detour_17 rfl (fun _ => ?_) (fun _ => ?_)
    · refine K_aload_n 0 dX8_detour_23 rfl ?_
      refine K_iload_n 1 dX8_detour_24 rfl ?_
      refine K_callV (E' := e_X8_layHome w11 q) (b := 0) (As := [.int x1]) (rest := []) dX8_detour_25 ml_X8_314 (mf_X8_layHome 5) mv_X8_layHome (fun hj r hr => c_X8_layHome hj w11 q x1 hr) (rcv_obj (q := (RX8, TX8, 37)) kl_0 rfl) rfl rfl (Nat.le_of_ble_eq_true rfl) (Nat.le_of_ble_eq_true rfl) (fun r14 => ?_)
      show K G (mi_X8_detour 6) (e_X8_detour m0 q) 28 [(0, .ref 0), (1, .int x1), (2, .int x2)] [] (r14 :: q) _
      refine K_iconst (v := 0) dX8_detour_28 (by decide) ?_
      refine K_istore_n (lv' := [(3, .int 0), (0, .ref 0), (1, .int x1), (2, .int x2)]) dX8_detour_29 (by decide) rfl ?_
      refine K_loc [1, 3, 0] (lv' := [(0, .ref 0), (2, .int x2), (3, .int 0)]) rfl ?_
      refine k_X8_detour_L30  m0 q x2 _ (fun u18 w19 => ?_) 100000 0 r14
      refine K_ldc (v := (-1000000)) dX8_detour_96 cst_X8_104 ?_
      exact K_ret (rv := some (.int (-1000000))) dX8_detour_98 rfl rfl rfl
    · refine K_ldc (v := (-1000001)) dX8_detour_20 cst_X8_88 ?_
      exact K_ret (rv := some (.int (-1000001))) dX8_detour_22 rfl rfl rfl
theorem c_X8_detour {G : GE} (hj : dj G) (m0 : Mem) (q : List Mem) (x1 : Int32) (x2 : Int32) {r : Int32 × Mem} (hr : f_X8_detour m0 x1 x2 = some r) : Ctr G yX8_detour (mi_X8_detour 6) [.ref 0, .int x1, .int x2] (m0 :: q) ((e_X8_detour m0 q) r).1 ((e_X8_detour m0 q) r).2 := Ctr_of hj (by decide) rfl hr rfl (Nat.le_of_ble_eq_true rfl) (k_X8_detour m0 q x1 x2)
