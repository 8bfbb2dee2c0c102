abbrev e_X8_fits (m0 : Mem) (q : List Mem) : Int32 → Option Value × List Mem := fun r => (some (.int r), (m0 :: q))
theorem k_X8_fits_L34 {G : GE} (m0 : Mem) (q : List Mem) (x1 : Int32) (x12 : Int32) (k : Int32 → Int32 → Option (Int32)) (hk : ∀ (u17 : Int32) (u18 : Int32), K G (mi_X8_fits 3) (e_X8_fits m0 q) 144 [(0, .ref 0), (1, .int x1), (3, .int x12), (4, .int u17), (5, .int u18)] [] (m0 :: q) (k u17 u18)) : ∀ (t : Nat) (u17 : Int32) (u18 : Int32), K G (mi_X8_fits 3) (e_X8_fits m0 q) 34 [(0, .ref 0), (1, .int x1), (3, .int x12), (4, .int u17), (5, .int u18)] [] (m0 :: q) (f_X8_fits_L34 k x1 m0 x12 t u17 u18) := by
  intro t
  induction t with
  | zero => intro u17 u18; exact K_none
  | succ t ih =>
    intro u17 u18
    rw [f_X8_fits_L34]
    refine K_iload 4 dX8_fits_34 rfl ?_
    refine K_aload_n 0 dX8_fits_36 rfl ?_
    refine K_get (v := .ref 6) dX8_fits_37 fl_X8_19 kl_0 rfl rfl ?_
    refine K_iconst (v := 4) dX8_fits_40 (by decide) ?_
    refine K_iald (f := m0 6) dX8_fits_41 kl_6 rfl ?_
    refine K_icmp_ge 144 dX8_fits_42 rfl (fun _ => ?_) (fun _ => ?_)
    · refine K_loc [0, 1, 2, 3, 4] (lv' := [(0, .ref 0), (1, .int x1), (3, .int x12), (4, .int u17), (5, .int u18)]) rfl ?_
      exact hk u17 u18
    · refine K_iload 3 dX8_fits_45 rfl ?_
      refine K_if_eq 144 dX8_fits_47 rfl (fun _ => ?_) (fun _ => ?_)
      · refine K_loc [0, 1, 2, 3, 4] (lv' := [(0, .ref 0), (1, .int x1), (3, .int x12), (4, .int u17), (5, .int u18)]) rfl ?_
        exact hk u17 u18
      · refine K_iload_n 2 dX8_fits_50 rfl ?_
        refine K_iload 4 dX8_fits_51 rfl ?_
        refine K_ishr dX8_fits_53 ?_
        refine K_iconst (v := 1) dX8_fits_54 (by decide) ?_
        refine K_iand dX8_fits_55 ?_
        refine K_iconst (v := 1) dX8_fits_56 (by decide) ?_
        refine K_icmp_ne 138 dX8_fits_57 rfl (fun _ => ?_) (fun _ => ?_)
        · refine K_iinc 4 (w := u18 + 1) (lv' := [(5, .int (u18 + 1)), (0, .ref 0), (1, .int x1), (3, .int x12), (4, .int u17)]) dX8_fits_138 rfl rfl (by decide) rfl ?_
          refine K_goto 34 dX8_fits_141 rfl ?_
          refine K_loc [1, 2, 3, 4, 0] (lv' := [(0, .ref 0), (1, .int x1), (3, .int x12), (4, .int u17), (5, .int (u18 + 1))]) rfl ?_
          exact ih u17 (u18 + 1)
        · refine K_iload 4 dX8_fits_60 rfl ?_
          refine K_aload_n 0 dX8_fits_62 rfl ?_
          refine K_iload_n 1 dX8_fits_63 rfl ?_
          refine K_iconst (v := 0) dX8_fits_64 (by decide) ?_
          refine K_callV (E' := e_X8_car0 m0 q) (b := 0) (As := [.int x1, .int 0]) (rest := [.int u18]) dX8_fits_65 ml_X8_229 (mf_X8_car0 1) mv_X8_car0 (fun hj r hr => c_X8_car0 hj m0 q x1 (0 : Int32) hr) (rcv_obj (q := (RX8, TX8, 37)) kl_0 rfl) rfl rfl (Nat.le_of_ble_eq_true rfl) (Nat.le_of_ble_eq_true rfl) (fun r19 => ?_)
          show K G (mi_X8_fits 3) (e_X8_fits m0 q) 68 [(0, .ref 0), (1, .int x1), (3, .int x12), (4, .int u17), (5, .int u18)] [.int r19, .int u18] (m0 :: q) _
          refine K_jn (fun j23 => ∀ a22 : Int32, K G (mi_X8_fits 3) (e_X8_fits m0 q) 94 [(0, .ref 0), (1, .int x1), (3, .int x12), (5, .int u18)] [.int a22] (m0 :: q) (j23 a22)) (fun a22 => ?_) (fun j23 hj23 => ?_)
          · refine K_istore (lv' := [(6, .int a22), (0, .ref 0), (1, .int x1), (3, .int x12), (5, .int u18)]) dX8_fits_94 (by decide) rfl ?_
            refine K_aload_n 1 dX8_fits_96 rfl ?_
            refine K_iload 4 dX8_fits_97 rfl ?_
            refine K_iconst (v := 3) dX8_fits_99 (by decide) ?_
            refine K_callV (E' := e_X8_of m0 q) (b := 0) (As := [.int u18, .int 3]) (rest := []) dX8_fits_100 ml_X8_237 (mf_X8_of 1) mv_X8_of (fun hj r hr => c_X8_of hj m0 q u18 (3 : Int32) hr) (rcv_obj (q := (RX8, TX8, 37)) kl_0 rfl) rfl rfl (Nat.le_of_ble_eq_true rfl) (Nat.le_of_ble_eq_true rfl) (fun r24 => ?_)
            show K G (mi_X8_fits 3) (e_X8_fits m0 q) 103 [(6, .int a22), (0, .ref 0), (1, .int x1), (3, .int x12), (5, .int u18)] [.int r24] (m0 :: q) _
            refine K_iload_n 3 dX8_fits_103 rfl ?_
            refine K_iand dX8_fits_104 ?_
            refine K_if_ne 135 dX8_fits_105 rfl (fun _ => ?_) (fun _ => ?_)
            · refine K_iconst (v := 0) dX8_fits_135 (by decide) ?_
              refine K_istore (lv' := [(4, .int 0), (6, .int a22), (0, .ref 0), (1, .int x1), (3, .int x12), (5, .int u18)]) dX8_fits_136 (by decide) rfl ?_
              refine K_iinc 5 (w := u18 + 1) (lv' := [(5, .int (u18 + 1)), (4, .int 0), (6, .int a22), (0, .ref 0), (1, .int x1), (3, .int x12)]) dX8_fits_138 rfl rfl (by decide) rfl ?_
              refine K_goto 34 dX8_fits_141 rfl ?_
              refine K_loc [3, 4, 5, 1, 0] (lv' := [(0, .ref 0), (1, .int x1), (3, .int x12), (4, .int 0), (5, .int (u18 + 1))]) rfl ?_
              exact ih 0 (u18 + 1)
            · refine K_iload 0 dX8_fits_108 rfl ?_
              refine K_if_ne 135 dX8_fits_110 rfl (fun _ => ?_) (fun _ => ?_)
              · refine K_iconst (v := 0) dX8_fits_135 (by decide) ?_
                refine K_istore (lv' := [(4, .int 0), (6, .int a22), (0, .ref 0), (1, .int x1), (3, .int x12), (5, .int u18)]) dX8_fits_136 (by decide) rfl ?_
                refine K_iinc 5 (w := u18 + 1) (lv' := [(5, .int (u18 + 1)), (4, .int 0), (6, .int a22), (0, .ref 0), (1, .int x1), (3, .int x12)]) dX8_fits_138 rfl rfl (by decide) rfl ?_
                refine K_goto 34 dX8_fits_141 rfl ?_
                refine K_loc [3, 4, 5, 1, 0] (lv' := [(0, .ref 0), (1, .int x1), (3, .int x12), (4, .int 0), (5, .int (u18 + 1))]) rfl ?_
                exact ih 0 (u18 + 1)
              · refine K_aload_n 1 dX8_fits_113 rfl ?_
                refine K_iconst (v := 0) dX8_fits_114 (by decide) ?_
                refine K_aload_n 1 dX8_fits_115 rfl ?_
                refine K_iload 4 dX8_fits_116 rfl ?_
                refine K_iconst (v := 1) dX8_fits_118 (by decide) ?_
                refine K_callV (E' := e_X8_of m0 q) (b := 0) (As := [.int u18, .int 1]) (rest := [.int 0, .ref 0]) dX8_fits_119 ml_X8_237 (mf_X8_of 1) mv_X8_of (fun hj r hr => c_X8_of hj m0 q u18 (1 : Int32) hr) (rcv_obj (q := (RX8, TX8, 37)) kl_0 rfl) rfl rfl (Nat.le_of_ble_eq_true rfl) (Nat.le_of_ble_eq_true rfl) (fun r25 => ?_)
                show K G (mi_X8_fits 3) (e_X8_fits m0 q) 122 [(6, .int a22), (0, .ref 0), (1, .int x1), (3, .int x12), (5, .int u18)] [.int r25, .int 0, .ref 0] (m0 :: q) _
                refine K_callV (E' := e_X8_farOf m0 q) (b := 0) (As := [.int 0, .int r25]) (rest := []) dX8_fits_122 ml_X8_249 (mf_X8_farOf 1) mv_X8_farOf (fun hj r hr => c_X8_farOf hj m0 q (0 : Int32) r25 hr) (rcv_obj (q := (RX8, TX8, 37)) kl_0 rfl) rfl rfl (Nat.le_of_ble_eq_true rfl) (Nat.le_of_ble_eq_true rfl) (fun r26 => ?_)
                show K G (mi_X8_fits 3) (e_X8_fits m0 q) 125 [(6, .int a22), (0, .ref 0), (1, .int x1), (3, .int x12), (5, .int u18)] [.int r26] (m0 :: q) _
                refine K_sipush (v := 10000) dX8_fits_125 (by decide) ?_
                refine K_icmp_ge 135 dX8_fits_128 rfl (fun _ => ?_) (fun _ => ?_)
                · refine K_iconst (v := 0) dX8_fits_135 (by decide) ?_
                  refine K_istore (lv' := [(4, .int 0), (6, .int a22), (0, .ref 0), (1, .int x1), (3, .int x12), (5, .int u18)]) dX8_fits_136 (by decide) rfl ?_
                  refine K_iinc 5 (w := u18 + 1) (lv' := [(5, .int (u18 + 1)), (4, .int 0), (6, .int a22), (0, .ref 0), (1, .int x1), (3, .int x12)]) dX8_fits_138 rfl rfl (by decide) rfl ?_
                  refine K_goto 34 dX8_fits_141 rfl ?_
                  refine K_loc [3, 4, 5, 1, 0] (lv' := [(0, .ref 0), (1, .int x1), (3, .int x12), (4, .int 0), (5, .int (u18 + 1))]) rfl ?_
                  exact ih 0 (u18 + 1)
                · refine K_iconst (v := 1) dX8_fits_131 (by decide) ?_
                  refine K_goto 136 dX8_fits_132 rfl ?_
                  refine K_istore (lv' := [(4, .int 1), (6, .int a22), (0, .ref 0), (1, .int x1), (3, .int x12), (5, .int u18)]) dX8_fits_136 (by decide) rfl ?_
                  refine K_iinc 5 (w := u18 + 1) (lv' := [(5, .int (u18 + 1)), (4, .int 1), (6, .int a22), (0, .ref 0), (1, .int x1), (3, .int x12)]) dX8_fits_138 rfl rfl (by decide) rfl ?_
                  refine K_goto 34 dX8_fits_141 rfl ?_
                  refine K_loc [3, 4, 5, 1, 0] (lv' := [(0, .ref 0), (1, .int x1), (3, .int x12), (4, .int 1), (5, .int (u18 + 1))]) rfl ?_
                  exact ih 1 (u18 + 1)
          · refine K_icmp_eq 93 dX8_fits_68 rfl (fun _ => ?_) (fun _ => ?_)
            · refine K_iconst (v := 0) dX8_fits_93 (by decide) ?_
              refine K_loc [0, 1, 2, 4] (lv' := [(0, .ref 0), (1, .int x1), (3, .int x12), (5, .int u18)]) rfl ?_
              exact hj23 0
            · refine K_aload_n 0 dX8_fits_71 rfl ?_
              refine K_iload 4 dX8_fits_72 rfl ?_
              refine K_callV (E' := e_X8_isOnHill m0 q) (b := 0) (As := [.int u18]) (rest := []) dX8_fits_74 ml_X8_265 (mf_X8_isOnHill 2) mv_X8_isOnHill (fun hj r hr => c_X8_isOnHill hj m0 q u18 hr) (rcv_obj (q := (RX8, TX8, 37)) kl_0 rfl) rfl rfl (Nat.le_of_ble_eq_true rfl) (Nat.le_of_ble_eq_true rfl) (fun r20 => ?_)
              show K G (mi_X8_fits 3) (e_X8_fits m0 q) 77 [(0, .ref 0), (1, .int x1), (3, .int x12), (4, .int u17), (5, .int u18)] [.int r20] (m0 :: q) _
              refine K_if_eq 93 dX8_fits_77 rfl (fun _ => ?_) (fun _ => ?_)
              · refine K_iconst (v := 0) dX8_fits_93 (by decide) ?_
                refine K_loc [0, 1, 2, 4] (lv' := [(0, .ref 0), (1, .int x1), (3, .int x12), (5, .int u18)]) rfl ?_
                exact hj23 0
              · refine K_aload_n 0 dX8_fits_80 rfl ?_
                refine K_iload_n 1 dX8_fits_81 rfl ?_
                refine K_iconst (v := 2) dX8_fits_82 (by decide) ?_
                refine K_callV (E' := e_X8_car0 m0 q) (b := 0) (As := [.int x1, .int 2]) (rest := []) dX8_fits_83 ml_X8_229 (mf_X8_car0 1) mv_X8_car0 (fun hj r hr => c_X8_car0 hj m0 q x1 (2 : Int32) hr) (rcv_obj (q := (RX8, TX8, 37)) kl_0 rfl) rfl rfl (Nat.le_of_ble_eq_true rfl) (Nat.le_of_ble_eq_true rfl) (fun r21 => ?_)
                show K G (mi_X8_fits 3) (e_X8_fits m0 q) 86 [(0, .ref 0), (1, .int x1), (3, .int x12), (4, .int u17), (5, .int u18)] [.int r21] (m0 :: q) _
                refine K_if_ne 93 dX8_fits_86 rfl (fun _ => ?_) (fun _ => ?_)
                · refine K_iconst (v := 0) dX8_fits_93 (by decide) ?_
                  refine K_loc [0, 1, 2, 4] (lv' := [(0, .ref 0), (1, .int x1), (3, .int x12), (5, .int u18)]) rfl ?_
                  exact hj23 0
                · refine K_iconst (v := 1) dX8_fits_89 (by decide) ?_
                  refine K_goto 94 dX8_fits_90 rfl ?_
                  refine K_loc [0, 1, 2, 4] (lv' := [(0, .ref 0), (1, .int x1), (3, .int x12), (5, .int u18)]) rfl ?_
                  exact hj23 1
theorem k_X8_fits {G : GE} (m0 : Mem) (q : List Mem) (x1 : Int32) (x2 : Int32) : K G (mi_X8_fits 3) (e_X8_fits m0 q) 0 [(0, .ref 0), (1, .int x1), (2, .int x2)] [] (m0 :: q) (f_X8_fits m0 x1 x2) := by
  unfold f_X8_fits
  refine K_iload_n 2 dX8_fits_0 rfl ?_
  refine K_iconst (v := 1) dX8_fits_1 (by decide) ?_
  refine K_aload_n 0 dX8_fits_2 rfl ?_
  refine K_iload_n 1 dX8_fits_3 rfl ?_
  refine K_iconst (v := 0) dX8_fits_4 (by decide) ?_
  refine K_callV (E' := e_X8_car0 m0 q) (b := 0) (As := [.int x1, .int 0]) (rest := [.int 1, .int x2]) dX8_fits_5 ml_X8_229 (mf_X8_car0 1) mv_X8_car0 (fun hj r hr => c_X8_car0 hj m0 q x1 (0 : Int32) hr) (rcv_obj (q := (RX8, TX8, 37)) kl_0 rfl) rfl rfl (Nat.le_of_ble_eq_true rfl) (Nat.le_of_ble_eq_true rfl) (fun r11 => ?_)
  show K G (mi_X8_fits 3) (e_X8_fits m0 q) 8 [(0, .ref 0), (1, .int x1), (2, .int x2)] [.int r11, .int 1, .int x2] (m0 :: q) _
  refine K_ishl dX8_fits_8 ?_
  refine K_ior dX8_fits_9 ?_
  refine K_nmi (fun x12 => ?_)
  refine K_istore_n (lv' := [(3, .int x12), (0, .ref 0), (1, .int x1), (2, .int x2)]) dX8_fits_10 (by decide) rfl ?_
  refine K_iload_n 3 dX8_fits_11 rfl ?_
  refine K_callS (E' := e_X8_bits (m0 :: q)) (As := [.int x2]) (rest := []) dX8_fits_12 ml_X8_275 (mf_X8_bits 1) ms_X8_bits (fun hj r hr => c_X8_bits hj (m0 :: q) x2 hr) rfl rfl (Nat.le_of_ble_eq_true rfl) (Nat.le_of_ble_eq_true rfl) (fun r13 => ?_)
  show K G (mi_X8_fits 3) (e_X8_fits m0 q) 15 [(3, .int x12), (0, .ref 0), (1, .int x1), (2, .int x2)] [.int r13] (m0 :: q) _
  refine K_aload_n 1 dX8_fits_15 rfl ?_
  refine K_iload_n 2 dX8_fits_16 rfl ?_
  refine K_iconst (v := 1) dX8_fits_17 (by decide) ?_
  refine K_callV (E' := e_X8_car0 m0 q) (b := 0) (As := [.int x1, .int 1]) (rest := [.int r13]) dX8_fits_18 ml_X8_229 (mf_X8_car0 1) mv_X8_car0 (fun hj r hr => c_X8_car0 hj m0 q x1 (1 : Int32) hr) (rcv_obj (q := (RX8, TX8, 37)) kl_0 rfl) rfl rfl (Nat.le_of_ble_eq_true rfl) (Nat.le_of_ble_eq_true rfl) (fun r14 => ?_)
  show K G (mi_X8_fits 3) (e_X8_fits m0 q) 21 [(3, .int x12), (0, .ref 0), (1, .int x1), (2, .int x2)] [.int r14, .int r13] (m0 :: q) _
  refine K_pick (fun j16 => (if r14 < r13 then (j16 0) else (j16 1))) (fun j16 => ∀ a15 : Int32, K G (mi_X8_fits 3) (e_X8_fits m0 q) 29 [(0, .ref 0), (1, .int x1), (3, .int x12)] [.int a15] (m0 :: q) (j16 a15)) (fun j16 => by simp only [apply_ite j16]) (fun a15 => ?_) (fun j16 hj16 => ?_)
  · refine K_istore (lv' := [(4, .int a15), (0, .ref 0), (1, .int x1), (3, .int x12)]) dX8_fits_29 (by decide) rfl ?_
    refine K_iconst (v := 0) dX8_fits_31 (by decide) ?_
    refine K_istore (lv' := [(5, .int 0), (4, .int a15), (0, .ref 0), (1, .int x1), (3, .int x12)]) dX8_fits_32 (by decide) rfl ?_
    refine K_loc [2, 3, 4, 1, 0] (lv' := [(0, .ref 0), (1, .int x1), (3, .int x12), (4, .int a15), (5, .int 0)]) rfl ?_
    refine k_X8_fits_L34  m0 q x1 x12 _ (fun u27 u28 => ?_) 100000 a15 0
    refine K_iload 3 dX8_fits_144 rfl ?_
    exact K_retB dX8_fits_146 rfl rfl
  · refine K_icmp_gt 28 dX8_fits_21 rfl (fun _ => ?_) (fun _ => ?_)
    · refine K_iconst (v := 0) dX8_fits_28 (by decide) ?_
      refine K_loc [1, 2, 0] (lv' := [(0, .ref 0), (1, .int x1), (3, .int x12)]) rfl ?_
      exact hj16 0
    · refine K_iconst (v := 1) dX8_fits_24 (by decide) ?_
      refine K_goto 29 dX8_fits_25 rfl ?_
      refine K_loc [1, 2, 0] (lv' := [(0, .ref 0), (1, .int x1), (3, .int x12)]) rfl ?_
      exact hj16 1
theorem c_X8_fits {G : GE} (hj : dj G) (m0 : Mem) (q : List Mem) (x1 : Int32) (x2 : Int32) {r : Int32} (hr : f_X8_fits m0 x1 x2 = some r) : Ctr G yX8_fits (mi_X8_fits 3) [.ref 0, .int x1, .int x2] (m0 :: q) ((e_X8_fits m0 q) r).1 ((e_X8_fits m0 q) r).2 := Ctr_of hj (by decide) rfl hr rfl (Nat.le_of_ble_eq_true rfl) (k_X8_fits m0 q x1 x2)
abbrev e_X8_layTried (m0 : Mem) (q : List Mem) : (Int32 × Mem) → Option Value × List Mem := fun r => (some (.int r.1), (r.2 :: q))
theorem k_X8_layTried_L10 {G : GE} (m0 : Mem) (q : List Mem) (x2 : Int32) (k : Int32 → Int32 → Int32 → Mem → Option (Int32 × Mem)) (hk : ∀ (u12 : Int32) (u13 : Int32) (u14 : Int32) (w15 : Mem), K G (mi_X8_layTried 1) (e_X8_layTried m0 q) 50 [(0, .ref 0), (2, .int x2), (3, .int u12), (4, .int u13), (5, .int u14)] [] (w15 :: q) (k u12 u13 u14 w15)) : ∀ (t : Nat) (u12 : Int32) (u13 : Int32) (u14 : Int32) (w15 : Mem), K G (mi_X8_layTried 1) (e_X8_layTried m0 q) 10 [(0, .ref 0), (2, .int x2), (3, .int u12), (4, .int u13), (5, .int u14)] [] (w15 :: q) (f_X8_layTried_L10 k x2 t u12 u13 u14 w15) := by
  intro t
  induction t with
  | zero => intro u12 u13 u14 w15; exact K_none
  | succ t ih =>
    intro u12 u13 u14 w15
    rw [f_X8_layTried_L10]
    refine K_iload 4 dX8_layTried_10 rfl ?_
    refine K_if_lt 50 dX8_layTried_12 rfl (fun _ => ?_) (fun _ => ?_)
    · refine K_loc [0, 1, 2, 3, 4] (lv' := [(0, .ref 0), (2, .int x2), (3, .int u12), (4, .int u13), (5, .int u14)]) rfl ?_
      exact hk u12 u13 u14 w15
    · refine K_iload 3 dX8_layTried_15 rfl ?_
      refine K_iconst (v := 1) dX8_layTried_17 (by decide) ?_
      refine K_iload_n 2 dX8_layTried_18 rfl ?_
      refine K_iload_n 1 dX8_layTried_19 rfl ?_
      refine K_irem dX8_layTried_20 ?_
      refine K_ishl dX8_layTried_21 ?_
      refine K_ior dX8_layTried_22 ?_
      refine K_nmi (fun x16 => ?_)
      refine K_istore (lv' := [(4, .int x16), (0, .ref 0), (2, .int x2), (3, .int u12), (5, .int u14)]) dX8_layTried_23 (by decide) rfl ?_
      refine K_aload_n 1 dX8_layTried_25 rfl ?_
      refine K_get (v := .ref 24) dX8_layTried_26 fl_X8_40 kl_0 rfl rfl ?_
      refine K_iload 4 dX8_layTried_29 rfl ?_
      refine K_aload_n 1 dX8_layTried_31 rfl ?_
      refine K_get (v := .ref 23) dX8_layTried_32 fl_X8_37 kl_0 rfl rfl ?_
      refine K_iload_n 3 dX8_layTried_35 rfl ?_
      refine K_iload_n 2 dX8_layTried_36 rfl ?_
      refine K_irem dX8_layTried_37 ?_
      refine K_iald (f := w15 23) dX8_layTried_38 kl_23 rfl ?_
      refine K_iast (Ms' := ((up w15 24 u14.toNatClampNeg (w15 23 (u12 - u12 / x2 * x2).toNatClampNeg)) :: q)) dX8_layTried_39 kl_24 (Nat.succ_pos _) rfl ?_
      refine K_nmm (fun w => (w :: q)) rfl (fun w17 => ?_)
      refine K_iload_n 3 dX8_layTried_40 rfl ?_
      refine K_iload_n 2 dX8_layTried_41 rfl ?_
      refine K_idiv dX8_layTried_42 ?_
      refine K_nmi (fun x18 => ?_)
      refine K_istore_n (lv' := [(3, .int x18), (4, .int x16), (0, .ref 0), (2, .int x2), (5, .int u14)]) dX8_layTried_43 (by decide) rfl ?_
      refine K_iinc 4 (w := u14 + (-1)) (lv' := [(5, .int (u14 + (-1))), (3, .int x18), (4, .int x16), (0, .ref 0), (2, .int x2)]) dX8_layTried_44 rfl rfl (by decide) rfl ?_
      refine K_goto 10 dX8_layTried_47 rfl ?_
      refine K_loc [3, 4, 1, 2, 0] (lv' := [(0, .ref 0), (2, .int x2), (3, .int x18), (4, .int x16), (5, .int (u14 + (-1)))]) rfl ?_
      exact ih x18 x16 (u14 + (-1)) w17
theorem k_X8_layTried {G : GE} (m0 : Mem) (q : List Mem) (x1 : Int32) (x2 : Int32) : K G (mi_X8_layTried 1) (e_X8_layTried m0 q) 0 [(0, .ref 0), (1, .int x1), (2, .int x2)] [] (m0 :: q) (f_X8_layTried m0 x1 x2) := by
  unfold f_X8_layTried
  refine K_iload_n 1 dX8_layTried_0 rfl ?_
  refine K_istore_n (lv' := [(3, .int x1), (0, .ref 0), (1, .int x1), (2, .int x2)]) dX8_layTried_1 (by decide) rfl ?_
  refine K_iconst (v := 0) dX8_layTried_2 (by decide) ?_
  refine K_istore (lv' := [(4, .int 0), (3, .int x1), (0, .ref 0), (1, .int x1), (2, .int x2)]) dX8_layTried_3 (by decide) rfl ?_
  refine K_iload_n 4 dX8_layTried_5 rfl ?_
  refine K_iconst (v := 1) dX8_layTried_6 (by decide) ?_
  refine K_isub dX8_layTried_7 ?_
  refine K_nmi (fun x11 => ?_)
  refine K_istore (lv' := [(5, .int x11), (4, .int 0), (3, .int x1), (0, .ref 0), (1, .int x1), (2, .int x2)]) dX8_layTried_8 (by decide) rfl ?_
  refine K_loc [3, 5, 2, 1, 0] (lv' := [(0, .ref 0), (2, .int x2), (3, .int x1), (4, .int 0), (5, .int x11)]) rfl ?_
  refine k_X8_layTried_L10  m0 q x2 _ (fun u19 u20 u21 w22 => ?_) 100000 x1 0 x11 m0
  refine K_iload 3 dX8_layTried_50 rfl ?_
  refine K_iconst (v := 1) dX8_layTried_52 (by decide) ?_
  refine K_iload_n 1 dX8_layTried_53 rfl ?_
  refine K_ishl dX8_layTried_54 ?_
  refine K_iconst (v := 1) dX8_layTried_55 (by decide) ?_
  refine K_isub dX8_layTried_56 ?_
  refine K_icmp_ne 64 dX8_layTried_57 rfl (fun _ => ?_) (fun _ => ?_)
  · refine K_iconst (v := 0) dX8_layTried_64 (by decide) ?_
    exact K_ret (rv := some (.int 0)) dX8_layTried_65 rfl rfl rfl
  · refine K_iconst (v := 1) dX8_layTried_60 (by decide) ?_
    refine K_goto 65 dX8_layTried_61 rfl ?_
    exact K_ret (rv := some (.int 1)) dX8_layTried_65 rfl rfl rfl
theorem c_X8_layTried {G : GE} (hj : dj G) (m0 : Mem) (q : List Mem) (x1 : Int32) (x2 : Int32) {r : Int32 × Mem} (hr : f_X8_layTried m0 x1 x2 = some r) : Ctr G yX8_layTried (mi_X8_layTried 1) [.ref 0, .int x1, .int x2] (m0 :: q) ((e_X8_layTried m0 q) r).1 ((e_X8_layTried m0 q) r).2 := Ctr_of hj (by decide) rfl hr rfl (Nat.le_of_ble_eq_true rfl) (k_X8_layTried m0 q x1 x2)
abbrev e_X8_minutesBy (m0 : Mem) (q : List Mem) : Int32 → Option Value × List Mem := fun r => (some (.int r), (m0 :: q))
theorem k_X8_minutesBy_L8 {G : GE} (m0 : Mem) (q : List Mem) (x2 : Int32) (x1 : Int32) (k : Int32 → Int32 → Int32 → Option (Int32)) (hk : ∀ (u11 : Int32) (u12 : Int32) (u13 : Int32), K G (mi_X8_minutesBy 2) (e_X8_minutesBy m0 q) 98 [(0, .ref 0), (1, .int x1), (2, .int x2), (3, .int u11), (4, .int u12), (5, .int u13)] [] (m0 :: q) (k u11 u12 u13)) : ∀ (t : Nat) (u11 : Int32) (u12 : Int32) (u13 : Int32), K G (mi_X8_minutesBy 2) (e_X8_minutesBy m0 q) 8 [(0, .ref 0), (1, .int x1), (2, .int x2), (3, .int u11), (4, .int u12), (5, .int u13)] [] (m0 :: q) (f_X8_minutesBy_L8 k x2 m0 t u11 u12 u13) := by
  intro t
  induction t with
  | zero => intro u11 u12 u13; exact K_none
  | succ t ih =>
    intro u11 u12 u13
    rw [f_X8_minutesBy_L8]
    refine K_iload 5 dX8_minutesBy_8 rfl ?_
    refine K_iload_n 2 dX8_minutesBy_10 rfl ?_
    refine K_icmp_ge 98 dX8_minutesBy_11 rfl (fun _ => ?_) (fun _ => ?_)
    · refine K_loc [0, 1, 2, 3, 4, 5] (lv' := [(0, .ref 0), (1, .int x1), (2, .int x2), (3, .int u11), (4, .int u12), (5, .int u13)]) rfl ?_
      exact hk u11 u12 u13
    · refine K_iload 5 dX8_minutesBy_14 rfl ?_
      refine K_if_le 57 dX8_minutesBy_16 rfl (fun _ => ?_) (fun _ => ?_)
      · refine K_iload 4 dX8_minutesBy_57 rfl ?_
        refine K_aload_n 0 dX8_minutesBy_59 rfl ?_
        refine K_iload_n 3 dX8_minutesBy_60 rfl ?_
        refine K_aload_n 0 dX8_minutesBy_61 rfl ?_
        refine K_aload_n 0 dX8_minutesBy_62 rfl ?_
        refine K_get (v := .ref 24) dX8_minutesBy_63 fl_X8_40 kl_0 rfl rfl ?_
        refine K_iload 5 dX8_minutesBy_66 rfl ?_
        refine K_iald (f := m0 24) dX8_minutesBy_68 kl_24 rfl ?_
        refine K_iconst (v := 1) dX8_minutesBy_69 (by decide) ?_
        refine K_callV (E' := e_X8_of m0 q) (b := 0) (As := [.int (m0 24 u13.toNatClampNeg), .int 1]) (rest := [.int u11, .ref 0, .int u12]) dX8_minutesBy_70 ml_X8_237 (mf_X8_of 1) mv_X8_of (fun hj r hr => c_X8_of hj m0 q (m0 24 u13.toNatClampNeg) (1 : Int32) hr) (rcv_obj (q := (RX8, TX8, 37)) kl_0 rfl) rfl rfl (Nat.le_of_ble_eq_true rfl) (Nat.le_of_ble_eq_true rfl) (fun r14 => ?_)
        show K G (mi_X8_minutesBy 2) (e_X8_minutesBy m0 q) 73 [(0, .ref 0), (1, .int x1), (2, .int x2), (3, .int u11), (4, .int u12), (5, .int u13)] [.int r14, .int u11, .ref 0, .int u12] (m0 :: q) _
        refine K_callV (E' := e_X8_farOf m0 q) (b := 0) (As := [.int u11, .int r14]) (rest := [.int u12]) dX8_minutesBy_73 ml_X8_249 (mf_X8_farOf 1) mv_X8_farOf (fun hj r hr => c_X8_farOf hj m0 q u11 r14 hr) (rcv_obj (q := (RX8, TX8, 37)) kl_0 rfl) rfl rfl (Nat.le_of_ble_eq_true rfl) (Nat.le_of_ble_eq_true rfl) (fun r15 => ?_)
        show K G (mi_X8_minutesBy 2) (e_X8_minutesBy m0 q) 76 [(0, .ref 0), (1, .int x1), (2, .int x2), (3, .int u11), (4, .int u12), (5, .int u13)] [.int r15, .int u12] (m0 :: q) _
        refine K_iadd dX8_minutesBy_76 ?_
        refine K_nmi (fun x16 => ?_)
        refine K_istore (lv' := [(4, .int x16), (0, .ref 0), (1, .int x1), (2, .int x2), (3, .int u11), (5, .int u13)]) dX8_minutesBy_77 (by decide) rfl ?_
        refine K_aload_n 1 dX8_minutesBy_79 rfl ?_
        refine K_aload_n 1 dX8_minutesBy_80 rfl ?_
        refine K_get (v := .ref 24) dX8_minutesBy_81 fl_X8_40 kl_0 rfl rfl ?_
        refine K_iload 5 dX8_minutesBy_84 rfl ?_
        refine K_iald (f := m0 24) dX8_minutesBy_86 kl_24 rfl ?_
        refine K_iconst (v := 1) dX8_minutesBy_87 (by decide) ?_
        refine K_callV (E' := e_X8_of m0 q) (b := 0) (As := [.int (m0 24 u13.toNatClampNeg), .int 1]) (rest := []) dX8_minutesBy_88 ml_X8_237 (mf_X8_of 1) mv_X8_of (fun hj r hr => c_X8_of hj m0 q (m0 24 u13.toNatClampNeg) (1 : Int32) hr) (rcv_obj (q := (RX8, TX8, 37)) kl_0 rfl) rfl rfl (Nat.le_of_ble_eq_true rfl) (Nat.le_of_ble_eq_true rfl) (fun r17 => ?_)
        show K G (mi_X8_minutesBy 2) (e_X8_minutesBy m0 q) 91 [(4, .int x16), (0, .ref 0), (1, .int x1), (2, .int x2), (3, .int u11), (5, .int u13)] [.int r17] (m0 :: q) _
        refine K_istore_n (lv' := [(3, .int r17), (4, .int x16), (0, .ref 0), (1, .int x1), (2, .int x2), (5, .int u13)]) dX8_minutesBy_91 (by decide) rfl ?_
        refine K_iinc 5 (w := u13 + 1) (lv' := [(5, .int (u13 + 1)), (3, .int r17), (4, .int x16), (0, .ref 0), (1, .int x1), (2, .int x2)]) dX8_minutesBy_92 rfl rfl (by decide) rfl ?_
        refine K_goto 8 dX8_minutesBy_95 rfl ?_
        refine K_loc [3, 4, 5, 1, 2, 0] (lv' := [(0, .ref 0), (1, .int x1), (2, .int x2), (3, .int r17), (4, .int x16), (5, .int (u13 + 1))]) rfl ?_
        exact ih r17 x16 (u13 + 1)
      · refine K_aload_n 0 dX8_minutesBy_19 rfl ?_
        refine K_aload_n 0 dX8_minutesBy_20 rfl ?_
        refine K_get (v := .ref 24) dX8_minutesBy_21 fl_X8_40 kl_0 rfl rfl ?_
        refine K_iload 5 dX8_minutesBy_24 rfl ?_
        refine K_iald (f := m0 24) dX8_minutesBy_26 kl_24 rfl ?_
        refine K_iconst (v := 0) dX8_minutesBy_27 (by decide) ?_
        refine K_callV (E' := e_X8_of m0 q) (b := 0) (As := [.int (m0 24 u13.toNatClampNeg), .int 0]) (rest := []) dX8_minutesBy_28 ml_X8_237 (mf_X8_of 1) mv_X8_of (fun hj r hr => c_X8_of hj m0 q (m0 24 u13.toNatClampNeg) (0 : Int32) hr) (rcv_obj (q := (RX8, TX8, 37)) kl_0 rfl) rfl rfl (Nat.le_of_ble_eq_true rfl) (Nat.le_of_ble_eq_true rfl) (fun r18 => ?_)
        show K G (mi_X8_minutesBy 2) (e_X8_minutesBy m0 q) 31 [(0, .ref 0), (1, .int x1), (2, .int x2), (3, .int u11), (4, .int u12), (5, .int u13)] [.int r18] (m0 :: q) _
        refine K_iconst (v := 4) dX8_minutesBy_31 (by decide) ?_
        refine K_icmp_lt 57 dX8_minutesBy_32 rfl (fun _ => ?_) (fun _ => ?_)
        · refine K_iload 4 dX8_minutesBy_57 rfl ?_
          refine K_aload_n 0 dX8_minutesBy_59 rfl ?_
          refine K_iload_n 3 dX8_minutesBy_60 rfl ?_
          refine K_aload_n 0 dX8_minutesBy_61 rfl ?_
          refine K_aload_n 0 dX8_minutesBy_62 rfl ?_
          refine K_get (v := .ref 24) dX8_minutesBy_63 fl_X8_40 kl_0 rfl rfl ?_
          refine K_iload 5 dX8_minutesBy_66 rfl ?_
          refine K_iald (f := m0 24) dX8_minutesBy_68 kl_24 rfl ?_
          refine K_iconst (v := 1) dX8_minutesBy_69 (by decide) ?_
          refine K_callV (E' := e_X8_of m0 q) (b := 0) (As := [.int (m0 24 u13.toNatClampNeg), .int 1]) (rest := [.int u11, .ref 0, .int u12]) dX8_minutesBy_70 ml_X8_237 (mf_X8_of 1) mv_X8_of (fun hj r hr => c_X8_of hj m0 q (m0 24 u13.toNatClampNeg) (1 : Int32) hr) (rcv_obj (q := (RX8, TX8, 37)) kl_0 rfl) rfl rfl (Nat.le_of_ble_eq_true rfl) (Nat.le_of_ble_eq_true rfl) (fun r19 => ?_)
          show K G (mi_X8_minutesBy 2) (e_X8_minutesBy m0 q) 73 [(0, .ref 0), (1, .int x1), (2, .int x2), (3, .int u11), (4, .int u12), (5, .int u13)] [.int r19, .int u11, .ref 0, .int u12] (m0 :: q) _
          refine K_callV (E' := e_X8_farOf m0 q) (b := 0) (As := [.int u11, .int r19]) (rest := [.int u12]) dX8_minutesBy_73 ml_X8_249 (mf_X8_farOf 1) mv_X8_farOf (fun hj r hr => c_X8_farOf hj m0 q u11 r19 hr) (rcv_obj (q := (RX8, TX8, 37)) kl_0 rfl) rfl rfl (Nat.le_of_ble_eq_true rfl) (Nat.le_of_ble_eq_true rfl) (fun r20 => ?_)
          show K G (mi_X8_minutesBy 2) (e_X8_minutesBy m0 q) 76 [(0, .ref 0), (1, .int x1), (2, .int x2), (3, .int u11), (4, .int u12), (5, .int u13)] [.int r20, .int u12] (m0 :: q) _
          refine K_iadd dX8_minutesBy_76 ?_
          refine K_nmi (fun x21 => ?_)
          refine K_istore (lv' := [(4, .int x21), (0, .ref 0), (1, .int x1), (2, .int x2), (3, .int u11), (5, .int u13)]) dX8_minutesBy_77 (by decide) rfl ?_
          refine K_aload_n 1 dX8_minutesBy_79 rfl ?_
          refine K_aload_n 1 dX8_minutesBy_80 rfl ?_
          refine K_get (v := .ref 24) dX8_minutesBy_81 fl_X8_40 kl_0 rfl rfl ?_
          refine K_iload 5 dX8_minutesBy_84 rfl ?_
          refine K_iald (f := m0 24) dX8_minutesBy_86 kl_24 rfl ?_
          refine K_iconst (v := 1) dX8_minutesBy_87 (by decide) ?_
          refine K_callV (E' := e_X8_of m0 q) (b := 0) (As := [.int (m0 24 u13.toNatClampNeg), .int 1]) (rest := []) dX8_minutesBy_88 ml_X8_237 (mf_X8_of 1) mv_X8_of (fun hj r hr => c_X8_of hj m0 q (m0 24 u13.toNatClampNeg) (1 : Int32) hr) (rcv_obj (q := (RX8, TX8, 37)) kl_0 rfl) rfl rfl (Nat.le_of_ble_eq_true rfl) (Nat.le_of_ble_eq_true rfl) (fun r22 => ?_)
          show K G (mi_X8_minutesBy 2) (e_X8_minutesBy m0 q) 91 [(4, .int x21), (0, .ref 0), (1, .int x1), (2, .int x2), (3, .int u11), (5, .int u13)] [.int r22] (m0 :: q) _
          refine K_istore_n (lv' := [(3, .int r22), (4, .int x21), (0, .ref 0), (1, .int x1), (2, .int x2), (5, .int u13)]) dX8_minutesBy_91 (by decide) rfl ?_
          refine K_iinc 5 (w := u13 + 1) (lv' := [(5, .int (u13 + 1)), (3, .int r22), (4, .int x21), (0, .ref 0), (1, .int x1), (2, .int x2)]) dX8_minutesBy_92 rfl rfl (by decide) rfl ?_
          refine K_goto 8 dX8_minutesBy_95 rfl ?_
          refine K_loc [3, 4, 5, 1, 2, 0] (lv' := [(0, .ref 0), (1, .int x1), (2, .int x2), (3, .int r22), (4, .int x21), (5, .int (u13 + 1))]) rfl ?_
          exact ih r22 x21 (u13 + 1)
        · refine K_aload_n 0 dX8_minutesBy_35 rfl ?_
          refine K_aload_n 0 dX8_minutesBy_36 rfl ?_
          refine K_get (v := .ref 24) dX8_minutesBy_37 fl_X8_40 kl_0 rfl rfl ?_
          refine K_iload 5 dX8_minutesBy_40 rfl ?_
          refine K_iconst (v := 1) dX8_minutesBy_42 (by decide) ?_
          refine K_isub dX8_minutesBy_43 ?_
          refine K_iald (f := m0 24) dX8_minutesBy_44 kl_24 rfl ?_
          refine K_iconst (v := 0) dX8_minutesBy_45 (by decide) ?_
          refine K_callV (E' := e_X8_of m0 q) (b := 0) (As := [.int (m0 24 (u13 - 1).toNatClampNeg), .int 0]) (rest := []) dX8_minutesBy_46 ml_X8_237 (mf_X8_of 1) mv_X8_of (fun hj r hr => c_X8_of hj m0 q (m0 24 (u13 - 1).toNatClampNeg) (0 : Int32) hr) (rcv_obj (q := (RX8, TX8, 37)) kl_0 rfl) rfl rfl (Nat.le_of_ble_eq_true rfl) (Nat.le_of_ble_eq_true rfl) (fun r23 => ?_)
          show K G (mi_X8_minutesBy 2) (e_X8_minutesBy m0 q) 49 [(0, .ref 0), (1, .int x1), (2, .int x2), (3, .int u11), (4, .int u12), (5, .int u13)] [.int r23] (m0 :: q) _
          refine K_iconst (v := 4) dX8_minutesBy_49 (by decide) ?_
          refine K_icmp_ge 57 dX8_minutesBy_50 rfl (fun _ => ?_) (fun _ => ?_)
          · refine K_iload 4 dX8_minutesBy_57 rfl ?_
            refine K_aload_n 0 dX8_minutesBy_59 rfl ?_
            refine K_iload_n 3 dX8_minutesBy_60 rfl ?_
            refine K_aload_n 0 dX8_minutesBy_61 rfl ?_
            refine K_aload_n 0 dX8_minutesBy_62 rfl ?_
            refine K_get (v := .ref 24) dX8_minutesBy_63 fl_X8_40 kl_0 rfl rfl ?_
            refine K_iload 5 dX8_minutesBy_66 rfl ?_
            refine K_iald (f := m0 24) dX8_minutesBy_68 kl_24 rfl ?_
            refine K_iconst (v := 1) dX8_minutesBy_69 (by decide) ?_
            refine K_callV (E' := e_X8_of m0 q) (b := 0) (As := [.int (m0 24 u13.toNatClampNeg), .int 1]) (rest := [.int u11, .ref 0, .int u12]) dX8_minutesBy_70 ml_X8_237 (mf_X8_of 1) mv_X8_of (fun hj r hr => c_X8_of hj m0 q (m0 24 u13.toNatClampNeg) (1 : Int32) hr) (rcv_obj (q := (RX8, TX8, 37)) kl_0 rfl) rfl rfl (Nat.le_of_ble_eq_true rfl) (Nat.le_of_ble_eq_true rfl) (fun r24 => ?_)
            show K G (mi_X8_minutesBy 2) (e_X8_minutesBy m0 q) 73 [(0, .ref 0), (1, .int x1), (2, .int x2), (3, .int u11), (4, .int u12), (5, .int u13)] [.int r24, .int u11, .ref 0, .int u12] (m0 :: q) _
            refine K_callV (E' := e_X8_farOf m0 q) (b := 0) (As := [.int u11, .int r24]) (rest := [.int u12]) dX8_minutesBy_73 ml_X8_249 (mf_X8_farOf 1) mv_X8_farOf (fun hj r hr => c_X8_farOf hj m0 q u11 r24 hr) (rcv_obj (q := (RX8, TX8, 37)) kl_0 rfl) rfl rfl (Nat.le_of_ble_eq_true rfl) (Nat.le_of_ble_eq_true rfl) (fun r25 => ?_)
            show K G (mi_X8_minutesBy 2) (e_X8_minutesBy m0 q) 76 [(0, .ref 0), (1, .int x1), (2, .int x2), (3, .int u11), (4, .int u12), (5, .int u13)] [.int r25, .int u12] (m0 :: q) _
            refine K_iadd dX8_minutesBy_76 ?_
            refine K_nmi (fun x26 => ?_)
            refine K_istore (lv' := [(4, .int x26), (0, .ref 0), (1, .int x1), (2, .int x2), (3, .int u11), (5, .int u13)]) dX8_minutesBy_77 (by decide) rfl ?_
            refine K_aload_n 1 dX8_minutesBy_79 rfl ?_
            refine K_aload_n 1 dX8_minutesBy_80 rfl ?_
            refine K_get (v := .ref 24) dX8_minutesBy_81 fl_X8_40 kl_0 rfl rfl ?_
            refine K_iload 5 dX8_minutesBy_84 rfl ?_
            refine K_iald (f := m0 24) dX8_minutesBy_86 kl_24 rfl ?_
            refine K_iconst (v := 1) dX8_minutesBy_87 (by decide) ?_
            refine K_callV (E' := e_X8_of m0 q) (b := 0) (As := [.int (m0 24 u13.toNatClampNeg), .int 1]) (rest := []) dX8_minutesBy_88 ml_X8_237 (mf_X8_of 1) mv_X8_of (fun hj r hr => c_X8_of hj m0 q (m0 24 u13.toNatClampNeg) (1 : Int32) hr) (rcv_obj (q := (RX8, TX8, 37)) kl_0 rfl) rfl rfl (Nat.le_of_ble_eq_true rfl) (Nat.le_of_ble_eq_true rfl) (fun r27 => ?_)
            show K G (mi_X8_minutesBy 2) (e_X8_minutesBy m0 q) 91 [(4, .int x26), (0, .ref 0), (1, .int x1), (2, .int x2), (3, .int u11), (5, .int u13)] [.int r27] (m0 :: q) _
            refine K_istore_n (lv' := [(3, .int r27), (4, .int x26), (0, .ref 0), (1, .int x1), (2, .int x2), (5, .int u13)]) dX8_minutesBy_91 (by decide) rfl ?_
            refine K_iinc 5 (w := u13 + 1) (lv' := [(5, .int (u13 + 1)), (3, .int r27), (4, .int x26), (0, .ref 0), (1, .int x1), (2, .int x2)]) dX8_minutesBy_92 rfl rfl (by decide) rfl ?_
            refine K_goto 8 dX8_minutesBy_95 rfl ?_
            refine K_loc [3, 4, 5, 1, 2, 0] (lv' := [(0, .ref 0), (1, .int x1), (2, .int x2), (3, .int r27), (4, .int x26), (5, .int (u13 + 1))]) rfl ?_
            exact ih r27 x26 (u13 + 1)
          · refine K_sipush (v := 10000) dX8_minutesBy_53 (by decide) ?_
            exact K_ret (rv := some (.int 10000)) dX8_minutesBy_56 rfl rfl rfl
theorem k_X8_minutesBy {G : GE} (m0 : Mem) (q : List Mem) (x1 : Int32) (x2 : Int32) : K G (mi_X8_minutesBy 2) (e_X8_minutesBy m0 q) 0 [(0, .ref 0), (1, .int x1), (2, .int x2)] [] (m0 :: q) (f_X8_minutesBy m0 x1 x2) := by
  unfold f_X8_minutesBy
  refine K_iconst (v := 0) dX8_minutesBy_0 (by decide) ?_
  refine K_istore_n (lv' := [(3, .int 0), (0, .ref 0), (1, .int x1), (2, .int x2)]) dX8_minutesBy_1 (by decide) rfl ?_
  refine K_iconst (v := 0) dX8_minutesBy_2 (by decide) ?_
  refine K_istore (lv' := [(4, .int 0), (3, .int 0), (0, .ref 0), (1, .int x1), (2, .int x2)]) dX8_minutesBy_3 (by decide) rfl ?_
  refine K_iconst (v := 0) dX8_minutesBy_5 (by decide) ?_
  refine K_istore (lv' := [(5, .int 0), (4, .int 0), (3, .int 0), (0, .ref 0), (1, .int x1), (2, .int x2)]) dX8_minutesBy_6 (by decide) rfl ?_
  refine K_loc [3, 4, 5, 2, 1, 0] (lv' := [(0, .ref 0), (1, .int x1), (2, .int x2), (3, .int 0), (4, .int 0), (5, .int 0)]) rfl ?_
  refine k_X8_minutesBy_L8  m0 q x2 x1 _ (fun u28 u29 u30 => ?_) 100000 0 0 0
  refine K_iload 4 dX8_minutesBy_98 rfl ?_
  refine K_aload_n 0 dX8_minutesBy_100 rfl ?_
  refine K_iload_n 3 dX8_minutesBy_101 rfl ?_
  refine K_aload_n 0 dX8_minutesBy_102 rfl ?_
  refine K_aload_n 0 dX8_minutesBy_103 rfl ?_
  refine K_iload_n 1 dX8_minutesBy_104 rfl ?_
  refine K_iconst (v := 0) dX8_minutesBy_105 (by decide) ?_
  refine K_callV (E' := e_X8_car0 m0 q) (b := 0) (As := [.int x1, .int 0]) (rest := [.ref 0, .int u28, .ref 0, .int u29]) dX8_minutesBy_106 ml_X8_229 (mf_X8_car0 1) mv_X8_car0 (fun hj r hr => c_X8_car0 hj m0 q x1 (0 : Int32) hr) (rcv_obj (q := (RX8, TX8, 37)) kl_0 rfl) rfl rfl (Nat.le_of_ble_eq_true rfl) (Nat.le_of_ble_eq_true rfl) (fun r31 => ?_)
  show K G (mi_X8_minutesBy 2) (e_X8_minutesBy m0 q) 109 [(0, .ref 0), (1, .int x1), (2, .int x2), (3, .int u28), (4, .int u29), (5, .int u30)] [.int r31, .ref 0, .int u28, .ref 0, .int u29] (m0 :: q) _
  refine K_iconst (v := 1) dX8_minutesBy_109 (by decide) ?_
  refine K_callV (E' := e_X8_of m0 q) (b := 0) (As := [.int r31, .int 1]) (rest := [.int u28, .ref 0, .int u29]) dX8_minutesBy_110 ml_X8_237 (mf_X8_of 1) mv_X8_of (fun hj r hr => c_X8_of hj m0 q r31 (1 : Int32) hr) (rcv_obj (q := (RX8, TX8, 37)) kl_0 rfl) rfl rfl (Nat.le_of_ble_eq_true rfl) (Nat.le_of_ble_eq_true rfl) (fun r32 => ?_)
  show K G (mi_X8_minutesBy 2) (e_X8_minutesBy m0 q) 113 [(0, .ref 0), (1, .int x1), (2, .int x2), (3, .int u28), (4, .int u29), (5, .int u30)] [.int r32, .int u28, .ref 0, .int u29] (m0 :: q) _
  refine K_callV (E' := e_X8_farOf m0 q) (b := 0) (As := [.int u28, .int r32]) (rest := [.int u29]) dX8_minutesBy_113 ml_X8_249 (mf_X8_farOf 1) mv_X8_farOf (fun hj r hr => c_X8_farOf hj m0 q u28 r32 hr) (rcv_obj (q := (RX8, TX8, 37)) kl_0 rfl) rfl rfl (Nat.le_of_ble_eq_true rfl) (Nat.le_of_ble_eq_true rfl) (fun r33 => ?_)
  show K G (mi_X8_minutesBy 2) (e_X8_minutesBy m0 q) 116 [(0, .ref 0), (1, .int x1), (2, .int x2), (3, .int u28), (4, .int u29), (5, .int u30)] [.int r33, .int u29] (m0 :: q) _
  refine K_iadd dX8_minutesBy_116 ?_
  exact K_ret (rv := some (.int (u29 + r33))) dX8_minutesBy_117 rfl rfl rfl
theorem c_X8_minutesBy {G : GE} (hj : dj G) (m0 : Mem) (q : List Mem) (x1 : Int32) (x2 : Int32) {r : Int32} (hr : f_X8_minutesBy m0 x1 x2 = some r) : Ctr G yX8_minutesBy (mi_X8_minutesBy 2) [.ref 0, .int x1, .int x2] (m0 :: q) ((e_X8_minutesBy m0 q) r).1 ((e_X8_minutesBy m0 q) r).2 := Ctr_of hj (by decide) rfl hr rfl (Nat.le_of_ble_eq_true rfl) (k_X8_minutesBy m0 q x1 x2)
abbrev e_X8_leastOf (m0 : Mem) (q : List Mem) : (Int32 × Mem) → Option Value × List Mem := fun r => (some (.int r.1), (r.2 :: q))
theorem k_X8_leastOf_L5 {G : GE} (m0 : Mem) (q : List Mem) (x2 : Int32) (x1 : Int32) (k : Int32 → Int32 → Mem → Option (Int32 × Mem)) (hk : ∀ (u11 : Int32) (u12 : Int32) (w13 : Mem), K G (mi_X8_leastOf 3) (e_X8_leastOf m0 q) 39 [(0, .ref 0), (1, .int x1), (2, .int x2), (3, .int u11), (4, .int u12)] [] (w13 :: q) (k u11 u12 w13)) : ∀ (t : Nat) (u11 : Int32) (u12 : Int32) (w13 : Mem), K G (mi_X8_leastOf 3) (e_X8_leastOf m0 q) 5 [(0, .ref 0), (1, .int x1), (2, .int x2), (3, .int u11), (4, .int u12)] [] (w13 :: q) (f_X8_leastOf_L5 k x2 t u11 u12 w13) := by
  intro t
  induction t with
  | zero => intro u11 u12 w13; exact K_none
  | succ t ih =>
    intro u11 u12 w13
    rw [f_X8_leastOf_L5]
    refine K_iload 4 dX8_leastOf_5 rfl ?_
    refine K_bipush (v := 7) dX8_leastOf_7 (by decide) ?_
    refine K_icmp_ge 39 dX8_leastOf_9 rfl (fun _ => ?_) (fun _ => ?_)
    · refine K_loc [0, 1, 2, 3, 4] (lv' := [(0, .ref 0), (1, .int x1), (2, .int x2), (3, .int u11), (4, .int u12)]) rfl ?_
      exact hk u11 u12 w13
    · refine K_iload_n 2 dX8_leastOf_12 rfl ?_
      refine K_iload 4 dX8_leastOf_13 rfl ?_
      refine K_ishr dX8_leastOf_15 ?_
      refine K_iconst (v := 1) dX8_leastOf_16 (by decide) ?_
      refine K_iand dX8_leastOf_17 ?_
      refine K_iconst (v := 1) dX8_leastOf_18 (by decide) ?_
      refine K_icmp_ne 33 dX8_leastOf_19 rfl (fun _ => ?_) (fun _ => ?_)
      · refine K_iinc 4 (w := u12 + 1) (lv' := [(4, .int (u12 + 1)), (0, .ref 0), (1, .int x1), (2, .int x2), (3, .int u11)]) dX8_leastOf_33 rfl rfl (by decide) rfl ?_
        refine K_goto 5 dX8_leastOf_36 rfl ?_
        refine K_loc [1, 2, 3, 4, 0] (lv' := [(0, .ref 0), (1, .int x1), (2, .int x2), (3, .int u11), (4, .int (u12 + 1))]) rfl ?_
        exact ih u11 (u12 + 1) w13
      · refine K_aload_n 0 dX8_leastOf_22 rfl ?_
        refine K_get (v := .ref 23) dX8_leastOf_23 fl_X8_37 kl_0 rfl rfl ?_
        refine K_iload_n 3 dX8_leastOf_26 rfl ?_
        refine K_iload 4 dX8_leastOf_27 rfl ?_
        refine K_iast (Ms' := ((up w13 23 u11.toNatClampNeg u12) :: q)) dX8_leastOf_29 kl_23 (Nat.succ_pos _) rfl ?_
        refine K_nmm (fun w => (w :: q)) rfl (fun w14 => ?_)
        refine K_iinc 3 (w := u11 + 1) (lv' := [(3, .int (u11 + 1)), (0, .ref 0), (1, .int x1), (2, .int x2), (4, .int u12)]) dX8_leastOf_30 rfl rfl (by decide) rfl ?_
        refine K_iinc 4 (w := u12 + 1) (lv' := [(4, .int (u12 + 1)), (3, .int (u11 + 1)), (0, .ref 0), (1, .int x1), (2, .int x2)]) dX8_leastOf_33 rfl rfl (by decide) rfl ?_
        refine K_goto 5 dX8_leastOf_36 rfl ?_
        refine K_loc [2, 3, 4, 1, 0] (lv' := [(0, .ref 0), (1, .int x1), (2, .int x2), (3, .int (u11 + 1)), (4, .int (u12 + 1))]) rfl ?_
        exact ih (u11 + 1) (u12 + 1) w14
theorem k_X8_leastOf_L125 {G : GE} (m0 : Mem) (q : List Mem) (u15 : Int32) (x1 : Int32) (a18 : Int32) (a25 : Int32) (u21 : Int32) (k : Int32 → Mem → Option (Int32 × Mem)) (hk : ∀ (u27 : Int32) (w28 : Mem), K G (mi_X8_leastOf 3) (e_X8_leastOf m0 q) 151 [(0, .ref 0), (1, .int x1), (3, .int u15), (4, .int a18), (5, .int a25), (6, .int u21), (8, .int u27)] [] (w28 :: q) (k u27 w28)) : ∀ (t : Nat) (u27 : Int32) (w28 : Mem), K G (mi_X8_leastOf 3) (e_X8_leastOf m0 q) 125 [(0, .ref 0), (1, .int x1), (3, .int u15), (4, .int a18), (5, .int a25), (6, .int u21), (8, .int u27)] [] (w28 :: q) (f_X8_leastOf_L125 k u15 t u27 w28) := by
  intro t
  induction t with
  | zero => intro u27 w28; exact K_none
  | succ t ih =>
    intro u27 w28
    rw [f_X8_leastOf_L125]
    refine K_iload 6 dX8_leastOf_125 rfl ?_
    refine K_iload_n 2 dX8_leastOf_127 rfl ?_
    refine K_icmp_ge 151 dX8_leastOf_128 rfl (fun _ => ?_) (fun _ => ?_)
    · refine K_loc [0, 1, 2, 3, 4, 5, 6] (lv' := [(0, .ref 0), (1, .int x1), (3, .int u15), (4, .int a18), (5, .int a25), (6, .int u21), (8, .int u27)]) rfl ?_
      exact hk u27 w28
    · refine K_aload_n 0 dX8_leastOf_131 rfl ?_
      refine K_get (v := .ref 25) dX8_leastOf_132 fl_X8_43 kl_0 rfl rfl ?_
      refine K_iload 6 dX8_leastOf_135 rfl ?_
      refine K_aload_n 0 dX8_leastOf_137 rfl ?_
      refine K_get (v := .ref 24) dX8_leastOf_138 fl_X8_40 kl_0 rfl rfl ?_
      refine K_iload 6 dX8_leastOf_141 rfl ?_
      refine K_iald (f := w28 24) dX8_leastOf_143 kl_24 rfl ?_
      refine K_iast (Ms' := ((up w28 25 u27.toNatClampNeg (w28 24 u27.toNatClampNeg)) :: q)) dX8_leastOf_144 kl_25 (Nat.succ_pos _) rfl ?_
      refine K_nmm (fun w => (w :: q)) rfl (fun w29 => ?_)
      refine K_iinc 6 (w := u27 + 1) (lv' := [(8, .int (u27 + 1)), (0, .ref 0), (1, .int x1), (3, .int u15), (4, .int a18), (5, .int a25), (6, .int u21)]) dX8_leastOf_145 rfl rfl (by decide) rfl ?_
      refine K_goto 125 dX8_leastOf_148 rfl ?_
      refine K_loc [1, 2, 3, 4, 5, 6, 0] (lv' := [(0, .ref 0), (1, .int x1), (3, .int u15), (4, .int a18), (5, .int a25), (6, .int u21), (8, .int (u27 + 1))]) rfl ?_
      exact ih (u27 + 1) w29
theorem k_X8_leastOf_L80 {G : GE} (m0 : Mem) (q : List Mem) (x1 : Int32) (a18 : Int32) (u15 : Int32) (k : Int32 → Int32 → Mem → Option (Int32 × Mem)) (hk : ∀ (u20 : Int32) (u21 : Int32) (w22 : Mem), K G (mi_X8_leastOf 3) (e_X8_leastOf m0 q) 157 [(0, .ref 0), (1, .int x1), (3, .int u15), (4, .int a18), (5, .int u20), (6, .int u21)] [] (w22 :: q) (k u20 u21 w22)) : ∀ (t : Nat) (u20 : Int32) (u21 : Int32) (w22 : Mem), K G (mi_X8_leastOf 3) (e_X8_leastOf m0 q) 80 [(0, .ref 0), (1, .int x1), (3, .int u15), (4, .int a18), (5, .int u20), (6, .int u21)] [] (w22 :: q) (f_X8_leastOf_L80 k x1 a18 u15 t u20 u21 w22) := by
  intro t
  induction t with
  | zero => intro u20 u21 w22; exact K_none
  | succ t ih =>
    intro u20 u21 w22
    rw [f_X8_leastOf_L80]
    refine K_iload 5 dX8_leastOf_80 rfl ?_
    refine K_iload 3 dX8_leastOf_82 rfl ?_
    refine K_icmp_ge 157 dX8_leastOf_84 rfl (fun _ => ?_) (fun _ => ?_)
    · refine K_loc [0, 1, 2, 3, 4, 5] (lv' := [(0, .ref 0), (1, .int x1), (3, .int u15), (4, .int a18), (5, .int u20), (6, .int u21)]) rfl ?_
      exact hk u20 u21 w22
    · refine K_aload_n 0 dX8_leastOf_87 rfl ?_
      refine K_iload 5 dX8_leastOf_88 rfl ?_
      refine K_iload_n 2 dX8_leastOf_90 rfl ?_
      refine K_callV (E' := e_X8_layTried w22 q) (b := 0) (As := [.int u21, .int u15]) (rest := []) dX8_leastOf_91 ml_X8_278 (mf_X8_layTried 1) mv_X8_layTried (fun hj r hr => c_X8_layTried hj w22 q u21 u15 hr) (rcv_obj (q := (RX8, TX8, 37)) kl_0 rfl) rfl rfl (Nat.le_of_ble_eq_true rfl) (Nat.le_of_ble_eq_true rfl) (fun r23 => ?_)
      show K G (mi_X8_leastOf 3) (e_X8_leastOf m0 q) 94 [(0, .ref 0), (1, .int x1), (3, .int u15), (4, .int a18), (5, .int u20), (6, .int u21)] [.int r23.1] (r23.2 :: q) _
      refine K_jn (fun j26 => ∀ a25 : Int32, K G (mi_X8_leastOf 3) (e_X8_leastOf m0 q) 109 [(0, .ref 0), (1, .int x1), (3, .int u15), (4, .int a18), (5, .int u20), (6, .int u21)] [.int a25] (r23.2 :: q) (j26 a25)) (fun a25 => ?_) (fun j26 hj26 => ?_)
      · refine K_istore (lv' := [(7, .int a25), (0, .ref 0), (1, .int x1), (3, .int u15), (4, .int a18), (5, .int u20), (6, .int u21)]) dX8_leastOf_109 (by decide) rfl ?_
        refine K_iload 0 dX8_leastOf_111 rfl ?_
        refine K_iload 5 dX8_leastOf_113 rfl ?_
        refine K_icmp_ge 151 dX8_leastOf_115 rfl (fun _ => ?_) (fun _ => ?_)
        · refine K_iinc 6 (w := u21 + 1) (lv' := [(6, .int (u21 + 1)), (7, .int a25), (0, .ref 0), (1, .int x1), (3, .int u15), (4, .int a18), (5, .int u20)]) dX8_leastOf_151 rfl rfl (by decide) rfl ?_
          refine K_goto 80 dX8_leastOf_154 rfl ?_
          refine K_loc [2, 3, 4, 5, 6, 0] (lv' := [(0, .ref 0), (1, .int x1), (3, .int u15), (4, .int a18), (5, .int u20), (6, .int (u21 + 1))]) rfl ?_
          exact ih u20 (u21 + 1) r23.2
        · refine K_iload 0 dX8_leastOf_118 rfl ?_
          refine K_istore (lv' := [(5, .int a25), (7, .int a25), (0, .ref 0), (1, .int x1), (3, .int u15), (4, .int a18), (6, .int u21)]) dX8_leastOf_120 (by decide) rfl ?_
          refine K_iconst (v := 0) dX8_leastOf_122 (by decide) ?_
          refine K_istore (lv' := [(8, .int 0), (5, .int a25), (7, .int a25), (0, .ref 0), (1, .int x1), (3, .int u15), (4, .int a18), (6, .int u21)]) dX8_leastOf_123 (by decide) rfl ?_
          refine K_loc [3, 4, 5, 6, 1, 7, 0] (lv' := [(0, .ref 0), (1, .int x1), (3, .int u15), (4, .int a18), (5, .int a25), (6, .int u21), (8, .int 0)]) rfl ?_
          refine k_X8_leastOf_L125  m0 q u15 x1 a18 a25 u21 _ (fun u30 w31 => ?_) 100000 0 r23.2
          refine K_iinc 5 (w := u21 + 1) (lv' := [(6, .int (u21 + 1)), (0, .ref 0), (1, .int x1), (3, .int u15), (4, .int a18), (5, .int a25), (8, .int u30)]) dX8_leastOf_151 rfl rfl (by decide) rfl ?_
          refine K_goto 80 dX8_leastOf_154 rfl ?_
          refine K_loc [1, 2, 3, 4, 5, 0] (lv' := [(0, .ref 0), (1, .int x1), (3, .int u15), (4, .int a18), (5, .int a25), (6, .int (u21 + 1))]) rfl ?_
          exact ih a25 (u21 + 1) w31
      · refine K_if_eq 106 dX8_leastOf_94 rfl (fun _ => ?_) (fun _ => ?_)
        · refine K_sipush (v := 10000) dX8_leastOf_106 (by decide) ?_
          exact hj26 10000
        · refine K_aload_n 0 dX8_leastOf_97 rfl ?_
          refine K_iload_n 1 dX8_leastOf_98 rfl ?_
          refine K_iload_n 2 dX8_leastOf_99 rfl ?_
          refine K_callV (E' := e_X8_minutesBy r23.2 q) (b := 0) (As := [.int x1, .int u15]) (rest := []) dX8_leastOf_100 ml_X8_281 (mf_X8_minutesBy 2) mv_X8_minutesBy (fun hj r hr => c_X8_minutesBy hj r23.2 q x1 u15 hr) (rcv_obj (q := (RX8, TX8, 37)) kl_0 rfl) rfl rfl (Nat.le_of_ble_eq_true rfl) (Nat.le_of_ble_eq_true rfl) (fun r24 => ?_)
          show K G (mi_X8_leastOf 3) (e_X8_leastOf m0 q) 103 [(0, .ref 0), (1, .int x1), (3, .int u15), (4, .int a18), (5, .int u20), (6, .int u21)] [.int r24] (r23.2 :: q) _
          refine K_goto 109 dX8_leastOf_103 rfl ?_
          exact hj26 r24
theorem k_X8_leastOf {G : GE} (m0 : Mem) (q : List Mem) (x1 : Int32) (x2 : Int32) : K G (mi_X8_leastOf 3) (e_X8_leastOf m0 q) 0 [(0, .ref 0), (1, .int x1), (2, .int x2)] [] (m0 :: q) (f_X8_leastOf m0 x1 x2) := by
  unfold f_X8_leastOf
  refine K_iconst (v := 0) dX8_leastOf_0 (by decide) ?_
  refine K_istore_n (lv' := [(3, .int 0), (0, .ref 0), (1, .int x1), (2, .int x2)]) dX8_leastOf_1 (by decide) rfl ?_
  refine K_iconst (v := 0) dX8_leastOf_2 (by decide) ?_
  refine K_istore (lv' := [(4, .int 0), (3, .int 0), (0, .ref 0), (1, .int x1), (2, .int x2)]) dX8_leastOf_3 (by decide) rfl ?_
  refine K_loc [2, 3, 4, 1, 0] (lv' := [(0, .ref 0), (1, .int x1), (2, .int x2), (3, .int 0), (4, .int 0)]) rfl ?_
  refine k_X8_leastOf_L5  m0 q x2 x1 _ (fun u15 u16 w17 => ?_) 100000 0 0 m0
  refine K_iload_n 3 dX8_leastOf_39 rfl ?_
  refine K_iconst (v := 4) dX8_leastOf_40 (by decide) ?_
  refine K_pick (fun j19 => (if u15 = (4 : Int32) then (j19 256) else (if u15 = (3 : Int32) then (j19 27) else (if u15 = (2 : Int32) then (j19 4) else (j19 1))))) (fun j19 => ∀ a18 : Int32, K G (mi_X8_leastOf 3) (e_X8_leastOf m0 q) 70 [(0, .ref 0), (1, .int x1), (3, .int u15)] [.int a18] (w17 :: q) (j19 a18)) (fun j19 => by simp only [apply_ite j19]) (fun a18 => ?_) (fun j19 hj19 => ?_)
  · refine K_istore (lv' := [(4, .int a18), (0, .ref 0), (1, .int x1), (3, .int u15)]) dX8_leastOf_70 (by decide) rfl ?_
    refine K_sipush (v := 10000) dX8_leastOf_72 (by decide) ?_
    refine K_istore (lv' := [(5, .int 10000), (4, .int a18), (0, .ref 0), (1, .int x1), (3, .int u15)]) dX8_leastOf_75 (by decide) rfl ?_
    refine K_iconst (v := 0) dX8_leastOf_77 (by decide) ?_
    refine K_istore (lv' := [(6, .int 0), (5, .int 10000), (4, .int a18), (0, .ref 0), (1, .int x1), (3, .int u15)]) dX8_leastOf_78 (by decide) rfl ?_
    refine K_loc [3, 4, 5, 2, 1, 0] (lv' := [(0, .ref 0), (1, .int x1), (3, .int u15), (4, .int a18), (5, .int 10000), (6, .int 0)]) rfl ?_
    refine k_X8_leastOf_L80  m0 q x1 a18 u15 _ (fun u32 u33 w34 => ?_) 100000 10000 0 w17
    refine K_iload 4 dX8_leastOf_157 rfl ?_
    exact K_ret (rv := some (.int u32)) dX8_leastOf_159 rfl rfl rfl
  · refine K_icmp_ne 50 dX8_leastOf_41 rfl (fun _ => ?_) (fun _ => ?_)
    · refine K_iload_n 3 dX8_leastOf_50 rfl ?_
      refine K_iconst (v := 3) dX8_leastOf_51 (by decide) ?_
      refine K_icmp_ne 60 dX8_leastOf_52 rfl (fun _ => ?_) (fun _ => ?_)
      · refine K_iload_n 3 dX8_leastOf_60 rfl ?_
        refine K_iconst (v := 2) dX8_leastOf_61 (by decide) ?_
        refine K_icmp_ne 69 dX8_leastOf_62 rfl (fun _ => ?_) (fun _ => ?_)
        · refine K_iconst (v := 1) dX8_leastOf_69 (by decide) ?_
          refine K_loc [0, 1, 3] (lv' := [(0, .ref 0), (1, .int x1), (3, .int u15)]) rfl ?_
          exact hj19 1
        · refine K_iconst (v := 4) dX8_leastOf_65 (by decide) ?_
          refine K_goto 70 dX8_leastOf_66 rfl ?_
          refine K_loc [0, 1, 3] (lv' := [(0, .ref 0), (1, .int x1), (3, .int u15)]) rfl ?_
          exact hj19 4
      · refine K_bipush (v := 27) dX8_leastOf_55 (by decide) ?_
        refine K_goto 70 dX8_leastOf_57 rfl ?_
        refine K_loc [0, 1, 3] (lv' := [(0, .ref 0), (1, .int x1), (3, .int u15)]) rfl ?_
        exact hj19 27
    · refine K_sipush (v := 256) dX8_leastOf_44 (by decide) ?_
      refine K_goto 70 dX8_leastOf_47 rfl ?_
      refine K_loc [0, 1, 3] (lv' := [(0, .ref 0), (1, .int x1), (3, .int u15)]) rfl ?_
      exact hj19 256
theorem c_X8_leastOf {G : GE} (hj : dj G) (m0 : Mem) (q : List Mem) (x1 : Int32) (x2 : Int32) {r : Int32 × Mem} (hr : f_X8_leastOf m0 x1 x2 = some r) : Ctr G yX8_leastOf (mi_X8_leastOf 3) [.ref 0, .int x1, .int x2] (m0 :: q) ((e_X8_leastOf m0 q) r).1 ((e_X8_leastOf m0 q) r).2 := Ctr_of hj (by decide) rfl hr rfl (Nat.le_of_ble_eq_true rfl) (k_X8_leastOf m0 q x1 x2)
abbrev e_X8_layTakes (m0 : Mem) (q : List Mem) : Mem → Option Value × List Mem := fun r => (none, (r :: q))
theorem k_X8_layTakes_L9 {G : GE} (m0 : Mem) (q : List Mem) (u11 : Int32) (k : Int32 → Mem → Option (Mem)) (hk : ∀ (u13 : Int32) (w14 : Mem), K G (mi_X8_layTakes 4) (e_X8_layTakes m0 q) 88 [(0, .ref 0), (1, .int u11), (2, .int u13)] [] (w14 :: q) (k u13 w14)) : ∀ (t : Nat) (u13 : Int32) (w14 : Mem), K G (mi_X8_layTakes 4) (e_X8_layTakes m0 q) 9 [(0, .ref 0), (1, .int u11), (2, .int u13)] [] (w14 :: q) (f_X8_layTakes_L9 k u11 t u13 w14) := by
  intro t
  induction t with
  | zero => intro u13 w14; exact K_none
  | succ t ih =>
    intro u13 w14
    rw [f_X8_layTakes_L9]
    refine K_iload_n 2 dX8_layTakes_9 rfl ?_
    refine K_sipush (v := 128) dX8_layTakes_10 (by decide) ?_
    refine K_icmp_ge 88 dX8_layTakes_13 rfl (fun _ => ?_) (fun _ => ?_)
    · refine K_loc [0, 1, 2] (lv' := [(0, .ref 0), (1, .int u11), (2, .int u13)]) rfl ?_
      exact hk u13 w14
    · refine K_aload_n 0 dX8_layTakes_16 rfl ?_
      refine K_get (v := .int (w14 0 27)) dX8_layTakes_17 fl_X8_287 kl_0 rfl rfl ?_
      refine K_iload_n 1 dX8_layTakes_20 rfl ?_
      refine K_ishr dX8_layTakes_21 ?_
      refine K_iconst (v := 1) dX8_layTakes_22 (by decide) ?_
      refine K_iand dX8_layTakes_23 ?_
      refine K_iconst (v := 1) dX8_layTakes_24 (by decide) ?_
      refine K_jn (fun j17 => ∀ a16 : Int32, K G (mi_X8_layTakes 4) (e_X8_layTakes m0 q) 54 [(0, .ref 0), (1, .int u11), (2, .int u13)] [.int a16] (w14 :: q) (j17 a16)) (fun a16 => ?_) (fun j17 hj17 => ?_)
      · refine K_istore_n (lv' := [(3, .int a16), (0, .ref 0), (1, .int u11), (2, .int u13)]) dX8_layTakes_54 (by decide) rfl ?_
        refine K_aload_n 1 dX8_layTakes_55 rfl ?_
        refine K_get (v := .ref 22) dX8_layTakes_56 fl_X8_34 kl_0 rfl rfl ?_
        refine K_sipush (v := 128) dX8_layTakes_59 (by decide) ?_
        refine K_iload_n 2 dX8_layTakes_62 rfl ?_
        refine K_imul dX8_layTakes_63 ?_
        refine K_iload_n 3 dX8_layTakes_64 rfl ?_
        refine K_iadd dX8_layTakes_65 ?_
        refine K_iload_n 0 dX8_layTakes_66 rfl ?_
        refine K_if_eq 79 dX8_layTakes_67 rfl (fun _ => ?_) (fun _ => ?_)
        · refine K_ldc (v := (-1000000)) dX8_layTakes_79 cst_X8_104 ?_
          refine K_iast (Ms' := ((up w14 22 ((128 * u11) + u13).toNatClampNeg (-1000000)) :: q)) dX8_layTakes_81 kl_22 (Nat.succ_pos _) rfl ?_
          refine K_nmm (fun w => (w :: q)) rfl (fun w18 => ?_)
          refine K_iinc 3 (w := u13 + 1) (lv' := [(2, .int (u13 + 1)), (3, .int a16), (0, .ref 0), (1, .int u11)]) dX8_layTakes_82 rfl rfl (by decide) rfl ?_
          refine K_goto 9 dX8_layTakes_85 rfl ?_
          refine K_loc [2, 3, 0] (lv' := [(0, .ref 0), (1, .int u11), (2, .int (u13 + 1))]) rfl ?_
          exact ih (u13 + 1) w18
        · refine K_aload_n 1 dX8_layTakes_70 rfl ?_
          refine K_iload_n 2 dX8_layTakes_71 rfl ?_
          refine K_iload_n 3 dX8_layTakes_72 rfl ?_
          refine K_callV (E' := e_X8_leastOf w14 q) (b := 0) (As := [.int u11, .int u13]) (rest := [.int ((128 * u11) + u13), .ref 22]) dX8_layTakes_73 ml_X8_293 (mf_X8_leastOf 3) mv_X8_leastOf (fun hj r hr => c_X8_leastOf hj w14 q u11 u13 hr) (rcv_obj (q := (RX8, TX8, 37)) kl_0 rfl) rfl rfl (Nat.le_of_ble_eq_true rfl) (Nat.le_of_ble_eq_true rfl) (fun r19 => ?_)
          show K G (mi_X8_layTakes 4) (e_X8_layTakes m0 q) 76 [(3, .int a16), (0, .ref 0), (1, .int u11), (2, .int u13)] [.int r19.1, .int ((128 * u11) + u13), .ref 22] (r19.2 :: q) _
          refine K_goto 81 dX8_layTakes_76 rfl ?_
          refine K_iast (Ms' := ((up r19.2 22 ((128 * u11) + u13).toNatClampNeg r19.1) :: q)) dX8_layTakes_81 kl_22 (Nat.succ_pos _) rfl ?_
          refine K_nmm (fun w => (w :: q)) rfl (fun w20 => ?_)
          refine K_iinc 3 (w := u13 + 1) (lv' := [(2, .int (u13 + 1)), (3, .int a16), (0, .ref 0), (1, .int u11)]) dX8_layTakes_82 rfl rfl (by decide) rfl ?_
          refine K_goto 9 dX8_layTakes_85 rfl ?_
          refine K_loc [2, 3, 0] (lv' := [(0, .ref 0), (1, .int u11), (2, .int (u13 + 1))]) rfl ?_
          exact ih (u13 + 1) w20
      · refine K_icmp_ne 53 dX8_layTakes_25 rfl (fun _ => ?_) (fun _ => ?_)
        · refine K_iconst (v := 0) dX8_layTakes_53 (by decide) ?_
          exact hj17 0
        · refine K_iload_n 2 dX8_layTakes_28 rfl ?_
          refine K_iconst (v := 1) dX8_layTakes_29 (by decide) ?_
          refine K_aload_n 0 dX8_layTakes_30 rfl ?_
          refine K_get (v := .ref 6) dX8_layTakes_31 fl_X8_19 kl_0 rfl rfl ?_
          refine K_iconst (v := 4) dX8_layTakes_34 (by decide) ?_
          refine K_iald (f := w14 6) dX8_layTakes_35 kl_6 rfl ?_
          refine K_ishl dX8_layTakes_36 ?_
          refine K_icmp_ge 53 dX8_layTakes_37 rfl (fun _ => ?_) (fun _ => ?_)
          · refine K_iconst (v := 0) dX8_layTakes_53 (by decide) ?_
            exact hj17 0
          · refine K_aload_n 0 dX8_layTakes_40 rfl ?_
            refine K_iload_n 1 dX8_layTakes_41 rfl ?_
            refine K_iload_n 2 dX8_layTakes_42 rfl ?_
            refine K_callV (E' := e_X8_fits w14 q) (b := 0) (As := [.int u11, .int u13]) (rest := []) dX8_layTakes_43 ml_X8_290 (mf_X8_fits 3) mv_X8_fits (fun hj r hr => c_X8_fits hj w14 q u11 u13 hr) (rcv_obj (q := (RX8, TX8, 37)) kl_0 rfl) rfl rfl (Nat.le_of_ble_eq_true rfl) (Nat.le_of_ble_eq_true rfl) (fun r15 => ?_)
            show K G (mi_X8_layTakes 4) (e_X8_layTakes m0 q) 46 [(0, .ref 0), (1, .int u11), (2, .int u13)] [.int r15] (w14 :: q) _
            refine K_if_eq 53 dX8_layTakes_46 rfl (fun _ => ?_) (fun _ => ?_)
            · refine K_iconst (v := 0) dX8_layTakes_53 (by decide) ?_
              exact hj17 0
            · refine K_iconst (v := 1) dX8_layTakes_49 (by decide) ?_
              refine K_goto 54 dX8_layTakes_50 rfl ?_
              exact hj17 1
theorem k_X8_layTakes_L2 {G : GE} (m0 : Mem) (q : List Mem) (k : Int32 → Mem → Option (Mem)) (hk : ∀ (u11 : Int32) (w12 : Mem), K G (mi_X8_layTakes 4) (e_X8_layTakes m0 q) 94 [(0, .ref 0), (1, .int u11)] [] (w12 :: q) (k u11 w12)) : ∀ (t : Nat) (u11 : Int32) (w12 : Mem), K G (mi_X8_layTakes 4) (e_X8_layTakes m0 q) 2 [(0, .ref 0), (1, .int u11)] [] (w12 :: q) (f_X8_layTakes_L2 k t u11 w12) := by
  intro t
  induction t with
  | zero => intro u11 w12; exact K_none
  | succ t ih =>
    intro u11 w12
    rw [f_X8_layTakes_L2]
    refine K_iload_n 1 dX8_layTakes_2 rfl ?_
    refine K_iconst (v := 3) dX8_layTakes_3 (by decide) ?_
    refine K_icmp_ge 94 dX8_layTakes_4 rfl (fun _ => ?_) (fun _ => ?_)
    · refine K_loc [0, 1] (lv' := [(0, .ref 0), (1, .int u11)]) rfl ?_
      exact hk u11 w12
    · refine K_iconst (v := 0) dX8_layTakes_7 (by decide) ?_
      refine K_istore_n (lv' := [(2, .int 0), (0, .ref 0), (1, .int u11)]) dX8_layTakes_8 (by decide) rfl ?_
      refine K_loc [1, 2, 0] (lv' := [(0, .ref 0), (1, .int u11), (2, .int 0)]) rfl ?_
      refine k_X8_layTakes_L9  m0 q u11 _ (fun u21 w22 => ?_) 100000 0 w12
      refine K_iinc 1 (w := u11 + 1) (lv' := [(1, .int (u11 + 1)), (0, .ref 0), (2, .int u21)]) dX8_layTakes_88 rfl rfl (by decide) rfl ?_
      refine K_goto 2 dX8_layTakes_91 rfl ?_
      refine K_loc [1, 0] (lv' := [(0, .ref 0), (1, .int (u11 + 1))]) rfl ?_
      exact ih (u11 + 1) w22
theorem k_X8_layTakes {G : GE} (m0 : Mem) (q : List Mem)  : K G (mi_X8_layTakes 4) (e_X8_layTakes m0 q) 0 [(0, .ref 0)] [] (m0 :: q) (f_X8_layTakes m0) := by
  unfold f_X8_layTakes
  refine K_iconst (v := 0) dX8_layTakes_0 (by decide) ?_
  refine K_istore_n (lv' := [(1, .int 0), (0, .ref 0)]) dX8_layTakes_1 (by decide) rfl ?_
  refine K_loc [1, 0] (lv' := [(0, .ref 0), (1, .int 0)]) rfl ?_
  refine k_X8_layTakes_L2  m0 q  _ (fun u23 w24 => ?_) 100000 0 m0
  exact K_ret (rv := none) dX8_layTakes_94 trivial rfl rfl
theorem c_X8_layTakes {G : GE} (hj : dj G) (m0 : Mem) (q : List Mem)  {r : Mem} (hr : f_X8_layTakes m0 = some r) : Ctr G yX8_layTakes (mi_X8_layTakes 4) [.ref 0] (m0 :: q) ((e_X8_layTakes m0 q) r).1 ((e_X8_layTakes m0 q) r).2 := Ctr_of hj (by decide) rfl hr rfl (Nat.le_of_ble_eq_true rfl) (k_X8_layTakes m0 q )
