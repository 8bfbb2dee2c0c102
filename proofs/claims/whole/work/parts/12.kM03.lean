abbrev e_X8_evening (m0 : Mem) (q : List Mem) : (Int32 × Mem) → Option Value × List Mem := fun r => (some (.int r.1), (r.2 :: q))
theorem k_X8_evening_L11 {G : GE} (m0 : Mem) (q : List Mem) (k : Int32 → Mem → Option (Int32 × Mem)) (hk : ∀ (u13 : Int32) (w14 : Mem), K G (mi_X8_evening 7) (e_X8_evening m0 q) 48 [(0, .ref 0), (1, .int u13)] [] (w14 :: q) (k u13 w14)) : ∀ (t : Nat) (u13 : Int32) (w14 : Mem), K G (mi_X8_evening 7) (e_X8_evening m0 q) 11 [(0, .ref 0), (1, .int u13)] [] (w14 :: q) (f_X8_evening_L11 k t u13 w14) := by
  intro t
  induction t with
  | zero => intro u13 w14; exact K_none
  | succ t ih =>
    intro u13 w14
    rw [f_X8_evening_L11]
    refine K_iload_n 1 dX8_evening_11 rfl ?_
    refine K_bipush (v := 109) dX8_evening_12 (by decide) ?_
    refine K_icmp_ge 48 dX8_evening_14 rfl (fun _ => ?_) (fun _ => ?_)
    · refine K_loc [0, 1] (lv' := [(0, .ref 0), (1, .int u13)]) rfl ?_
      exact hk u13 w14
    · refine K_aload_n 0 dX8_evening_17 rfl ?_
      refine K_get (v := .ref 7) dX8_evening_18 fl_X8_22 kl_0 rfl rfl ?_
      refine K_iload_n 1 dX8_evening_21 rfl ?_
      refine K_iload_n 1 dX8_evening_22 rfl ?_
      refine K_bipush (v := 8) dX8_evening_23 (by decide) ?_
      refine K_icmp_lt 40 dX8_evening_25 rfl (fun _ => ?_) (fun _ => ?_)
      · refine K_iconst (v := 0) dX8_evening_40 (by decide) ?_
        refine K_iast (Ms' := ((up w14 7 u13.toNatClampNeg 0) :: q)) dX8_evening_41 kl_7 (Nat.succ_pos _) rfl ?_
        refine K_nmm (fun w => (w :: q)) rfl (fun w15 => ?_)
        refine K_iinc 1 (w := u13 + 1) (lv' := [(1, .int (u13 + 1)), (0, .ref 0)]) dX8_evening_42 rfl rfl (by decide) rfl ?_
        refine K_goto 11 dX8_evening_45 rfl ?_
        refine K_loc [1, 0] (lv' := [(0, .ref 0), (1, .int (u13 + 1))]) rfl ?_
        exact ih (u13 + 1) w15
      · refine K_iload_n 1 dX8_evening_28 rfl ?_
        refine K_bipush (v := 72) dX8_evening_29 (by decide) ?_
        refine K_icmp_ge 40 dX8_evening_31 rfl (fun _ => ?_) (fun _ => ?_)
        · refine K_iconst (v := 0) dX8_evening_40 (by decide) ?_
          refine K_iast (Ms' := ((up w14 7 u13.toNatClampNeg 0) :: q)) dX8_evening_41 kl_7 (Nat.succ_pos _) rfl ?_
          refine K_nmm (fun w => (w :: q)) rfl (fun w16 => ?_)
          refine K_iinc 1 (w := u13 + 1) (lv' := [(1, .int (u13 + 1)), (0, .ref 0)]) dX8_evening_42 rfl rfl (by decide) rfl ?_
          refine K_goto 11 dX8_evening_45 rfl ?_
          refine K_loc [1, 0] (lv' := [(0, .ref 0), (1, .int (u13 + 1))]) rfl ?_
          exact ih (u13 + 1) w16
        · refine K_sipush (v := 10000) dX8_evening_34 (by decide) ?_
          refine K_goto 41 dX8_evening_37 rfl ?_
          refine K_iast (Ms' := ((up w14 7 u13.toNatClampNeg 10000) :: q)) dX8_evening_41 kl_7 (Nat.succ_pos _) rfl ?_
          refine K_nmm (fun w => (w :: q)) rfl (fun w17 => ?_)
          refine K_iinc 1 (w := u13 + 1) (lv' := [(1, .int (u13 + 1)), (0, .ref 0)]) dX8_evening_42 rfl rfl (by decide) rfl ?_
          refine K_goto 11 dX8_evening_45 rfl ?_
          refine K_loc [1, 0] (lv' := [(0, .ref 0), (1, .int (u13 + 1))]) rfl ?_
          exact ih (u13 + 1) w17
theorem k_X8_evening_L50 {G : GE} (m0 : Mem) (q : List Mem) (k : Int32 → Mem → Option (Int32 × Mem)) (hk : ∀ (u20 : Int32) (w21 : Mem), K G (mi_X8_evening 7) (e_X8_evening m0 q) 75 [(0, .ref 0), (1, .int u20)] [] (w21 :: q) (k u20 w21)) : ∀ (t : Nat) (u20 : Int32) (w21 : Mem), K G (mi_X8_evening 7) (e_X8_evening m0 q) 50 [(0, .ref 0), (1, .int u20)] [] (w21 :: q) (f_X8_evening_L50 k t u20 w21) := by
  intro t
  induction t with
  | zero => intro u20 w21; exact K_none
  | succ t ih =>
    intro u20 w21
    rw [f_X8_evening_L50]
    refine K_iload_n 1 dX8_evening_50 rfl ?_
    refine K_bipush (v := 8) dX8_evening_51 (by decide) ?_
    refine K_icmp_ge 75 dX8_evening_53 rfl (fun _ => ?_) (fun _ => ?_)
    · refine K_loc [0, 1] (lv' := [(0, .ref 0), (1, .int u20)]) rfl ?_
      exact hk u20 w21
    · refine K_aload_n 0 dX8_evening_56 rfl ?_
      refine K_get (v := .ref 7) dX8_evening_57 fl_X8_22 kl_0 rfl rfl ?_
      refine K_bipush (v := 8) dX8_evening_60 (by decide) ?_
      refine K_bipush (v := 9) dX8_evening_62 (by decide) ?_
      refine K_iload_n 1 dX8_evening_64 rfl ?_
      refine K_imul dX8_evening_65 ?_
      refine K_iadd dX8_evening_66 ?_
      refine K_iconst (v := 0) dX8_evening_67 (by decide) ?_
      refine K_iast (Ms' := ((up w21 7 (8 + (9 * u20)).toNatClampNeg 0) :: q)) dX8_evening_68 kl_7 (Nat.succ_pos _) rfl ?_
      refine K_nmm (fun w => (w :: q)) rfl (fun w22 => ?_)
      refine K_iinc 1 (w := u20 + 1) (lv' := [(1, .int (u20 + 1)), (0, .ref 0)]) dX8_evening_69 rfl rfl (by decide) rfl ?_
      refine K_goto 50 dX8_evening_72 rfl ?_
      refine K_loc [1, 0] (lv' := [(0, .ref 0), (1, .int (u20 + 1))]) rfl ?_
      exact ih (u20 + 1) w22
theorem k_X8_evening_L125 {G : GE} (m0 : Mem) (q : List Mem) (k : Mem → Option (Int32 × Mem)) (hk : ∀ (w34 : Mem), K G (mi_X8_evening 7) (e_X8_evening m0 q) 143 [(0, .ref 0)] [] (w34 :: q) (k w34)) : ∀ (t : Nat) (w34 : Mem), K G (mi_X8_evening 7) (e_X8_evening m0 q) 125 [(0, .ref 0)] [] (w34 :: q) (f_X8_evening_L125 k t w34) := by
  intro t
  induction t with
  | zero => intro w34; exact K_none
  | succ t ih =>
    intro w34
    rw [f_X8_evening_L125]
    refine K_aload_n 0 dX8_evening_125 rfl ?_
    refine K_callV (E' := e_X8_name w34 q) (b := 0) (As := []) (rest := []) dX8_evening_126 ml_X8_172 (mf_X8_name 1) mv_X8_name (fun hj r hr => c_X8_name hj w34 q  hr) (rcv_obj (q := (RX8, TX8, 37)) kl_0 rfl) rfl rfl (Nat.le_of_ble_eq_true rfl) (Nat.le_of_ble_eq_true rfl) (fun r35 => ?_)
    show K G (mi_X8_evening 7) (e_X8_evening m0 q) 129 [(0, .ref 0)] [.long r35] (w34 :: q) _
    refine K_ldc2 (v := 7823737) dX8_evening_129 cst_X8_188 ?_
    refine K_lcmp dX8_evening_132 ?_
    refine K_if_ne 143 dX8_evening_133 rfl (fun _ => ?_) (fun _ => ?_)
    · refine K_loc [0] (lv' := [(0, .ref 0)]) rfl ?_
      exact hk w34
    · refine K_aload_n 0 dX8_evening_136 rfl ?_
      refine K_callV (E' := e_X8_readWay w34 q) (b := 0) (As := []) (rest := []) dX8_evening_137 ml_X8_190 (mf_X8_readWay 6) mv_X8_readWay (fun hj r hr => c_X8_readWay hj w34 q  hr) (rcv_obj (q := (RX8, TX8, 37)) kl_0 rfl) rfl rfl (Nat.le_of_ble_eq_true rfl) (Nat.le_of_ble_eq_true rfl) (fun r36 => ?_)
      show K G (mi_X8_evening 7) (e_X8_evening m0 q) 140 [(0, .ref 0)] [] (r36 :: q) _
      refine K_goto 125 dX8_evening_140 rfl ?_
      refine K_loc [0] (lv' := [(0, .ref 0)]) rfl ?_
      exact ih r36
theorem k_X8_evening_L143 {G : GE} (m0 : Mem) (q : List Mem) (k : Mem → Option (Int32 × Mem)) (hk : ∀ (w38 : Mem), K G (mi_X8_evening 7) (e_X8_evening m0 q) 161 [(0, .ref 0)] [] (w38 :: q) (k w38)) : ∀ (t : Nat) (w38 : Mem), K G (mi_X8_evening 7) (e_X8_evening m0 q) 143 [(0, .ref 0)] [] (w38 :: q) (f_X8_evening_L143 k t w38) := by
  intro t
  induction t with
  | zero => intro w38; exact K_none
  | succ t ih =>
    intro w38
    rw [f_X8_evening_L143]
    refine K_aload_n 0 dX8_evening_143 rfl ?_
    refine K_callV (E' := e_X8_name w38 q) (b := 0) (As := []) (rest := []) dX8_evening_144 ml_X8_172 (mf_X8_name 1) mv_X8_name (fun hj r hr => c_X8_name hj w38 q  hr) (rcv_obj (q := (RX8, TX8, 37)) kl_0 rfl) rfl rfl (Nat.le_of_ble_eq_true rfl) (Nat.le_of_ble_eq_true rfl) (fun r39 => ?_)
    show K G (mi_X8_evening 7) (e_X8_evening m0 q) 147 [(0, .ref 0)] [.long r39] (w38 :: q) _
    refine K_ldc2 (v := 1751739500) dX8_evening_147 cst_X8_193 ?_
    refine K_lcmp dX8_evening_150 ?_
    refine K_if_ne 161 dX8_evening_151 rfl (fun _ => ?_) (fun _ => ?_)
    · refine K_loc [0] (lv' := [(0, .ref 0)]) rfl ?_
      exact hk w38
    · refine K_aload_n 0 dX8_evening_154 rfl ?_
      refine K_callV (E' := e_X8_readHill w38 q) (b := 0) (As := []) (rest := []) dX8_evening_155 ml_X8_195 (mf_X8_readHill 5) mv_X8_readHill (fun hj r hr => c_X8_readHill hj w38 q  hr) (rcv_obj (q := (RX8, TX8, 37)) kl_0 rfl) rfl rfl (Nat.le_of_ble_eq_true rfl) (Nat.le_of_ble_eq_true rfl) (fun r40 => ?_)
      show K G (mi_X8_evening 7) (e_X8_evening m0 q) 158 [(0, .ref 0)] [] (r40 :: q) _
      refine K_goto 143 dX8_evening_158 rfl ?_
      refine K_loc [0] (lv' := [(0, .ref 0)]) rfl ?_
      exact ih r40
theorem k_X8_evening_L161 {G : GE} (m0 : Mem) (q : List Mem) (k : Mem → Option (Int32 × Mem)) (hk : ∀ (w42 : Mem), K G (mi_X8_evening 7) (e_X8_evening m0 q) 179 [(0, .ref 0)] [] (w42 :: q) (k w42)) : ∀ (t : Nat) (w42 : Mem), K G (mi_X8_evening 7) (e_X8_evening m0 q) 161 [(0, .ref 0)] [] (w42 :: q) (f_X8_evening_L161 k t w42) := by
  intro t
  induction t with
  | zero => intro w42; exact K_none
  | succ t ih =>
    intro w42
    rw [f_X8_evening_L161]
    refine K_aload_n 0 dX8_evening_161 rfl ?_
    refine K_callV (E' := e_X8_name w42 q) (b := 0) (As := []) (rest := []) dX8_evening_162 ml_X8_172 (mf_X8_name 1) mv_X8_name (fun hj r hr => c_X8_name hj w42 q  hr) (rcv_obj (q := (RX8, TX8, 37)) kl_0 rfl) rfl rfl (Nat.le_of_ble_eq_true rfl) (Nat.le_of_ble_eq_true rfl) (fun r43 => ?_)
    show K G (mi_X8_evening 7) (e_X8_evening m0 q) 165 [(0, .ref 0)] [.long r43] (w42 :: q) _
    refine K_ldc2 (v := 123581014175598) dX8_evening_165 cst_X8_198 ?_
    refine K_lcmp dX8_evening_168 ?_
    refine K_if_ne 179 dX8_evening_169 rfl (fun _ => ?_) (fun _ => ?_)
    · refine K_loc [0] (lv' := [(0, .ref 0)]) rfl ?_
      exact hk w42
    · refine K_aload_n 0 dX8_evening_172 rfl ?_
      refine K_callV (E' := e_X8_readPerson w42 q) (b := 0) (As := []) (rest := []) dX8_evening_173 ml_X8_200 (mf_X8_readPerson 5) mv_X8_readPerson (fun hj r hr => c_X8_readPerson hj w42 q  hr) (rcv_obj (q := (RX8, TX8, 37)) kl_0 rfl) rfl rfl (Nat.le_of_ble_eq_true rfl) (Nat.le_of_ble_eq_true rfl) (fun r44 => ?_)
      show K G (mi_X8_evening 7) (e_X8_evening m0 q) 176 [(0, .ref 0)] [] (r44 :: q) _
      refine K_goto 161 dX8_evening_176 rfl ?_
      refine K_loc [0] (lv' := [(0, .ref 0)]) rfl ?_
      exact ih r44
theorem k_X8_evening_L179 {G : GE} (m0 : Mem) (q : List Mem) (k : Mem → Option (Int32 × Mem)) (hk : ∀ (w46 : Mem), K G (mi_X8_evening 7) (e_X8_evening m0 q) 197 [(0, .ref 0)] [] (w46 :: q) (k w46)) : ∀ (t : Nat) (w46 : Mem), K G (mi_X8_evening 7) (e_X8_evening m0 q) 179 [(0, .ref 0)] [] (w46 :: q) (f_X8_evening_L179 k t w46) := by
  intro t
  induction t with
  | zero => intro w46; exact K_none
  | succ t ih =>
    intro w46
    rw [f_X8_evening_L179]
    refine K_aload_n 0 dX8_evening_179 rfl ?_
    refine K_callV (E' := e_X8_name w46 q) (b := 0) (As := []) (rest := []) dX8_evening_180 ml_X8_172 (mf_X8_name 1) mv_X8_name (fun hj r hr => c_X8_name hj w46 q  hr) (rcv_obj (q := (RX8, TX8, 37)) kl_0 rfl) rfl rfl (Nat.le_of_ble_eq_true rfl) (Nat.le_of_ble_eq_true rfl) (fun r47 => ?_)
    show K G (mi_X8_evening 7) (e_X8_evening m0 q) 183 [(0, .ref 0)] [.long r47] (w46 :: q) _
    refine K_ldc2 (v := 6513010) dX8_evening_183 cst_X8_203 ?_
    refine K_lcmp dX8_evening_186 ?_
    refine K_if_ne 197 dX8_evening_187 rfl (fun _ => ?_) (fun _ => ?_)
    · refine K_loc [0] (lv' := [(0, .ref 0)]) rfl ?_
      exact hk w46
    · refine K_aload_n 0 dX8_evening_190 rfl ?_
      refine K_callV (E' := e_X8_readCar w46 q) (b := 0) (As := []) (rest := []) dX8_evening_191 ml_X8_205 (mf_X8_readCar 5) mv_X8_readCar (fun hj r hr => c_X8_readCar hj w46 q  hr) (rcv_obj (q := (RX8, TX8, 37)) kl_0 rfl) rfl rfl (Nat.le_of_ble_eq_true rfl) (Nat.le_of_ble_eq_true rfl) (fun r48 => ?_)
      show K G (mi_X8_evening 7) (e_X8_evening m0 q) 194 [(0, .ref 0)] [] (r48 :: q) _
      refine K_goto 179 dX8_evening_194 rfl ?_
      refine K_loc [0] (lv' := [(0, .ref 0)]) rfl ?_
      exact ih r48
theorem k_X8_evening_L197 {G : GE} (m0 : Mem) (q : List Mem) (k : Mem → Option (Int32 × Mem)) (hk : ∀ (w50 : Mem), K G (mi_X8_evening 7) (e_X8_evening m0 q) 215 [(0, .ref 0)] [] (w50 :: q) (k w50)) : ∀ (t : Nat) (w50 : Mem), K G (mi_X8_evening 7) (e_X8_evening m0 q) 197 [(0, .ref 0)] [] (w50 :: q) (f_X8_evening_L197 k t w50) := by
  intro t
  induction t with
  | zero => intro w50; exact K_none
  | succ t ih =>
    intro w50
    rw [f_X8_evening_L197]
    refine K_aload_n 0 dX8_evening_197 rfl ?_
    refine K_callV (E' := e_X8_name w50 q) (b := 0) (As := []) (rest := []) dX8_evening_198 ml_X8_172 (mf_X8_name 1) mv_X8_name (fun hj r hr => c_X8_name hj w50 q  hr) (rcv_obj (q := (RX8, TX8, 37)) kl_0 rfl) rfl rfl (Nat.le_of_ble_eq_true rfl) (Nat.le_of_ble_eq_true rfl) (fun r51 => ?_)
    show K G (mi_X8_evening 7) (e_X8_evening m0 q) 201 [(0, .ref 0)] [.long r51] (w50 :: q) _
    refine K_ldc2 (v := 31935733760681324) dX8_evening_201 cst_X8_208 ?_
    refine K_lcmp dX8_evening_204 ?_
    refine K_if_ne 215 dX8_evening_205 rfl (fun _ => ?_) (fun _ => ?_)
    · refine K_loc [0] (lv' := [(0, .ref 0)]) rfl ?_
      exact hk w50
    · refine K_aload_n 0 dX8_evening_208 rfl ?_
      refine K_callV (E' := e_X8_readQuarrel w50 q) (b := 0) (As := []) (rest := []) dX8_evening_209 ml_X8_210 (mf_X8_readQuarrel 6) mv_X8_readQuarrel (fun hj r hr => c_X8_readQuarrel hj w50 q  hr) (rcv_obj (q := (RX8, TX8, 37)) kl_0 rfl) rfl rfl (Nat.le_of_ble_eq_true rfl) (Nat.le_of_ble_eq_true rfl) (fun r52 => ?_)
      show K G (mi_X8_evening 7) (e_X8_evening m0 q) 212 [(0, .ref 0)] [] (r52 :: q) _
      refine K_goto 197 dX8_evening_212 rfl ?_
      refine K_loc [0] (lv' := [(0, .ref 0)]) rfl ?_
      exact ih r52
theorem k_X8_evening_L274 {G : GE} (m0 : Mem) (q : List Mem) (k : Int32 → Mem → Option (Int32 × Mem)) (hk : ∀ (u60 : Int32) (w61 : Mem), K G (mi_X8_evening 7) (e_X8_evening m0 q) 298 [(0, .ref 0), (1, .int u60)] [] (w61 :: q) (k u60 w61)) : ∀ (t : Nat) (u60 : Int32) (w61 : Mem), K G (mi_X8_evening 7) (e_X8_evening m0 q) 274 [(0, .ref 0), (1, .int u60)] [] (w61 :: q) (f_X8_evening_L274 k t u60 w61) := by
  intro t
  induction t with
  | zero => intro u60 w61; exact K_none
  | succ t ih =>
    intro u60 w61
    rw [f_X8_evening_L274]
    refine K_iload_n 1 dX8_evening_274 rfl ?_
    refine K_bipush (v := 109) dX8_evening_275 (by decide) ?_
    refine K_icmp_ge 298 dX8_evening_277 rfl (fun _ => ?_) (fun _ => ?_)
    · refine K_loc [0, 1] (lv' := [(0, .ref 0), (1, .int u60)]) rfl ?_
      exact hk u60 w61
    · refine K_aload_n 0 dX8_evening_280 rfl ?_
      refine K_get (v := .ref 6) dX8_evening_281 fl_X8_19 kl_0 rfl rfl ?_
      refine K_iload_n 1 dX8_evening_284 rfl ?_
      refine K_aload_n 0 dX8_evening_285 rfl ?_
      refine K_get (v := .ref 7) dX8_evening_286 fl_X8_22 kl_0 rfl rfl ?_
      refine K_iload_n 1 dX8_evening_289 rfl ?_
      refine K_iald (f := w61 7) dX8_evening_290 kl_7 rfl ?_
      refine K_iast (Ms' := ((up w61 6 u60.toNatClampNeg (w61 7 u60.toNatClampNeg)) :: q)) dX8_evening_291 kl_6 (Nat.succ_pos _) rfl ?_
      refine K_nmm (fun w => (w :: q)) rfl (fun w62 => ?_)
      refine K_iinc 1 (w := u60 + 1) (lv' := [(1, .int (u60 + 1)), (0, .ref 0)]) dX8_evening_292 rfl rfl (by decide) rfl ?_
      refine K_goto 274 dX8_evening_295 rfl ?_
      refine K_loc [1, 0] (lv' := [(0, .ref 0), (1, .int (u60 + 1))]) rfl ?_
      exact ih (u60 + 1) w62
theorem k_X8_evening {G : GE} (m0 : Mem) (q : List Mem)  : K G (mi_X8_evening 7) (e_X8_evening m0 q) 0 [(0, .ref 0)] [] (m0 :: q) (f_X8_evening m0) := by
  unfold f_X8_evening
  refine K_aload_n 0 dX8_evening_0 rfl ?_
  refine K_iconst (v := 0) dX8_evening_1 (by decide) ?_
  refine K_put (Ms' := ((up m0 0 0 0) :: q)) dX8_evening_2 fp_X8_68 kl_0 rfl rfl rfl (Nat.succ_pos _) rfl ?_
  refine K_nmm (fun w => (w :: q)) rfl (fun w11 => ?_)
  refine K_aload_n 0 dX8_evening_5 rfl ?_
  refine K_callV (E' := e_X8_begin w11 q) (b := 0) (As := []) (rest := []) dX8_evening_6 ml_X8_183 (mf_X8_begin 3) mv_X8_begin (fun hj r hr => c_X8_begin hj w11 q  hr) (rcv_obj (q := (RX8, TX8, 37)) kl_0 rfl) rfl rfl (Nat.le_of_ble_eq_true rfl) (Nat.le_of_ble_eq_true rfl) (fun r12 => ?_)
  show K G (mi_X8_evening 7) (e_X8_evening m0 q) 9 [(0, .ref 0)] [] (r12 :: q) _
  refine K_iconst (v := 0) dX8_evening_9 (by decide) ?_
  refine K_istore_n (lv' := [(1, .int 0), (0, .ref 0)]) dX8_evening_10 (by decide) rfl ?_
  refine K_loc [1, 0] (lv' := [(0, .ref 0), (1, .int 0)]) rfl ?_
  refine k_X8_evening_L11  m0 q  _ (fun u18 w19 => ?_) 100000 0 r12
  refine K_iconst (v := 0) dX8_evening_48 (by decide) ?_
  refine K_istore_n (lv' := [(1, .int 0), (0, .ref 0)]) dX8_evening_49 (by decide) rfl ?_
  refine K_loc [1, 0] (lv' := [(0, .ref 0), (1, .int 0)]) rfl ?_
  refine k_X8_evening_L50  m0 q  _ (fun u23 w24 => ?_) 100000 0 w19
  refine K_aload_n 0 dX8_evening_75 rfl ?_
  refine K_aload_n 0 dX8_evening_76 rfl ?_
  refine K_callV (E' := e_X8_name w24 q) (b := 0) (As := []) (rest := [.ref 0]) dX8_evening_77 ml_X8_172 (mf_X8_name 1) mv_X8_name (fun hj r hr => c_X8_name hj w24 q  hr) (rcv_obj (q := (RX8, TX8, 37)) kl_0 rfl) rfl rfl (Nat.le_of_ble_eq_true rfl) (Nat.le_of_ble_eq_true rfl) (fun r25 => ?_)
  show K G (mi_X8_evening 7) (e_X8_evening m0 q) 80 [(0, .ref 0), (1, .int u23)] [.long r25, .ref 0] (w24 :: q) _
  refine K_ldc2 (v := 7102839) dX8_evening_80 cst_X8_186 ?_
  refine K_lcmp dX8_evening_83 ?_
  refine K_pick (fun j27 => (if (lg_cmp r25 7102839) = 0 then (j27 1) else (j27 0))) (fun j27 => ∀ a26 : Int32, K G (mi_X8_evening 7) (e_X8_evening m0 q) 92 [(0, .ref 0)] [.int a26, .ref 0] (w24 :: q) (j27 a26)) (fun j27 => by simp only [apply_ite j27]) (fun a26 => ?_) (fun j27 hj27 => ?_)
  · refine K_callV (E' := e_X8_must w24 q) (b := 0) (As := [.int a26]) (rest := []) dX8_evening_92 ml_X8_143 (mf_X8_must 3) mv_X8_must (fun hj r hr => c_X8_must hj w24 q a26 hr) (rcv_obj (q := (RX8, TX8, 37)) kl_0 rfl) rfl rfl (Nat.le_of_ble_eq_true rfl) (Nat.le_of_ble_eq_true rfl) (fun r28 => ?_)
    show K G (mi_X8_evening 7) (e_X8_evening m0 q) 95 [(0, .ref 0)] [] (r28 :: q) _
    refine K_aload_n 0 dX8_evening_95 rfl ?_
    refine K_get (v := .ref 7) dX8_evening_96 fl_X8_22 kl_0 rfl rfl ?_
    refine K_iconst (v := 0) dX8_evening_99 (by decide) ?_
    refine K_aload_n 0 dX8_evening_100 rfl ?_
    refine K_iconst (v := 0) dX8_evening_101 (by decide) ?_
    refine K_bipush (v := 50) dX8_evening_102 (by decide) ?_
    refine K_callV (E' := e_X8_number r28 q) (b := 0) (As := [.int 0, .int 50]) (rest := [.int 0, .ref 7]) dX8_evening_104 ml_X8_157 (mf_X8_number 4) mv_X8_number (fun hj r hr => c_X8_number hj r28 q (0 : Int32) (50 : Int32) hr) (rcv_obj (q := (RX8, TX8, 37)) kl_0 rfl) rfl rfl (Nat.le_of_ble_eq_true rfl) (Nat.le_of_ble_eq_true rfl) (fun r29 => ?_)
    show K G (mi_X8_evening 7) (e_X8_evening m0 q) 107 [(0, .ref 0)] [.int r29.1, .int 0, .ref 7] (r29.2 :: q) _
    refine K_iast (Ms' := ((up r29.2 7 (0 : Int32).toNatClampNeg r29.1) :: q)) dX8_evening_107 kl_7 (Nat.succ_pos _) rfl ?_
    refine K_nmm (fun w => (w :: q)) rfl (fun w30 => ?_)
    refine K_aload_n 0 dX8_evening_108 rfl ?_
    refine K_get (v := .ref 7) dX8_evening_109 fl_X8_22 kl_0 rfl rfl ?_
    refine K_iconst (v := 1) dX8_evening_112 (by decide) ?_
    refine K_aload_n 0 dX8_evening_113 rfl ?_
    refine K_iconst (v := 1) dX8_evening_114 (by decide) ?_
    refine K_bipush (v := 20) dX8_evening_115 (by decide) ?_
    refine K_callV (E' := e_X8_number w30 q) (b := 0) (As := [.int 1, .int 20]) (rest := [.int 1, .ref 7]) dX8_evening_117 ml_X8_157 (mf_X8_number 4) mv_X8_number (fun hj r hr => c_X8_number hj w30 q (1 : Int32) (20 : Int32) hr) (rcv_obj (q := (RX8, TX8, 37)) kl_0 rfl) rfl rfl (Nat.le_of_ble_eq_true rfl) (Nat.le_of_ble_eq_true rfl) (fun r31 => ?_)
    show K G (mi_X8_evening 7) (e_X8_evening m0 q) 120 [(0, .ref 0)] [.int r31.1, .int 1, .ref 7] (r31.2 :: q) _
    refine K_iast (Ms' := ((up r31.2 7 (1 : Int32).toNatClampNeg r31.1) :: q)) dX8_evening_120 kl_7 (Nat.succ_pos _) rfl ?_
    refine K_nmm (fun w => (w :: q)) rfl (fun w32 => ?_)
    refine K_aload_n 0 dX8_evening_121 rfl ?_
    refine K_callV (E' := e_X8_mustEnd w32 q) (b := 0) (As := []) (rest := []) dX8_evening_122 ml_X8_169 (mf_X8_mustEnd 4) mv_X8_mustEnd (fun hj r hr => c_X8_mustEnd hj w32 q  hr) (rcv_obj (q := (RX8, TX8, 37)) kl_0 rfl) rfl rfl (Nat.le_of_ble_eq_true rfl) (Nat.le_of_ble_eq_true rfl) (fun r33 => ?_)
    show K G (mi_X8_evening 7) (e_X8_evening m0 q) 125 [(0, .ref 0)] [] (r33 :: q) _
    refine K_loc [0] (lv' := [(0, .ref 0)]) rfl ?_
    refine k_X8_evening_L125  m0 q  _ (fun w37 => ?_) 100000 r33
    refine K_loc [0] (lv' := [(0, .ref 0)]) rfl ?_
    refine k_X8_evening_L143  m0 q  _ (fun w41 => ?_) 100000 w37
    refine K_loc [0] (lv' := [(0, .ref 0)]) rfl ?_
    refine k_X8_evening_L161  m0 q  _ (fun w45 => ?_) 100000 w41
    refine K_loc [0] (lv' := [(0, .ref 0)]) rfl ?_
    refine k_X8_evening_L179  m0 q  _ (fun w49 => ?_) 100000 w45
    refine K_loc [0] (lv' := [(0, .ref 0)]) rfl ?_
    refine k_X8_evening_L197  m0 q  _ (fun w53 => ?_) 100000 w49
    refine K_aload_n 0 dX8_evening_215 rfl ?_
    refine K_get (v := .int (w53 0 19)) dX8_evening_216 fl_X8_126 kl_0 rfl rfl ?_
    refine K_jn (fun j56 => ∀ a55 : Mem, K G (mi_X8_evening 7) (e_X8_evening m0 q) 235 [(0, .ref 0)] [] (a55 :: q) (j56 a55)) (fun a55 => ?_) (fun j56 hj56 => ?_)
    · refine K_aload_n 0 dX8_evening_235 rfl ?_
      refine K_get (v := .int (a55 0 19)) dX8_evening_236 fl_X8_126 kl_0 rfl rfl ?_
      refine K_if_le 258 dX8_evening_239 rfl (fun _ => ?_) (fun _ => ?_)
      · refine K_aload_n 0 dX8_evening_258 rfl ?_
        refine K_iconst (v := 1) dX8_evening_259 (by decide) ?_
        refine K_put (Ms' := ((up a55 0 7 1) :: q)) dX8_evening_260 fp_X8_217 kl_0 rfl rfl rfl (Nat.succ_pos _) rfl ?_
        refine K_nmm (fun w => (w :: q)) rfl (fun w57 => ?_)
        refine K_aload_n 0 dX8_evening_263 rfl ?_
        refine K_iconst (v := 0) dX8_evening_264 (by decide) ?_
        refine K_put (Ms' := ((up w57 0 10 0) :: q)) dX8_evening_265 fp_X8_221 kl_0 rfl rfl rfl (Nat.succ_pos _) rfl ?_
        refine K_nmm (fun w => (w :: q)) rfl (fun w58 => ?_)
        refine K_aload_n 0 dX8_evening_268 rfl ?_
        refine K_callV (E' := e_X8_layFar w58 q) (b := 0) (As := []) (rest := []) dX8_evening_269 ml_X8_224 (mf_X8_layFar 1) mv_X8_layFar (fun hj r hr => c_X8_layFar hj w58 q  hr) (rcv_obj (q := (RX8, TX8, 37)) kl_0 rfl) rfl rfl (Nat.le_of_ble_eq_true rfl) (Nat.le_of_ble_eq_true rfl) (fun r59 => ?_)
        show K G (mi_X8_evening 7) (e_X8_evening m0 q) 272 [(0, .ref 0)] [] (r59 :: q) _
        refine K_iconst (v := 0) dX8_evening_272 (by decide) ?_
        refine K_istore_n (lv' := [(1, .int 0), (0, .ref 0)]) dX8_evening_273 (by decide) rfl ?_
        refine K_loc [1, 0] (lv' := [(0, .ref 0), (1, .int 0)]) rfl ?_
        refine k_X8_evening_L274  m0 q  _ (fun u63 w64 => ?_) 100000 0 r59
        refine K_aload_n 0 dX8_evening_298 rfl ?_
        refine K_get (v := .ref 6) dX8_evening_299 fl_X8_19 kl_0 rfl rfl ?_
        refine K_iconst (v := 4) dX8_evening_302 (by decide) ?_
        refine K_iald (f := w64 6) dX8_evening_303 kl_6 rfl ?_
        exact K_ret (rv := some (.int (w64 6 (4 : Int32).toNatClampNeg))) dX8_evening_304 rfl rfl rfl
      · refine K_aload_n 0 dX8_evening_242 rfl ?_
        refine K_aload_n 0 dX8_evening_243 rfl ?_
        refine K_get (v := .int (a55 0 19)) dX8_evening_244 fl_X8_126 kl_0 rfl rfl ?_
        refine K_put (Ms' := ((up a55 0 13 (a55 0 19)) :: q)) dX8_evening_247 fp_X8_213 kl_0 rfl rfl rfl (Nat.succ_pos _) rfl ?_
        refine K_nmm (fun w => (w :: q)) rfl (fun w65 => ?_)
        refine K_ldc (v := (-1000100)) dX8_evening_250 cst_X8_216 ?_
        refine K_aload_n 0 dX8_evening_252 rfl ?_
        refine K_get (v := .int (w65 0 20)) dX8_evening_253 fl_X8_132 kl_0 rfl rfl ?_
        refine K_isub dX8_evening_256 ?_
        exact K_ret (rv := some (.int ((-1000100) - (w65 0 20)))) dX8_evening_257 rfl rfl rfl
    · refine K_if_ne 235 dX8_evening_219 rfl (fun _ => ?_) (fun _ => ?_)
      · exact hj56 w53
      · refine K_aload_n 0 dX8_evening_222 rfl ?_
        refine K_get (v := .int (w53 0 16)) dX8_evening_223 fl_X8_114 kl_0 rfl rfl ?_
        refine K_iconst (v := 1) dX8_evening_226 (by decide) ?_
        refine K_icmp_eq 235 dX8_evening_227 rfl (fun _ => ?_) (fun _ => ?_)
        · exact hj56 w53
        · refine K_aload_n 0 dX8_evening_230 rfl ?_
          refine K_iconst (v := 1) dX8_evening_231 (by decide) ?_
          refine K_callV (E' := e_X8_bad w53 q) (b := 0) (As := [.int 1]) (rest := []) dX8_evening_232 ml_X8_135 (mf_X8_bad 1) mv_X8_bad (fun hj r hr => c_X8_bad hj w53 q (1 : Int32) hr) (rcv_obj (q := (RX8, TX8, 37)) kl_0 rfl) rfl rfl (Nat.le_of_ble_eq_true rfl) (Nat.le_of_ble_eq_true rfl) (fun r54 => ?_)
          show K G (mi_X8_evening 7) (e_X8_evening m0 q) 235 [(0, .ref 0)] [] (r54 :: q) _
          exact hj56 r54
  · refine K_if_ne 91 dX8_evening_84 rfl (fun _ => ?_) (fun _ => ?_)
    · refine K_iconst (v := 0) dX8_evening_91 (by decide) ?_
      refine K_loc [0] (lv' := [(0, .ref 0)]) rfl ?_
      exact hj27 0
    · refine K_iconst (v := 1) dX8_evening_87 (by decide) ?_
      refine K_goto 92 dX8_evening_88 rfl ?_
      refine K_loc [0] (lv' := [(0, .ref 0)]) rfl ?_
      exact hj27 1
theorem c_X8_evening {G : GE} (hj : dj G) (m0 : Mem) (q : List Mem)  {r : Int32 × Mem} (hr : f_X8_evening m0 = some r) : Ctr G yX8_evening (mi_X8_evening 7) [.ref 0] (m0 :: q) ((e_X8_evening m0 q) r).1 ((e_X8_evening m0 q) r).2 := Ctr_of hj (by decide) rfl hr rfl (Nat.le_of_ble_eq_true rfl) (k_X8_evening m0 q )
abbrev e_X8_fault (m0 : Mem) (q : List Mem) : (Int32 × Mem) → Option Value × List Mem := fun r => (some (.int r.1), (r.2 :: q))
theorem k_X8_fault {G : GE} (m0 : Mem) (q : List Mem)  : K G (mi_X8_fault 1) (e_X8_fault m0 q) 0 [(0, .ref 0)] [] (m0 :: q) (f_X8_fault m0) := by
  unfold f_X8_fault
  refine K_aload_n 0 dX8_fault_0 rfl ?_
  refine K_iconst (v := 0) dX8_fault_1 (by decide) ?_
  refine K_put (Ms' := ((up m0 0 0 0) :: q)) dX8_fault_2 fp_X8_68 kl_0 rfl rfl rfl (Nat.succ_pos _) rfl ?_
  refine K_nmm (fun w => (w :: q)) rfl (fun w11 => ?_)
  refine K_aload_n 0 dX8_fault_5 rfl ?_
  refine K_get (v := .int (w11 0 13)) dX8_fault_6 fl_X8_213 kl_0 rfl rfl ?_
  exact K_ret (rv := some (.int (w11 0 13))) dX8_fault_9 rfl rfl rfl
theorem c_X8_fault {G : GE} (hj : dj G) (m0 : Mem) (q : List Mem)  {r : Int32 × Mem} (hr : f_X8_fault m0 = some r) : Ctr G yX8_fault (mi_X8_fault 1) [.ref 0] (m0 :: q) ((e_X8_fault m0 q) r).1 ((e_X8_fault m0 q) r).2 := Ctr_of hj (by decide) rfl hr rfl (Nat.le_of_ble_eq_true rfl) (k_X8_fault m0 q )
abbrev e_X8_isPerson (m0 : Mem) (q : List Mem) : Int32 → Option Value × List Mem := fun r => (some (.int r), (m0 :: q))
theorem k_X8_isPerson {G : GE} (m0 : Mem) (q : List Mem) (x1 : Int32) : K G (mi_X8_isPerson 2) (e_X8_isPerson m0 q) 0 [(0, .ref 0), (1, .int x1)] [] (m0 :: q) (f_X8_isPerson m0 x1) := by
  unfold f_X8_isPerson
  refine K_iload_n 1 dX8_isPerson_0 rfl ?_
  refine K_i2l dX8_isPerson_1 ?_
  refine K_lconst (v := 0) dX8_isPerson_2 (by decide) ?_
  refine K_aload_n 0 dX8_isPerson_3 rfl ?_
  refine K_get (v := .ref 6) dX8_isPerson_4 fl_X8_19 kl_0 rfl rfl ?_
  refine K_iconst (v := 4) dX8_isPerson_7 (by decide) ?_
  refine K_iald (f := m0 6) dX8_isPerson_8 kl_6 rfl ?_
  refine K_iconst (v := 1) dX8_isPerson_9 (by decide) ?_
  refine K_isub dX8_isPerson_10 ?_
  refine K_i2l dX8_isPerson_11 ?_
  refine K_callS (E' := e_X8_in (m0 :: q)) (As := [.long x1.toInt64, .long 0, .long (((m0 6 (4 : Int32).toNatClampNeg) - 1).toInt64)]) (rest := []) dX8_isPerson_12 ml_X8_78 (mf_X8_in 1) ms_X8_in (fun hj r hr => c_X8_in hj (m0 :: q) x1.toInt64 (0 : Int64) (((m0 6 (4 : Int32).toNatClampNeg) - 1).toInt64) hr) rfl rfl (Nat.le_of_ble_eq_true rfl) (Nat.le_of_ble_eq_true rfl) (fun r11 => ?_)
  show K G (mi_X8_isPerson 2) (e_X8_isPerson m0 q) 15 [(0, .ref 0), (1, .int x1)] [.int r11] (m0 :: q) _
  exact K_retB dX8_isPerson_15 rfl rfl
theorem c_X8_isPerson {G : GE} (hj : dj G) (m0 : Mem) (q : List Mem) (x1 : Int32) {r : Int32} (hr : f_X8_isPerson m0 x1 = some r) : Ctr G yX8_isPerson (mi_X8_isPerson 2) [.ref 0, .int x1] (m0 :: q) ((e_X8_isPerson m0 q) r).1 ((e_X8_isPerson m0 q) r).2 := Ctr_of hj (by decide) rfl hr rfl (Nat.le_of_ble_eq_true rfl) (k_X8_isPerson m0 q x1)
abbrev e_X8_of (m0 : Mem) (q : List Mem) : Int32 → Option Value × List Mem := fun r => (some (.int r), (m0 :: q))
theorem k_X8_of {G : GE} (m0 : Mem) (q : List Mem) (x1 : Int32) (x2 : Int32) : K G (mi_X8_of 1) (e_X8_of m0 q) 0 [(0, .ref 0), (1, .int x1), (2, .int x2)] [] (m0 :: q) (f_X8_of m0 x1 x2) := by
  unfold f_X8_of
  refine K_aload_n 0 dX8_of_0 rfl ?_
  refine K_get (v := .ref 6) dX8_of_1 fl_X8_19 kl_0 rfl rfl ?_
  refine K_bipush (v := 72) dX8_of_4 (by decide) ?_
  refine K_iconst (v := 4) dX8_of_6 (by decide) ?_
  refine K_iload_n 1 dX8_of_7 rfl ?_
  refine K_imul dX8_of_8 ?_
  refine K_iadd dX8_of_9 ?_
  refine K_iload_n 2 dX8_of_10 rfl ?_
  refine K_iadd dX8_of_11 ?_
  refine K_iald (f := m0 6) dX8_of_12 kl_6 rfl ?_
  exact K_ret (rv := some (.int (m0 6 ((72 + (4 * x1)) + x2).toNatClampNeg))) dX8_of_13 rfl rfl rfl
theorem c_X8_of {G : GE} (hj : dj G) (m0 : Mem) (q : List Mem) (x1 : Int32) (x2 : Int32) {r : Int32} (hr : f_X8_of m0 x1 x2 = some r) : Ctr G yX8_of (mi_X8_of 1) [.ref 0, .int x1, .int x2] (m0 :: q) ((e_X8_of m0 q) r).1 ((e_X8_of m0 q) r).2 := Ctr_of hj (by decide) rfl hr rfl (Nat.le_of_ble_eq_true rfl) (k_X8_of m0 q x1 x2)
abbrev e_X8_drink (m0 : Mem) (q : List Mem) : (Int32 × Mem) → Option Value × List Mem := fun r => (some (.int r.1), (r.2 :: q))
theorem k_X8_drink_L58 {G : GE} (m0 : Mem) (q : List Mem) (x1 : Int32) (x2 : Int32) (r14 : Int32) (k : Int32 → Mem → Option (Int32 × Mem)) (hk : ∀ (u15 : Int32) (w16 : Mem), K G (mi_X8_drink 3) (e_X8_drink m0 q) 103 [(0, .ref 0), (1, .int x1), (2, .int x2), (3, .int r14), (4, .int u15)] [] (w16 :: q) (k u15 w16)) : ∀ (t : Nat) (u15 : Int32) (w16 : Mem), K G (mi_X8_drink 3) (e_X8_drink m0 q) 58 [(0, .ref 0), (1, .int x1), (2, .int x2), (3, .int r14), (4, .int u15)] [] (w16 :: q) (f_X8_drink_L58 k t u15 w16) := by
  intro t
  induction t with
  | zero => intro u15 w16; exact K_none
  | succ t ih =>
    intro u15 w16
    rw [f_X8_drink_L58]
    refine K_iload 4 dX8_drink_58 rfl ?_
    refine K_bipush (v := 24) dX8_drink_60 (by decide) ?_
    refine K_icmp_ge 103 dX8_drink_62 rfl (fun _ => ?_) (fun _ => ?_)
    · refine K_loc [0, 1, 2, 3, 4] (lv' := [(0, .ref 0), (1, .int x1), (2, .int x2), (3, .int r14), (4, .int u15)]) rfl ?_
      exact hk u15 w16
    · refine K_aload_n 0 dX8_drink_65 rfl ?_
      refine K_get (v := .ref 9) dX8_drink_66 fl_X8_25 kl_0 rfl rfl ?_
      refine K_iload 4 dX8_drink_69 rfl ?_
      refine K_iconst (v := 1) dX8_drink_71 (by decide) ?_
      refine K_isub dX8_drink_72 ?_
      refine K_aload_n 0 dX8_drink_73 rfl ?_
      refine K_get (v := .ref 9) dX8_drink_74 fl_X8_25 kl_0 rfl rfl ?_
      refine K_iload 4 dX8_drink_77 rfl ?_
      refine K_iald (f := w16 9) dX8_drink_79 kl_9 rfl ?_
      refine K_iast (Ms' := ((up w16 9 (u15 - 1).toNatClampNeg (w16 9 u15.toNatClampNeg)) :: q)) dX8_drink_80 kl_9 (Nat.succ_pos _) rfl ?_
      refine K_nmm (fun w => (w :: q)) rfl (fun w17 => ?_)
      refine K_aload_n 0 dX8_drink_81 rfl ?_
      refine K_get (v := .ref 10) dX8_drink_82 fl_X8_28 kl_0 rfl rfl ?_
      refine K_iload 4 dX8_drink_85 rfl ?_
      refine K_iconst (v := 1) dX8_drink_87 (by decide) ?_
      refine K_isub dX8_drink_88 ?_
      refine K_aload_n 0 dX8_drink_89 rfl ?_
      refine K_get (v := .ref 10) dX8_drink_90 fl_X8_28 kl_0 rfl rfl ?_
      refine K_iload 4 dX8_drink_93 rfl ?_
      refine K_iald (f := w17 10) dX8_drink_95 kl_10 rfl ?_
      refine K_iast (Ms' := ((up w17 10 (u15 - 1).toNatClampNeg (w17 10 u15.toNatClampNeg)) :: q)) dX8_drink_96 kl_10 (Nat.succ_pos _) rfl ?_
      refine K_nmm (fun w => (w :: q)) rfl (fun w18 => ?_)
      refine K_iinc 4 (w := u15 + 1) (lv' := [(4, .int (u15 + 1)), (0, .ref 0), (1, .int x1), (2, .int x2), (3, .int r14)]) dX8_drink_97 rfl rfl (by decide) rfl ?_
      refine K_goto 58 dX8_drink_100 rfl ?_
      refine K_loc [1, 2, 3, 4, 0] (lv' := [(0, .ref 0), (1, .int x1), (2, .int x2), (3, .int r14), (4, .int (u15 + 1))]) rfl ?_
      exact ih (u15 + 1) w18
theorem k_X8_drink {G : GE} (m0 : Mem) (q : List Mem) (x1 : Int32) (x2 : Int32) : K G (mi_X8_drink 3) (e_X8_drink m0 q) 0 [(0, .ref 0), (1, .int x1), (2, .int x2)] [] (m0 :: q) (f_X8_drink m0 x1 x2) := by
  unfold f_X8_drink
  refine K_aload_n 0 dX8_drink_0 rfl ?_
  refine K_iconst (v := 0) dX8_drink_1 (by decide) ?_
  refine K_put (Ms' := ((up m0 0 0 0) :: q)) dX8_drink_2 fp_X8_68 kl_0 rfl rfl rfl (Nat.succ_pos _) rfl ?_
  refine K_nmm (fun w => (w :: q)) rfl (fun w11 => ?_)
  refine K_aload_n 0 dX8_drink_5 rfl ?_
  refine K_iload_n 1 dX8_drink_6 rfl ?_
  refine K_callV (E' := e_X8_isPerson w11 q) (b := 0) (As := [.int x1]) (rest := []) dX8_drink_7 ml_X8_232 (mf_X8_isPerson 2) mv_X8_isPerson (fun hj r hr => c_X8_isPerson hj w11 q x1 hr) (rcv_obj (q := (RX8, TX8, 37)) kl_0 rfl) rfl rfl (Nat.le_of_ble_eq_true rfl) (Nat.le_of_ble_eq_true rfl) (fun r12 => ?_)
  show K G (mi_X8_drink 3) (e_X8_drink m0 q) 10 [(0, .ref 0), (1, .int x1), (2, .int x2)] [.int r12] (w11 :: q) _
  refine K_if_eq 25 dX8_drink_10 rfl (fun _ => ?_) (fun _ => ?_)
  · refine K_ldc (v := (-1000001)) dX8_drink_25 cst_X8_88 ?_
    exact K_ret (rv := some (.int (-1000001))) dX8_drink_27 rfl rfl rfl
  · refine K_iload_n 2 dX8_drink_13 rfl ?_
    refine K_i2l dX8_drink_14 ?_
    refine K_lconst (v := 1) dX8_drink_15 (by decide) ?_
    refine K_ldc2 (v := 9) dX8_drink_16 cst_X8_235 ?_
    refine K_callS (E' := e_X8_in (w11 :: q)) (As := [.long x2.toInt64, .long 1, .long 9]) (rest := []) dX8_drink_19 ml_X8_78 (mf_X8_in 1) ms_X8_in (fun hj r hr => c_X8_in hj (w11 :: q) x2.toInt64 (1 : Int64) (9 : Int64) hr) rfl rfl (Nat.le_of_ble_eq_true rfl) (Nat.le_of_ble_eq_true rfl) (fun r13 => ?_)
    show K G (mi_X8_drink 3) (e_X8_drink m0 q) 22 [(0, .ref 0), (1, .int x1), (2, .int x2)] [.int r13] (w11 :: q) _
    refine K_if_ne 28 dX8_drink_22 rfl (fun _ => ?_) (fun _ => ?_)
    · refine K_aload_n 0 dX8_drink_28 rfl ?_
      refine K_iload_n 1 dX8_drink_29 rfl ?_
      refine K_iconst (v := 2) dX8_drink_30 (by decide) ?_
      refine K_callV (E' := e_X8_of w11 q) (b := 0) (As := [.int x1, .int 2]) (rest := []) dX8_drink_31 ml_X8_237 (mf_X8_of 1) mv_X8_of (fun hj r hr => c_X8_of hj w11 q x1 (2 : Int32) hr) (rcv_obj (q := (RX8, TX8, 37)) kl_0 rfl) rfl rfl (Nat.le_of_ble_eq_true rfl) (Nat.le_of_ble_eq_true rfl) (fun r14 => ?_)
      show K G (mi_X8_drink 3) (e_X8_drink m0 q) 34 [(0, .ref 0), (1, .int x1), (2, .int x2)] [.int r14] (w11 :: q) _
      refine K_istore_n (lv' := [(3, .int r14), (0, .ref 0), (1, .int x1), (2, .int x2)]) dX8_drink_34 (by decide) rfl ?_
      refine K_iload_n 0 dX8_drink_35 rfl ?_
      refine K_iload_n 3 dX8_drink_36 rfl ?_
      refine K_iadd dX8_drink_37 ?_
      refine K_bipush (v := 99) dX8_drink_38 (by decide) ?_
      refine K_icmp_le 46 dX8_drink_40 rfl (fun _ => ?_) (fun _ => ?_)
      · refine K_aload_n 1 dX8_drink_46 rfl ?_
        refine K_get (v := .int (w11 0 10)) dX8_drink_47 fl_X8_221 kl_0 rfl rfl ?_
        refine K_bipush (v := 24) dX8_drink_50 (by decide) ?_
        refine K_jn (fun j23 => ∀ a22 : Mem, K G (mi_X8_drink 3) (e_X8_drink m0 q) 113 [(0, .ref 0), (1, .int x1), (2, .int x2), (3, .int r14)] [] (a22 :: q) (j23 a22)) (fun a22 => ?_) (fun j23 hj23 => ?_)
        · refine K_aload_n 0 dX8_drink_113 rfl ?_
          refine K_get (v := .ref 9) dX8_drink_114 fl_X8_25 kl_0 rfl rfl ?_
          refine K_aload_n 0 dX8_drink_117 rfl ?_
          refine K_get (v := .int (a22 0 10)) dX8_drink_118 fl_X8_221 kl_0 rfl rfl ?_
          refine K_iload_n 1 dX8_drink_121 rfl ?_
          refine K_iast (Ms' := ((up a22 9 (a22 0 10).toNatClampNeg x1) :: q)) dX8_drink_122 kl_9 (Nat.succ_pos _) rfl ?_
          refine K_nmm (fun w => (w :: q)) rfl (fun w24 => ?_)
          refine K_aload_n 0 dX8_drink_123 rfl ?_
          refine K_get (v := .ref 10) dX8_drink_124 fl_X8_28 kl_0 rfl rfl ?_
          refine K_aload_n 0 dX8_drink_127 rfl ?_
          refine K_get (v := .int (w24 0 10)) dX8_drink_128 fl_X8_221 kl_0 rfl rfl ?_
          refine K_iload_n 2 dX8_drink_131 rfl ?_
          refine K_iast (Ms' := ((up w24 10 (w24 0 10).toNatClampNeg x2) :: q)) dX8_drink_132 kl_10 (Nat.succ_pos _) rfl ?_
          refine K_nmm (fun w => (w :: q)) rfl (fun w25 => ?_)
          refine K_aload_n 0 dX8_drink_133 rfl ?_
          refine K_dup dX8_drink_134 rfl ?_
          refine K_get (v := .int (w25 0 10)) dX8_drink_135 fl_X8_221 kl_0 rfl rfl ?_
          refine K_iconst (v := 1) dX8_drink_138 (by decide) ?_
          refine K_iadd dX8_drink_139 ?_
          refine K_put (Ms' := ((up w25 0 10 ((w25 0 10) + 1)) :: q)) dX8_drink_140 fp_X8_221 kl_0 rfl rfl rfl (Nat.succ_pos _) rfl ?_
          refine K_nmm (fun w => (w :: q)) rfl (fun w26 => ?_)
          refine K_aload_n 0 dX8_drink_143 rfl ?_
          refine K_get (v := .ref 6) dX8_drink_144 fl_X8_19 kl_0 rfl rfl ?_
          refine K_bipush (v := 72) dX8_drink_147 (by decide) ?_
          refine K_iconst (v := 4) dX8_drink_149 (by decide) ?_
          refine K_iload_n 1 dX8_drink_150 rfl ?_
          refine K_imul dX8_drink_151 ?_
          refine K_iadd dX8_drink_152 ?_
          refine K_iconst (v := 2) dX8_drink_153 (by decide) ?_
          refine K_iadd dX8_drink_154 ?_
          refine K_iload_n 3 dX8_drink_155 rfl ?_
          refine K_iload_n 2 dX8_drink_156 rfl ?_
          refine K_iadd dX8_drink_157 ?_
          refine K_iast (Ms' := ((up w26 6 ((72 + (4 * x1)) + 2).toNatClampNeg (r14 + x2)) :: q)) dX8_drink_158 kl_6 (Nat.succ_pos _) rfl ?_
          refine K_nmm (fun w => (w :: q)) rfl (fun w27 => ?_)
          refine K_iload_n 3 dX8_drink_159 rfl ?_
          refine K_iload_n 2 dX8_drink_160 rfl ?_
          refine K_iadd dX8_drink_161 ?_
          exact K_ret (rv := some (.int (r14 + x2))) dX8_drink_162 rfl rfl rfl
        · refine K_icmp_ne 113 dX8_drink_52 rfl (fun _ => ?_) (fun _ => ?_)
          · refine K_loc [1, 2, 3, 0] (lv' := [(0, .ref 0), (1, .int x1), (2, .int x2), (3, .int r14)]) rfl ?_
            exact hj23 w11
          · refine K_iconst (v := 1) dX8_drink_55 (by decide) ?_
            refine K_istore (lv' := [(4, .int 1), (3, .int r14), (0, .ref 0), (1, .int x1), (2, .int x2)]) dX8_drink_56 (by decide) rfl ?_
            refine K_loc [2, 3, 4, 1, 0] (lv' := [(0, .ref 0), (1, .int x1), (2, .int x2), (3, .int r14), (4, .int 1)]) rfl ?_
            refine k_X8_drink_L58  m0 q x1 x2 r14 _ (fun u19 w20 => ?_) 100000 1 w11
            refine K_aload_n 0 dX8_drink_103 rfl ?_
            refine K_dup dX8_drink_104 rfl ?_
            refine K_get (v := .int (w20 0 10)) dX8_drink_105 fl_X8_221 kl_0 rfl rfl ?_
            refine K_iconst (v := 1) dX8_drink_108 (by decide) ?_
            refine K_isub dX8_drink_109 ?_
            refine K_put (Ms' := ((up w20 0 10 ((w20 0 10) - 1)) :: q)) dX8_drink_110 fp_X8_221 kl_0 rfl rfl rfl (Nat.succ_pos _) rfl ?_
            refine K_nmm (fun w => (w :: q)) rfl (fun w21 => ?_)
            refine K_loc [0, 1, 2, 3] (lv' := [(0, .ref 0), (1, .int x1), (2, .int x2), (3, .int r14)]) rfl ?_
            exact hj23 w21
      · refine K_ldc (v := (-1000003)) dX8_drink_43 cst_X8_98 ?_
        exact K_ret (rv := some (.int (-1000003))) dX8_drink_45 rfl rfl rfl
    · refine K_ldc (v := (-1000001)) dX8_drink_25 cst_X8_88 ?_
      exact K_ret (rv := some (.int (-1000001))) dX8_drink_27 rfl rfl rfl
theorem c_X8_drink {G : GE} (hj : dj G) (m0 : Mem) (q : List Mem) (x1 : Int32) (x2 : Int32) {r : Int32 × Mem} (hr : f_X8_drink m0 x1 x2 = some r) : Ctr G yX8_drink (mi_X8_drink 3) [.ref 0, .int x1, .int x2] (m0 :: q) ((e_X8_drink m0 q) r).1 ((e_X8_drink m0 q) r).2 := Ctr_of hj (by decide) rfl hr rfl (Nat.le_of_ble_eq_true rfl) (k_X8_drink m0 q x1 x2)
abbrev e_X8_undo (m0 : Mem) (q : List Mem) : (Int32 × Mem) → Option Value × List Mem := fun r => (some (.int r.1), (r.2 :: q))
theorem k_X8_undo {G : GE} (m0 : Mem) (q : List Mem)  : K G (mi_X8_undo 1) (e_X8_undo m0 q) 0 [(0, .ref 0)] [] (m0 :: q) (f_X8_undo m0) := by
  unfold f_X8_undo
  refine K_aload_n 0 dX8_undo_0 rfl ?_
  refine K_iconst (v := 0) dX8_undo_1 (by decide) ?_
  refine K_put (Ms' := ((up m0 0 0 0) :: q)) dX8_undo_2 fp_X8_68 kl_0 rfl rfl rfl (Nat.succ_pos _) rfl ?_
  refine K_nmm (fun w => (w :: q)) rfl (fun w11 => ?_)
  refine K_aload_n 0 dX8_undo_5 rfl ?_
  refine K_get (v := .int (w11 0 10)) dX8_undo_6 fl_X8_221 kl_0 rfl rfl ?_
  refine K_if_ne 15 dX8_undo_9 rfl (fun _ => ?_) (fun _ => ?_)
  · refine K_aload_n 0 dX8_undo_15 rfl ?_
    refine K_dup dX8_undo_16 rfl ?_
    refine K_get (v := .int (w11 0 10)) dX8_undo_17 fl_X8_221 kl_0 rfl rfl ?_
    refine K_iconst (v := 1) dX8_undo_20 (by decide) ?_
    refine K_isub dX8_undo_21 ?_
    refine K_put (Ms' := ((up w11 0 10 ((w11 0 10) - 1)) :: q)) dX8_undo_22 fp_X8_221 kl_0 rfl rfl rfl (Nat.succ_pos _) rfl ?_
    refine K_nmm (fun w => (w :: q)) rfl (fun w12 => ?_)
    refine K_aload_n 0 dX8_undo_25 rfl ?_
    refine K_get (v := .ref 6) dX8_undo_26 fl_X8_19 kl_0 rfl rfl ?_
    refine K_bipush (v := 72) dX8_undo_29 (by decide) ?_
    refine K_iconst (v := 4) dX8_undo_31 (by decide) ?_
    refine K_aload_n 0 dX8_undo_32 rfl ?_
    refine K_get (v := .ref 9) dX8_undo_33 fl_X8_25 kl_0 rfl rfl ?_
    refine K_aload_n 0 dX8_undo_36 rfl ?_
    refine K_get (v := .int (w12 0 10)) dX8_undo_37 fl_X8_221 kl_0 rfl rfl ?_
    refine K_iald (f := w12 9) dX8_undo_40 kl_9 rfl ?_
    refine K_imul dX8_undo_41 ?_
    refine K_iadd dX8_undo_42 ?_
    refine K_iconst (v := 2) dX8_undo_43 (by decide) ?_
    refine K_iadd dX8_undo_44 ?_
    refine K_dup2 dX8_undo_45 rfl rfl ?_
    refine K_iald (f := w12 6) dX8_undo_46 kl_6 rfl ?_
    refine K_aload_n 0 dX8_undo_47 rfl ?_
    refine K_get (v := .ref 10) dX8_undo_48 fl_X8_28 kl_0 rfl rfl ?_
    refine K_aload_n 0 dX8_undo_51 rfl ?_
    refine K_get (v := .int (w12 0 10)) dX8_undo_52 fl_X8_221 kl_0 rfl rfl ?_
    refine K_iald (f := w12 10) dX8_undo_55 kl_10 rfl ?_
    refine K_isub dX8_undo_56 ?_
    refine K_iast (Ms' := ((up w12 6 ((72 + (4 * (w12 9 (w12 0 10).toNatClampNeg))) + 2).toNatClampNeg ((w12 6 ((72 + (4 * (w12 9 (w12 0 10).toNatClampNeg))) + 2).toNatClampNeg) - (w12 10 (w12 0 10).toNatClampNeg))) :: q)) dX8_undo_57 kl_6 (Nat.succ_pos _) rfl ?_
    refine K_nmm (fun w => (w :: q)) rfl (fun w13 => ?_)
    refine K_aload_n 0 dX8_undo_58 rfl ?_
    refine K_get (v := .int (w13 0 10)) dX8_undo_59 fl_X8_221 kl_0 rfl rfl ?_
    exact K_ret (rv := some (.int (w13 0 10))) dX8_undo_62 rfl rfl rfl
  · refine K_ldc (v := (-1000002)) dX8_undo_12 cst_X8_240 ?_
    exact K_ret (rv := some (.int (-1000002))) dX8_undo_14 rfl rfl rfl
theorem c_X8_undo {G : GE} (hj : dj G) (m0 : Mem) (q : List Mem)  {r : Int32 × Mem} (hr : f_X8_undo m0 = some r) : Ctr G yX8_undo (mi_X8_undo 1) [.ref 0] (m0 :: q) ((e_X8_undo m0 q) r).1 ((e_X8_undo m0 q) r).2 := Ctr_of hj (by decide) rfl hr rfl (Nat.le_of_ble_eq_true rfl) (k_X8_undo m0 q )
abbrev e_X8_car0 (m0 : Mem) (q : List Mem) : Int32 → Option Value × List Mem := fun r => (some (.int r), (m0 :: q))
theorem k_X8_car0 {G : GE} (m0 : Mem) (q : List Mem) (x1 : Int32) (x2 : Int32) : K G (mi_X8_car0 1) (e_X8_car0 m0 q) 0 [(0, .ref 0), (1, .int x1), (2, .int x2)] [] (m0 :: q) (f_X8_car0 m0 x1 x2) := by
  unfold f_X8_car0
  refine K_aload_n 0 dX8_car0_0 rfl ?_
  refine K_get (v := .ref 6) dX8_car0_1 fl_X8_19 kl_0 rfl rfl ?_
  refine K_bipush (v := 100) dX8_car0_4 (by decide) ?_
  refine K_iconst (v := 3) dX8_car0_6 (by decide) ?_
  refine K_iload_n 1 dX8_car0_7 rfl ?_
  refine K_imul dX8_car0_8 ?_
  refine K_iadd dX8_car0_9 ?_
  refine K_iload_n 2 dX8_car0_10 rfl ?_
  refine K_iadd dX8_car0_11 ?_
  refine K_iald (f := m0 6) dX8_car0_12 kl_6 rfl ?_
  exact K_ret (rv := some (.int (m0 6 ((100 + (3 * x1)) + x2).toNatClampNeg))) dX8_car0_13 rfl rfl rfl
theorem c_X8_car0 {G : GE} (hj : dj G) (m0 : Mem) (q : List Mem) (x1 : Int32) (x2 : Int32) {r : Int32} (hr : f_X8_car0 m0 x1 x2 = some r) : Ctr G yX8_car0 (mi_X8_car0 1) [.ref 0, .int x1, .int x2] (m0 :: q) ((e_X8_car0 m0 q) r).1 ((e_X8_car0 m0 q) r).2 := Ctr_of hj (by decide) rfl hr rfl (Nat.le_of_ble_eq_true rfl) (k_X8_car0 m0 q x1 x2)
abbrev e_X8_carOf (m0 : Mem) (q : List Mem) : Int32 → Option Value × List Mem := fun r => (some (.int r), (m0 :: q))
theorem k_X8_carOf_L2 {G : GE} (m0 : Mem) (q : List Mem) (x1 : Int32) (k : Int32 → Option (Int32)) (hk : ∀ (u11 : Int32), K G (mi_X8_carOf 2) (e_X8_carOf m0 q) 30 [(0, .ref 0), (1, .int x1), (2, .int u11)] [] (m0 :: q) (k u11)) : ∀ (t : Nat) (u11 : Int32), K G (mi_X8_carOf 2) (e_X8_carOf m0 q) 2 [(0, .ref 0), (1, .int x1), (2, .int u11)] [] (m0 :: q) (f_X8_carOf_L2 k x1 m0 t u11) := by
  intro t
  induction t with
  | zero => intro u11; exact K_none
  | succ t ih =>
    intro u11
    rw [f_X8_carOf_L2]
    refine K_iload_n 2 dX8_carOf_2 rfl ?_
    refine K_aload_n 0 dX8_carOf_3 rfl ?_
    refine K_get (v := .ref 6) dX8_carOf_4 fl_X8_19 kl_0 rfl rfl ?_
    refine K_iconst (v := 5) dX8_carOf_7 (by decide) ?_
    refine K_iald (f := m0 6) dX8_carOf_8 kl_6 rfl ?_
    refine K_icmp_ge 30 dX8_carOf_9 rfl (fun _ => ?_) (fun _ => ?_)
    · refine K_loc [0, 1, 2] (lv' := [(0, .ref 0), (1, .int x1), (2, .int u11)]) rfl ?_
      exact hk u11
    · refine K_aload_n 0 dX8_carOf_12 rfl ?_
      refine K_iload_n 2 dX8_carOf_13 rfl ?_
      refine K_iconst (v := 0) dX8_carOf_14 (by decide) ?_
      refine K_callV (E' := e_X8_car0 m0 q) (b := 0) (As := [.int u11, .int 0]) (rest := []) dX8_carOf_15 ml_X8_229 (mf_X8_car0 1) mv_X8_car0 (fun hj r hr => c_X8_car0 hj m0 q u11 (0 : Int32) hr) (rcv_obj (q := (RX8, TX8, 37)) kl_0 rfl) rfl rfl (Nat.le_of_ble_eq_true rfl) (Nat.le_of_ble_eq_true rfl) (fun r12 => ?_)
      show K G (mi_X8_carOf 2) (e_X8_carOf m0 q) 18 [(0, .ref 0), (1, .int x1), (2, .int u11)] [.int r12] (m0 :: q) _
      refine K_iload_n 1 dX8_carOf_18 rfl ?_
      refine K_icmp_ne 24 dX8_carOf_19 rfl (fun _ => ?_) (fun _ => ?_)
      · refine K_iinc 2 (w := u11 + 1) (lv' := [(2, .int (u11 + 1)), (0, .ref 0), (1, .int x1)]) dX8_carOf_24 rfl rfl (by decide) rfl ?_
        refine K_goto 2 dX8_carOf_27 rfl ?_
        refine K_loc [1, 2, 0] (lv' := [(0, .ref 0), (1, .int x1), (2, .int (u11 + 1))]) rfl ?_
        exact ih (u11 + 1)
      · refine K_iload_n 2 dX8_carOf_22 rfl ?_
        exact K_ret (rv := some (.int u11)) dX8_carOf_23 rfl rfl rfl
theorem k_X8_carOf {G : GE} (m0 : Mem) (q : List Mem) (x1 : Int32) : K G (mi_X8_carOf 2) (e_X8_carOf m0 q) 0 [(0, .ref 0), (1, .int x1)] [] (m0 :: q) (f_X8_carOf m0 x1) := by
  unfold f_X8_carOf
  refine K_iconst (v := 0) dX8_carOf_0 (by decide) ?_
  refine K_istore_n (lv' := [(2, .int 0), (0, .ref 0), (1, .int x1)]) dX8_carOf_1 (by decide) rfl ?_
  refine K_loc [1, 2, 0] (lv' := [(0, .ref 0), (1, .int x1), (2, .int 0)]) rfl ?_
  refine k_X8_carOf_L2  m0 q x1 _ (fun u13 => ?_) 100000 0
  refine K_ldc (v := (-1000000)) dX8_carOf_30 cst_X8_104 ?_
  exact K_ret (rv := some (.int (-1000000))) dX8_carOf_32 rfl rfl rfl
theorem c_X8_carOf {G : GE} (hj : dj G) (m0 : Mem) (q : List Mem) (x1 : Int32) {r : Int32} (hr : f_X8_carOf m0 x1 = some r) : Ctr G yX8_carOf (mi_X8_carOf 2) [.ref 0, .int x1] (m0 :: q) ((e_X8_carOf m0 q) r).1 ((e_X8_carOf m0 q) r).2 := Ctr_of hj (by decide) rfl hr rfl (Nat.le_of_ble_eq_true rfl) (k_X8_carOf m0 q x1)
abbrev e_X8_person (m0 : Mem) (q : List Mem) : (Int32 × Mem) → Option Value × List Mem := fun r => (some (.int r.1), (r.2 :: q))
theorem k_X8_person {G : GE} (m0 : Mem) (q : List Mem) (x1 : Int32) (x2 : Int32) : K G (mi_X8_person 3) (e_X8_person m0 q) 0 [(0, .ref 0), (1, .int x1), (2, .int x2)] [] (m0 :: q) (f_X8_person m0 x1 x2) := by
  unfold f_X8_person
  refine K_aload_n 0 dX8_person_0 rfl ?_
  refine K_iconst (v := 0) dX8_person_1 (by decide) ?_
  refine K_put (Ms' := ((up m0 0 0 0) :: q)) dX8_person_2 fp_X8_68 kl_0 rfl rfl rfl (Nat.succ_pos _) rfl ?_
  refine K_nmm (fun w => (w :: q)) rfl (fun w11 => ?_)
  refine K_aload_n 0 dX8_person_5 rfl ?_
  refine K_iload_n 1 dX8_person_6 rfl ?_
  refine K_callV (E' := e_X8_isPerson w11 q) (b := 0) (As := [.int x1]) (rest := []) dX8_person_7 ml_X8_232 (mf_X8_isPerson 2) mv_X8_isPerson (fun hj r hr => c_X8_isPerson hj w11 q x1 hr) (rcv_obj (q := (RX8, TX8, 37)) kl_0 rfl) rfl rfl (Nat.le_of_ble_eq_true rfl) (Nat.le_of_ble_eq_true rfl) (fun r12 => ?_)
  show K G (mi_X8_person 3) (e_X8_person m0 q) 10 [(0, .ref 0), (1, .int x1), (2, .int x2)] [.int r12] (w11 :: q) _
  refine K_if_eq 25 dX8_person_10 rfl (fun _ => ?_) (fun _ => ?_)
  · refine K_ldc (v := (-1000001)) dX8_person_25 cst_X8_88 ?_
    exact K_ret (rv := some (.int (-1000001))) dX8_person_27 rfl rfl rfl
  · refine K_iload_n 2 dX8_person_13 rfl ?_
    refine K_i2l dX8_person_14 ?_
    refine K_lconst (v := 0) dX8_person_15 (by decide) ?_
    refine K_ldc2 (v := 3) dX8_person_16 cst_X8_241 ?_
    refine K_callS (E' := e_X8_in (w11 :: q)) (As := [.long x2.toInt64, .long 0, .long 3]) (rest := []) dX8_person_19 ml_X8_78 (mf_X8_in 1) ms_X8_in (fun hj r hr => c_X8_in hj (w11 :: q) x2.toInt64 (0 : Int64) (3 : Int64) hr) rfl rfl (Nat.le_of_ble_eq_true rfl) (Nat.le_of_ble_eq_true rfl) (fun r13 => ?_)
    show K G (mi_X8_person 3) (e_X8_person m0 q) 22 [(0, .ref 0), (1, .int x1), (2, .int x2)] [.int r13] (w11 :: q) _
    refine K_if_ne 28 dX8_person_22 rfl (fun _ => ?_) (fun _ => ?_)
    · refine K_iload_n 2 dX8_person_28 rfl ?_
      refine K_if_ne 41 dX8_person_29 rfl (fun _ => ?_) (fun _ => ?_)
      · refine K_iload_n 2 dX8_person_41 rfl ?_
        refine K_iconst (v := 1) dX8_person_42 (by decide) ?_
        refine K_icmp_ne 55 dX8_person_43 rfl (fun _ => ?_) (fun _ => ?_)
        · refine K_iload_n 2 dX8_person_55 rfl ?_
          refine K_iconst (v := 2) dX8_person_56 (by decide) ?_
          refine K_icmp_ne 68 dX8_person_57 rfl (fun _ => ?_) (fun _ => ?_)
          · refine K_aload_n 0 dX8_person_68 rfl ?_
            refine K_iload_n 1 dX8_person_69 rfl ?_
            refine K_iconst (v := 3) dX8_person_70 (by decide) ?_
            refine K_callV (E' := e_X8_of w11 q) (b := 0) (As := [.int x1, .int 3]) (rest := []) dX8_person_71 ml_X8_237 (mf_X8_of 1) mv_X8_of (fun hj r hr => c_X8_of hj w11 q x1 (3 : Int32) hr) (rcv_obj (q := (RX8, TX8, 37)) kl_0 rfl) rfl rfl (Nat.le_of_ble_eq_true rfl) (Nat.le_of_ble_eq_true rfl) (fun r14 => ?_)
            show K G (mi_X8_person 3) (e_X8_person m0 q) 74 [(0, .ref 0), (1, .int x1), (2, .int x2)] [.int r14] (w11 :: q) _
            exact K_ret (rv := some (.int r14)) dX8_person_74 rfl rfl rfl
          · refine K_aload_n 0 dX8_person_60 rfl ?_
            refine K_iload_n 1 dX8_person_61 rfl ?_
            refine K_callV (E' := e_X8_carOf w11 q) (b := 0) (As := [.int x1]) (rest := []) dX8_person_62 ml_X8_243 (mf_X8_carOf 2) mv_X8_carOf (fun hj r hr => c_X8_carOf hj w11 q x1 hr) (rcv_obj (q := (RX8, TX8, 37)) kl_0 rfl) rfl rfl (Nat.le_of_ble_eq_true rfl) (Nat.le_of_ble_eq_true rfl) (fun r15 => ?_)
            show K G (mi_X8_person 3) (e_X8_person m0 q) 65 [(0, .ref 0), (1, .int x1), (2, .int x2)] [.int r15] (w11 :: q) _
            refine K_goto 74 dX8_person_65 rfl ?_
            exact K_ret (rv := some (.int r15)) dX8_person_74 rfl rfl rfl
        · refine K_aload_n 0 dX8_person_46 rfl ?_
          refine K_iload_n 1 dX8_person_47 rfl ?_
          refine K_iconst (v := 2) dX8_person_48 (by decide) ?_
          refine K_callV (E' := e_X8_of w11 q) (b := 0) (As := [.int x1, .int 2]) (rest := []) dX8_person_49 ml_X8_237 (mf_X8_of 1) mv_X8_of (fun hj r hr => c_X8_of hj w11 q x1 (2 : Int32) hr) (rcv_obj (q := (RX8, TX8, 37)) kl_0 rfl) rfl rfl (Nat.le_of_ble_eq_true rfl) (Nat.le_of_ble_eq_true rfl) (fun r16 => ?_)
          show K G (mi_X8_person 3) (e_X8_person m0 q) 52 [(0, .ref 0), (1, .int x1), (2, .int x2)] [.int r16] (w11 :: q) _
          refine K_goto 74 dX8_person_52 rfl ?_
          exact K_ret (rv := some (.int r16)) dX8_person_74 rfl rfl rfl
      · refine K_aload_n 0 dX8_person_32 rfl ?_
        refine K_iload_n 1 dX8_person_33 rfl ?_
        refine K_iconst (v := 1) dX8_person_34 (by decide) ?_
        refine K_callV (E' := e_X8_of w11 q) (b := 0) (As := [.int x1, .int 1]) (rest := []) dX8_person_35 ml_X8_237 (mf_X8_of 1) mv_X8_of (fun hj r hr => c_X8_of hj w11 q x1 (1 : Int32) hr) (rcv_obj (q := (RX8, TX8, 37)) kl_0 rfl) rfl rfl (Nat.le_of_ble_eq_true rfl) (Nat.le_of_ble_eq_true rfl) (fun r17 => ?_)
        show K G (mi_X8_person 3) (e_X8_person m0 q) 38 [(0, .ref 0), (1, .int x1), (2, .int x2)] [.int r17] (w11 :: q) _
        refine K_goto 74 dX8_person_38 rfl ?_
        exact K_ret (rv := some (.int r17)) dX8_person_74 rfl rfl rfl
    · refine K_ldc (v := (-1000001)) dX8_person_25 cst_X8_88 ?_
      exact K_ret (rv := some (.int (-1000001))) dX8_person_27 rfl rfl rfl
theorem c_X8_person {G : GE} (hj : dj G) (m0 : Mem) (q : List Mem) (x1 : Int32) (x2 : Int32) {r : Int32 × Mem} (hr : f_X8_person m0 x1 x2 = some r) : Ctr G yX8_person (mi_X8_person 3) [.ref 0, .int x1, .int x2] (m0 :: q) ((e_X8_person m0 q) r).1 ((e_X8_person m0 q) r).2 := Ctr_of hj (by decide) rfl hr rfl (Nat.le_of_ble_eq_true rfl) (k_X8_person m0 q x1 x2)
abbrev e_X8_isCar (m0 : Mem) (q : List Mem) : Int32 → Option Value × List Mem := fun r => (some (.int r), (m0 :: q))
theorem k_X8_isCar {G : GE} (m0 : Mem) (q : List Mem) (x1 : Int32) : K G (mi_X8_isCar 2) (e_X8_isCar m0 q) 0 [(0, .ref 0), (1, .int x1)] [] (m0 :: q) (f_X8_isCar m0 x1) := by
  unfold f_X8_isCar
  refine K_iload_n 1 dX8_isCar_0 rfl ?_
  refine K_i2l dX8_isCar_1 ?_
  refine K_lconst (v := 0) dX8_isCar_2 (by decide) ?_
  refine K_aload_n 0 dX8_isCar_3 rfl ?_
  refine K_get (v := .ref 6) dX8_isCar_4 fl_X8_19 kl_0 rfl rfl ?_
  refine K_iconst (v := 5) dX8_isCar_7 (by decide) ?_
  refine K_iald (f := m0 6) dX8_isCar_8 kl_6 rfl ?_
  refine K_iconst (v := 1) dX8_isCar_9 (by decide) ?_
  refine K_isub dX8_isCar_10 ?_
  refine K_i2l dX8_isCar_11 ?_
  refine K_callS (E' := e_X8_in (m0 :: q)) (As := [.long x1.toInt64, .long 0, .long (((m0 6 (5 : Int32).toNatClampNeg) - 1).toInt64)]) (rest := []) dX8_isCar_12 ml_X8_78 (mf_X8_in 1) ms_X8_in (fun hj r hr => c_X8_in hj (m0 :: q) x1.toInt64 (0 : Int64) (((m0 6 (5 : Int32).toNatClampNeg) - 1).toInt64) hr) rfl rfl (Nat.le_of_ble_eq_true rfl) (Nat.le_of_ble_eq_true rfl) (fun r11 => ?_)
  show K G (mi_X8_isCar 2) (e_X8_isCar m0 q) 15 [(0, .ref 0), (1, .int x1)] [.int r11] (m0 :: q) _
  exact K_retB dX8_isCar_15 rfl rfl
theorem c_X8_isCar {G : GE} (hj : dj G) (m0 : Mem) (q : List Mem) (x1 : Int32) {r : Int32} (hr : f_X8_isCar m0 x1 = some r) : Ctr G yX8_isCar (mi_X8_isCar 2) [.ref 0, .int x1] (m0 :: q) ((e_X8_isCar m0 q) r).1 ((e_X8_isCar m0 q) r).2 := Ctr_of hj (by decide) rfl hr rfl (Nat.le_of_ble_eq_true rfl) (k_X8_isCar m0 q x1)
abbrev e_X8_car (m0 : Mem) (q : List Mem) : (Int32 × Mem) → Option Value × List Mem := fun r => (some (.int r.1), (r.2 :: q))
theorem k_X8_car {G : GE} (m0 : Mem) (q : List Mem) (x1 : Int32) (x2 : Int32) : K G (mi_X8_car 3) (e_X8_car m0 q) 0 [(0, .ref 0), (1, .int x1), (2, .int x2)] [] (m0 :: q) (f_X8_car m0 x1 x2) := by
  unfold f_X8_car
  refine K_aload_n 0 dX8_car_0 rfl ?_
  refine K_iconst (v := 0) dX8_car_1 (by decide) ?_
  refine K_put (Ms' := ((up m0 0 0 0) :: q)) dX8_car_2 fp_X8_68 kl_0 rfl rfl rfl (Nat.succ_pos _) rfl ?_
  refine K_nmm (fun w => (w :: q)) rfl (fun w11 => ?_)
  refine K_aload_n 0 dX8_car_5 rfl ?_
  refine K_iload_n 1 dX8_car_6 rfl ?_
  refine K_callV (E' := e_X8_isCar w11 q) (b := 0) (As := [.int x1]) (rest := []) dX8_car_7 ml_X8_246 (mf_X8_isCar 2) mv_X8_isCar (fun hj r hr => c_X8_isCar hj w11 q x1 hr) (rcv_obj (q := (RX8, TX8, 37)) kl_0 rfl) rfl rfl (Nat.le_of_ble_eq_true rfl) (Nat.le_of_ble_eq_true rfl) (fun r12 => ?_)
  show K G (mi_X8_car 3) (e_X8_car m0 q) 10 [(0, .ref 0), (1, .int x1), (2, .int x2)] [.int r12] (w11 :: q) _
  refine K_if_eq 34 dX8_car_10 rfl (fun _ => ?_) (fun _ => ?_)
  · refine K_ldc (v := (-1000001)) dX8_car_34 cst_X8_88 ?_
    exact K_ret (rv := some (.int (-1000001))) dX8_car_36 rfl rfl rfl
  · refine K_iload_n 2 dX8_car_13 rfl ?_
    refine K_i2l dX8_car_14 ?_
    refine K_lconst (v := 0) dX8_car_15 (by decide) ?_
    refine K_ldc2 (v := 2) dX8_car_16 cst_X8_86 ?_
    refine K_callS (E' := e_X8_in (w11 :: q)) (As := [.long x2.toInt64, .long 0, .long 2]) (rest := []) dX8_car_19 ml_X8_78 (mf_X8_in 1) ms_X8_in (fun hj r hr => c_X8_in hj (w11 :: q) x2.toInt64 (0 : Int64) (2 : Int64) hr) rfl rfl (Nat.le_of_ble_eq_true rfl) (Nat.le_of_ble_eq_true rfl) (fun r13 => ?_)
    show K G (mi_X8_car 3) (e_X8_car m0 q) 22 [(0, .ref 0), (1, .int x1), (2, .int x2)] [.int r13] (w11 :: q) _
    refine K_if_eq 34 dX8_car_22 rfl (fun _ => ?_) (fun _ => ?_)
    · refine K_ldc (v := (-1000001)) dX8_car_34 cst_X8_88 ?_
      exact K_ret (rv := some (.int (-1000001))) dX8_car_36 rfl rfl rfl
    · refine K_aload_n 0 dX8_car_25 rfl ?_
      refine K_iload_n 1 dX8_car_26 rfl ?_
      refine K_iload_n 2 dX8_car_27 rfl ?_
      refine K_callV (E' := e_X8_car0 w11 q) (b := 0) (As := [.int x1, .int x2]) (rest := []) dX8_car_28 ml_X8_229 (mf_X8_car0 1) mv_X8_car0 (fun hj r hr => c_X8_car0 hj w11 q x1 x2 hr) (rcv_obj (q := (RX8, TX8, 37)) kl_0 rfl) rfl rfl (Nat.le_of_ble_eq_true rfl) (Nat.le_of_ble_eq_true rfl) (fun r14 => ?_)
      show K G (mi_X8_car 3) (e_X8_car m0 q) 31 [(0, .ref 0), (1, .int x1), (2, .int x2)] [.int r14] (w11 :: q) _
      refine K_goto 36 dX8_car_31 rfl ?_
      exact K_ret (rv := some (.int r14)) dX8_car_36 rfl rfl rfl
theorem c_X8_car {G : GE} (hj : dj G) (m0 : Mem) (q : List Mem) (x1 : Int32) (x2 : Int32) {r : Int32 × Mem} (hr : f_X8_car m0 x1 x2 = some r) : Ctr G yX8_car (mi_X8_car 3) [.ref 0, .int x1, .int x2] (m0 :: q) ((e_X8_car m0 q) r).1 ((e_X8_car m0 q) r).2 := Ctr_of hj (by decide) rfl hr rfl (Nat.le_of_ble_eq_true rfl) (k_X8_car m0 q x1 x2)
abbrev e_X8_farOf (m0 : Mem) (q : List Mem) : Int32 → Option Value × List Mem := fun r => (some (.int r), (m0 :: q))
theorem k_X8_farOf {G : GE} (m0 : Mem) (q : List Mem) (x1 : Int32) (x2 : Int32) : K G (mi_X8_farOf 1) (e_X8_farOf m0 q) 0 [(0, .ref 0), (1, .int x1), (2, .int x2)] [] (m0 :: q) (f_X8_farOf m0 x1 x2) := by
  unfold f_X8_farOf
  refine K_aload_n 0 dX8_farOf_0 rfl ?_
  refine K_get (v := .ref 6) dX8_farOf_1 fl_X8_19 kl_0 rfl rfl ?_
  refine K_bipush (v := 8) dX8_farOf_4 (by decide) ?_
  refine K_bipush (v := 8) dX8_farOf_6 (by decide) ?_
  refine K_iload_n 1 dX8_farOf_8 rfl ?_
  refine K_imul dX8_farOf_9 ?_
  refine K_iadd dX8_farOf_10 ?_
  refine K_iload_n 2 dX8_farOf_11 rfl ?_
  refine K_iadd dX8_farOf_12 ?_
  refine K_iald (f := m0 6) dX8_farOf_13 kl_6 rfl ?_
  exact K_ret (rv := some (.int (m0 6 ((8 + (8 * x1)) + x2).toNatClampNeg))) dX8_farOf_14 rfl rfl rfl
theorem c_X8_farOf {G : GE} (hj : dj G) (m0 : Mem) (q : List Mem) (x1 : Int32) (x2 : Int32) {r : Int32} (hr : f_X8_farOf m0 x1 x2 = some r) : Ctr G yX8_farOf (mi_X8_farOf 1) [.ref 0, .int x1, .int x2] (m0 :: q) ((e_X8_farOf m0 q) r).1 ((e_X8_farOf m0 q) r).2 := Ctr_of hj (by decide) rfl hr rfl (Nat.le_of_ble_eq_true rfl) (k_X8_farOf m0 q x1 x2)
