theorem k_law_0 {G : GE} (m0 m1 m2 m3 m4 m5 m6 m7 m8 m9 m10 m11 : Mem) (u : Int32) (k : Mem → Mem → Mem → Mem → Mem → Mem → Mem → Mem → Mem → Mem → Mem → Mem → Option M12) (h7 : m11 0 7 = 1) (h8 : m11 0 8 = 2) (hk : ∀ G' : GE, (G' = G ∨ G' = swapG G) → ∀ (m0 m1 m2 m3 m4 m5 m6 m7 m8 m9 m10 m11 : Mem), m11 0 7 = 1 → m11 0 8 = 2 → K G' mi_law e_law 1155 [(0, .ref 23000), (1, .ref 11000), (2, .ref 0), (3, .int u)] [] [m0, m1, m2, m3, m4, m5, m6, m7, m8, m9, m10, m11] (k m0 m1 m2 m3 m4 m5 m6 m7 m8 m9 m10 m11)) : K G mi_law e_law 172 [(0, .ref 23000), (1, .ref 11000), (2, .ref 0), (3, .int u)] [] [m0, m1, m2, m3, m4, m5, m6, m7, m8, m9, m10, m11] (f_law_0 G.2.2.2.2.2.1 G.2.2.2.2.2.2 m0 m1 m2 m3 m4 m5 m6 m7 m8 m9 m10 m11 u k) := by
  unfold f_law_0
  refine K_aload_n 1 dL_law_172 rfl ?_
  refine K_aload_n 0 dL_law_173 rfl ?_
  refine K_iload_n 3 dL_law_174 rfl ?_
  refine K_iconst (v := 1) dL_law_175 (by decide) ?_
  refine K_iadd dL_law_176 ?_
  refine K_sld dL_law_177 ?_
  refine K_aload_n 0 dL_law_178 rfl ?_
  refine K_iload_n 3 dL_law_179 rfl ?_
  refine K_iconst (v := 2) dL_law_180 (by decide) ?_
  refine K_iadd dL_law_181 ?_
  refine K_sld dL_law_182 ?_
  refine K_aload_n 0 dL_law_183 rfl ?_
  refine K_iload_n 3 dL_law_184 rfl ?_
  refine K_iconst (v := 3) dL_law_185 (by decide) ?_
  refine K_iadd dL_law_186 ?_
  refine K_sld dL_law_187 ?_
  refine K_callVh (E' := e_X7_row m0 m1 m2 m3 m4 m5 m6 m7 m8 m9 m10 m11) (b := 11000) (As := [.int (G.2.2.2.2.2.2 (u + 1).toNatClampNeg), .int (G.2.2.2.2.2.2 (u + 2).toNatClampNeg), .int (G.2.2.2.2.2.2 (u + 3).toNatClampNeg)]) (rest := []) dL_law_188 ml_L_13 (mf_X7_row 3) mv_X7_row (fun hj r hr => c_X7_row hj m0 m1 m2 m3 m4 m5 m6 m7 m8 m9 m10 m11 (G.2.2.2.2.2.2 (u + 1).toNatClampNeg) (G.2.2.2.2.2.2 (u + 2).toNatClampNeg) (G.2.2.2.2.2.2 (u + 3).toNatClampNeg) hr) (rcv_obj (q := (RX7, TX7, 10)) kl_11000 rfl) rfl rfl (Nat.le_of_ble_eq_true rfl) (Nat.le_of_ble_eq_true rfl) (fun r11 hr11 => ?_)
  show K G mi_law e_law 191 [(0, .ref 23000), (1, .ref 11000), (2, .ref 0), (3, .int u)] [.int r11.1] [m0, m1, m2, m3, m4, r11.2.1, m6, m7, m8, m9, m10, r11.2.2] _
  refine K_aload_n 2 dL_law_191 rfl ?_
  refine K_aload_n 0 dL_law_192 rfl ?_
  refine K_iload_n 3 dL_law_193 rfl ?_
  refine K_iconst (v := 1) dL_law_194 (by decide) ?_
  refine K_iadd dL_law_195 ?_
  refine K_sld dL_law_196 ?_
  refine K_aload_n 0 dL_law_197 rfl ?_
  refine K_iload_n 3 dL_law_198 rfl ?_
  refine K_iconst (v := 2) dL_law_199 (by decide) ?_
  refine K_iadd dL_law_200 ?_
  refine K_sld dL_law_201 ?_
  refine K_aload_n 0 dL_law_202 rfl ?_
  refine K_iload_n 3 dL_law_203 rfl ?_
  refine K_iconst (v := 3) dL_law_204 (by decide) ?_
  refine K_iadd dL_law_205 ?_
  refine K_sld dL_law_206 ?_
  refine K_callVh (E' := e_X8_row m0 [m1, m2, m3, m4, r11.2.1, m6, m7, m8, m9, m10, r11.2.2]) (b := 0) (As := [.int (G.2.2.2.2.2.2 (u + 1).toNatClampNeg), .int (G.2.2.2.2.2.2 (u + 2).toNatClampNeg), .int (G.2.2.2.2.2.2 (u + 3).toNatClampNeg)]) (rest := [.int r11.1]) dL_law_207 ml_L_17 (mf_X8_row 3) mv_X8_row (fun hj r hr => c_X8_row hj m0 [m1, m2, m3, m4, r11.2.1, m6, m7, m8, m9, m10, r11.2.2] (G.2.2.2.2.2.2 (u + 1).toNatClampNeg) (G.2.2.2.2.2.2 (u + 2).toNatClampNeg) (G.2.2.2.2.2.2 (u + 3).toNatClampNeg) hr) (rcv_obj (q := (RX8, TX8, 37)) kl_0 rfl) rfl rfl (Nat.le_of_ble_eq_true rfl) (Nat.le_of_ble_eq_true rfl) (fun r12 hr12 => ?_)
  show K G mi_law e_law 210 [(0, .ref 23000), (1, .ref 11000), (2, .ref 0), (3, .int u)] [.int r12.1, .int r11.1] [r12.2, m1, m2, m3, m4, r11.2.1, m6, m7, m8, m9, m10, r11.2.2] _
  refine K_icmp_eq 1155 dL_law_210 rfl (fun _ => ?_) (fun _ => ?_)
  · exact hk G (Or.inl rfl) r12.2 m1 m2 m3 m4 r11.2.1 m6 m7 m8 m9 m10 r11.2.2 ((kp_X7_row hr11 7 (by decide)).trans h7) ((kp_X7_row hr11 8 (by decide)).trans h8)
  · exact K_none
theorem k_law_1 {G : GE} (m0 m1 m2 m3 m4 m5 m6 m7 m8 m9 m10 m11 : Mem) (u : Int32) (k : Mem → Mem → Mem → Mem → Mem → Mem → Mem → Mem → Mem → Mem → Mem → Mem → Option M12) (h7 : m11 0 7 = 1) (h8 : m11 0 8 = 2) (hk : ∀ G' : GE, (G' = G ∨ G' = swapG G) → ∀ (m0 m1 m2 m3 m4 m5 m6 m7 m8 m9 m10 m11 : Mem), m11 0 7 = 1 → m11 0 8 = 2 → K G' mi_law e_law 1155 [(0, .ref 23000), (1, .ref 11000), (2, .ref 0), (3, .int u)] [] [m0, m1, m2, m3, m4, m5, m6, m7, m8, m9, m10, m11] (k m0 m1 m2 m3 m4 m5 m6 m7 m8 m9 m10 m11)) : K G mi_law e_law 215 [(0, .ref 23000), (1, .ref 11000), (2, .ref 0), (3, .int u)] [] [m0, m1, m2, m3, m4, m5, m6, m7, m8, m9, m10, m11] (f_law_1 G.2.2.2.2.2.1 G.2.2.2.2.2.2 m0 m1 m2 m3 m4 m5 m6 m7 m8 m9 m10 m11 u k) := by
  unfold f_law_1
  refine K_aload_n 1 dL_law_215 rfl ?_
  refine K_aload_n 0 dL_law_216 rfl ?_
  refine K_iload_n 3 dL_law_217 rfl ?_
  refine K_iconst (v := 1) dL_law_218 (by decide) ?_
  refine K_iadd dL_law_219 ?_
  refine K_sld dL_law_220 ?_
  refine K_aload_n 0 dL_law_221 rfl ?_
  refine K_iload_n 3 dL_law_222 rfl ?_
  refine K_iconst (v := 2) dL_law_223 (by decide) ?_
  refine K_iadd dL_law_224 ?_
  refine K_sld dL_law_225 ?_
  refine K_aload_n 0 dL_law_226 rfl ?_
  refine K_iload_n 3 dL_law_227 rfl ?_
  refine K_iconst (v := 3) dL_law_228 (by decide) ?_
  refine K_iadd dL_law_229 ?_
  refine K_sld dL_law_230 ?_
  refine K_callVh (E' := e_X7_set m0 m1 m2 m3 m4 m5 m6 m7 m8 m9 m10 m11) (b := 11000) (As := [.int (G.2.2.2.2.2.2 (u + 1).toNatClampNeg), .int (G.2.2.2.2.2.2 (u + 2).toNatClampNeg), .int (G.2.2.2.2.2.2 (u + 3).toNatClampNeg)]) (rest := []) dL_law_231 ml_L_18 (mf_X7_set 3) mv_X7_set (fun hj r hr => c_X7_set hj m0 m1 m2 m3 m4 m5 m6 m7 m8 m9 m10 m11 (G.2.2.2.2.2.2 (u + 1).toNatClampNeg) (G.2.2.2.2.2.2 (u + 2).toNatClampNeg) (G.2.2.2.2.2.2 (u + 3).toNatClampNeg) hr) (rcv_obj (q := (RX7, TX7, 10)) kl_11000 rfl) rfl rfl (Nat.le_of_ble_eq_true rfl) (Nat.le_of_ble_eq_true rfl) (fun r11 hr11 => ?_)
  show K G mi_law e_law 234 [(0, .ref 23000), (1, .ref 11000), (2, .ref 0), (3, .int u)] [.int r11.1] [m0, m1, m2, m3, m4, r11.2.1, m6, m7, m8, m9, m10, r11.2.2] _
  refine K_aload_n 2 dL_law_234 rfl ?_
  refine K_aload_n 0 dL_law_235 rfl ?_
  refine K_iload_n 3 dL_law_236 rfl ?_
  refine K_iconst (v := 1) dL_law_237 (by decide) ?_
  refine K_iadd dL_law_238 ?_
  refine K_sld dL_law_239 ?_
  refine K_aload_n 0 dL_law_240 rfl ?_
  refine K_iload_n 3 dL_law_241 rfl ?_
  refine K_iconst (v := 2) dL_law_242 (by decide) ?_
  refine K_iadd dL_law_243 ?_
  refine K_sld dL_law_244 ?_
  refine K_aload_n 0 dL_law_245 rfl ?_
  refine K_iload_n 3 dL_law_246 rfl ?_
  refine K_iconst (v := 3) dL_law_247 (by decide) ?_
  refine K_iadd dL_law_248 ?_
  refine K_sld dL_law_249 ?_
  refine K_callVh (E' := e_X8_set m0 [m1, m2, m3, m4, r11.2.1, m6, m7, m8, m9, m10, r11.2.2]) (b := 0) (As := [.int (G.2.2.2.2.2.2 (u + 1).toNatClampNeg), .int (G.2.2.2.2.2.2 (u + 2).toNatClampNeg), .int (G.2.2.2.2.2.2 (u + 3).toNatClampNeg)]) (rest := [.int r11.1]) dL_law_250 ml_L_21 (mf_X8_set 3) mv_X8_set (fun hj r hr => c_X8_set hj m0 [m1, m2, m3, m4, r11.2.1, m6, m7, m8, m9, m10, r11.2.2] (G.2.2.2.2.2.2 (u + 1).toNatClampNeg) (G.2.2.2.2.2.2 (u + 2).toNatClampNeg) (G.2.2.2.2.2.2 (u + 3).toNatClampNeg) hr) (rcv_obj (q := (RX8, TX8, 37)) kl_0 rfl) rfl rfl (Nat.le_of_ble_eq_true rfl) (Nat.le_of_ble_eq_true rfl) (fun r12 hr12 => ?_)
  show K G mi_law e_law 253 [(0, .ref 23000), (1, .ref 11000), (2, .ref 0), (3, .int u)] [.int r12.1, .int r11.1] [r12.2, m1, m2, m3, m4, r11.2.1, m6, m7, m8, m9, m10, r11.2.2] _
  refine K_icmp_eq 1155 dL_law_253 rfl (fun _ => ?_) (fun _ => ?_)
  · exact hk G (Or.inl rfl) r12.2 m1 m2 m3 m4 r11.2.1 m6 m7 m8 m9 m10 r11.2.2 ((kp_X7_set hr11 7 (by decide)).trans h7) ((kp_X7_set hr11 8 (by decide)).trans h8)
  · exact K_none
theorem k_law_2 {G : GE} (m0 m1 m2 m3 m4 m5 m6 m7 m8 m9 m10 m11 : Mem) (u : Int32) (k : Mem → Mem → Mem → Mem → Mem → Mem → Mem → Mem → Mem → Mem → Mem → Mem → Option M12) (h7 : m11 0 7 = 1) (h8 : m11 0 8 = 2) (hk : ∀ G' : GE, (G' = G ∨ G' = swapG G) → ∀ (m0 m1 m2 m3 m4 m5 m6 m7 m8 m9 m10 m11 : Mem), m11 0 7 = 1 → m11 0 8 = 2 → K G' mi_law e_law 1155 [(0, .ref 23000), (1, .ref 11000), (2, .ref 0), (3, .int u)] [] [m0, m1, m2, m3, m4, m5, m6, m7, m8, m9, m10, m11] (k m0 m1 m2 m3 m4 m5 m6 m7 m8 m9 m10 m11)) : K G mi_law e_law 258 [(0, .ref 23000), (1, .ref 11000), (2, .ref 0), (3, .int u)] [] [m0, m1, m2, m3, m4, m5, m6, m7, m8, m9, m10, m11] (f_law_2 G.2.2.2.2.2.1 G.2.2.2.2.2.2 m0 m1 m2 m3 m4 m5 m6 m7 m8 m9 m10 m11 u k) := by
  unfold f_law_2
  refine K_aload_n 1 dL_law_258 rfl ?_
  refine K_aload_n 0 dL_law_259 rfl ?_
  refine K_iload_n 3 dL_law_260 rfl ?_
  refine K_iconst (v := 1) dL_law_261 (by decide) ?_
  refine K_iadd dL_law_262 ?_
  refine K_sld dL_law_263 ?_
  refine K_aload_n 0 dL_law_264 rfl ?_
  refine K_iload_n 3 dL_law_265 rfl ?_
  refine K_iconst (v := 2) dL_law_266 (by decide) ?_
  refine K_iadd dL_law_267 ?_
  refine K_sld dL_law_268 ?_
  refine K_aload_n 0 dL_law_269 rfl ?_
  refine K_iload_n 3 dL_law_270 rfl ?_
  refine K_iconst (v := 3) dL_law_271 (by decide) ?_
  refine K_iadd dL_law_272 ?_
  refine K_sld dL_law_273 ?_
  refine K_aload_n 0 dL_law_274 rfl ?_
  refine K_iload_n 3 dL_law_275 rfl ?_
  refine K_iconst (v := 4) dL_law_276 (by decide) ?_
  refine K_iadd dL_law_277 ?_
  refine K_sld dL_law_278 ?_
  refine K_aload_n 0 dL_law_279 rfl ?_
  refine K_iload_n 3 dL_law_280 rfl ?_
  refine K_iconst (v := 5) dL_law_281 (by decide) ?_
  refine K_iadd dL_law_282 ?_
  refine K_sld dL_law_283 ?_
  refine K_callVh (E' := e_X7_copy m0 m1 m2 m3 m4 m5 m6 m7 m8 m9 m10 m11) (b := 11000) (As := [.int (G.2.2.2.2.2.2 (u + 1).toNatClampNeg), .int (G.2.2.2.2.2.2 (u + 2).toNatClampNeg), .int (G.2.2.2.2.2.2 (u + 3).toNatClampNeg), .int (G.2.2.2.2.2.2 (u + 4).toNatClampNeg), .int (G.2.2.2.2.2.2 (u + 5).toNatClampNeg)]) (rest := []) dL_law_284 ml_L_22 (mf_X7_copy 2) mv_X7_copy (fun hj r hr => c_X7_copy hj m0 m1 m2 m3 m4 m5 m6 m7 m8 m9 m10 m11 (G.2.2.2.2.2.2 (u + 1).toNatClampNeg) (G.2.2.2.2.2.2 (u + 2).toNatClampNeg) (G.2.2.2.2.2.2 (u + 3).toNatClampNeg) (G.2.2.2.2.2.2 (u + 4).toNatClampNeg) (G.2.2.2.2.2.2 (u + 5).toNatClampNeg) hr) (rcv_obj (q := (RX7, TX7, 10)) kl_11000 rfl) rfl rfl (Nat.le_of_ble_eq_true rfl) (Nat.le_of_ble_eq_true rfl) (fun r11 hr11 => ?_)
  show K G mi_law e_law 287 [(0, .ref 23000), (1, .ref 11000), (2, .ref 0), (3, .int u)] [.int r11.1] [m0, m1, m2, m3, m4, r11.2.1, m6, m7, m8, m9, m10, r11.2.2] _
  refine K_aload_n 2 dL_law_287 rfl ?_
  refine K_aload_n 0 dL_law_288 rfl ?_
  refine K_iload_n 3 dL_law_289 rfl ?_
  refine K_iconst (v := 1) dL_law_290 (by decide) ?_
  refine K_iadd dL_law_291 ?_
  refine K_sld dL_law_292 ?_
  refine K_aload_n 0 dL_law_293 rfl ?_
  refine K_iload_n 3 dL_law_294 rfl ?_
  refine K_iconst (v := 2) dL_law_295 (by decide) ?_
  refine K_iadd dL_law_296 ?_
  refine K_sld dL_law_297 ?_
  refine K_aload_n 0 dL_law_298 rfl ?_
  refine K_iload_n 3 dL_law_299 rfl ?_
  refine K_iconst (v := 3) dL_law_300 (by decide) ?_
  refine K_iadd dL_law_301 ?_
  refine K_sld dL_law_302 ?_
  refine K_aload_n 0 dL_law_303 rfl ?_
  refine K_iload_n 3 dL_law_304 rfl ?_
  refine K_iconst (v := 4) dL_law_305 (by decide) ?_
  refine K_iadd dL_law_306 ?_
  refine K_sld dL_law_307 ?_
  refine K_aload_n 0 dL_law_308 rfl ?_
  refine K_iload_n 3 dL_law_309 rfl ?_
  refine K_iconst (v := 5) dL_law_310 (by decide) ?_
  refine K_iadd dL_law_311 ?_
  refine K_sld dL_law_312 ?_
  refine K_callVh (E' := e_X8_copy m0 [m1, m2, m3, m4, r11.2.1, m6, m7, m8, m9, m10, r11.2.2]) (b := 0) (As := [.int (G.2.2.2.2.2.2 (u + 1).toNatClampNeg), .int (G.2.2.2.2.2.2 (u + 2).toNatClampNeg), .int (G.2.2.2.2.2.2 (u + 3).toNatClampNeg), .int (G.2.2.2.2.2.2 (u + 4).toNatClampNeg), .int (G.2.2.2.2.2.2 (u + 5).toNatClampNeg)]) (rest := [.int r11.1]) dL_law_313 ml_L_26 (mf_X8_copy 3) mv_X8_copy (fun hj r hr => c_X8_copy hj m0 [m1, m2, m3, m4, r11.2.1, m6, m7, m8, m9, m10, r11.2.2] (G.2.2.2.2.2.2 (u + 1).toNatClampNeg) (G.2.2.2.2.2.2 (u + 2).toNatClampNeg) (G.2.2.2.2.2.2 (u + 3).toNatClampNeg) (G.2.2.2.2.2.2 (u + 4).toNatClampNeg) (G.2.2.2.2.2.2 (u + 5).toNatClampNeg) hr) (rcv_obj (q := (RX8, TX8, 37)) kl_0 rfl) rfl rfl (Nat.le_of_ble_eq_true rfl) (Nat.le_of_ble_eq_true rfl) (fun r12 hr12 => ?_)
  show K G mi_law e_law 316 [(0, .ref 23000), (1, .ref 11000), (2, .ref 0), (3, .int u)] [.int r12.1, .int r11.1] [r12.2, m1, m2, m3, m4, r11.2.1, m6, m7, m8, m9, m10, r11.2.2] _
  refine K_icmp_eq 1155 dL_law_316 rfl (fun _ => ?_) (fun _ => ?_)
  · exact hk G (Or.inl rfl) r12.2 m1 m2 m3 m4 r11.2.1 m6 m7 m8 m9 m10 r11.2.2 ((kp_X7_copy hr11 7 (by decide)).trans h7) ((kp_X7_copy hr11 8 (by decide)).trans h8)
  · exact K_none
theorem k_law_3 {G : GE} (m0 m1 m2 m3 m4 m5 m6 m7 m8 m9 m10 m11 : Mem) (u : Int32) (k : Mem → Mem → Mem → Mem → Mem → Mem → Mem → Mem → Mem → Mem → Mem → Mem → Option M12) (h7 : m11 0 7 = 1) (h8 : m11 0 8 = 2) (hk : ∀ G' : GE, (G' = G ∨ G' = swapG G) → ∀ (m0 m1 m2 m3 m4 m5 m6 m7 m8 m9 m10 m11 : Mem), m11 0 7 = 1 → m11 0 8 = 2 → K G' mi_law e_law 1155 [(0, .ref 23000), (1, .ref 11000), (2, .ref 0), (3, .int u)] [] [m0, m1, m2, m3, m4, m5, m6, m7, m8, m9, m10, m11] (k m0 m1 m2 m3 m4 m5 m6 m7 m8 m9 m10 m11)) : K G mi_law e_law 321 [(0, .ref 23000), (1, .ref 11000), (2, .ref 0), (3, .int u)] [] [m0, m1, m2, m3, m4, m5, m6, m7, m8, m9, m10, m11] (f_law_3 G.2.2.2.2.2.1 G.2.2.2.2.2.2 m0 m1 m2 m3 m4 m5 m6 m7 m8 m9 m10 m11 u k) := by
  unfold f_law_3
  refine K_aload_n 1 dL_law_321 rfl ?_
  refine K_aload_n 0 dL_law_322 rfl ?_
  refine K_iload_n 3 dL_law_323 rfl ?_
  refine K_iconst (v := 1) dL_law_324 (by decide) ?_
  refine K_iadd dL_law_325 ?_
  refine K_sld dL_law_326 ?_
  refine K_callVh (E' := e_X7_drop m0 m1 m2 m3 m4 m5 m6 m7 m8 m9 m10 m11) (b := 11000) (As := [.int (G.2.2.2.2.2.2 (u + 1).toNatClampNeg)]) (rest := []) dL_law_327 ml_L_27 (mf_X7_drop 2) mv_X7_drop (fun hj r hr => c_X7_drop hj m0 m1 m2 m3 m4 m5 m6 m7 m8 m9 m10 m11 (G.2.2.2.2.2.2 (u + 1).toNatClampNeg) hr) (rcv_obj (q := (RX7, TX7, 10)) kl_11000 rfl) rfl rfl (Nat.le_of_ble_eq_true rfl) (Nat.le_of_ble_eq_true rfl) (fun r11 hr11 => ?_)
  show K G mi_law e_law 330 [(0, .ref 23000), (1, .ref 11000), (2, .ref 0), (3, .int u)] [.int r11.1] [m0, m1, m2, m3, m4, r11.2.1, m6, m7, m8, m9, m10, r11.2.2] _
  refine K_aload_n 2 dL_law_330 rfl ?_
  refine K_aload_n 0 dL_law_331 rfl ?_
  refine K_iload_n 3 dL_law_332 rfl ?_
  refine K_iconst (v := 1) dL_law_333 (by decide) ?_
  refine K_iadd dL_law_334 ?_
  refine K_sld dL_law_335 ?_
  refine K_callVh (E' := e_X8_drop m0 [m1, m2, m3, m4, r11.2.1, m6, m7, m8, m9, m10, r11.2.2]) (b := 0) (As := [.int (G.2.2.2.2.2.2 (u + 1).toNatClampNeg)]) (rest := [.int r11.1]) dL_law_336 ml_L_31 (mf_X8_drop 3) mv_X8_drop (fun hj r hr => c_X8_drop hj m0 [m1, m2, m3, m4, r11.2.1, m6, m7, m8, m9, m10, r11.2.2] (G.2.2.2.2.2.2 (u + 1).toNatClampNeg) hr) (rcv_obj (q := (RX8, TX8, 37)) kl_0 rfl) rfl rfl (Nat.le_of_ble_eq_true rfl) (Nat.le_of_ble_eq_true rfl) (fun r12 hr12 => ?_)
  show K G mi_law e_law 339 [(0, .ref 23000), (1, .ref 11000), (2, .ref 0), (3, .int u)] [.int r12.1, .int r11.1] [r12.2, m1, m2, m3, m4, r11.2.1, m6, m7, m8, m9, m10, r11.2.2] _
  refine K_icmp_eq 1155 dL_law_339 rfl (fun _ => ?_) (fun _ => ?_)
  · exact hk G (Or.inl rfl) r12.2 m1 m2 m3 m4 r11.2.1 m6 m7 m8 m9 m10 r11.2.2 ((kp_X7_drop hr11 7 (by decide)).trans h7) ((kp_X7_drop hr11 8 (by decide)).trans h8)
  · exact K_none
theorem k_law_4 {G : GE} (m0 m1 m2 m3 m4 m5 m6 m7 m8 m9 m10 m11 : Mem) (u : Int32) (k : Mem → Mem → Mem → Mem → Mem → Mem → Mem → Mem → Mem → Mem → Mem → Mem → Option M12) (h7 : m11 0 7 = 1) (h8 : m11 0 8 = 2) (hk : ∀ G' : GE, (G' = G ∨ G' = swapG G) → ∀ (m0 m1 m2 m3 m4 m5 m6 m7 m8 m9 m10 m11 : Mem), m11 0 7 = 1 → m11 0 8 = 2 → K G' mi_law e_law 1155 [(0, .ref 23000), (1, .ref 11000), (2, .ref 0), (3, .int u)] [] [m0, m1, m2, m3, m4, m5, m6, m7, m8, m9, m10, m11] (k m0 m1 m2 m3 m4 m5 m6 m7 m8 m9 m10 m11)) : K G mi_law e_law 344 [(0, .ref 23000), (1, .ref 11000), (2, .ref 0), (3, .int u)] [] [m0, m1, m2, m3, m4, m5, m6, m7, m8, m9, m10, m11] (f_law_4 G.2.2.2.2.2.1 G.2.2.2.2.2.2 m0 m1 m2 m3 m4 m5 m6 m7 m8 m9 m10 m11 u k) := by
  unfold f_law_4
  refine K_aload_n 1 dL_law_344 rfl ?_
  refine K_aload_n 0 dL_law_345 rfl ?_
  refine K_iload_n 3 dL_law_346 rfl ?_
  refine K_iconst (v := 1) dL_law_347 (by decide) ?_
  refine K_iadd dL_law_348 ?_
  refine K_sld dL_law_349 ?_
  refine K_i2l dL_law_350 ?_
  refine K_bipush (v := 32) dL_law_351 (by decide) ?_
  refine K_lshl dL_law_353 ?_
  refine K_aload_n 0 dL_law_354 rfl ?_
  refine K_iload_n 3 dL_law_355 rfl ?_
  refine K_iconst (v := 2) dL_law_356 (by decide) ?_
  refine K_iadd dL_law_357 ?_
  refine K_sld dL_law_358 ?_
  refine K_i2l dL_law_359 ?_
  refine K_ldc2 (v := 4294967295) dL_law_360 cst_L_32 ?_
  refine K_land dL_law_363 ?_
  refine K_lor dL_law_364 ?_
  refine K_aload_n 0 dL_law_365 rfl ?_
  refine K_iload_n 3 dL_law_366 rfl ?_
  refine K_iconst (v := 3) dL_law_367 (by decide) ?_
  refine K_iadd dL_law_368 ?_
  refine K_sld dL_law_369 ?_
  refine K_callVh (E' := e_X7_feed m0 m1 m2 m3 m4 m5 m6 m7 m8 m9 m10 m11) (b := 11000) (As := [.long ((((G.2.2.2.2.2.2 (u + 1).toNatClampNeg).toInt64) <<< ((32 : Int32).toInt64 &&& 63)) ||| (((G.2.2.2.2.2.2 (u + 2).toNatClampNeg).toInt64) &&& 4294967295)), .int (G.2.2.2.2.2.2 (u + 3).toNatClampNeg)]) (rest := []) dL_law_370 ml_L_34 (mf_X7_feed 2) mv_X7_feed (fun hj r hr => c_X7_feed hj m0 m1 m2 m3 m4 m5 m6 m7 m8 m9 m10 m11 ((((G.2.2.2.2.2.2 (u + 1).toNatClampNeg).toInt64) <<< ((32 : Int32).toInt64 &&& 63)) ||| (((G.2.2.2.2.2.2 (u + 2).toNatClampNeg).toInt64) &&& 4294967295)) (G.2.2.2.2.2.2 (u + 3).toNatClampNeg) hr) (rcv_obj (q := (RX7, TX7, 10)) kl_11000 rfl) rfl rfl (Nat.le_of_ble_eq_true rfl) (Nat.le_of_ble_eq_true rfl) (fun r11 hr11 => ?_)
  show K G mi_law e_law 373 [(0, .ref 23000), (1, .ref 11000), (2, .ref 0), (3, .int u)] [.int r11.1] [m0, m1, m2, m3, r11.2, m5, m6, m7, m8, m9, m10, m11] _
  refine K_aload_n 2 dL_law_373 rfl ?_
  refine K_aload_n 0 dL_law_374 rfl ?_
  refine K_iload_n 3 dL_law_375 rfl ?_
  refine K_iconst (v := 1) dL_law_376 (by decide) ?_
  refine K_iadd dL_law_377 ?_
  refine K_sld dL_law_378 ?_
  refine K_i2l dL_law_379 ?_
  refine K_bipush (v := 32) dL_law_380 (by decide) ?_
  refine K_lshl dL_law_382 ?_
  refine K_aload_n 0 dL_law_383 rfl ?_
  refine K_iload_n 3 dL_law_384 rfl ?_
  refine K_iconst (v := 2) dL_law_385 (by decide) ?_
  refine K_iadd dL_law_386 ?_
  refine K_sld dL_law_387 ?_
  refine K_i2l dL_law_388 ?_
  refine K_ldc2 (v := 4294967295) dL_law_389 cst_L_32 ?_
  refine K_land dL_law_392 ?_
  refine K_lor dL_law_393 ?_
  refine K_aload_n 0 dL_law_394 rfl ?_
  refine K_iload_n 3 dL_law_395 rfl ?_
  refine K_iconst (v := 3) dL_law_396 (by decide) ?_
  refine K_iadd dL_law_397 ?_
  refine K_sld dL_law_398 ?_
  refine K_callVh (E' := e_X8_feed m0 [m1, m2, m3, r11.2, m5, m6, m7, m8, m9, m10, m11]) (b := 0) (As := [.long ((((G.2.2.2.2.2.2 (u + 1).toNatClampNeg).toInt64) <<< ((32 : Int32).toInt64 &&& 63)) ||| (((G.2.2.2.2.2.2 (u + 2).toNatClampNeg).toInt64) &&& 4294967295)), .int (G.2.2.2.2.2.2 (u + 3).toNatClampNeg)]) (rest := [.int r11.1]) dL_law_399 ml_L_38 (mf_X8_feed 2) mv_X8_feed (fun hj r hr => c_X8_feed hj m0 [m1, m2, m3, r11.2, m5, m6, m7, m8, m9, m10, m11] ((((G.2.2.2.2.2.2 (u + 1).toNatClampNeg).toInt64) <<< ((32 : Int32).toInt64 &&& 63)) ||| (((G.2.2.2.2.2.2 (u + 2).toNatClampNeg).toInt64) &&& 4294967295)) (G.2.2.2.2.2.2 (u + 3).toNatClampNeg) hr) (rcv_obj (q := (RX8, TX8, 37)) kl_0 rfl) rfl rfl (Nat.le_of_ble_eq_true rfl) (Nat.le_of_ble_eq_true rfl) (fun r12 hr12 => ?_)
  show K G mi_law e_law 402 [(0, .ref 23000), (1, .ref 11000), (2, .ref 0), (3, .int u)] [.int r12.1, .int r11.1] [r12.2, m1, m2, m3, r11.2, m5, m6, m7, m8, m9, m10, m11] _
  refine K_icmp_eq 1155 dL_law_402 rfl (fun _ => ?_) (fun _ => ?_)
  · exact hk G (Or.inl rfl) r12.2 m1 m2 m3 r11.2 m5 m6 m7 m8 m9 m10 m11 h7 h8
  · exact K_none
theorem k_law_5 {G : GE} (m0 m1 m2 m3 m4 m5 m6 m7 m8 m9 m10 m11 : Mem) (u : Int32) (k : Mem → Mem → Mem → Mem → Mem → Mem → Mem → Mem → Mem → Mem → Mem → Mem → Option M12) (h7 : m11 0 7 = 1) (h8 : m11 0 8 = 2) (hk : ∀ G' : GE, (G' = G ∨ G' = swapG G) → ∀ (m0 m1 m2 m3 m4 m5 m6 m7 m8 m9 m10 m11 : Mem), m11 0 7 = 1 → m11 0 8 = 2 → K G' mi_law e_law 1155 [(0, .ref 23000), (1, .ref 11000), (2, .ref 0), (3, .int u)] [] [m0, m1, m2, m3, m4, m5, m6, m7, m8, m9, m10, m11] (k m0 m1 m2 m3 m4 m5 m6 m7 m8 m9 m10 m11)) : K G mi_law e_law 407 [(0, .ref 23000), (1, .ref 11000), (2, .ref 0), (3, .int u)] [] [m0, m1, m2, m3, m4, m5, m6, m7, m8, m9, m10, m11] (f_law_5 G.2.2.2.2.2.1 G.2.2.2.2.2.2 m0 m1 m2 m3 m4 m5 m6 m7 m8 m9 m10 m11 u k) := by
  unfold f_law_5
  refine K_aload_n 1 dL_law_407 rfl ?_
  refine K_callVh (E' := e_X7_evening m0 m1 m2 m3 m4 m5 m6 m7 m8 m9 m10 m11) (b := 11000) (As := []) (rest := []) dL_law_408 ml_L_39 (mf_X7_evening 12) mv_X7_evening (fun hj r hr => c_X7_evening hj m0 m1 m2 m3 m4 m5 m6 m7 m8 m9 m10 m11  h7 h8 hr) (rcv_obj (q := (RX7, TX7, 10)) kl_11000 rfl) rfl rfl (Nat.le_of_ble_eq_true rfl) (Nat.le_of_ble_eq_true rfl) (fun r11 hr11 => ?_)
  show K G mi_law e_law 411 [(0, .ref 23000), (1, .ref 11000), (2, .ref 0), (3, .int u)] [.int r11.1] [m0, m1, r11.2.1, r11.2.2.1, r11.2.2.2.1, m5, r11.2.2.2.2.1, m7, m8, m9, m10, r11.2.2.2.2.2] _
  refine K_aload_n 2 dL_law_411 rfl ?_
  refine K_callVh (E' := e_X8_evening m0 [m1, r11.2.1, r11.2.2.1, r11.2.2.2.1, m5, r11.2.2.2.2.1, m7, m8, m9, m10, r11.2.2.2.2.2]) (b := 0) (As := []) (rest := [.int r11.1]) dL_law_412 ml_L_43 (mf_X8_evening 7) mv_X8_evening (fun hj r hr => c_X8_evening hj m0 [m1, r11.2.1, r11.2.2.1, r11.2.2.2.1, m5, r11.2.2.2.2.1, m7, m8, m9, m10, r11.2.2.2.2.2]  hr) (rcv_obj (q := (RX8, TX8, 37)) kl_0 rfl) rfl rfl (Nat.le_of_ble_eq_true rfl) (Nat.le_of_ble_eq_true rfl) (fun r12 hr12 => ?_)
  show K G mi_law e_law 415 [(0, .ref 23000), (1, .ref 11000), (2, .ref 0), (3, .int u)] [.int r12.1, .int r11.1] [r12.2, m1, r11.2.1, r11.2.2.1, r11.2.2.2.1, m5, r11.2.2.2.2.1, m7, m8, m9, m10, r11.2.2.2.2.2] _
  refine K_icmp_eq 1155 dL_law_415 rfl (fun _ => ?_) (fun _ => ?_)
  · refine K_ite (c := r11.2.2.2.2.2 0 7 = 1) (fun e7 => ?_) (fun e7 => ?_)
    · exact hk G (Or.inl rfl) r12.2 m1 r11.2.1 r11.2.2.1 r11.2.2.2.1 m5 r11.2.2.2.2.1 m7 m8 m9 m10 r11.2.2.2.2.2 e7 (ev_same hr11 h7 h8 e7)
    refine K_swap rfl rfl ?_
    exact hk (swapG G) (Or.inr rfl) r12.2 r11.2.1 m1 r11.2.2.1 r11.2.2.2.1 m5 r11.2.2.2.2.1 m7 m8 m9 m10 (sw11 r11.2.2.2.2.2) (ev_7 hr11 h7 h8 e7) (ev_8 hr11 h7 h8 e7)
  · exact K_none
theorem k_law_6 {G : GE} (m0 m1 m2 m3 m4 m5 m6 m7 m8 m9 m10 m11 : Mem) (u : Int32) (k : Mem → Mem → Mem → Mem → Mem → Mem → Mem → Mem → Mem → Mem → Mem → Mem → Option M12) (h7 : m11 0 7 = 1) (h8 : m11 0 8 = 2) (hk : ∀ G' : GE, (G' = G ∨ G' = swapG G) → ∀ (m0 m1 m2 m3 m4 m5 m6 m7 m8 m9 m10 m11 : Mem), m11 0 7 = 1 → m11 0 8 = 2 → K G' mi_law e_law 1155 [(0, .ref 23000), (1, .ref 11000), (2, .ref 0), (3, .int u)] [] [m0, m1, m2, m3, m4, m5, m6, m7, m8, m9, m10, m11] (k m0 m1 m2 m3 m4 m5 m6 m7 m8 m9 m10 m11)) : K G mi_law e_law 420 [(0, .ref 23000), (1, .ref 11000), (2, .ref 0), (3, .int u)] [] [m0, m1, m2, m3, m4, m5, m6, m7, m8, m9, m10, m11] (f_law_6 G.2.2.2.2.2.1 G.2.2.2.2.2.2 m0 m1 m2 m3 m4 m5 m6 m7 m8 m9 m10 m11 u k) := by
  unfold f_law_6
  refine K_aload_n 1 dL_law_420 rfl ?_
  refine K_callVh (E' := e_X7_fault m0 m1 m2 m3 m4 m5 m6 m7 m8 m9 m10 m11) (b := 11000) (As := []) (rest := []) dL_law_421 ml_L_44 (mf_X7_fault 1) mv_X7_fault (fun hj r hr => c_X7_fault hj m0 m1 m2 m3 m4 m5 m6 m7 m8 m9 m10 m11  hr) (rcv_obj (q := (RX7, TX7, 10)) kl_11000 rfl) rfl rfl (Nat.le_of_ble_eq_true rfl) (Nat.le_of_ble_eq_true rfl) (fun r11 hr11 => ?_)
  show K G mi_law e_law 424 [(0, .ref 23000), (1, .ref 11000), (2, .ref 0), (3, .int u)] [.int r11] [m0, m1, m2, m3, m4, m5, m6, m7, m8, m9, m10, m11] _
  refine K_aload_n 2 dL_law_424 rfl ?_
  refine K_callVh (E' := e_X8_fault m0 [m1, m2, m3, m4, m5, m6, m7, m8, m9, m10, m11]) (b := 0) (As := []) (rest := [.int r11]) dL_law_425 ml_L_47 (mf_X8_fault 1) mv_X8_fault (fun hj r hr => c_X8_fault hj m0 [m1, m2, m3, m4, m5, m6, m7, m8, m9, m10, m11]  hr) (rcv_obj (q := (RX8, TX8, 37)) kl_0 rfl) rfl rfl (Nat.le_of_ble_eq_true rfl) (Nat.le_of_ble_eq_true rfl) (fun r12 hr12 => ?_)
  show K G mi_law e_law 428 [(0, .ref 23000), (1, .ref 11000), (2, .ref 0), (3, .int u)] [.int r12.1, .int r11] [r12.2, m1, m2, m3, m4, m5, m6, m7, m8, m9, m10, m11] _
  refine K_icmp_eq 1155 dL_law_428 rfl (fun _ => ?_) (fun _ => ?_)
  · exact hk G (Or.inl rfl) r12.2 m1 m2 m3 m4 m5 m6 m7 m8 m9 m10 m11 h7 h8
  · exact K_none
theorem k_law_7 {G : GE} (m0 m1 m2 m3 m4 m5 m6 m7 m8 m9 m10 m11 : Mem) (u : Int32) (k : Mem → Mem → Mem → Mem → Mem → Mem → Mem → Mem → Mem → Mem → Mem → Mem → Option M12) (h7 : m11 0 7 = 1) (h8 : m11 0 8 = 2) (hk : ∀ G' : GE, (G' = G ∨ G' = swapG G) → ∀ (m0 m1 m2 m3 m4 m5 m6 m7 m8 m9 m10 m11 : Mem), m11 0 7 = 1 → m11 0 8 = 2 → K G' mi_law e_law 1155 [(0, .ref 23000), (1, .ref 11000), (2, .ref 0), (3, .int u)] [] [m0, m1, m2, m3, m4, m5, m6, m7, m8, m9, m10, m11] (k m0 m1 m2 m3 m4 m5 m6 m7 m8 m9 m10 m11)) : K G mi_law e_law 433 [(0, .ref 23000), (1, .ref 11000), (2, .ref 0), (3, .int u)] [] [m0, m1, m2, m3, m4, m5, m6, m7, m8, m9, m10, m11] (f_law_7 G.2.2.2.2.2.1 G.2.2.2.2.2.2 m0 m1 m2 m3 m4 m5 m6 m7 m8 m9 m10 m11 u k) := by
  unfold f_law_7
  refine K_aload_n 1 dL_law_433 rfl ?_
  refine K_aload_n 0 dL_law_434 rfl ?_
  refine K_iload_n 3 dL_law_435 rfl ?_
  refine K_iconst (v := 1) dL_law_436 (by decide) ?_
  refine K_iadd dL_law_437 ?_
  refine K_sld dL_law_438 ?_
  refine K_aload_n 0 dL_law_439 rfl ?_
  refine K_iload_n 3 dL_law_440 rfl ?_
  refine K_iconst (v := 2) dL_law_441 (by decide) ?_
  refine K_iadd dL_law_442 ?_
  refine K_sld dL_law_443 ?_
  refine K_callVh (E' := e_X7_drink m0 m1 m2 m3 m4 m5 m6 m7 m8 m9 m10 m11) (b := 11000) (As := [.int (G.2.2.2.2.2.2 (u + 1).toNatClampNeg), .int (G.2.2.2.2.2.2 (u + 2).toNatClampNeg)]) (rest := []) dL_law_444 ml_L_48 (mf_X7_drink 2) mv_X7_drink (fun hj r hr => c_X7_drink hj m0 m1 m2 m3 m4 m5 m6 m7 m8 m9 m10 m11 (G.2.2.2.2.2.2 (u + 1).toNatClampNeg) (G.2.2.2.2.2.2 (u + 2).toNatClampNeg) h7 hr) (rcv_obj (q := (RX7, TX7, 10)) kl_11000 rfl) rfl rfl (Nat.le_of_ble_eq_true rfl) (Nat.le_of_ble_eq_true rfl) (fun r11 hr11 => ?_)
  show K G mi_law e_law 447 [(0, .ref 23000), (1, .ref 11000), (2, .ref 0), (3, .int u)] [.int r11.1] [m0, r11.2.1, m2, m3, m4, m5, r11.2.2, m7, m8, m9, m10, m11] _
  refine K_aload_n 2 dL_law_447 rfl ?_
  refine K_aload_n 0 dL_law_448 rfl ?_
  refine K_iload_n 3 dL_law_449 rfl ?_
  refine K_iconst (v := 1) dL_law_450 (by decide) ?_
  refine K_iadd dL_law_451 ?_
  refine K_sld dL_law_452 ?_
  refine K_aload_n 0 dL_law_453 rfl ?_
  refine K_iload_n 3 dL_law_454 rfl ?_
  refine K_iconst (v := 2) dL_law_455 (by decide) ?_
  refine K_iadd dL_law_456 ?_
  refine K_sld dL_law_457 ?_
  refine K_callVh (E' := e_X8_drink m0 [r11.2.1, m2, m3, m4, m5, r11.2.2, m7, m8, m9, m10, m11]) (b := 0) (As := [.int (G.2.2.2.2.2.2 (u + 1).toNatClampNeg), .int (G.2.2.2.2.2.2 (u + 2).toNatClampNeg)]) (rest := [.int r11.1]) dL_law_458 ml_L_52 (mf_X8_drink 3) mv_X8_drink (fun hj r hr => c_X8_drink hj m0 [r11.2.1, m2, m3, m4, m5, r11.2.2, m7, m8, m9, m10, m11] (G.2.2.2.2.2.2 (u + 1).toNatClampNeg) (G.2.2.2.2.2.2 (u + 2).toNatClampNeg) hr) (rcv_obj (q := (RX8, TX8, 37)) kl_0 rfl) rfl rfl (Nat.le_of_ble_eq_true rfl) (Nat.le_of_ble_eq_true rfl) (fun r12 hr12 => ?_)
  show K G mi_law e_law 461 [(0, .ref 23000), (1, .ref 11000), (2, .ref 0), (3, .int u)] [.int r12.1, .int r11.1] [r12.2, r11.2.1, m2, m3, m4, m5, r11.2.2, m7, m8, m9, m10, m11] _
  refine K_icmp_eq 1155 dL_law_461 rfl (fun _ => ?_) (fun _ => ?_)
  · exact hk G (Or.inl rfl) r12.2 r11.2.1 m2 m3 m4 m5 r11.2.2 m7 m8 m9 m10 m11 h7 h8
  · exact K_none
theorem k_law_8 {G : GE} (m0 m1 m2 m3 m4 m5 m6 m7 m8 m9 m10 m11 : Mem) (u : Int32) (k : Mem → Mem → Mem → Mem → Mem → Mem → Mem → Mem → Mem → Mem → Mem → Mem → Option M12) (h7 : m11 0 7 = 1) (h8 : m11 0 8 = 2) (hk : ∀ G' : GE, (G' = G ∨ G' = swapG G) → ∀ (m0 m1 m2 m3 m4 m5 m6 m7 m8 m9 m10 m11 : Mem), m11 0 7 = 1 → m11 0 8 = 2 → K G' mi_law e_law 1155 [(0, .ref 23000), (1, .ref 11000), (2, .ref 0), (3, .int u)] [] [m0, m1, m2, m3, m4, m5, m6, m7, m8, m9, m10, m11] (k m0 m1 m2 m3 m4 m5 m6 m7 m8 m9 m10 m11)) : K G mi_law e_law 466 [(0, .ref 23000), (1, .ref 11000), (2, .ref 0), (3, .int u)] [] [m0, m1, m2, m3, m4, m5, m6, m7, m8, m9, m10, m11] (f_law_8 G.2.2.2.2.2.1 G.2.2.2.2.2.2 m0 m1 m2 m3 m4 m5 m6 m7 m8 m9 m10 m11 u k) := by
  unfold f_law_8
  refine K_aload_n 1 dL_law_466 rfl ?_
  refine K_callVh (E' := e_X7_undo m0 m1 m2 m3 m4 m5 m6 m7 m8 m9 m10 m11) (b := 11000) (As := []) (rest := []) dL_law_467 ml_L_53 (mf_X7_undo 2) mv_X7_undo (fun hj r hr => c_X7_undo hj m0 m1 m2 m3 m4 m5 m6 m7 m8 m9 m10 m11  h7 hr) (rcv_obj (q := (RX7, TX7, 10)) kl_11000 rfl) rfl rfl (Nat.le_of_ble_eq_true rfl) (Nat.le_of_ble_eq_true rfl) (fun r11 hr11 => ?_)
  show K G mi_law e_law 470 [(0, .ref 23000), (1, .ref 11000), (2, .ref 0), (3, .int u)] [.int r11.1] [m0, r11.2.1, m2, m3, m4, m5, r11.2.2, m7, m8, m9, m10, m11] _
  refine K_aload_n 2 dL_law_470 rfl ?_
  refine K_callVh (E' := e_X8_undo m0 [r11.2.1, m2, m3, m4, m5, r11.2.2, m7, m8, m9, m10, m11]) (b := 0) (As := []) (rest := [.int r11.1]) dL_law_471 ml_L_56 (mf_X8_undo 1) mv_X8_undo (fun hj r hr => c_X8_undo hj m0 [r11.2.1, m2, m3, m4, m5, r11.2.2, m7, m8, m9, m10, m11]  hr) (rcv_obj (q := (RX8, TX8, 37)) kl_0 rfl) rfl rfl (Nat.le_of_ble_eq_true rfl) (Nat.le_of_ble_eq_true rfl) (fun r12 hr12 => ?_)
  show K G mi_law e_law 474 [(0, .ref 23000), (1, .ref 11000), (2, .ref 0), (3, .int u)] [.int r12.1, .int r11.1] [r12.2, r11.2.1, m2, m3, m4, m5, r11.2.2, m7, m8, m9, m10, m11] _
  refine K_icmp_eq 1155 dL_law_474 rfl (fun _ => ?_) (fun _ => ?_)
  · exact hk G (Or.inl rfl) r12.2 r11.2.1 m2 m3 m4 m5 r11.2.2 m7 m8 m9 m10 m11 h7 h8
  · exact K_none
theorem k_law_9 {G : GE} (m0 m1 m2 m3 m4 m5 m6 m7 m8 m9 m10 m11 : Mem) (u : Int32) (k : Mem → Mem → Mem → Mem → Mem → Mem → Mem → Mem → Mem → Mem → Mem → Mem → Option M12) (h7 : m11 0 7 = 1) (h8 : m11 0 8 = 2) (hk : ∀ G' : GE, (G' = G ∨ G' = swapG G) → ∀ (m0 m1 m2 m3 m4 m5 m6 m7 m8 m9 m10 m11 : Mem), m11 0 7 = 1 → m11 0 8 = 2 → K G' mi_law e_law 1155 [(0, .ref 23000), (1, .ref 11000), (2, .ref 0), (3, .int u)] [] [m0, m1, m2, m3, m4, m5, m6, m7, m8, m9, m10, m11] (k m0 m1 m2 m3 m4 m5 m6 m7 m8 m9 m10 m11)) : K G mi_law e_law 479 [(0, .ref 23000), (1, .ref 11000), (2, .ref 0), (3, .int u)] [] [m0, m1, m2, m3, m4, m5, m6, m7, m8, m9, m10, m11] (f_law_9 G.2.2.2.2.2.1 G.2.2.2.2.2.2 m0 m1 m2 m3 m4 m5 m6 m7 m8 m9 m10 m11 u k) := by
  unfold f_law_9
  refine K_aload_n 1 dL_law_479 rfl ?_
  refine K_aload_n 0 dL_law_480 rfl ?_
  refine K_iload_n 3 dL_law_481 rfl ?_
  refine K_iconst (v := 1) dL_law_482 (by decide) ?_
  refine K_iadd dL_law_483 ?_
  refine K_sld dL_law_484 ?_
  refine K_aload_n 0 dL_law_485 rfl ?_
  refine K_iload_n 3 dL_law_486 rfl ?_
  refine K_iconst (v := 2) dL_law_487 (by decide) ?_
  refine K_iadd dL_law_488 ?_
  refine K_sld dL_law_489 ?_
  refine K_callVh (E' := e_X7_person m0 m1 m2 m3 m4 m5 m6 m7 m8 m9 m10 m11) (b := 11000) (As := [.int (G.2.2.2.2.2.2 (u + 1).toNatClampNeg), .int (G.2.2.2.2.2.2 (u + 2).toNatClampNeg)]) (rest := []) dL_law_490 ml_L_57 (mf_X7_person 2) mv_X7_person (fun hj r hr => c_X7_person hj m0 m1 m2 m3 m4 m5 m6 m7 m8 m9 m10 m11 (G.2.2.2.2.2.2 (u + 1).toNatClampNeg) (G.2.2.2.2.2.2 (u + 2).toNatClampNeg) h7 hr) (rcv_obj (q := (RX7, TX7, 10)) kl_11000 rfl) rfl rfl (Nat.le_of_ble_eq_true rfl) (Nat.le_of_ble_eq_true rfl) (fun r11 hr11 => ?_)
  show K G mi_law e_law 493 [(0, .ref 23000), (1, .ref 11000), (2, .ref 0), (3, .int u)] [.int r11] [m0, m1, m2, m3, m4, m5, m6, m7, m8, m9, m10, m11] _
  refine K_aload_n 2 dL_law_493 rfl ?_
  refine K_aload_n 0 dL_law_494 rfl ?_
  refine K_iload_n 3 dL_law_495 rfl ?_
  refine K_iconst (v := 1) dL_law_496 (by decide) ?_
  refine K_iadd dL_law_497 ?_
  refine K_sld dL_law_498 ?_
  refine K_aload_n 0 dL_law_499 rfl ?_
  refine K_iload_n 3 dL_law_500 rfl ?_
  refine K_iconst (v := 2) dL_law_501 (by decide) ?_
  refine K_iadd dL_law_502 ?_
  refine K_sld dL_law_503 ?_
  refine K_callVh (E' := e_X8_person m0 [m1, m2, m3, m4, m5, m6, m7, m8, m9, m10, m11]) (b := 0) (As := [.int (G.2.2.2.2.2.2 (u + 1).toNatClampNeg), .int (G.2.2.2.2.2.2 (u + 2).toNatClampNeg)]) (rest := [.int r11]) dL_law_504 ml_L_60 (mf_X8_person 3) mv_X8_person (fun hj r hr => c_X8_person hj m0 [m1, m2, m3, m4, m5, m6, m7, m8, m9, m10, m11] (G.2.2.2.2.2.2 (u + 1).toNatClampNeg) (G.2.2.2.2.2.2 (u + 2).toNatClampNeg) hr) (rcv_obj (q := (RX8, TX8, 37)) kl_0 rfl) rfl rfl (Nat.le_of_ble_eq_true rfl) (Nat.le_of_ble_eq_true rfl) (fun r12 hr12 => ?_)
  show K G mi_law e_law 507 [(0, .ref 23000), (1, .ref 11000), (2, .ref 0), (3, .int u)] [.int r12.1, .int r11] [r12.2, m1, m2, m3, m4, m5, m6, m7, m8, m9, m10, m11] _
  refine K_icmp_eq 1155 dL_law_507 rfl (fun _ => ?_) (fun _ => ?_)
  · exact hk G (Or.inl rfl) r12.2 m1 m2 m3 m4 m5 m6 m7 m8 m9 m10 m11 h7 h8
  · exact K_none
theorem k_law_10 {G : GE} (m0 m1 m2 m3 m4 m5 m6 m7 m8 m9 m10 m11 : Mem) (u : Int32) (k : Mem → Mem → Mem → Mem → Mem → Mem → Mem → Mem → Mem → Mem → Mem → Mem → Option M12) (h7 : m11 0 7 = 1) (h8 : m11 0 8 = 2) (hk : ∀ G' : GE, (G' = G ∨ G' = swapG G) → ∀ (m0 m1 m2 m3 m4 m5 m6 m7 m8 m9 m10 m11 : Mem), m11 0 7 = 1 → m11 0 8 = 2 → K G' mi_law e_law 1155 [(0, .ref 23000), (1, .ref 11000), (2, .ref 0), (3, .int u)] [] [m0, m1, m2, m3, m4, m5, m6, m7, m8, m9, m10, m11] (k m0 m1 m2 m3 m4 m5 m6 m7 m8 m9 m10 m11)) : K G mi_law e_law 512 [(0, .ref 23000), (1, .ref 11000), (2, .ref 0), (3, .int u)] [] [m0, m1, m2, m3, m4, m5, m6, m7, m8, m9, m10, m11] (f_law_10 G.2.2.2.2.2.1 G.2.2.2.2.2.2 m0 m1 m2 m3 m4 m5 m6 m7 m8 m9 m10 m11 u k) := by
  unfold f_law_10
  refine K_aload_n 1 dL_law_512 rfl ?_
  refine K_aload_n 0 dL_law_513 rfl ?_
  refine K_iload_n 3 dL_law_514 rfl ?_
  refine K_iconst (v := 1) dL_law_515 (by decide) ?_
  refine K_iadd dL_law_516 ?_
  refine K_sld dL_law_517 ?_
  refine K_aload_n 0 dL_law_518 rfl ?_
  refine K_iload_n 3 dL_law_519 rfl ?_
  refine K_iconst (v := 2) dL_law_520 (by decide) ?_
  refine K_iadd dL_law_521 ?_
  refine K_sld dL_law_522 ?_
  refine K_callVh (E' := e_X7_car m0 m1 m2 m3 m4 m5 m6 m7 m8 m9 m10 m11) (b := 11000) (As := [.int (G.2.2.2.2.2.2 (u + 1).toNatClampNeg), .int (G.2.2.2.2.2.2 (u + 2).toNatClampNeg)]) (rest := []) dL_law_523 ml_L_61 (mf_X7_car 2) mv_X7_car (fun hj r hr => c_X7_car hj m0 m1 m2 m3 m4 m5 m6 m7 m8 m9 m10 m11 (G.2.2.2.2.2.2 (u + 1).toNatClampNeg) (G.2.2.2.2.2.2 (u + 2).toNatClampNeg) h7 hr) (rcv_obj (q := (RX7, TX7, 10)) kl_11000 rfl) rfl rfl (Nat.le_of_ble_eq_true rfl) (Nat.le_of_ble_eq_true rfl) (fun r11 hr11 => ?_)
  show K G mi_law e_law 526 [(0, .ref 23000), (1, .ref 11000), (2, .ref 0), (3, .int u)] [.int r11] [m0, m1, m2, m3, m4, m5, m6, m7, m8, m9, m10, m11] _
  refine K_aload_n 2 dL_law_526 rfl ?_
  refine K_aload_n 0 dL_law_527 rfl ?_
  refine K_iload_n 3 dL_law_528 rfl ?_
  refine K_iconst (v := 1) dL_law_529 (by decide) ?_
  refine K_iadd dL_law_530 ?_
  refine K_sld dL_law_531 ?_
  refine K_aload_n 0 dL_law_532 rfl ?_
  refine K_iload_n 3 dL_law_533 rfl ?_
  refine K_iconst (v := 2) dL_law_534 (by decide) ?_
  refine K_iadd dL_law_535 ?_
  refine K_sld dL_law_536 ?_
  refine K_callVh (E' := e_X8_car m0 [m1, m2, m3, m4, m5, m6, m7, m8, m9, m10, m11]) (b := 0) (As := [.int (G.2.2.2.2.2.2 (u + 1).toNatClampNeg), .int (G.2.2.2.2.2.2 (u + 2).toNatClampNeg)]) (rest := [.int r11]) dL_law_537 ml_L_64 (mf_X8_car 3) mv_X8_car (fun hj r hr => c_X8_car hj m0 [m1, m2, m3, m4, m5, m6, m7, m8, m9, m10, m11] (G.2.2.2.2.2.2 (u + 1).toNatClampNeg) (G.2.2.2.2.2.2 (u + 2).toNatClampNeg) hr) (rcv_obj (q := (RX8, TX8, 37)) kl_0 rfl) rfl rfl (Nat.le_of_ble_eq_true rfl) (Nat.le_of_ble_eq_true rfl) (fun r12 hr12 => ?_)
  show K G mi_law e_law 540 [(0, .ref 23000), (1, .ref 11000), (2, .ref 0), (3, .int u)] [.int r12.1, .int r11] [r12.2, m1, m2, m3, m4, m5, m6, m7, m8, m9, m10, m11] _
  refine K_icmp_eq 1155 dL_law_540 rfl (fun _ => ?_) (fun _ => ?_)
  · exact hk G (Or.inl rfl) r12.2 m1 m2 m3 m4 m5 m6 m7 m8 m9 m10 m11 h7 h8
  · exact K_none
theorem k_law_11 {G : GE} (m0 m1 m2 m3 m4 m5 m6 m7 m8 m9 m10 m11 : Mem) (u : Int32) (k : Mem → Mem → Mem → Mem → Mem → Mem → Mem → Mem → Mem → Mem → Mem → Mem → Option M12) (h7 : m11 0 7 = 1) (h8 : m11 0 8 = 2) (hk : ∀ G' : GE, (G' = G ∨ G' = swapG G) → ∀ (m0 m1 m2 m3 m4 m5 m6 m7 m8 m9 m10 m11 : Mem), m11 0 7 = 1 → m11 0 8 = 2 → K G' mi_law e_law 1155 [(0, .ref 23000), (1, .ref 11000), (2, .ref 0), (3, .int u)] [] [m0, m1, m2, m3, m4, m5, m6, m7, m8, m9, m10, m11] (k m0 m1 m2 m3 m4 m5 m6 m7 m8 m9 m10 m11)) : K G mi_law e_law 545 [(0, .ref 23000), (1, .ref 11000), (2, .ref 0), (3, .int u)] [] [m0, m1, m2, m3, m4, m5, m6, m7, m8, m9, m10, m11] (f_law_11 G.2.2.2.2.2.1 G.2.2.2.2.2.2 m0 m1 m2 m3 m4 m5 m6 m7 m8 m9 m10 m11 u k) := by
  unfold f_law_11
  refine K_aload_n 1 dL_law_545 rfl ?_
  refine K_aload_n 0 dL_law_546 rfl ?_
  refine K_iload_n 3 dL_law_547 rfl ?_
  refine K_iconst (v := 1) dL_law_548 (by decide) ?_
  refine K_iadd dL_law_549 ?_
  refine K_sld dL_law_550 ?_
  refine K_aload_n 0 dL_law_551 rfl ?_
  refine K_iload_n 3 dL_law_552 rfl ?_
  refine K_iconst (v := 2) dL_law_553 (by decide) ?_
  refine K_iadd dL_law_554 ?_
  refine K_sld dL_law_555 ?_
  refine K_callVh (E' := e_X7_far m0 m1 m2 m3 m4 m5 m6 m7 m8 m9 m10 m11) (b := 11000) (As := [.int (G.2.2.2.2.2.2 (u + 1).toNatClampNeg), .int (G.2.2.2.2.2.2 (u + 2).toNatClampNeg)]) (rest := []) dL_law_556 ml_L_65 (mf_X7_far 3) mv_X7_far (fun hj r hr => c_X7_far hj m0 m1 m2 m3 m4 m5 m6 m7 m8 m9 m10 m11 (G.2.2.2.2.2.2 (u + 1).toNatClampNeg) (G.2.2.2.2.2.2 (u + 2).toNatClampNeg) h7 hr) (rcv_obj (q := (RX7, TX7, 10)) kl_11000 rfl) rfl rfl (Nat.le_of_ble_eq_true rfl) (Nat.le_of_ble_eq_true rfl) (fun r11 hr11 => ?_)
  show K G mi_law e_law 559 [(0, .ref 23000), (1, .ref 11000), (2, .ref 0), (3, .int u)] [.int r11] [m0, m1, m2, m3, m4, m5, m6, m7, m8, m9, m10, m11] _
  refine K_aload_n 2 dL_law_559 rfl ?_
  refine K_aload_n 0 dL_law_560 rfl ?_
  refine K_iload_n 3 dL_law_561 rfl ?_
  refine K_iconst (v := 1) dL_law_562 (by decide) ?_
  refine K_iadd dL_law_563 ?_
  refine K_sld dL_law_564 ?_
  refine K_aload_n 0 dL_law_565 rfl ?_
  refine K_iload_n 3 dL_law_566 rfl ?_
  refine K_iconst (v := 2) dL_law_567 (by decide) ?_
  refine K_iadd dL_law_568 ?_
  refine K_sld dL_law_569 ?_
  refine K_callVh (E' := e_X8_far m0 [m1, m2, m3, m4, m5, m6, m7, m8, m9, m10, m11]) (b := 0) (As := [.int (G.2.2.2.2.2.2 (u + 1).toNatClampNeg), .int (G.2.2.2.2.2.2 (u + 2).toNatClampNeg)]) (rest := [.int r11]) dL_law_570 ml_L_68 (mf_X8_far 2) mv_X8_far (fun hj r hr => c_X8_far hj m0 [m1, m2, m3, m4, m5, m6, m7, m8, m9, m10, m11] (G.2.2.2.2.2.2 (u + 1).toNatClampNeg) (G.2.2.2.2.2.2 (u + 2).toNatClampNeg) hr) (rcv_obj (q := (RX8, TX8, 37)) kl_0 rfl) rfl rfl (Nat.le_of_ble_eq_true rfl) (Nat.le_of_ble_eq_true rfl) (fun r12 hr12 => ?_)
  show K G mi_law e_law 573 [(0, .ref 23000), (1, .ref 11000), (2, .ref 0), (3, .int u)] [.int r12.1, .int r11] [r12.2, m1, m2, m3, m4, m5, m6, m7, m8, m9, m10, m11] _
  refine K_icmp_eq 1155 dL_law_573 rfl (fun _ => ?_) (fun _ => ?_)
  · exact hk G (Or.inl rfl) r12.2 m1 m2 m3 m4 m5 m6 m7 m8 m9 m10 m11 h7 h8
  · exact K_none
theorem k_law_12 {G : GE} (m0 m1 m2 m3 m4 m5 m6 m7 m8 m9 m10 m11 : Mem) (u : Int32) (k : Mem → Mem → Mem → Mem → Mem → Mem → Mem → Mem → Mem → Mem → Mem → Mem → Option M12) (h7 : m11 0 7 = 1) (h8 : m11 0 8 = 2) (hk : ∀ G' : GE, (G' = G ∨ G' = swapG G) → ∀ (m0 m1 m2 m3 m4 m5 m6 m7 m8 m9 m10 m11 : Mem), m11 0 7 = 1 → m11 0 8 = 2 → K G' mi_law e_law 1155 [(0, .ref 23000), (1, .ref 11000), (2, .ref 0), (3, .int u)] [] [m0, m1, m2, m3, m4, m5, m6, m7, m8, m9, m10, m11] (k m0 m1 m2 m3 m4 m5 m6 m7 m8 m9 m10 m11)) : K G mi_law e_law 578 [(0, .ref 23000), (1, .ref 11000), (2, .ref 0), (3, .int u)] [] [m0, m1, m2, m3, m4, m5, m6, m7, m8, m9, m10, m11] (f_law_12 G.2.2.2.2.2.1 G.2.2.2.2.2.2 m0 m1 m2 m3 m4 m5 m6 m7 m8 m9 m10 m11 u k) := by
  unfold f_law_12
  refine K_aload_n 1 dL_law_578 rfl ?_
  refine K_aload_n 0 dL_law_579 rfl ?_
  refine K_iload_n 3 dL_law_580 rfl ?_
  refine K_iconst (v := 1) dL_law_581 (by decide) ?_
  refine K_iadd dL_law_582 ?_
  refine K_sld dL_law_583 ?_
  refine K_aload_n 0 dL_law_584 rfl ?_
  refine K_iload_n 3 dL_law_585 rfl ?_
  refine K_iconst (v := 2) dL_law_586 (by decide) ?_
  refine K_iadd dL_law_587 ?_
  refine K_sld dL_law_588 ?_
  refine K_aload_n 0 dL_law_589 rfl ?_
  refine K_iload_n 3 dL_law_590 rfl ?_
  refine K_iconst (v := 3) dL_law_591 (by decide) ?_
  refine K_iadd dL_law_592 ?_
  refine K_sld dL_law_593 ?_
  refine K_callVh (E' := e_X7_may m0 m1 m2 m3 m4 m5 m6 m7 m8 m9 m10 m11) (b := 11000) (As := [.int (G.2.2.2.2.2.2 (u + 1).toNatClampNeg), .int (G.2.2.2.2.2.2 (u + 2).toNatClampNeg), .int (G.2.2.2.2.2.2 (u + 3).toNatClampNeg)]) (rest := []) dL_law_594 ml_L_69 (mf_X7_may 3) mv_X7_may (fun hj r hr => c_X7_may hj m0 m1 m2 m3 m4 m5 m6 m7 m8 m9 m10 m11 (G.2.2.2.2.2.2 (u + 1).toNatClampNeg) (G.2.2.2.2.2.2 (u + 2).toNatClampNeg) (G.2.2.2.2.2.2 (u + 3).toNatClampNeg) h7 hr) (rcv_obj (q := (RX7, TX7, 10)) kl_11000 rfl) rfl rfl (Nat.le_of_ble_eq_true rfl) (Nat.le_of_ble_eq_true rfl) (fun r11 hr11 => ?_)
  show K G mi_law e_law 597 [(0, .ref 23000), (1, .ref 11000), (2, .ref 0), (3, .int u)] [.int r11] [m0, m1, m2, m3, m4, m5, m6, m7, m8, m9, m10, m11] _
  refine K_aload_n 2 dL_law_597 rfl ?_
  refine K_aload_n 0 dL_law_598 rfl ?_
  refine K_iload_n 3 dL_law_599 rfl ?_
  refine K_iconst (v := 1) dL_law_600 (by decide) ?_
  refine K_iadd dL_law_601 ?_
  refine K_sld dL_law_602 ?_
  refine K_aload_n 0 dL_law_603 rfl ?_
  refine K_iload_n 3 dL_law_604 rfl ?_
  refine K_iconst (v := 2) dL_law_605 (by decide) ?_
  refine K_iadd dL_law_606 ?_
  refine K_sld dL_law_607 ?_
  refine K_aload_n 0 dL_law_608 rfl ?_
  refine K_iload_n 3 dL_law_609 rfl ?_
  refine K_iconst (v := 3) dL_law_610 (by decide) ?_
  refine K_iadd dL_law_611 ?_
  refine K_sld dL_law_612 ?_
  refine K_callVh (E' := e_X8_may m0 [m1, m2, m3, m4, m5, m6, m7, m8, m9, m10, m11]) (b := 0) (As := [.int (G.2.2.2.2.2.2 (u + 1).toNatClampNeg), .int (G.2.2.2.2.2.2 (u + 2).toNatClampNeg), .int (G.2.2.2.2.2.2 (u + 3).toNatClampNeg)]) (rest := [.int r11]) dL_law_613 ml_L_72 (mf_X8_may 3) mv_X8_may (fun hj r hr => c_X8_may hj m0 [m1, m2, m3, m4, m5, m6, m7, m8, m9, m10, m11] (G.2.2.2.2.2.2 (u + 1).toNatClampNeg) (G.2.2.2.2.2.2 (u + 2).toNatClampNeg) (G.2.2.2.2.2.2 (u + 3).toNatClampNeg) hr) (rcv_obj (q := (RX8, TX8, 37)) kl_0 rfl) rfl rfl (Nat.le_of_ble_eq_true rfl) (Nat.le_of_ble_eq_true rfl) (fun r12 hr12 => ?_)
  show K G mi_law e_law 616 [(0, .ref 23000), (1, .ref 11000), (2, .ref 0), (3, .int u)] [.int r12.1, .int r11] [r12.2, m1, m2, m3, m4, m5, m6, m7, m8, m9, m10, m11] _
  refine K_icmp_eq 1155 dL_law_616 rfl (fun _ => ?_) (fun _ => ?_)
  · exact hk G (Or.inl rfl) r12.2 m1 m2 m3 m4 m5 m6 m7 m8 m9 m10 m11 h7 h8
  · exact K_none
theorem k_law_13 {G : GE} (m0 m1 m2 m3 m4 m5 m6 m7 m8 m9 m10 m11 : Mem) (u : Int32) (k : Mem → Mem → Mem → Mem → Mem → Mem → Mem → Mem → Mem → Mem → Mem → Mem → Option M12) (h7 : m11 0 7 = 1) (h8 : m11 0 8 = 2) (hk : ∀ G' : GE, (G' = G ∨ G' = swapG G) → ∀ (m0 m1 m2 m3 m4 m5 m6 m7 m8 m9 m10 m11 : Mem), m11 0 7 = 1 → m11 0 8 = 2 → K G' mi_law e_law 1155 [(0, .ref 23000), (1, .ref 11000), (2, .ref 0), (3, .int u)] [] [m0, m1, m2, m3, m4, m5, m6, m7, m8, m9, m10, m11] (k m0 m1 m2 m3 m4 m5 m6 m7 m8 m9 m10 m11)) : K G mi_law e_law 621 [(0, .ref 23000), (1, .ref 11000), (2, .ref 0), (3, .int u)] [] [m0, m1, m2, m3, m4, m5, m6, m7, m8, m9, m10, m11] (f_law_13 G.2.2.2.2.2.1 G.2.2.2.2.2.2 m0 m1 m2 m3 m4 m5 m6 m7 m8 m9 m10 m11 u k) := by
  unfold f_law_13
  refine K_aload_n 1 dL_law_621 rfl ?_
  refine K_aload_n 0 dL_law_622 rfl ?_
  refine K_iload_n 3 dL_law_623 rfl ?_
  refine K_iconst (v := 1) dL_law_624 (by decide) ?_
  refine K_iadd dL_law_625 ?_
  refine K_sld dL_law_626 ?_
  refine K_callVh (E' := e_X7_soon m0 m1 m2 m3 m4 m5 m6 m7 m8 m9 m10 m11) (b := 11000) (As := [.int (G.2.2.2.2.2.2 (u + 1).toNatClampNeg)]) (rest := []) dL_law_627 ml_L_73 (mf_X7_soon 3) mv_X7_soon (fun hj r hr => c_X7_soon hj m0 m1 m2 m3 m4 m5 m6 m7 m8 m9 m10 m11 (G.2.2.2.2.2.2 (u + 1).toNatClampNeg) h7 hr) (rcv_obj (q := (RX7, TX7, 10)) kl_11000 rfl) rfl rfl (Nat.le_of_ble_eq_true rfl) (Nat.le_of_ble_eq_true rfl) (fun r11 hr11 => ?_)
  show K G mi_law e_law 630 [(0, .ref 23000), (1, .ref 11000), (2, .ref 0), (3, .int u)] [.int r11] [m0, m1, m2, m3, m4, m5, m6, m7, m8, m9, m10, m11] _
  refine K_aload_n 2 dL_law_630 rfl ?_
  refine K_aload_n 0 dL_law_631 rfl ?_
  refine K_iload_n 3 dL_law_632 rfl ?_
  refine K_iconst (v := 1) dL_law_633 (by decide) ?_
  refine K_iadd dL_law_634 ?_
  refine K_sld dL_law_635 ?_
  refine K_callVh (E' := e_X8_soon m0 [m1, m2, m3, m4, m5, m6, m7, m8, m9, m10, m11]) (b := 0) (As := [.int (G.2.2.2.2.2.2 (u + 1).toNatClampNeg)]) (rest := [.int r11]) dL_law_636 ml_L_76 (mf_X8_soon 3) mv_X8_soon (fun hj r hr => c_X8_soon hj m0 [m1, m2, m3, m4, m5, m6, m7, m8, m9, m10, m11] (G.2.2.2.2.2.2 (u + 1).toNatClampNeg) hr) (rcv_obj (q := (RX8, TX8, 37)) kl_0 rfl) rfl rfl (Nat.le_of_ble_eq_true rfl) (Nat.le_of_ble_eq_true rfl) (fun r12 hr12 => ?_)
  show K G mi_law e_law 639 [(0, .ref 23000), (1, .ref 11000), (2, .ref 0), (3, .int u)] [.int r12.1, .int r11] [r12.2, m1, m2, m3, m4, m5, m6, m7, m8, m9, m10, m11] _
  refine K_icmp_eq 1155 dL_law_639 rfl (fun _ => ?_) (fun _ => ?_)
  · exact hk G (Or.inl rfl) r12.2 m1 m2 m3 m4 m5 m6 m7 m8 m9 m10 m11 h7 h8
  · exact K_none
theorem k_law_14 {G : GE} (m0 m1 m2 m3 m4 m5 m6 m7 m8 m9 m10 m11 : Mem) (u : Int32) (k : Mem → Mem → Mem → Mem → Mem → Mem → Mem → Mem → Mem → Mem → Mem → Mem → Option M12) (h7 : m11 0 7 = 1) (h8 : m11 0 8 = 2) (hk : ∀ G' : GE, (G' = G ∨ G' = swapG G) → ∀ (m0 m1 m2 m3 m4 m5 m6 m7 m8 m9 m10 m11 : Mem), m11 0 7 = 1 → m11 0 8 = 2 → K G' mi_law e_law 1155 [(0, .ref 23000), (1, .ref 11000), (2, .ref 0), (3, .int u)] [] [m0, m1, m2, m3, m4, m5, m6, m7, m8, m9, m10, m11] (k m0 m1 m2 m3 m4 m5 m6 m7 m8 m9 m10 m11)) : K G mi_law e_law 644 [(0, .ref 23000), (1, .ref 11000), (2, .ref 0), (3, .int u)] [] [m0, m1, m2, m3, m4, m5, m6, m7, m8, m9, m10, m11] (f_law_14 G.2.2.2.2.2.1 G.2.2.2.2.2.2 m0 m1 m2 m3 m4 m5 m6 m7 m8 m9 m10 m11 u k) := by
  unfold f_law_14
  refine K_aload_n 1 dL_law_644 rfl ?_
  refine K_aload_n 0 dL_law_645 rfl ?_
  refine K_iload_n 3 dL_law_646 rfl ?_
  refine K_iconst (v := 1) dL_law_647 (by decide) ?_
  refine K_iadd dL_law_648 ?_
  refine K_sld dL_law_649 ?_
  refine K_aload_n 0 dL_law_650 rfl ?_
  refine K_iload_n 3 dL_law_651 rfl ?_
  refine K_iconst (v := 2) dL_law_652 (by decide) ?_
  refine K_iadd dL_law_653 ?_
  refine K_sld dL_law_654 ?_
  refine K_aload_n 0 dL_law_655 rfl ?_
  refine K_iload_n 3 dL_law_656 rfl ?_
  refine K_iconst (v := 3) dL_law_657 (by decide) ?_
  refine K_iadd dL_law_658 ?_
  refine K_sld dL_law_659 ?_
  refine K_aload_n 0 dL_law_660 rfl ?_
  refine K_iload_n 3 dL_law_661 rfl ?_
  refine K_iconst (v := 4) dL_law_662 (by decide) ?_
  refine K_iadd dL_law_663 ?_
  refine K_sld dL_law_664 ?_
  refine K_callVh (E' := e_X7_odds m0 m1 m2 m3 m4 m5 m6 m7 m8 m9 m10 m11) (b := 11000) (As := [.int (G.2.2.2.2.2.2 (u + 1).toNatClampNeg), .int (G.2.2.2.2.2.2 (u + 2).toNatClampNeg), .int (G.2.2.2.2.2.2 (u + 3).toNatClampNeg), .int (G.2.2.2.2.2.2 (u + 4).toNatClampNeg)]) (rest := []) dL_law_665 ml_L_77 (mf_X7_odds 3) mv_X7_odds (fun hj r hr => c_X7_odds hj m0 m1 m2 m3 m4 m5 m6 m7 m8 m9 m10 m11 (G.2.2.2.2.2.2 (u + 1).toNatClampNeg) (G.2.2.2.2.2.2 (u + 2).toNatClampNeg) (G.2.2.2.2.2.2 (u + 3).toNatClampNeg) (G.2.2.2.2.2.2 (u + 4).toNatClampNeg) h7 hr) (rcv_obj (q := (RX7, TX7, 10)) kl_11000 rfl) rfl rfl (Nat.le_of_ble_eq_true rfl) (Nat.le_of_ble_eq_true rfl) (fun r11 hr11 => ?_)
  show K G mi_law e_law 668 [(0, .ref 23000), (1, .ref 11000), (2, .ref 0), (3, .int u)] [.int r11] [m0, m1, m2, m3, m4, m5, m6, m7, m8, m9, m10, m11] _
  refine K_aload_n 2 dL_law_668 rfl ?_
  refine K_aload_n 0 dL_law_669 rfl ?_
  refine K_iload_n 3 dL_law_670 rfl ?_
  refine K_iconst (v := 1) dL_law_671 (by decide) ?_
  refine K_iadd dL_law_672 ?_
  refine K_sld dL_law_673 ?_
  refine K_aload_n 0 dL_law_674 rfl ?_
  refine K_iload_n 3 dL_law_675 rfl ?_
  refine K_iconst (v := 2) dL_law_676 (by decide) ?_
  refine K_iadd dL_law_677 ?_
  refine K_sld dL_law_678 ?_
  refine K_aload_n 0 dL_law_679 rfl ?_
  refine K_iload_n 3 dL_law_680 rfl ?_
  refine K_iconst (v := 3) dL_law_681 (by decide) ?_
  refine K_iadd dL_law_682 ?_
  refine K_sld dL_law_683 ?_
  refine K_aload_n 0 dL_law_684 rfl ?_
  refine K_iload_n 3 dL_law_685 rfl ?_
  refine K_iconst (v := 4) dL_law_686 (by decide) ?_
  refine K_iadd dL_law_687 ?_
  refine K_sld dL_law_688 ?_
  refine K_callVh (E' := e_X8_odds m0 [m1, m2, m3, m4, m5, m6, m7, m8, m9, m10, m11]) (b := 0) (As := [.int (G.2.2.2.2.2.2 (u + 1).toNatClampNeg), .int (G.2.2.2.2.2.2 (u + 2).toNatClampNeg), .int (G.2.2.2.2.2.2 (u + 3).toNatClampNeg), .int (G.2.2.2.2.2.2 (u + 4).toNatClampNeg)]) (rest := [.int r11]) dL_law_689 ml_L_81 (mf_X8_odds 3) mv_X8_odds (fun hj r hr => c_X8_odds hj m0 [m1, m2, m3, m4, m5, m6, m7, m8, m9, m10, m11] (G.2.2.2.2.2.2 (u + 1).toNatClampNeg) (G.2.2.2.2.2.2 (u + 2).toNatClampNeg) (G.2.2.2.2.2.2 (u + 3).toNatClampNeg) (G.2.2.2.2.2.2 (u + 4).toNatClampNeg) hr) (rcv_obj (q := (RX8, TX8, 37)) kl_0 rfl) rfl rfl (Nat.le_of_ble_eq_true rfl) (Nat.le_of_ble_eq_true rfl) (fun r12 hr12 => ?_)
  show K G mi_law e_law 692 [(0, .ref 23000), (1, .ref 11000), (2, .ref 0), (3, .int u)] [.int r12.1, .int r11] [r12.2, m1, m2, m3, m4, m5, m6, m7, m8, m9, m10, m11] _
  refine K_icmp_eq 1155 dL_law_692 rfl (fun _ => ?_) (fun _ => ?_)
  · exact hk G (Or.inl rfl) r12.2 m1 m2 m3 m4 m5 m6 m7 m8 m9 m10 m11 h7 h8
  · exact K_none
theorem k_law_15 {G : GE} (m0 m1 m2 m3 m4 m5 m6 m7 m8 m9 m10 m11 : Mem) (u : Int32) (k : Mem → Mem → Mem → Mem → Mem → Mem → Mem → Mem → Mem → Mem → Mem → Mem → Option M12) (h7 : m11 0 7 = 1) (h8 : m11 0 8 = 2) (hk : ∀ G' : GE, (G' = G ∨ G' = swapG G) → ∀ (m0 m1 m2 m3 m4 m5 m6 m7 m8 m9 m10 m11 : Mem), m11 0 7 = 1 → m11 0 8 = 2 → K G' mi_law e_law 1155 [(0, .ref 23000), (1, .ref 11000), (2, .ref 0), (3, .int u)] [] [m0, m1, m2, m3, m4, m5, m6, m7, m8, m9, m10, m11] (k m0 m1 m2 m3 m4 m5 m6 m7 m8 m9 m10 m11)) : K G mi_law e_law 697 [(0, .ref 23000), (1, .ref 11000), (2, .ref 0), (3, .int u)] [] [m0, m1, m2, m3, m4, m5, m6, m7, m8, m9, m10, m11] (f_law_15 G.2.2.2.2.2.1 G.2.2.2.2.2.2 m0 m1 m2 m3 m4 m5 m6 m7 m8 m9 m10 m11 u k) := by
  unfold f_law_15
  refine K_aload_n 1 dL_law_697 rfl ?_
  refine K_aload_n 0 dL_law_698 rfl ?_
  refine K_iload_n 3 dL_law_699 rfl ?_
  refine K_iconst (v := 1) dL_law_700 (by decide) ?_
  refine K_iadd dL_law_701 ?_
  refine K_sld dL_law_702 ?_
  refine K_callVh (E' := e_X7_goes m0 m1 m2 m3 m4 m5 m6 m7 m8 m9 m10 m11) (b := 11000) (As := [.int (G.2.2.2.2.2.2 (u + 1).toNatClampNeg)]) (rest := []) dL_law_703 ml_L_82 (mf_X7_goes 5) mv_X7_goes (fun hj r hr => c_X7_goes hj m0 m1 m2 m3 m4 m5 m6 m7 m8 m9 m10 m11 (G.2.2.2.2.2.2 (u + 1).toNatClampNeg) h7 hr) (rcv_obj (q := (RX7, TX7, 10)) kl_11000 rfl) rfl rfl (Nat.le_of_ble_eq_true rfl) (Nat.le_of_ble_eq_true rfl) (fun r11 hr11 => ?_)
  show K G mi_law e_law 706 [(0, .ref 23000), (1, .ref 11000), (2, .ref 0), (3, .int u)] [.int r11] [m0, m1, m2, m3, m4, m5, m6, m7, m8, m9, m10, m11] _
  refine K_aload_n 2 dL_law_706 rfl ?_
  refine K_aload_n 0 dL_law_707 rfl ?_
  refine K_iload_n 3 dL_law_708 rfl ?_
  refine K_iconst (v := 1) dL_law_709 (by decide) ?_
  refine K_iadd dL_law_710 ?_
  refine K_sld dL_law_711 ?_
  refine K_callVh (E' := e_X8_goes m0 [m1, m2, m3, m4, m5, m6, m7, m8, m9, m10, m11]) (b := 0) (As := [.int (G.2.2.2.2.2.2 (u + 1).toNatClampNeg)]) (rest := [.int r11]) dL_law_712 ml_L_85 (mf_X8_goes 5) mv_X8_goes (fun hj r hr => c_X8_goes hj m0 [m1, m2, m3, m4, m5, m6, m7, m8, m9, m10, m11] (G.2.2.2.2.2.2 (u + 1).toNatClampNeg) hr) (rcv_obj (q := (RX8, TX8, 37)) kl_0 rfl) rfl rfl (Nat.le_of_ble_eq_true rfl) (Nat.le_of_ble_eq_true rfl) (fun r12 hr12 => ?_)
  show K G mi_law e_law 715 [(0, .ref 23000), (1, .ref 11000), (2, .ref 0), (3, .int u)] [.int r12.1, .int r11] [r12.2, m1, m2, m3, m4, m5, m6, m7, m8, m9, m10, m11] _
  refine K_icmp_eq 1155 dL_law_715 rfl (fun _ => ?_) (fun _ => ?_)
  · exact hk G (Or.inl rfl) r12.2 m1 m2 m3 m4 m5 m6 m7 m8 m9 m10 m11 h7 h8
  · exact K_none
theorem k_law_16 {G : GE} (m0 m1 m2 m3 m4 m5 m6 m7 m8 m9 m10 m11 : Mem) (u : Int32) (k : Mem → Mem → Mem → Mem → Mem → Mem → Mem → Mem → Mem → Mem → Mem → Mem → Option M12) (h7 : m11 0 7 = 1) (h8 : m11 0 8 = 2) (hk : ∀ G' : GE, (G' = G ∨ G' = swapG G) → ∀ (m0 m1 m2 m3 m4 m5 m6 m7 m8 m9 m10 m11 : Mem), m11 0 7 = 1 → m11 0 8 = 2 → K G' mi_law e_law 1155 [(0, .ref 23000), (1, .ref 11000), (2, .ref 0), (3, .int u)] [] [m0, m1, m2, m3, m4, m5, m6, m7, m8, m9, m10, m11] (k m0 m1 m2 m3 m4 m5 m6 m7 m8 m9 m10 m11)) : K G mi_law e_law 720 [(0, .ref 23000), (1, .ref 11000), (2, .ref 0), (3, .int u)] [] [m0, m1, m2, m3, m4, m5, m6, m7, m8, m9, m10, m11] (f_law_16 G.2.2.2.2.2.1 G.2.2.2.2.2.2 m0 m1 m2 m3 m4 m5 m6 m7 m8 m9 m10 m11 u k) := by
  unfold f_law_16
  refine K_aload_n 1 dL_law_720 rfl ?_
  refine K_aload_n 0 dL_law_721 rfl ?_
  refine K_iload_n 3 dL_law_722 rfl ?_
  refine K_iconst (v := 1) dL_law_723 (by decide) ?_
  refine K_iadd dL_law_724 ?_
  refine K_sld dL_law_725 ?_
  refine K_aload_n 0 dL_law_726 rfl ?_
  refine K_iload_n 3 dL_law_727 rfl ?_
  refine K_iconst (v := 2) dL_law_728 (by decide) ?_
  refine K_iadd dL_law_729 ?_
  refine K_sld dL_law_730 ?_
  refine K_callVh (E' := e_X7_home m0 m1 m2 m3 m4 m5 m6 m7 m8 m9 m10 m11) (b := 11000) (As := [.int (G.2.2.2.2.2.2 (u + 1).toNatClampNeg), .int (G.2.2.2.2.2.2 (u + 2).toNatClampNeg)]) (rest := []) dL_law_731 ml_L_86 (mf_X7_home 42) mv_X7_home (fun hj r hr => c_X7_home hj m0 m1 m2 m3 m4 m5 m6 m7 m8 m9 m10 m11 (G.2.2.2.2.2.2 (u + 1).toNatClampNeg) (G.2.2.2.2.2.2 (u + 2).toNatClampNeg) h7 hr) (rcv_obj (q := (RX7, TX7, 10)) kl_11000 rfl) rfl rfl (Nat.le_of_ble_eq_true rfl) (Nat.le_of_ble_eq_true rfl) (fun r11 hr11 => ?_)
  show K G mi_law e_law 734 [(0, .ref 23000), (1, .ref 11000), (2, .ref 0), (3, .int u)] [.int r11.1] [m0, m1, m2, r11.2, m4, m5, m6, m7, m8, m9, m10, m11] _
  refine K_aload_n 2 dL_law_734 rfl ?_
  refine K_aload_n 0 dL_law_735 rfl ?_
  refine K_iload_n 3 dL_law_736 rfl ?_
  refine K_iconst (v := 1) dL_law_737 (by decide) ?_
  refine K_iadd dL_law_738 ?_
  refine K_sld dL_law_739 ?_
  refine K_aload_n 0 dL_law_740 rfl ?_
  refine K_iload_n 3 dL_law_741 rfl ?_
  refine K_iconst (v := 2) dL_law_742 (by decide) ?_
  refine K_iadd dL_law_743 ?_
  refine K_sld dL_law_744 ?_
  refine K_callVh (E' := e_X8_home m0 [m1, m2, r11.2, m4, m5, m6, m7, m8, m9, m10, m11]) (b := 0) (As := [.int (G.2.2.2.2.2.2 (u + 1).toNatClampNeg), .int (G.2.2.2.2.2.2 (u + 2).toNatClampNeg)]) (rest := [.int r11.1]) dL_law_745 ml_L_89 (mf_X8_home 6) mv_X8_home (fun hj r hr => c_X8_home hj m0 [m1, m2, r11.2, m4, m5, m6, m7, m8, m9, m10, m11] (G.2.2.2.2.2.2 (u + 1).toNatClampNeg) (G.2.2.2.2.2.2 (u + 2).toNatClampNeg) hr) (rcv_obj (q := (RX8, TX8, 37)) kl_0 rfl) rfl rfl (Nat.le_of_ble_eq_true rfl) (Nat.le_of_ble_eq_true rfl) (fun r12 hr12 => ?_)
  show K G mi_law e_law 748 [(0, .ref 23000), (1, .ref 11000), (2, .ref 0), (3, .int u)] [.int r12.1, .int r11.1] [r12.2, m1, m2, r11.2, m4, m5, m6, m7, m8, m9, m10, m11] _
  refine K_icmp_eq 1155 dL_law_748 rfl (fun _ => ?_) (fun _ => ?_)
  · exact hk G (Or.inl rfl) r12.2 m1 m2 r11.2 m4 m5 m6 m7 m8 m9 m10 m11 h7 h8
  · exact K_none
theorem k_law_17 {G : GE} (m0 m1 m2 m3 m4 m5 m6 m7 m8 m9 m10 m11 : Mem) (u : Int32) (k : Mem → Mem → Mem → Mem → Mem → Mem → Mem → Mem → Mem → Mem → Mem → Mem → Option M12) (h7 : m11 0 7 = 1) (h8 : m11 0 8 = 2) (hk : ∀ G' : GE, (G' = G ∨ G' = swapG G) → ∀ (m0 m1 m2 m3 m4 m5 m6 m7 m8 m9 m10 m11 : Mem), m11 0 7 = 1 → m11 0 8 = 2 → K G' mi_law e_law 1155 [(0, .ref 23000), (1, .ref 11000), (2, .ref 0), (3, .int u)] [] [m0, m1, m2, m3, m4, m5, m6, m7, m8, m9, m10, m11] (k m0 m1 m2 m3 m4 m5 m6 m7 m8 m9 m10 m11)) : K G mi_law e_law 753 [(0, .ref 23000), (1, .ref 11000), (2, .ref 0), (3, .int u)] [] [m0, m1, m2, m3, m4, m5, m6, m7, m8, m9, m10, m11] (f_law_17 G.2.2.2.2.2.1 G.2.2.2.2.2.2 m0 m1 m2 m3 m4 m5 m6 m7 m8 m9 m10 m11 u k) := by
  unfold f_law_17
  refine K_aload_n 1 dL_law_753 rfl ?_
  refine K_aload_n 0 dL_law_754 rfl ?_
  refine K_iload_n 3 dL_law_755 rfl ?_
  refine K_iconst (v := 1) dL_law_756 (by decide) ?_
  refine K_iadd dL_law_757 ?_
  refine K_sld dL_law_758 ?_
  refine K_aload_n 0 dL_law_759 rfl ?_
  refine K_iload_n 3 dL_law_760 rfl ?_
  refine K_iconst (v := 2) dL_law_761 (by decide) ?_
  refine K_iadd dL_law_762 ?_
  refine K_sld dL_law_763 ?_
  refine K_aload_n 0 dL_law_764 rfl ?_
  refine K_iload_n 3 dL_law_765 rfl ?_
  refine K_iconst (v := 3) dL_law_766 (by decide) ?_
  refine K_iadd dL_law_767 ?_
  refine K_sld dL_law_768 ?_
  refine K_callVh (E' := e_X7_order m0 m1 m2 m3 m4 m5 m6 m7 m8 m9 m10 m11) (b := 11000) (As := [.int (G.2.2.2.2.2.2 (u + 1).toNatClampNeg), .int (G.2.2.2.2.2.2 (u + 2).toNatClampNeg), .int (G.2.2.2.2.2.2 (u + 3).toNatClampNeg)]) (rest := []) dL_law_769 ml_L_90 (mf_X7_order 42) mv_X7_order (fun hj r hr => c_X7_order hj m0 m1 m2 m3 m4 m5 m6 m7 m8 m9 m10 m11 (G.2.2.2.2.2.2 (u + 1).toNatClampNeg) (G.2.2.2.2.2.2 (u + 2).toNatClampNeg) (G.2.2.2.2.2.2 (u + 3).toNatClampNeg) h7 hr) (rcv_obj (q := (RX7, TX7, 10)) kl_11000 rfl) rfl rfl (Nat.le_of_ble_eq_true rfl) (Nat.le_of_ble_eq_true rfl) (fun r11 hr11 => ?_)
  show K G mi_law e_law 772 [(0, .ref 23000), (1, .ref 11000), (2, .ref 0), (3, .int u)] [.int r11.1] [m0, m1, m2, r11.2, m4, m5, m6, m7, m8, m9, m10, m11] _
  refine K_aload_n 2 dL_law_772 rfl ?_
  refine K_aload_n 0 dL_law_773 rfl ?_
  refine K_iload_n 3 dL_law_774 rfl ?_
  refine K_iconst (v := 1) dL_law_775 (by decide) ?_
  refine K_iadd dL_law_776 ?_
  refine K_sld dL_law_777 ?_
  refine K_aload_n 0 dL_law_778 rfl ?_
  refine K_iload_n 3 dL_law_779 rfl ?_
  refine K_iconst (v := 2) dL_law_780 (by decide) ?_
  refine K_iadd dL_law_781 ?_
  refine K_sld dL_law_782 ?_
  refine K_aload_n 0 dL_law_783 rfl ?_
  refine K_iload_n 3 dL_law_784 rfl ?_
  refine K_iconst (v := 3) dL_law_785 (by decide) ?_
  refine K_iadd dL_law_786 ?_
  refine K_sld dL_law_787 ?_
  refine K_callVh (E' := e_X8_order m0 [m1, m2, r11.2, m4, m5, m6, m7, m8, m9, m10, m11]) (b := 0) (As := [.int (G.2.2.2.2.2.2 (u + 1).toNatClampNeg), .int (G.2.2.2.2.2.2 (u + 2).toNatClampNeg), .int (G.2.2.2.2.2.2 (u + 3).toNatClampNeg)]) (rest := [.int r11.1]) dL_law_788 ml_L_93 (mf_X8_order 6) mv_X8_order (fun hj r hr => c_X8_order hj m0 [m1, m2, r11.2, m4, m5, m6, m7, m8, m9, m10, m11] (G.2.2.2.2.2.2 (u + 1).toNatClampNeg) (G.2.2.2.2.2.2 (u + 2).toNatClampNeg) (G.2.2.2.2.2.2 (u + 3).toNatClampNeg) hr) (rcv_obj (q := (RX8, TX8, 37)) kl_0 rfl) rfl rfl (Nat.le_of_ble_eq_true rfl) (Nat.le_of_ble_eq_true rfl) (fun r12 hr12 => ?_)
  show K G mi_law e_law 791 [(0, .ref 23000), (1, .ref 11000), (2, .ref 0), (3, .int u)] [.int r12.1, .int r11.1] [r12.2, m1, m2, r11.2, m4, m5, m6, m7, m8, m9, m10, m11] _
  refine K_icmp_eq 1155 dL_law_791 rfl (fun _ => ?_) (fun _ => ?_)
  · exact hk G (Or.inl rfl) r12.2 m1 m2 r11.2 m4 m5 m6 m7 m8 m9 m10 m11 h7 h8
  · exact K_none
