theorem k_law_loop : ∀ (t : Nat) (G : GE) (m0 m1 m2 m3 m4 m5 m6 m7 m8 m9 m10 m11 : Mem) (u : Int32), m11 0 7 = 1 → m11 0 8 = 2 → K G mi_law e_law 18 [(0, .ref 23000), (1, .ref 11000), (2, .ref 0), (3, .int u)] [] [m0, m1, m2, m3, m4, m5, m6, m7, m8, m9, m10, m11] (f_law G.2.2.2.2.2.1 G.2.2.2.2.2.2 t m0 m1 m2 m3 m4 m5 m6 m7 m8 m9 m10 m11 u) := by
  intro t
  induction t with
  | zero => intro G m0 m1 m2 m3 m4 m5 m6 m7 m8 m9 m10 m11 u h7 h8; exact K_none
  | succ t ih =>
    intro G m0 m1 m2 m3 m4 m5 m6 m7 m8 m9 m10 m11 u h7 h8
    have tail : ∀ G' : GE, (G' = G ∨ G' = swapG G) → ∀ (m0 m1 m2 m3 m4 m5 m6 m7 m8 m9 m10 m11 : Mem), m11 0 7 = 1 → m11 0 8 = 2 → K G' mi_law e_law 1155 [(0, .ref 23000), (1, .ref 11000), (2, .ref 0), (3, .int u)] [] [m0, m1, m2, m3, m4, m5, m6, m7, m8, m9, m10, m11] (f_law G.2.2.2.2.2.1 G.2.2.2.2.2.2 t m0 m1 m2 m3 m4 m5 m6 m7 m8 m9 m10 m11 (u + 6)) := by
      intro G' hG m0 m1 m2 m3 m4 m5 m6 m7 m8 m9 m10 m11 h7 h8
      have e1 : G'.2.2.2.2.2.1 = G.2.2.2.2.2.1 ∧ G'.2.2.2.2.2.2 = G.2.2.2.2.2.2 := by rcases hG with rfl | rfl <;> exact ⟨rfl, rfl⟩
      have hi := ih G' m0 m1 m2 m3 m4 m5 m6 m7 m8 m9 m10 m11 (u + 6) h7 h8
      rw [e1.1, e1.2] at hi
      refine K_iinc 3 (w := u + 6) (lv' := [(3, .int (u + 6)), (0, .ref 23000), (1, .ref 11000), (2, .ref 0)]) dL_law_1155 rfl rfl (by decide) rfl ?_
      refine K_goto 18 dL_law_1158 rfl ?_
      refine K_loc [1, 2, 3, 0] (lv' := [(0, .ref 23000), (1, .ref 11000), (2, .ref 0), (3, .int (u + 6))]) rfl ?_
      exact hi
    rw [f_law]
    refine K_iload_n 3 dL_law_18 rfl ?_
    refine K_aload_n 0 dL_law_19 rfl ?_
    refine K_slenX dL_law_20 ?_
    refine K_bipush (v := 6) dL_law_21 (by decide) ?_
    refine K_isub dL_law_23 ?_
    refine K_icmp_gt 1161 dL_law_24 rfl (fun _ => ?_) (fun _ => ?_)
    · refine K_iconst (v := 1) dL_law_1161 (by decide) ?_
      exact K_ret (rv := some (.int 1)) dL_law_1162 rfl rfl rfl
    refine K_aload_n 0 dL_law_27 rfl ?_
    refine K_iload_n 3 dL_law_28 rfl ?_
    refine K_sld dL_law_29 ?_
    refine K_bipush (v := 31) dL_law_30 (by decide) ?_
    refine K_iand dL_law_32 ?_
    refine K_nmi (fun x => ?_)
    refine K_ite (c := x = 0) (fun hs0 => ?_) (fun hs0 => ?_)
    · refine K_tabIn (off := 139) 172 dL_law_33 (by rw [hs0]; decide) (by rw [hs0]; decide) (by rw [hs0]; rfl) rfl ?_
      exact k_law_0 m0 m1 m2 m3 m4 m5 m6 m7 m8 m9 m10 m11 u _ h7 h8 tail
    refine K_ite (c := x = 1) (fun hs1 => ?_) (fun hs1 => ?_)
    · refine K_tabIn (off := 182) 215 dL_law_33 (by rw [hs1]; decide) (by rw [hs1]; decide) (by rw [hs1]; rfl) rfl ?_
      exact k_law_1 m0 m1 m2 m3 m4 m5 m6 m7 m8 m9 m10 m11 u _ h7 h8 tail
    refine K_ite (c := x = 2) (fun hs2 => ?_) (fun hs2 => ?_)
    · refine K_tabIn (off := 225) 258 dL_law_33 (by rw [hs2]; decide) (by rw [hs2]; decide) (by rw [hs2]; rfl) rfl ?_
      exact k_law_2 m0 m1 m2 m3 m4 m5 m6 m7 m8 m9 m10 m11 u _ h7 h8 tail
    refine K_ite (c := x = 3) (fun hs3 => ?_) (fun hs3 => ?_)
    · refine K_tabIn (off := 288) 321 dL_law_33 (by rw [hs3]; decide) (by rw [hs3]; decide) (by rw [hs3]; rfl) rfl ?_
      exact k_law_3 m0 m1 m2 m3 m4 m5 m6 m7 m8 m9 m10 m11 u _ h7 h8 tail
    refine K_ite (c := x = 4) (fun hs4 => ?_) (fun hs4 => ?_)
    · refine K_tabIn (off := 311) 344 dL_law_33 (by rw [hs4]; decide) (by rw [hs4]; decide) (by rw [hs4]; rfl) rfl ?_
      exact k_law_4 m0 m1 m2 m3 m4 m5 m6 m7 m8 m9 m10 m11 u _ h7 h8 tail
    refine K_ite (c := x = 5) (fun hs5 => ?_) (fun hs5 => ?_)
    · refine K_tabIn (off := 374) 407 dL_law_33 (by rw [hs5]; decide) (by rw [hs5]; decide) (by rw [hs5]; rfl) rfl ?_
      exact k_law_5 m0 m1 m2 m3 m4 m5 m6 m7 m8 m9 m10 m11 u _ h7 h8 tail
    refine K_ite (c := x = 6) (fun hs6 => ?_) (fun hs6 => ?_)
    · refine K_tabIn (off := 387) 420 dL_law_33 (by rw [hs6]; decide) (by rw [hs6]; decide) (by rw [hs6]; rfl) rfl ?_
      exact k_law_6 m0 m1 m2 m3 m4 m5 m6 m7 m8 m9 m10 m11 u _ h7 h8 tail
    refine K_ite (c := x = 7) (fun hs7 => ?_) (fun hs7 => ?_)
    · refine K_tabIn (off := 400) 433 dL_law_33 (by rw [hs7]; decide) (by rw [hs7]; decide) (by rw [hs7]; rfl) rfl ?_
      exact k_law_7 m0 m1 m2 m3 m4 m5 m6 m7 m8 m9 m10 m11 u _ h7 h8 tail
    refine K_ite (c := x = 8) (fun hs8 => ?_) (fun hs8 => ?_)
    · refine K_tabIn (off := 433) 466 dL_law_33 (by rw [hs8]; decide) (by rw [hs8]; decide) (by rw [hs8]; rfl) rfl ?_
      exact k_law_8 m0 m1 m2 m3 m4 m5 m6 m7 m8 m9 m10 m11 u _ h7 h8 tail
    refine K_ite (c := x = 9) (fun hs9 => ?_) (fun hs9 => ?_)
    · refine K_tabIn (off := 446) 479 dL_law_33 (by rw [hs9]; decide) (by rw [hs9]; decide) (by rw [hs9]; rfl) rfl ?_
      exact k_law_9 m0 m1 m2 m3 m4 m5 m6 m7 m8 m9 m10 m11 u _ h7 h8 tail
    refine K_ite (c := x = 10) (fun hs10 => ?_) (fun hs10 => ?_)
    · refine K_tabIn (off := 479) 512 dL_law_33 (by rw [hs10]; decide) (by rw [hs10]; decide) (by rw [hs10]; rfl) rfl ?_
      exact k_law_10 m0 m1 m2 m3 m4 m5 m6 m7 m8 m9 m10 m11 u _ h7 h8 tail
    refine K_ite (c := x = 11) (fun hs11 => ?_) (fun hs11 => ?_)
    · refine K_tabIn (off := 512) 545 dL_law_33 (by rw [hs11]; decide) (by rw [hs11]; decide) (by rw [hs11]; rfl) rfl ?_
      exact k_law_11 m0 m1 m2 m3 m4 m5 m6 m7 m8 m9 m10 m11 u _ h7 h8 tail
    refine K_ite (c := x = 12) (fun hs12 => ?_) (fun hs12 => ?_)
    · refine K_tabIn (off := 545) 578 dL_law_33 (by rw [hs12]; decide) (by rw [hs12]; decide) (by rw [hs12]; rfl) rfl ?_
      exact k_law_12 m0 m1 m2 m3 m4 m5 m6 m7 m8 m9 m10 m11 u _ h7 h8 tail
    refine K_ite (c := x = 13) (fun hs13 => ?_) (fun hs13 => ?_)
    · refine K_tabIn (off := 588) 621 dL_law_33 (by rw [hs13]; decide) (by rw [hs13]; decide) (by rw [hs13]; rfl) rfl ?_
      exact k_law_13 m0 m1 m2 m3 m4 m5 m6 m7 m8 m9 m10 m11 u _ h7 h8 tail
    refine K_ite (c := x = 14) (fun hs14 => ?_) (fun hs14 => ?_)
    · refine K_tabIn (off := 611) 644 dL_law_33 (by rw [hs14]; decide) (by rw [hs14]; decide) (by rw [hs14]; rfl) rfl ?_
      exact k_law_14 m0 m1 m2 m3 m4 m5 m6 m7 m8 m9 m10 m11 u _ h7 h8 tail
    refine K_ite (c := x = 15) (fun hs15 => ?_) (fun hs15 => ?_)
    · refine K_tabIn (off := 664) 697 dL_law_33 (by rw [hs15]; decide) (by rw [hs15]; decide) (by rw [hs15]; rfl) rfl ?_
      exact k_law_15 m0 m1 m2 m3 m4 m5 m6 m7 m8 m9 m10 m11 u _ h7 h8 tail
    refine K_ite (c := x = 16) (fun hs16 => ?_) (fun hs16 => ?_)
    · refine K_tabIn (off := 687) 720 dL_law_33 (by rw [hs16]; decide) (by rw [hs16]; decide) (by rw [hs16]; rfl) rfl ?_
      exact k_law_16 m0 m1 m2 m3 m4 m5 m6 m7 m8 m9 m10 m11 u _ h7 h8 tail
    refine K_ite (c := x = 17) (fun hs17 => ?_) (fun hs17 => ?_)
    · refine K_tabIn (off := 720) 753 dL_law_33 (by rw [hs17]; decide) (by rw [hs17]; decide) (by rw [hs17]; rfl) rfl ?_
      exact k_law_17 m0 m1 m2 m3 m4 m5 m6 m7 m8 m9 m10 m11 u _ h7 h8 tail
    refine K_ite (c := x = 18) (fun hs18 => ?_) (fun hs18 => ?_)
    · refine K_tabIn (off := 763) 796 dL_law_33 (by rw [hs18]; decide) (by rw [hs18]; decide) (by rw [hs18]; rfl) rfl ?_
      exact k_law_18 m0 m1 m2 m3 m4 m5 m6 m7 m8 m9 m10 m11 u _ h7 h8 tail
    refine K_ite (c := x = 19) (fun hs19 => ?_) (fun hs19 => ?_)
    · refine K_tabIn (off := 796) 829 dL_law_33 (by rw [hs19]; decide) (by rw [hs19]; decide) (by rw [hs19]; rfl) rfl ?_
      exact k_law_19 m0 m1 m2 m3 m4 m5 m6 m7 m8 m9 m10 m11 u _ h7 h8 tail
    refine K_ite (c := x = 20) (fun hs20 => ?_) (fun hs20 => ?_)
    · refine K_tabIn (off := 819) 852 dL_law_33 (by rw [hs20]; decide) (by rw [hs20]; decide) (by rw [hs20]; rfl) rfl ?_
      exact k_law_20 m0 m1 m2 m3 m4 m5 m6 m7 m8 m9 m10 m11 u _ h7 h8 tail
    refine K_ite (c := x = 21) (fun hs21 => ?_) (fun hs21 => ?_)
    · refine K_tabIn (off := 842) 875 dL_law_33 (by rw [hs21]; decide) (by rw [hs21]; decide) (by rw [hs21]; rfl) rfl ?_
      exact k_law_21 m0 m1 m2 m3 m4 m5 m6 m7 m8 m9 m10 m11 u _ h7 h8 tail
    refine K_ite (c := x = 22) (fun hs22 => ?_) (fun hs22 => ?_)
    · refine K_tabIn (off := 885) 918 dL_law_33 (by rw [hs22]; decide) (by rw [hs22]; decide) (by rw [hs22]; rfl) rfl ?_
      exact k_law_22 m0 m1 m2 m3 m4 m5 m6 m7 m8 m9 m10 m11 u _ h7 h8 tail
    refine K_ite (c := x = 23) (fun hs23 => ?_) (fun hs23 => ?_)
    · refine K_tabIn (off := 928) 961 dL_law_33 (by rw [hs23]; decide) (by rw [hs23]; decide) (by rw [hs23]; rfl) rfl ?_
      exact k_law_23 m0 m1 m2 m3 m4 m5 m6 m7 m8 m9 m10 m11 u _ h7 h8 tail
    refine K_ite (c := x = 24) (fun hs24 => ?_) (fun hs24 => ?_)
    · refine K_tabIn (off := 951) 984 dL_law_33 (by rw [hs24]; decide) (by rw [hs24]; decide) (by rw [hs24]; rfl) rfl ?_
      exact k_law_24 m0 m1 m2 m3 m4 m5 m6 m7 m8 m9 m10 m11 u _ h7 h8 tail
    refine K_ite (c := x = 25) (fun hs25 => ?_) (fun hs25 => ?_)
    · refine K_tabIn (off := 974) 1007 dL_law_33 (by rw [hs25]; decide) (by rw [hs25]; decide) (by rw [hs25]; rfl) rfl ?_
      exact k_law_25 m0 m1 m2 m3 m4 m5 m6 m7 m8 m9 m10 m11 u _ h7 h8 tail
    refine K_ite (c := x = 26) (fun hs26 => ?_) (fun hs26 => ?_)
    · refine K_tabIn (off := 997) 1030 dL_law_33 (by rw [hs26]; decide) (by rw [hs26]; decide) (by rw [hs26]; rfl) rfl ?_
      exact k_law_26 m0 m1 m2 m3 m4 m5 m6 m7 m8 m9 m10 m11 u _ h7 h8 tail
    refine K_ite (c := x = 27) (fun hs27 => ?_) (fun hs27 => ?_)
    · refine K_tabIn (off := 1030) 1063 dL_law_33 (by rw [hs27]; decide) (by rw [hs27]; decide) (by rw [hs27]; rfl) rfl ?_
      exact k_law_27 m0 m1 m2 m3 m4 m5 m6 m7 m8 m9 m10 m11 u _ h7 h8 tail
    refine K_ite (c := x = 28) (fun hs28 => ?_) (fun hs28 => ?_)
    · refine K_tabIn (off := 1063) 1096 dL_law_33 (by rw [hs28]; decide) (by rw [hs28]; decide) (by rw [hs28]; rfl) rfl ?_
      exact k_law_28 m0 m1 m2 m3 m4 m5 m6 m7 m8 m9 m10 m11 u _ h7 h8 tail
    refine K_ite (c := x = 29) (fun hs29 => ?_) (fun hs29 => ?_)
    · refine K_tabIn (off := 1086) 1119 dL_law_33 (by rw [hs29]; decide) (by rw [hs29]; decide) (by rw [hs29]; rfl) rfl ?_
      exact k_law_29 m0 m1 m2 m3 m4 m5 m6 m7 m8 m9 m10 m11 u _ h7 h8 tail
    refine K_ite (c := x = 30) (fun hs30 => ?_) (fun hs30 => ?_)
    · refine K_tabIn (off := 1109) 1142 dL_law_33 (by rw [hs30]; decide) (by rw [hs30]; decide) (by rw [hs30]; rfl) rfl ?_
      exact k_law_30 m0 m1 m2 m3 m4 m5 m6 m7 m8 m9 m10 m11 u _ h7 h8 tail
    refine K_tabOut 1155 dL_law_33 (by have e0 := lv_neT hs0 (a := 0) (by decide); have e1 := lv_neT hs1 (a := 1) (by decide); have e2 := lv_neT hs2 (a := 2) (by decide); have e3 := lv_neT hs3 (a := 3) (by decide); have e4 := lv_neT hs4 (a := 4) (by decide); have e5 := lv_neT hs5 (a := 5) (by decide); have e6 := lv_neT hs6 (a := 6) (by decide); have e7 := lv_neT hs7 (a := 7) (by decide); have e8 := lv_neT hs8 (a := 8) (by decide); have e9 := lv_neT hs9 (a := 9) (by decide); have e10 := lv_neT hs10 (a := 10) (by decide); have e11 := lv_neT hs11 (a := 11) (by decide); have e12 := lv_neT hs12 (a := 12) (by decide); have e13 := lv_neT hs13 (a := 13) (by decide); have e14 := lv_neT hs14 (a := 14) (by decide); have e15 := lv_neT hs15 (a := 15) (by decide); have e16 := lv_neT hs16 (a := 16) (by decide); have e17 := lv_neT hs17 (a := 17) (by decide); have e18 := lv_neT hs18 (a := 18) (by decide); have e19 := lv_neT hs19 (a := 19) (by decide); have e20 := lv_neT hs20 (a := 20) (by decide); have e21 := lv_neT hs21 (a := 21) (by decide); have e22 := lv_neT hs22 (a := 22) (by decide); have e23 := lv_neT hs23 (a := 23) (by decide); have e24 := lv_neT hs24 (a := 24) (by decide); have e25 := lv_neT hs25 (a := 25) (by decide); have e26 := lv_neT hs26 (a := 26) (by decide); have e27 := lv_neT hs27 (a := 27) (by decide); have e28 := lv_neT hs28 (a := 28) (by decide); have e29 := lv_neT hs29 (a := 29) (by decide); have e30 := lv_neT hs30 (a := 30) (by decide); omega) rfl ?_
    exact tail G (Or.inl rfl) m0 m1 m2 m3 m4 m5 m6 m7 m8 m9 m10 m11 h7 h8
