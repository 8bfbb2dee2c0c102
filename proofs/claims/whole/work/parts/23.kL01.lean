theorem k_law_18 {G : GE} (m0 m1 m2 m3 m4 m5 m6 m7 m8 m9 m10 m11 : Mem) (u : Int32) (k : Mem → Mem → Mem → Mem → Mem → Mem → Mem → Mem → Mem → Mem → Mem → Mem → Option M12) (h7 : m11 0 7 = 1) (h8 : m11 0 8 = 2) (hk : ∀ G' : GE, (G' = G ∨ G' = swapG G) → ∀ (m0 m1 m2 m3 m4 m5 m6 m7 m8 m9 m10 m11 : Mem), m11 0 7 = 1 → m11 0 8 = 2 → K G' mi_law e_law 1155 [(0, .ref 23000), (1, .ref 11000), (2, .ref 0), (3, .int u)] [] [m0, m1, m2, m3, m4, m5, m6, m7, m8, m9, m10, m11] (k m0 m1 m2 m3 m4 m5 m6 m7 m8 m9 m10 m11)) : K G mi_law e_law 796 [(0, .ref 23000), (1, .ref 11000), (2, .ref 0), (3, .int u)] [] [m0, m1, m2, m3, m4, m5, m6, m7, m8, m9, m10, m11] (f_law_18 G.2.2.2.2.2.1 G.2.2.2.2.2.2 m0 m1 m2 m3 m4 m5 m6 m7 m8 m9 m10 m11 u k) := by
  unfold f_law_18
  refine K_aload_n 1 dL_law_796 rfl ?_
  refine K_aload_n 0 dL_law_797 rfl ?_
  refine K_iload_n 3 dL_law_798 rfl ?_
  refine K_iconst (v := 1) dL_law_799 (by decide) ?_
  refine K_iadd dL_law_800 ?_
  refine K_sld dL_law_801 ?_
  refine K_aload_n 0 dL_law_802 rfl ?_
  refine K_iload_n 3 dL_law_803 rfl ?_
  refine K_iconst (v := 2) dL_law_804 (by decide) ?_
  refine K_iadd dL_law_805 ?_
  refine K_sld dL_law_806 ?_
  refine K_callVh (E' := e_X7_detour m0 m1 m2 m3 m4 m5 m6 m7 m8 m9 m10 m11) (b := 11000) (As := [.int (G.2.2.2.2.2.2 (u + 1).toNatClampNeg), .int (G.2.2.2.2.2.2 (u + 2).toNatClampNeg)]) (rest := []) dL_law_807 ml_L_94 (mf_X7_detour 42) mv_X7_detour (fun hj r hr => c_X7_detour hj m0 m1 m2 m3 m4 m5 m6 m7 m8 m9 m10 m11 (G.2.2.2.2.2.2 (u + 1).toNatClampNeg) (G.2.2.2.2.2.2 (u + 2).toNatClampNeg) h7 hr) (rcv_obj (q := (RX7, TX7, 10)) kl_11000 rfl) rfl rfl (Nat.le_of_ble_eq_true rfl) (Nat.le_of_ble_eq_true rfl) (fun r11 hr11 => ?_)
  show K G mi_law e_law 810 [(0, .ref 23000), (1, .ref 11000), (2, .ref 0), (3, .int u)] [.int r11.1] [m0, m1, m2, r11.2, m4, m5, m6, m7, m8, m9, m10, m11] _
  refine K_aload_n 2 dL_law_810 rfl ?_
  refine K_aload_n 0 dL_law_811 rfl ?_
  refine K_iload_n 3 dL_law_812 rfl ?_
  refine K_iconst (v := 1) dL_law_813 (by decide) ?_
  refine K_iadd dL_law_814 ?_
  refine K_sld dL_law_815 ?_
  refine K_aload_n 0 dL_law_816 rfl ?_
  refine K_iload_n 3 dL_law_817 rfl ?_
  refine K_iconst (v := 2) dL_law_818 (by decide) ?_
  refine K_iadd dL_law_819 ?_
  refine K_sld dL_law_820 ?_
  refine K_callVh (E' := e_X8_detour m0 [m1, m2, r11.2, m4, m5, m6, m7, m8, m9, m10, m11]) (b := 0) (As := [.int (G.2.2.2.2.2.2 (u + 1).toNatClampNeg), .int (G.2.2.2.2.2.2 (u + 2).toNatClampNeg)]) (rest := [.int r11.1]) dL_law_821 ml_L_97 (mf_X8_detour 6) mv_X8_detour (fun hj r hr => c_X8_detour hj m0 [m1, m2, r11.2, m4, m5, m6, m7, m8, m9, m10, m11] (G.2.2.2.2.2.2 (u + 1).toNatClampNeg) (G.2.2.2.2.2.2 (u + 2).toNatClampNeg) hr) (rcv_obj (q := (RX8, TX8, 37)) kl_0 rfl) rfl rfl (Nat.le_of_ble_eq_true rfl) (Nat.le_of_ble_eq_true rfl) (fun r12 hr12 => ?_)
  show K G mi_law e_law 824 [(0, .ref 23000), (1, .ref 11000), (2, .ref 0), (3, .int u)] [.int r12.1, .int r11.1] [r12.2, m1, m2, r11.2, m4, m5, m6, m7, m8, m9, m10, m11] _
  refine K_icmp_eq 1155 dL_law_824 rfl (fun _ => ?_) (fun _ => ?_)
  · exact hk G (Or.inl rfl) r12.2 m1 m2 r11.2 m4 m5 m6 m7 m8 m9 m10 m11 h7 h8
  · exact K_none
theorem k_law_19 {G : GE} (m0 m1 m2 m3 m4 m5 m6 m7 m8 m9 m10 m11 : Mem) (u : Int32) (k : Mem → Mem → Mem → Mem → Mem → Mem → Mem → Mem → Mem → Mem → Mem → Mem → Option M12) (h7 : m11 0 7 = 1) (h8 : m11 0 8 = 2) (hk : ∀ G' : GE, (G' = G ∨ G' = swapG G) → ∀ (m0 m1 m2 m3 m4 m5 m6 m7 m8 m9 m10 m11 : Mem), m11 0 7 = 1 → m11 0 8 = 2 → K G' mi_law e_law 1155 [(0, .ref 23000), (1, .ref 11000), (2, .ref 0), (3, .int u)] [] [m0, m1, m2, m3, m4, m5, m6, m7, m8, m9, m10, m11] (k m0 m1 m2 m3 m4 m5 m6 m7 m8 m9 m10 m11)) : K G mi_law e_law 829 [(0, .ref 23000), (1, .ref 11000), (2, .ref 0), (3, .int u)] [] [m0, m1, m2, m3, m4, m5, m6, m7, m8, m9, m10, m11] (f_law_19 G.2.2.2.2.2.1 G.2.2.2.2.2.2 m0 m1 m2 m3 m4 m5 m6 m7 m8 m9 m10 m11 u k) := by
  unfold f_law_19
  refine K_aload_n 1 dL_law_829 rfl ?_
  refine K_aload_n 0 dL_law_830 rfl ?_
  refine K_iload_n 3 dL_law_831 rfl ?_
  refine K_iconst (v := 1) dL_law_832 (by decide) ?_
  refine K_iadd dL_law_833 ?_
  refine K_sld dL_law_834 ?_
  refine K_callVh (E' := e_X7_fetch m0 m1 m2 m3 m4 m5 m6 m7 m8 m9 m10 m11) (b := 11000) (As := [.int (G.2.2.2.2.2.2 (u + 1).toNatClampNeg)]) (rest := []) dL_law_835 ml_L_98 (mf_X7_fetch 5) mv_X7_fetch (fun hj r hr => c_X7_fetch hj m0 m1 m2 m3 m4 m5 m6 m7 m8 m9 m10 m11 (G.2.2.2.2.2.2 (u + 1).toNatClampNeg) h7 hr) (rcv_obj (q := (RX7, TX7, 10)) kl_11000 rfl) rfl rfl (Nat.le_of_ble_eq_true rfl) (Nat.le_of_ble_eq_true rfl) (fun r11 hr11 => ?_)
  show K G mi_law e_law 838 [(0, .ref 23000), (1, .ref 11000), (2, .ref 0), (3, .int u)] [.int r11] [m0, m1, m2, m3, m4, m5, m6, m7, m8, m9, m10, m11] _
  refine K_aload_n 2 dL_law_838 rfl ?_
  refine K_aload_n 0 dL_law_839 rfl ?_
  refine K_iload_n 3 dL_law_840 rfl ?_
  refine K_iconst (v := 1) dL_law_841 (by decide) ?_
  refine K_iadd dL_law_842 ?_
  refine K_sld dL_law_843 ?_
  refine K_callVh (E' := e_X8_fetch m0 [m1, m2, m3, m4, m5, m6, m7, m8, m9, m10, m11]) (b := 0) (As := [.int (G.2.2.2.2.2.2 (u + 1).toNatClampNeg)]) (rest := [.int r11]) dL_law_844 ml_L_101 (mf_X8_fetch 5) mv_X8_fetch (fun hj r hr => c_X8_fetch hj m0 [m1, m2, m3, m4, m5, m6, m7, m8, m9, m10, m11] (G.2.2.2.2.2.2 (u + 1).toNatClampNeg) hr) (rcv_obj (q := (RX8, TX8, 37)) kl_0 rfl) rfl rfl (Nat.le_of_ble_eq_true rfl) (Nat.le_of_ble_eq_true rfl) (fun r12 hr12 => ?_)
  show K G mi_law e_law 847 [(0, .ref 23000), (1, .ref 11000), (2, .ref 0), (3, .int u)] [.int r12.1, .int r11] [r12.2, m1, m2, m3, m4, m5, m6, m7, m8, m9, m10, m11] _
  refine K_icmp_eq 1155 dL_law_847 rfl (fun _ => ?_) (fun _ => ?_)
  · exact hk G (Or.inl rfl) r12.2 m1 m2 m3 m4 m5 m6 m7 m8 m9 m10 m11 h7 h8
  · exact K_none
theorem k_law_20 {G : GE} (m0 m1 m2 m3 m4 m5 m6 m7 m8 m9 m10 m11 : Mem) (u : Int32) (k : Mem → Mem → Mem → Mem → Mem → Mem → Mem → Mem → Mem → Mem → Mem → Mem → Option M12) (h7 : m11 0 7 = 1) (h8 : m11 0 8 = 2) (hk : ∀ G' : GE, (G' = G ∨ G' = swapG G) → ∀ (m0 m1 m2 m3 m4 m5 m6 m7 m8 m9 m10 m11 : Mem), m11 0 7 = 1 → m11 0 8 = 2 → K G' mi_law e_law 1155 [(0, .ref 23000), (1, .ref 11000), (2, .ref 0), (3, .int u)] [] [m0, m1, m2, m3, m4, m5, m6, m7, m8, m9, m10, m11] (k m0 m1 m2 m3 m4 m5 m6 m7 m8 m9 m10 m11)) : K G mi_law e_law 852 [(0, .ref 23000), (1, .ref 11000), (2, .ref 0), (3, .int u)] [] [m0, m1, m2, m3, m4, m5, m6, m7, m8, m9, m10, m11] (f_law_20 G.2.2.2.2.2.1 G.2.2.2.2.2.2 m0 m1 m2 m3 m4 m5 m6 m7 m8 m9 m10 m11 u k) := by
  unfold f_law_20
  refine K_aload_n 1 dL_law_852 rfl ?_
  refine K_aload_n 0 dL_law_853 rfl ?_
  refine K_iload_n 3 dL_law_854 rfl ?_
  refine K_iconst (v := 1) dL_law_855 (by decide) ?_
  refine K_iadd dL_law_856 ?_
  refine K_sld dL_law_857 ?_
  refine K_callVh (E' := e_X7_house m0 m1 m2 m3 m4 m5 m6 m7 m8 m9 m10 m11) (b := 11000) (As := [.int (G.2.2.2.2.2.2 (u + 1).toNatClampNeg)]) (rest := []) dL_law_858 ml_L_102 (mf_X7_house 4) mv_X7_house (fun hj r hr => c_X7_house hj m0 m1 m2 m3 m4 m5 m6 m7 m8 m9 m10 m11 (G.2.2.2.2.2.2 (u + 1).toNatClampNeg) h7 hr) (rcv_obj (q := (RX7, TX7, 10)) kl_11000 rfl) rfl rfl (Nat.le_of_ble_eq_true rfl) (Nat.le_of_ble_eq_true rfl) (fun r11 hr11 => ?_)
  show K G mi_law e_law 861 [(0, .ref 23000), (1, .ref 11000), (2, .ref 0), (3, .int u)] [.int r11] [m0, m1, m2, m3, m4, m5, m6, m7, m8, m9, m10, m11] _
  refine K_aload_n 2 dL_law_861 rfl ?_
  refine K_aload_n 0 dL_law_862 rfl ?_
  refine K_iload_n 3 dL_law_863 rfl ?_
  refine K_iconst (v := 1) dL_law_864 (by decide) ?_
  refine K_iadd dL_law_865 ?_
  refine K_sld dL_law_866 ?_
  refine K_callVh (E' := e_X8_house m0 [m1, m2, m3, m4, m5, m6, m7, m8, m9, m10, m11]) (b := 0) (As := [.int (G.2.2.2.2.2.2 (u + 1).toNatClampNeg)]) (rest := [.int r11]) dL_law_867 ml_L_105 (mf_X8_house 3) mv_X8_house (fun hj r hr => c_X8_house hj m0 [m1, m2, m3, m4, m5, m6, m7, m8, m9, m10, m11] (G.2.2.2.2.2.2 (u + 1).toNatClampNeg) hr) (rcv_obj (q := (RX8, TX8, 37)) kl_0 rfl) rfl rfl (Nat.le_of_ble_eq_true rfl) (Nat.le_of_ble_eq_true rfl) (fun r12 hr12 => ?_)
  show K G mi_law e_law 870 [(0, .ref 23000), (1, .ref 11000), (2, .ref 0), (3, .int u)] [.int r12.1, .int r11] [r12.2, m1, m2, m3, m4, m5, m6, m7, m8, m9, m10, m11] _
  refine K_icmp_eq 1155 dL_law_870 rfl (fun _ => ?_) (fun _ => ?_)
  · exact hk G (Or.inl rfl) r12.2 m1 m2 m3 m4 m5 m6 m7 m8 m9 m10 m11 h7 h8
  · exact K_none
theorem k_law_21 {G : GE} (m0 m1 m2 m3 m4 m5 m6 m7 m8 m9 m10 m11 : Mem) (u : Int32) (k : Mem → Mem → Mem → Mem → Mem → Mem → Mem → Mem → Mem → Mem → Mem → Mem → Option M12) (h7 : m11 0 7 = 1) (h8 : m11 0 8 = 2) (hk : ∀ G' : GE, (G' = G ∨ G' = swapG G) → ∀ (m0 m1 m2 m3 m4 m5 m6 m7 m8 m9 m10 m11 : Mem), m11 0 7 = 1 → m11 0 8 = 2 → K G' mi_law e_law 1155 [(0, .ref 23000), (1, .ref 11000), (2, .ref 0), (3, .int u)] [] [m0, m1, m2, m3, m4, m5, m6, m7, m8, m9, m10, m11] (k m0 m1 m2 m3 m4 m5 m6 m7 m8 m9 m10 m11)) : K G mi_law e_law 875 [(0, .ref 23000), (1, .ref 11000), (2, .ref 0), (3, .int u)] [] [m0, m1, m2, m3, m4, m5, m6, m7, m8, m9, m10, m11] (f_law_21 G.2.2.2.2.2.1 G.2.2.2.2.2.2 m0 m1 m2 m3 m4 m5 m6 m7 m8 m9 m10 m11 u k) := by
  unfold f_law_21
  refine K_aload_n 1 dL_law_875 rfl ?_
  refine K_aload_n 0 dL_law_876 rfl ?_
  refine K_iload_n 3 dL_law_877 rfl ?_
  refine K_iconst (v := 1) dL_law_878 (by decide) ?_
  refine K_iadd dL_law_879 ?_
  refine K_sld dL_law_880 ?_
  refine K_aload_n 0 dL_law_881 rfl ?_
  refine K_iload_n 3 dL_law_882 rfl ?_
  refine K_iconst (v := 2) dL_law_883 (by decide) ?_
  refine K_iadd dL_law_884 ?_
  refine K_sld dL_law_885 ?_
  refine K_aload_n 0 dL_law_886 rfl ?_
  refine K_iload_n 3 dL_law_887 rfl ?_
  refine K_iconst (v := 3) dL_law_888 (by decide) ?_
  refine K_iadd dL_law_889 ?_
  refine K_sld dL_law_890 ?_
  refine K_callVh (E' := e_X7_turn m0 m1 m2 m3 m4 m5 m6 m7 m8 m9 m10 m11) (b := 11000) (As := [.int (G.2.2.2.2.2.2 (u + 1).toNatClampNeg), .int (G.2.2.2.2.2.2 (u + 2).toNatClampNeg), .int (G.2.2.2.2.2.2 (u + 3).toNatClampNeg)]) (rest := []) dL_law_891 ml_L_106 (mf_X7_turn 3) mv_X7_turn (fun hj r hr => c_X7_turn hj m0 m1 m2 m3 m4 m5 m6 m7 m8 m9 m10 m11 (G.2.2.2.2.2.2 (u + 1).toNatClampNeg) (G.2.2.2.2.2.2 (u + 2).toNatClampNeg) (G.2.2.2.2.2.2 (u + 3).toNatClampNeg) h7 hr) (rcv_obj (q := (RX7, TX7, 10)) kl_11000 rfl) rfl rfl (Nat.le_of_ble_eq_true rfl) (Nat.le_of_ble_eq_true rfl) (fun r11 hr11 => ?_)
  show K G mi_law e_law 894 [(0, .ref 23000), (1, .ref 11000), (2, .ref 0), (3, .int u)] [.int r11.1] [m0, m1, m2, m3, m4, m5, m6, r11.2.1, m8, m9, m10, r11.2.2] _
  refine K_aload_n 2 dL_law_894 rfl ?_
  refine K_aload_n 0 dL_law_895 rfl ?_
  refine K_iload_n 3 dL_law_896 rfl ?_
  refine K_iconst (v := 1) dL_law_897 (by decide) ?_
  refine K_iadd dL_law_898 ?_
  refine K_sld dL_law_899 ?_
  refine K_aload_n 0 dL_law_900 rfl ?_
  refine K_iload_n 3 dL_law_901 rfl ?_
  refine K_iconst (v := 2) dL_law_902 (by decide) ?_
  refine K_iadd dL_law_903 ?_
  refine K_sld dL_law_904 ?_
  refine K_aload_n 0 dL_law_905 rfl ?_
  refine K_iload_n 3 dL_law_906 rfl ?_
  refine K_iconst (v := 3) dL_law_907 (by decide) ?_
  refine K_iadd dL_law_908 ?_
  refine K_sld dL_law_909 ?_
  refine K_callVh (E' := e_X8_turn m0 [m1, m2, m3, m4, m5, m6, r11.2.1, m8, m9, m10, r11.2.2]) (b := 0) (As := [.int (G.2.2.2.2.2.2 (u + 1).toNatClampNeg), .int (G.2.2.2.2.2.2 (u + 2).toNatClampNeg), .int (G.2.2.2.2.2.2 (u + 3).toNatClampNeg)]) (rest := [.int r11.1]) dL_law_910 ml_L_109 (mf_X8_turn 3) mv_X8_turn (fun hj r hr => c_X8_turn hj m0 [m1, m2, m3, m4, m5, m6, r11.2.1, m8, m9, m10, r11.2.2] (G.2.2.2.2.2.2 (u + 1).toNatClampNeg) (G.2.2.2.2.2.2 (u + 2).toNatClampNeg) (G.2.2.2.2.2.2 (u + 3).toNatClampNeg) hr) (rcv_obj (q := (RX8, TX8, 37)) kl_0 rfl) rfl rfl (Nat.le_of_ble_eq_true rfl) (Nat.le_of_ble_eq_true rfl) (fun r12 hr12 => ?_)
  show K G mi_law e_law 913 [(0, .ref 23000), (1, .ref 11000), (2, .ref 0), (3, .int u)] [.int r12.1, .int r11.1] [r12.2, m1, m2, m3, m4, m5, m6, r11.2.1, m8, m9, m10, r11.2.2] _
  refine K_icmp_eq 1155 dL_law_913 rfl (fun _ => ?_) (fun _ => ?_)
  · exact hk G (Or.inl rfl) r12.2 m1 m2 m3 m4 m5 m6 r11.2.1 m8 m9 m10 r11.2.2 ((kp_X7_turn hr11 7 (by decide)).trans h7) ((kp_X7_turn hr11 8 (by decide)).trans h8)
  · exact K_none
theorem k_law_22 {G : GE} (m0 m1 m2 m3 m4 m5 m6 m7 m8 m9 m10 m11 : Mem) (u : Int32) (k : Mem → Mem → Mem → Mem → Mem → Mem → Mem → Mem → Mem → Mem → Mem → Mem → Option M12) (h7 : m11 0 7 = 1) (h8 : m11 0 8 = 2) (hk : ∀ G' : GE, (G' = G ∨ G' = swapG G) → ∀ (m0 m1 m2 m3 m4 m5 m6 m7 m8 m9 m10 m11 : Mem), m11 0 7 = 1 → m11 0 8 = 2 → K G' mi_law e_law 1155 [(0, .ref 23000), (1, .ref 11000), (2, .ref 0), (3, .int u)] [] [m0, m1, m2, m3, m4, m5, m6, m7, m8, m9, m10, m11] (k m0 m1 m2 m3 m4 m5 m6 m7 m8 m9 m10 m11)) : K G mi_law e_law 918 [(0, .ref 23000), (1, .ref 11000), (2, .ref 0), (3, .int u)] [] [m0, m1, m2, m3, m4, m5, m6, m7, m8, m9, m10, m11] (f_law_22 G.2.2.2.2.2.1 G.2.2.2.2.2.2 m0 m1 m2 m3 m4 m5 m6 m7 m8 m9 m10 m11 u k) := by
  unfold f_law_22
  refine K_aload_n 1 dL_law_918 rfl ?_
  refine K_aload_n 0 dL_law_919 rfl ?_
  refine K_iload_n 3 dL_law_920 rfl ?_
  refine K_iconst (v := 1) dL_law_921 (by decide) ?_
  refine K_iadd dL_law_922 ?_
  refine K_sld dL_law_923 ?_
  refine K_aload_n 0 dL_law_924 rfl ?_
  refine K_iload_n 3 dL_law_925 rfl ?_
  refine K_iconst (v := 2) dL_law_926 (by decide) ?_
  refine K_iadd dL_law_927 ?_
  refine K_sld dL_law_928 ?_
  refine K_aload_n 0 dL_law_929 rfl ?_
  refine K_iload_n 3 dL_law_930 rfl ?_
  refine K_iconst (v := 3) dL_law_931 (by decide) ?_
  refine K_iadd dL_law_932 ?_
  refine K_sld dL_law_933 ?_
  refine K_callVh (E' := e_X7_gloves m0 m1 m2 m3 m4 m5 m6 m7 m8 m9 m10 m11) (b := 11000) (As := [.int (G.2.2.2.2.2.2 (u + 1).toNatClampNeg), .int (G.2.2.2.2.2.2 (u + 2).toNatClampNeg), .int (G.2.2.2.2.2.2 (u + 3).toNatClampNeg)]) (rest := []) dL_law_934 ml_L_110 (mf_X7_gloves 3) mv_X7_gloves (fun hj r hr => c_X7_gloves hj m0 m1 m2 m3 m4 m5 m6 m7 m8 m9 m10 m11 (G.2.2.2.2.2.2 (u + 1).toNatClampNeg) (G.2.2.2.2.2.2 (u + 2).toNatClampNeg) (G.2.2.2.2.2.2 (u + 3).toNatClampNeg) h7 hr) (rcv_obj (q := (RX7, TX7, 10)) kl_11000 rfl) rfl rfl (Nat.le_of_ble_eq_true rfl) (Nat.le_of_ble_eq_true rfl) (fun r11 hr11 => ?_)
  show K G mi_law e_law 937 [(0, .ref 23000), (1, .ref 11000), (2, .ref 0), (3, .int u)] [.int r11.1] [m0, m1, m2, m3, m4, m5, m6, r11.2.1, m8, m9, m10, r11.2.2] _
  refine K_aload_n 2 dL_law_937 rfl ?_
  refine K_aload_n 0 dL_law_938 rfl ?_
  refine K_iload_n 3 dL_law_939 rfl ?_
  refine K_iconst (v := 1) dL_law_940 (by decide) ?_
  refine K_iadd dL_law_941 ?_
  refine K_sld dL_law_942 ?_
  refine K_aload_n 0 dL_law_943 rfl ?_
  refine K_iload_n 3 dL_law_944 rfl ?_
  refine K_iconst (v := 2) dL_law_945 (by decide) ?_
  refine K_iadd dL_law_946 ?_
  refine K_sld dL_law_947 ?_
  refine K_aload_n 0 dL_law_948 rfl ?_
  refine K_iload_n 3 dL_law_949 rfl ?_
  refine K_iconst (v := 3) dL_law_950 (by decide) ?_
  refine K_iadd dL_law_951 ?_
  refine K_sld dL_law_952 ?_
  refine K_callVh (E' := e_X8_gloves m0 [m1, m2, m3, m4, m5, m6, r11.2.1, m8, m9, m10, r11.2.2]) (b := 0) (As := [.int (G.2.2.2.2.2.2 (u + 1).toNatClampNeg), .int (G.2.2.2.2.2.2 (u + 2).toNatClampNeg), .int (G.2.2.2.2.2.2 (u + 3).toNatClampNeg)]) (rest := [.int r11.1]) dL_law_953 ml_L_113 (mf_X8_gloves 3) mv_X8_gloves (fun hj r hr => c_X8_gloves hj m0 [m1, m2, m3, m4, m5, m6, r11.2.1, m8, m9, m10, r11.2.2] (G.2.2.2.2.2.2 (u + 1).toNatClampNeg) (G.2.2.2.2.2.2 (u + 2).toNatClampNeg) (G.2.2.2.2.2.2 (u + 3).toNatClampNeg) hr) (rcv_obj (q := (RX8, TX8, 37)) kl_0 rfl) rfl rfl (Nat.le_of_ble_eq_true rfl) (Nat.le_of_ble_eq_true rfl) (fun r12 hr12 => ?_)
  show K G mi_law e_law 956 [(0, .ref 23000), (1, .ref 11000), (2, .ref 0), (3, .int u)] [.int r12.1, .int r11.1] [r12.2, m1, m2, m3, m4, m5, m6, r11.2.1, m8, m9, m10, r11.2.2] _
  refine K_icmp_eq 1155 dL_law_956 rfl (fun _ => ?_) (fun _ => ?_)
  · exact hk G (Or.inl rfl) r12.2 m1 m2 m3 m4 m5 m6 r11.2.1 m8 m9 m10 r11.2.2 ((kp_X7_gloves hr11 7 (by decide)).trans h7) ((kp_X7_gloves hr11 8 (by decide)).trans h8)
  · exact K_none
theorem k_law_23 {G : GE} (m0 m1 m2 m3 m4 m5 m6 m7 m8 m9 m10 m11 : Mem) (u : Int32) (k : Mem → Mem → Mem → Mem → Mem → Mem → Mem → Mem → Mem → Mem → Mem → Mem → Option M12) (h7 : m11 0 7 = 1) (h8 : m11 0 8 = 2) (hk : ∀ G' : GE, (G' = G ∨ G' = swapG G) → ∀ (m0 m1 m2 m3 m4 m5 m6 m7 m8 m9 m10 m11 : Mem), m11 0 7 = 1 → m11 0 8 = 2 → K G' mi_law e_law 1155 [(0, .ref 23000), (1, .ref 11000), (2, .ref 0), (3, .int u)] [] [m0, m1, m2, m3, m4, m5, m6, m7, m8, m9, m10, m11] (k m0 m1 m2 m3 m4 m5 m6 m7 m8 m9 m10 m11)) : K G mi_law e_law 961 [(0, .ref 23000), (1, .ref 11000), (2, .ref 0), (3, .int u)] [] [m0, m1, m2, m3, m4, m5, m6, m7, m8, m9, m10, m11] (f_law_23 G.2.2.2.2.2.1 G.2.2.2.2.2.2 m0 m1 m2 m3 m4 m5 m6 m7 m8 m9 m10 m11 u k) := by
  unfold f_law_23
  refine K_aload_n 1 dL_law_961 rfl ?_
  refine K_aload_n 0 dL_law_962 rfl ?_
  refine K_iload_n 3 dL_law_963 rfl ?_
  refine K_iconst (v := 1) dL_law_964 (by decide) ?_
  refine K_iadd dL_law_965 ?_
  refine K_sld dL_law_966 ?_
  refine K_callVh (E' := e_X7_image m0 m1 m2 m3 m4 m5 m6 m7 m8 m9 m10 m11) (b := 11000) (As := [.int (G.2.2.2.2.2.2 (u + 1).toNatClampNeg)]) (rest := []) dL_law_967 ml_L_114 (mf_X7_image 2) mv_X7_image (fun hj r hr => c_X7_image hj m0 m1 m2 m3 m4 m5 m6 m7 m8 m9 m10 m11 (G.2.2.2.2.2.2 (u + 1).toNatClampNeg) h7 hr) (rcv_obj (q := (RX7, TX7, 10)) kl_11000 rfl) rfl rfl (Nat.le_of_ble_eq_true rfl) (Nat.le_of_ble_eq_true rfl) (fun r11 hr11 => ?_)
  show K G mi_law e_law 970 [(0, .ref 23000), (1, .ref 11000), (2, .ref 0), (3, .int u)] [.int r11.1] [m0, m1, m2, m3, m4, m5, m6, m7, m8, r11.2.1, r11.2.2, m11] _
  refine K_aload_n 2 dL_law_970 rfl ?_
  refine K_aload_n 0 dL_law_971 rfl ?_
  refine K_iload_n 3 dL_law_972 rfl ?_
  refine K_iconst (v := 1) dL_law_973 (by decide) ?_
  refine K_iadd dL_law_974 ?_
  refine K_sld dL_law_975 ?_
  refine K_callVh (E' := e_X8_image m0 [m1, m2, m3, m4, m5, m6, m7, m8, r11.2.1, r11.2.2, m11]) (b := 0) (As := [.int (G.2.2.2.2.2.2 (u + 1).toNatClampNeg)]) (rest := [.int r11.1]) dL_law_976 ml_L_117 (mf_X8_image 2) mv_X8_image (fun hj r hr => c_X8_image hj m0 [m1, m2, m3, m4, m5, m6, m7, m8, r11.2.1, r11.2.2, m11] (G.2.2.2.2.2.2 (u + 1).toNatClampNeg) hr) (rcv_obj (q := (RX8, TX8, 37)) kl_0 rfl) rfl rfl (Nat.le_of_ble_eq_true rfl) (Nat.le_of_ble_eq_true rfl) (fun r12 hr12 => ?_)
  show K G mi_law e_law 979 [(0, .ref 23000), (1, .ref 11000), (2, .ref 0), (3, .int u)] [.int r12.1, .int r11.1] [r12.2, m1, m2, m3, m4, m5, m6, m7, m8, r11.2.1, r11.2.2, m11] _
  refine K_icmp_eq 1155 dL_law_979 rfl (fun _ => ?_) (fun _ => ?_)
  · exact hk G (Or.inl rfl) r12.2 m1 m2 m3 m4 m5 m6 m7 m8 r11.2.1 r11.2.2 m11 h7 h8
  · exact K_none
theorem k_law_24 {G : GE} (m0 m1 m2 m3 m4 m5 m6 m7 m8 m9 m10 m11 : Mem) (u : Int32) (k : Mem → Mem → Mem → Mem → Mem → Mem → Mem → Mem → Mem → Mem → Mem → Mem → Option M12) (h7 : m11 0 7 = 1) (h8 : m11 0 8 = 2) (hk : ∀ G' : GE, (G' = G ∨ G' = swapG G) → ∀ (m0 m1 m2 m3 m4 m5 m6 m7 m8 m9 m10 m11 : Mem), m11 0 7 = 1 → m11 0 8 = 2 → K G' mi_law e_law 1155 [(0, .ref 23000), (1, .ref 11000), (2, .ref 0), (3, .int u)] [] [m0, m1, m2, m3, m4, m5, m6, m7, m8, m9, m10, m11] (k m0 m1 m2 m3 m4 m5 m6 m7 m8 m9 m10 m11)) : K G mi_law e_law 984 [(0, .ref 23000), (1, .ref 11000), (2, .ref 0), (3, .int u)] [] [m0, m1, m2, m3, m4, m5, m6, m7, m8, m9, m10, m11] (f_law_24 G.2.2.2.2.2.1 G.2.2.2.2.2.2 m0 m1 m2 m3 m4 m5 m6 m7 m8 m9 m10 m11 u k) := by
  unfold f_law_24
  refine K_aload_n 1 dL_law_984 rfl ?_
  refine K_aload_n 0 dL_law_985 rfl ?_
  refine K_iload_n 3 dL_law_986 rfl ?_
  refine K_iconst (v := 1) dL_law_987 (by decide) ?_
  refine K_iadd dL_law_988 ?_
  refine K_sld dL_law_989 ?_
  refine K_callVh (E' := e_X7_restore m0 m1 m2 m3 m4 m5 m6 m7 m8 m9 m10 m11) (b := 11000) (As := [.int (G.2.2.2.2.2.2 (u + 1).toNatClampNeg)]) (rest := []) dL_law_990 ml_L_118 (mf_X7_restore 4) mv_X7_restore (fun hj r hr => c_X7_restore hj m0 m1 m2 m3 m4 m5 m6 m7 m8 m9 m10 m11 (G.2.2.2.2.2.2 (u + 1).toNatClampNeg) h7 hr) (rcv_obj (q := (RX7, TX7, 10)) kl_11000 rfl) rfl rfl (Nat.le_of_ble_eq_true rfl) (Nat.le_of_ble_eq_true rfl) (fun r11 hr11 => ?_)
  show K G mi_law e_law 993 [(0, .ref 23000), (1, .ref 11000), (2, .ref 0), (3, .int u)] [.int r11.1] [m0, r11.2.1, m2, r11.2.2.1, m4, m5, r11.2.2.2, m7, m8, m9, m10, m11] _
  refine K_aload_n 2 dL_law_993 rfl ?_
  refine K_aload_n 0 dL_law_994 rfl ?_
  refine K_iload_n 3 dL_law_995 rfl ?_
  refine K_iconst (v := 1) dL_law_996 (by decide) ?_
  refine K_iadd dL_law_997 ?_
  refine K_sld dL_law_998 ?_
  refine K_callVh (E' := e_X8_restore m0 [r11.2.1, m2, r11.2.2.1, m4, m5, r11.2.2.2, m7, m8, m9, m10, m11]) (b := 0) (As := [.int (G.2.2.2.2.2.2 (u + 1).toNatClampNeg)]) (rest := [.int r11.1]) dL_law_999 ml_L_121 (mf_X8_restore 2) mv_X8_restore (fun hj r hr => c_X8_restore hj m0 [r11.2.1, m2, r11.2.2.1, m4, m5, r11.2.2.2, m7, m8, m9, m10, m11] (G.2.2.2.2.2.2 (u + 1).toNatClampNeg) hr) (rcv_obj (q := (RX8, TX8, 37)) kl_0 rfl) rfl rfl (Nat.le_of_ble_eq_true rfl) (Nat.le_of_ble_eq_true rfl) (fun r12 hr12 => ?_)
  show K G mi_law e_law 1002 [(0, .ref 23000), (1, .ref 11000), (2, .ref 0), (3, .int u)] [.int r12.1, .int r11.1] [r12.2, r11.2.1, m2, r11.2.2.1, m4, m5, r11.2.2.2, m7, m8, m9, m10, m11] _
  refine K_icmp_eq 1155 dL_law_1002 rfl (fun _ => ?_) (fun _ => ?_)
  · exact hk G (Or.inl rfl) r12.2 r11.2.1 m2 r11.2.2.1 m4 m5 r11.2.2.2 m7 m8 m9 m10 m11 h7 h8
  · exact K_none
theorem k_law_25 {G : GE} (m0 m1 m2 m3 m4 m5 m6 m7 m8 m9 m10 m11 : Mem) (u : Int32) (k : Mem → Mem → Mem → Mem → Mem → Mem → Mem → Mem → Mem → Mem → Mem → Mem → Option M12) (h7 : m11 0 7 = 1) (h8 : m11 0 8 = 2) (hk : ∀ G' : GE, (G' = G ∨ G' = swapG G) → ∀ (m0 m1 m2 m3 m4 m5 m6 m7 m8 m9 m10 m11 : Mem), m11 0 7 = 1 → m11 0 8 = 2 → K G' mi_law e_law 1155 [(0, .ref 23000), (1, .ref 11000), (2, .ref 0), (3, .int u)] [] [m0, m1, m2, m3, m4, m5, m6, m7, m8, m9, m10, m11] (k m0 m1 m2 m3 m4 m5 m6 m7 m8 m9 m10 m11)) : K G mi_law e_law 1007 [(0, .ref 23000), (1, .ref 11000), (2, .ref 0), (3, .int u)] [] [m0, m1, m2, m3, m4, m5, m6, m7, m8, m9, m10, m11] (f_law_25 G.2.2.2.2.2.1 G.2.2.2.2.2.2 m0 m1 m2 m3 m4 m5 m6 m7 m8 m9 m10 m11 u k) := by
  unfold f_law_25
  refine K_aload_n 1 dL_law_1007 rfl ?_
  refine K_aload_n 0 dL_law_1008 rfl ?_
  refine K_iload_n 3 dL_law_1009 rfl ?_
  refine K_iconst (v := 1) dL_law_1010 (by decide) ?_
  refine K_iadd dL_law_1011 ?_
  refine K_sld dL_law_1012 ?_
  refine K_callVh (E' := e_X7_kind m0 m1 m2 m3 m4 m5 m6 m7 m8 m9 m10 m11) (b := 11000) (As := [.int (G.2.2.2.2.2.2 (u + 1).toNatClampNeg)]) (rest := []) dL_law_1013 ml_L_122 (mf_X7_kind 2) mv_X7_kind (fun hj r hr => c_X7_kind hj m0 m1 m2 m3 m4 m5 m6 m7 m8 m9 m10 m11 (G.2.2.2.2.2.2 (u + 1).toNatClampNeg) h7 hr) (rcv_obj (q := (RX7, TX7, 10)) kl_11000 rfl) rfl rfl (Nat.le_of_ble_eq_true rfl) (Nat.le_of_ble_eq_true rfl) (fun r11 hr11 => ?_)
  show K G mi_law e_law 1016 [(0, .ref 23000), (1, .ref 11000), (2, .ref 0), (3, .int u)] [.int r11] [m0, m1, m2, m3, m4, m5, m6, m7, m8, m9, m10, m11] _
  refine K_aload_n 2 dL_law_1016 rfl ?_
  refine K_aload_n 0 dL_law_1017 rfl ?_
  refine K_iload_n 3 dL_law_1018 rfl ?_
  refine K_iconst (v := 1) dL_law_1019 (by decide) ?_
  refine K_iadd dL_law_1020 ?_
  refine K_sld dL_law_1021 ?_
  refine K_callVh (E' := e_X8_kind m0 [m1, m2, m3, m4, m5, m6, m7, m8, m9, m10, m11]) (b := 0) (As := [.int (G.2.2.2.2.2.2 (u + 1).toNatClampNeg)]) (rest := [.int r11]) dL_law_1022 ml_L_125 (mf_X8_kind 3) mv_X8_kind (fun hj r hr => c_X8_kind hj m0 [m1, m2, m3, m4, m5, m6, m7, m8, m9, m10, m11] (G.2.2.2.2.2.2 (u + 1).toNatClampNeg) hr) (rcv_obj (q := (RX8, TX8, 37)) kl_0 rfl) rfl rfl (Nat.le_of_ble_eq_true rfl) (Nat.le_of_ble_eq_true rfl) (fun r12 hr12 => ?_)
  show K G mi_law e_law 1025 [(0, .ref 23000), (1, .ref 11000), (2, .ref 0), (3, .int u)] [.int r12.1, .int r11] [r12.2, m1, m2, m3, m4, m5, m6, m7, m8, m9, m10, m11] _
  refine K_icmp_eq 1155 dL_law_1025 rfl (fun _ => ?_) (fun _ => ?_)
  · exact hk G (Or.inl rfl) r12.2 m1 m2 m3 m4 m5 m6 m7 m8 m9 m10 m11 h7 h8
  · exact K_none
theorem k_law_26 {G : GE} (m0 m1 m2 m3 m4 m5 m6 m7 m8 m9 m10 m11 : Mem) (u : Int32) (k : Mem → Mem → Mem → Mem → Mem → Mem → Mem → Mem → Mem → Mem → Mem → Mem → Option M12) (h7 : m11 0 7 = 1) (h8 : m11 0 8 = 2) (hk : ∀ G' : GE, (G' = G ∨ G' = swapG G) → ∀ (m0 m1 m2 m3 m4 m5 m6 m7 m8 m9 m10 m11 : Mem), m11 0 7 = 1 → m11 0 8 = 2 → K G' mi_law e_law 1155 [(0, .ref 23000), (1, .ref 11000), (2, .ref 0), (3, .int u)] [] [m0, m1, m2, m3, m4, m5, m6, m7, m8, m9, m10, m11] (k m0 m1 m2 m3 m4 m5 m6 m7 m8 m9 m10 m11)) : K G mi_law e_law 1030 [(0, .ref 23000), (1, .ref 11000), (2, .ref 0), (3, .int u)] [] [m0, m1, m2, m3, m4, m5, m6, m7, m8, m9, m10, m11] (f_law_26 G.2.2.2.2.2.1 G.2.2.2.2.2.2 m0 m1 m2 m3 m4 m5 m6 m7 m8 m9 m10 m11 u k) := by
  unfold f_law_26
  refine K_aload_n 1 dL_law_1030 rfl ?_
  refine K_aload_n 0 dL_law_1031 rfl ?_
  refine K_iload_n 3 dL_law_1032 rfl ?_
  refine K_iconst (v := 1) dL_law_1033 (by decide) ?_
  refine K_iadd dL_law_1034 ?_
  refine K_sld dL_law_1035 ?_
  refine K_aload_n 0 dL_law_1036 rfl ?_
  refine K_iload_n 3 dL_law_1037 rfl ?_
  refine K_iconst (v := 2) dL_law_1038 (by decide) ?_
  refine K_iadd dL_law_1039 ?_
  refine K_sld dL_law_1040 ?_
  refine K_callVh (E' := e_X7_as m0 m1 m2 m3 m4 m5 m6 m7 m8 m9 m10 m11) (b := 11000) (As := [.int (G.2.2.2.2.2.2 (u + 1).toNatClampNeg), .int (G.2.2.2.2.2.2 (u + 2).toNatClampNeg)]) (rest := []) dL_law_1041 ml_L_126 (mf_X7_as 2) mv_X7_as (fun hj r hr => c_X7_as hj m0 m1 m2 m3 m4 m5 m6 m7 m8 m9 m10 m11 (G.2.2.2.2.2.2 (u + 1).toNatClampNeg) (G.2.2.2.2.2.2 (u + 2).toNatClampNeg) h7 hr) (rcv_obj (q := (RX7, TX7, 10)) kl_11000 rfl) rfl rfl (Nat.le_of_ble_eq_true rfl) (Nat.le_of_ble_eq_true rfl) (fun r11 hr11 => ?_)
  show K G mi_law e_law 1044 [(0, .ref 23000), (1, .ref 11000), (2, .ref 0), (3, .int u)] [.int r11.1] [m0, m1, m2, m3, m4, m5, m6, m7, m8, m9, m10, r11.2] _
  refine K_aload_n 2 dL_law_1044 rfl ?_
  refine K_aload_n 0 dL_law_1045 rfl ?_
  refine K_iload_n 3 dL_law_1046 rfl ?_
  refine K_iconst (v := 1) dL_law_1047 (by decide) ?_
  refine K_iadd dL_law_1048 ?_
  refine K_sld dL_law_1049 ?_
  refine K_aload_n 0 dL_law_1050 rfl ?_
  refine K_iload_n 3 dL_law_1051 rfl ?_
  refine K_iconst (v := 2) dL_law_1052 (by decide) ?_
  refine K_iadd dL_law_1053 ?_
  refine K_sld dL_law_1054 ?_
  refine K_callVh (E' := e_X8_as m0 [m1, m2, m3, m4, m5, m6, m7, m8, m9, m10, r11.2]) (b := 0) (As := [.int (G.2.2.2.2.2.2 (u + 1).toNatClampNeg), .int (G.2.2.2.2.2.2 (u + 2).toNatClampNeg)]) (rest := [.int r11.1]) dL_law_1055 ml_L_129 (mf_X8_as 3) mv_X8_as (fun hj r hr => c_X8_as hj m0 [m1, m2, m3, m4, m5, m6, m7, m8, m9, m10, r11.2] (G.2.2.2.2.2.2 (u + 1).toNatClampNeg) (G.2.2.2.2.2.2 (u + 2).toNatClampNeg) hr) (rcv_obj (q := (RX8, TX8, 37)) kl_0 rfl) rfl rfl (Nat.le_of_ble_eq_true rfl) (Nat.le_of_ble_eq_true rfl) (fun r12 hr12 => ?_)
  show K G mi_law e_law 1058 [(0, .ref 23000), (1, .ref 11000), (2, .ref 0), (3, .int u)] [.int r12.1, .int r11.1] [r12.2, m1, m2, m3, m4, m5, m6, m7, m8, m9, m10, r11.2] _
  refine K_icmp_eq 1155 dL_law_1058 rfl (fun _ => ?_) (fun _ => ?_)
  · exact hk G (Or.inl rfl) r12.2 m1 m2 m3 m4 m5 m6 m7 m8 m9 m10 r11.2 ((kp_X7_as hr11 7 (by decide)).trans h7) ((kp_X7_as hr11 8 (by decide)).trans h8)
  · exact K_none
theorem k_law_27 {G : GE} (m0 m1 m2 m3 m4 m5 m6 m7 m8 m9 m10 m11 : Mem) (u : Int32) (k : Mem → Mem → Mem → Mem → Mem → Mem → Mem → Mem → Mem → Mem → Mem → Mem → Option M12) (h7 : m11 0 7 = 1) (h8 : m11 0 8 = 2) (hk : ∀ G' : GE, (G' = G ∨ G' = swapG G) → ∀ (m0 m1 m2 m3 m4 m5 m6 m7 m8 m9 m10 m11 : Mem), m11 0 7 = 1 → m11 0 8 = 2 → K G' mi_law e_law 1155 [(0, .ref 23000), (1, .ref 11000), (2, .ref 0), (3, .int u)] [] [m0, m1, m2, m3, m4, m5, m6, m7, m8, m9, m10, m11] (k m0 m1 m2 m3 m4 m5 m6 m7 m8 m9 m10 m11)) : K G mi_law e_law 1063 [(0, .ref 23000), (1, .ref 11000), (2, .ref 0), (3, .int u)] [] [m0, m1, m2, m3, m4, m5, m6, m7, m8, m9, m10, m11] (f_law_27 G.2.2.2.2.2.1 G.2.2.2.2.2.2 m0 m1 m2 m3 m4 m5 m6 m7 m8 m9 m10 m11 u k) := by
  unfold f_law_27
  refine K_aload_n 1 dL_law_1063 rfl ?_
  refine K_aload_n 0 dL_law_1064 rfl ?_
  refine K_iload_n 3 dL_law_1065 rfl ?_
  refine K_iconst (v := 1) dL_law_1066 (by decide) ?_
  refine K_iadd dL_law_1067 ?_
  refine K_sld dL_law_1068 ?_
  refine K_aload_n 0 dL_law_1069 rfl ?_
  refine K_iload_n 3 dL_law_1070 rfl ?_
  refine K_iconst (v := 2) dL_law_1071 (by decide) ?_
  refine K_iadd dL_law_1072 ?_
  refine K_sld dL_law_1073 ?_
  refine K_callVh (E' := e_X7_ask m0 m1 m2 m3 m4 m5 m6 m7 m8 m9 m10 m11) (b := 11000) (As := [.int (G.2.2.2.2.2.2 (u + 1).toNatClampNeg), .int (G.2.2.2.2.2.2 (u + 2).toNatClampNeg)]) (rest := []) dL_law_1074 ml_L_130 (mf_X7_ask 62) mv_X7_ask (fun hj r hr => c_X7_ask hj m0 m1 m2 m3 m4 m5 m6 m7 m8 m9 m10 m11 (G.2.2.2.2.2.2 (u + 1).toNatClampNeg) (G.2.2.2.2.2.2 (u + 2).toNatClampNeg) h7 hr) (rcv_obj (q := (RX7, TX7, 10)) kl_11000 rfl) rfl rfl (Nat.le_of_ble_eq_true rfl) (Nat.le_of_ble_eq_true rfl) (fun r11 hr11 => ?_)
  show K G mi_law e_law 1077 [(0, .ref 23000), (1, .ref 11000), (2, .ref 0), (3, .int u)] [.int r11.1] [m0, m1, m2, m3, m4, m5, m6, m7, r11.2, m9, m10, m11] _
  refine K_aload_n 2 dL_law_1077 rfl ?_
  refine K_aload_n 0 dL_law_1078 rfl ?_
  refine K_iload_n 3 dL_law_1079 rfl ?_
  refine K_iconst (v := 1) dL_law_1080 (by decide) ?_
  refine K_iadd dL_law_1081 ?_
  refine K_sld dL_law_1082 ?_
  refine K_aload_n 0 dL_law_1083 rfl ?_
  refine K_iload_n 3 dL_law_1084 rfl ?_
  refine K_iconst (v := 2) dL_law_1085 (by decide) ?_
  refine K_iadd dL_law_1086 ?_
  refine K_sld dL_law_1087 ?_
  refine K_callVh (E' := e_X8_ask m0 [m1, m2, m3, m4, m5, m6, m7, r11.2, m9, m10, m11]) (b := 0) (As := [.int (G.2.2.2.2.2.2 (u + 1).toNatClampNeg), .int (G.2.2.2.2.2.2 (u + 2).toNatClampNeg)]) (rest := [.int r11.1]) dL_law_1088 ml_L_133 (mf_X8_ask 6) mv_X8_ask (fun hj r hr => c_X8_ask hj m0 [m1, m2, m3, m4, m5, m6, m7, r11.2, m9, m10, m11] (G.2.2.2.2.2.2 (u + 1).toNatClampNeg) (G.2.2.2.2.2.2 (u + 2).toNatClampNeg) hr) (rcv_obj (q := (RX8, TX8, 37)) kl_0 rfl) rfl rfl (Nat.le_of_ble_eq_true rfl) (Nat.le_of_ble_eq_true rfl) (fun r12 hr12 => ?_)
  show K G mi_law e_law 1091 [(0, .ref 23000), (1, .ref 11000), (2, .ref 0), (3, .int u)] [.int r12.1, .int r11.1] [r12.2, m1, m2, m3, m4, m5, m6, m7, r11.2, m9, m10, m11] _
  refine K_icmp_eq 1155 dL_law_1091 rfl (fun _ => ?_) (fun _ => ?_)
  · exact hk G (Or.inl rfl) r12.2 m1 m2 m3 m4 m5 m6 m7 r11.2 m9 m10 m11 h7 h8
  · exact K_none
theorem k_law_28 {G : GE} (m0 m1 m2 m3 m4 m5 m6 m7 m8 m9 m10 m11 : Mem) (u : Int32) (k : Mem → Mem → Mem → Mem → Mem → Mem → Mem → Mem → Mem → Mem → Mem → Mem → Option M12) (h7 : m11 0 7 = 1) (h8 : m11 0 8 = 2) (hk : ∀ G' : GE, (G' = G ∨ G' = swapG G) → ∀ (m0 m1 m2 m3 m4 m5 m6 m7 m8 m9 m10 m11 : Mem), m11 0 7 = 1 → m11 0 8 = 2 → K G' mi_law e_law 1155 [(0, .ref 23000), (1, .ref 11000), (2, .ref 0), (3, .int u)] [] [m0, m1, m2, m3, m4, m5, m6, m7, m8, m9, m10, m11] (k m0 m1 m2 m3 m4 m5 m6 m7 m8 m9 m10 m11)) : K G mi_law e_law 1096 [(0, .ref 23000), (1, .ref 11000), (2, .ref 0), (3, .int u)] [] [m0, m1, m2, m3, m4, m5, m6, m7, m8, m9, m10, m11] (f_law_28 G.2.2.2.2.2.1 G.2.2.2.2.2.2 m0 m1 m2 m3 m4 m5 m6 m7 m8 m9 m10 m11 u k) := by
  unfold f_law_28
  refine K_aload_n 1 dL_law_1096 rfl ?_
  refine K_aload_n 0 dL_law_1097 rfl ?_
  refine K_iload_n 3 dL_law_1098 rfl ?_
  refine K_iconst (v := 1) dL_law_1099 (by decide) ?_
  refine K_iadd dL_law_1100 ?_
  refine K_sld dL_law_1101 ?_
  refine K_callVh (E' := e_X7_trace m0 m1 m2 m3 m4 m5 m6 m7 m8 m9 m10 m11) (b := 11000) (As := [.int (G.2.2.2.2.2.2 (u + 1).toNatClampNeg)]) (rest := []) dL_law_1102 ml_L_134 (mf_X7_trace 1) mv_X7_trace (fun hj r hr => c_X7_trace hj m0 m1 m2 m3 m4 m5 m6 m7 m8 m9 m10 m11 (G.2.2.2.2.2.2 (u + 1).toNatClampNeg) hr) (rcv_obj (q := (RX7, TX7, 10)) kl_11000 rfl) rfl rfl (Nat.le_of_ble_eq_true rfl) (Nat.le_of_ble_eq_true rfl) (fun r11 hr11 => ?_)
  show K G mi_law e_law 1105 [(0, .ref 23000), (1, .ref 11000), (2, .ref 0), (3, .int u)] [.int r11] [m0, m1, m2, m3, m4, m5, m6, m7, m8, m9, m10, m11] _
  refine K_aload_n 2 dL_law_1105 rfl ?_
  refine K_aload_n 0 dL_law_1106 rfl ?_
  refine K_iload_n 3 dL_law_1107 rfl ?_
  refine K_iconst (v := 1) dL_law_1108 (by decide) ?_
  refine K_iadd dL_law_1109 ?_
  refine K_sld dL_law_1110 ?_
  refine K_callVh (E' := e_X8_trace m0 [m1, m2, m3, m4, m5, m6, m7, m8, m9, m10, m11]) (b := 0) (As := [.int (G.2.2.2.2.2.2 (u + 1).toNatClampNeg)]) (rest := [.int r11]) dL_law_1111 ml_L_137 (mf_X8_trace 2) mv_X8_trace (fun hj r hr => c_X8_trace hj m0 [m1, m2, m3, m4, m5, m6, m7, m8, m9, m10, m11] (G.2.2.2.2.2.2 (u + 1).toNatClampNeg) hr) (rcv_obj (q := (RX8, TX8, 37)) kl_0 rfl) rfl rfl (Nat.le_of_ble_eq_true rfl) (Nat.le_of_ble_eq_true rfl) (fun r12 hr12 => ?_)
  show K G mi_law e_law 1114 [(0, .ref 23000), (1, .ref 11000), (2, .ref 0), (3, .int u)] [.int r12.1, .int r11] [r12.2, m1, m2, m3, m4, m5, m6, m7, m8, m9, m10, m11] _
  refine K_icmp_eq 1155 dL_law_1114 rfl (fun _ => ?_) (fun _ => ?_)
  · exact hk G (Or.inl rfl) r12.2 m1 m2 m3 m4 m5 m6 m7 m8 m9 m10 m11 h7 h8
  · exact K_none
theorem k_law_29 {G : GE} (m0 m1 m2 m3 m4 m5 m6 m7 m8 m9 m10 m11 : Mem) (u : Int32) (k : Mem → Mem → Mem → Mem → Mem → Mem → Mem → Mem → Mem → Mem → Mem → Mem → Option M12) (h7 : m11 0 7 = 1) (h8 : m11 0 8 = 2) (hk : ∀ G' : GE, (G' = G ∨ G' = swapG G) → ∀ (m0 m1 m2 m3 m4 m5 m6 m7 m8 m9 m10 m11 : Mem), m11 0 7 = 1 → m11 0 8 = 2 → K G' mi_law e_law 1155 [(0, .ref 23000), (1, .ref 11000), (2, .ref 0), (3, .int u)] [] [m0, m1, m2, m3, m4, m5, m6, m7, m8, m9, m10, m11] (k m0 m1 m2 m3 m4 m5 m6 m7 m8 m9 m10 m11)) : K G mi_law e_law 1119 [(0, .ref 23000), (1, .ref 11000), (2, .ref 0), (3, .int u)] [] [m0, m1, m2, m3, m4, m5, m6, m7, m8, m9, m10, m11] (f_law_29 G.2.2.2.2.2.1 G.2.2.2.2.2.2 m0 m1 m2 m3 m4 m5 m6 m7 m8 m9 m10 m11 u k) := by
  unfold f_law_29
  refine K_aload_n 1 dL_law_1119 rfl ?_
  refine K_aload_n 0 dL_law_1120 rfl ?_
  refine K_iload_n 3 dL_law_1121 rfl ?_
  refine K_iconst (v := 1) dL_law_1122 (by decide) ?_
  refine K_iadd dL_law_1123 ?_
  refine K_sld dL_law_1124 ?_
  refine K_callVh (E' := e_X7_count m0 m1 m2 m3 m4 m5 m6 m7 m8 m9 m10 m11) (b := 11000) (As := [.int (G.2.2.2.2.2.2 (u + 1).toNatClampNeg)]) (rest := []) dL_law_1125 ml_L_138 (mf_X7_count 3) mv_X7_count (fun hj r hr => c_X7_count hj m0 m1 m2 m3 m4 m5 m6 m7 m8 m9 m10 m11 (G.2.2.2.2.2.2 (u + 1).toNatClampNeg) h7 hr) (rcv_obj (q := (RX7, TX7, 10)) kl_11000 rfl) rfl rfl (Nat.le_of_ble_eq_true rfl) (Nat.le_of_ble_eq_true rfl) (fun r11 hr11 => ?_)
  show K G mi_law e_law 1128 [(0, .ref 23000), (1, .ref 11000), (2, .ref 0), (3, .int u)] [.int r11] [m0, m1, m2, m3, m4, m5, m6, m7, m8, m9, m10, m11] _
  refine K_aload_n 2 dL_law_1128 rfl ?_
  refine K_aload_n 0 dL_law_1129 rfl ?_
  refine K_iload_n 3 dL_law_1130 rfl ?_
  refine K_iconst (v := 1) dL_law_1131 (by decide) ?_
  refine K_iadd dL_law_1132 ?_
  refine K_sld dL_law_1133 ?_
  refine K_callVh (E' := e_X8_count m0 [m1, m2, m3, m4, m5, m6, m7, m8, m9, m10, m11]) (b := 0) (As := [.int (G.2.2.2.2.2.2 (u + 1).toNatClampNeg)]) (rest := [.int r11]) dL_law_1134 ml_L_141 (mf_X8_count 2) mv_X8_count (fun hj r hr => c_X8_count hj m0 [m1, m2, m3, m4, m5, m6, m7, m8, m9, m10, m11] (G.2.2.2.2.2.2 (u + 1).toNatClampNeg) hr) (rcv_obj (q := (RX8, TX8, 37)) kl_0 rfl) rfl rfl (Nat.le_of_ble_eq_true rfl) (Nat.le_of_ble_eq_true rfl) (fun r12 hr12 => ?_)
  show K G mi_law e_law 1137 [(0, .ref 23000), (1, .ref 11000), (2, .ref 0), (3, .int u)] [.int r12.1, .int r11] [r12.2, m1, m2, m3, m4, m5, m6, m7, m8, m9, m10, m11] _
  refine K_icmp_eq 1155 dL_law_1137 rfl (fun _ => ?_) (fun _ => ?_)
  · exact hk G (Or.inl rfl) r12.2 m1 m2 m3 m4 m5 m6 m7 m8 m9 m10 m11 h7 h8
  · exact K_none
theorem k_law_30 {G : GE} (m0 m1 m2 m3 m4 m5 m6 m7 m8 m9 m10 m11 : Mem) (u : Int32) (k : Mem → Mem → Mem → Mem → Mem → Mem → Mem → Mem → Mem → Mem → Mem → Mem → Option M12) (h7 : m11 0 7 = 1) (h8 : m11 0 8 = 2) (hk : ∀ G' : GE, (G' = G ∨ G' = swapG G) → ∀ (m0 m1 m2 m3 m4 m5 m6 m7 m8 m9 m10 m11 : Mem), m11 0 7 = 1 → m11 0 8 = 2 → K G' mi_law e_law 1155 [(0, .ref 23000), (1, .ref 11000), (2, .ref 0), (3, .int u)] [] [m0, m1, m2, m3, m4, m5, m6, m7, m8, m9, m10, m11] (k m0 m1 m2 m3 m4 m5 m6 m7 m8 m9 m10 m11)) : K G mi_law e_law 1142 [(0, .ref 23000), (1, .ref 11000), (2, .ref 0), (3, .int u)] [] [m0, m1, m2, m3, m4, m5, m6, m7, m8, m9, m10, m11] (f_law_30 G.2.2.2.2.2.1 G.2.2.2.2.2.2 m0 m1 m2 m3 m4 m5 m6 m7 m8 m9 m10 m11 u k) := by
  unfold f_law_30
  refine K_aload_n 1 dL_law_1142 rfl ?_
  refine K_callVh (E' := e_X7_status m0 m1 m2 m3 m4 m5 m6 m7 m8 m9 m10 m11) (b := 11000) (As := []) (rest := []) dL_law_1143 ml_L_142 (mf_X7_status 1) mv_X7_status (fun hj r hr => c_X7_status hj m0 m1 m2 m3 m4 m5 m6 m7 m8 m9 m10 m11  hr) (rcv_obj (q := (RX7, TX7, 10)) kl_11000 rfl) rfl rfl (Nat.le_of_ble_eq_true rfl) (Nat.le_of_ble_eq_true rfl) (fun r11 hr11 => ?_)
  show K G mi_law e_law 1146 [(0, .ref 23000), (1, .ref 11000), (2, .ref 0), (3, .int u)] [.int r11] [m0, m1, m2, m3, m4, m5, m6, m7, m8, m9, m10, m11] _
  refine K_aload_n 2 dL_law_1146 rfl ?_
  refine K_callVh (E' := e_X8_status m0 [m1, m2, m3, m4, m5, m6, m7, m8, m9, m10, m11]) (b := 0) (As := []) (rest := [.int r11]) dL_law_1147 ml_L_145 (mf_X8_status 1) mv_X8_status (fun hj r hr => c_X8_status hj m0 [m1, m2, m3, m4, m5, m6, m7, m8, m9, m10, m11]  hr) (rcv_obj (q := (RX8, TX8, 37)) kl_0 rfl) rfl rfl (Nat.le_of_ble_eq_true rfl) (Nat.le_of_ble_eq_true rfl) (fun r12 hr12 => ?_)
  show K G mi_law e_law 1150 [(0, .ref 23000), (1, .ref 11000), (2, .ref 0), (3, .int u)] [.int r12.1, .int r11] [r12.2, m1, m2, m3, m4, m5, m6, m7, m8, m9, m10, m11] _
  refine K_icmp_eq 1155 dL_law_1150 rfl (fun _ => ?_) (fun _ => ?_)
  · exact hk G (Or.inl rfl) r12.2 m1 m2 m3 m4 m5 m6 m7 m8 m9 m10 m11 h7 h8
  · exact K_none
