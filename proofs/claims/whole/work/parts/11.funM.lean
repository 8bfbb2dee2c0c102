def f_X8_in (x0 : Int64) (x2 : Int64) (x4 : Int64) : Option (Int32) :=
  (if (lg_cmp x0 x2) < 0 then (some 0) else (if 0 < (lg_cmp x0 x4) then (some 0) else (some 1)))
def f_X8_isRow (x0 : Int32) : Option (Int32) :=
  ((f_X8_in x0.toInt64 (0 : Int64) (7 : Int64)).bind (fun r11 => (gd (decide (r11 = 0 ∨ r11 = 1)) (some r11))))
def f_X8_finding (m0 : Mem) (x1 : Int32) : Option (Int32 × Mem) :=
  (nm (α := Mem) (up m0 0 1 x1) (fun w11 => (some ((-1000010) - x1, w11))))
def f_X8_row_L65 (k : Int32 → Mem → Option (Int32 × Mem)) (x1 : Int32) : Nat → Int32 → Mem → Option (Int32 × Mem)
  | 0, _, _ => none
  | t + 1, u17, w18 =>
    (if (40 : Int32) ≤ u17 then (k u17 w18) else (gd (inb ((40 * x1) + u17) 320) (nm (α := Mem) (up w18 5 ((40 * x1) + u17).toNatClampNeg 0) (fun w19 => (f_X8_row_L65 k x1 t (u17 + 1) w19)))))
def f_X8_row (m0 : Mem) (x1 : Int32) (x2 : Int32) (x3 : Int32) : Option (Int32 × Mem) :=
  (nm (α := Mem) (up m0 0 0 0) (fun w11 => ((f_X8_isRow x1).bind (fun r12 => (if r12 = 0 then (some ((-1000001), w11)) else ((f_X8_in x2.toInt64 (0 : Int64) (2 : Int64)).bind (fun r13 => (if r13 = 0 then (some ((-1000001), w11)) else (if x3 ≤ (40 : Int32) then (nm (α := Mem) (up w11 0 1 0) (fun w14 => (if 0 ≤ x3 then (gd (inb x1 8) (nm (α := Mem) (up w14 3 x1.toNatClampNeg x2) (fun w15 => (gd (inb x1 8) (nm (α := Mem) (up w15 4 x1.toNatClampNeg x3) (fun w16 => (f_X8_row_L65 (fun (u20 : Int32) (w21 : Mem) => (some (x3, w21))) x1 100000 0 w16))))))) else ((f_X8_finding w14 (4 : Int32)).bind (fun r22 => (some (r22.1, r22.2))))))) else (some ((-1000001), w11)))))))))))
def f_X8_set (m0 : Mem) (x1 : Int32) (x2 : Int32) (x3 : Int32) : Option (Int32 × Mem) :=
  (nm (α := Mem) (up m0 0 0 0) (fun w11 => ((f_X8_isRow x1).bind (fun r12 => (if r12 = 0 then (some ((-1000001), w11)) else (nm (α := Mem) (up w11 0 1 0) (fun w13 => (gd (inb x1 8) (if 0 ≤ (w13 3 x1.toNatClampNeg) then (gd (inb x1 8) ((f_X8_in x2.toInt64 (0 : Int64) (((w13 4 x1.toNatClampNeg) - 1).toInt64)).bind (fun r14 => (if r14 = 0 then ((f_X8_finding w13 (2 : Int32)).bind (fun r18 => (some (r18.1, r18.2)))) else (gd (inb x1 8) (if (w13 3 x1.toNatClampNeg) = 0 then (gd (inb ((40 * x1) + x2) 320) (nm (α := Mem) (up w13 5 ((40 * x1) + x2).toNatClampNeg x3.toInt8.toInt32) (fun w17 => (gd (inb ((40 * x1) + x2) 320) (some (w17 5 ((40 * x1) + x2).toNatClampNeg, w17)))))) else (gd (inb x1 8) (if (w13 3 x1.toNatClampNeg) = (1 : Int32) then (gd (inb ((40 * x1) + x2) 320) (nm (α := Mem) (up w13 5 ((40 * x1) + x2).toNatClampNeg x3.toInt16.toInt32) (fun w16 => (gd (inb ((40 * x1) + x2) 320) (some (w16 5 ((40 * x1) + x2).toNatClampNeg, w16)))))) else (gd (inb ((40 * x1) + x2) 320) (nm (α := Mem) (up w13 5 ((40 * x1) + x2).toNatClampNeg x3) (fun w15 => (gd (inb ((40 * x1) + x2) 320) (some (w15 5 ((40 * x1) + x2).toNatClampNeg, w15)))))))))))))) else ((f_X8_finding w13 (1 : Int32)).bind (fun r19 => (some (r19.1, r19.2)))))))))))))
def f_X8_copy_L143 (k : Int32 → Mem → Option (Int32 × Mem)) (x1 : Int32) (x2 : Int32) (x3 : Int32) (x4 : Int32) (x5 : Int32) (a20 : Int32) : Nat → Int32 → Mem → Option (Int32 × Mem)
  | 0, _, _ => none
  | t + 1, u22, w23 =>
    (if x5 ≤ u22 then (k u22 w23) else (nm (α := Int32) (if a20 = 0 then (((x5 - 1) - u22)) else u22) (fun a24 => (gd (inb (((40 * x1) + x2) + a24) 320) (gd (inb (((40 * x3) + x4) + a24) 320) (nm (α := Mem) (up w23 5 (((40 * x3) + x4) + a24).toNatClampNeg (w23 5 (((40 * x1) + x2) + a24).toNatClampNeg)) (fun w26 => (f_X8_copy_L143 k x1 x2 x3 x4 x5 a20 t (u22 + 1) w26))))))))
def f_X8_copy (m0 : Mem) (x1 : Int32) (x2 : Int32) (x3 : Int32) (x4 : Int32) (x5 : Int32) : Option (Int32 × Mem) :=
  (nm (α := Mem) (up m0 0 0 0) (fun w11 => ((f_X8_isRow x1).bind (fun r12 => (if r12 = 0 then (some ((-1000001), w11)) else ((f_X8_isRow x3).bind (fun r13 => (if r13 = 0 then (some ((-1000001), w11)) else (nm (α := Mem) (up w11 0 1 0) (fun w14 => (gd (inb x1 8) (if (w14 3 x1.toNatClampNeg) < 0 then ((f_X8_finding w14 (1 : Int32)).bind (fun r15 => (some (r15.1, r15.2)))) else (gd (inb x3 8) (if 0 ≤ (w14 3 x3.toNatClampNeg) then (gd (inb x1 8) (gd (inb x3 8) (if (w14 3 x1.toNatClampNeg) = (w14 3 x3.toNatClampNeg) then (if x2 < 0 then ((f_X8_finding w14 (2 : Int32)).bind (fun r16 => (some (r16.1, r16.2)))) else (if x4 < 0 then ((f_X8_finding w14 (2 : Int32)).bind (fun r17 => (some (r17.1, r17.2)))) else (if x5 < 0 then ((f_X8_finding w14 (2 : Int32)).bind (fun r18 => (some (r18.1, r18.2)))) else (gd (inb x1 8) (if 0 < (lg_cmp (x2.toInt64 + x5.toInt64) ((w14 4 x1.toNatClampNeg).toInt64)) then ((f_X8_finding w14 (2 : Int32)).bind (fun r19 => (some (r19.1, r19.2)))) else (gd (inb x3 8) (if (lg_cmp (x4.toInt64 + x5.toInt64) ((w14 4 x3.toNatClampNeg).toInt64)) ≤ 0 then (nm (α := Int32) (if x2 < x4 then 0 else 1) (fun a20 => (f_X8_copy_L143 (fun (u27 : Int32) (w28 : Mem) => (some (x5, w28))) x1 x2 x3 x4 x5 a20 100000 0 w14))) else ((f_X8_finding w14 (2 : Int32)).bind (fun r29 => (some (r29.1, r29.2))))))))))) else ((f_X8_finding w14 (5 : Int32)).bind (fun r30 => (some (r30.1, r30.2))))))) else ((f_X8_finding w14 (1 : Int32)).bind (fun r31 => (some (r31.1, r31.2))))))))))))))))))
def f_X8_drop (m0 : Mem) (x1 : Int32) : Option (Int32 × Mem) :=
  (nm (α := Mem) (up m0 0 0 0) (fun w11 => ((f_X8_isRow x1).bind (fun r12 => (if r12 = 0 then (some ((-1000001), w11)) else (nm (α := Mem) (up w11 0 1 0) (fun w13 => (gd (inb x1 8) (if 0 ≤ (w13 3 x1.toNatClampNeg) then (gd (inb x1 8) (nm (α := Mem) (up w13 3 x1.toNatClampNeg (-1)) (fun w14 => (gd (inb x1 8) (some (w14 4 x1.toNatClampNeg, w14)))))) else ((f_X8_finding w13 (1 : Int32)).bind (fun r15 => (some (r15.1, r15.2)))))))))))))
def f_X8_feed_L40 (k : Int32 → Mem → Option (Int32 × Mem)) (x1 : Int64) : Nat → Int32 → Mem → Option (Int32 × Mem)
  | 0, _, _ => none
  | t + 1, u14, w15 =>
    (if u14 < 0 then (k u14 w15) else (gd (inb (w15 0 12) 500) (nm (α := Mem) (up w15 12 (w15 0 12).toNatClampNeg (((x1 >>> ((8 * u14).toInt64 &&& 63)) &&& 255).toInt32)) (fun w16 => (nm (α := Mem) (up w16 0 12 ((w16 0 12) + 1)) (fun w17 => (f_X8_feed_L40 k x1 t (u14 + (-1)) w17)))))))
def f_X8_feed (m0 : Mem) (x1 : Int64) (x3 : Int32) : Option (Int32 × Mem) :=
  (nm (α := Mem) (up m0 0 0 0) (fun w11 => ((f_X8_in x3.toInt64 (1 : Int64) (8 : Int64)).bind (fun r12 => (if r12 = 0 then (some ((-1000001), w11)) else (if ((w11 0 12) + x3) ≤ (500 : Int32) then (nm (α := Int32) (x3 - 1) (fun x13 => (f_X8_feed_L40 (fun (u18 : Int32) (w19 : Mem) => (some (w19 0 12, w19))) x1 100000 x13 w11))) else (some ((-1000003), w11))))))))
def f_X8_byteAt (m0 : Mem) (x1 : Int32) : Option (Int32) :=
  (if (m0 0 14) ≤ x1 then (some (-1000000)) else (gd (inb x1 500) (some (m0 12 x1.toNatClampNeg))))
def f_X8_isLetter (x0 : Int32) : Option (Int32) :=
  (if x0 < (97 : Int32) then (some 0) else (if (122 : Int32) < x0 then (some 0) else (some 1)))
def f_X8_isFigure (x0 : Int32) : Option (Int32) :=
  (if x0 < (48 : Int32) then (some 0) else (if (57 : Int32) < x0 then (some 0) else (some 1)))
def f_X8_next_L0 (k : Mem → Option (Mem)) : Nat → Mem → Option (Mem)
  | 0, _ => none
  | t + 1, w11 =>
    ((f_X8_byteAt w11 (w11 0 15)).bind (fun r12 => (if r12 = (32 : Int32) then (nm (α := Mem) (up w11 0 15 ((w11 0 15) + 1)) (fun w14 => (f_X8_next_L0 k t w14))) else ((f_X8_byteAt w11 (w11 0 15)).bind (fun r15 => (if r15 = (10 : Int32) then (nm (α := Mem) (up w11 0 15 ((w11 0 15) + 1)) (fun w16 => (f_X8_next_L0 k t w16))) else (k w11)))))))
def f_X8_next_L119 (k : Mem → Option (Mem)) : Nat → Mem → Option (Mem)
  | 0, _ => none
  | t + 1, w27 =>
    ((f_X8_byteAt w27 (w27 0 15)).bind (fun r28 => ((f_X8_isFigure r28).bind (fun r29 => (if r29 = 0 then (k w27) else (nm (α := Mem) (up w27 0 15 ((w27 0 15) + 1)) (fun w30 => (f_X8_next_L119 k t w30))))))))
def f_X8_next_L77 (k : Mem → Option (Mem)) : Nat → Mem → Option (Mem)
  | 0, _ => none
  | t + 1, w36 =>
    ((f_X8_byteAt w36 (w36 0 15)).bind (fun r37 => ((f_X8_isLetter r37).bind (fun r38 => (if r38 = 0 then (k w36) else (nm (α := Mem) (up w36 0 15 ((w36 0 15) + 1)) (fun w39 => (f_X8_next_L77 k t w39))))))))
def f_X8_next (m0 : Mem) : Option (Mem) :=
  (f_X8_next_L0 (fun (w17 : Mem) => (nm (α := Mem) (up w17 0 17 (w17 0 15)) (fun w18 => ((f_X8_byteAt w18 (w18 0 15)).bind (fun r19 => (if r19 = ((-1000000) : Int32) then (nm (α := Mem) (up w18 0 16 1) (fun w43 => (nm (α := Mem) (up w43 0 18 (w43 0 15)) (fun w44 => (some w44))))) else ((f_X8_isLetter r19).bind (fun r20 => (if r20 = 0 then ((f_X8_isFigure r19).bind (fun r21 => (if r21 = 0 then (nm (α := Mem) (up w18 0 15 ((w18 0 15) + 1)) (fun w22 => (if r19 = (59 : Int32) then (nm (α := Mem) (up w22 0 16 4) (fun w25 => (nm (α := Mem) (up w25 0 18 (w25 0 15)) (fun w26 => (some w26))))) else (nm (α := Mem) (up w22 0 16 0) (fun w23 => (nm (α := Mem) (up w23 0 18 (w23 0 15)) (fun w24 => (some w24)))))))) else (f_X8_next_L119 (fun (w31 : Mem) => (if ((w31 0 15) - (w31 0 17)) ≤ (3 : Int32) then (nm (α := Mem) (up w31 0 16 3) (fun w32 => (nm (α := Mem) (up w32 0 18 (w32 0 15)) (fun w33 => (some w33))))) else (nm (α := Mem) (up w31 0 16 0) (fun w34 => (nm (α := Mem) (up w34 0 18 (w34 0 15)) (fun w35 => (some w35)))))))  100000 w18)))) else (f_X8_next_L77 (fun (w40 : Mem) => (nm (α := Mem) (up w40 0 16 2) (fun w41 => (nm (α := Mem) (up w41 0 18 (w41 0 15)) (fun w42 => (some w42))))))  100000 w18))))))))))  100000 m0)
def f_X8_begin (m0 : Mem) : Option (Mem) :=
  (nm (α := Mem) (up m0 0 14 (m0 0 12)) (fun w11 => (nm (α := Mem) (up w11 0 12 0) (fun w12 => (nm (α := Mem) (up w12 0 15 0) (fun w13 => (nm (α := Mem) (up w13 0 19 0) (fun w14 => ((f_X8_next w14).bind (fun r15 => (some r15)))))))))))
def f_X8_name_L7 (k : Int64 → Int32 → Option (Int64)) (m0 : Mem) : Nat → Int64 → Int32 → Option (Int64)
  | 0, _, _ => none
  | t + 1, u12, u13 =>
    (if (m0 0 18) ≤ u13 then (k u12 u13) else (if (m0 0 16) = (2 : Int32) then (if (9 : Int32) ≤ ((m0 0 18) - (m0 0 17)) then (k u12 u13) else (gd (inb u13 500) (nm (α := Int64) ((u12 <<< ((8 : Int32).toInt64 &&& 63)) ||| ((m0 12 u13.toNatClampNeg).toInt64)) (fun x14 => (f_X8_name_L7 k m0 t x14 (u13 + 1)))))) else (k u12 u13)))
def f_X8_name (m0 : Mem) : Option (Int64) :=
  (nm (α := Int32) (m0 0 17) (fun x11 => (f_X8_name_L7 (fun (u15 : Int64) (u16 : Int32) => (if (m0 0 19) = 0 then (some u15) else (some 0))) m0 100000 0 x11)))
def f_X8_bad (m0 : Mem) (x1 : Int32) : Option (Mem) :=
  (if (m0 0 19) = 0 then (nm (α := Mem) (up m0 0 19 x1) (fun w11 => (nm (α := Mem) (up w11 0 20 (w11 0 17)) (fun w12 => (some w12))))) else (some m0))
def f_X8_must (m0 : Mem) (x1 : Int32) : Option (Mem) :=
  (jn (α := Mem) (fun j13 => (if x1 = 0 then ((f_X8_bad m0 (1 : Int32)).bind (fun r11 => (j13 r11))) else (j13 m0))) (fun a12 => (if (a12 0 19) = 0 then ((f_X8_next a12).bind (fun r14 => (some r14))) else (some a12))))
def f_X8_figures_L7 (k : Int32 → Int32 → Option (Int32)) (m0 : Mem) : Nat → Int32 → Int32 → Option (Int32)
  | 0, _, _ => none
  | t + 1, u12, u13 =>
    (if (m0 0 18) ≤ u13 then (k u12 u13) else (if (m0 0 16) = (3 : Int32) then (gd (inb u13 500) (nm (α := Int32) (((10 * u12) + (m0 12 u13.toNatClampNeg)) - 48) (fun x14 => (f_X8_figures_L7 k m0 t x14 (u13 + 1))))) else (k u12 u13)))
def f_X8_figures (m0 : Mem) : Option (Int32) :=
  (nm (α := Int32) (m0 0 17) (fun x11 => (f_X8_figures_L7 (fun (u15 : Int32) (u16 : Int32) => (some u15)) m0 100000 0 x11)))
def f_X8_number (m0 : Mem) (x1 : Int32) (x2 : Int32) : Option (Int32 × Mem) :=
  (if (m0 0 19) ≤ 0 then ((f_X8_figures m0).bind (fun r11 => (jn (α := Mem) (fun j15 => (if (m0 0 16) = (3 : Int32) then ((f_X8_in r11.toInt64 x1.toInt64 x2.toInt64).bind (fun r12 => (if r12 = 0 then ((f_X8_bad m0 (2 : Int32)).bind (fun r13 => (j15 r13))) else (j15 m0)))) else (j15 m0))) (fun a14 => (if (a14 0 16) = (3 : Int32) then ((f_X8_must a14 (1 : Int32)).bind (fun r17 => (some (r11, r17)))) else ((f_X8_must a14 (0 : Int32)).bind (fun r16 => (some (r11, r16))))))))) else (some (0, m0)))
def f_X8_mustEnd (m0 : Mem) : Option (Mem) :=
  (if (m0 0 19) = 0 then (if (m0 0 16) = (4 : Int32) then ((f_X8_must m0 (1 : Int32)).bind (fun r12 => (some r12))) else ((f_X8_must m0 (0 : Int32)).bind (fun r11 => (some r11)))) else (some m0))
def f_X8_begins (m0 : Mem) (x1 : Int32) (x2 : Int32) : Option (Mem) :=
  (gd (inb x1 109) (if (m0 7 x1.toNatClampNeg) = x2 then ((f_X8_bad m0 (3 : Int32)).bind (fun r12 => ((f_X8_must r12 (1 : Int32)).bind (fun r13 => (some r13))))) else ((f_X8_must m0 (1 : Int32)).bind (fun r11 => (some r11)))))
def f_X8_unlike (m0 : Mem) (x1 : Int32) (x2 : Int32) (x3 : Int32) : Option (Int32 × Mem) :=
  (jn (α := Mem) (fun j14 => (if (m0 0 19) = 0 then (if (m0 0 16) = (3 : Int32) then ((f_X8_figures m0).bind (fun r11 => (if r11 = x3 then ((f_X8_bad m0 (2 : Int32)).bind (fun r12 => (j14 r12))) else (j14 m0)))) else (j14 m0)) else (j14 m0))) (fun a13 => ((f_X8_number a13 x1 x2).bind (fun r15 => (some (r15.1, r15.2))))))
def f_X8_readWay (m0 : Mem) : Option (Mem) :=
  ((f_X8_begins m0 (2 : Int32) (16 : Int32)).bind (fun r11 => ((f_X8_number r11 (0 : Int32) (7 : Int32)).bind (fun r12 => (nm (α := Int32) (r12.1) (fun x13 => ((f_X8_unlike r12.2 (0 : Int32) (7 : Int32) x13).bind (fun r14 => (nm (α := Int32) (r14.1) (fun x15 => ((f_X8_number r14.2 (1 : Int32) (99 : Int32)).bind (fun r16 => (nm (α := Int32) (r16.1) (fun x17 => ((f_X8_mustEnd r16.2).bind (fun r18 => (if (r18 0 19) = 0 then (gd (inb ((8 + (8 * x13)) + x15) 109) (jn (α := Int32) (fun j20 => (if x17 ≤ (r18 7 ((8 + (8 * x13)) + x15).toNatClampNeg) then (j20 x17) else (gd (inb ((8 + (8 * x13)) + x15) 109) (j20 (r18 7 ((8 + (8 * x13)) + x15).toNatClampNeg))))) (fun a19 => (gd (inb ((8 + (8 * x13)) + x15) 109) (nm (α := Mem) (up r18 7 ((8 + (8 * x13)) + x15).toNatClampNeg a19) (fun w21 => (gd (inb ((8 + (8 * x15)) + x13) 109) (nm (α := Mem) (up w21 7 ((8 + (8 * x15)) + x13).toNatClampNeg a19) (fun w22 => (gd (inb 2 109) (gd (inb 2 109) (nm (α := Mem) (up w22 7 (2 : Int32).toNatClampNeg ((w22 7 (2 : Int32).toNatClampNeg) + 1)) (fun w23 => (some w23)))))))))))))) else (some r18))))))))))))))))))
def f_X8_readHill (m0 : Mem) : Option (Mem) :=
  ((f_X8_begins m0 (3 : Int32) (7 : Int32)).bind (fun r11 => ((f_X8_number r11 (1 : Int32) (7 : Int32)).bind (fun r12 => (nm (α := Int32) (r12.1) (fun x13 => ((f_X8_mustEnd r12.2).bind (fun r14 => (if (r14 0 19) = 0 then (gd (inb 7 109) (gd (inb 7 109) (nm (α := Mem) (up r14 7 (7 : Int32).toNatClampNeg ((r14 7 (7 : Int32).toNatClampNeg) ||| (1 <<< (x13 &&& 31)))) (fun w15 => (gd (inb 3 109) (gd (inb 3 109) (nm (α := Mem) (up w15 7 (3 : Int32).toNatClampNeg ((w15 7 (3 : Int32).toNatClampNeg) + 1)) (fun w16 => (some w16))))))))) else (some r14))))))))))
def f_X8_kindBy (x0 : Int64) : Option (Int32) :=
  (if (lg_cmp x0 482854660462) = 0 then (some 1) else (if (lg_cmp x0 1936286571) = 0 then (some 4) else (if (lg_cmp x0 426953501796) = 0 then (some 5) else (if (lg_cmp x0 110442558416242) = 0 then (some 2) else (if (lg_cmp x0 8319400174449812850) = 0 then (some 3) else (some (-1000000)))))))
def f_X8_readPerson (m0 : Mem) : Option (Mem) :=
  ((f_X8_begins m0 (4 : Int32) (7 : Int32)).bind (fun r11 => ((f_X8_name r11).bind (fun r12 => ((f_X8_kindBy r12).bind (fun r13 => (jn (α := Mem) (fun j17 => (if (r11 0 19) = 0 then (if r13 = ((-1000000) : Int32) then ((f_X8_must r11 (0 : Int32)).bind (fun r14 => (j17 r14))) else ((f_X8_must r11 (1 : Int32)).bind (fun r15 => (j17 r15)))) else (j17 r11))) (fun a16 => ((f_X8_number a16 (1 : Int32) (7 : Int32)).bind (fun r18 => (nm (α := Int32) (r18.1) (fun x19 => ((f_X8_number r18.2 (0 : Int32) (9 : Int32)).bind (fun r20 => (nm (α := Int32) (r20.1) (fun x21 => ((f_X8_mustEnd r20.2).bind (fun r22 => (if (r22 0 19) = 0 then (gd (inb 4 109) (nm (α := Int32) (72 + (4 * (r22 7 (4 : Int32).toNatClampNeg))) (fun x23 => (gd (inb x23 109) (nm (α := Mem) (up r22 7 x23.toNatClampNeg r13) (fun w24 => (gd (inb (x23 + 1) 109) (nm (α := Mem) (up w24 7 (x23 + 1).toNatClampNeg x19) (fun w25 => (gd (inb (x23 + 2) 109) (nm (α := Mem) (up w25 7 (x23 + 2).toNatClampNeg x21) (fun w26 => (gd (inb 4 109) (gd (inb 4 109) (nm (α := Mem) (up w26 7 (4 : Int32).toNatClampNeg ((w26 7 (4 : Int32).toNatClampNeg) + 1)) (fun w27 => (some w27))))))))))))))))) else (some r22))))))))))))))))))))
def f_X8_isOwner_L4 (k : Int32 → Int32 → Option (Int32)) (x1 : Int32) (m0 : Mem) : Nat → Int32 → Int32 → Option (Int32)
  | 0, _, _ => none
  | t + 1, u11, u12 =>
    (gd (inb 5 109) (if (m0 7 (5 : Int32).toNatClampNeg) ≤ u12 then (k u11 u12) else (if u11 = 0 then (gd (inb (100 + (3 * u12)) 109) (if (m0 7 (100 + (3 * u12)).toNatClampNeg) = x1 then (f_X8_isOwner_L4 k x1 m0 t 1 (u12 + 1)) else (f_X8_isOwner_L4 k x1 m0 t 0 (u12 + 1)))) else (f_X8_isOwner_L4 k x1 m0 t 1 (u12 + 1)))))
def f_X8_isOwner (m0 : Mem) (x1 : Int32) : Option (Int32) :=
  (f_X8_isOwner_L4 (fun (u13 : Int32) (u14 : Int32) => (gd (decide (u13 = 0 ∨ u13 = 1)) (some u13))) x1 m0 100000 0 0)
def f_X8_readCar (m0 : Mem) : Option (Mem) :=
  ((f_X8_begins m0 (5 : Int32) (3 : Int32)).bind (fun r11 => (jn (α := Mem) (fun j16 => (if (r11 0 19) = 0 then (if (r11 0 16) = (3 : Int32) then ((f_X8_figures r11).bind (fun r12 => ((f_X8_isOwner r11 r12).bind (fun r13 => (if r13 = 0 then (j16 r11) else ((f_X8_bad r11 (2 : Int32)).bind (fun r14 => (j16 r14)))))))) else (j16 r11)) else (j16 r11))) (fun a15 => (gd (inb 4 109) ((f_X8_number a15 (0 : Int32) ((a15 7 (4 : Int32).toNatClampNeg) - 1)).bind (fun r17 => (nm (α := Int32) (r17.1) (fun x18 => ((f_X8_number r17.2 (1 : Int32) (4 : Int32)).bind (fun r19 => (nm (α := Int32) (r19.1) (fun x20 => ((f_X8_number r19.2 (0 : Int32) (1 : Int32)).bind (fun r21 => (nm (α := Int32) (r21.1) (fun x22 => ((f_X8_mustEnd r21.2).bind (fun r23 => (if (r23 0 19) = 0 then (gd (inb 5 109) (nm (α := Int32) (100 + (3 * (r23 7 (5 : Int32).toNatClampNeg))) (fun x24 => (gd (inb x24 109) (nm (α := Mem) (up r23 7 x24.toNatClampNeg x18) (fun w25 => (gd (inb (x24 + 1) 109) (nm (α := Mem) (up w25 7 (x24 + 1).toNatClampNeg x20) (fun w26 => (gd (inb (x24 + 2) 109) (nm (α := Mem) (up w26 7 (x24 + 2).toNatClampNeg x22) (fun w27 => (gd (inb 5 109) (gd (inb 5 109) (nm (α := Mem) (up w27 7 (5 : Int32).toNatClampNeg ((w27 7 (5 : Int32).toNatClampNeg) + 1)) (fun w28 => (some w28))))))))))))))))) else (some r23)))))))))))))))))))))
def f_X8_readQuarrel (m0 : Mem) : Option (Mem) :=
  ((f_X8_begins m0 (6 : Int32) (6 : Int32)).bind (fun r11 => (gd (inb 4 109) ((f_X8_number r11 (0 : Int32) ((r11 7 (4 : Int32).toNatClampNeg) - 1)).bind (fun r12 => (nm (α := Int32) (r12.1) (fun x13 => (gd (inb 4 109) ((f_X8_unlike r12.2 (0 : Int32) ((r12.2 7 (4 : Int32).toNatClampNeg) - 1) x13).bind (fun r14 => (nm (α := Int32) (r14.1) (fun x15 => ((f_X8_mustEnd r14.2).bind (fun r16 => (if (r16 0 19) = 0 then (gd (inb ((72 + (4 * x13)) + 3) 109) (gd (inb ((72 + (4 * x13)) + 3) 109) (nm (α := Mem) (up r16 7 ((72 + (4 * x13)) + 3).toNatClampNeg ((r16 7 ((72 + (4 * x13)) + 3).toNatClampNeg) ||| (1 <<< (x15 &&& 31)))) (fun w17 => (gd (inb ((72 + (4 * x15)) + 3) 109) (gd (inb ((72 + (4 * x15)) + 3) 109) (nm (α := Mem) (up w17 7 ((72 + (4 * x15)) + 3).toNatClampNeg ((w17 7 ((72 + (4 * x15)) + 3).toNatClampNeg) ||| (1 <<< (x13 &&& 31)))) (fun w18 => (gd (inb 6 109) (gd (inb 6 109) (nm (α := Mem) (up w18 7 (6 : Int32).toNatClampNeg ((w18 7 (6 : Int32).toNatClampNeg) + 1)) (fun w19 => (some w19))))))))))))) else (some r16))))))))))))))))
def f_X8_layFar_L18 (k : Int32 → Mem → Option (Mem)) (u11 : Int32) (u13 : Int32) : Nat → Int32 → Mem → Option (Mem)
  | 0, _, _ => none
  | t + 1, u15, w16 =>
    (if (8 : Int32) ≤ u15 then (k u15 w16) else (gd (inb ((8 + (8 * u13)) + u11) 109) (gd (inb ((8 + (8 * u11)) + u15) 109) (nm (α := Int32) ((w16 7 ((8 + (8 * u13)) + u11).toNatClampNeg) + (w16 7 ((8 + (8 * u11)) + u15).toNatClampNeg)) (fun x17 => (gd (inb ((8 + (8 * u13)) + u15) 109) (if (w16 7 ((8 + (8 * u13)) + u15).toNatClampNeg) ≤ x17 then (gd (inb ((8 + (8 * u13)) + u15) 109) (gd (inb ((8 + (8 * u13)) + u15) 109) (nm (α := Mem) (up w16 7 ((8 + (8 * u13)) + u15).toNatClampNeg (w16 7 ((8 + (8 * u13)) + u15).toNatClampNeg)) (fun w18 => (f_X8_layFar_L18 k u11 u13 t (u15 + 1) w18))))) else (gd (inb ((8 + (8 * u13)) + u15) 109) (nm (α := Mem) (up w16 7 ((8 + (8 * u13)) + u15).toNatClampNeg x17) (fun w19 => (f_X8_layFar_L18 k u11 u13 t (u15 + 1) w19)))))))))))
def f_X8_layFar_L10 (k : Int32 → Mem → Option (Mem)) (u11 : Int32) : Nat → Int32 → Mem → Option (Mem)
  | 0, _, _ => none
  | t + 1, u13, w14 =>
    (if (8 : Int32) ≤ u13 then (k u13 w14) else (f_X8_layFar_L18 (fun (u20 : Int32) (w21 : Mem) => (f_X8_layFar_L10 k u11 t (u13 + 1) w21)) u11 u13 100000 0 w14))
def f_X8_layFar_L2 (k : Int32 → Mem → Option (Mem)) : Nat → Int32 → Mem → Option (Mem)
  | 0, _, _ => none
  | t + 1, u11, w12 =>
    (if (8 : Int32) ≤ u11 then (k u11 w12) else (f_X8_layFar_L10 (fun (u22 : Int32) (w23 : Mem) => (f_X8_layFar_L2 k t (u11 + 1) w23)) u11 100000 0 w12))
def f_X8_layFar (m0 : Mem) : Option (Mem) :=
  (f_X8_layFar_L2 (fun (u24 : Int32) (w25 : Mem) => (some w25))  100000 0 m0)
def f_X8_evening_L11 (k : Int32 → Mem → Option (Int32 × Mem)) : Nat → Int32 → Mem → Option (Int32 × Mem)
  | 0, _, _ => none
  | t + 1, u13, w14 =>
    (if (109 : Int32) ≤ u13 then (k u13 w14) else (if u13 < (8 : Int32) then (gd (inb u13 109) (nm (α := Mem) (up w14 7 u13.toNatClampNeg 0) (fun w15 => (f_X8_evening_L11 k t (u13 + 1) w15)))) else (if (72 : Int32) ≤ u13 then (gd (inb u13 109) (nm (α := Mem) (up w14 7 u13.toNatClampNeg 0) (fun w16 => (f_X8_evening_L11 k t (u13 + 1) w16)))) else (gd (inb u13 109) (nm (α := Mem) (up w14 7 u13.toNatClampNeg 10000) (fun w17 => (f_X8_evening_L11 k t (u13 + 1) w17)))))))
def f_X8_evening_L50 (k : Int32 → Mem → Option (Int32 × Mem)) : Nat → Int32 → Mem → Option (Int32 × Mem)
  | 0, _, _ => none
  | t + 1, u20, w21 =>
    (if (8 : Int32) ≤ u20 then (k u20 w21) else (gd (inb (8 + (9 * u20)) 109) (nm (α := Mem) (up w21 7 (8 + (9 * u20)).toNatClampNeg 0) (fun w22 => (f_X8_evening_L50 k t (u20 + 1) w22)))))
def f_X8_evening_L125 (k : Mem → Option (Int32 × Mem)) : Nat → Mem → Option (Int32 × Mem)
  | 0, _ => none
  | t + 1, w34 =>
    ((f_X8_name w34).bind (fun r35 => (if (lg_cmp r35 7823737) = 0 then ((f_X8_readWay w34).bind (fun r36 => (f_X8_evening_L125 k t r36))) else (k w34))))
def f_X8_evening_L143 (k : Mem → Option (Int32 × Mem)) : Nat → Mem → Option (Int32 × Mem)
  | 0, _ => none
  | t + 1, w38 =>
    ((f_X8_name w38).bind (fun r39 => (if (lg_cmp r39 1751739500) = 0 then ((f_X8_readHill w38).bind (fun r40 => (f_X8_evening_L143 k t r40))) else (k w38))))
def f_X8_evening_L161 (k : Mem → Option (Int32 × Mem)) : Nat → Mem → Option (Int32 × Mem)
  | 0, _ => none
  | t + 1, w42 =>
    ((f_X8_name w42).bind (fun r43 => (if (lg_cmp r43 123581014175598) = 0 then ((f_X8_readPerson w42).bind (fun r44 => (f_X8_evening_L161 k t r44))) else (k w42))))
def f_X8_evening_L179 (k : Mem → Option (Int32 × Mem)) : Nat → Mem → Option (Int32 × Mem)
  | 0, _ => none
  | t + 1, w46 =>
    ((f_X8_name w46).bind (fun r47 => (if (lg_cmp r47 6513010) = 0 then ((f_X8_readCar w46).bind (fun r48 => (f_X8_evening_L179 k t r48))) else (k w46))))
def f_X8_evening_L197 (k : Mem → Option (Int32 × Mem)) : Nat → Mem → Option (Int32 × Mem)
  | 0, _ => none
  | t + 1, w50 =>
    ((f_X8_name w50).bind (fun r51 => (if (lg_cmp r51 31935733760681324) = 0 then ((f_X8_readQuarrel w50).bind (fun r52 => (f_X8_evening_L197 k t r52))) else (k w50))))
def f_X8_evening_L274 (k : Int32 → Mem → Option (Int32 × Mem)) : Nat → Int32 → Mem → Option (Int32 × Mem)
  | 0, _, _ => none
  | t + 1, u60, w61 =>
    (if (109 : Int32) ≤ u60 then (k u60 w61) else (gd (inb u60 109) (gd (inb u60 109) (nm (α := Mem) (up w61 6 u60.toNatClampNeg (w61 7 u60.toNatClampNeg)) (fun w62 => (f_X8_evening_L274 k t (u60 + 1) w62))))))
def f_X8_evening (m0 : Mem) : Option (Int32 × Mem) :=
  (nm (α := Mem) (up m0 0 0 0) (fun w11 => ((f_X8_begin w11).bind (fun r12 => (f_X8_evening_L11 (fun (u18 : Int32) (w19 : Mem) => (f_X8_evening_L50 (fun (u23 : Int32) (w24 : Mem) => ((f_X8_name w24).bind (fun r25 => (nm (α := Int32) (if (lg_cmp r25 7102839) = 0 then 1 else 0) (fun a26 => ((f_X8_must w24 a26).bind (fun r28 => ((f_X8_number r28 (0 : Int32) (50 : Int32)).bind (fun r29 => (gd (inb 0 109) (nm (α := Mem) (up r29.2 7 (0 : Int32).toNatClampNeg r29.1) (fun w30 => ((f_X8_number w30 (1 : Int32) (20 : Int32)).bind (fun r31 => (gd (inb 1 109) (nm (α := Mem) (up r31.2 7 (1 : Int32).toNatClampNeg r31.1) (fun w32 => ((f_X8_mustEnd w32).bind (fun r33 => (f_X8_evening_L125 (fun (w37 : Mem) => (f_X8_evening_L143 (fun (w41 : Mem) => (f_X8_evening_L161 (fun (w45 : Mem) => (f_X8_evening_L179 (fun (w49 : Mem) => (f_X8_evening_L197 (fun (w53 : Mem) => (jn (α := Mem) (fun j56 => (if (w53 0 19) = 0 then (if (w53 0 16) = (1 : Int32) then (j56 w53) else ((f_X8_bad w53 (1 : Int32)).bind (fun r54 => (j56 r54)))) else (j56 w53))) (fun a55 => (if (a55 0 19) ≤ 0 then (nm (α := Mem) (up a55 0 7 1) (fun w57 => (nm (α := Mem) (up w57 0 10 0) (fun w58 => ((f_X8_layFar w58).bind (fun r59 => (f_X8_evening_L274 (fun (u63 : Int32) (w64 : Mem) => (gd (inb 4 109) (some (w64 6 (4 : Int32).toNatClampNeg, w64))))  100000 0 r59))))))) else (nm (α := Mem) (up a55 0 13 (a55 0 19)) (fun w65 => (some ((-1000100) - (w65 0 20), w65))))))))  100000 w49))  100000 w45))  100000 w41))  100000 w37))  100000 r33))))))))))))))))))))  100000 0 w19))  100000 0 r12)))))
def f_X8_fault (m0 : Mem) : Option (Int32 × Mem) :=
  (nm (α := Mem) (up m0 0 0 0) (fun w11 => (some (w11 0 13, w11))))
def f_X8_isPerson (m0 : Mem) (x1 : Int32) : Option (Int32) :=
  (gd (inb 4 109) ((f_X8_in x1.toInt64 (0 : Int64) (((m0 6 (4 : Int32).toNatClampNeg) - 1).toInt64)).bind (fun r11 => (gd (decide (r11 = 0 ∨ r11 = 1)) (some r11)))))
def f_X8_of (m0 : Mem) (x1 : Int32) (x2 : Int32) : Option (Int32) :=
  (gd (inb ((72 + (4 * x1)) + x2) 109) (some (m0 6 ((72 + (4 * x1)) + x2).toNatClampNeg)))
def f_X8_drink_L58 (k : Int32 → Mem → Option (Int32 × Mem)) : Nat → Int32 → Mem → Option (Int32 × Mem)
  | 0, _, _ => none
  | t + 1, u15, w16 =>
    (if (24 : Int32) ≤ u15 then (k u15 w16) else (gd (inb u15 24) (gd (inb (u15 - 1) 24) (nm (α := Mem) (up w16 9 (u15 - 1).toNatClampNeg (w16 9 u15.toNatClampNeg)) (fun w17 => (gd (inb u15 24) (gd (inb (u15 - 1) 24) (nm (α := Mem) (up w17 10 (u15 - 1).toNatClampNeg (w17 10 u15.toNatClampNeg)) (fun w18 => (f_X8_drink_L58 k t (u15 + 1) w18))))))))))
def f_X8_drink (m0 : Mem) (x1 : Int32) (x2 : Int32) : Option (Int32 × Mem) :=
  (nm (α := Mem) (up m0 0 0 0) (fun w11 => ((f_X8_isPerson w11 x1).bind (fun r12 => (if r12 = 0 then (some ((-1000001), w11)) else ((f_X8_in x2.toInt64 (1 : Int64) (9 : Int64)).bind (fun r13 => (if r13 = 0 then (some ((-1000001), w11)) else ((f_X8_of w11 x1 (2 : Int32)).bind (fun r14 => (if (r14 + x2) ≤ (99 : Int32) then (jn (α := Mem) (fun j23 => (if (w11 0 10) = (24 : Int32) then (f_X8_drink_L58 (fun (u19 : Int32) (w20 : Mem) => (nm (α := Mem) (up w20 0 10 ((w20 0 10) - 1)) (fun w21 => (j23 w21))))  100000 1 w11) else (j23 w11))) (fun a22 => (gd (inb (a22 0 10) 24) (nm (α := Mem) (up a22 9 (a22 0 10).toNatClampNeg x1) (fun w24 => (gd (inb (w24 0 10) 24) (nm (α := Mem) (up w24 10 (w24 0 10).toNatClampNeg x2) (fun w25 => (nm (α := Mem) (up w25 0 10 ((w25 0 10) + 1)) (fun w26 => (gd (inb ((72 + (4 * x1)) + 2) 109) (nm (α := Mem) (up w26 6 ((72 + (4 * x1)) + 2).toNatClampNeg (r14 + x2)) (fun w27 => (some (r14 + x2, w27))))))))))))))) else (some ((-1000003), w11)))))))))))))
def f_X8_undo (m0 : Mem) : Option (Int32 × Mem) :=
  (nm (α := Mem) (up m0 0 0 0) (fun w11 => (if (w11 0 10) = 0 then (some ((-1000002), w11)) else (nm (α := Mem) (up w11 0 10 ((w11 0 10) - 1)) (fun w12 => (gd (inb (w12 0 10) 24) (gd (inb ((72 + (4 * (w12 9 (w12 0 10).toNatClampNeg))) + 2) 109) (gd (inb (w12 0 10) 24) (gd (inb ((72 + (4 * (w12 9 (w12 0 10).toNatClampNeg))) + 2) 109) (nm (α := Mem) (up w12 6 ((72 + (4 * (w12 9 (w12 0 10).toNatClampNeg))) + 2).toNatClampNeg ((w12 6 ((72 + (4 * (w12 9 (w12 0 10).toNatClampNeg))) + 2).toNatClampNeg) - (w12 10 (w12 0 10).toNatClampNeg))) (fun w13 => (some (w13 0 10, w13)))))))))))))
def f_X8_car0 (m0 : Mem) (x1 : Int32) (x2 : Int32) : Option (Int32) :=
  (gd (inb ((100 + (3 * x1)) + x2) 109) (some (m0 6 ((100 + (3 * x1)) + x2).toNatClampNeg)))
def f_X8_carOf_L2 (k : Int32 → Option (Int32)) (x1 : Int32) (m0 : Mem) : Nat → Int32 → Option (Int32)
  | 0, _ => none
  | t + 1, u11 =>
    (gd (inb 5 109) (if (m0 6 (5 : Int32).toNatClampNeg) ≤ u11 then (k u11) else ((f_X8_car0 m0 u11 (0 : Int32)).bind (fun r12 => (if r12 = x1 then (some u11) else (f_X8_carOf_L2 k x1 m0 t (u11 + 1)))))))
def f_X8_carOf (m0 : Mem) (x1 : Int32) : Option (Int32) :=
  (f_X8_carOf_L2 (fun (u13 : Int32) => (some (-1000000))) x1 m0 100000 0)
def f_X8_person (m0 : Mem) (x1 : Int32) (x2 : Int32) : Option (Int32 × Mem) :=
  (nm (α := Mem) (up m0 0 0 0) (fun w11 => ((f_X8_isPerson w11 x1).bind (fun r12 => (if r12 = 0 then (some ((-1000001), w11)) else ((f_X8_in x2.toInt64 (0 : Int64) (3 : Int64)).bind (fun r13 => (if r13 = 0 then (some ((-1000001), w11)) else (if x2 = 0 then ((f_X8_of w11 x1 (1 : Int32)).bind (fun r17 => (some (r17, w11)))) else (if x2 = (1 : Int32) then ((f_X8_of w11 x1 (2 : Int32)).bind (fun r16 => (some (r16, w11)))) else (if x2 = (2 : Int32) then ((f_X8_carOf w11 x1).bind (fun r15 => (some (r15, w11)))) else ((f_X8_of w11 x1 (3 : Int32)).bind (fun r14 => (some (r14, w11)))))))))))))))
def f_X8_isCar (m0 : Mem) (x1 : Int32) : Option (Int32) :=
  (gd (inb 5 109) ((f_X8_in x1.toInt64 (0 : Int64) (((m0 6 (5 : Int32).toNatClampNeg) - 1).toInt64)).bind (fun r11 => (gd (decide (r11 = 0 ∨ r11 = 1)) (some r11)))))
def f_X8_car (m0 : Mem) (x1 : Int32) (x2 : Int32) : Option (Int32 × Mem) :=
  (nm (α := Mem) (up m0 0 0 0) (fun w11 => ((f_X8_isCar w11 x1).bind (fun r12 => (if r12 = 0 then (some ((-1000001), w11)) else ((f_X8_in x2.toInt64 (0 : Int64) (2 : Int64)).bind (fun r13 => (if r13 = 0 then (some ((-1000001), w11)) else ((f_X8_car0 w11 x1 x2).bind (fun r14 => (some (r14, w11))))))))))))
def f_X8_farOf (m0 : Mem) (x1 : Int32) (x2 : Int32) : Option (Int32) :=
  (gd (inb ((8 + (8 * x1)) + x2) 109) (some (m0 6 ((8 + (8 * x1)) + x2).toNatClampNeg)))
def f_X8_far (m0 : Mem) (x1 : Int32) (x2 : Int32) : Option (Int32 × Mem) :=
  (nm (α := Mem) (up m0 0 0 0) (fun w11 => (if (w11 0 7) = 0 then (some ((-1000002), w11)) else ((f_X8_in x1.toInt64 (0 : Int64) (7 : Int64)).bind (fun r12 => (if r12 = 0 then (some ((-1000001), w11)) else ((f_X8_in x2.toInt64 (0 : Int64) (7 : Int64)).bind (fun r13 => (if r13 = 0 then (some ((-1000001), w11)) else ((f_X8_farOf w11 x1 x2).bind (fun r14 => (if (10000 : Int32) ≤ r14 then (some ((-1000000), w11)) else ((f_X8_farOf w11 x1 x2).bind (fun r15 => (some (r15, w11))))))))))))))))
def f_X8_isMinute (x0 : Int32) : Option (Int32) :=
  ((f_X8_in x0.toInt64 (0 : Int64) (600 : Int64)).bind (fun r11 => (gd (decide (r11 = 0 ∨ r11 = 1)) (some r11))))
def f_X8_drunk (m0 : Mem) (x1 : Int32) (x2 : Int32) : Option (Int32) :=
  (gd (inb 1 109) (nm (α := Int32) ((10 * x1) - ((m0 6 (1 : Int32).toNatClampNeg) * (x2 / 60))) (fun x11 => (if 0 ≤ x11 then (some x11) else (some 0)))))
def f_X8_mayDrive (m0 : Mem) (x1 : Int32) (x2 : Int32) (x3 : Int32) : Option (Int32) :=
  ((f_X8_of m0 x1 (0 : Int32)).bind (fun r11 => (if (4 : Int32) ≤ r11 then (some 0) else ((f_X8_drunk m0 x2 x3).bind (fun r12 => (gd (inb 0 109) (if (m0 6 (0 : Int32).toNatClampNeg) < r12 then (some 0) else (if r11 = (2 : Int32) then (if x2 = 0 then (some 1) else (some 0)) else (some 1)))))))))
def f_X8_may (m0 : Mem) (x1 : Int32) (x2 : Int32) (x3 : Int32) : Option (Int32 × Mem) :=
  (nm (α := Mem) (up m0 0 0 0) (fun w11 => ((f_X8_isPerson w11 x1).bind (fun r12 => (if r12 = 0 then (some ((-1000001), w11)) else ((f_X8_isMinute x2).bind (fun r13 => (if r13 = 0 then (some ((-1000001), w11)) else ((f_X8_in x3.toInt64 (0 : Int64) (1 : Int64)).bind (fun r14 => (if r14 = 0 then (some ((-1000001), w11)) else (if x3 = 0 then ((f_X8_of w11 x1 (2 : Int32)).bind (fun r17 => ((f_X8_drunk w11 r17 x2).bind (fun r18 => (some (r18, w11)))))) else ((f_X8_of w11 x1 (2 : Int32)).bind (fun r15 => ((f_X8_mayDrive w11 x1 r15 x2).bind (fun r16 => (if r16 = 0 then (some (0, w11)) else (some (1, w11)))))))))))))))))))
def f_X8_soon_L18 (k : Int32 → Option (Int32 × Mem)) (x1 : Int32) (w11 : Mem) : Nat → Int32 → Option (Int32 × Mem)
  | 0, _ => none
  | t + 1, u13 =>
    (if (600 : Int32) < u13 then (k u13) else ((f_X8_of w11 x1 (2 : Int32)).bind (fun r14 => ((f_X8_mayDrive w11 x1 r14 u13).bind (fun r15 => (if r15 = 0 then (f_X8_soon_L18 k x1 w11 t (u13 + 1)) else (some (u13, w11))))))))
def f_X8_soon (m0 : Mem) (x1 : Int32) : Option (Int32 × Mem) :=
  (nm (α := Mem) (up m0 0 0 0) (fun w11 => ((f_X8_isPerson w11 x1).bind (fun r12 => (if r12 = 0 then (some ((-1000001), w11)) else (f_X8_soon_L18 (fun (u16 : Int32) => (some ((-1000000), w11))) x1 w11 100000 0))))))
def f_X8_divisor_L4 (k : Int32 → Int32 → Option (Int32)) : Nat → Int32 → Int32 → Option (Int32)
  | 0, _, _ => none
  | t + 1, u11, u12 =>
    (if u12 = 0 then (k u11 u12) else (gd (decide (¬ u12 = 0)) (nm (α := Int32) (u11 - u11 / u12 * u12) (fun x13 => (f_X8_divisor_L4 k t u12 x13)))))
def f_X8_divisor (x0 : Int32) (x1 : Int32) : Option (Int32) :=
  (f_X8_divisor_L4 (fun (u14 : Int32) (u15 : Int32) => (some u14))  100000 x0 x1)
def f_X8_odds_L52 (k : Int32 → Int32 → Option (Int32 × Mem)) (x1 : Int32) (x2 : Int32) (x3 : Int32) (w11 : Mem) : Nat → Int32 → Int32 → Option (Int32 × Mem)
  | 0, _, _ => none
  | t + 1, u16, u17 =>
    (if x3 < u17 then (k u16 u17) else ((f_X8_of w11 x1 (2 : Int32)).bind (fun r18 => ((f_X8_mayDrive w11 x1 (r18 + u17) x2).bind (fun r19 => (if r19 = 0 then (nm (α := Int32) (u16 + 0) (fun x20 => (f_X8_odds_L52 k x1 x2 x3 w11 t x20 (u17 + 1)))) else (nm (α := Int32) (u16 + 1) (fun x21 => (f_X8_odds_L52 k x1 x2 x3 w11 t x21 (u17 + 1))))))))))
def f_X8_odds (m0 : Mem) (x1 : Int32) (x2 : Int32) (x3 : Int32) (x4 : Int32) : Option (Int32 × Mem) :=
  (nm (α := Mem) (up m0 0 0 0) (fun w11 => ((f_X8_isPerson w11 x1).bind (fun r12 => (if r12 = 0 then (some ((-1000001), w11)) else ((f_X8_isMinute x2).bind (fun r13 => (if r13 = 0 then (some ((-1000001), w11)) else ((f_X8_in x3.toInt64 (0 : Int64) (9 : Int64)).bind (fun r14 => (if r14 = 0 then (some ((-1000001), w11)) else ((f_X8_in x4.toInt64 (0 : Int64) (1 : Int64)).bind (fun r15 => (if r15 = 0 then (some ((-1000001), w11)) else (f_X8_odds_L52 (fun (u22 : Int32) (u23 : Int32) => (nm (α := Int32) (if x4 = 0 then u22 else ((x3 + 1))) (fun a24 => ((f_X8_divisor u22 (x3 + 1)).bind (fun r26 => (gd (decide (¬ r26 = 0)) (some (a24 / r26, w11)))))))) x1 x2 x3 w11 100000 0 0)))))))))))))))
def f_X8_isOnHill (m0 : Mem) (x1 : Int32) : Option (Int32) :=
  (gd (inb 7 109) ((f_X8_of m0 x1 (1 : Int32)).bind (fun r11 => (if (((m0 6 (7 : Int32).toNatClampNeg) >>> (r11 &&& 31)) &&& 1) = (1 : Int32) then (some 1) else (some 0)))))
def f_X8_doesGo (m0 : Mem) (x1 : Int32) (x2 : Int32) : Option (Int32) :=
  ((f_X8_car0 m0 x1 (0 : Int32)).bind (fun r11 => ((f_X8_of m0 r11 (2 : Int32)).bind (fun r12 => ((f_X8_mayDrive m0 r11 r12 x2).bind (fun r13 => (if r13 = 0 then (some 0) else ((f_X8_of m0 r11 (1 : Int32)).bind (fun r14 => ((f_X8_farOf m0 (0 : Int32) r14).bind (fun r15 => (if (10000 : Int32) ≤ r15 then (some 0) else ((f_X8_isOnHill m0 r11).bind (fun r16 => (if r16 = 0 then (some 1) else ((f_X8_car0 m0 x1 (2 : Int32)).bind (fun r17 => (if r17 = (1 : Int32) then (some 1) else (some 0)))))))))))))))))))
def f_X8_goingAt_L4 (k : Int32 → Int32 → Option (Int32)) (x1 : Int32) (m0 : Mem) : Nat → Int32 → Int32 → Option (Int32)
  | 0, _, _ => none
  | t + 1, u11, u12 =>
    (gd (inb 5 109) (if (m0 6 (5 : Int32).toNatClampNeg) ≤ u12 then (k u11 u12) else ((f_X8_doesGo m0 u12 x1).bind (fun r13 => (if r13 = 0 then (nm (α := Int32) (u11 ||| 0) (fun x14 => (f_X8_goingAt_L4 k x1 m0 t x14 (u12 + 1)))) else (nm (α := Int32) (u11 ||| (1 <<< (u12 &&& 31))) (fun x15 => (f_X8_goingAt_L4 k x1 m0 t x15 (u12 + 1)))))))))
def f_X8_goingAt (m0 : Mem) (x1 : Int32) : Option (Int32) :=
  (f_X8_goingAt_L4 (fun (u16 : Int32) (u17 : Int32) => (some u16)) x1 m0 100000 0 0)
def f_X8_goes (m0 : Mem) (x1 : Int32) : Option (Int32 × Mem) :=
  (nm (α := Mem) (up m0 0 0 0) (fun w11 => (if (w11 0 7) = 0 then (some ((-1000002), w11)) else ((f_X8_isMinute x1).bind (fun r12 => (if r12 = 0 then (some ((-1000001), w11)) else ((f_X8_goingAt w11 x1).bind (fun r13 => (some (r13, w11))))))))))
def f_X8_layRiders_L7 (k : Int32 → Mem → Option (Mem)) : Nat → Int32 → Mem → Option (Mem)
  | 0, _, _ => none
  | t + 1, u12, w13 =>
    (gd (inb 4 109) (if (w13 6 (4 : Int32).toNatClampNeg) ≤ u12 then (k u12 w13) else ((f_X8_carOf w13 u12).bind (fun r14 => (if r14 = ((-1000000) : Int32) then (gd (inb (w13 0 30) 7) (nm (α := Mem) (up w13 30 (w13 0 30).toNatClampNeg u12) (fun w15 => (nm (α := Mem) (up w15 0 30 ((w15 0 30) + 1)) (fun w16 => (f_X8_layRiders_L7 k t (u12 + 1) w16)))))) else (if (((w13 0 27) >>> (r14 &&& 31)) &&& 1) = 0 then (gd (inb (w13 0 30) 7) (nm (α := Mem) (up w13 30 (w13 0 30).toNatClampNeg u12) (fun w17 => (nm (α := Mem) (up w17 0 30 ((w17 0 30) + 1)) (fun w18 => (f_X8_layRiders_L7 k t (u12 + 1) w18)))))) else (f_X8_layRiders_L7 k t (u12 + 1) w13)))))))
def f_X8_layRiders (m0 : Mem) : Option (Mem) :=
  (nm (α := Mem) (up m0 0 30 0) (fun w11 => (f_X8_layRiders_L7 (fun (u19 : Int32) (w20 : Mem) => (some w20))  100000 0 w11)))
def f_X8_bits_L4 (k : Int32 → Int32 → Option (Int32)) (x0 : Int32) : Nat → Int32 → Int32 → Option (Int32)
  | 0, _, _ => none
  | t + 1, u11, u12 =>
    (if (7 : Int32) ≤ u12 then (k u11 u12) else (nm (α := Int32) (u11 + ((x0 >>> (u12 &&& 31)) &&& 1)) (fun x13 => (f_X8_bits_L4 k x0 t x13 (u12 + 1)))))
def f_X8_bits (x0 : Int32) : Option (Int32) :=
  (f_X8_bits_L4 (fun (u14 : Int32) (u15 : Int32) => (some u14)) x0 100000 0 0)
def f_X8_fits_L34 (k : Int32 → Int32 → Option (Int32)) (x1 : Int32) (m0 : Mem) (x12 : Int32) : Nat → Int32 → Int32 → Option (Int32)
  | 0, _, _ => none
  | t + 1, u17, u18 =>
    (gd (inb 4 109) (if (m0 6 (4 : Int32).toNatClampNeg) ≤ u18 then (k u17 u18) else (if u17 = 0 then (k u17 u18) else (if ((x12 >>> (u18 &&& 31)) &&& 1) = (1 : Int32) then ((f_X8_car0 m0 x1 (0 : Int32)).bind (fun r19 => (jn (α := Int32) (fun j23 => (if u18 = r19 then (j23 0) else ((f_X8_isOnHill m0 u18).bind (fun r20 => (if r20 = 0 then (j23 0) else ((f_X8_car0 m0 x1 (2 : Int32)).bind (fun r21 => (if r21 = 0 then (j23 1) else (j23 0))))))))) (fun a22 => ((f_X8_of m0 u18 (3 : Int32)).bind (fun r24 => (if (r24 &&& x12) = 0 then (if a22 = 0 then ((f_X8_of m0 u18 (1 : Int32)).bind (fun r25 => ((f_X8_farOf m0 (0 : Int32) r25).bind (fun r26 => (if (10000 : Int32) ≤ r26 then (f_X8_fits_L34 k x1 m0 x12 t 0 (u18 + 1)) else (f_X8_fits_L34 k x1 m0 x12 t 1 (u18 + 1))))))) else (f_X8_fits_L34 k x1 m0 x12 t 0 (u18 + 1))) else (f_X8_fits_L34 k x1 m0 x12 t 0 (u18 + 1))))))))) else (f_X8_fits_L34 k x1 m0 x12 t u17 (u18 + 1))))))
def f_X8_fits (m0 : Mem) (x1 : Int32) (x2 : Int32) : Option (Int32) :=
  ((f_X8_car0 m0 x1 (0 : Int32)).bind (fun r11 => (nm (α := Int32) (x2 ||| (1 <<< (r11 &&& 31))) (fun x12 => ((f_X8_bits x2).bind (fun r13 => ((f_X8_car0 m0 x1 (1 : Int32)).bind (fun r14 => (nm (α := Int32) (if r14 < r13 then 0 else 1) (fun a15 => (f_X8_fits_L34 (fun (u27 : Int32) (u28 : Int32) => (gd (decide (u27 = 0 ∨ u27 = 1)) (some u27))) x1 m0 x12 100000 a15 0)))))))))))
def f_X8_layTried_L10 (k : Int32 → Int32 → Int32 → Mem → Option (Int32 × Mem)) (x2 : Int32) : Nat → Int32 → Int32 → Int32 → Mem → Option (Int32 × Mem)
  | 0, _, _, _, _ => none
  | t + 1, u12, u13, u14, w15 =>
    (if u14 < 0 then (k u12 u13 u14 w15) else (gd (decide (¬ x2 = 0)) (nm (α := Int32) (u13 ||| (1 <<< ((u12 - u12 / x2 * x2) &&& 31))) (fun x16 => (gd (decide (¬ x2 = 0)) (gd (inb (u12 - u12 / x2 * x2) 4) (gd (inb u14 4) (nm (α := Mem) (up w15 24 u14.toNatClampNeg (w15 23 (u12 - u12 / x2 * x2).toNatClampNeg)) (fun w17 => (gd (decide (¬ x2 = 0)) (nm (α := Int32) (u12 / x2) (fun x18 => (f_X8_layTried_L10 k x2 t x18 x16 (u14 + (-1)) w17)))))))))))))
def f_X8_layTried (m0 : Mem) (x1 : Int32) (x2 : Int32) : Option (Int32 × Mem) :=
  (nm (α := Int32) (x2 - 1) (fun x11 => (f_X8_layTried_L10 (fun (u19 : Int32) (u20 : Int32) (u21 : Int32) (w22 : Mem) => (if u20 = ((1 <<< (x2 &&& 31)) - 1) then (some (1, w22)) else (some (0, w22)))) x2 100000 x1 0 x11 m0)))
def f_X8_minutesBy_L8 (k : Int32 → Int32 → Int32 → Option (Int32)) (x2 : Int32) (m0 : Mem) : Nat → Int32 → Int32 → Int32 → Option (Int32)
  | 0, _, _, _ => none
  | t + 1, u11, u12, u13 =>
    (if x2 ≤ u13 then (k u11 u12 u13) else (if u13 ≤ 0 then (gd (inb u13 4) ((f_X8_of m0 (m0 24 u13.toNatClampNeg) (1 : Int32)).bind (fun r14 => ((f_X8_farOf m0 u11 r14).bind (fun r15 => (nm (α := Int32) (u12 + r15) (fun x16 => (gd (inb u13 4) ((f_X8_of m0 (m0 24 u13.toNatClampNeg) (1 : Int32)).bind (fun r17 => (f_X8_minutesBy_L8 k x2 m0 t r17 x16 (u13 + 1)))))))))))) else (gd (inb u13 4) ((f_X8_of m0 (m0 24 u13.toNatClampNeg) (0 : Int32)).bind (fun r18 => (if r18 < (4 : Int32) then (gd (inb u13 4) ((f_X8_of m0 (m0 24 u13.toNatClampNeg) (1 : Int32)).bind (fun r19 => ((f_X8_farOf m0 u11 r19).bind (fun r20 => (nm (α := Int32) (u12 + r20) (fun x21 => (gd (inb u13 4) ((f_X8_of m0 (m0 24 u13.toNatClampNeg) (1 : Int32)).bind (fun r22 => (f_X8_minutesBy_L8 k x2 m0 t r22 x21 (u13 + 1)))))))))))) else (gd (inb (u13 - 1) 4) ((f_X8_of m0 (m0 24 (u13 - 1).toNatClampNeg) (0 : Int32)).bind (fun r23 => (if (4 : Int32) ≤ r23 then (gd (inb u13 4) ((f_X8_of m0 (m0 24 u13.toNatClampNeg) (1 : Int32)).bind (fun r24 => ((f_X8_farOf m0 u11 r24).bind (fun r25 => (nm (α := Int32) (u12 + r25) (fun x26 => (gd (inb u13 4) ((f_X8_of m0 (m0 24 u13.toNatClampNeg) (1 : Int32)).bind (fun r27 => (f_X8_minutesBy_L8 k x2 m0 t r27 x26 (u13 + 1)))))))))))) else (some 10000)))))))))))
def f_X8_minutesBy (m0 : Mem) (x1 : Int32) (x2 : Int32) : Option (Int32) :=
  (f_X8_minutesBy_L8 (fun (u28 : Int32) (u29 : Int32) (u30 : Int32) => ((f_X8_car0 m0 x1 (0 : Int32)).bind (fun r31 => ((f_X8_of m0 r31 (1 : Int32)).bind (fun r32 => ((f_X8_farOf m0 u28 r32).bind (fun r33 => (some (u29 + r33))))))))) x2 m0 100000 0 0 0)
def f_X8_leastOf_L5 (k : Int32 → Int32 → Mem → Option (Int32 × Mem)) (x2 : Int32) : Nat → Int32 → Int32 → Mem → Option (Int32 × Mem)
  | 0, _, _, _ => none
  | t + 1, u11, u12, w13 =>
    (if (7 : Int32) ≤ u12 then (k u11 u12 w13) else (if ((x2 >>> (u12 &&& 31)) &&& 1) = (1 : Int32) then (gd (inb u11 4) (nm (α := Mem) (up w13 23 u11.toNatClampNeg u12) (fun w14 => (f_X8_leastOf_L5 k x2 t (u11 + 1) (u12 + 1) w14)))) else (f_X8_leastOf_L5 k x2 t u11 (u12 + 1) w13)))
def f_X8_leastOf_L125 (k : Int32 → Mem → Option (Int32 × Mem)) (u15 : Int32) : Nat → Int32 → Mem → Option (Int32 × Mem)
  | 0, _, _ => none
  | t + 1, u27, w28 =>
    (if u15 ≤ u27 then (k u27 w28) else (gd (inb u27 4) (gd (inb u27 4) (nm (α := Mem) (up w28 25 u27.toNatClampNeg (w28 24 u27.toNatClampNeg)) (fun w29 => (f_X8_leastOf_L125 k u15 t (u27 + 1) w29))))))
def f_X8_leastOf_L80 (k : Int32 → Int32 → Mem → Option (Int32 × Mem)) (x1 : Int32) (a18 : Int32) (u15 : Int32) : Nat → Int32 → Int32 → Mem → Option (Int32 × Mem)
  | 0, _, _, _ => none
  | t + 1, u20, u21, w22 =>
    (if a18 ≤ u21 then (k u20 u21 w22) else ((f_X8_layTried w22 u21 u15).bind (fun r23 => (jn (α := Int32) (fun j26 => (if r23.1 = 0 then (j26 10000) else ((f_X8_minutesBy r23.2 x1 u15).bind (fun r24 => (j26 r24))))) (fun a25 => (if u20 ≤ a25 then (f_X8_leastOf_L80 k x1 a18 u15 t u20 (u21 + 1) r23.2) else (f_X8_leastOf_L125 (fun (u30 : Int32) (w31 : Mem) => (f_X8_leastOf_L80 k x1 a18 u15 t a25 (u21 + 1) w31)) u15 100000 0 r23.2)))))))
def f_X8_leastOf (m0 : Mem) (x1 : Int32) (x2 : Int32) : Option (Int32 × Mem) :=
  (f_X8_leastOf_L5 (fun (u15 : Int32) (u16 : Int32) (w17 : Mem) => (nm (α := Int32) (if u15 = (4 : Int32) then 256 else (if u15 = (3 : Int32) then 27 else (if u15 = (2 : Int32) then 4 else 1))) (fun a18 => (f_X8_leastOf_L80 (fun (u32 : Int32) (u33 : Int32) (w34 : Mem) => (some (u32, w34))) x1 a18 u15 100000 10000 0 w17)))) x2 100000 0 0 m0)
def f_X8_layTakes_L9 (k : Int32 → Mem → Option (Mem)) (u11 : Int32) : Nat → Int32 → Mem → Option (Mem)
  | 0, _, _ => none
  | t + 1, u13, w14 =>
    (if (128 : Int32) ≤ u13 then (k u13 w14) else (jn (α := Int32) (fun j17 => (if (((w14 0 27) >>> (u11 &&& 31)) &&& 1) = (1 : Int32) then (gd (inb 4 109) (if (1 <<< ((w14 6 (4 : Int32).toNatClampNeg) &&& 31)) ≤ u13 then (j17 0) else ((f_X8_fits w14 u11 u13).bind (fun r15 => (if r15 = 0 then (j17 0) else (j17 1)))))) else (j17 0))) (fun a16 => (if a16 = 0 then (gd (inb ((128 * u11) + u13) 384) (nm (α := Mem) (up w14 22 ((128 * u11) + u13).toNatClampNeg (-1000000)) (fun w18 => (f_X8_layTakes_L9 k u11 t (u13 + 1) w18)))) else ((f_X8_leastOf w14 u11 u13).bind (fun r19 => (gd (inb ((128 * u11) + u13) 384) (nm (α := Mem) (up r19.2 22 ((128 * u11) + u13).toNatClampNeg r19.1) (fun w20 => (f_X8_layTakes_L9 k u11 t (u13 + 1) w20))))))))))
def f_X8_layTakes_L2 (k : Int32 → Mem → Option (Mem)) : Nat → Int32 → Mem → Option (Mem)
  | 0, _, _ => none
  | t + 1, u11, w12 =>
    (if (3 : Int32) ≤ u11 then (k u11 w12) else (f_X8_layTakes_L9 (fun (u21 : Int32) (w22 : Mem) => (f_X8_layTakes_L2 k t (u11 + 1) w22)) u11 100000 0 w12))
def f_X8_layTakes (m0 : Mem) : Option (Mem) :=
  (f_X8_layTakes_L2 (fun (u23 : Int32) (w24 : Mem) => (some w24))  100000 0 m0)
def f_X8_layRow_L4 (k : Int32 → Mem → Option (Mem)) : Nat → Int32 → Mem → Option (Mem)
  | 0, _, _ => none
  | t + 1, u11, w12 =>
    (if (4 : Int32) ≤ u11 then (k u11 w12) else (gd (inb u11 4) (nm (α := Mem) (up w12 32 u11.toNatClampNeg 0) (fun w13 => (f_X8_layRow_L4 k t (u11 + 1) w13)))))
def f_X8_layRow_L29 (k : Int32 → Int32 → Mem → Option (Mem)) : Nat → Int32 → Int32 → Mem → Option (Mem)
  | 0, _, _, _ => none
  | t + 1, u17, u18, w19 =>
    (if u18 < 0 then (k u17 u18 w19) else (gd (inb (u17 &&& 3) 4) (gd (inb u18 7) (gd (inb (u17 &&& 3) 4) (nm (α := Mem) (up w19 32 (u17 &&& 3).toNatClampNeg ((w19 32 (u17 &&& 3).toNatClampNeg) ||| (1 <<< ((w19 30 u18.toNatClampNeg) &&& 31)))) (fun w20 => (nm (α := Int32) (u17 >>> (2 &&& 31)) (fun x21 => (f_X8_layRow_L29 k t x21 (u18 + (-1)) w20)))))))))
def f_X8_layRow (m0 : Mem) (x1 : Int32) : Option (Mem) :=
  (f_X8_layRow_L4 (fun (u14 : Int32) (w15 : Mem) => (nm (α := Int32) ((w15 0 30) - 1) (fun x16 => (f_X8_layRow_L29 (fun (u22 : Int32) (u23 : Int32) (w24 : Mem) => (some w24))  100000 x1 x16 w15))))  100000 0 m0)
def f_X8_sumOf_L4 (k : Int32 → Int32 → Option (Int32)) (m0 : Mem) : Nat → Int32 → Int32 → Option (Int32)
  | 0, _, _ => none
  | t + 1, u11, u12 =>
    (if (3 : Int32) ≤ u12 then (k u11 u12) else (if u11 = ((-1000000) : Int32) then (k u11 u12) else (nm (α := Int32) (if (((m0 0 27) >>> (u12 &&& 31)) &&& 1) = (1 : Int32) then 1 else 0) (fun a13 => (gd (inb u12 4) (gd (inb ((128 * u12) + (m0 32 u12.toNatClampNeg)) 384) (nm (α := Int32) (m0 22 ((128 * u12) + (m0 32 u12.toNatClampNeg)).toNatClampNeg) (fun x15 => (if a13 = 0 then (gd (inb u12 4) (if (m0 32 u12.toNatClampNeg) = 0 then (f_X8_sumOf_L4 k m0 t u11 (u12 + 1)) else (f_X8_sumOf_L4 k m0 t (-1000000) (u12 + 1)))) else (if x15 = ((-1000000) : Int32) then (f_X8_sumOf_L4 k m0 t (-1000000) (u12 + 1)) else (nm (α := Int32) (u11 + x15) (fun x16 => (f_X8_sumOf_L4 k m0 t x16 (u12 + 1))))))))))))))
def f_X8_sumOf (m0 : Mem) : Option (Int32) :=
  (f_X8_sumOf_L4 (fun (u17 : Int32) (u18 : Int32) => (some u17)) m0 100000 0 0)
def f_X8_layHome_L111 (k : Int32 → Mem → Option (Mem)) : Nat → Int32 → Mem → Option (Mem)
  | 0, _, _ => none
  | t + 1, u24, w25 =>
    (if (3 : Int32) ≤ u24 then (k u24 w25) else (gd (inb u24 4) (gd (inb u24 3) (nm (α := Mem) (up w25 26 u24.toNatClampNeg (w25 32 u24.toNatClampNeg)) (fun w26 => (f_X8_layHome_L111 k t (u24 + 1) w26))))))
def f_X8_layHome_L27 (k : Int32 → Int32 → Mem → Option (Mem)) : Nat → Int32 → Int32 → Mem → Option (Mem)
  | 0, _, _, _ => none
  | t + 1, u16, u17, w18 =>
    (if (1 <<< ((2 * (w18 0 30)) &&& 31)) ≤ u17 then (k u16 u17 w18) else ((f_X8_layRow w18 u17).bind (fun r19 => ((f_X8_sumOf r19).bind (fun r20 => (gd (inb 3 4) ((f_X8_bits (r19 32 (3 : Int32).toNatClampNeg)).bind (fun r21 => (if r20 = ((-1000000) : Int32) then (f_X8_layHome_L27 k t u16 (u17 + 1) r19) else (if r21 < u16 then (nm (α := Mem) (up r19 0 28 r20) (fun w22 => (gd (inb 3 4) (nm (α := Mem) (up w22 0 26 (w22 32 (3 : Int32).toNatClampNeg)) (fun w23 => (f_X8_layHome_L111 (fun (u27 : Int32) (w28 : Mem) => (f_X8_layHome_L27 k t r21 (u17 + 1) w28))  100000 0 w23)))))) else (if r21 = u16 then (if (r19 0 28) ≤ r20 then (f_X8_layHome_L27 k t u16 (u17 + 1) r19) else (nm (α := Mem) (up r19 0 28 r20) (fun w29 => (gd (inb 3 4) (nm (α := Mem) (up w29 0 26 (w29 32 (3 : Int32).toNatClampNeg)) (fun w30 => (f_X8_layHome_L111 (fun (u34 : Int32) (w35 : Mem) => (f_X8_layHome_L27 k t r21 (u17 + 1) w35))  100000 0 w30))))))) else (f_X8_layHome_L27 k t u16 (u17 + 1) r19))))))))))))
def f_X8_layHome (m0 : Mem) (x1 : Int32) : Option (Mem) :=
  ((f_X8_goingAt m0 x1).bind (fun r11 => (nm (α := Mem) (up m0 0 27 r11) (fun w12 => ((f_X8_layRiders w12).bind (fun r13 => ((f_X8_layTakes r13).bind (fun r14 => (nm (α := Mem) (up r14 0 28 0) (fun w15 => (f_X8_layHome_L27 (fun (u36 : Int32) (u37 : Int32) (w38 : Mem) => (some w38))  100000 99 0 w15)))))))))))
def f_X8_home (m0 : Mem) (x1 : Int32) (x2 : Int32) : Option (Int32 × Mem) :=
  (nm (α := Mem) (up m0 0 0 0) (fun w11 => (if (w11 0 7) = 0 then (some ((-1000002), w11)) else ((f_X8_isMinute x1).bind (fun r12 => (if r12 = 0 then (some ((-1000001), w11)) else (gd (inb 5 109) ((f_X8_in x2.toInt64 (0 : Int64) ((2 + (w11 6 (5 : Int32).toNatClampNeg)).toInt64)).bind (fun r13 => (if r13 = 0 then (some ((-1000001), w11)) else ((f_X8_layHome w11 x1).bind (fun r14 => (if x2 = 0 then ((f_X8_bits (r14 0 26)).bind (fun r15 => (some (r15, r14)))) else (if x2 = (1 : Int32) then (some (r14 0 28, r14)) else (if x2 = (2 : Int32) then (some (r14 0 26, r14)) else (gd (inb (x2 - 3) 3) (some (r14 26 (x2 - 3).toNatClampNeg, r14))))))))))))))))))
def f_X8_order (m0 : Mem) (x1 : Int32) (x2 : Int32) (x3 : Int32) : Option (Int32 × Mem) :=
  (nm (α := Mem) (up m0 0 0 0) (fun w11 => ((f_X8_isMinute x1).bind (fun r12 => (if r12 = 0 then (some ((-1000001), w11)) else ((f_X8_isCar w11 x2).bind (fun r13 => (if r13 = 0 then (some ((-1000001), w11)) else (if ((-1) : Int32) ≤ x3 then ((f_X8_layHome w11 x1).bind (fun r14 => (if (((r14 0 27) >>> (x2 &&& 31)) &&& 1) = 0 then (some ((-1000000), r14)) else (gd (inb x2 3) ((f_X8_leastOf r14 x2 (r14 26 x2.toNatClampNeg)).bind (fun r15 => (nm (α := Int32) (r15.1) (fun x16 => (if 0 ≤ x3 then (gd (inb x2 3) ((f_X8_bits (r15.2 26 x2.toNatClampNeg)).bind (fun r17 => (if r17 ≤ x3 then (some ((-1000000), r15.2)) else (gd (inb x3 4) (some (r15.2 25 x3.toNatClampNeg, r15.2))))))) else (some (x16, r15.2))))))))))) else (some ((-1000001), w11)))))))))))
def f_X8_detour_L30 (k : Int32 → Mem → Option (Int32 × Mem)) (x2 : Int32) : Nat → Int32 → Mem → Option (Int32 × Mem)
  | 0, _, _ => none
  | t + 1, u15, w16 =>
    (gd (inb 5 109) (if (w16 6 (5 : Int32).toNatClampNeg) ≤ u15 then (k u15 w16) else (gd (inb u15 3) (if (((w16 26 u15.toNatClampNeg) >>> (x2 &&& 31)) &&& 1) = (1 : Int32) then (gd (inb u15 3) (gd (inb ((128 * u15) + (w16 26 u15.toNatClampNeg)) 384) (gd (inb u15 3) ((f_X8_leastOf w16 u15 ((w16 26 u15.toNatClampNeg) &&& ((1 <<< (x2 &&& 31)) ^^^ (-1)))).bind (fun r17 => (some ((w16 22 ((128 * u15) + (w16 26 u15.toNatClampNeg)).toNatClampNeg) - r17.1, r17.2))))))) else (f_X8_detour_L30 k x2 t (u15 + 1) w16)))))
def f_X8_detour (m0 : Mem) (x1 : Int32) (x2 : Int32) : Option (Int32 × Mem) :=
  (nm (α := Mem) (up m0 0 0 0) (fun w11 => ((f_X8_isMinute x1).bind (fun r12 => (if r12 = 0 then (some ((-1000001), w11)) else ((f_X8_isPerson w11 x2).bind (fun r13 => (if r13 = 0 then (some ((-1000001), w11)) else ((f_X8_layHome w11 x1).bind (fun r14 => (f_X8_detour_L30 (fun (u18 : Int32) (w19 : Mem) => (some ((-1000000), w19))) x2 100000 0 r14)))))))))))
def f_X8_fetch_L49 (k : Int32 → Int32 → Option (Int32 × Mem)) (r13 : Int32) (w11 : Mem) : Nat → Int32 → Int32 → Option (Int32 × Mem)
  | 0, _, _ => none
  | t + 1, u16, u17 =>
    (gd (inb 5 109) (if (w11 6 (5 : Int32).toNatClampNeg) ≤ u17 then (k u16 u17) else (if ((r13 >>> (u17 &&& 31)) &&& 1) = (1 : Int32) then ((f_X8_car0 w11 u17 (1 : Int32)).bind (fun r18 => (if r18 ≤ u16 then (f_X8_fetch_L49 k r13 w11 t u16 (u17 + 1)) else ((f_X8_car0 w11 u17 (1 : Int32)).bind (fun r19 => (f_X8_fetch_L49 k r13 w11 t r19 (u17 + 1))))))) else (f_X8_fetch_L49 k r13 w11 t u16 (u17 + 1)))))
def f_X8_fetch_L108 (k : Int32 → Int32 → Option (Int32 × Mem)) (w11 : Mem) : Nat → Int32 → Int32 → Option (Int32 × Mem)
  | 0, _, _ => none
  | t + 1, u22, u23 =>
    (gd (inb 4 109) (if (w11 6 (4 : Int32).toNatClampNeg) ≤ u23 then (k u22 u23) else ((f_X8_of w11 u23 (0 : Int32)).bind (fun r24 => (if r24 = (5 : Int32) then (nm (α := Int32) (u22 + 0) (fun x26 => (f_X8_fetch_L108 k w11 t x26 (u23 + 1)))) else (nm (α := Int32) (u22 + 1) (fun x25 => (f_X8_fetch_L108 k w11 t x25 (u23 + 1)))))))))
def f_X8_fetch (m0 : Mem) (x1 : Int32) : Option (Int32 × Mem) :=
  (nm (α := Mem) (up m0 0 0 0) (fun w11 => (if (w11 0 7) = 0 then (some ((-1000002), w11)) else ((f_X8_isMinute x1).bind (fun r12 => (if r12 = 0 then (some ((-1000001), w11)) else ((f_X8_goingAt w11 x1).bind (fun r13 => (gd (inb 5 109) ((f_X8_bits r13).bind (fun r14 => (nm (α := Int32) ((w11 6 (5 : Int32).toNatClampNeg) - r14) (fun x15 => (f_X8_fetch_L49 (fun (u20 : Int32) (u21 : Int32) => (f_X8_fetch_L108 (fun (u27 : Int32) (u28 : Int32) => (nm (α := Int32) (if u27 ≤ u20 then u27 else u20) (fun a29 => (if x15 = 0 then (some (0, w11)) else (if (1 : Int32) ≤ a29 then (gd (decide (¬ a29 = 0)) (some (((x15 + a29) - 1) / a29, w11))) else (some ((-1000000), w11))))))) w11 100000 (-1) 0)) r13 w11 100000 0 0))))))))))))))
def f_X8_allFar_L4 (k : Int32 → Int32 → Option (Int32)) (x1 : Int32) (m0 : Mem) : Nat → Int32 → Int32 → Option (Int32)
  | 0, _, _ => none
  | t + 1, u11, u12 =>
    (gd (inb 4 109) (if (m0 6 (4 : Int32).toNatClampNeg) ≤ u12 then (k u11 u12) else ((f_X8_of m0 u12 (1 : Int32)).bind (fun r13 => ((f_X8_farOf m0 x1 r13).bind (fun r14 => (nm (α := Int32) (u11 + r14) (fun x15 => (f_X8_allFar_L4 k x1 m0 t x15 (u12 + 1))))))))))
def f_X8_allFar (m0 : Mem) (x1 : Int32) : Option (Int32) :=
  (f_X8_allFar_L4 (fun (u16 : Int32) (u17 : Int32) => (some u16)) x1 m0 100000 0 0)
def f_X8_house_L38 (k : Int32 → Int32 → Int32 → Option (Int32 × Mem)) (w11 : Mem) : Nat → Int32 → Int32 → Int32 → Option (Int32 × Mem)
  | 0, _, _, _ => none
  | t + 1, u13, u14, u15 =>
    (gd (inb 4 109) (if (w11 6 (4 : Int32).toNatClampNeg) ≤ u15 then (k u13 u14 u15) else ((f_X8_of w11 u15 (1 : Int32)).bind (fun r16 => ((f_X8_allFar w11 r16).bind (fun r17 => (if u14 ≤ r17 then (if u14 ≤ r17 then (f_X8_house_L38 k w11 t u13 u14 (u15 + 1)) else (f_X8_house_L38 k w11 t u13 r17 (u15 + 1))) else (if u14 ≤ r17 then (f_X8_house_L38 k w11 t u15 u14 (u15 + 1)) else (f_X8_house_L38 k w11 t u15 r17 (u15 + 1))))))))))
def f_X8_house (m0 : Mem) (x1 : Int32) : Option (Int32 × Mem) :=
  (nm (α := Mem) (up m0 0 0 0) (fun w11 => (if (w11 0 7) = 0 then (some ((-1000002), w11)) else ((f_X8_in x1.toInt64 (0 : Int64) (1 : Int64)).bind (fun r12 => (if r12 = 0 then (some ((-1000001), w11)) else (f_X8_house_L38 (fun (u18 : Int32) (u19 : Int32) (u20 : Int32) => (if u18 = ((-1000000) : Int32) then (some (u18, w11)) else (if x1 = 0 then (some (u18, w11)) else (some (u19, w11))))) w11 100000 (-1000000) 10000 0)))))))
def f_X8_lack (m0 : Mem) (x1 : Int32) (x2 : Int32) : Option (Int32) :=
  (gd (inb x1 8) (if 0 ≤ (m0 3 x1.toNatClampNeg) then (gd (inb x1 8) (if x2 ≤ (m0 4 x1.toNatClampNeg) then (some 0) else (some 2))) else (some 1)))
def f_X8_noTimes_L2 (k : Int32 → Mem → Option (Mem)) : Nat → Int32 → Mem → Option (Mem)
  | 0, _, _ => none
  | t + 1, u11, w12 =>
    (if (7 : Int32) ≤ u11 then (k u11 w12) else (gd (inb u11 7) (nm (α := Mem) (up w12 33 u11.toNatClampNeg 0) (fun w13 => (f_X8_noTimes_L2 k t (u11 + 1) w13)))))
def f_X8_noTimes (m0 : Mem) : Option (Mem) :=
  (f_X8_noTimes_L2 (fun (u14 : Int32) (w15 : Mem) => (some w15))  100000 0 m0)
def f_X8_turn_L78 (k : Int32 → Mem → Option (Int32 × Mem)) (x1 : Int32) (x2 : Int32) : Nat → Int32 → Mem → Option (Int32 × Mem)
  | 0, _, _ => none
  | t + 1, u17, w18 =>
    (if x2 ≤ u17 then (k u17 w18) else (gd (inb ((40 * x1) + u17) 320) (nm (α := Int32) (w18 5 ((40 * x1) + u17).toNatClampNeg) (fun x19 => ((f_X8_isPerson w18 x19).bind (fun r20 => (if r20 = 0 then (some ((-1000001), w18)) else (gd (inb x19 7) (gd (inb x19 7) (nm (α := Mem) (up w18 33 x19.toNatClampNeg ((w18 33 x19.toNatClampNeg) + 1)) (fun w21 => (f_X8_turn_L78 k x1 x2 t (u17 + 1) w21))))))))))))
def f_X8_turn_L141 (k : Int32 → Int32 → Int32 → Option (Int32 × Mem)) (w24 : Mem) : Nat → Int32 → Int32 → Int32 → Option (Int32 × Mem)
  | 0, _, _, _ => none
  | t + 1, u25, u26, u27 =>
    (gd (inb 4 109) (if (w24 6 (4 : Int32).toNatClampNeg) ≤ u27 then (k u25 u26 u27) else (gd (inb u27 7) (gd (inb u25 7) (nm (α := Int32) (if (w24 33 u25.toNatClampNeg) ≤ (w24 33 u27.toNatClampNeg) then u25 else u27) (fun a28 => (gd (inb u27 7) (gd (inb u26 7) (if (w24 33 u27.toNatClampNeg) ≤ (w24 33 u26.toNatClampNeg) then (f_X8_turn_L141 k w24 t a28 u26 (u27 + 1)) else (f_X8_turn_L141 k w24 t a28 u27 (u27 + 1)))))))))))
def f_X8_turn (m0 : Mem) (x1 : Int32) (x2 : Int32) (x3 : Int32) : Option (Int32 × Mem) :=
  (nm (α := Mem) (up m0 0 0 0) (fun w11 => (gd (inb 4 109) (if (w11 6 (4 : Int32).toNatClampNeg) = 0 then (some ((-1000002), w11)) else ((f_X8_isRow x1).bind (fun r12 => (if r12 = 0 then (some ((-1000001), w11)) else ((f_X8_in x2.toInt64 (0 : Int64) (40 : Int64)).bind (fun r13 => (if r13 = 0 then (some ((-1000001), w11)) else ((f_X8_in x3.toInt64 (0 : Int64) (2 : Int64)).bind (fun r14 => (if r14 = 0 then (some ((-1000001), w11)) else ((f_X8_lack w11 x1 x2).bind (fun r15 => (if r15 ≤ 0 then ((f_X8_noTimes w11).bind (fun r16 => (f_X8_turn_L78 (fun (u22 : Int32) (w23 : Mem) => (nm (α := Mem) (up w23 0 1 0) (fun w24 => (f_X8_turn_L141 (fun (u30 : Int32) (u31 : Int32) (u32 : Int32) => (if x3 = 0 then (some (u30, w24)) else (if x3 = (1 : Int32) then (gd (inb u30 7) (some (w24 33 u30.toNatClampNeg, w24))) else (gd (inb u31 7) (gd (inb 4 109) (some (((w24 33 u31.toNatClampNeg) * (w24 6 (4 : Int32).toNatClampNeg)) - x2, w24))))))) w24 100000 0 0 1)))) x1 x2 100000 0 r16))) else ((f_X8_finding w11 r15).bind (fun r33 => (some (r33.1, r33.2))))))))))))))))))))
def f_X8_gloves_L138 (k : Int32 → Mem → Option (Int32 × Mem)) (x21 : Int32) : Nat → Int32 → Mem → Option (Int32 × Mem)
  | 0, _, _ => none
  | t + 1, u24, w25 =>
    (if (7 : Int32) ≤ u24 then (k u24 w25) else (gd (inb u24 7) (gd (inb u24 7) (nm (α := Mem) (up w25 33 u24.toNatClampNeg ((w25 33 u24.toNatClampNeg) + ((x21 >>> (u24 &&& 31)) &&& 1))) (fun w26 => (f_X8_gloves_L138 k x21 t (u24 + 1) w26))))))
def f_X8_gloves_L92 (k : Int32 → Int32 → Mem → Option (Int32 × Mem)) (x1 : Int32) (x2 : Int32) (x17 : Int32) : Nat → Int32 → Int32 → Mem → Option (Int32 × Mem)
  | 0, _, _, _ => none
  | t + 1, u18, u19, w20 =>
    (if x2 ≤ u19 then (k u18 u19 w20) else (gd (inb ((40 * x1) + u19) 320) (nm (α := Int32) (w20 5 ((40 * x1) + u19).toNatClampNeg) (fun x21 => ((f_X8_in x21.toInt64 (0 : Int64) x17.toInt64).bind (fun r22 => (if r22 = 0 then (some ((-1000001), w20)) else (nm (α := Int32) (u18 &&& x21) (fun x23 => (f_X8_gloves_L138 (fun (u27 : Int32) (w28 : Mem) => (f_X8_gloves_L92 k x1 x2 x17 t x23 (u19 + 1) w28)) x21 100000 0 w20))))))))))
def f_X8_gloves_L185 (k : Int32 → Int32 → Option (Int32 × Mem)) (w32 : Mem) : Nat → Int32 → Int32 → Option (Int32 × Mem)
  | 0, _, _ => none
  | t + 1, u33, u34 =>
    (gd (inb 4 109) (if (w32 6 (4 : Int32).toNatClampNeg) ≤ u34 then (k u33 u34) else (gd (inb u34 7) (gd (inb u33 7) (if (w32 33 u34.toNatClampNeg) ≤ (w32 33 u33.toNatClampNeg) then (f_X8_gloves_L185 k w32 t u33 (u34 + 1)) else (f_X8_gloves_L185 k w32 t u34 (u34 + 1)))))))
def f_X8_gloves (m0 : Mem) (x1 : Int32) (x2 : Int32) (x3 : Int32) : Option (Int32 × Mem) :=
  (nm (α := Mem) (up m0 0 0 0) (fun w11 => (gd (inb 4 109) (if (w11 6 (4 : Int32).toNatClampNeg) = 0 then (some ((-1000002), w11)) else ((f_X8_isRow x1).bind (fun r12 => (if r12 = 0 then (some ((-1000001), w11)) else ((f_X8_in x2.toInt64 (1 : Int64) (40 : Int64)).bind (fun r13 => (if r13 = 0 then (some ((-1000001), w11)) else ((f_X8_in x3.toInt64 (0 : Int64) (1 : Int64)).bind (fun r14 => (if r14 = 0 then (some ((-1000001), w11)) else ((f_X8_lack w11 x1 x2).bind (fun r15 => (if r15 ≤ 0 then ((f_X8_noTimes w11).bind (fun r16 => (gd (inb 4 109) (nm (α := Int32) ((1 <<< ((r16 6 (4 : Int32).toNatClampNeg) &&& 31)) - 1) (fun x17 => (f_X8_gloves_L92 (fun (u29 : Int32) (u30 : Int32) (w31 : Mem) => (nm (α := Mem) (up w31 0 1 0) (fun w32 => (f_X8_gloves_L185 (fun (u35 : Int32) (u36 : Int32) => (if x3 = 0 then (some (u29, w32)) else (some (u35, w32)))) w32 100000 0 1)))) x1 x2 x17 100000 x17 0 r16)))))) else ((f_X8_finding w11 r15).bind (fun r37 => (some (r37.1, r37.2))))))))))))))))))))
def f_X8_image_L30 (k : Int32 → Mem → Option (Int32 × Mem)) (x1 : Int32) : Nat → Int32 → Mem → Option (Int32 × Mem)
  | 0, _, _ => none
  | t + 1, u13, w14 =>
    (if (109 : Int32) ≤ u13 then (k u13 w14) else (gd (inb u13 109) (gd (inb ((109 * x1) + u13) 218) (nm (α := Mem) (up w14 35 ((109 * x1) + u13).toNatClampNeg (w14 6 u13.toNatClampNeg)) (fun w15 => (f_X8_image_L30 k x1 t (u13 + 1) w15))))))
def f_X8_image (m0 : Mem) (x1 : Int32) : Option (Int32 × Mem) :=
  (nm (α := Mem) (up m0 0 0 0) (fun w11 => ((f_X8_in x1.toInt64 (0 : Int64) (1 : Int64)).bind (fun r12 => (if r12 = 0 then (some ((-1000001), w11)) else (if (w11 0 7) = 0 then (some ((-1000002), w11)) else (f_X8_image_L30 (fun (u16 : Int32) (w17 : Mem) => (gd (inb x1 2) (nm (α := Mem) (up w17 34 x1.toNatClampNeg (vp_nar .boolean 1)) (fun w18 => (some (1, w18)))))) x1 100000 0 w11)))))))
def f_X8_restore_L32 (k : Int32 → Mem → Option (Int32 × Mem)) (x1 : Int32) : Nat → Int32 → Mem → Option (Int32 × Mem)
  | 0, _, _ => none
  | t + 1, u13, w14 =>
    (if (109 : Int32) ≤ u13 then (k u13 w14) else (gd (inb ((109 * x1) + u13) 218) (gd (inb u13 109) (nm (α := Mem) (up w14 6 u13.toNatClampNeg (w14 35 ((109 * x1) + u13).toNatClampNeg)) (fun w15 => (f_X8_restore_L32 k x1 t (u13 + 1) w15))))))
def f_X8_restore (m0 : Mem) (x1 : Int32) : Option (Int32 × Mem) :=
  (nm (α := Mem) (up m0 0 0 0) (fun w11 => ((f_X8_in x1.toInt64 (0 : Int64) (1 : Int64)).bind (fun r12 => (if r12 = 0 then (some ((-1000001), w11)) else (gd (inb x1 2) (if (w11 34 x1.toNatClampNeg) = 0 then (some ((-1000002), w11)) else (f_X8_restore_L32 (fun (u16 : Int32) (w17 : Mem) => (nm (α := Mem) (up w17 0 10 0) (fun w18 => (some (1, w18))))) x1 100000 0 w11))))))))
def f_X8_kind (m0 : Mem) (x1 : Int32) : Option (Int32 × Mem) :=
  (nm (α := Mem) (up m0 0 0 0) (fun w11 => ((f_X8_isPerson w11 x1).bind (fun r12 => (if r12 = 0 then (some ((-1000001), w11)) else ((f_X8_of w11 x1 (0 : Int32)).bind (fun r13 => (some (r13, w11)))))))))
def f_X8_isOf (x0 : Int32) (x1 : Int32) : Option (Int32) :=
  (if x1 = 0 then (some 1) else (if x0 = x1 then (some 1) else (if x1 = (1 : Int32) then (if x0 < (4 : Int32) then (some 1) else (if x1 = (4 : Int32) then (if x0 = (5 : Int32) then (some 1) else (some 0)) else (some 0))) else (if x1 = (4 : Int32) then (if x0 = (5 : Int32) then (some 1) else (some 0)) else (some 0)))))
def f_X8_as (m0 : Mem) (x1 : Int32) (x2 : Int32) : Option (Int32 × Mem) :=
  (nm (α := Mem) (up m0 0 0 0) (fun w11 => ((f_X8_isPerson w11 x1).bind (fun r12 => (if r12 = 0 then (some ((-1000001), w11)) else ((f_X8_in x2.toInt64 (0 : Int64) (5 : Int64)).bind (fun r13 => (if r13 = 0 then (some ((-1000001), w11)) else (nm (α := Mem) (up w11 0 1 0) (fun w14 => ((f_X8_of w14 x1 (0 : Int32)).bind (fun r15 => ((f_X8_isOf r15 x2).bind (fun r16 => (if r16 = 0 then ((f_X8_finding w14 (3 : Int32)).bind (fun r17 => (some (r17.1, r17.2)))) else (some (x1, w14)))))))))))))))))
def f_X8_began (m0 : Mem) (x1 : Int32) : Option (Mem) :=
  (if (16 : Int32) ≤ (m0 0 36) then (some m0) else (gd (inb (m0 0 36) 16) (nm (α := Mem) (up m0 36 (m0 0 36).toNatClampNeg x1) (fun w11 => (nm (α := Mem) (up w11 0 36 ((w11 0 36) + 1)) (fun w12 => (some w12)))))))
def f_X8_plainSize (m0 : Mem) (x1 : Int32) : Option (Int32 × Mem) :=
  ((f_X8_began m0 (10 : Int32)).bind (fun r11 => ((f_X8_of r11 x1 (2 : Int32)).bind (fun r12 => (some (r12, r11))))))
def f_X8_sickSize (m0 : Mem) (x1 : Int32) : Option (Int32 × Mem) :=
  ((f_X8_of m0 x1 (0 : Int32)).bind (fun r11 => (jn (α := Mem) (fun j14 => (if r11 = (5 : Int32) then ((f_X8_began m0 (14 : Int32)).bind (fun r12 => (j14 r12))) else (j14 m0))) (fun a13 => ((f_X8_began a13 (13 : Int32)).bind (fun r15 => ((f_X8_plainSize r15 x1).bind (fun r16 => (nm (α := Int32) (r16.1 - 100) (fun x17 => ((f_X8_of r16.2 x1 (0 : Int32)).bind (fun r18 => (if r18 = (5 : Int32) then (some (2 * x17, r16.2)) else (some (x17, r16.2)))))))))))))))
def f_X8_markOf (m0 : Mem) (x1 : Int32) : Option (Int32 × Mem) :=
  ((f_X8_of m0 x1 (0 : Int32)).bind (fun r11 => (if r11 < (4 : Int32) then (jn (α := Mem) (fun j15 => (if r11 = (1 : Int32) then (j15 m0) else (if r11 = (2 : Int32) then ((f_X8_began m0 (22 : Int32)).bind (fun r13 => (j15 r13))) else ((f_X8_began m0 (24 : Int32)).bind (fun r12 => (j15 r12)))))) (fun a14 => ((f_X8_began a14 (21 : Int32)).bind (fun r16 => ((f_X8_began r16 (20 : Int32)).bind (fun r17 => ((f_X8_of r17 x1 (1 : Int32)).bind (fun r18 => (nm (α := Int32) (x1 + (10 * r18)) (fun x19 => (if r11 = (1 : Int32) then (some (x19, r17)) else (if r11 = (2 : Int32) then (some (x19 - 1000, r17)) else (some (2 * x19, r17)))))))))))))) else ((f_X8_began m0 (23 : Int32)).bind (fun r20 => ((f_X8_began r20 (20 : Int32)).bind (fun r21 => ((f_X8_sickSize r21 x1).bind (fun r22 => (some (x1 - r22.1, r22.2)))))))))))
def f_X8_sizeOf (m0 : Mem) (x1 : Int32) : Option (Int32 × Mem) :=
  ((f_X8_of m0 x1 (0 : Int32)).bind (fun r11 => (if r11 < (4 : Int32) then (jn (α := Mem) (fun j14 => (if r11 = (3 : Int32) then ((f_X8_began m0 (12 : Int32)).bind (fun r12 => (j14 r12))) else (j14 m0))) (fun a13 => ((f_X8_began a13 (11 : Int32)).bind (fun r15 => ((f_X8_plainSize r15 x1).bind (fun r16 => (nm (α := Int32) (r16.1) (fun x17 => ((f_X8_markOf r16.2 x1).bind (fun r18 => (nm (α := Int32) (x17 + r18.1) (fun x19 => (if r11 = (3 : Int32) then (some (-x19, r18.2)) else (some (x19, r18.2))))))))))))))) else ((f_X8_sickSize m0 x1).bind (fun r20 => (some (r20.1, r20.2)))))))
def f_X8_ask (m0 : Mem) (x1 : Int32) (x2 : Int32) : Option (Int32 × Mem) :=
  (nm (α := Mem) (up m0 0 0 0) (fun w11 => ((f_X8_isPerson w11 x1).bind (fun r12 => (if r12 = 0 then (some ((-1000001), w11)) else ((f_X8_in x2.toInt64 (0 : Int64) (1 : Int64)).bind (fun r13 => (if r13 = 0 then (some ((-1000001), w11)) else (nm (α := Mem) (up w11 0 36 0) (fun w14 => (if x2 = 0 then ((f_X8_sizeOf w14 x1).bind (fun r16 => (some (r16.1, r16.2)))) else ((f_X8_markOf w14 x1).bind (fun r15 => (some (r15.1, r15.2)))))))))))))))
def f_X8_trace (m0 : Mem) (x1 : Int32) : Option (Int32 × Mem) :=
  (nm (α := Mem) (up m0 0 0 0) (fun w11 => ((f_X8_in x1.toInt64 (0 : Int64) (((w11 0 36) - 1).toInt64)).bind (fun r12 => (if r12 = 0 then (some ((-1000000), w11)) else (gd (inb x1 16) (some (w11 36 x1.toNatClampNeg, w11))))))))
def f_X8_count_L54 (k : Int32 → Int32 → Option (Int32 × Mem)) (w11 : Mem) : Nat → Int32 → Int32 → Option (Int32 × Mem)
  | 0, _, _ => none
  | t + 1, u12, u13 =>
    (if (8 : Int32) ≤ u13 then (k u12 u13) else (gd (inb u13 8) (if (w11 3 u13.toNatClampNeg) < 0 then (nm (α := Int32) (u12 + 0) (fun x14 => (f_X8_count_L54 k w11 t x14 (u13 + 1)))) else (nm (α := Int32) (u12 + 1) (fun x15 => (f_X8_count_L54 k w11 t x15 (u13 + 1)))))))
def f_X8_count_L103 (k : Int32 → Int32 → Option (Int32 × Mem)) (w11 : Mem) : Nat → Int32 → Int32 → Option (Int32 × Mem)
  | 0, _, _ => none
  | t + 1, u18, u19 =>
    (gd (inb 4 109) (if (w11 6 (4 : Int32).toNatClampNeg) ≤ u19 then (k u18 u19) else ((f_X8_of w11 u19 (2 : Int32)).bind (fun r20 => (nm (α := Int32) (u18 + r20) (fun x21 => (f_X8_count_L103 k w11 t x21 (u19 + 1))))))))
def f_X8_count (m0 : Mem) (x1 : Int32) : Option (Int32 × Mem) :=
  (nm (α := Mem) (up m0 0 0 0) (fun w11 => (if x1 = 0 then (f_X8_count_L54 (fun (u16 : Int32) (u17 : Int32) => (some (u16, w11))) w11 100000 0 0) else (if x1 = 1 then (gd (inb ((4 + x1) - 1) 109) (some (w11 6 ((4 + x1) - 1).toNatClampNeg, w11))) else (if x1 = 2 then (gd (inb ((4 + x1) - 1) 109) (some (w11 6 ((4 + x1) - 1).toNatClampNeg, w11))) else (if x1 = 3 then (gd (inb ((4 + x1) - 1) 109) (some (w11 6 ((4 + x1) - 1).toNatClampNeg, w11))) else (if x1 = 4 then (some (w11 0 10, w11)) else (if x1 = 5 then (f_X8_count_L103 (fun (u22 : Int32) (u23 : Int32) => (some (u22, w11))) w11 100000 0 0) else (if x1 = 6 then (some (w11 0 12, w11)) else (some ((-1000001), w11)))))))))))
def f_X8_status (m0 : Mem) : Option (Int32 × Mem) :=
  (nm (α := Mem) (up m0 0 0 0) (fun w11 => (some (w11 0 1, w11))))
