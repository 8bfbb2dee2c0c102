def f_X7_isRow (x0 : Int32) : Option (Int32) :=
  (if x0 < 0 then (some 0) else (if (8 : Int32) ≤ x0 then (some 0) else (some 1)))
def f_X7_found (m11 : Mem) (x1 : Int32) : Option (Int32 × Mem) :=
  (nm (α := Mem) (up m11 0 9 x1) (fun w11 => (some ((-1000010) - x1, w11))))
def f_X6_make (m5 : Mem) (x1 : Int32) (x2 : Int32) (x3 : Int32) : Option (Mem) :=
  (gd (inb x1 8) (nm (α := Mem) (up m5 1 x1.toNatClampNeg x2) (fun w11 => (gd (inb x1 8) (nm (α := Mem) (up w11 2 x1.toNatClampNeg x3) (fun w12 => (gd (inb x1 8) (nm (α := Mem) (upA w12 (10 + x1.toNatClampNeg) (fillf 40 0 (w12 (10 + x1.toNatClampNeg)))) (fun w14 => (some w14))))))))))
def f_X7_fine (m11 : Mem) (x1 : Int32) : Option (Int32 × Mem) :=
  (nm (α := Mem) (up m11 0 9 0) (fun w11 => (some (x1, w11))))
def f_X7_row (m5 : Mem) (m11 : Mem) (x1 : Int32) (x2 : Int32) (x3 : Int32) : Option (Int32 × Mem × Mem) :=
  ((f_X7_isRow x1).bind (fun r11 => (if r11 = 0 then (some ((-1000001), m5, m11)) else (if x2 < 0 then (some ((-1000001), m5, m11)) else (if (2 : Int32) < x2 then (some ((-1000001), m5, m11)) else (if x3 ≤ (40 : Int32) then (if 0 ≤ x3 then ((f_X6_make m5 x1 x2 x3).bind (fun r12 => ((f_X7_fine m11 x3).bind (fun r13 => (some (r13.1, r12, r13.2)))))) else ((f_X7_found m11 (4 : Int32)).bind (fun r14 => (some (r14.1, m5, r14.2))))) else (some ((-1000001), m5, m11))))))))
def f_X6_isMissing (m5 : Mem) (x1 : Int32) : Option (Int32) :=
  (gd (inb x1 8) (if (m5 1 x1.toNatClampNeg) = ((-1) : Int32) then (some 1) else (some 0)))
def f_X6_hasStretch (m5 : Mem) (x1 : Int32) (x2 : Int32) (x3 : Int32) : Option (Int32) :=
  (if x2 < 0 then (some 0) else (if x3 < 0 then (some 0) else (gd (inb x1 8) (if (m5 2 x1.toNatClampNeg) < x2 then (some 0) else (gd (inb x1 8) (if ((m5 2 x1.toNatClampNeg) - x2) < x3 then (some 0) else (some 1)))))))
def f_X6_inLane (x0 : Int32) (x1 : Int32) : Option (Int32) :=
  (if x0 = 0 then (some x1.toInt8.toInt32) else (if x0 = (1 : Int32) then (some x1.toInt16.toInt32) else (some x1)))
def f_X6_put (m5 : Mem) (x1 : Int32) (x2 : Int32) (x3 : Int32) : Option (Int32 × Mem) :=
  (gd (inb x1 8) (gd (inb x1 8) ((f_X6_inLane (m5 1 x1.toNatClampNeg) x3).bind (fun r12 => (gd (inb x2 40) (nm (α := Mem) (up m5 (10 + x1.toNatClampNeg) x2.toNatClampNeg r12) (fun w13 => (gd (inb x1 8) (gd (inb x2 40) (some (w13 (10 + x1.toNatClampNeg) x2.toNatClampNeg, w13)))))))))))
def f_X7_set (m5 : Mem) (m11 : Mem) (x1 : Int32) (x2 : Int32) (x3 : Int32) : Option (Int32 × Mem × Mem) :=
  ((f_X7_isRow x1).bind (fun r11 => (if r11 = 0 then (some ((-1000001), m5, m11)) else ((f_X6_isMissing m5 x1).bind (fun r12 => (if r12 = 0 then ((f_X6_hasStretch m5 x1 x2 (1 : Int32)).bind (fun r13 => (if r13 = 0 then ((f_X7_found m11 (2 : Int32)).bind (fun r16 => (some (r16.1, m5, r16.2)))) else ((f_X6_put m5 x1 x2 x3).bind (fun r14 => ((f_X7_fine m11 r14.1).bind (fun r15 => (some (r15.1, r14.2, r15.2))))))))) else ((f_X7_found m11 (1 : Int32)).bind (fun r17 => (some (r17.1, m5, r17.2))))))))))
def f_X6_areOfOneLane (m5 : Mem) (x1 : Int32) (x2 : Int32) : Option (Int32) :=
  (gd (inb x1 8) (gd (inb x2 8) (if (m5 1 x1.toNatClampNeg) = (m5 1 x2.toNatClampNeg) then (some 1) else (some 0))))
def f_X6_move (m5 : Mem) (x1 : Int32) (x2 : Int32) (x3 : Int32) (x4 : Int32) (x5 : Int32) : Option (Mem) :=
  (gd (inb x1 8) (gd (inb x3 8) (gd (cpok x2 x4 x5 40 40) (nm (α := Mem) (upA m5 (10 + x3.toNatClampNeg) (va_cpy (m5 (10 + x1.toNatClampNeg)) (m5 (10 + x3.toNatClampNeg)) x2.toNatClampNeg x4.toNatClampNeg x5.toNatClampNeg)) (fun w13 => (some w13))))))
def f_X7_copy (m5 : Mem) (m11 : Mem) (x1 : Int32) (x2 : Int32) (x3 : Int32) (x4 : Int32) (x5 : Int32) : Option (Int32 × Mem × Mem) :=
  ((f_X7_isRow x1).bind (fun r11 => (if r11 = 0 then (some ((-1000001), m5, m11)) else ((f_X7_isRow x3).bind (fun r12 => (if r12 = 0 then (some ((-1000001), m5, m11)) else ((f_X6_isMissing m5 x1).bind (fun r13 => (if r13 = 0 then ((f_X6_isMissing m5 x3).bind (fun r15 => (if r15 = 0 then ((f_X6_areOfOneLane m5 x1 x3).bind (fun r16 => (if r16 = 0 then ((f_X7_found m11 (5 : Int32)).bind (fun r23 => (some (r23.1, m5, r23.2)))) else ((f_X6_hasStretch m5 x1 x2 x5).bind (fun r17 => (if r17 = 0 then ((f_X7_found m11 (2 : Int32)).bind (fun r18 => (some (r18.1, m5, r18.2)))) else ((f_X6_hasStretch m5 x3 x4 x5).bind (fun r19 => (if r19 = 0 then ((f_X7_found m11 (2 : Int32)).bind (fun r22 => (some (r22.1, m5, r22.2)))) else ((f_X6_move m5 x1 x2 x3 x4 x5).bind (fun r20 => ((f_X7_fine m11 x5).bind (fun r21 => (some (r21.1, r20, r21.2))))))))))))))) else ((f_X7_found m11 (1 : Int32)).bind (fun r24 => (some (r24.1, m5, r24.2))))))) else ((f_X7_found m11 (1 : Int32)).bind (fun r14 => (some (r14.1, m5, r14.2)))))))))))))
def f_X6_takeAway (m5 : Mem) (x1 : Int32) : Option (Int32 × Mem) :=
  (gd (inb x1 8) (nm (α := Mem) (up m5 1 x1.toNatClampNeg (-1)) (fun w11 => (gd (inb x1 8) (some (w11 2 x1.toNatClampNeg, w11))))))
def f_X7_drop (m5 : Mem) (m11 : Mem) (x1 : Int32) : Option (Int32 × Mem × Mem) :=
  ((f_X7_isRow x1).bind (fun r11 => (if r11 = 0 then (some ((-1000001), m5, m11)) else ((f_X6_isMissing m5 x1).bind (fun r12 => (if r12 = 0 then ((f_X6_takeAway m5 x1).bind (fun r13 => ((f_X7_fine m11 r13.1).bind (fun r14 => (some (r14.1, r13.2, r14.2)))))) else ((f_X7_found m11 (1 : Int32)).bind (fun r15 => (some (r15.1, m5, r15.2))))))))))
def f_X5_append_L20 (k : Int32 → Mem → Option (Int32 × Mem)) (x1 : Int64) : Nat → Int32 → Mem → Option (Int32 × Mem)
  | 0, _, _ => none
  | t + 1, u12, w13 =>
    (if u12 < 0 then (k u12 w13) else (gd (inb (w13 0 1) 500) (nm (α := Mem) (up w13 1 (w13 0 1).toNatClampNeg (vp_nar .byte (((x1 >>> ((8 * u12).toInt64 &&& 63)).toInt32).toInt8.toInt32))) (fun w14 => (nm (α := Mem) (up w14 0 1 ((w14 0 1) + 1)) (fun w15 => (f_X5_append_L20 k x1 t (u12 + (-1)) w15)))))))
def f_X5_append (m4 : Mem) (x1 : Int64) (x3 : Int32) : Option (Int32 × Mem) :=
  (if x3 ≤ (500 - (m4 0 1)) then (nm (α := Int32) (x3 - 1) (fun x11 => (f_X5_append_L20 (fun (u16 : Int32) (w17 : Mem) => (some (w17 0 1, w17))) x1 100000 x11 m4))) else (some ((-1000003), m4)))
def f_X7_feed (m4 : Mem) (x1 : Int64) (x3 : Int32) : Option (Int32 × Mem) :=
  (if x3 < (1 : Int32) then (some ((-1000001), m4)) else (if x3 ≤ (8 : Int32) then ((f_X5_append m4 x1 x3).bind (fun r11 => (some (r11.1, r11.2)))) else (some ((-1000001), m4))))
def f_X3_clear_L51 (k : Int32 → Mem → Option (Mem)) : Nat → Int32 → Mem → Option (Mem)
  | 0, _, _ => none
  | t + 1, u20, w21 =>
    (if (8 : Int32) ≤ u20 then (k u20 w21) else (gd (inb ((u20 * 8) + u20) 64) (nm (α := Mem) (up w21 11 ((u20 * 8) + u20).toNatClampNeg 0) (fun w22 => (f_X3_clear_L51 k t (u20 + 1) w22)))))
def f_X3_clear (m2 : Mem) : Option (Mem) :=
  (nm (α := Mem) (up m2 0 0 0) (fun w11 => (nm (α := Mem) (up w11 0 3 0) (fun w12 => (nm (α := Mem) (up w12 0 4 0) (fun w13 => (nm (α := Mem) (up w13 0 5 0) (fun w14 => (nm (α := Mem) (up w14 0 6 0) (fun w15 => (nm (α := Mem) (up w15 0 7 0) (fun w16 => (nm (α := Mem) (up w16 0 8 0) (fun w17 => (nm (α := Mem) (up w17 0 9 0) (fun w18 => (nm (α := Mem) (upA w18 11 (fillf 64 1000000 (w18 11))) (fun w19 => (f_X3_clear_L51 (fun (u23 : Int32) (w24 : Mem) => (nm (α := Mem) (upA w24 15 (fillf 7 0 (w24 15))) (fun w25 => (some w25))))  100000 0 w19)))))))))))))))))))
def f_X5_isGap (x0 : Int32) : Option (Int32) :=
  (if x0 = (32 : Int32) then (some 1) else (if x0 = (10 : Int32) then (some 1) else (some 0)))
def f_X5_isLetter (x0 : Int32) : Option (Int32) :=
  (if x0 < (97 : Int32) then (some 0) else (if (122 : Int32) < x0 then (some 0) else (some 1)))
def f_X5_readLetters_L5 (k : Mem → Option (Mem)) : Nat → Mem → Option (Mem)
  | 0, _ => none
  | t + 1, w12 =>
    (if (w12 0 1) ≤ (w12 0 6) then (k w12) else (gd (inb (w12 0 6) 500) ((f_X5_isLetter (w12 1 (w12 0 6).toNatClampNeg)).bind (fun r13 => (if r13 = 0 then (k w12) else (nm (α := Mem) (up w12 0 6 ((w12 0 6) + 1)) (fun w14 => (f_X5_readLetters_L5 k t w14))))))))
def f_X5_readLetters (m4 : Mem) : Option (Mem) :=
  (nm (α := Mem) (up m4 0 4 1) (fun w11 => (f_X5_readLetters_L5 (fun (w15 : Mem) => (some w15))  100000 w11)))
def f_X5_isFigure (x0 : Int32) : Option (Int32) :=
  (if x0 < (48 : Int32) then (some 0) else (if (57 : Int32) < x0 then (some 0) else (some 1)))
def f_X5_readFigures_L5 (k : Mem → Option (Mem)) : Nat → Mem → Option (Mem)
  | 0, _ => none
  | t + 1, w12 =>
    (if (w12 0 1) ≤ (w12 0 6) then (k w12) else (gd (inb (w12 0 6) 500) ((f_X5_isFigure (w12 1 (w12 0 6).toNatClampNeg)).bind (fun r13 => (if r13 = 0 then (k w12) else (if (3 : Int32) ≤ ((w12 0 6) - (w12 0 5)) then (nm (α := Mem) (up w12 0 6 ((w12 0 6) + 1)) (fun w14 => (f_X5_readFigures_L5 k t w14))) else (gd (inb (w12 0 6) 500) (nm (α := Mem) (up w12 0 7 (((10 * (w12 0 7)) + (w12 1 (w12 0 6).toNatClampNeg)) - 48)) (fun w15 => (nm (α := Mem) (up w15 0 6 ((w15 0 6) + 1)) (fun w16 => (f_X5_readFigures_L5 k t w16))))))))))))
def f_X5_readFigures (m4 : Mem) : Option (Mem) :=
  (nm (α := Mem) (up m4 0 7 0) (fun w11 => (f_X5_readFigures_L5 (fun (w17 : Mem) => (if (3 : Int32) < ((w17 0 6) - (w17 0 5)) then (nm (α := Mem) (up w17 0 4 4) (fun w18 => (some w18))) else (nm (α := Mem) (up w17 0 4 2) (fun w19 => (some w19)))))  100000 w11)))
def f_X5_readToken_L8 (k : Mem → Option (Mem)) : Nat → Mem → Option (Mem)
  | 0, _ => none
  | t + 1, w12 =>
    (if (w12 0 1) ≤ (w12 0 5) then (k w12) else (gd (inb (w12 0 5) 500) ((f_X5_isGap (w12 1 (w12 0 5).toNatClampNeg)).bind (fun r13 => (if r13 = 0 then (k w12) else (nm (α := Mem) (up w12 0 5 ((w12 0 5) + 1)) (fun w14 => (f_X5_readToken_L8 k t w14))))))))
def f_X5_readToken (m4 : Mem) : Option (Mem) :=
  (nm (α := Mem) (up m4 0 5 (m4 0 6)) (fun w11 => (f_X5_readToken_L8 (fun (w15 : Mem) => (nm (α := Mem) (up w15 0 6 (w15 0 5)) (fun w16 => (if (w16 0 5) < (w16 0 1) then (gd (inb (w16 0 5) 500) ((f_X5_isLetter (w16 1 (w16 0 5).toNatClampNeg)).bind (fun r17 => (if r17 = 0 then (gd (inb (w16 0 5) 500) ((f_X5_isFigure (w16 1 (w16 0 5).toNatClampNeg)).bind (fun r18 => (if r18 = 0 then (gd (inb (w16 0 5) 500) (if (w16 1 (w16 0 5).toNatClampNeg) = (59 : Int32) then (nm (α := Mem) (up w16 0 4 3) (fun w21 => (nm (α := Mem) (up w21 0 6 ((w21 0 6) + 1)) (fun w22 => (some w22))))) else (nm (α := Mem) (up w16 0 4 4) (fun w19 => (nm (α := Mem) (up w19 0 6 ((w19 0 6) + 1)) (fun w20 => (some w20))))))) else ((f_X5_readFigures w16).bind (fun r23 => (some r23))))))) else ((f_X5_readLetters w16).bind (fun r24 => (some r24))))))) else (nm (α := Mem) (up w16 0 4 0) (fun w25 => (some w25)))))))  100000 w11)))
def f_X5_isWord_L28 (k : Int32 → Option (Int32)) (i : Nat) (m4 : Mem) : Nat → Int32 → Option (Int32)
  | 0, _ => none
  | t + 1, u11 =>
    (if (stl i) ≤ u11 then (k u11) else (gd (inb ((m4 0 5) + u11) 500) (gd (inb u11 (swL.getD i 0)) (if (m4 1 ((m4 0 5) + u11).toNatClampNeg) = (stc i u11.toNatClampNeg) then (f_X5_isWord_L28 k i m4 t (u11 + 1)) else (some 0)))))
def f_X5_isWord (m4 : Mem) (i : Nat) : Option (Int32) :=
  (if (m4 0 4) = (1 : Int32) then (if ((m4 0 6) - (m4 0 5)) = (stl i) then (f_X5_isWord_L28 (fun (u12 : Int32) => (some 1)) i m4 100000 0) else (some 0)) else (some 0))
def f_X5_fail (m4 : Mem) (x1 : Int32) : Option (Int32 × Mem) :=
  (nm (α := Mem) (up m4 0 2 x1) (fun w11 => (nm (α := Mem) (up w11 0 3 (w11 0 5)) (fun w12 => (some (0, w12))))))
def f_X5_readNumber (m4 : Mem) (x1 : Int32) (x2 : Int32) : Option (Int32 × Mem) :=
  ((f_X5_readToken m4).bind (fun r11 => (if (r11 0 4) = (2 : Int32) then (if (r11 0 7) < x1 then ((f_X5_fail r11 (2 : Int32)).bind (fun r12 => (if r12.1 = 0 then (some (0, r12.2)) else (some (1, r12.2))))) else (if (r11 0 7) ≤ x2 then (some (1, r11)) else ((f_X5_fail r11 (2 : Int32)).bind (fun r13 => (if r13.1 = 0 then (some (0, r13.2)) else (some (1, r13.2))))))) else ((f_X5_fail r11 (1 : Int32)).bind (fun r14 => (gd (decide (r14.1 = 0 ∨ r14.1 = 1)) (some (r14.1, r14.2))))))))
def f_X5_readSign (m4 : Mem) : Option (Int32 × Mem) :=
  ((f_X5_readToken m4).bind (fun r11 => (if (r11 0 4) = (3 : Int32) then (some (1, r11)) else ((f_X5_fail r11 (1 : Int32)).bind (fun r12 => (if r12.1 = 0 then (some (0, r12.2)) else (some (1, r12.2))))))))
def f_X5_readLaw (m2 : Mem) (m4 : Mem) : Option (Int32 × Mem × Mem) :=
  ((f_X5_readToken m4).bind (fun r11 => ((f_X5_isWord r11 0).bind (fun r12 => (if r12 = 0 then ((f_X5_fail r11 (1 : Int32)).bind (fun r18 => (gd (decide (r18.1 = 0 ∨ r18.1 = 1)) (some (r18.1, m2, r18.2))))) else ((f_X5_readNumber r11 (0 : Int32) (50 : Int32)).bind (fun r13 => (if r13.1 = 0 then (some (0, m2, r13.2)) else (nm (α := Mem) (up m2 0 1 (r13.2 0 7)) (fun w14 => ((f_X5_readNumber r13.2 (1 : Int32) (20 : Int32)).bind (fun r15 => (if r15.1 = 0 then (some (0, w14, r15.2)) else (nm (α := Mem) (up w14 0 2 (r15.2 0 7)) (fun w16 => ((f_X5_readSign r15.2).bind (fun r17 => (gd (decide (r17.1 = 0 ∨ r17.1 = 1)) (some (r17.1, w16, r17.2))))))))))))))))))))
def f_X5_statementWord (m4 : Mem) : Option (Int32) :=
  ((f_X5_isWord m4 1).bind (fun r11 => (if r11 = 0 then ((f_X5_isWord m4 2).bind (fun r12 => (if r12 = 0 then ((f_X5_isWord m4 3).bind (fun r13 => (if r13 = 0 then ((f_X5_isWord m4 4).bind (fun r14 => (if r14 = 0 then ((f_X5_isWord m4 5).bind (fun r15 => (if r15 = 0 then (some 0) else (some 5)))) else (some 4)))) else (some 3)))) else (some 2)))) else (some 1))))
def f_X3_minutesBetween (m1 : Mem) (x1 : Int32) (x2 : Int32) : Option (Int32) :=
  (gd (inb ((x1 * 8) + x2) 64) (some (m1 11 ((x1 * 8) + x2).toNatClampNeg)))
def f_X3_addWay (m2 : Mem) (x1 : Int32) (x2 : Int32) (x3 : Int32) : Option (Mem) :=
  ((f_X3_minutesBetween m2 x1 x2).bind (fun r11 => (nm (α := Int32) (if r11 < x3 then r11 else x3) (fun x12 => (gd (inb ((x1 * 8) + x2) 64) (nm (α := Mem) (up m2 11 ((x1 * 8) + x2).toNatClampNeg x12) (fun w13 => (gd (inb ((x2 * 8) + x1) 64) (nm (α := Mem) (up w13 11 ((x2 * 8) + x1).toNatClampNeg x12) (fun w14 => (nm (α := Mem) (up w14 0 3 ((w14 0 3) + 1)) (fun w15 => (some w15)))))))))))))
def f_X5_readWay (m2 : Mem) (m4 : Mem) : Option (Int32 × Mem × Mem) :=
  (if (m2 0 3) < (16 : Int32) then ((f_X5_readNumber m4 (0 : Int32) (7 : Int32)).bind (fun r11 => (if r11.1 = 0 then (some (0, m2, r11.2)) else (nm (α := Int32) (r11.2 0 7) (fun x12 => ((f_X5_readNumber r11.2 (0 : Int32) (7 : Int32)).bind (fun r13 => (if r13.1 = 0 then (some (0, m2, r13.2)) else (nm (α := Int32) (r13.2 0 7) (fun x14 => (if x12 = x14 then ((f_X5_fail r13.2 (2 : Int32)).bind (fun r18 => (gd (decide (r18.1 = 0 ∨ r18.1 = 1)) (some (r18.1, m2, r18.2))))) else ((f_X5_readNumber r13.2 (1 : Int32) (99 : Int32)).bind (fun r15 => (if r15.1 = 0 then (some (0, m2, r15.2)) else ((f_X3_addWay m2 x12 x14 (r15.2 0 7)).bind (fun r16 => ((f_X5_readSign r15.2).bind (fun r17 => (gd (decide (r17.1 = 0 ∨ r17.1 = 1)) (some (r17.1, r16, r17.2))))))))))))))))))))) else ((f_X5_fail m4 (3 : Int32)).bind (fun r19 => (gd (decide (r19.1 = 0 ∨ r19.1 = 1)) (some (r19.1, m2, r19.2))))))
def f_X3_addHill (m2 : Mem) (x1 : Int32) : Option (Mem) :=
  (nm (α := Mem) (up m2 0 8 ((m2 0 8) ||| (1 <<< (x1 &&& 31)))) (fun w11 => (nm (α := Mem) (up w11 0 4 ((w11 0 4) + 1)) (fun w12 => (some w12)))))
def f_X5_readHill (m2 : Mem) (m4 : Mem) : Option (Int32 × Mem × Mem) :=
  (if (m2 0 4) < (7 : Int32) then ((f_X5_readNumber m4 (1 : Int32) (7 : Int32)).bind (fun r11 => (if r11.1 = 0 then (some (0, m2, r11.2)) else ((f_X3_addHill m2 (r11.2 0 7)).bind (fun r12 => ((f_X5_readSign r11.2).bind (fun r13 => (gd (decide (r13.1 = 0 ∨ r13.1 = 1)) (some (r13.1, r12, r13.2)))))))))) else ((f_X5_fail m4 (3 : Int32)).bind (fun r14 => (gd (decide (r14.1 = 0 ∨ r14.1 = 1)) (some (r14.1, m2, r14.2))))))
def f_X5_kindWord (m4 : Mem) : Option (Int32) :=
  ((f_X5_isWord m4 6).bind (fun r11 => (if r11 = 0 then ((f_X5_isWord m4 7).bind (fun r12 => (if r12 = 0 then ((f_X5_isWord m4 8).bind (fun r13 => (if r13 = 0 then ((f_X5_isWord m4 9).bind (fun r14 => (if r14 = 0 then ((f_X5_isWord m4 10).bind (fun r15 => (if r15 = 0 then (some 0) else (some 3)))) else (some 2)))) else (some 5)))) else (some 4)))) else (some 1))))
def f_X7_isOfKind_L4 (k : Int32 → Int32 → Option (Int32)) (x1 : Int32) : Nat → Int32 → Int32 → Option (Int32)
  | 0, _, _ => none
  | t + 1, u11, u12 =>
    (if (6 : Int32) ≤ u12 then (k u11 u12) else (if u11 < 0 then (k u11 u12) else (if (6 : Int32) ≤ u11 then (k u11 u12) else (if u11 = x1 then (some 1) else (gd (inb u11 6) (nm (α := Int32) (sta 0 u11.toNatClampNeg) (fun x13 => (f_X7_isOfKind_L4 k x1 t x13 (u12 + 1)))))))))
def f_X7_isOfKind (x0 : Int32) (x1 : Int32) : Option (Int32) :=
  (f_X7_isOfKind_L4 (fun (u14 : Int32) (u15 : Int32) => (some 0)) x1 100000 x0 0)
def f_X3_addPerson (m2 : Mem) (x1 : Int32) (x2 : Int32) (x3 : Int32) : Option (Mem) :=
  (gd (inb (m2 0 6) 7) (nm (α := Mem) (up m2 12 (m2 0 6).toNatClampNeg x1) (fun w11 => (gd (inb (w11 0 6) 7) (nm (α := Mem) (up w11 13 (w11 0 6).toNatClampNeg x2) (fun w12 => (gd (inb (w12 0 6) 7) (nm (α := Mem) (up w12 14 (w12 0 6).toNatClampNeg x3) (fun w13 => ((f_X7_isOfKind x1 (4 : Int32)).bind (fun r14 => (if r14 = 0 then (nm (α := Mem) (up w13 0 6 ((w13 0 6) + 1)) (fun w15 => (some w15))) else (nm (α := Mem) (up w13 0 9 ((w13 0 9) ||| (1 <<< ((w13 0 6) &&& 31)))) (fun w16 => (nm (α := Mem) (up w16 0 6 ((w16 0 6) + 1)) (fun w17 => (some w17)))))))))))))))))
def f_X5_readPerson (m2 : Mem) (m4 : Mem) : Option (Int32 × Mem × Mem) :=
  (if (m2 0 6) < (7 : Int32) then ((f_X5_readToken m4).bind (fun r11 => ((f_X5_kindWord r11).bind (fun r12 => (if r12 = 0 then ((f_X5_fail r11 (1 : Int32)).bind (fun r18 => (gd (decide (r18.1 = 0 ∨ r18.1 = 1)) (some (r18.1, m2, r18.2))))) else ((f_X5_readNumber r11 (1 : Int32) (7 : Int32)).bind (fun r13 => (if r13.1 = 0 then (some (0, m2, r13.2)) else (nm (α := Int32) (r13.2 0 7) (fun x14 => ((f_X5_readNumber r13.2 (0 : Int32) (9 : Int32)).bind (fun r15 => (if r15.1 = 0 then (some (0, m2, r15.2)) else ((f_X3_addPerson m2 r12 x14 (r15.2 0 7)).bind (fun r16 => ((f_X5_readSign r15.2).bind (fun r17 => (gd (decide (r17.1 = 0 ∨ r17.1 = 1)) (some (r17.1, r16, r17.2)))))))))))))))))))) else ((f_X5_fail m4 (3 : Int32)).bind (fun r19 => (gd (decide (r19.1 = 0 ∨ r19.1 = 1)) (some (r19.1, m2, r19.2))))))
def f_X3_carOf_L2 (k : Int32 → Option (Int32)) (x1 : Int32) (m1 : Mem) : Nat → Int32 → Option (Int32)
  | 0, _ => none
  | t + 1, u11 =>
    (if (m1 0 7) ≤ u11 then (k u11) else (gd (inb u11 3) (if (m1 16 u11.toNatClampNeg) = x1 then (some u11) else (f_X3_carOf_L2 k x1 m1 t (u11 + 1)))))
def f_X3_carOf (m1 : Mem) (x1 : Int32) : Option (Int32) :=
  (f_X3_carOf_L2 (fun (u12 : Int32) => (some (-1000000))) x1 m1 100000 0)
def f_X3_addCar (m2 : Mem) (x1 : Int32) (x2 : Int32) (x3 : Int32) : Option (Mem) :=
  (gd (inb (m2 0 7) 3) (nm (α := Mem) (up m2 16 (m2 0 7).toNatClampNeg x1) (fun w11 => (gd (inb (w11 0 7) 3) (nm (α := Mem) (up w11 17 (w11 0 7).toNatClampNeg x2) (fun w12 => (gd (inb (w12 0 7) 3) (nm (α := Mem) (up w12 18 (w12 0 7).toNatClampNeg x3) (fun w13 => (nm (α := Mem) (up w13 0 7 ((w13 0 7) + 1)) (fun w14 => (some w14))))))))))))
def f_X5_readCar (m2 : Mem) (m4 : Mem) : Option (Int32 × Mem × Mem) :=
  (if (m2 0 7) < (3 : Int32) then ((f_X5_readNumber m4 (0 : Int32) ((m2 0 6) - 1)).bind (fun r11 => (if r11.1 = 0 then (some (0, m2, r11.2)) else (nm (α := Int32) (r11.2 0 7) (fun x12 => ((f_X3_carOf m2 x12).bind (fun r13 => (if r13 = ((-1000000) : Int32) then ((f_X5_readNumber r11.2 (1 : Int32) (4 : Int32)).bind (fun r14 => (if r14.1 = 0 then (some (0, m2, r14.2)) else (nm (α := Int32) (r14.2 0 7) (fun x15 => ((f_X5_readNumber r14.2 (0 : Int32) (1 : Int32)).bind (fun r16 => (if r16.1 = 0 then (some (0, m2, r16.2)) else ((f_X3_addCar m2 x12 x15 (r16.2 0 7)).bind (fun r17 => ((f_X5_readSign r16.2).bind (fun r18 => (gd (decide (r18.1 = 0 ∨ r18.1 = 1)) (some (r18.1, r17, r18.2))))))))))))))) else ((f_X5_fail r11.2 (2 : Int32)).bind (fun r19 => (gd (decide (r19.1 = 0 ∨ r19.1 = 1)) (some (r19.1, m2, r19.2))))))))))))) else ((f_X5_fail m4 (3 : Int32)).bind (fun r20 => (gd (decide (r20.1 = 0 ∨ r20.1 = 1)) (some (r20.1, m2, r20.2))))))
def f_X3_addQuarrel (m2 : Mem) (x1 : Int32) (x2 : Int32) : Option (Mem) :=
  (gd (inb x1 7) (gd (inb x1 7) (nm (α := Mem) (up m2 15 x1.toNatClampNeg ((m2 15 x1.toNatClampNeg) ||| (1 <<< (x2 &&& 31)))) (fun w11 => (gd (inb x2 7) (gd (inb x2 7) (nm (α := Mem) (up w11 15 x2.toNatClampNeg ((w11 15 x2.toNatClampNeg) ||| (1 <<< (x1 &&& 31)))) (fun w12 => (nm (α := Mem) (up w12 0 5 ((w12 0 5) + 1)) (fun w13 => (some w13)))))))))))
def f_X5_readQuarrel (m2 : Mem) (m4 : Mem) : Option (Int32 × Mem × Mem) :=
  (if (m2 0 5) < (6 : Int32) then ((f_X5_readNumber m4 (0 : Int32) ((m2 0 6) - 1)).bind (fun r11 => (if r11.1 = 0 then (some (0, m2, r11.2)) else (nm (α := Int32) (r11.2 0 7) (fun x12 => ((f_X5_readNumber r11.2 (0 : Int32) ((m2 0 6) - 1)).bind (fun r13 => (if r13.1 = 0 then (some (0, m2, r13.2)) else (nm (α := Int32) (r13.2 0 7) (fun x14 => (if x12 = x14 then ((f_X5_fail r13.2 (2 : Int32)).bind (fun r17 => (gd (decide (r17.1 = 0 ∨ r17.1 = 1)) (some (r17.1, m2, r17.2))))) else ((f_X3_addQuarrel m2 x12 x14).bind (fun r15 => ((f_X5_readSign r13.2).bind (fun r16 => (gd (decide (r16.1 = 0 ∨ r16.1 = 1)) (some (r16.1, r15, r16.2)))))))))))))))))) else ((f_X5_fail m4 (3 : Int32)).bind (fun r18 => (gd (decide (r18.1 = 0 ∨ r18.1 = 1)) (some (r18.1, m2, r18.2))))))
def f_X5_readStatement (m2 : Mem) (m4 : Mem) : Option (Int32 × Mem × Mem) :=
  ((f_X5_statementWord m4).bind (fun r11 => (if r11 = 0 then ((f_X5_fail m4 (1 : Int32)).bind (fun r12 => (gd (decide (r12.1 = 0 ∨ r12.1 = 1)) (some (r12.1, m2, r12.2))))) else (if (m4 0 8) ≤ r11 then (nm (α := Mem) (up m4 0 8 r11) (fun w13 => (if r11 = 1 then ((f_X5_readWay m2 w13).bind (fun r14 => (gd (decide (r14.1 = 0 ∨ r14.1 = 1)) (some (r14.1, r14.2.1, r14.2.2))))) else (if r11 = 2 then ((f_X5_readHill m2 w13).bind (fun r15 => (gd (decide (r15.1 = 0 ∨ r15.1 = 1)) (some (r15.1, r15.2.1, r15.2.2))))) else (if r11 = 3 then ((f_X5_readPerson m2 w13).bind (fun r16 => (gd (decide (r16.1 = 0 ∨ r16.1 = 1)) (some (r16.1, r16.2.1, r16.2.2))))) else (if r11 = 4 then ((f_X5_readCar m2 w13).bind (fun r17 => (gd (decide (r17.1 = 0 ∨ r17.1 = 1)) (some (r17.1, r17.2.1, r17.2.2))))) else ((f_X5_readQuarrel m2 w13).bind (fun r18 => (gd (decide (r18.1 = 0 ∨ r18.1 = 1)) (some (r18.1, r18.2.1, r18.2.2))))))))))) else ((f_X5_fail m4 (1 : Int32)).bind (fun r19 => (gd (decide (r19.1 = 0 ∨ r19.1 = 1)) (some (r19.1, m2, r19.2)))))))))
def f_X3_finish_L18 (k : Int32 → Mem → Option (Mem)) (u11 : Int32) (u13 : Int32) : Nat → Int32 → Mem → Option (Mem)
  | 0, _, _ => none
  | t + 1, u15, w16 =>
    (if (8 : Int32) ≤ u15 then (k u15 w16) else ((f_X3_minutesBetween w16 u13 u11).bind (fun r17 => ((f_X3_minutesBetween w16 u11 u15).bind (fun r18 => (nm (α := Int32) (r17 + r18) (fun x19 => ((f_X3_minutesBetween w16 u13 u15).bind (fun r20 => (gd (inb ((u13 * 8) + u15) 64) (nm (α := Mem) (up w16 11 ((u13 * 8) + u15).toNatClampNeg (if x19 < r20 then x19 else r20)) (fun w21 => (f_X3_finish_L18 k u11 u13 t (u15 + 1) w21)))))))))))))
def f_X3_finish_L10 (k : Int32 → Mem → Option (Mem)) (u11 : Int32) : Nat → Int32 → Mem → Option (Mem)
  | 0, _, _ => none
  | t + 1, u13, w14 =>
    (if (8 : Int32) ≤ u13 then (k u13 w14) else (f_X3_finish_L18 (fun (u22 : Int32) (w23 : Mem) => (f_X3_finish_L10 k u11 t (u13 + 1) w23)) u11 u13 100000 0 w14))
def f_X3_finish_L2 (k : Int32 → Mem → Option (Mem)) : Nat → Int32 → Mem → Option (Mem)
  | 0, _, _ => none
  | t + 1, u11, w12 =>
    (if (8 : Int32) ≤ u11 then (k u11 w12) else (f_X3_finish_L10 (fun (u24 : Int32) (w25 : Mem) => (f_X3_finish_L2 k t (u11 + 1) w25)) u11 100000 0 w12))
def f_X3_finish (m2 : Mem) : Option (Mem) :=
  (f_X3_finish_L2 (fun (u26 : Int32) (w27 : Mem) => (nm (α := Mem) (up w27 0 0 1) (fun w28 => (some w28))))  100000 0 m2)
def f_X5_readInto_L22 (k : Int32 → Int32 → Mem → Mem → Option (Int32 × Mem × Mem)) : Nat → Int32 → Int32 → Mem → Mem → Option (Int32 × Mem × Mem)
  | 0, _, _, _, _ => none
  | t + 1, u16, u17, w18, w19 =>
    (if u16 = 0 then (k u16 u17 w18 w19) else (if (500 : Int32) < u17 then (k u16 u17 w18 w19) else ((f_X5_readToken w19).bind (fun r20 => (if (r20 0 4) = 0 then (k u16 u17 w18 r20) else ((f_X5_readStatement w18 r20).bind (fun r21 => (nm (α := Int32) (r21.1) (fun x22 => (f_X5_readInto_L22 k t x22 (u17 + 1) r21.2.1 r21.2.2))))))))))
def f_X5_readInto (m2 : Mem) (m4 : Mem) : Option (Int32 × Mem × Mem) :=
  (nm (α := Mem) (up m4 0 6 0) (fun w11 => (nm (α := Mem) (up w11 0 8 0) (fun w12 => ((f_X3_clear m2).bind (fun r13 => ((f_X5_readLaw r13 w12).bind (fun r14 => (nm (α := Int32) (r14.1) (fun x15 => (f_X5_readInto_L22 (fun (u23 : Int32) (u24 : Int32) (w25 : Mem) (w26 : Mem) => (nm (α := Mem) (up w26 0 1 0) (fun w27 => (if u23 = 0 then (gd (decide (u23 = 0 ∨ u23 = 1)) (some (u23, w25, w27))) else ((f_X3_finish w25).bind (fun r28 => (gd (decide (u23 = 0 ∨ u23 = 1)) (some (u23, r28, w27)))))))))  100000 x15 0 r14.2.1 r14.2.2)))))))))))
def f_X2_forget (m6 : Mem) : Option (Mem) :=
  (nm (α := Mem) (up m6 0 2 0) (fun w11 => (some w11)))
def f_X4_forget (m3 : Mem) : Option (Mem) :=
  (nm (α := Mem) (up m3 0 2 (-1)) (fun w11 => (nm (α := Mem) (upA w11 1 (fillf 384 (-1) (w11 1))) (fun w12 => (some w12)))))
def f_X7_beginAnew (m3 : Mem) (m6 : Mem) : Option (Mem × Mem) :=
  ((f_X2_forget m6).bind (fun r11 => ((f_X4_forget m3).bind (fun r12 => (some (r12, r11))))))
def f_X7_evening (m1 : Mem) (m2 : Mem) (m3 : Mem) (m4 : Mem) (m6 : Mem) (m11 : Mem) : Option (Int32 × Mem × Mem × Mem × Mem × Mem) :=
  ((f_X5_readInto m2 m4).bind (fun r11 => (if r11.1 = 0 then (some ((-1000100) - (r11.2.2 0 3), r11.2.1, m3, r11.2.2, m6, m11)) else ((f_X7_beginAnew m3 m6).bind (fun r12 => (some (r11.2.1 0 6, r11.2.1, r12.1, r11.2.2, r12.2, (up ((up m11 0 7 2)) 0 8 1))))))))
def f_X7_fault (m4 : Mem) : Option (Int32) :=
  (some (m4 0 2))
def f_X3_hasPerson (m1 : Mem) (x1 : Int32) : Option (Int32) :=
  (if x1 < 0 then (some 0) else (if (m1 0 6) ≤ x1 then (some 0) else (some 1)))
def f_X2_keep (m6 : Mem) (x1 : Int32) (x2 : Int32) : Option (Mem) :=
  (jn (α := Mem) (fun j15 => (if (m6 0 2) = (24 : Int32) then (gd (cpok 1 0 23 24 24) (nm (α := Mem) (upA m6 1 (va_cpy (m6 1) (m6 1) (1 : Int32).toNatClampNeg (0 : Int32).toNatClampNeg (23 : Int32).toNatClampNeg)) (fun w11 => (gd (cpok 1 0 23 24 24) (nm (α := Mem) (upA w11 2 (va_cpy (w11 2) (w11 2) (1 : Int32).toNatClampNeg (0 : Int32).toNatClampNeg (23 : Int32).toNatClampNeg)) (fun w12 => (nm (α := Mem) (up w12 0 2 ((w12 0 2) - 1)) (fun w13 => (j15 w13))))))))) else (j15 m6))) (fun a14 => (gd (inb (a14 0 2) 24) (nm (α := Mem) (up a14 1 (a14 0 2).toNatClampNeg x1) (fun w16 => (gd (inb (w16 0 2) 24) (nm (α := Mem) (up w16 2 (w16 0 2).toNatClampNeg x2) (fun w17 => (nm (α := Mem) (up w17 0 2 ((w17 0 2) + 1)) (fun w18 => (some w18)))))))))))
def f_X7_drink (m1 : Mem) (m6 : Mem) (x1 : Int32) (x2 : Int32) : Option (Int32 × Mem × Mem) :=
  ((f_X3_hasPerson m1 x1).bind (fun r11 => (if r11 = 0 then (some ((-1000001), m1, m6)) else (if x2 < (1 : Int32) then (some ((-1000001), m1, m6)) else (if x2 ≤ (9 : Int32) then (gd (inb x1 7) (if ((m1 14 x1.toNatClampNeg) + x2) ≤ (99 : Int32) then (gd (inb x1 7) (gd (inb x1 7) (nm (α := Mem) (up m1 14 x1.toNatClampNeg ((m1 14 x1.toNatClampNeg) + x2)) (fun w12 => ((f_X2_keep m6 x1 x2).bind (fun r13 => (gd (inb x1 7) (some (w12 14 x1.toNatClampNeg, w12, r13))))))))) else (some ((-1000003), m1, m6)))) else (some ((-1000001), m1, m6)))))))
def f_X2_takeBack (m1 : Mem) (m6 : Mem) : Option (Mem × Mem) :=
  (if (m6 0 2) ≤ 0 then (some (m1, m6)) else (nm (α := Mem) (up m6 0 2 ((m6 0 2) - 1)) (fun w11 => (gd (inb (w11 0 2) 24) (gd (inb (w11 1 (w11 0 2).toNatClampNeg) 7) (gd (inb (w11 0 2) 24) (gd (inb (w11 1 (w11 0 2).toNatClampNeg) 7) (nm (α := Mem) (up m1 14 (w11 1 (w11 0 2).toNatClampNeg).toNatClampNeg ((m1 14 (w11 1 (w11 0 2).toNatClampNeg).toNatClampNeg) - (w11 2 (w11 0 2).toNatClampNeg))) (fun w12 => (some (w12, w11)))))))))))
def f_X7_undo (m1 : Mem) (m6 : Mem) : Option (Int32 × Mem × Mem) :=
  (if (m6 0 2) = 0 then (some ((-1000002), m1, m6)) else ((f_X2_takeBack m1 m6).bind (fun r11 => (some (r11.2 0 2, r11.1, r11.2)))))
def f_X7_person (m1 : Mem) (x1 : Int32) (x2 : Int32) : Option (Int32) :=
  ((f_X3_hasPerson m1 x1).bind (fun r11 => (if r11 = 0 then (some (-1000001)) else (if x2 = 0 then (gd (inb x1 7) (some (m1 13 x1.toNatClampNeg))) else (if x2 = 1 then (gd (inb x1 7) (some (m1 14 x1.toNatClampNeg))) else (if x2 = 2 then ((f_X3_carOf m1 x1).bind (fun r12 => (some r12))) else (if x2 = 3 then (gd (inb x1 7) (some (m1 15 x1.toNatClampNeg))) else (some (-1000001)))))))))
def f_X3_hasCar (m1 : Mem) (x1 : Int32) : Option (Int32) :=
  (if x1 < 0 then (some 0) else (if (m1 0 7) ≤ x1 then (some 0) else (some 1)))
def f_X7_car (m1 : Mem) (x1 : Int32) (x2 : Int32) : Option (Int32) :=
  ((f_X3_hasCar m1 x1).bind (fun r11 => (if r11 = 0 then (some (-1000001)) else (if x2 = 0 then (gd (inb x1 3) (some (m1 16 x1.toNatClampNeg))) else (if x2 = 1 then (gd (inb x1 3) (some (m1 17 x1.toNatClampNeg))) else (if x2 = 2 then (gd (inb x1 3) (some (m1 18 x1.toNatClampNeg))) else (some (-1000001))))))))
def f_X3_areJoined (m1 : Mem) (x1 : Int32) (x2 : Int32) : Option (Int32) :=
  ((f_X3_minutesBetween m1 x1 x2).bind (fun r11 => (if (1000000 : Int32) ≤ r11 then (some 0) else (some 1))))
def f_X7_far (m1 : Mem) (x1 : Int32) (x2 : Int32) : Option (Int32) :=
  (if (m1 0 0) = 0 then (some (-1000002)) else (if x1 < 0 then (some (-1000001)) else (if (8 : Int32) ≤ x1 then (some (-1000001)) else (if x2 < 0 then (some (-1000001)) else (if x2 < (8 : Int32) then ((f_X3_areJoined m1 x1 x2).bind (fun r11 => (if r11 = 0 then (some (-1000000)) else ((f_X3_minutesBetween m1 x1 x2).bind (fun r12 => (some r12)))))) else (some (-1000001)))))))
def f_X7_isMinute (x0 : Int32) : Option (Int32) :=
  (if x0 < 0 then (some 0) else (if (600 : Int32) < x0 then (some 0) else (some 1)))
def f_X3_drunkAfter (m1 : Mem) (x1 : Int32) (x2 : Int32) : Option (Int32) :=
  (some (if (0 : Int32) < ((10 * x1) - ((m1 0 2) * (x2 / 60))) then ((10 * x1) - ((m1 0 2) * (x2 / 60))) else (0 : Int32)))
def f_X7_hasBit (x0 : Int32) (x1 : Int32) : Option (Int32) :=
  (if ((x0 >>> (x1 &&& 31)) &&& 1) = 0 then (some 0) else (some 1))
def f_X3_mayDrive (m1 : Mem) (x1 : Int32) (x2 : Int32) (x3 : Int32) : Option (Int32) :=
  ((f_X7_hasBit (m1 0 9) x1).bind (fun r11 => (if r11 = 0 then (gd (inb x1 7) ((f_X7_isOfKind (m1 12 x1.toNatClampNeg) (2 : Int32)).bind (fun r12 => (if r12 = 0 then ((f_X3_drunkAfter m1 x2 x3).bind (fun r13 => (if (m1 0 1) < r13 then (some 0) else (some 1)))) else (if x2 ≤ 0 then ((f_X3_drunkAfter m1 x2 x3).bind (fun r14 => (if (m1 0 1) < r14 then (some 0) else (some 1)))) else (some 0)))))) else (some 0))))
def f_X7_may (m1 : Mem) (x1 : Int32) (x2 : Int32) (x3 : Int32) : Option (Int32) :=
  ((f_X3_hasPerson m1 x1).bind (fun r11 => (if r11 = 0 then (some (-1000001)) else ((f_X7_isMinute x2).bind (fun r12 => (if r12 = 0 then (some (-1000001)) else (if x3 < 0 then (some (-1000001)) else (if x3 ≤ (1 : Int32) then (if x3 = 0 then (gd (inb x1 7) ((f_X3_drunkAfter m1 (m1 14 x1.toNatClampNeg) x2).bind (fun r14 => (some r14)))) else (gd (inb x1 7) ((f_X3_mayDrive m1 x1 (m1 14 x1.toNatClampNeg) x2).bind (fun r13 => (if r13 = 0 then (some 0) else (some 1)))))) else (some (-1000001))))))))))
def f_X7_soon_L16 (k : Int32 → Option (Int32)) (x1 : Int32) (m1 : Mem) : Nat → Int32 → Option (Int32)
  | 0, _ => none
  | t + 1, u12 =>
    (if (600 : Int32) < u12 then (k u12) else (gd (inb x1 7) ((f_X3_mayDrive m1 x1 (m1 14 x1.toNatClampNeg) u12).bind (fun r13 => (if r13 = 0 then (f_X7_soon_L16 k x1 m1 t (u12 + 60)) else (some u12))))))
def f_X7_soon (m1 : Mem) (x1 : Int32) : Option (Int32) :=
  ((f_X3_hasPerson m1 x1).bind (fun r11 => (if r11 = 0 then (some (-1000001)) else (f_X7_soon_L16 (fun (u14 : Int32) => (some (-1000000))) x1 m1 100000 0))))
def f_X7_commonDivisor_L2 (k : Int32 → Option (Int32)) (x0 : Int32) (x1 : Int32) : Nat → Int32 → Option (Int32)
  | 0, _ => none
  | t + 1, u11 =>
    (if u11 ≤ (1 : Int32) then (k u11) else (gd (decide (¬ u11 = 0)) (if (x0 - x0 / u11 * u11) = 0 then (gd (decide (¬ u11 = 0)) (if (x1 - x1 / u11 * u11) = 0 then (some u11) else (f_X7_commonDivisor_L2 k x0 x1 t (u11 + (-1))))) else (f_X7_commonDivisor_L2 k x0 x1 t (u11 + (-1))))))
def f_X7_commonDivisor (x0 : Int32) (x1 : Int32) : Option (Int32) :=
  (f_X7_commonDivisor_L2 (fun (u12 : Int32) => (some 1)) x0 x1 100000 x1)
def f_X7_odds_L48 (k : Int32 → Int32 → Option (Int32)) (x1 : Int32) (x2 : Int32) (x3 : Int32) (m1 : Mem) : Nat → Int32 → Int32 → Option (Int32)
  | 0, _, _ => none
  | t + 1, u13, u14 =>
    (if x3 < u14 then (k u13 u14) else (gd (inb x1 7) ((f_X3_mayDrive m1 x1 ((m1 14 x1.toNatClampNeg) + u14) x2).bind (fun r15 => (if r15 = 0 then (f_X7_odds_L48 k x1 x2 x3 m1 t u13 (u14 + 1)) else (f_X7_odds_L48 k x1 x2 x3 m1 t (u13 + 1) (u14 + 1)))))))
def f_X7_odds (m1 : Mem) (x1 : Int32) (x2 : Int32) (x3 : Int32) (x4 : Int32) : Option (Int32) :=
  ((f_X3_hasPerson m1 x1).bind (fun r11 => (if r11 = 0 then (some (-1000001)) else ((f_X7_isMinute x2).bind (fun r12 => (if r12 = 0 then (some (-1000001)) else (if x3 < 0 then (some (-1000001)) else (if (9 : Int32) < x3 then (some (-1000001)) else (if x4 < 0 then (some (-1000001)) else (if x4 ≤ (1 : Int32) then (f_X7_odds_L48 (fun (u16 : Int32) (u17 : Int32) => ((f_X7_commonDivisor u16 (x3 + 1)).bind (fun r18 => (if x4 = 0 then (gd (decide (¬ r18 = 0)) (some (u16 / r18))) else (gd (decide (¬ r18 = 0)) (some ((x3 + 1) / r18))))))) x1 x2 x3 m1 100000 0 0) else (some (-1000001))))))))))))
def f_X3_reaches (m1 : Mem) (x1 : Int32) (x2 : Int32) : Option (Int32) :=
  (gd (inb x2 7) (nm (α := Int32) (m1 13 x2.toNatClampNeg) (fun x11 => ((f_X3_areJoined m1 (0 : Int32) x11).bind (fun r12 => (if r12 = 0 then (some 0) else ((f_X7_hasBit (m1 0 8) x11).bind (fun r13 => (if r13 = 0 then (some 1) else (gd (inb x1 3) (if (m1 18 x1.toNatClampNeg) = (1 : Int32) then (some 1) else (some 0))))))))))))
def f_X3_carsThatGo_L4 (k : Int32 → Int32 → Option (Int32)) (x1 : Int32) (m1 : Mem) : Nat → Int32 → Int32 → Option (Int32)
  | 0, _, _ => none
  | t + 1, u11, u12 =>
    (if (m1 0 7) ≤ u12 then (k u11 u12) else (gd (inb u12 3) (nm (α := Int32) (m1 16 u12.toNatClampNeg) (fun x13 => (gd (inb x13 7) ((f_X3_mayDrive m1 x13 (m1 14 x13.toNatClampNeg) x1).bind (fun r14 => (if r14 = 0 then (f_X3_carsThatGo_L4 k x1 m1 t u11 (u12 + 1)) else ((f_X3_reaches m1 u12 x13).bind (fun r15 => (if r15 = 0 then (f_X3_carsThatGo_L4 k x1 m1 t u11 (u12 + 1)) else (nm (α := Int32) (u11 ||| (1 <<< (u12 &&& 31))) (fun x16 => (f_X3_carsThatGo_L4 k x1 m1 t x16 (u12 + 1)))))))))))))))
def f_X3_carsThatGo (m1 : Mem) (x1 : Int32) : Option (Int32) :=
  (f_X3_carsThatGo_L4 (fun (u17 : Int32) (u18 : Int32) => (some u17)) x1 m1 100000 0 0)
def f_X7_goes (m1 : Mem) (x1 : Int32) : Option (Int32) :=
  (if (m1 0 0) = 0 then (some (-1000002)) else ((f_X7_isMinute x1).bind (fun r11 => (if r11 = 0 then (some (-1000001)) else ((f_X3_carsThatGo m1 x1).bind (fun r12 => (some r12)))))))
def f_X3_siteOfOwner (m1 : Mem) (x1 : Int32) : Option (Int32) :=
  (gd (inb x1 3) (gd (inb (m1 16 x1.toNatClampNeg) 7) (some (m1 13 (m1 16 x1.toNatClampNeg).toNatClampNeg))))
def f_X4_walk_L86 (fs : Mem → Mem → Int32 → Int32 → Int32 → Int32 → Int32 → Option (Mem)) (k : Int32 → Mem → Option (Mem)) (x2 : Int32) (x3 : Int32) (x4 : Int32) (x5 : Int32) (x6 : Int32) (a11 : Int32) (m1 : Mem) : Nat → Int32 → Mem → Option (Mem)
  | 0, _, _ => none
  | t + 1, u13, w14 =>
    (if (m1 0 6) ≤ u13 then (k u13 w14) else (if (4 : Int32) ≤ x6 then (k u13 w14) else ((f_X7_hasBit a11 u13).bind (fun r15 => (if r15 = 0 then (f_X4_walk_L86 fs k x2 x3 x4 x5 x6 a11 m1 t (u13 + 1) w14) else (gd (inb x6 4) (nm (α := Mem) (up w14 10 x6.toNatClampNeg u13) (fun w16 => (gd (inb u13 7) ((f_X3_minutesBetween m1 x4 (m1 13 u13.toNatClampNeg)).bind (fun r17 => (nm (α := Int32) (x5 + r17) (fun x18 => (gd (inb u13 7) ((fs m1 w16 x2 (x3 &&& ((1 <<< (u13 &&& 31)) ^^^ (-1))) (m1 13 u13.toNatClampNeg) x18 (x6 + 1)).bind (fun r19 => (f_X4_walk_L86 fs k x2 x3 x4 x5 x6 a11 m1 t (u13 + 1) r19)))))))))))))))))
def f_X4_walk_B (fs : Mem → Mem → Int32 → Int32 → Int32 → Int32 → Int32 → Option (Mem)) (m1 : Mem) (m3 : Mem) (x2 : Int32) (x3 : Int32) (x4 : Int32) (x5 : Int32) (x6 : Int32) : Option (Mem) :=
  (if (m3 0 11) ≤ x5 then (some m3) else (if x6 ≤ (4 : Int32) then (if x3 = 0 then ((f_X3_minutesBetween m1 x4 x2).bind (fun r22 => (nm (α := Int32) (x5 + r22) (fun x23 => (if (m3 0 11) ≤ x23 then (some m3) else (nm (α := Mem) (up m3 0 11 x23) (fun w24 => (gd (cpok 0 0 4 4 4) (nm (α := Mem) (upA w24 11 (va_cpy (w24 10) (w24 11) (0 : Int32).toNatClampNeg (0 : Int32).toNatClampNeg (4 : Int32).toNatClampNeg)) (fun w25 => (some w25))))))))))) else (nm (α := Int32) (if (x3 &&& (m1 0 9)) = 0 then x3 else ((x3 &&& (m1 0 9)))) (fun a11 => (f_X4_walk_L86 fs (fun (u20 : Int32) (w21 : Mem) => (some w21)) x2 x3 x4 x5 x6 a11 m1 100000 0 m3)))) else (some m3)))
def f_X4_walk : Nat → Mem → Mem → Int32 → Int32 → Int32 → Int32 → Int32 → Option (Mem)
  | 0, _, _, _, _, _, _, _ => none
  | n + 1, m1, m3, x2, x3, x4, x5, x6 => f_X4_walk_B (f_X4_walk n) m1 m3 x2 x3 x4 x5 x6
def f_X4_minutesOf (m1 : Mem) (m3 : Mem) (x2 : Int32) (x3 : Int32) : Option (Int32 × Mem) :=
  (nm (α := Int32) ((x2 <<< (7 &&& 31)) ||| x3) (fun x11 => (gd (inb x11 384) (if (m3 1 x11.toNatClampNeg) = ((-1) : Int32) then (nm (α := Mem) (up m3 0 11 1000000) (fun w12 => ((f_X3_siteOfOwner m1 x2).bind (fun r13 => ((f_X4_walk 16 m1 w12 r13 x3 (0 : Int32) (0 : Int32) (0 : Int32)).bind (fun r14 => (gd (inb x11 384) (nm (α := Mem) (up r14 1 x11.toNatClampNeg (r14 0 11)) (fun w15 => (gd (inb x11 384) (some (w15 1 x11.toNatClampNeg, w15)))))))))))) else (gd (inb x11 384) (some (m3 1 x11.toNatClampNeg, m3)))))))
def f_X4_keepIfBetter_L5 (k : Int32 → Int32 → Mem → Option (Mem)) (m1 : Mem) : Nat → Int32 → Int32 → Mem → Option (Mem)
  | 0, _, _, _ => none
  | t + 1, u11, u12, w13 =>
    (if (m1 0 7) ≤ u12 then (k u11 u12 w13) else ((f_X7_hasBit (w13 0 7) u12).bind (fun r14 => (if r14 = 0 then (f_X4_keepIfBetter_L5 k m1 t u11 (u12 + 1) w13) else (gd (inb u12 3) ((f_X4_minutesOf m1 w13 u12 (w13 7 u12.toNatClampNeg)).bind (fun r15 => (nm (α := Int32) (u11 + r15.1) (fun x16 => (f_X4_keepIfBetter_L5 k m1 t x16 (u12 + 1) r15.2))))))))))
def f_X4_keepIfBetter (m1 : Mem) (m3 : Mem) (x2 : Int32) : Option (Mem) :=
  (f_X4_keepIfBetter_L5 (fun (u17 : Int32) (u18 : Int32) (w19 : Mem) => (nm (α := Int32) (bitc x2) (fun x20 => (if x20 < (w19 0 5) then (nm (α := Mem) (up w19 0 5 x20) (fun w21 => (nm (α := Mem) (up w21 0 4 u17) (fun w22 => (nm (α := Mem) (up w22 0 3 x2) (fun w23 => (gd (cpok 0 0 3 3 3) (nm (α := Mem) (upA w23 2 (va_cpy (w23 7) (w23 2) (0 : Int32).toNatClampNeg (0 : Int32).toNatClampNeg (3 : Int32).toNatClampNeg)) (fun w24 => (some w24)))))))))) else (if x20 = (w19 0 5) then (if (w19 0 4) ≤ u17 then (some w19) else (nm (α := Mem) (up w19 0 5 x20) (fun w25 => (nm (α := Mem) (up w25 0 4 u17) (fun w26 => (nm (α := Mem) (up w26 0 3 x2) (fun w27 => (gd (cpok 0 0 3 3 3) (nm (α := Mem) (upA w27 2 (va_cpy (w27 7) (w27 2) (0 : Int32).toNatClampNeg (0 : Int32).toNatClampNeg (3 : Int32).toNatClampNeg)) (fun w28 => (some w28))))))))))) else (some w19)))))) m1 100000 0 0 m3)
def f_X3_hasRoomFor (m1 : Mem) (x1 : Int32) (x2 : Int32) (x3 : Int32) : Option (Int32) :=
  (gd (inb x1 3) (nm (α := Int32) (x2 ||| (1 <<< ((m1 16 x1.toNatClampNeg) &&& 31))) (fun x11 => (gd (inb x1 3) (if (m1 17 x1.toNatClampNeg) ≤ (bitc x2) then (some 0) else (gd (inb x3 7) (if ((m1 15 x3.toNatClampNeg) &&& x11) = 0 then ((f_X3_reaches m1 x1 x3).bind (fun r12 => (if r12 = 0 then (some 0) else (some 1)))) else (some 0))))))))
def f_X4_seat_L55 (fs : Mem → Mem → Int32 → Int32 → Option (Mem)) (k : Int32 → Mem → Option (Mem)) (x2 : Int32) (x3 : Int32) (m1 : Mem) (x11 : Int32) : Nat → Int32 → Mem → Option (Mem)
  | 0, _, _ => none
  | t + 1, u12, w13 =>
    (if (m1 0 7) ≤ u12 then (k u12 w13) else ((f_X7_hasBit (w13 0 7) u12).bind (fun r14 => (if r14 = 0 then (f_X4_seat_L55 fs k x2 x3 m1 x11 t (u12 + 1) w13) else (gd (inb u12 3) ((f_X3_hasRoomFor m1 u12 (w13 7 u12.toNatClampNeg) x2).bind (fun r15 => (if r15 = 0 then (f_X4_seat_L55 fs k x2 x3 m1 x11 t (u12 + 1) w13) else (gd (inb u12 3) (gd (inb u12 3) (nm (α := Mem) (up w13 7 u12.toNatClampNeg ((w13 7 u12.toNatClampNeg) ||| x11)) (fun w16 => ((fs m1 w16 (x2 + 1) x3).bind (fun r17 => (gd (inb u12 3) (gd (inb u12 3) (nm (α := Mem) (up r17 7 u12.toNatClampNeg ((r17 7 u12.toNatClampNeg) &&& (x11 ^^^ (-1)))) (fun w18 => (f_X4_seat_L55 fs k x2 x3 m1 x11 t (u12 + 1) w18)))))))))))))))))))
def f_X4_seat_B (fs : Mem → Mem → Int32 → Int32 → Option (Mem)) (m1 : Mem) (m3 : Mem) (x2 : Int32) (x3 : Int32) : Option (Mem) :=
  (if (bitc x3) ≤ (m3 0 5) then (if x2 < (m1 0 6) then (nm (α := Int32) (1 <<< (x2 &&& 31)) (fun x11 => (if ((m3 0 8) &&& x11) = 0 then (f_X4_seat_L55 fs (fun (u19 : Int32) (w20 : Mem) => ((fs m1 w20 (x2 + 1) (x3 ||| x11)).bind (fun r21 => (some r21)))) x2 x3 m1 x11 100000 0 m3) else ((fs m1 m3 (x2 + 1) x3).bind (fun r22 => (some r22)))))) else ((f_X4_keepIfBetter m1 m3 x3).bind (fun r23 => (some r23)))) else (some m3))
def f_X4_seat : Nat → Mem → Mem → Int32 → Int32 → Option (Mem)
  | 0, _, _, _, _ => none
  | n + 1, m1, m3, x2, x3 => f_X4_seat_B (f_X4_seat n) m1 m3 x2 x3
def f_X4_plan_L26 (k : Int32 → Mem → Option (Mem)) (m1 : Mem) : Nat → Int32 → Mem → Option (Mem)
  | 0, _, _ => none
  | t + 1, u14, w15 =>
    (if (3 : Int32) ≤ u14 then (k u14 w15) else ((f_X7_hasBit (w15 0 7) u14).bind (fun r16 => (if r16 = 0 then (f_X4_plan_L26 k m1 t (u14 + 1) w15) else (gd (inb u14 3) (nm (α := Mem) (up w15 0 8 ((w15 0 8) ||| (1 <<< ((m1 16 u14.toNatClampNeg) &&& 31)))) (fun w17 => (f_X4_plan_L26 k m1 t (u14 + 1) w17))))))))
def f_X4_plan (m1 : Mem) (m3 : Mem) (x2 : Int32) : Option (Mem) :=
  (if (m3 0 2) = x2 then (some m3) else (nm (α := Mem) (up m3 0 2 x2) (fun w11 => (nm (α := Mem) (up w11 0 7 x2) (fun w12 => (nm (α := Mem) (up w12 0 8 0) (fun w13 => (f_X4_plan_L26 (fun (u18 : Int32) (w19 : Mem) => (nm (α := Mem) (up w19 0 5 8) (fun w20 => ((f_X4_seat 16 m1 w20 (0 : Int32) (0 : Int32)).bind (fun r21 => (some r21)))))) m1 100000 0 w13))))))))
def f_X4_ridersOf (m3 : Mem) (x1 : Int32) : Option (Int32) :=
  (gd (inb x1 3) (some (m3 2 x1.toNatClampNeg)))
def f_X7_home (m1 : Mem) (m3 : Mem) (x1 : Int32) (x2 : Int32) : Option (Int32 × Mem) :=
  (if (m1 0 0) = 0 then (some ((-1000002), m3)) else ((f_X7_isMinute x1).bind (fun r11 => (if r11 = 0 then (some ((-1000001), m3)) else (if x2 < 0 then (some ((-1000001), m3)) else (if x2 ≤ (2 : Int32) then ((f_X3_carsThatGo m1 x1).bind (fun r12 => ((f_X4_plan m1 m3 r12).bind (fun r13 => (if x2 = 0 then (some (bitc (r13 0 3), r13)) else (if x2 = 1 then (some (r13 0 4, r13)) else (if x2 = 2 then (some (r13 0 3, r13)) else ((f_X4_ridersOf r13 (x2 - 3)).bind (fun r14 => (some (r14, r13))))))))))) else ((f_X3_hasCar m1 (x2 - 3)).bind (fun r15 => (if r15 = 0 then (some ((-1000001), m3)) else ((f_X3_carsThatGo m1 x1).bind (fun r16 => ((f_X4_plan m1 m3 r16).bind (fun r17 => (if x2 = 0 then (some (bitc (r17 0 3), r17)) else (if x2 = 1 then (some (r17 0 4, r17)) else (if x2 = 2 then (some (r17 0 3, r17)) else ((f_X4_ridersOf r17 (x2 - 3)).bind (fun r18 => (some (r18, r17))))))))))))))))))))
def f_X4_setDownAs (m1 : Mem) (m3 : Mem) (x2 : Int32) (x3 : Int32) (x4 : Int32) : Option (Int32 × Mem) :=
  (if x4 < 0 then (some ((-1000000), m3)) else (if (bitc x3) ≤ x4 then (some ((-1000000), m3)) else (if x4 < (4 : Int32) then (nm (α := Mem) (up m3 0 11 1000000) (fun w11 => ((f_X3_siteOfOwner m1 x2).bind (fun r12 => ((f_X4_walk 16 m1 w11 r12 x3 (0 : Int32) (0 : Int32) (0 : Int32)).bind (fun r13 => (gd (inb x4 4) (some (r13 11 x4.toNatClampNeg, r13))))))))) else (some ((-1000000), m3)))))
def f_X7_order (m1 : Mem) (m3 : Mem) (x1 : Int32) (x2 : Int32) (x3 : Int32) : Option (Int32 × Mem) :=
  ((f_X7_isMinute x1).bind (fun r11 => (if r11 = 0 then (some ((-1000001), m3)) else ((f_X3_hasCar m1 x2).bind (fun r12 => (if r12 = 0 then (some ((-1000001), m3)) else (if ((-1) : Int32) ≤ x3 then ((f_X3_carsThatGo m1 x1).bind (fun r13 => ((f_X7_hasBit r13 x2).bind (fun r14 => (if r14 = 0 then (some ((-1000000), m3)) else ((f_X4_plan m1 m3 r13).bind (fun r15 => ((f_X4_ridersOf r15 x2).bind (fun r16 => (if x3 = ((-1) : Int32) then ((f_X4_minutesOf m1 r15 x2 r16).bind (fun r18 => (some (r18.1, r18.2)))) else ((f_X4_setDownAs m1 r15 x2 r16 x3).bind (fun r17 => (some (r17.1, r17.2)))))))))))))) else (some ((-1000001), m3)))))))))
def f_X7_detour_L42 (k : Int32 → Mem → Option (Int32 × Mem)) (x2 : Int32) (m1 : Mem) : Nat → Int32 → Mem → Option (Int32 × Mem)
  | 0, _, _ => none
  | t + 1, u15, w16 =>
    (if (m1 0 7) ≤ u15 then (k u15 w16) else ((f_X4_ridersOf w16 u15).bind (fun r17 => ((f_X7_hasBit r17 x2).bind (fun r18 => (if r18 = 0 then (f_X7_detour_L42 k x2 m1 t (u15 + 1) w16) else (nm (α := Int32) (r17 &&& ((1 <<< (x2 &&& 31)) ^^^ (-1))) (fun x19 => ((f_X4_minutesOf m1 w16 u15 r17).bind (fun r20 => ((f_X4_minutesOf m1 r20.2 u15 x19).bind (fun r21 => (some (r20.1 - r21.1, r21.2))))))))))))))
def f_X7_detour (m1 : Mem) (m3 : Mem) (x1 : Int32) (x2 : Int32) : Option (Int32 × Mem) :=
  ((f_X7_isMinute x1).bind (fun r11 => (if r11 = 0 then (some ((-1000001), m3)) else ((f_X3_hasPerson m1 x2).bind (fun r12 => (if r12 = 0 then (some ((-1000001), m3)) else ((f_X3_carsThatGo m1 x1).bind (fun r13 => ((f_X4_plan m1 m3 r13).bind (fun r14 => (f_X7_detour_L42 (fun (u22 : Int32) (w23 : Mem) => (some ((-1000000), w23))) x2 m1 100000 0 r14)))))))))))
def f_X3_peopleWhoDriveOnSunday_L4 (k : Int32 → Int32 → Option (Int32)) (m1 : Mem) : Nat → Int32 → Int32 → Option (Int32)
  | 0, _, _ => none
  | t + 1, u11, u12 =>
    (if (m1 0 6) ≤ u12 then (k u11 u12) else (gd (inb u12 7) ((f_X7_isOfKind (m1 12 u12.toNatClampNeg) (5 : Int32)).bind (fun r13 => (if r13 = 0 then (f_X3_peopleWhoDriveOnSunday_L4 k m1 t (u11 + 1) (u12 + 1)) else (f_X3_peopleWhoDriveOnSunday_L4 k m1 t u11 (u12 + 1)))))))
def f_X3_peopleWhoDriveOnSunday (m1 : Mem) : Option (Int32) :=
  (f_X3_peopleWhoDriveOnSunday_L4 (fun (u14 : Int32) (u15 : Int32) => (some u14)) m1 100000 0 0)
def f_X3_tripsFor_L21 (k : Int32 → Int32 → Option (Int32)) (x1 : Int32) (m1 : Mem) : Nat → Int32 → Int32 → Option (Int32)
  | 0, _, _ => none
  | t + 1, u12, u13 =>
    (if (m1 0 7) ≤ u13 then (k u12 u13) else ((f_X7_hasBit x1 u13).bind (fun r14 => (if r14 = 0 then (f_X3_tripsFor_L21 k x1 m1 t u12 (u13 + 1)) else (gd (inb u13 3) (nm (α := Int32) (if u12 < (m1 17 u13.toNatClampNeg) then (m1 17 u13.toNatClampNeg) else u12) (fun x15 => (f_X3_tripsFor_L21 k x1 m1 t x15 (u13 + 1)))))))))
def f_X3_tripsFor (m1 : Mem) (x1 : Int32) : Option (Int32) :=
  (nm (α := Int32) ((m1 0 7) - (bitc x1)) (fun x11 => (if x11 = 0 then (some 0) else (f_X3_tripsFor_L21 (fun (u16 : Int32) (u17 : Int32) => ((f_X3_peopleWhoDriveOnSunday m1).bind (fun r18 => (nm (α := Int32) (if (r18 - 1) < u16 then (r18 - 1) else u16) (fun x19 => (if (1 : Int32) ≤ x19 then (gd (decide (¬ x19 = 0)) (some (((x11 + x19) - 1) / x19))) else (some (-1000000)))))))) x1 m1 100000 0 0))))
def f_X7_fetch (m1 : Mem) (x1 : Int32) : Option (Int32) :=
  (if (m1 0 0) = 0 then (some (-1000002)) else ((f_X7_isMinute x1).bind (fun r11 => (if r11 = 0 then (some (-1000001)) else ((f_X3_carsThatGo m1 x1).bind (fun r12 => ((f_X3_tripsFor m1 r12).bind (fun r13 => (some r13)))))))))
def f_X3_farFromAll_L4 (k : Int32 → Int32 → Option (Int32)) (x1 : Int32) (m1 : Mem) : Nat → Int32 → Int32 → Option (Int32)
  | 0, _, _ => none
  | t + 1, u11, u12 =>
    (if (m1 0 6) ≤ u12 then (k u11 u12) else (gd (inb x1 7) (gd (inb u12 7) ((f_X3_minutesBetween m1 (m1 13 x1.toNatClampNeg) (m1 13 u12.toNatClampNeg)).bind (fun r13 => (nm (α := Int32) (u11 + r13) (fun x14 => (f_X3_farFromAll_L4 k x1 m1 t x14 (u12 + 1)))))))))
def f_X3_farFromAll (m1 : Mem) (x1 : Int32) : Option (Int32) :=
  (f_X3_farFromAll_L4 (fun (u15 : Int32) (u16 : Int32) => (some u15)) x1 m1 100000 0 0)
def f_X3_bestHouse_L8 (k : Int32 → Int32 → Int32 → Option (Int32)) (m1 : Mem) : Nat → Int32 → Int32 → Int32 → Option (Int32)
  | 0, _, _, _ => none
  | t + 1, u11, u12, u13 =>
    (if (m1 0 6) ≤ u13 then (k u11 u12 u13) else ((f_X3_farFromAll m1 u13).bind (fun r14 => (if u12 ≤ r14 then (f_X3_bestHouse_L8 k m1 t u11 u12 (u13 + 1)) else (f_X3_bestHouse_L8 k m1 t u13 r14 (u13 + 1))))))
def f_X3_bestHouse (m1 : Mem) : Option (Int32) :=
  (f_X3_bestHouse_L8 (fun (u15 : Int32) (u16 : Int32) (u17 : Int32) => (some u15)) m1 100000 (-1000000) 1000000 0)
def f_X7_house (m1 : Mem) (x1 : Int32) : Option (Int32) :=
  (if (m1 0 0) = 0 then (some (-1000002)) else (if x1 < 0 then (some (-1000001)) else (if x1 ≤ (1 : Int32) then ((f_X3_bestHouse m1).bind (fun r11 => (if r11 = ((-1000000) : Int32) then (some (-1000000)) else (if x1 = 0 then (some r11) else ((f_X3_farFromAll m1 r11).bind (fun r12 => (some r12))))))) else (some (-1000001)))))
def f_X6_item (m5 : Mem) (x1 : Int32) (x2 : Int32) : Option (Int32) :=
  (gd (inb x1 8) (gd (inb x2 40) (some (m5 (10 + x1.toNatClampNeg) x2.toNatClampNeg))))
def f_X1_countDrives_L11 (k : Int32 → Mem → Option (Int32 × Mem)) (x2 : Int32) (x3 : Int32) (x4 : Int32) (m5 : Mem) : Nat → Int32 → Mem → Option (Int32 × Mem)
  | 0, _, _ => none
  | t + 1, u12, w13 =>
    (if x3 ≤ u12 then (k u12 w13) else ((f_X6_item m5 x2 u12).bind (fun r14 => (if r14 < 0 then (some (0, w13)) else (if r14 < x4 then (gd (inb r14 7) (gd (inb r14 7) (nm (α := Mem) (up w13 1 r14.toNatClampNeg ((w13 1 r14.toNatClampNeg) + 1)) (fun w15 => (f_X1_countDrives_L11 k x2 x3 x4 m5 t (u12 + 1) w15))))) else (some (0, w13)))))))
def f_X1_countDrives (m5 : Mem) (m7 : Mem) (x2 : Int32) (x3 : Int32) (x4 : Int32) : Option (Int32 × Mem) :=
  (nm (α := Mem) (upA m7 1 (fillf 7 0 (m7 1))) (fun w11 => (f_X1_countDrives_L11 (fun (u16 : Int32) (w17 : Mem) => (some (1, w17))) x2 x3 x4 m5 100000 0 w11)))
def f_X1_firstOfMost_L4 (k : Int32 → Int32 → Option (Int32)) (x1 : Int32) (m7 : Mem) : Nat → Int32 → Int32 → Option (Int32)
  | 0, _, _ => none
  | t + 1, u11, u12 =>
    (if x1 ≤ u12 then (k u11 u12) else (gd (inb u12 7) (gd (inb u11 7) (if (m7 1 u12.toNatClampNeg) ≤ (m7 1 u11.toNatClampNeg) then (f_X1_firstOfMost_L4 k x1 m7 t u11 (u12 + 1)) else (f_X1_firstOfMost_L4 k x1 m7 t u12 (u12 + 1))))))
def f_X1_firstOfMost (m7 : Mem) (x1 : Int32) : Option (Int32) :=
  (f_X1_firstOfMost_L4 (fun (u13 : Int32) (u14 : Int32) => (some u13)) x1 m7 100000 0 1)
def f_X1_missingDrives_L16 (k : Int32 → Int32 → Option (Int32)) (x1 : Int32) (m7 : Mem) (x12 : Int32) : Nat → Int32 → Int32 → Option (Int32)
  | 0, _, _ => none
  | t + 1, u13, u14 =>
    (if x1 ≤ u14 then (k u13 u14) else (gd (inb u14 7) (nm (α := Int32) (u13 + (x12 - (m7 1 u14.toNatClampNeg))) (fun x15 => (f_X1_missingDrives_L16 k x1 m7 x12 t x15 (u14 + 1))))))
def f_X1_missingDrives (m7 : Mem) (x1 : Int32) : Option (Int32) :=
  ((f_X1_firstOfMost m7 x1).bind (fun r11 => (gd (inb r11 7) (nm (α := Int32) (m7 1 r11.toNatClampNeg) (fun x12 => (f_X1_missingDrives_L16 (fun (u16 : Int32) (u17 : Int32) => (some u16)) x1 m7 x12 100000 0 0))))))
def f_X1_firstOfFewest_L4 (k : Int32 → Int32 → Option (Int32)) (x1 : Int32) (m7 : Mem) : Nat → Int32 → Int32 → Option (Int32)
  | 0, _, _ => none
  | t + 1, u11, u12 =>
    (if x1 ≤ u12 then (k u11 u12) else (gd (inb u12 7) (gd (inb u11 7) (if (m7 1 u11.toNatClampNeg) ≤ (m7 1 u12.toNatClampNeg) then (f_X1_firstOfFewest_L4 k x1 m7 t u11 (u12 + 1)) else (f_X1_firstOfFewest_L4 k x1 m7 t u12 (u12 + 1))))))
def f_X1_firstOfFewest (m7 : Mem) (x1 : Int32) : Option (Int32) :=
  (f_X1_firstOfFewest_L4 (fun (u13 : Int32) (u14 : Int32) => (some u13)) x1 m7 100000 0 1)
def f_X7_turn (m1 : Mem) (m5 : Mem) (m7 : Mem) (m11 : Mem) (x1 : Int32) (x2 : Int32) (x3 : Int32) : Option (Int32 × Mem × Mem) :=
  (if (m1 0 6) = 0 then (some ((-1000002), m7, m11)) else ((f_X7_isRow x1).bind (fun r11 => (if r11 = 0 then (some ((-1000001), m7, m11)) else (if x2 < 0 then (some ((-1000001), m7, m11)) else (if (40 : Int32) < x2 then (some ((-1000001), m7, m11)) else (if x3 < 0 then (some ((-1000001), m7, m11)) else (if x3 ≤ (2 : Int32) then ((f_X6_isMissing m5 x1).bind (fun r12 => (if r12 = 0 then ((f_X6_hasStretch m5 x1 (0 : Int32) x2).bind (fun r13 => (if r13 = 0 then ((f_X7_found m11 (2 : Int32)).bind (fun r20 => (some (r20.1, m7, r20.2)))) else ((f_X1_countDrives m5 m7 x1 x2 (m1 0 6)).bind (fun r14 => (if r14.1 = 0 then (some ((-1000001), r14.2, m11)) else (if x3 = (2 : Int32) then ((f_X1_missingDrives r14.2 (m1 0 6)).bind (fun r18 => ((f_X7_fine m11 r18).bind (fun r19 => (some (r19.1, r14.2, r19.2)))))) else ((f_X1_firstOfFewest r14.2 (m1 0 6)).bind (fun r15 => (if x3 = 0 then ((f_X7_fine m11 r15).bind (fun r17 => (some (r17.1, r14.2, r17.2)))) else (gd (inb r15 7) ((f_X7_fine m11 (r14.2 1 r15.toNatClampNeg)).bind (fun r16 => (some (r16.1, r14.2, r16.2))))))))))))))) else ((f_X7_found m11 (1 : Int32)).bind (fun r21 => (some (r21.1, m7, r21.2))))))) else (some ((-1000001), m7, m11))))))))))
def f_X1_countSitters_L66 (k : Int32 → Mem → Option (Int32 × Mem)) (x4 : Int32) (r16 : Int32) : Nat → Int32 → Mem → Option (Int32 × Mem)
  | 0, _, _ => none
  | t + 1, u18, w19 =>
    (if x4 ≤ u18 then (k u18 w19) else (gd (inb u18 7) (gd (inb u18 7) (nm (α := Mem) (up w19 1 u18.toNatClampNeg ((w19 1 u18.toNatClampNeg) + ((r16 >>> (u18 &&& 31)) &&& 1))) (fun w20 => (f_X1_countSitters_L66 k x4 r16 t (u18 + 1) w20))))))
def f_X1_countSitters_L25 (k : Int32 → Mem → Option (Int32 × Mem)) (x2 : Int32) (x3 : Int32) (x4 : Int32) (m5 : Mem) (x12 : Int32) : Nat → Int32 → Mem → Option (Int32 × Mem)
  | 0, _, _ => none
  | t + 1, u14, w15 =>
    (if x3 ≤ u14 then (k u14 w15) else ((f_X6_item m5 x2 u14).bind (fun r16 => (if (r16 &&& (x12 ^^^ (-1))) = 0 then (nm (α := Mem) (up w15 0 1 ((w15 0 1) &&& r16)) (fun w17 => (f_X1_countSitters_L66 (fun (u21 : Int32) (w22 : Mem) => (f_X1_countSitters_L25 k x2 x3 x4 m5 x12 t (u14 + 1) w22)) x4 r16 100000 0 w17))) else (some (0, w15))))))
def f_X1_countSitters (m5 : Mem) (m7 : Mem) (x2 : Int32) (x3 : Int32) (x4 : Int32) : Option (Int32 × Mem) :=
  (nm (α := Mem) (upA m7 1 (fillf 7 0 (m7 1))) (fun w11 => (nm (α := Int32) ((1 <<< (x4 &&& 31)) - 1) (fun x12 => (nm (α := Mem) (up w11 0 1 x12) (fun w13 => (f_X1_countSitters_L25 (fun (u23 : Int32) (w24 : Mem) => (some (1, w24))) x2 x3 x4 m5 x12 100000 0 w13)))))))
def f_X7_gloves (m1 : Mem) (m5 : Mem) (m7 : Mem) (m11 : Mem) (x1 : Int32) (x2 : Int32) (x3 : Int32) : Option (Int32 × Mem × Mem) :=
  (if (m1 0 6) = 0 then (some ((-1000002), m7, m11)) else ((f_X7_isRow x1).bind (fun r11 => (if r11 = 0 then (some ((-1000001), m7, m11)) else (if x2 < (1 : Int32) then (some ((-1000001), m7, m11)) else (if (40 : Int32) < x2 then (some ((-1000001), m7, m11)) else (if x3 < 0 then (some ((-1000001), m7, m11)) else (if x3 ≤ (1 : Int32) then ((f_X6_isMissing m5 x1).bind (fun r12 => (if r12 = 0 then ((f_X6_hasStretch m5 x1 (0 : Int32) x2).bind (fun r13 => (if r13 = 0 then ((f_X7_found m11 (2 : Int32)).bind (fun r18 => (some (r18.1, m7, r18.2)))) else ((f_X1_countSitters m5 m7 x1 x2 (m1 0 6)).bind (fun r14 => (if r14.1 = 0 then (some ((-1000001), r14.2, m11)) else (if x3 = 0 then ((f_X7_fine m11 (r14.2 0 1)).bind (fun r17 => (some (r17.1, r14.2, r17.2)))) else ((f_X1_firstOfMost r14.2 (m1 0 6)).bind (fun r15 => ((f_X7_fine m11 r15).bind (fun r16 => (some (r16.1, r14.2, r16.2))))))))))))) else ((f_X7_found m11 (1 : Int32)).bind (fun r19 => (some (r19.1, m7, r19.2))))))) else (some ((-1000001), m7, m11))))))))))
def f_X3_takeFrom (m1 : Mem) (m9 : Mem) : Option (Mem) :=
  (gd (decide (m9 0 0 = 0 ∨ m9 0 0 = 1)) (nm (α := Mem) (up m1 0 0 (m9 0 0)) (fun w11 => (nm (α := Mem) (up w11 0 1 (m9 0 1)) (fun w12 => (nm (α := Mem) (up w12 0 2 (m9 0 2)) (fun w13 => (nm (α := Mem) (up w13 0 3 (m9 0 3)) (fun w14 => (nm (α := Mem) (up w14 0 4 (m9 0 4)) (fun w15 => (nm (α := Mem) (up w15 0 5 (m9 0 5)) (fun w16 => (nm (α := Mem) (up w16 0 6 (m9 0 6)) (fun w17 => (nm (α := Mem) (up w17 0 7 (m9 0 7)) (fun w18 => (nm (α := Mem) (up w18 0 8 (m9 0 8)) (fun w19 => (nm (α := Mem) (up w19 0 9 (m9 0 9)) (fun w20 => (gd (cpok 0 0 64 64 64) (nm (α := Mem) (upA w20 11 (va_cpy (m9 11) (w20 11) (0 : Int32).toNatClampNeg (0 : Int32).toNatClampNeg (64 : Int32).toNatClampNeg)) (fun w21 => (gd (cpok 0 0 7 7 7) (nm (α := Mem) (upA w21 12 (va_cpy (m9 12) (w21 12) (0 : Int32).toNatClampNeg (0 : Int32).toNatClampNeg (7 : Int32).toNatClampNeg)) (fun w22 => (gd (cpok 0 0 7 7 7) (nm (α := Mem) (upA w22 13 (va_cpy (m9 13) (w22 13) (0 : Int32).toNatClampNeg (0 : Int32).toNatClampNeg (7 : Int32).toNatClampNeg)) (fun w23 => (gd (cpok 0 0 7 7 7) (nm (α := Mem) (upA w23 14 (va_cpy (m9 14) (w23 14) (0 : Int32).toNatClampNeg (0 : Int32).toNatClampNeg (7 : Int32).toNatClampNeg)) (fun w24 => (gd (cpok 0 0 7 7 7) (nm (α := Mem) (upA w24 15 (va_cpy (m9 15) (w24 15) (0 : Int32).toNatClampNeg (0 : Int32).toNatClampNeg (7 : Int32).toNatClampNeg)) (fun w25 => (gd (cpok 0 0 3 3 3) (nm (α := Mem) (upA w25 16 (va_cpy (m9 16) (w25 16) (0 : Int32).toNatClampNeg (0 : Int32).toNatClampNeg (3 : Int32).toNatClampNeg)) (fun w26 => (gd (cpok 0 0 3 3 3) (nm (α := Mem) (upA w26 17 (va_cpy (m9 17) (w26 17) (0 : Int32).toNatClampNeg (0 : Int32).toNatClampNeg (3 : Int32).toNatClampNeg)) (fun w27 => (gd (cpok 0 0 3 3 3) (nm (α := Mem) (upA w27 18 (va_cpy (m9 18) (w27 18) (0 : Int32).toNatClampNeg (0 : Int32).toNatClampNeg (3 : Int32).toNatClampNeg)) (fun w28 => (some w28))))))))))))))))))))))))))))))))))))))))))))))
def f_X7_image (m1 : Mem) (m9 : Mem) (m10 : Mem) (x1 : Int32) : Option (Int32 × Mem × Mem) :=
  (if x1 < 0 then (some ((-1000001), m9, m10)) else (if x1 < (2 : Int32) then (if (m1 0 0) = 0 then (some ((-1000002), m9, m10)) else (gd (inb x1 2) (if x1 = 0 then ((f_X3_takeFrom m9 m1).bind (fun r12 => (some (1, r12, m10)))) else (if x1 = 1 then ((f_X3_takeFrom m10 m1).bind (fun r13 => (some (1, m9, r13)))) else none)))) else (some ((-1000001), m9, m10))))
def f_X7_restore (m1 : Mem) (m3 : Mem) (m6 : Mem) (m9 : Mem) (m10 : Mem) (x1 : Int32) : Option (Int32 × Mem × Mem × Mem) :=
  (if x1 < 0 then (some ((-1000001), m1, m3, m6)) else (if x1 < (2 : Int32) then (gd (inb x1 2) (if x1 = 0 then (if (m9 0 0) = 0 then (some ((-1000002), m1, m3, m6)) else (gd (inb x1 2) (if x1 = 0 then ((f_X3_takeFrom m1 m9).bind (fun r13 => ((f_X7_beginAnew m3 m6).bind (fun r14 => (some (1, r13, r14.1, r14.2)))))) else (if x1 = 1 then ((f_X3_takeFrom m1 m10).bind (fun r15 => ((f_X7_beginAnew m3 m6).bind (fun r16 => (some (1, r15, r16.1, r16.2)))))) else none)))) else (if x1 = 1 then (if (m10 0 0) = 0 then (some ((-1000002), m1, m3, m6)) else (gd (inb x1 2) (if x1 = 0 then ((f_X3_takeFrom m1 m9).bind (fun r18 => ((f_X7_beginAnew m3 m6).bind (fun r19 => (some (1, r18, r19.1, r19.2)))))) else (if x1 = 1 then ((f_X3_takeFrom m1 m10).bind (fun r20 => ((f_X7_beginAnew m3 m6).bind (fun r21 => (some (1, r20, r21.1, r21.2)))))) else none)))) else none))) else (some ((-1000001), m1, m3, m6))))
def f_X7_kind (m1 : Mem) (x1 : Int32) : Option (Int32) :=
  ((f_X3_hasPerson m1 x1).bind (fun r11 => (if r11 = 0 then (some (-1000001)) else (gd (inb x1 7) (some (m1 12 x1.toNatClampNeg))))))
def f_X7_as (m1 : Mem) (m11 : Mem) (x1 : Int32) (x2 : Int32) : Option (Int32 × Mem) :=
  ((f_X3_hasPerson m1 x1).bind (fun r11 => (if r11 = 0 then (some ((-1000001), m11)) else (if x2 < 0 then (some ((-1000001), m11)) else (if x2 ≤ (5 : Int32) then (gd (inb x1 7) ((f_X7_isOfKind (m1 12 x1.toNatClampNeg) x2).bind (fun r12 => (if r12 = 0 then ((f_X7_found m11 (3 : Int32)).bind (fun r13 => (some (r13.1, r13.2)))) else ((f_X7_fine m11 x1).bind (fun r14 => (some (r14.1, r14.2)))))))) else (some ((-1000001), m11)))))))
def f_X0_pose_L26 (fs : Mem → Mem → Int32 → Int32 → Int32 → Option (Int32 × Mem)) (k : Int32 → Int32 → Option (Int32 × Mem)) : Nat → Int32 → Int32 → Option (Int32 × Mem)
  | 0, _, _ => none
  | t + 1, u12, u13 =>
    (if (6 : Int32) ≤ u13 then (k u12 u13) else (if u12 ≤ 0 then (k u12 u13) else (gd (inb u12 6) (if (sta 2 u12.toNatClampNeg) = 0 then (gd (inb u12 6) (nm (α := Int32) (sta 0 u12.toNatClampNeg) (fun x14 => (f_X0_pose_L26 fs k t x14 (u13 + 1))))) else (k u12 u13)))))
def f_X0_pose_L26b (fs : Mem → Mem → Int32 → Int32 → Int32 → Option (Int32 × Mem)) (k : Int32 → Int32 → Option (Int32 × Mem)) : Nat → Int32 → Int32 → Option (Int32 × Mem)
  | 0, _, _ => none
  | t + 1, u19, u20 =>
    (if (6 : Int32) ≤ u20 then (k u19 u20) else (if u19 ≤ 0 then (k u19 u20) else (gd (inb u19 6) (if (sta 1 u19.toNatClampNeg) = 0 then (gd (inb u19 6) (nm (α := Int32) (sta 0 u19.toNatClampNeg) (fun x21 => (f_X0_pose_L26b fs k t x21 (u20 + 1))))) else (k u19 u20)))))
def f_X0_pose (fs : Mem → Mem → Int32 → Int32 → Int32 → Option (Int32 × Mem)) (m1 : Mem) (m8 : Mem) (x2 : Int32) (x3 : Int32) (x4 : Int32) : Option (Int32 × Mem) :=
  (if x3 = 0 then (gd (inb x2 7) (nm (α := Int32) (m1 12 x2.toNatClampNeg) (fun x18 => (f_X0_pose_L26b fs (fun (u22 : Int32) (u23 : Int32) => (gd (inb (if u22 < (0 : Int32) then (0 : Int32) else u22) 6) ((fs m1 m8 x2 (sta 1 (if u22 < (0 : Int32) then (0 : Int32) else u22).toNatClampNeg) x4).bind (fun r24 => (some (r24.1, r24.2))))))  100000 x18 0)))) else (gd (inb x2 7) (nm (α := Int32) (m1 12 x2.toNatClampNeg) (fun x11 => (f_X0_pose_L26 fs (fun (u15 : Int32) (u16 : Int32) => (gd (inb (if u15 < (0 : Int32) then (0 : Int32) else u15) 6) ((fs m1 m8 x2 (sta 2 (if u15 < (0 : Int32) then (0 : Int32) else u15).toNatClampNeg) x4).bind (fun r17 => (some (r17.1, r17.2))))))  100000 x11 0)))))
def f_X0_leave (m8 : Mem) (x1 : Int32) : Option (Mem) :=
  (if (16 : Int32) ≤ (m8 0 1) then (some m8) else (gd (inb (m8 0 1) 16) (nm (α := Mem) (up m8 1 (m8 0 1).toNatClampNeg x1) (fun w11 => (nm (α := Mem) (up w11 0 1 ((w11 0 1) + 1)) (fun w12 => (some w12)))))))
def f_X0_begin_B (fs : Mem → Mem → Int32 → Int32 → Int32 → Option (Int32 × Mem)) (m1 : Mem) (m8 : Mem) (x2 : Int32) (x3 : Int32) (x4 : Int32) : Option (Int32 × Mem) :=
  (if x4 ≤ (16 : Int32) then ((f_X0_leave m8 x3).bind (fun r11 => (nm (α := Int32) (x4 + 1) (fun x12 => (if x3 = 10 then (gd (inb x2 7) (some (m1 14 x2.toNatClampNeg, r11))) else (if x3 = 11 then ((fs m1 r11 x2 (10 : Int32) x12).bind (fun r13 => ((f_X0_pose  fs m1 r13.2 x2 (1 : Int32) x12).bind (fun r14 => (some (r13.1 + r14.1, r14.2)))))) else (if x3 = 12 then ((fs m1 r11 x2 (11 : Int32) x12).bind (fun r15 => (some (-r15.1, r15.2)))) else (if x3 = 13 then ((fs m1 r11 x2 (10 : Int32) x12).bind (fun r16 => (some (r16.1 - 100, r16.2)))) else (if x3 = 14 then ((fs m1 r11 x2 (13 : Int32) x12).bind (fun r17 => (some (2 * r17.1, r17.2)))) else (if x3 = 15 then ((fs m1 r11 x2 (21 : Int32) x12).bind (fun r18 => (some (2 * r18.1, r18.2)))) else (if x3 = 16 then ((fs m1 r11 x2 (21 : Int32) x12).bind (fun r19 => (some (2 * r19.1, r19.2)))) else (if x3 = 17 then ((fs m1 r11 x2 (21 : Int32) x12).bind (fun r20 => (some (2 * r20.1, r20.2)))) else (if x3 = 18 then ((fs m1 r11 x2 (21 : Int32) x12).bind (fun r21 => (some (2 * r21.1, r21.2)))) else (if x3 = 19 then ((fs m1 r11 x2 (21 : Int32) x12).bind (fun r22 => (some (2 * r22.1, r22.2)))) else (if x3 = 20 then (some (x2, r11)) else (if x3 = 21 then ((fs m1 r11 x2 (20 : Int32) x12).bind (fun r23 => (gd (inb x2 7) (some (r23.1 + (10 * (m1 13 x2.toNatClampNeg)), r23.2))))) else (if x3 = 22 then ((fs m1 r11 x2 (21 : Int32) x12).bind (fun r24 => (some (r24.1 - 1000, r24.2)))) else (if x3 = 23 then ((fs m1 r11 x2 (20 : Int32) x12).bind (fun r25 => ((f_X0_pose  fs m1 r25.2 x2 (0 : Int32) x12).bind (fun r26 => (some (r25.1 - r26.1, r26.2)))))) else ((fs m1 r11 x2 (21 : Int32) x12).bind (fun r27 => (some (2 * r27.1, r27.2)))))))))))))))))))))) else (some (0, m8)))
def f_X0_begin : Nat → Mem → Mem → Int32 → Int32 → Int32 → Option (Int32 × Mem)
  | 0, _, _, _, _, _ => none
  | n + 1, m1, m8, x2, x3, x4 => f_X0_begin_B (f_X0_begin n) m1 m8 x2 x3 x4
def f_X0_forget (m8 : Mem) : Option (Mem) :=
  (nm (α := Mem) (up m8 0 1 0) (fun w11 => (some w11)))
def f_X7_ask (m1 : Mem) (m8 : Mem) (x1 : Int32) (x2 : Int32) : Option (Int32 × Mem) :=
  ((f_X3_hasPerson m1 x1).bind (fun r11 => (if r11 = 0 then (some ((-1000001), m8)) else (if x2 < 0 then (some ((-1000001), m8)) else (if x2 ≤ (1 : Int32) then ((f_X0_forget m8).bind (fun r12 => ((f_X0_pose (f_X0_begin 28) m1 r12 x1 x2 (0 : Int32)).bind (fun r13 => (some (r13.1, r13.2)))))) else (some ((-1000001), m8)))))))
def f_X7_trace (m8 : Mem) (x1 : Int32) : Option (Int32) :=
  (if x1 < 0 then (some (-1000000)) else (if (m8 0 1) ≤ x1 then (some (-1000000)) else (gd (inb x1 16) (some (m8 1 x1.toNatClampNeg)))))
def f_X6_present_L4 (k : Int32 → Int32 → Option (Int32)) (m5 : Mem) : Nat → Int32 → Int32 → Option (Int32)
  | 0, _, _ => none
  | t + 1, u11, u12 =>
    (if (8 : Int32) ≤ u12 then (k u11 u12) else ((f_X6_isMissing m5 u12).bind (fun r13 => (if r13 = 0 then (f_X6_present_L4 k m5 t (u11 + 1) (u12 + 1)) else (f_X6_present_L4 k m5 t u11 (u12 + 1))))))
def f_X6_present (m5 : Mem) : Option (Int32) :=
  (f_X6_present_L4 (fun (u14 : Int32) (u15 : Int32) => (some u14)) m5 100000 0 0)
def f_X3_glassesInAll_L4 (k : Int32 → Int32 → Option (Int32)) (m1 : Mem) : Nat → Int32 → Int32 → Option (Int32)
  | 0, _, _ => none
  | t + 1, u11, u12 =>
    (if (m1 0 6) ≤ u12 then (k u11 u12) else (gd (inb u12 7) (nm (α := Int32) (u11 + (m1 14 u12.toNatClampNeg)) (fun x13 => (f_X3_glassesInAll_L4 k m1 t x13 (u12 + 1))))))
def f_X3_glassesInAll (m1 : Mem) : Option (Int32) :=
  (f_X3_glassesInAll_L4 (fun (u14 : Int32) (u15 : Int32) => (some u14)) m1 100000 0 0)
def f_X7_count (m1 : Mem) (m4 : Mem) (m5 : Mem) (m6 : Mem) (x1 : Int32) : Option (Int32) :=
  (if x1 = 0 then ((f_X6_present m5).bind (fun r11 => (some r11))) else (if x1 = 1 then (some (m1 0 6)) else (if x1 = 2 then (some (m1 0 7)) else (if x1 = 3 then (some (m1 0 5)) else (if x1 = 4 then (some (m6 0 2)) else (if x1 = 5 then ((f_X3_glassesInAll m1).bind (fun r12 => (some r12))) else (if x1 = 6 then (some (m4 0 1)) else (some (-1000001)))))))))
def f_X7_status (m11 : Mem) : Option (Int32) :=
  (some (m11 0 9))
