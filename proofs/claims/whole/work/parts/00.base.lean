abbrev Mem : Type := Nat → Nat → Int32
def z0 : Mem := fun _ _ => 0
def upA (m : Mem) (s : Nat) (f : Nat → Int32) : Mem := fun s' => if s' = s then f else m s'
def up (m : Mem) (s i : Nat) (v : Int32) : Mem := upA m s (upd (m s) i v)
def stV : List (List Int32) := [[-1, 0, 1, 1, 0, 4], [10, 11, 0, 12, 13, 14], [20, 21, 22, 24, 23, 0]]
def swB : List (List Int32) := [[108, 97, 119], [119, 97, 121], [104, 105, 108, 108], [112, 101, 114, 115, 111, 110], [99, 97, 114], [113, 117, 97, 114, 114, 101, 108], [112, 108, 97, 105, 110], [115, 105, 99, 107], [99, 104, 105, 108, 100], [100, 114, 105, 118, 101, 114], [115, 116, 114, 97, 110, 103, 101, 114]]
def swL : List Nat := [3, 3, 4, 6, 3, 7, 5, 4, 5, 6, 8]
def nm {α : Type} {R : Type} (a : α) (k : α → Option R) : Option R := k a
def gd {R : Type} (b : Bool) (x : Option R) : Option R := if b = true then x else none
def inb (i : Int32) (n : Nat) : Bool := decide (¬ (i < 0 ∨ n ≤ i.toNatClampNeg))
def cpok (sp dp n : Int32) (n0 n1 : Nat) : Bool := decide ((¬ sp < 0) ∧ (¬ dp < 0) ∧ (¬ n < 0) ∧ sp.toNatClampNeg + n.toNatClampNeg ≤ n0 ∧ dp.toNatClampNeg + n.toNatClampNeg ≤ n1)
def sta (i : Nat) (j : Nat) : Int32 := (stV.getD i []).getD j 0
def jn {α : Type} {R : Type} (X : (α → Option R) → Option R) (k : α → Option R) : Option R := X k
def f_J6_bitCount_0f7a4 (x0 : Int32) : Option (Int32) :=
  (nm (α := Int32) (x0 - (((x0.toUInt32 >>> ((1 : Int32).toUInt32 &&& Int32.toUInt32 31)).toInt32) &&& 1431655765)) (fun x11 => (nm (α := Int32) ((x11 &&& 858993459) + (((x11.toUInt32 >>> ((2 : Int32).toUInt32 &&& Int32.toUInt32 31)).toInt32) &&& 858993459)) (fun x12 => (nm (α := Int32) ((x12 + ((x12.toUInt32 >>> ((4 : Int32).toUInt32 &&& Int32.toUInt32 31)).toInt32)) &&& 252645135) (fun x13 => (nm (α := Int32) (x13 + ((x13.toUInt32 >>> ((8 : Int32).toUInt32 &&& Int32.toUInt32 31)).toInt32)) (fun x14 => (nm (α := Int32) (x14 + ((x14.toUInt32 >>> ((16 : Int32).toUInt32 &&& Int32.toUInt32 31)).toInt32)) (fun x15 => (some (x15 &&& 63))))))))))))
def bitc (x : Int32) : Int32 := ((f_J6_bitCount_0f7a4 x).getD 0)
def stl (i : Nat) : Int32 := Int32.ofNat (swL.getD i 0)
def stc (i j : Nat) : Int32 := (swB.getD i []).getD j 0
def fillf (n : Nat) (v : Int32) (f : Nat → Int32) : Nat → Int32 := fun j => if j < n then v else f j
abbrev M12 : Type := Mem × Mem × Mem × Mem × Mem × Mem × Mem × Mem × Mem × Mem × Mem × Mem
def swv (v : Int32) : Int32 := if v = 1 then 2 else if v = 2 then 1 else v
def sw11 (m : Mem) : Mem := up (up m 0 7 (swv (m 0 7))) 0 8 (swv (m 0 8))
def swap12 (r : M12) : M12 := (r.1, r.2.2.1, r.2.1, r.2.2.2.1, r.2.2.2.2.1, r.2.2.2.2.2.1, r.2.2.2.2.2.2.1, r.2.2.2.2.2.2.2.1, r.2.2.2.2.2.2.2.2.1, r.2.2.2.2.2.2.2.2.2.1, r.2.2.2.2.2.2.2.2.2.2.1, sw11 r.2.2.2.2.2.2.2.2.2.2.2)
def f_X8_in (x0 : Int64) (x2 : Int64) (x4 : Int64) : Option (Int32) :=
  (if (lg_cmp x0 x2) < 0 then (some 0) else (if 0 < (lg_cmp x0 x4) then (some 0) else (some 1)))
def f_X8_isRow (x0 : Int32) : Option (Int32) :=
  ((f_X8_in x0.toInt64 (0 : Int64) (7 : Int64)).bind (fun r11 => (gd (decide (r11 = 0 ∨ r11 = 1)) (some r11))))
def f_X8_finding (m0 : Mem) (x1 : Int32) : Option (Int32 × Mem) :=
  (nm (α := Mem) (up m0 0 1 x1) (fun w11 => (some ((-1000010) - x1, w11))))
def f_X8_row_L65 (k : Int32 → Mem → Option (Int32 × Mem)) (x1 : Int32) : Nat → Int32 → Mem → Option (Int32 × Mem)
  | 0, _, _ => none
  | t + 1, u17, w18 =>
    (if (40 : Int32) ≤ u17 then (k u17 w18) else (gd (inb ((40 * x1) + u17) 320) (nm (α := Mem) (up w18 5 ((40 * x1) + u17).toNatClampNeg 0) (fun w19 => (f_X8_row_L65 k x1 t (u17 + 1) w19)))))
def f_X8_row (m0 : Mem) (x1 : Int32) (x2 : Int32) (x3 : Int32) : Option (Int32 × Mem) :=
  (nm (α := Mem) (up m0 0 0 0) (fun w11 => ((f_X8_isRow x1).bind (fun r12 => (if r12 = 0 then (some ((-1000001), w11)) else ((f_X8_in x2.toInt64 (0 : Int64) (2 : Int64)).bind (fun r13 => (if r13 = 0 then (some ((-1000001), w11)) else (if x3 ≤ (40 : Int32) then (nm (α := Mem) (up w11 0 1 0) (fun w14 => (if 0 ≤ x3 then (gd (inb x1 8) (nm (α := Mem) (up w14 3 x1.toNatClampNeg x2) (fun w15 => (gd (inb x1 8) (nm (α := Mem) (up w15 4 x1.toNatClampNeg x3) (fun w16 => (f_X8_row_L65 (fun (u20 : Int32) (w21 : Mem) => (some (x3, w21))) x1 100000 0 w16))))))) else ((f_X8_finding w14 (4 : Int32)).bind (fun r22 => (some (r22.1, r22.2))))))) else (some ((-1000001), w11)))))))))))
def f_X8_set (m0 : Mem) (x1 : Int32) (x2 : Int32) (x3 : Int32) : Option (Int32 × Mem) :=
  (nm (α := Mem) (up m0 0 0 0) (fun w11 => ((f_X8_isRow x1).bind (fun r12 => (if r12 = 0 then (some ((-1000001), w11)) else (nm (α := Mem) (up w11 0 1 0) (fun w13 => (gd (inb x1 8) (if 0 ≤ (w13 3 x1.toNatClampNeg) then (gd (inb x1 8) ((f_X8_in x2.toInt64 (0 : Int64) (((w13 4 x1.toNatClampNeg) - 1).toInt64)).bind (fun r14 => (if r14 = 0 then ((f_X8_finding w13 (2 : Int32)).bind (fun r18 => (some (r18.1, r18.2)))) else (gd (inb x1 8) (if (w13 3 x1.toNatClampNeg) = 0 then (gd (inb ((40 * x1) + x2) 320) (nm (α := Mem) (up w13 5 ((40 * x1) + x2).toNatClampNeg x3.toInt8.toInt32) (fun w17 => (gd (inb ((40 * x1) + x2) 320) (some (w17 5 ((40 * x1) + x2).toNatClampNeg, w17)))))) else (gd (inb x1 8) (if (w13 3 x1.toNatClampNeg) = (1 : Int32) then (gd (inb ((40 * x1) + x2) 320) (nm (α := Mem) (up w13 5 ((40 * x1) + x2).toNatClampNeg x3.toInt16.toInt32) (fun w16 => (gd (inb ((40 * x1) + x2) 320) (some (w16 5 ((40 * x1) + x2).toNatClampNeg, w16)))))) else (gd (inb ((40 * x1) + x2) 320) (nm (α := Mem) (up w13 5 ((40 * x1) + x2).toNatClampNeg x3) (fun w15 => (gd (inb ((40 * x1) + x2) 320) (some (w15 5 ((40 * x1) + x2).toNatClampNeg, w15)))))))))))))) else ((f_X8_finding w13 (1 : Int32)).bind (fun r19 => (some (r19.1, r19.2)))))))))))))
def f_X8_copy_L143 (k : Int32 → Mem → Option (Int32 × Mem)) (x1 : Int32) (x2 : Int32) (x3 : Int32) (x4 : Int32) (x5 : Int32) (a20 : Int32) : Nat → Int32 → Mem → Option (Int32 × Mem)
  | 0, _, _ => none
  | t + 1, u22, w23 =>
    (if x5 ≤ u22 then (k u22 w23) else (nm (α := Int32) (if a20 = 0 then (((x5 - 1) - u22)) else u22) (fun a24 => (gd (inb (((40 * x1) + x2) + a24) 320) (gd (inb (((40 * x3) + x4) + a24) 320) (nm (α := Mem) (up w23 5 (((40 * x3) + x4) + a24).toNatClampNeg (w23 5 (((40 * x1) + x2) + a24).toNatClampNeg)) (fun w26 => (f_X8_copy_L143 k x1 x2 x3 x4 x5 a20 t (u22 + 1) w26))))))))
def f_X8_copy (m0 : Mem) (x1 : Int32) (x2 : Int32) (x3 : Int32) (x4 : Int32) (x5 : Int32) : Option (Int32 × Mem) :=
  (nm (α := Mem) (up m0 0 0 0) (fun w11 => ((f_X8_isRow x1).bind (fun r12 => (if r12 = 0 then (some ((-1000001), w11)) else ((f_X8_isRow x3).bind (fun r13 => (if r13 = 0 then (some ((-1000001), w11)) else (nm (α := Mem) (up w11 0 1 0) (fun w14 => (gd (inb x1 8) (if (w14 3 x1.toNatClampNeg) < 0 then ((f_X8_finding w14 (1 : Int32)).bind (fun r15 => (some (r15.1, r15.2)))) else (gd (inb x3 8) (if 0 ≤ (w14 3 x3.toNatClampNeg) then (gd (inb x1 8) (gd (inb x3 8) (if (w14 3 x1.toNatClampNeg) = (w14 3 x3.toNatClampNeg) then (if x2 < 0 then ((f_X8_finding w14 (2 : Int32)).bind (fun r16 => (some (r16.1, r16.2)))) else (if x4 < 0 then ((f_X8_finding w14 (2 : Int32)).bind (fun r17 => (some (r17.1, r17.2)))) else (if x5 < 0 then ((f_X8_finding w14 (2 : Int32)).bind (fun r18 => (some (r18.1, r18.2)))) else (gd (inb x1 8) (if 0 < (lg_cmp (x2.toInt64 + x5.toInt64) ((w14 4 x1.toNatClampNeg).toInt64)) then ((f_X8_finding w14 (2 : Int32)).bind (fun r19 => (some (r19.1, r19.2)))) else (gd (inb x3 8) (if (lg_cmp (x4.toInt64 + x5.toInt64) ((w14 4 x3.toNatClampNeg).toInt64)) ≤ 0 then (nm (α := Int32) (if x2 < x4 then 0 else 1) (fun a20 => (f_X8_copy_L143 (fun (u27 : Int32) (w28 : Mem) => (some (x5, w28))) x1 x2 x3 x4 x5 a20 100000 0 w14))) else ((f_X8_finding w14 (2 : Int32)).bind (fun r29 => (some (r29.1, r29.2))))))))))) else ((f_X8_finding w14 (5 : Int32)).bind (fun r30 => (some (r30.1, r30.2))))))) else ((f_X8_finding w14 (1 : Int32)).bind (fun r31 => (some (r31.1, r31.2))))))))))))))))))
def f_X8_drop (m0 : Mem) (x1 : Int32) : Option (Int32 × Mem) :=
  (nm (α := Mem) (up m0 0 0 0) (fun w11 => ((f_X8_isRow x1).bind (fun r12 => (if r12 = 0 then (some ((-1000001), w11)) else (nm (α := Mem) (up w11 0 1 0) (fun w13 => (gd (inb x1 8) (if 0 ≤ (w13 3 x1.toNatClampNeg) then (gd (inb x1 8) (nm (α := Mem) (up w13 3 x1.toNatClampNeg (-1)) (fun w14 => (gd (inb x1 8) (some (w14 4 x1.toNatClampNeg, w14)))))) else ((f_X8_finding w13 (1 : Int32)).bind (fun r15 => (some (r15.1, r15.2)))))))))))))
def f_X8_feed_L40 (k : Int32 → Mem → Option (Int32 × Mem)) (x1 : Int64) : Nat → Int32 → Mem → Option (Int32 × Mem)
  | 0, _, _ => none
  | t + 1, u14, w15 =>
    (if u14 < 0 then (k u14 w15) else (gd (inb (w15 0 12) 500) (nm (α := Mem) (up w15 12 (w15 0 12).toNatClampNeg (((x1 >>> ((8 * u14).toInt64 &&& 63)) &&& 255).toInt32)) (fun w16 => (nm (α := Mem) (up w16 0 12 ((w16 0 12) + 1)) (fun w17 => (f_X8_feed_L40 k x1 t (u14 + (-1)) w17)))))))
def f_X8_feed (m0 : Mem) (x1 : Int64) (x3 : Int32) : Option (Int32 × Mem) :=
  (nm (α := Mem) (up m0 0 0 0) (fun w11 => ((f_X8_in x3.toInt64 (1 : Int64) (8 : Int64)).bind (fun r12 => (if r12 = 0 then (some ((-1000001), w11)) else (if ((w11 0 12) + x3) ≤ (500 : Int32) then (nm (α := Int32) (x3 - 1) (fun x13 => (f_X8_feed_L40 (fun (u18 : Int32) (w19 : Mem) => (some (w19 0 12, w19))) x1 100000 x13 w11))) else (some ((-1000003), w11))))))))
def f_X8_byteAt (m0 : Mem) (x1 : Int32) : Option (Int32) :=
  (if (m0 0 14) ≤ x1 then (some (-1000000)) else (gd (inb x1 500) (some (m0 12 x1.toNatClampNeg))))
def f_X8_isLetter (x0 : Int32) : Option (Int32) :=
  (if x0 < (97 : Int32) then (some 0) else (if (122 : Int32) < x0 then (some 0) else (some 1)))
def f_X8_isFigure (x0 : Int32) : Option (Int32) :=
  (if x0 < (48 : Int32) then (some 0) else (if (57 : Int32) < x0 then (some 0) else (some 1)))
def f_X8_next_L0 (k : Mem → Option (Mem)) : Nat → Mem → Option (Mem)
  | 0, _ => none
  | t + 1, w11 =>
    ((f_X8_byteAt w11 (w11 0 15)).bind (fun r12 => (if r12 = (32 : Int32) then (nm (α := Mem) (up w11 0 15 ((w11 0 15) + 1)) (fun w14 => (f_X8_next_L0 k t w14))) else ((f_X8_byteAt w11 (w11 0 15)).bind (fun r15 => (if r15 = (10 : Int32) then (nm (α := Mem) (up w11 0 15 ((w11 0 15) + 1)) (fun w16 => (f_X8_next_L0 k t w16))) else (k w11)))))))
def f_X8_next_L119 (k : Mem → Option (Mem)) : Nat → Mem → Option (Mem)
  | 0, _ => none
  | t + 1, w27 =>
    ((f_X8_byteAt w27 (w27 0 15)).bind (fun r28 => ((f_X8_isFigure r28).bind (fun r29 => (if r29 = 0 then (k w27) else (nm (α := Mem) (up w27 0 15 ((w27 0 15) + 1)) (fun w30 => (f_X8_next_L119 k t w30))))))))
def f_X8_next_L77 (k : Mem → Option (Mem)) : Nat → Mem → Option (Mem)
  | 0, _ => none
  | t + 1, w36 =>
    ((f_X8_byteAt w36 (w36 0 15)).bind (fun r37 => ((f_X8_isLetter r37).bind (fun r38 => (if r38 = 0 then (k w36) else (nm (α := Mem) (up w36 0 15 ((w36 0 15) + 1)) (fun w39 => (f_X8_next_L77 k t w39))))))))
def f_X8_next (m0 : Mem) : Option (Mem) :=
  (f_X8_next_L0 (fun (w17 : Mem) => (nm (α := Mem) (up w17 0 17 (w17 0 15)) (fun w18 => ((f_X8_byteAt w18 (w18 0 15)).bind (fun r19 => (if r19 = ((-1000000) : Int32) then (nm (α := Mem) (up w18 0 16 1) (fun w43 => (nm (α := Mem) (up w43 0 18 (w43 0 15)) (fun w44 => (some w44))))) else ((f_X8_isLetter r19).bind (fun r20 => (if r20 = 0 then ((f_X8_isFigure r19).bind (fun r21 => (if r21 = 0 then (nm (α := Mem) (up w18 0 15 ((w18 0 15) + 1)) (fun w22 => (if r19 = (59 : Int32) then (nm (α := Mem) (up w22 0 16 4) (fun w25 => (nm (α := Mem) (up w25 0 18 (w25 0 15)) (fun w26 => (some w26))))) else (nm (α := Mem) (up w22 0 16 0) (fun w23 => (nm (α := Mem) (up w23 0 18 (w23 0 15)) (fun w24 => (some w24)))))))) else (f_X8_next_L119 (fun (w31 : Mem) => (if ((w31 0 15) - (w31 0 17)) ≤ (3 : Int32) then (nm (α := Mem) (up w31 0 16 3) (fun w32 => (nm (α := Mem) (up w32 0 18 (w32 0 15)) (fun w33 => (some w33))))) else (nm (α := Mem) (up w31 0 16 0) (fun w34 => (nm (α := Mem) (up w34 0 18 (w34 0 15)) (fun w35 => (some w35)))))))  100000 w18)))) else (f_X8_next_L77 (fun (w40 : Mem) => (nm (α := Mem) (up w40 0 16 2) (fun w41 => (nm (α := Mem) (up w41 0 18 (w41 0 15)) (fun w42 => (some w42))))))  100000 w18))))))))))  100000 m0)
def f_X8_begin (m0 : Mem) : Option (Mem) :=
  (nm (α := Mem) (up m0 0 14 (m0 0 12)) (fun w11 => (nm (α := Mem) (up w11 0 12 0) (fun w12 => (nm (α := Mem) (up w12 0 15 0) (fun w13 => (nm (α := Mem) (up w13 0 19 0) (fun w14 => ((f_X8_next w14).bind (fun r15 => (some r15)))))))))))
def f_X8_name_L7 (k : Int64 → Int32 → Option (Int64)) (m0 : Mem) : Nat → Int64 → Int32 → Option (Int64)
  | 0, _, _ => none
  | t + 1, u12, u13 =>
    (if (m0 0 18) ≤ u13 then (k u12 u13) else (if (m0 0 16) = (2 : Int32) then (if (9 : Int32) ≤ ((m0 0 18) - (m0 0 17)) then (k u12 u13) else (gd (inb u13 500) (nm (α := Int64) ((u12 <<< ((8 : Int32).toInt64 &&& 63)) ||| ((m0 12 u13.toNatClampNeg).toInt64)) (fun x14 => (f_X8_name_L7 k m0 t x14 (u13 + 1)))))) else (k u12 u13)))
def f_X8_name (m0 : Mem) : Option (Int64) :=
  (nm (α := Int32) (m0 0 17) (fun x11 => (f_X8_name_L7 (fun (u15 : Int64) (u16 : Int32) => (if (m0 0 19) = 0 then (some u15) else (some 0))) m0 100000 0 x11)))
def f_X8_bad (m0 : Mem) (x1 : Int32) : Option (Mem) :=
  (if (m0 0 19) = 0 then (nm (α := Mem) (up m0 0 19 x1) (fun w11 => (nm (α := Mem) (up w11 0 20 (w11 0 17)) (fun w12 => (some w12))))) else (some m0))
def f_X8_must (m0 : Mem) (x1 : Int32) : Option (Mem) :=
  (jn (α := Mem) (fun j13 => (if x1 = 0 then ((f_X8_bad m0 (1 : Int32)).bind (fun r11 => (j13 r11))) else (j13 m0))) (fun a12 => (if (a12 0 19) = 0 then ((f_X8_next a12).bind (fun r14 => (some r14))) else (some a12))))
def f_X8_figures_L7 (k : Int32 → Int32 → Option (Int32)) (m0 : Mem) : Nat → Int32 → Int32 → Option (Int32)
  | 0, _, _ => none
  | t + 1, u12, u13 =>
    (if (m0 0 18) ≤ u13 then (k u12 u13) else (if (m0 0 16) = (3 : Int32) then (gd (inb u13 500) (nm (α := Int32) (((10 * u12) + (m0 12 u13.toNatClampNeg)) - 48) (fun x14 => (f_X8_figures_L7 k m0 t x14 (u13 + 1))))) else (k u12 u13)))
def f_X8_figures (m0 : Mem) : Option (Int32) :=
  (nm (α := Int32) (m0 0 17) (fun x11 => (f_X8_figures_L7 (fun (u15 : Int32) (u16 : Int32) => (some u15)) m0 100000 0 x11)))
def f_X8_number (m0 : Mem) (x1 : Int32) (x2 : Int32) : Option (Int32 × Mem) :=
  (if (m0 0 19) ≤ 0 then ((f_X8_figures m0).bind (fun r11 => (jn (α := Mem) (fun j15 => (if (m0 0 16) = (3 : Int32) then ((f_X8_in r11.toInt64 x1.toInt64 x2.toInt64).bind (fun r12 => (if r12 = 0 then ((f_X8_bad m0 (2 : Int32)).bind (fun r13 => (j15 r13))) else (j15 m0)))) else (j15 m0))) (fun a14 => (if (a14 0 16) = (3 : Int32) then ((f_X8_must a14 (1 : Int32)).bind (fun r17 => (some (r11, r17)))) else ((f_X8_must a14 (0 : Int32)).bind (fun r16 => (some (r11, r16))))))))) else (some (0, m0)))
def f_X8_mustEnd (m0 : Mem) : Option (Mem) :=
  (if (m0 0 19) = 0 then (if (m0 0 16) = (4 : Int32) then ((f_X8_must m0 (1 : Int32)).bind (fun r12 => (some r12))) else ((f_X8_must m0 (0 : Int32)).bind (fun r11 => (some r11)))) else (some m0))
def f_X8_begins (m0 : Mem) (x1 : Int32) (x2 : Int32) : Option (Mem) :=
  (gd (inb x1 109) (if (m0 7 x1.toNatClampNeg) = x2 then ((f_X8_bad m0 (3 : Int32)).bind (fun r12 => ((f_X8_must r12 (1 : Int32)).bind (fun r13 => (some r13))))) else ((f_X8_must m0 (1 : Int32)).bind (fun r11 => (some r11)))))
def f_X8_unlike (m0 : Mem) (x1 : Int32) (x2 : Int32) (x3 : Int32) : Option (Int32 × Mem) :=
  (jn (α := Mem) (fun j14 => (if (m0 0 19) = 0 then (if (m0 0 16) = (3 : Int32) then ((f_X8_figures m0).bind (fun r11 => (if r11 = x3 then ((f_X8_bad m0 (2 : Int32)).bind (fun r12 => (j14 r12))) else (j14 m0)))) else (j14 m0)) else (j14 m0))) (fun a13 => ((f_X8_number a13 x1 x2).bind (fun r15 => (some (r15.1, r15.2))))))
def f_X8_readWay (m0 : Mem) : Option (Mem) :=
  ((f_X8_begins m0 (2 : Int32) (16 : Int32)).bind (fun r11 => ((f_X8_number r11 (0 : Int32) (7 : Int32)).bind (fun r12 => (nm (α := Int32) (r12.1) (fun x13 => ((f_X8_unlike r12.2 (0 : Int32) (7 : Int32) x13).bind (fun r14 => (nm (α := Int32) (r14.1) (fun x15 => ((f_X8_number r14.2 (1 : Int32) (99 : Int32)).bind (fun r16 => (nm (α := Int32) (r16.1) (fun x17 => ((f_X8_mustEnd r16.2).bind (fun r18 => (if (r18 0 19) = 0 then (gd (inb ((8 + (8 * x13)) + x15) 109) (jn (α := Int32) (fun j20 => (if x17 ≤ (r18 7 ((8 + (8 * x13)) + x15).toNatClampNeg) then (j20 x17) else (gd (inb ((8 + (8 * x13)) + x15) 109) (j20 (r18 7 ((8 + (8 * x13)) + x15).toNatClampNeg))))) (fun a19 => (gd (inb ((8 + (8 * x13)) + x15) 109) (nm (α := Mem) (up r18 7 ((8 + (8 * x13)) + x15).toNatClampNeg a19) (fun w21 => (gd (inb ((8 + (8 * x15)) + x13) 109) (nm (α := Mem) (up w21 7 ((8 + (8 * x15)) + x13).toNatClampNeg a19) (fun w22 => (gd (inb 2 109) (gd (inb 2 109) (nm (α := Mem) (up w22 7 (2 : Int32).toNatClampNeg ((w22 7 (2 : Int32).toNatClampNeg) + 1)) (fun w23 => (some w23)))))))))))))) else (some r18))))))))))))))))))
def f_X8_readHill (m0 : Mem) : Option (Mem) :=
  ((f_X8_begins m0 (3 : Int32) (7 : Int32)).bind (fun r11 => ((f_X8_number r11 (1 : Int32) (7 : Int32)).bind (fun r12 => (nm (α := Int32) (r12.1) (fun x13 => ((f_X8_mustEnd r12.2).bind (fun r14 => (if (r14 0 19) = 0 then (gd (inb 7 109) (gd (inb 7 109) (nm (α := Mem) (up r14 7 (7 : Int32).toNatClampNeg ((r14 7 (7 : Int32).toNatClampNeg) ||| (1 <<< (x13 &&& 31)))) (fun w15 => (gd (inb 3 109) (gd (inb 3 109) (nm (α := Mem) (up w15 7 (3 : Int32).toNatClampNeg ((w15 7 (3 : Int32).toNatClampNeg) + 1)) (fun w16 => (some w16))))))))) else (some r14))))))))))
def f_X8_kindBy (x0 : Int64) : Option (Int32) :=
  (if (lg_cmp x0 482854660462) = 0 then (some 1) else (if (lg_cmp x0 1936286571) = 0 then (some 4) else (if (lg_cmp x0 426953501796) = 0 then (some 5) else (if (lg_cmp x0 110442558416242) = 0 then (some 2) else (if (lg_cmp x0 8319400174449812850) = 0 then (some 3) else (some (-1000000)))))))
def f_X8_readPerson (m0 : Mem) : Option (Mem) :=
  ((f_X8_begins m0 (4 : Int32) (7 : Int32)).bind (fun r11 => ((f_X8_name r11).bind (fun r12 => ((f_X8_kindBy r12).bind (fun r13 => (jn (α := Mem) (fun j17 => (if (r11 0 19) = 0 then (if r13 = ((-1000000) : Int32) then ((f_X8_must r11 (0 : Int32)).bind (fun r14 => (j17 r14))) else ((f_X8_must r11 (1 : Int32)).bind (fun r15 => (j17 r15)))) else (j17 r11))) (fun a16 => ((f_X8_number a16 (1 : Int32) (7 : Int32)).bind (fun r18 => (nm (α := Int32) (r18.1) (fun x19 => ((f_X8_number r18.2 (0 : Int32) (9 : Int32)).bind (fun r20 => (nm (α := Int32) (r20.1) (fun x21 => ((f_X8_mustEnd r20.2).bind (fun r22 => (if (r22 0 19) = 0 then (gd (inb 4 109) (nm (α := Int32) (72 + (4 * (r22 7 (4 : Int32).toNatClampNeg))) (fun x23 => (gd (inb x23 109) (nm (α := Mem) (up r22 7 x23.toNatClampNeg r13) (fun w24 => (gd (inb (x23 + 1) 109) (nm (α := Mem) (up w24 7 (x23 + 1).toNatClampNeg x19) (fun w25 => (gd (inb (x23 + 2) 109) (nm (α := Mem) (up w25 7 (x23 + 2).toNatClampNeg x21) (fun w26 => (gd (inb 4 109) (gd (inb 4 109) (nm (α := Mem) (up w26 7 (4 : Int32).toNatClampNeg ((w26 7 (4 : Int32).toNatClampNeg) + 1)) (fun w27 => (some w27))))))))))))))))) else (some r22))))))))))))))))))))
def f_X8_isOwner_L4 (k : Int32 → Int32 → Option (Int32)) (x1 : Int32) (m0 : Mem) : Nat → Int32 → Int32 → Option (Int32)
  | 0, _, _ => none
  | t + 1, u11, u12 =>
    (gd (inb 5 109) (if (m0 7 (5 : Int32).toNatClampNeg) ≤ u12 then (k u11 u12) else (if u11 = 0 then (gd (inb (100 + (3 * u12)) 109) (if (m0 7 (100 + (3 * u12)).toNatClampNeg) = x1 then (f_X8_isOwner_L4 k x1 m0 t 1 (u12 + 1)) else (f_X8_isOwner_L4 k x1 m0 t 0 (u12 + 1)))) else (f_X8_isOwner_L4 k x1 m0 t 1 (u12 + 1)))))
def f_X8_isOwner (m0 : Mem) (x1 : Int32) : Option (Int32) :=
  (f_X8_isOwner_L4 (fun (u13 : Int32) (u14 : Int32) => (gd (decide (u13 = 0 ∨ u13 = 1)) (some u13))) x1 m0 100000 0 0)
def f_X8_readCar (m0 : Mem) : Option (Mem) :=
  ((f_X8_begins m0 (5 : Int32) (3 : Int32)).bind (fun r11 => (jn (α := Mem) (fun j16 => (if (r11 0 19) = 0 then (if (r11 0 16) = (3 : Int32) then ((f_X8_figures r11).bind (fun r12 => ((f_X8_isOwner r11 r12).bind (fun r13 => (if r13 = 0 then (j16 r11) else ((f_X8_bad r11 (2 : Int32)).bind (fun r14 => (j16 r14)))))))) else (j16 r11)) else (j16 r11))) (fun a15 => (gd (inb 4 109) ((f_X8_number a15 (0 : Int32) ((a15 7 (4 : Int32).toNatClampNeg) - 1)).bind (fun r17 => (nm (α := Int32) (r17.1) (fun x18 => ((f_X8_number r17.2 (1 : Int32) (4 : Int32)).bind (fun r19 => (nm (α := Int32) (r19.1) (fun x20 => ((f_X8_number r19.2 (0 : Int32) (1 : Int32)).bind (fun r21 => (nm (α := Int32) (r21.1) (fun x22 => ((f_X8_mustEnd r21.2).bind (fun r23 => (if (r23 0 19) = 0 then (gd (inb 5 109) (nm (α := Int32) (100 + (3 * (r23 7 (5 : Int32).toNatClampNeg))) (fun x24 => (gd (inb x24 109) (nm (α := Mem) (up r23 7 x24.toNatClampNeg x18) (fun w25 => (gd (inb (x24 + 1) 109) (nm (α := Mem) (up w25 7 (x24 + 1).toNatClampNeg x20) (fun w26 => (gd (inb (x24 + 2) 109) (nm (α := Mem) (up w26 7 (x24 + 2).toNatClampNeg x22) (fun w27 => (gd (inb 5 109) (gd (inb 5 109) (nm (α := Mem) (up w27 7 (5 : Int32).toNatClampNeg ((w27 7 (5 : Int32).toNatClampNeg) + 1)) (fun w28 => (some w28))))))))))))))))) else (some r23)))))))))))))))))))))
def f_X8_readQuarrel (m0 : Mem) : Option (Mem) :=
  ((f_X8_begins m0 (6 : Int32) (6 : Int32)).bind (fun r11 => (gd (inb 4 109) ((f_X8_number r11 (0 : Int32) ((r11 7 (4 : Int32).toNatClampNeg) - 1)).bind (fun r12 => (nm (α := Int32) (r12.1) (fun x13 => (gd (inb 4 109) ((f_X8_unlike r12.2 (0 : Int32) ((r12.2 7 (4 : Int32).toNatClampNeg) - 1) x13).bind (fun r14 => (nm (α := Int32) (r14.1) (fun x15 => ((f_X8_mustEnd r14.2).bind (fun r16 => (if (r16 0 19) = 0 then (gd (inb ((72 + (4 * x13)) + 3) 109) (gd (inb ((72 + (4 * x13)) + 3) 109) (nm (α := Mem) (up r16 7 ((72 + (4 * x13)) + 3).toNatClampNeg ((r16 7 ((72 + (4 * x13)) + 3).toNatClampNeg) ||| (1 <<< (x15 &&& 31)))) (fun w17 => (gd (inb ((72 + (4 * x15)) + 3) 109) (gd (inb ((72 + (4 * x15)) + 3) 109) (nm (α := Mem) (up w17 7 ((72 + (4 * x15)) + 3).toNatClampNeg ((w17 7 ((72 + (4 * x15)) + 3).toNatClampNeg) ||| (1 <<< (x13 &&& 31)))) (fun w18 => (gd (inb 6 109) (gd (inb 6 109) (nm (α := Mem) (up w18 7 (6 : Int32).toNatClampNeg ((w18 7 (6 : Int32).toNatClampNeg) + 1)) (fun w19 => (some w19))))))))))))) else (some r16))))))))))))))))
def f_X8_layFar_L18 (k : Int32 → Mem → Option (Mem)) (u11 : Int32) (u13 : Int32) : Nat → Int32 → Mem → Option (Mem)
  | 0, _, _ => none
  | t + 1, u15, w16 =>
    (if (8 : Int32) ≤ u15 then (k u15 w16) else (gd (inb ((8 + (8 * u13)) + u11) 109) (gd (inb ((8 + (8 * u11)) + u15) 109) (nm (α := Int32) ((w16 7 ((8 + (8 * u13)) + u11).toNatClampNeg) + (w16 7 ((8 + (8 * u11)) + u15).toNatClampNeg)) (fun x17 => (gd (inb ((8 + (8 * u13)) + u15) 109) (if (w16 7 ((8 + (8 * u13)) + u15).toNatClampNeg) ≤ x17 then (gd (inb ((8 + (8 * u13)) + u15) 109) (gd (inb ((8 + (8 * u13)) + u15) 109) (nm (α := Mem) (up w16 7 ((8 + (8 * u13)) + u15).toNatClampNeg (w16 7 ((8 + (8 * u13)) + u15).toNatClampNeg)) (fun w18 => (f_X8_layFar_L18 k u11 u13 t (u15 + 1) w18))))) else (gd (inb ((8 + (8 * u13)) + u15) 109) (nm (α := Mem) (up w16 7 ((8 + (8 * u13)) + u15).toNatClampNeg x17) (fun w19 => (f_X8_layFar_L18 k u11 u13 t (u15 + 1) w19)))))))))))
def f_X8_layFar_L10 (k : Int32 → Mem → Option (Mem)) (u11 : Int32) : Nat → Int32 → Mem → Option (Mem)
  | 0, _, _ => none
  | t + 1, u13, w14 =>
    (if (8 : Int32) ≤ u13 then (k u13 w14) else (f_X8_layFar_L18 (fun (u20 : Int32) (w21 : Mem) => (f_X8_layFar_L10 k u11 t (u13 + 1) w21)) u11 u13 100000 0 w14))
def f_X8_layFar_L2 (k : Int32 → Mem → Option (Mem)) : Nat → Int32 → Mem → Option (Mem)
  | 0, _, _ => none
  | t + 1, u11, w12 =>
    (if (8 : Int32) ≤ u11 then (k u11 w12) else (f_X8_layFar_L10 (fun (u22 : Int32) (w23 : Mem) => (f_X8_layFar_L2 k t (u11 + 1) w23)) u11 100000 0 w12))
def f_X8_layFar (m0 : Mem) : Option (Mem) :=
  (f_X8_layFar_L2 (fun (u24 : Int32) (w25 : Mem) => (some w25))  100000 0 m0)
def f_X8_evening_L11 (k : Int32 → Mem → Option (Int32 × Mem)) : Nat → Int32 → Mem → Option (Int32 × Mem)
  | 0, _, _ => none
  | t + 1, u13, w14 =>
    (if (109 : Int32) ≤ u13 then (k u13 w14) else (if u13 < (8 : Int32) then (gd (inb u13 109) (nm (α := Mem) (up w14 7 u13.toNatClampNeg 0) (fun w15 => (f_X8_evening_L11 k t (u13 + 1) w15)))) else (if (72 : Int32) ≤ u13 then (gd (inb u13 109) (nm (α := Mem) (up w14 7 u13.toNatClampNeg 0) (fun w16 => (f_X8_evening_L11 k t (u13 + 1) w16)))) else (gd (inb u13 109) (nm (α := Mem) (up w14 7 u13.toNatClampNeg 10000) (fun w17 => (f_X8_evening_L11 k t (u13 + 1) w17)))))))
def f_X8_evening_L50 (k : Int32 → Mem → Option (Int32 × Mem)) : Nat → Int32 → Mem → Option (Int32 × Mem)
  | 0, _, _ => none
  | t + 1, u20, w21 =>
    (if (8 : Int32) ≤ u20 then (k u20 w21) else (gd (inb (8 + (9 * u20)) 109) (nm (α := Mem) (up w21 7 (8 + (9 * u20)).toNatClampNeg 0) (fun w22 => (f_X8_evening_L50 k t (u20 + 1) w22)))))
def f_X8_evening_L125 (k : Mem → Option (Int32 × Mem)) : Nat → Mem → Option (Int32 × Mem)
  | 0, _ => none
  | t + 1, w34 =>
    ((f_X8_name w34).bind (fun r35 => (if (lg_cmp r35 7823737) = 0 then ((f_X8_readWay w34).bind (fun r36 => (f_X8_evening_L125 k t r36))) else (k w34))))
def f_X8_evening_L143 (k : Mem → Option (Int32 × Mem)) : Nat → Mem → Option (Int32 × Mem)
  | 0, _ => none
  | t + 1, w38 =>
    ((f_X8_name w38).bind (fun r39 => (if (lg_cmp r39 1751739500) = 0 then ((f_X8_readHill w38).bind (fun r40 => (f_X8_evening_L143 k t r40))) else (k w38))))
def f_X8_evening_L161 (k : Mem → Option (Int32 × Mem)) : Nat → Mem → Option (Int32 × Mem)
  | 0, _ => none
  | t + 1, w42 =>
    ((f_X8_name w42).bind (fun r43 => (if (lg_cmp r43 123581014175598) = 0 then ((f_X8_readPerson w42).bind (fun r44 => (f_X8_evening_L161 k t r44))) else (k w42))))
def f_X8_evening_L179 (k : Mem → Option (Int32 × Mem)) : Nat → Mem → Option (Int32 × Mem)
  | 0, _ => none
  | t + 1, w46 =>
    ((f_X8_name w46).bind (fun r47 => (if (lg_cmp r47 6513010) = 0 then ((f_X8_readCar w46).bind (fun r48 => (f_X8_evening_L179 k t r48))) else (k w46))))
def f_X8_evening_L197 (k : Mem → Option (Int32 × Mem)) : Nat → Mem → Option (Int32 × Mem)
  | 0, _ => none
  | t + 1, w50 =>
    ((f_X8_name w50).bind (fun r51 => (if (lg_cmp r51 31935733760681324) = 0 then ((f_X8_readQuarrel w50).bind (fun r52 => (f_X8_evening_L197 k t r52))) else (k w50))))
def f_X8_evening_L274 (k : Int32 → Mem → Option (Int32 × Mem)) : Nat → Int32 → Mem → Option (Int32 × Mem)
  | 0, _, _ => none
  | t + 1, u60, w61 =>
    (if (109 : Int32) ≤ u60 then (k u60 w61) else (gd (inb u60 109) (gd (inb u60 109) (nm (α := Mem) (up w61 6 u60.toNatClampNeg (w61 7 u60.toNatClampNeg)) (fun w62 => (f_X8_evening_L274 k t (u60 + 1) w62))))))
def f_X8_evening (m0 : Mem) : Option (Int32 × Mem) :=
  (nm (α := Mem) (up m0 0 0 0) (fun w11 => ((f_X8_begin w11).bind (fun r12 => (f_X8_evening_L11 (fun (u18 : Int32) (w19 : Mem) => (f_X8_evening_L50 (fun (u23 : Int32) (w24 : Mem) => ((f_X8_name w24).bind (fun r25 => (nm (α := Int32) (if (lg_cmp r25 7102839) = 0 then 1 else 0) (fun a26 => ((f_X8_must w24 a26).bind (fun r28 => ((f_X8_number r28 (0 : Int32) (50 : Int32)).bind (fun r29 => (gd (inb 0 109) (nm (α := Mem) (up r29.2 7 (0 : Int32).toNatClampNeg r29.1) (fun w30 => ((f_X8_number w30 (1 : Int32) (20 : Int32)).bind (fun r31 => (gd (inb 1 109) (nm (α := Mem) (up r31.2 7 (1 : Int32).toNatClampNeg r31.1) (fun w32 => ((f_X8_mustEnd w32).bind (fun r33 => (f_X8_evening_L125 (fun (w37 : Mem) => (f_X8_evening_L143 (fun (w41 : Mem) => (f_X8_evening_L161 (fun (w45 : Mem) => (f_X8_evening_L179 (fun (w49 : Mem) => (f_X8_evening_L197 (fun (w53 : Mem) => (jn (α := Mem) (fun j56 => (if (w53 0 19) = 0 then (if (w53 0 16) = (1 : Int32) then (j56 w53) else ((f_X8_bad w53 (1 : Int32)).bind (fun r54 => (j56 r54)))) else (j56 w53))) (fun a55 => (if (a55 0 19) ≤ 0 then (nm (α := Mem) (up a55 0 7 1) (fun w57 => (nm (α := Mem) (up w57 0 10 0) (fun w58 => ((f_X8_layFar w58).bind (fun r59 => (f_X8_evening_L274 (fun (u63 : Int32) (w64 : Mem) => (gd (inb 4 109) (some (w64 6 (4 : Int32).toNatClampNeg, w64))))  100000 0 r59))))))) else (nm (α := Mem) (up a55 0 13 (a55 0 19)) (fun w65 => (some ((-1000100) - (w65 0 20), w65))))))))  100000 w49))  100000 w45))  100000 w41))  100000 w37))  100000 r33))))))))))))))))))))  100000 0 w19))  100000 0 r12)))))
def f_X8_fault (m0 : Mem) : Option (Int32 × Mem) :=
  (nm (α := Mem) (up m0 0 0 0) (fun w11 => (some (w11 0 13, w11))))
def f_X8_isPerson (m0 : Mem) (x1 : Int32) : Option (Int32) :=
  (gd (inb 4 109) ((f_X8_in x1.toInt64 (0 : Int64) (((m0 6 (4 : Int32).toNatClampNeg) - 1).toInt64)).bind (fun r11 => (gd (decide (r11 = 0 ∨ r11 = 1)) (some r11)))))
def f_X8_of (m0 : Mem) (x1 : Int32) (x2 : Int32) : Option (Int32) :=
  (gd (inb ((72 + (4 * x1)) + x2) 109) (some (m0 6 ((72 + (4 * x1)) + x2).toNatClampNeg)))
def f_X8_drink_L58 (k : Int32 → Mem → Option (Int32 × Mem)) : Nat → Int32 → Mem → Option (Int32 × Mem)
  | 0, _, _ => none
  | t + 1, u15, w16 =>
    (if (24 : Int32) ≤ u15 then (k u15 w16) else (gd (inb u15 24) (gd (inb (u15 - 1) 24) (nm (α := Mem) (up w16 9 (u15 - 1).toNatClampNeg (w16 9 u15.toNatClampNeg)) (fun w17 => (gd (inb u15 24) (gd (inb (u15 - 1) 24) (nm (α := Mem) (up w17 10 (u15 - 1).toNatClampNeg (w17 10 u15.toNatClampNeg)) (fun w18 => (f_X8_drink_L58 k t (u15 + 1) w18))))))))))
def f_X8_drink (m0 : Mem) (x1 : Int32) (x2 : Int32) : Option (Int32 × Mem) :=
  (nm (α := Mem) (up m0 0 0 0) (fun w11 => ((f_X8_isPerson w11 x1).bind (fun r12 => (if r12 = 0 then (some ((-1000001), w11)) else ((f_X8_in x2.toInt64 (1 : Int64) (9 : Int64)).bind (fun r13 => (if r13 = 0 then (some ((-1000001), w11)) else ((f_X8_of w11 x1 (2 : Int32)).bind (fun r14 => (if (r14 + x2) ≤ (99 : Int32) then (jn (α := Mem) (fun j23 => (if (w11 0 10) = (24 : Int32) then (f_X8_drink_L58 (fun (u19 : Int32) (w20 : Mem) => (nm (α := Mem) (up w20 0 10 ((w20 0 10) - 1)) (fun w21 => (j23 w21))))  100000 1 w11) else (j23 w11))) (fun a22 => (gd (inb (a22 0 10) 24) (nm (α := Mem) (up a22 9 (a22 0 10).toNatClampNeg x1) (fun w24 => (gd (inb (w24 0 10) 24) (nm (α := Mem) (up w24 10 (w24 0 10).toNatClampNeg x2) (fun w25 => (nm (α := Mem) (up w25 0 10 ((w25 0 10) + 1)) (fun w26 => (gd (inb ((72 + (4 * x1)) + 2) 109) (nm (α := Mem) (up w26 6 ((72 + (4 * x1)) + 2).toNatClampNeg (r14 + x2)) (fun w27 => (some (r14 + x2, w27))))))))))))))) else (some ((-1000003), w11)))))))))))))
def f_X8_undo (m0 : Mem) : Option (Int32 × Mem) :=
  (nm (α := Mem) (up m0 0 0 0) (fun w11 => (if (w11 0 10) = 0 then (some ((-1000002), w11)) else (nm (α := Mem) (up w11 0 10 ((w11 0 10) - 1)) (fun w12 => (gd (inb (w12 0 10) 24) (gd (inb ((72 + (4 * (w12 9 (w12 0 10).toNatClampNeg))) + 2) 109) (gd (inb (w12 0 10) 24) (gd (inb ((72 + (4 * (w12 9 (w12 0 10).toNatClampNeg))) + 2) 109) (nm (α := Mem) (up w12 6 ((72 + (4 * (w12 9 (w12 0 10).toNatClampNeg))) + 2).toNatClampNeg ((w12 6 ((72 + (4 * (w12 9 (w12 0 10).toNatClampNeg))) + 2).toNatClampNeg) - (w12 10 (w12 0 10).toNatClampNeg))) (fun w13 => (some (w13 0 10, w13)))))))))))))
def f_X8_car0 (m0 : Mem) (x1 : Int32) (x2 : Int32) : Option (Int32) :=
  (gd (inb ((100 + (3 * x1)) + x2) 109) (some (m0 6 ((100 + (3 * x1)) + x2).toNatClampNeg)))
def f_X8_carOf_L2 (k : Int32 → Option (Int32)) (x1 : Int32) (m0 : Mem) : Nat → Int32 → Option (Int32)
  | 0, _ => none
  | t + 1, u11 =>
    (gd (inb 5 109) (if (m0 6 (5 : Int32).toNatClampNeg) ≤ u11 then (k u11) else ((f_X8_car0 m0 u11 (0 : Int32)).bind (fun r12 => (if r12 = x1 then (some u11) else (f_X8_carOf_L2 k x1 m0 t (u11 + 1)))))))
def f_X8_carOf (m0 : Mem) (x1 : Int32) : Option (Int32) :=
  (f_X8_carOf_L2 (fun (u13 : Int32) => (some (-1000000))) x1 m0 100000 0)
def f_X8_person (m0 : Mem) (x1 : Int32) (x2 : Int32) : Option (Int32 × Mem) :=
  (nm (α := Mem) (up m0 0 0 0) (fun w11 => ((f_X8_isPerson w11 x1).bind (fun r12 => (if r12 = 0 then (some ((-1000001), w11)) else ((f_X8_in x2.toInt64 (0 : Int64) (3 : Int64)).bind (fun r13 => (if r13 = 0 then (some ((-1000001), w11)) else (if x2 = 0 then ((f_X8_of w11 x1 (1 : Int32)).bind (fun r17 => (some (r17, w11)))) else (if x2 = (1 : Int32) then ((f_X8_of w11 x1 (2 : Int32)).bind (fun r16 => (some (r16, w11)))) else (if x2 = (2 : Int32) then ((f_X8_carOf w11 x1).bind (fun r15 => (some (r15, w11)))) else ((f_X8_of w11 x1 (3 : Int32)).bind (fun r14 => (some (r14, w11)))))))))))))))
def f_X8_isCar (m0 : Mem) (x1 : Int32) : Option (Int32) :=
  (gd (inb 5 109) ((f_X8_in x1.toInt64 (0 : Int64) (((m0 6 (5 : Int32).toNatClampNeg) - 1).toInt64)).bind (fun r11 => (gd (decide (r11 = 0 ∨ r11 = 1)) (some r11)))))
def f_X8_car (m0 : Mem) (x1 : Int32) (x2 : Int32) : Option (Int32 × Mem) :=
  (nm (α := Mem) (up m0 0 0 0) (fun w11 => ((f_X8_isCar w11 x1).bind (fun r12 => (if r12 = 0 then (some ((-1000001), w11)) else ((f_X8_in x2.toInt64 (0 : Int64) (2 : Int64)).bind (fun r13 => (if r13 = 0 then (some ((-1000001), w11)) else ((f_X8_car0 w11 x1 x2).bind (fun r14 => (some (r14, w11))))))))))))
def f_X8_farOf (m0 : Mem) (x1 : Int32) (x2 : Int32) : Option (Int32) :=
  (gd (inb ((8 + (8 * x1)) + x2) 109) (some (m0 6 ((8 + (8 * x1)) + x2).toNatClampNeg)))
def f_X8_far (m0 : Mem) (x1 : Int32) (x2 : Int32) : Option (Int32 × Mem) :=
  (nm (α := Mem) (up m0 0 0 0) (fun w11 => (if (w11 0 7) = 0 then (some ((-1000002), w11)) else ((f_X8_in x1.toInt64 (0 : Int64) (7 : Int64)).bind (fun r12 => (if r12 = 0 then (some ((-1000001), w11)) else ((f_X8_in x2.toInt64 (0 : Int64) (7 : Int64)).bind (fun r13 => (if r13 = 0 then (some ((-1000001), w11)) else ((f_X8_farOf w11 x1 x2).bind (fun r14 => (if (10000 : Int32) ≤ r14 then (some ((-1000000), w11)) else ((f_X8_farOf w11 x1 x2).bind (fun r15 => (some (r15, w11))))))))))))))))
def f_X8_isMinute (x0 : Int32) : Option (Int32) :=
  ((f_X8_in x0.toInt64 (0 : Int64) (600 : Int64)).bind (fun r11 => (gd (decide (r11 = 0 ∨ r11 = 1)) (some r11))))
def f_X8_drunk (m0 : Mem) (x1 : Int32) (x2 : Int32) : Option (Int32) :=
  (gd (inb 1 109) (nm (α := Int32) ((10 * x1) - ((m0 6 (1 : Int32).toNatClampNeg) * (x2 / 60))) (fun x11 => (if 0 ≤ x11 then (some x11) else (some 0)))))
def f_X8_mayDrive (m0 : Mem) (x1 : Int32) (x2 : Int32) (x3 : Int32) : Option (Int32) :=
  ((f_X8_of m0 x1 (0 : Int32)).bind (fun r11 => (if (4 : Int32) ≤ r11 then (some 0) else ((f_X8_drunk m0 x2 x3).bind (fun r12 => (gd (inb 0 109) (if (m0 6 (0 : Int32).toNatClampNeg) < r12 then (some 0) else (if r11 = (2 : Int32) then (if x2 = 0 then (some 1) else (some 0)) else (some 1)))))))))
def f_X8_may (m0 : Mem) (x1 : Int32) (x2 : Int32) (x3 : Int32) : Option (Int32 × Mem) :=
  (nm (α := Mem) (up m0 0 0 0) (fun w11 => ((f_X8_isPerson w11 x1).bind (fun r12 => (if r12 = 0 then (some ((-1000001), w11)) else ((f_X8_isMinute x2).bind (fun r13 => (if r13 = 0 then (some ((-1000001), w11)) else ((f_X8_in x3.toInt64 (0 : Int64) (1 : Int64)).bind (fun r14 => (if r14 = 0 then (some ((-1000001), w11)) else (if x3 = 0 then ((f_X8_of w11 x1 (2 : Int32)).bind (fun r17 => ((f_X8_drunk w11 r17 x2).bind (fun r18 => (some (r18, w11)))))) else ((f_X8_of w11 x1 (2 : Int32)).bind (fun r15 => ((f_X8_mayDrive w11 x1 r15 x2).bind (fun r16 => (if r16 = 0 then (some (0, w11)) else (some (1, w11)))))))))))))))))))
def f_X8_soon_L18 (k : Int32 → Option (Int32 × Mem)) (x1 : Int32) (w11 : Mem) : Nat → Int32 → Option (Int32 × Mem)
  | 0, _ => none
  | t + 1, u13 =>
    (if (600 : Int32) < u13 then (k u13) else ((f_X8_of w11 x1 (2 : Int32)).bind (fun r14 => ((f_X8_mayDrive w11 x1 r14 u13).bind (fun r15 => (if r15 = 0 then (f_X8_soon_L18 k x1 w11 t (u13 + 1)) else (some (u13, w11))))))))
def f_X8_soon (m0 : Mem) (x1 : Int32) : Option (Int32 × Mem) :=
  (nm (α := Mem) (up m0 0 0 0) (fun w11 => ((f_X8_isPerson w11 x1).bind (fun r12 => (if r12 = 0 then (some ((-1000001), w11)) else (f_X8_soon_L18 (fun (u16 : Int32) => (some ((-1000000), w11))) x1 w11 100000 0))))))
def f_X8_divisor_L4 (k : Int32 → Int32 → Option (Int32)) : Nat → Int32 → Int32 → Option (Int32)
  | 0, _, _ => none
  | t + 1, u11, u12 =>
    (if u12 = 0 then (k u11 u12) else (gd (decide (¬ u12 = 0)) (nm (α := Int32) (u11 - u11 / u12 * u12) (fun x13 => (f_X8_divisor_L4 k t u12 x13)))))
def f_X8_divisor (x0 : Int32) (x1 : Int32) : Option (Int32) :=
  (f_X8_divisor_L4 (fun (u14 : Int32) (u15 : Int32) => (some u14))  100000 x0 x1)
def f_X8_odds_L52 (k : Int32 → Int32 → Option (Int32 × Mem)) (x1 : Int32) (x2 : Int32) (x3 : Int32) (w11 : Mem) : Nat → Int32 → Int32 → Option (Int32 × Mem)
  | 0, _, _ => none
  | t + 1, u16, u17 =>
    (if x3 < u17 then (k u16 u17) else ((f_X8_of w11 x1 (2 : Int32)).bind (fun r18 => ((f_X8_mayDrive w11 x1 (r18 + u17) x2).bind (fun r19 => (if r19 = 0 then (nm (α := Int32) (u16 + 0) (fun x20 => (f_X8_odds_L52 k x1 x2 x3 w11 t x20 (u17 + 1)))) else (nm (α := Int32) (u16 + 1) (fun x21 => (f_X8_odds_L52 k x1 x2 x3 w11 t x21 (u17 + 1))))))))))
def f_X8_odds (m0 : Mem) (x1 : Int32) (x2 : Int32) (x3 : Int32) (x4 : Int32) : Option (Int32 × Mem) :=
  (nm (α := Mem) (up m0 0 0 0) (fun w11 => ((f_X8_isPerson w11 x1).bind (fun r12 => (if r12 = 0 then (some ((-1000001), w11)) else ((f_X8_isMinute x2).bind (fun r13 => (if r13 = 0 then (some ((-1000001), w11)) else ((f_X8_in x3.toInt64 (0 : Int64) (9 : Int64)).bind (fun r14 => (if r14 = 0 then (some ((-1000001), w11)) else ((f_X8_in x4.toInt64 (0 : Int64) (1 : Int64)).bind (fun r15 => (if r15 = 0 then (some ((-1000001), w11)) else (f_X8_odds_L52 (fun (u22 : Int32) (u23 : Int32) => (nm (α := Int32) (if x4 = 0 then u22 else ((x3 + 1))) (fun a24 => ((f_X8_divisor u22 (x3 + 1)).bind (fun r26 => (gd (decide (¬ r26 = 0)) (some (a24 / r26, w11)))))))) x1 x2 x3 w11 100000 0 0)))))))))))))))
def f_X8_isOnHill (m0 : Mem) (x1 : Int32) : Option (Int32) :=
  (gd (inb 7 109) ((f_X8_of m0 x1 (1 : Int32)).bind (fun r11 => (if (((m0 6 (7 : Int32).toNatClampNeg) >>> (r11 &&& 31)) &&& 1) = (1 : Int32) then (some 1) else (some 0)))))
def f_X8_doesGo (m0 : Mem) (x1 : Int32) (x2 : Int32) : Option (Int32) :=
  ((f_X8_car0 m0 x1 (0 : Int32)).bind (fun r11 => ((f_X8_of m0 r11 (2 : Int32)).bind (fun r12 => ((f_X8_mayDrive m0 r11 r12 x2).bind (fun r13 => (if r13 = 0 then (some 0) else ((f_X8_of m0 r11 (1 : Int32)).bind (fun r14 => ((f_X8_farOf m0 (0 : Int32) r14).bind (fun r15 => (if (10000 : Int32) ≤ r15 then (some 0) else ((f_X8_isOnHill m0 r11).bind (fun r16 => (if r16 = 0 then (some 1) else ((f_X8_car0 m0 x1 (2 : Int32)).bind (fun r17 => (if r17 = (1 : Int32) then (some 1) else (some 0)))))))))))))))))))
def f_X8_goingAt_L4 (k : Int32 → Int32 → Option (Int32)) (x1 : Int32) (m0 : Mem) : Nat → Int32 → Int32 → Option (Int32)
  | 0, _, _ => none
  | t + 1, u11, u12 =>
    (gd (inb 5 109) (if (m0 6 (5 : Int32).toNatClampNeg) ≤ u12 then (k u11 u12) else ((f_X8_doesGo m0 u12 x1).bind (fun r13 => (if r13 = 0 then (nm (α := Int32) (u11 ||| 0) (fun x14 => (f_X8_goingAt_L4 k x1 m0 t x14 (u12 + 1)))) else (nm (α := Int32) (u11 ||| (1 <<< (u12 &&& 31))) (fun x15 => (f_X8_goingAt_L4 k x1 m0 t x15 (u12 + 1)))))))))
def f_X8_goingAt (m0 : Mem) (x1 : Int32) : Option (Int32) :=
  (f_X8_goingAt_L4 (fun (u16 : Int32) (u17 : Int32) => (some u16)) x1 m0 100000 0 0)
def f_X8_goes (m0 : Mem) (x1 : Int32) : Option (Int32 × Mem) :=
  (nm (α := Mem) (up m0 0 0 0) (fun w11 => (if (w11 0 7) = 0 then (some ((-1000002), w11)) else ((f_X8_isMinute x1).bind (fun r12 => (if r12 = 0 then (some ((-1000001), w11)) else ((f_X8_goingAt w11 x1).bind (fun r13 => (some (r13, w11))))))))))
def f_X8_layRiders_L7 (k : Int32 → Mem → Option (Mem)) : Nat → Int32 → Mem → Option (Mem)
  | 0, _, _ => none
  | t + 1, u12, w13 =>
    (gd (inb 4 109) (if (w13 6 (4 : Int32).toNatClampNeg) ≤ u12 then (k u12 w13) else ((f_X8_carOf w13 u12).bind (fun r14 => (if r14 = ((-1000000) : Int32) then (gd (inb (w13 0 30) 7) (nm (α := Mem) (up w13 30 (w13 0 30).toNatClampNeg u12) (fun w15 => (nm (α := Mem) (up w15 0 30 ((w15 0 30) + 1)) (fun w16 => (f_X8_layRiders_L7 k t (u12 + 1) w16)))))) else (if (((w13 0 27) >>> (r14 &&& 31)) &&& 1) = 0 then (gd (inb (w13 0 30) 7) (nm (α := Mem) (up w13 30 (w13 0 30).toNatClampNeg u12) (fun w17 => (nm (α := Mem) (up w17 0 30 ((w17 0 30) + 1)) (fun w18 => (f_X8_layRiders_L7 k t (u12 + 1) w18)))))) else (f_X8_layRiders_L7 k t (u12 + 1) w13)))))))
def f_X8_layRiders (m0 : Mem) : Option (Mem) :=
  (nm (α := Mem) (up m0 0 30 0) (fun w11 => (f_X8_layRiders_L7 (fun (u19 : Int32) (w20 : Mem) => (some w20))  100000 0 w11)))
def f_X8_bits_L4 (k : Int32 → Int32 → Option (Int32)) (x0 : Int32) : Nat → Int32 → Int32 → Option (Int32)
  | 0, _, _ => none
  | t + 1, u11, u12 =>
    (if (7 : Int32) ≤ u12 then (k u11 u12) else (nm (α := Int32) (u11 + ((x0 >>> (u12 &&& 31)) &&& 1)) (fun x13 => (f_X8_bits_L4 k x0 t x13 (u12 + 1)))))
def f_X8_bits (x0 : Int32) : Option (Int32) :=
  (f_X8_bits_L4 (fun (u14 : Int32) (u15 : Int32) => (some u14)) x0 100000 0 0)
def f_X8_fits_L34 (k : Int32 → Int32 → Option (Int32)) (x1 : Int32) (m0 : Mem) (x12 : Int32) : Nat → Int32 → Int32 → Option (Int32)
  | 0, _, _ => none
  | t + 1, u17, u18 =>
    (gd (inb 4 109) (if (m0 6 (4 : Int32).toNatClampNeg) ≤ u18 then (k u17 u18) else (if u17 = 0 then (k u17 u18) else (if ((x12 >>> (u18 &&& 31)) &&& 1) = (1 : Int32) then ((f_X8_car0 m0 x1 (0 : Int32)).bind (fun r19 => (jn (α := Int32) (fun j23 => (if u18 = r19 then (j23 0) else ((f_X8_isOnHill m0 u18).bind (fun r20 => (if r20 = 0 then (j23 0) else ((f_X8_car0 m0 x1 (2 : Int32)).bind (fun r21 => (if r21 = 0 then (j23 1) else (j23 0))))))))) (fun a22 => ((f_X8_of m0 u18 (3 : Int32)).bind (fun r24 => (if (r24 &&& x12) = 0 then (if a22 = 0 then ((f_X8_of m0 u18 (1 : Int32)).bind (fun r25 => ((f_X8_farOf m0 (0 : Int32) r25).bind (fun r26 => (if (10000 : Int32) ≤ r26 then (f_X8_fits_L34 k x1 m0 x12 t 0 (u18 + 1)) else (f_X8_fits_L34 k x1 m0 x12 t 1 (u18 + 1))))))) else (f_X8_fits_L34 k x1 m0 x12 t 0 (u18 + 1))) else (f_X8_fits_L34 k x1 m0 x12 t 0 (u18 + 1))))))))) else (f_X8_fits_L34 k x1 m0 x12 t u17 (u18 + 1))))))
def f_X8_fits (m0 : Mem) (x1 : Int32) (x2 : Int32) : Option (Int32) :=
  ((f_X8_car0 m0 x1 (0 : Int32)).bind (fun r11 => (nm (α := Int32) (x2 ||| (1 <<< (r11 &&& 31))) (fun x12 => ((f_X8_bits x2).bind (fun r13 => ((f_X8_car0 m0 x1 (1 : Int32)).bind (fun r14 => (nm (α := Int32) (if r14 < r13 then 0 else 1) (fun a15 => (f_X8_fits_L34 (fun (u27 : Int32) (u28 : Int32) => (gd (decide (u27 = 0 ∨ u27 = 1)) (some u27))) x1 m0 x12 100000 a15 0)))))))))))
def f_X8_layTried_L10 (k : Int32 → Int32 → Int32 → Mem → Option (Int32 × Mem)) (x2 : Int32) : Nat → Int32 → Int32 → Int32 → Mem → Option (Int32 × Mem)
  | 0, _, _, _, _ => none
  | t + 1, u12, u13, u14, w15 =>
    (if u14 < 0 then (k u12 u13 u14 w15) else (gd (decide (¬ x2 = 0)) (nm (α := Int32) (u13 ||| (1 <<< ((u12 - u12 / x2 * x2) &&& 31))) (fun x16 => (gd (decide (¬ x2 = 0)) (gd (inb (u12 - u12 / x2 * x2) 4) (gd (inb u14 4) (nm (α := Mem) (up w15 24 u14.toNatClampNeg (w15 23 (u12 - u12 / x2 * x2).toNatClampNeg)) (fun w17 => (gd (decide (¬ x2 = 0)) (nm (α := Int32) (u12 / x2) (fun x18 => (f_X8_layTried_L10 k x2 t x18 x16 (u14 + (-1)) w17)))))))))))))
def f_X8_layTried (m0 : Mem) (x1 : Int32) (x2 : Int32) : Option (Int32 × Mem) :=
  (nm (α := Int32) (x2 - 1) (fun x11 => (f_X8_layTried_L10 (fun (u19 : Int32) (u20 : Int32) (u21 : Int32) (w22 : Mem) => (if u20 = ((1 <<< (x2 &&& 31)) - 1) then (some (1, w22)) else (some (0, w22)))) x2 100000 x1 0 x11 m0)))
def f_X8_minutesBy_L8 (k : Int32 → Int32 → Int32 → Option (Int32)) (x2 : Int32) (m0 : Mem) : Nat → Int32 → Int32 → Int32 → Option (Int32)
  | 0, _, _, _ => none
  | t + 1, u11, u12, u13 =>
    (if x2 ≤ u13 then (k u11 u12 u13) else (if u13 ≤ 0 then (gd (inb u13 4) ((f_X8_of m0 (m0 24 u13.toNatClampNeg) (1 : Int32)).bind (fun r14 => ((f_X8_farOf m0 u11 r14).bind (fun r15 => (nm (α := Int32) (u12 + r15) (fun x16 => (gd (inb u13 4) ((f_X8_of m0 (m0 24 u13.toNatClampNeg) (1 : Int32)).bind (fun r17 => (f_X8_minutesBy_L8 k x2 m0 t r17 x16 (u13 + 1)))))))))))) else (gd (inb u13 4) ((f_X8_of m0 (m0 24 u13.toNatClampNeg) (0 : Int32)).bind (fun r18 => (if r18 < (4 : Int32) then (gd (inb u13 4) ((f_X8_of m0 (m0 24 u13.toNatClampNeg) (1 : Int32)).bind (fun r19 => ((f_X8_farOf m0 u11 r19).bind (fun r20 => (nm (α := Int32) (u12 + r20) (fun x21 => (gd (inb u13 4) ((f_X8_of m0 (m0 24 u13.toNatClampNeg) (1 : Int32)).bind (fun r22 => (f_X8_minutesBy_L8 k x2 m0 t r22 x21 (u13 + 1)))))))))))) else (gd (inb (u13 - 1) 4) ((f_X8_of m0 (m0 24 (u13 - 1).toNatClampNeg) (0 : Int32)).bind (fun r23 => (if (4 : Int32) ≤ r23 then (gd (inb u13 4) ((f_X8_of m0 (m0 24 u13.toNatClampNeg) (1 : Int32)).bind (fun r24 => ((f_X8_farOf m0 u11 r24).bind (fun r25 => (nm (α := Int32) (u12 + r25) (fun x26 => (gd (inb u13 4) ((f_X8_of m0 (m0 24 u13.toNatClampNeg) (1 : Int32)).bind (fun r27 => (f_X8_minutesBy_L8 k x2 m0 t r27 x26 (u13 + 1)))))))))))) else (some 10000)))))))))))
def f_X8_minutesBy (m0 : Mem) (x1 : Int32) (x2 : Int32) : Option (Int32) :=
  (f_X8_minutesBy_L8 (fun (u28 : Int32) (u29 : Int32) (u30 : Int32) => ((f_X8_car0 m0 x1 (0 : Int32)).bind (fun r31 => ((f_X8_of m0 r31 (1 : Int32)).bind (fun r32 => ((f_X8_farOf m0 u28 r32).bind (fun r33 => (some (u29 + r33))))))))) x2 m0 100000 0 0 0)
def f_X8_leastOf_L5 (k : Int32 → Int32 → Mem → Option (Int32 × Mem)) (x2 : Int32) : Nat → Int32 → Int32 → Mem → Option (Int32 × Mem)
  | 0, _, _, _ => none
  | t + 1, u11, u12, w13 =>
    (if (7 : Int32) ≤ u12 then (k u11 u12 w13) else (if ((x2 >>> (u12 &&& 31)) &&& 1) = (1 : Int32) then (gd (inb u11 4) (nm (α := Mem) (up w13 23 u11.toNatClampNeg u12) (fun w14 => (f_X8_leastOf_L5 k x2 t (u11 + 1) (u12 + 1) w14)))) else (f_X8_leastOf_L5 k x2 t u11 (u12 + 1) w13)))
def f_X8_leastOf_L125 (k : Int32 → Mem → Option (Int32 × Mem)) (u15 : Int32) : Nat → Int32 → Mem → Option (Int32 × Mem)
  | 0, _, _ => none
  | t + 1, u27, w28 =>
    (if u15 ≤ u27 then (k u27 w28) else (gd (inb u27 4) (gd (inb u27 4) (nm (α := Mem) (up w28 25 u27.toNatClampNeg (w28 24 u27.toNatClampNeg)) (fun w29 => (f_X8_leastOf_L125 k u15 t (u27 + 1) w29))))))
def f_X8_leastOf_L80 (k : Int32 → Int32 → Mem → Option (Int32 × Mem)) (x1 : Int32) (a18 : Int32) (u15 : Int32) : Nat → Int32 → Int32 → Mem → Option (Int32 × Mem)
  | 0, _, _, _ => none
  | t + 1, u20, u21, w22 =>
    (if a18 ≤ u21 then (k u20 u21 w22) else ((f_X8_layTried w22 u21 u15).bind (fun r23 => (jn (α := Int32) (fun j26 => (if r23.1 = 0 then (j26 10000) else ((f_X8_minutesBy r23.2 x1 u15).bind (fun r24 => (j26 r24))))) (fun a25 => (if u20 ≤ a25 then (f_X8_leastOf_L80 k x1 a18 u15 t u20 (u21 + 1) r23.2) else (f_X8_leastOf_L125 (fun (u30 : Int32) (w31 : Mem) => (f_X8_leastOf_L80 k x1 a18 u15 t a25 (u21 + 1) w31)) u15 100000 0 r23.2)))))))
def f_X8_leastOf (m0 : Mem) (x1 : Int32) (x2 : Int32) : Option (Int32 × Mem) :=
  (f_X8_leastOf_L5 (fun (u15 : Int32) (u16 : Int32) (w17 : Mem) => (nm (α := Int32) (if u15 = (4 : Int32) then 256 else (if u15 = (3 : Int32) then 27 else (if u15 = (2 : Int32) then 4 else 1))) (fun a18 => (f_X8_leastOf_L80 (fun (u32 : Int32) (u33 : Int32) (w34 : Mem) => (some (u32, w34))) x1 a18 u15 100000 10000 0 w17)))) x2 100000 0 0 m0)
def f_X8_layTakes_L9 (k : Int32 → Mem → Option (Mem)) (u11 : Int32) : Nat → Int32 → Mem → Option (Mem)
  | 0, _, _ => none
  | t + 1, u13, w14 =>
    (if (128 : Int32) ≤ u13 then (k u13 w14) else (jn (α := Int32) (fun j17 => (if (((w14 0 27) >>> (u11 &&& 31)) &&& 1) = (1 : Int32) then (gd (inb 4 109) (if (1 <<< ((w14 6 (4 : Int32).toNatClampNeg) &&& 31)) ≤ u13 then (j17 0) else ((f_X8_fits w14 u11 u13).bind (fun r15 => (if r15 = 0 then (j17 0) else (j17 1)))))) else (j17 0))) (fun a16 => (if a16 = 0 then (gd (inb ((128 * u11) + u13) 384) (nm (α := Mem) (up w14 22 ((128 * u11) + u13).toNatClampNeg (-1000000)) (fun w18 => (f_X8_layTakes_L9 k u11 t (u13 + 1) w18)))) else ((f_X8_leastOf w14 u11 u13).bind (fun r19 => (gd (inb ((128 * u11) + u13) 384) (nm (α := Mem) (up r19.2 22 ((128 * u11) + u13).toNatClampNeg r19.1) (fun w20 => (f_X8_layTakes_L9 k u11 t (u13 + 1) w20))))))))))
def f_X8_layTakes_L2 (k : Int32 → Mem → Option (Mem)) : Nat → Int32 → Mem → Option (Mem)
  | 0, _, _ => none
  | t + 1, u11, w12 =>
    (if (3 : Int32) ≤ u11 then (k u11 w12) else (f_X8_layTakes_L9 (fun (u21 : Int32) (w22 : Mem) => (f_X8_layTakes_L2 k t (u11 + 1) w22)) u11 100000 0 w12))
def f_X8_layTakes (m0 : Mem) : Option (Mem) :=
  (f_X8_layTakes_L2 (fun (u23 : Int32) (w24 : Mem) => (some w24))  100000 0 m0)
def f_X8_layRow_L4 (k : Int32 → Mem → Option (Mem)) : Nat → Int32 → Mem → Option (Mem)
  | 0, _, _ => none
  | t + 1, u11, w12 =>
    (if (4 : Int32) ≤ u11 then (k u11 w12) else (gd (inb u11 4) (nm (α := Mem) (up w12 32 u11.toNatClampNeg 0) (fun w13 => (f_X8_layRow_L4 k t (u11 + 1) w13)))))
def f_X8_layRow_L29 (k : Int32 → Int32 → Mem → Option (Mem)) : Nat → Int32 → Int32 → Mem → Option (Mem)
  | 0, _, _, _ => none
  | t + 1, u17, u18, w19 =>
    (if u18 < 0 then (k u17 u18 w19) else (gd (inb (u17 &&& 3) 4) (gd (inb u18 7) (gd (inb (u17 &&& 3) 4) (nm (α := Mem) (up w19 32 (u17 &&& 3).toNatClampNeg ((w19 32 (u17 &&& 3).toNatClampNeg) ||| (1 <<< ((w19 30 u18.toNatClampNeg) &&& 31)))) (fun w20 => (nm (α := Int32) (u17 >>> (2 &&& 31)) (fun x21 => (f_X8_layRow_L29 k t x21 (u18 + (-1)) w20)))))))))
def f_X8_layRow (m0 : Mem) (x1 : Int32) : Option (Mem) :=
  (f_X8_layRow_L4 (fun (u14 : Int32) (w15 : Mem) => (nm (α := Int32) ((w15 0 30) - 1) (fun x16 => (f_X8_layRow_L29 (fun (u22 : Int32) (u23 : Int32) (w24 : Mem) => (some w24))  100000 x1 x16 w15))))  100000 0 m0)
def f_X8_sumOf_L4 (k : Int32 → Int32 → Option (Int32)) (m0 : Mem) : Nat → Int32 → Int32 → Option (Int32)
  | 0, _, _ => none
  | t + 1, u11, u12 =>
    (if (3 : Int32) ≤ u12 then (k u11 u12) else (if u11 = ((-1000000) : Int32) then (k u11 u12) else (nm (α := Int32) (if (((m0 0 27) >>> (u12 &&& 31)) &&& 1) = (1 : Int32) then 1 else 0) (fun a13 => (gd (inb u12 4) (gd (inb ((128 * u12) + (m0 32 u12.toNatClampNeg)) 384) (nm (α := Int32) (m0 22 ((128 * u12) + (m0 32 u12.toNatClampNeg)).toNatClampNeg) (fun x15 => (if a13 = 0 then (gd (inb u12 4) (if (m0 32 u12.toNatClampNeg) = 0 then (f_X8_sumOf_L4 k m0 t u11 (u12 + 1)) else (f_X8_sumOf_L4 k m0 t (-1000000) (u12 + 1)))) else (if x15 = ((-1000000) : Int32) then (f_X8_sumOf_L4 k m0 t (-1000000) (u12 + 1)) else (nm (α := Int32) (u11 + x15) (fun x16 => (f_X8_sumOf_L4 k m0 t x16 (u12 + 1))))))))))))))
def f_X8_sumOf (m0 : Mem) : Option (Int32) :=
  (f_X8_sumOf_L4 (fun (u17 : Int32) (u18 : Int32) => (some u17)) m0 100000 0 0)
def f_X8_layHome_L111 (k : Int32 → Mem → Option (Mem)) : Nat → Int32 → Mem → Option (Mem)
  | 0, _, _ => none
  | t + 1, u24, w25 =>
    (if (3 : Int32) ≤ u24 then (k u24 w25) else (gd (inb u24 4) (gd (inb u24 3) (nm (α := Mem) (up w25 26 u24.toNatClampNeg (w25 32 u24.toNatClampNeg)) (fun w26 => (f_X8_layHome_L111 k t (u24 + 1) w26))))))
def f_X8_layHome_L27 (k : Int32 → Int32 → Mem → Option (Mem)) : Nat → Int32 → Int32 → Mem → Option (Mem)
  | 0, _, _, _ => none
  | t + 1, u16, u17, w18 =>
    (if (1 <<< ((2 * (w18 0 30)) &&& 31)) ≤ u17 then (k u16 u17 w18) else ((f_X8_layRow w18 u17).bind (fun r19 => ((f_X8_sumOf r19).bind (fun r20 => (gd (inb 3 4) ((f_X8_bits (r19 32 (3 : Int32).toNatClampNeg)).bind (fun r21 => (if r20 = ((-1000000) : Int32) then (f_X8_layHome_L27 k t u16 (u17 + 1) r19) else (if r21 < u16 then (nm (α := Mem) (up r19 0 28 r20) (fun w22 => (gd (inb 3 4) (nm (α := Mem) (up w22 0 26 (w22 32 (3 : Int32).toNatClampNeg)) (fun w23 => (f_X8_layHome_L111 (fun (u27 : Int32) (w28 : Mem) => (f_X8_layHome_L27 k t r21 (u17 + 1) w28))  100000 0 w23)))))) else (if r21 = u16 then (if (r19 0 28) ≤ r20 then (f_X8_layHome_L27 k t u16 (u17 + 1) r19) else (nm (α := Mem) (up r19 0 28 r20) (fun w29 => (gd (inb 3 4) (nm (α := Mem) (up w29 0 26 (w29 32 (3 : Int32).toNatClampNeg)) (fun w30 => (f_X8_layHome_L111 (fun (u34 : Int32) (w35 : Mem) => (f_X8_layHome_L27 k t r21 (u17 + 1) w35))  100000 0 w30))))))) else (f_X8_layHome_L27 k t u16 (u17 + 1) r19))))))))))))
def f_X8_layHome (m0 : Mem) (x1 : Int32) : Option (Mem) :=
  ((f_X8_goingAt m0 x1).bind (fun r11 => (nm (α := Mem) (up m0 0 27 r11) (fun w12 => ((f_X8_layRiders w12).bind (fun r13 => ((f_X8_layTakes r13).bind (fun r14 => (nm (α := Mem) (up r14 0 28 0) (fun w15 => (f_X8_layHome_L27 (fun (u36 : Int32) (u37 : Int32) (w38 : Mem) => (some w38))  100000 99 0 w15)))))))))))
def f_X8_home (m0 : Mem) (x1 : Int32) (x2 : Int32) : Option (Int32 × Mem) :=
  (nm (α := Mem) (up m0 0 0 0) (fun w11 => (if (w11 0 7) = 0 then (some ((-1000002), w11)) else ((f_X8_isMinute x1).bind (fun r12 => (if r12 = 0 then (some ((-1000001), w11)) else (gd (inb 5 109) ((f_X8_in x2.toInt64 (0 : Int64) ((2 + (w11 6 (5 : Int32).toNatClampNeg)).toInt64)).bind (fun r13 => (if r13 = 0 then (some ((-1000001), w11)) else ((f_X8_layHome w11 x1).bind (fun r14 => (if x2 = 0 then ((f_X8_bits (r14 0 26)).bind (fun r15 => (some (r15, r14)))) else (if x2 = (1 : Int32) then (some (r14 0 28, r14)) else (if x2 = (2 : Int32) then (some (r14 0 26, r14)) else (gd (inb (x2 - 3) 3) (some (r14 26 (x2 - 3).toNatClampNeg, r14))))))))))))))))))
def f_X8_order (m0 : Mem) (x1 : Int32) (x2 : Int32) (x3 : Int32) : Option (Int32 × Mem) :=
  (nm (α := Mem) (up m0 0 0 0) (fun w11 => ((f_X8_isMinute x1).bind (fun r12 => (if r12 = 0 then (some ((-1000001), w11)) else ((f_X8_isCar w11 x2).bind (fun r13 => (if r13 = 0 then (some ((-1000001), w11)) else (if ((-1) : Int32) ≤ x3 then ((f_X8_layHome w11 x1).bind (fun r14 => (if (((r14 0 27) >>> (x2 &&& 31)) &&& 1) = 0 then (some ((-1000000), r14)) else (gd (inb x2 3) ((f_X8_leastOf r14 x2 (r14 26 x2.toNatClampNeg)).bind (fun r15 => (nm (α := Int32) (r15.1) (fun x16 => (if 0 ≤ x3 then (gd (inb x2 3) ((f_X8_bits (r15.2 26 x2.toNatClampNeg)).bind (fun r17 => (if r17 ≤ x3 then (some ((-1000000), r15.2)) else (gd (inb x3 4) (some (r15.2 25 x3.toNatClampNeg, r15.2))))))) else (some (x16, r15.2))))))))))) else (some ((-1000001), w11)))))))))))
def f_X8_detour_L30 (k : Int32 → Mem → Option (Int32 × Mem)) (x2 : Int32) : Nat → Int32 → Mem → Option (Int32 × Mem)
  | 0, _, _ => none
  | t + 1, u15, w16 =>
    (gd (inb 5 109) (if (w16 6 (5 : Int32).toNatClampNeg) ≤ u15 then (k u15 w16) else (gd (inb u15 3) (if (((w16 26 u15.toNatClampNeg) >>> (x2 &&& 31)) &&& 1) = (1 : Int32) then (gd (inb u15 3) (gd (inb ((128 * u15) + (w16 26 u15.toNatClampNeg)) 384) (gd (inb u15 3) ((f_X8_leastOf w16 u15 ((w16 26 u15.toNatClampNeg) &&& ((1 <<< (x2 &&& 31)) ^^^ (-1)))).bind (fun r17 => (some ((w16 22 ((128 * u15) + (w16 26 u15.toNatClampNeg)).toNatClampNeg) - r17.1, r17.2))))))) else (f_X8_detour_L30 k x2 t (u15 + 1) w16)))))
def f_X8_detour (m0 : Mem) (x1 : Int32) (x2 : Int32) : Option (Int32 × Mem) :=
  (nm (α := Mem) (up m0 0 0 0) (fun w11 => ((f_X8_isMinute x1).bind (fun r12 => (if r12 = 0 then (some ((-1000001), w11)) else ((f_X8_isPerson w11 x2).bind (fun r13 => (if r13 = 0 then (some ((-1000001), w11)) else ((f_X8_layHome w11 x1).bind (fun r14 => (f_X8_detour_L30 (fun (u18 : Int32) (w19 : Mem) => (some ((-1000000), w19))) x2 100000 0 r14)))))))))))
def f_X8_fetch_L49 (k : Int32 → Int32 → Option (Int32 × Mem)) (r13 : Int32) (w11 : Mem) : Nat → Int32 → Int32 → Option (Int32 × Mem)
  | 0, _, _ => none
  | t + 1, u16, u17 =>
    (gd (inb 5 109) (if (w11 6 (5 : Int32).toNatClampNeg) ≤ u17 then (k u16 u17) else (if ((r13 >>> (u17 &&& 31)) &&& 1) = (1 : Int32) then ((f_X8_car0 w11 u17 (1 : Int32)).bind (fun r18 => (if r18 ≤ u16 then (f_X8_fetch_L49 k r13 w11 t u16 (u17 + 1)) else ((f_X8_car0 w11 u17 (1 : Int32)).bind (fun r19 => (f_X8_fetch_L49 k r13 w11 t r19 (u17 + 1))))))) else (f_X8_fetch_L49 k r13 w11 t u16 (u17 + 1)))))
def f_X8_fetch_L108 (k : Int32 → Int32 → Option (Int32 × Mem)) (w11 : Mem) : Nat → Int32 → Int32 → Option (Int32 × Mem)
  | 0, _, _ => none
  | t + 1, u22, u23 =>
    (gd (inb 4 109) (if (w11 6 (4 : Int32).toNatClampNeg) ≤ u23 then (k u22 u23) else ((f_X8_of w11 u23 (0 : Int32)).bind (fun r24 => (if r24 = (5 : Int32) then (nm (α := Int32) (u22 + 0) (fun x26 => (f_X8_fetch_L108 k w11 t x26 (u23 + 1)))) else (nm (α := Int32) (u22 + 1) (fun x25 => (f_X8_fetch_L108 k w11 t x25 (u23 + 1)))))))))
def f_X8_fetch (m0 : Mem) (x1 : Int32) : Option (Int32 × Mem) :=
  (nm (α := Mem) (up m0 0 0 0) (fun w11 => (if (w11 0 7) = 0 then (some ((-1000002), w11)) else ((f_X8_isMinute x1).bind (fun r12 => (if r12 = 0 then (some ((-1000001), w11)) else ((f_X8_goingAt w11 x1).bind (fun r13 => (gd (inb 5 109) ((f_X8_bits r13).bind (fun r14 => (nm (α := Int32) ((w11 6 (5 : Int32).toNatClampNeg) - r14) (fun x15 => (f_X8_fetch_L49 (fun (u20 : Int32) (u21 : Int32) => (f_X8_fetch_L108 (fun (u27 : Int32) (u28 : Int32) => (nm (α := Int32) (if u27 ≤ u20 then u27 else u20) (fun a29 => (if x15 = 0 then (some (0, w11)) else (if (1 : Int32) ≤ a29 then (gd (decide (¬ a29 = 0)) (some (((x15 + a29) - 1) / a29, w11))) else (some ((-1000000), w11))))))) w11 100000 (-1) 0)) r13 w11 100000 0 0))))))))))))))
def f_X8_allFar_L4 (k : Int32 → Int32 → Option (Int32)) (x1 : Int32) (m0 : Mem) : Nat → Int32 → Int32 → Option (Int32)
  | 0, _, _ => none
  | t + 1, u11, u12 =>
    (gd (inb 4 109) (if (m0 6 (4 : Int32).toNatClampNeg) ≤ u12 then (k u11 u12) else ((f_X8_of m0 u12 (1 : Int32)).bind (fun r13 => ((f_X8_farOf m0 x1 r13).bind (fun r14 => (nm (α := Int32) (u11 + r14) (fun x15 => (f_X8_allFar_L4 k x1 m0 t x15 (u12 + 1))))))))))
def f_X8_allFar (m0 : Mem) (x1 : Int32) : Option (Int32) :=
  (f_X8_allFar_L4 (fun (u16 : Int32) (u17 : Int32) => (some u16)) x1 m0 100000 0 0)
def f_X8_house_L38 (k : Int32 → Int32 → Int32 → Option (Int32 × Mem)) (w11 : Mem) : Nat → Int32 → Int32 → Int32 → Option (Int32 × Mem)
  | 0, _, _, _ => none
  | t + 1, u13, u14, u15 =>
    (gd (inb 4 109) (if (w11 6 (4 : Int32).toNatClampNeg) ≤ u15 then (k u13 u14 u15) else ((f_X8_of w11 u15 (1 : Int32)).bind (fun r16 => ((f_X8_allFar w11 r16).bind (fun r17 => (if u14 ≤ r17 then (if u14 ≤ r17 then (f_X8_house_L38 k w11 t u13 u14 (u15 + 1)) else (f_X8_house_L38 k w11 t u13 r17 (u15 + 1))) else (if u14 ≤ r17 then (f_X8_house_L38 k w11 t u15 u14 (u15 + 1)) else (f_X8_house_L38 k w11 t u15 r17 (u15 + 1))))))))))
def f_X8_house (m0 : Mem) (x1 : Int32) : Option (Int32 × Mem) :=
  (nm (α := Mem) (up m0 0 0 0) (fun w11 => (if (w11 0 7) = 0 then (some ((-1000002), w11)) else ((f_X8_in x1.toInt64 (0 : Int64) (1 : Int64)).bind (fun r12 => (if r12 = 0 then (some ((-1000001), w11)) else (f_X8_house_L38 (fun (u18 : Int32) (u19 : Int32) (u20 : Int32) => (if u18 = ((-1000000) : Int32) then (some (u18, w11)) else (if x1 = 0 then (some (u18, w11)) else (some (u19, w11))))) w11 100000 (-1000000) 10000 0)))))))
def f_X8_lack (m0 : Mem) (x1 : Int32) (x2 : Int32) : Option (Int32) :=
  (gd (inb x1 8) (if 0 ≤ (m0 3 x1.toNatClampNeg) then (gd (inb x1 8) (if x2 ≤ (m0 4 x1.toNatClampNeg) then (some 0) else (some 2))) else (some 1)))
def f_X8_noTimes_L2 (k : Int32 → Mem → Option (Mem)) : Nat → Int32 → Mem → Option (Mem)
  | 0, _, _ => none
  | t + 1, u11, w12 =>
    (if (7 : Int32) ≤ u11 then (k u11 w12) else (gd (inb u11 7) (nm (α := Mem) (up w12 33 u11.toNatClampNeg 0) (fun w13 => (f_X8_noTimes_L2 k t (u11 + 1) w13)))))
def f_X8_noTimes (m0 : Mem) : Option (Mem) :=
  (f_X8_noTimes_L2 (fun (u14 : Int32) (w15 : Mem) => (some w15))  100000 0 m0)
def f_X8_turn_L78 (k : Int32 → Mem → Option (Int32 × Mem)) (x1 : Int32) (x2 : Int32) : Nat → Int32 → Mem → Option (Int32 × Mem)
  | 0, _, _ => none
  | t + 1, u17, w18 =>
    (if x2 ≤ u17 then (k u17 w18) else (gd (inb ((40 * x1) + u17) 320) (nm (α := Int32) (w18 5 ((40 * x1) + u17).toNatClampNeg) (fun x19 => ((f_X8_isPerson w18 x19).bind (fun r20 => (if r20 = 0 then (some ((-1000001), w18)) else (gd (inb x19 7) (gd (inb x19 7) (nm (α := Mem) (up w18 33 x19.toNatClampNeg ((w18 33 x19.toNatClampNeg) + 1)) (fun w21 => (f_X8_turn_L78 k x1 x2 t (u17 + 1) w21))))))))))))
def f_X8_turn_L141 (k : Int32 → Int32 → Int32 → Option (Int32 × Mem)) (w24 : Mem) : Nat → Int32 → Int32 → Int32 → Option (Int32 × Mem)
  | 0, _, _, _ => none
  | t + 1, u25, u26, u27 =>
    (gd (inb 4 109) (if (w24 6 (4 : Int32).toNatClampNeg) ≤ u27 then (k u25 u26 u27) else (gd (inb u27 7) (gd (inb u25 7) (nm (α := Int32) (if (w24 33 u25.toNatClampNeg) ≤ (w24 33 u27.toNatClampNeg) then u25 else u27) (fun a28 => (gd (inb u27 7) (gd (inb u26 7) (if (w24 33 u27.toNatClampNeg) ≤ (w24 33 u26.toNatClampNeg) then (f_X8_turn_L141 k w24 t a28 u26 (u27 + 1)) else (f_X8_turn_L141 k w24 t a28 u27 (u27 + 1)))))))))))
def f_X8_turn (m0 : Mem) (x1 : Int32) (x2 : Int32) (x3 : Int32) : Option (Int32 × Mem) :=
  (nm (α := Mem) (up m0 0 0 0) (fun w11 => (gd (inb 4 109) (if (w11 6 (4 : Int32).toNatClampNeg) = 0 then (some ((-1000002), w11)) else ((f_X8_isRow x1).bind (fun r12 => (if r12 = 0 then (some ((-1000001), w11)) else ((f_X8_in x2.toInt64 (0 : Int64) (40 : Int64)).bind (fun r13 => (if r13 = 0 then (some ((-1000001), w11)) else ((f_X8_in x3.toInt64 (0 : Int64) (2 : Int64)).bind (fun r14 => (if r14 = 0 then (some ((-1000001), w11)) else ((f_X8_lack w11 x1 x2).bind (fun r15 => (if r15 ≤ 0 then ((f_X8_noTimes w11).bind (fun r16 => (f_X8_turn_L78 (fun (u22 : Int32) (w23 : Mem) => (nm (α := Mem) (up w23 0 1 0) (fun w24 => (f_X8_turn_L141 (fun (u30 : Int32) (u31 : Int32) (u32 : Int32) => (if x3 = 0 then (some (u30, w24)) else (if x3 = (1 : Int32) then (gd (inb u30 7) (some (w24 33 u30.toNatClampNeg, w24))) else (gd (inb u31 7) (gd (inb 4 109) (some (((w24 33 u31.toNatClampNeg) * (w24 6 (4 : Int32).toNatClampNeg)) - x2, w24))))))) w24 100000 0 0 1)))) x1 x2 100000 0 r16))) else ((f_X8_finding w11 r15).bind (fun r33 => (some (r33.1, r33.2))))))))))))))))))))
def f_X8_gloves_L138 (k : Int32 → Mem → Option (Int32 × Mem)) (x21 : Int32) : Nat → Int32 → Mem → Option (Int32 × Mem)
  | 0, _, _ => none
  | t + 1, u24, w25 =>
    (if (7 : Int32) ≤ u24 then (k u24 w25) else (gd (inb u24 7) (gd (inb u24 7) (nm (α := Mem) (up w25 33 u24.toNatClampNeg ((w25 33 u24.toNatClampNeg) + ((x21 >>> (u24 &&& 31)) &&& 1))) (fun w26 => (f_X8_gloves_L138 k x21 t (u24 + 1) w26))))))
def f_X8_gloves_L92 (k : Int32 → Int32 → Mem → Option (Int32 × Mem)) (x1 : Int32) (x2 : Int32) (x17 : Int32) : Nat → Int32 → Int32 → Mem → Option (Int32 × Mem)
  | 0, _, _, _ => none
  | t + 1, u18, u19, w20 =>
    (if x2 ≤ u19 then (k u18 u19 w20) else (gd (inb ((40 * x1) + u19) 320) (nm (α := Int32) (w20 5 ((40 * x1) + u19).toNatClampNeg) (fun x21 => ((f_X8_in x21.toInt64 (0 : Int64) x17.toInt64).bind (fun r22 => (if r22 = 0 then (some ((-1000001), w20)) else (nm (α := Int32) (u18 &&& x21) (fun x23 => (f_X8_gloves_L138 (fun (u27 : Int32) (w28 : Mem) => (f_X8_gloves_L92 k x1 x2 x17 t x23 (u19 + 1) w28)) x21 100000 0 w20))))))))))
def f_X8_gloves_L185 (k : Int32 → Int32 → Option (Int32 × Mem)) (w32 : Mem) : Nat → Int32 → Int32 → Option (Int32 × Mem)
  | 0, _, _ => none
  | t + 1, u33, u34 =>
    (gd (inb 4 109) (if (w32 6 (4 : Int32).toNatClampNeg) ≤ u34 then (k u33 u34) else (gd (inb u34 7) (gd (inb u33 7) (if (w32 33 u34.toNatClampNeg) ≤ (w32 33 u33.toNatClampNeg) then (f_X8_gloves_L185 k w32 t u33 (u34 + 1)) else (f_X8_gloves_L185 k w32 t u34 (u34 + 1)))))))
def f_X8_gloves (m0 : Mem) (x1 : Int32) (x2 : Int32) (x3 : Int32) : Option (Int32 × Mem) :=
  (nm (α := Mem) (up m0 0 0 0) (fun w11 => (gd (inb 4 109) (if (w11 6 (4 : Int32).toNatClampNeg) = 0 then (some ((-1000002), w11)) else ((f_X8_isRow x1).bind (fun r12 => (if r12 = 0 then (some ((-1000001), w11)) else ((f_X8_in x2.toInt64 (1 : Int64) (40 : Int64)).bind (fun r13 => (if r13 = 0 then (some ((-1000001), w11)) else ((f_X8_in x3.toInt64 (0 : Int64) (1 : Int64)).bind (fun r14 => (if r14 = 0 then (some ((-1000001), w11)) else ((f_X8_lack w11 x1 x2).bind (fun r15 => (if r15 ≤ 0 then ((f_X8_noTimes w11).bind (fun r16 => (gd (inb 4 109) (nm (α := Int32) ((1 <<< ((r16 6 (4 : Int32).toNatClampNeg) &&& 31)) - 1) (fun x17 => (f_X8_gloves_L92 (fun (u29 : Int32) (u30 : Int32) (w31 : Mem) => (nm (α := Mem) (up w31 0 1 0) (fun w32 => (f_X8_gloves_L185 (fun (u35 : Int32) (u36 : Int32) => (if x3 = 0 then (some (u29, w32)) else (some (u35, w32)))) w32 100000 0 1)))) x1 x2 x17 100000 x17 0 r16)))))) else ((f_X8_finding w11 r15).bind (fun r37 => (some (r37.1, r37.2))))))))))))))))))))
def f_X8_image_L30 (k : Int32 → Mem → Option (Int32 × Mem)) (x1 : Int32) : Nat → Int32 → Mem → Option (Int32 × Mem)
  | 0, _, _ => none
  | t + 1, u13, w14 =>
    (if (109 : Int32) ≤ u13 then (k u13 w14) else (gd (inb u13 109) (gd (inb ((109 * x1) + u13) 218) (nm (α := Mem) (up w14 35 ((109 * x1) + u13).toNatClampNeg (w14 6 u13.toNatClampNeg)) (fun w15 => (f_X8_image_L30 k x1 t (u13 + 1) w15))))))
def f_X8_image (m0 : Mem) (x1 : Int32) : Option (Int32 × Mem) :=
  (nm (α := Mem) (up m0 0 0 0) (fun w11 => ((f_X8_in x1.toInt64 (0 : Int64) (1 : Int64)).bind (fun r12 => (if r12 = 0 then (some ((-1000001), w11)) else (if (w11 0 7) = 0 then (some ((-1000002), w11)) else (f_X8_image_L30 (fun (u16 : Int32) (w17 : Mem) => (gd (inb x1 2) (nm (α := Mem) (up w17 34 x1.toNatClampNeg (vp_nar .boolean 1)) (fun w18 => (some (1, w18)))))) x1 100000 0 w11)))))))
def f_X8_restore_L32 (k : Int32 → Mem → Option (Int32 × Mem)) (x1 : Int32) : Nat → Int32 → Mem → Option (Int32 × Mem)
  | 0, _, _ => none
  | t + 1, u13, w14 =>
    (if (109 : Int32) ≤ u13 then (k u13 w14) else (gd (inb ((109 * x1) + u13) 218) (gd (inb u13 109) (nm (α := Mem) (up w14 6 u13.toNatClampNeg (w14 35 ((109 * x1) + u13).toNatClampNeg)) (fun w15 => (f_X8_restore_L32 k x1 t (u13 + 1) w15))))))
def f_X8_restore (m0 : Mem) (x1 : Int32) : Option (Int32 × Mem) :=
  (nm (α := Mem) (up m0 0 0 0) (fun w11 => ((f_X8_in x1.toInt64 (0 : Int64) (1 : Int64)).bind (fun r12 => (if r12 = 0 then (some ((-1000001), w11)) else (gd (inb x1 2) (if (w11 34 x1.toNatClampNeg) = 0 then (some ((-1000002), w11)) else (f_X8_restore_L32 (fun (u16 : Int32) (w17 : Mem) => (nm (α := Mem) (up w17 0 10 0) (fun w18 => (some (1, w18))))) x1 100000 0 w11))))))))
def f_X8_kind (m0 : Mem) (x1 : Int32) : Option (Int32 × Mem) :=
  (nm (α := Mem) (up m0 0 0 0) (fun w11 => ((f_X8_isPerson w11 x1).bind (fun r12 => (if r12 = 0 then (some ((-1000001), w11)) else ((f_X8_of w11 x1 (0 : Int32)).bind (fun r13 => (some (r13, w11)))))))))
def f_X8_isOf (x0 : Int32) (x1 : Int32) : Option (Int32) :=
  (if x1 = 0 then (some 1) else (if x0 = x1 then (some 1) else (if x1 = (1 : Int32) then (if x0 < (4 : Int32) then (some 1) else (if x1 = (4 : Int32) then (if x0 = (5 : Int32) then (some 1) else (some 0)) else (some 0))) else (if x1 = (4 : Int32) then (if x0 = (5 : Int32) then (some 1) else (some 0)) else (some 0)))))
def f_X8_as (m0 : Mem) (x1 : Int32) (x2 : Int32) : Option (Int32 × Mem) :=
  (nm (α := Mem) (up m0 0 0 0) (fun w11 => ((f_X8_isPerson w11 x1).bind (fun r12 => (if r12 = 0 then (some ((-1000001), w11)) else ((f_X8_in x2.toInt64 (0 : Int64) (5 : Int64)).bind (fun r13 => (if r13 = 0 then (some ((-1000001), w11)) else (nm (α := Mem) (up w11 0 1 0) (fun w14 => ((f_X8_of w14 x1 (0 : Int32)).bind (fun r15 => ((f_X8_isOf r15 x2).bind (fun r16 => (if r16 = 0 then ((f_X8_finding w14 (3 : Int32)).bind (fun r17 => (some (r17.1, r17.2)))) else (some (x1, w14)))))))))))))))))
def f_X8_began (m0 : Mem) (x1 : Int32) : Option (Mem) :=
  (if (16 : Int32) ≤ (m0 0 36) then (some m0) else (gd (inb (m0 0 36) 16) (nm (α := Mem) (up m0 36 (m0 0 36).toNatClampNeg x1) (fun w11 => (nm (α := Mem) (up w11 0 36 ((w11 0 36) + 1)) (fun w12 => (some w12)))))))
def f_X8_plainSize (m0 : Mem) (x1 : Int32) : Option (Int32 × Mem) :=
  ((f_X8_began m0 (10 : Int32)).bind (fun r11 => ((f_X8_of r11 x1 (2 : Int32)).bind (fun r12 => (some (r12, r11))))))
def f_X8_sickSize (m0 : Mem) (x1 : Int32) : Option (Int32 × Mem) :=
  ((f_X8_of m0 x1 (0 : Int32)).bind (fun r11 => (jn (α := Mem) (fun j14 => (if r11 = (5 : Int32) then ((f_X8_began m0 (14 : Int32)).bind (fun r12 => (j14 r12))) else (j14 m0))) (fun a13 => ((f_X8_began a13 (13 : Int32)).bind (fun r15 => ((f_X8_plainSize r15 x1).bind (fun r16 => (nm (α := Int32) (r16.1 - 100) (fun x17 => ((f_X8_of r16.2 x1 (0 : Int32)).bind (fun r18 => (if r18 = (5 : Int32) then (some (2 * x17, r16.2)) else (some (x17, r16.2)))))))))))))))
def f_X8_markOf (m0 : Mem) (x1 : Int32) : Option (Int32 × Mem) :=
  ((f_X8_of m0 x1 (0 : Int32)).bind (fun r11 => (if r11 < (4 : Int32) then (jn (α := Mem) (fun j15 => (if r11 = (1 : Int32) then (j15 m0) else (if r11 = (2 : Int32) then ((f_X8_began m0 (22 : Int32)).bind (fun r13 => (j15 r13))) else ((f_X8_began m0 (24 : Int32)).bind (fun r12 => (j15 r12)))))) (fun a14 => ((f_X8_began a14 (21 : Int32)).bind (fun r16 => ((f_X8_began r16 (20 : Int32)).bind (fun r17 => ((f_X8_of r17 x1 (1 : Int32)).bind (fun r18 => (nm (α := Int32) (x1 + (10 * r18)) (fun x19 => (if r11 = (1 : Int32) then (some (x19, r17)) else (if r11 = (2 : Int32) then (some (x19 - 1000, r17)) else (some (2 * x19, r17)))))))))))))) else ((f_X8_began m0 (23 : Int32)).bind (fun r20 => ((f_X8_began r20 (20 : Int32)).bind (fun r21 => ((f_X8_sickSize r21 x1).bind (fun r22 => (some (x1 - r22.1, r22.2)))))))))))
def f_X8_sizeOf (m0 : Mem) (x1 : Int32) : Option (Int32 × Mem) :=
  ((f_X8_of m0 x1 (0 : Int32)).bind (fun r11 => (if r11 < (4 : Int32) then (jn (α := Mem) (fun j14 => (if r11 = (3 : Int32) then ((f_X8_began m0 (12 : Int32)).bind (fun r12 => (j14 r12))) else (j14 m0))) (fun a13 => ((f_X8_began a13 (11 : Int32)).bind (fun r15 => ((f_X8_plainSize r15 x1).bind (fun r16 => (nm (α := Int32) (r16.1) (fun x17 => ((f_X8_markOf r16.2 x1).bind (fun r18 => (nm (α := Int32) (x17 + r18.1) (fun x19 => (if r11 = (3 : Int32) then (some (-x19, r18.2)) else (some (x19, r18.2))))))))))))))) else ((f_X8_sickSize m0 x1).bind (fun r20 => (some (r20.1, r20.2)))))))
def f_X8_ask (m0 : Mem) (x1 : Int32) (x2 : Int32) : Option (Int32 × Mem) :=
  (nm (α := Mem) (up m0 0 0 0) (fun w11 => ((f_X8_isPerson w11 x1).bind (fun r12 => (if r12 = 0 then (some ((-1000001), w11)) else ((f_X8_in x2.toInt64 (0 : Int64) (1 : Int64)).bind (fun r13 => (if r13 = 0 then (some ((-1000001), w11)) else (nm (α := Mem) (up w11 0 36 0) (fun w14 => (if x2 = 0 then ((f_X8_sizeOf w14 x1).bind (fun r16 => (some (r16.1, r16.2)))) else ((f_X8_markOf w14 x1).bind (fun r15 => (some (r15.1, r15.2)))))))))))))))
def f_X8_trace (m0 : Mem) (x1 : Int32) : Option (Int32 × Mem) :=
  (nm (α := Mem) (up m0 0 0 0) (fun w11 => ((f_X8_in x1.toInt64 (0 : Int64) (((w11 0 36) - 1).toInt64)).bind (fun r12 => (if r12 = 0 then (some ((-1000000), w11)) else (gd (inb x1 16) (some (w11 36 x1.toNatClampNeg, w11))))))))
def f_X8_count_L54 (k : Int32 → Int32 → Option (Int32 × Mem)) (w11 : Mem) : Nat → Int32 → Int32 → Option (Int32 × Mem)
  | 0, _, _ => none
  | t + 1, u12, u13 =>
    (if (8 : Int32) ≤ u13 then (k u12 u13) else (gd (inb u13 8) (if (w11 3 u13.toNatClampNeg) < 0 then (nm (α := Int32) (u12 + 0) (fun x14 => (f_X8_count_L54 k w11 t x14 (u13 + 1)))) else (nm (α := Int32) (u12 + 1) (fun x15 => (f_X8_count_L54 k w11 t x15 (u13 + 1)))))))
def f_X8_count_L103 (k : Int32 → Int32 → Option (Int32 × Mem)) (w11 : Mem) : Nat → Int32 → Int32 → Option (Int32 × Mem)
  | 0, _, _ => none
  | t + 1, u18, u19 =>
    (gd (inb 4 109) (if (w11 6 (4 : Int32).toNatClampNeg) ≤ u19 then (k u18 u19) else ((f_X8_of w11 u19 (2 : Int32)).bind (fun r20 => (nm (α := Int32) (u18 + r20) (fun x21 => (f_X8_count_L103 k w11 t x21 (u19 + 1))))))))
def f_X8_count (m0 : Mem) (x1 : Int32) : Option (Int32 × Mem) :=
  (nm (α := Mem) (up m0 0 0 0) (fun w11 => (if x1 = 0 then (f_X8_count_L54 (fun (u16 : Int32) (u17 : Int32) => (some (u16, w11))) w11 100000 0 0) else (if x1 = 1 then (gd (inb ((4 + x1) - 1) 109) (some (w11 6 ((4 + x1) - 1).toNatClampNeg, w11))) else (if x1 = 2 then (gd (inb ((4 + x1) - 1) 109) (some (w11 6 ((4 + x1) - 1).toNatClampNeg, w11))) else (if x1 = 3 then (gd (inb ((4 + x1) - 1) 109) (some (w11 6 ((4 + x1) - 1).toNatClampNeg, w11))) else (if x1 = 4 then (some (w11 0 10, w11)) else (if x1 = 5 then (f_X8_count_L103 (fun (u22 : Int32) (u23 : Int32) => (some (u22, w11))) w11 100000 0 0) else (if x1 = 6 then (some (w11 0 12, w11)) else (some ((-1000001), w11)))))))))))
def f_X8_status (m0 : Mem) : Option (Int32 × Mem) :=
  (nm (α := Mem) (up m0 0 0 0) (fun w11 => (some (w11 0 1, w11))))
def f_X7_isRow (x0 : Int32) : Option (Int32) :=
  (if x0 < 0 then (some 0) else (if (8 : Int32) ≤ x0 then (some 0) else (some 1)))
def f_X7_found (m11 : Mem) (x1 : Int32) : Option (Int32 × Mem) :=
  (nm (α := Mem) (up m11 0 9 x1) (fun w11 => (some ((-1000010) - x1, w11))))
def f_X6_make (m5 : Mem) (x1 : Int32) (x2 : Int32) (x3 : Int32) : Option (Mem) :=
  (gd (inb x1 8) (nm (α := Mem) (up m5 1 x1.toNatClampNeg x2) (fun w11 => (gd (inb x1 8) (nm (α := Mem) (up w11 2 x1.toNatClampNeg x3) (fun w12 => (gd (inb x1 8) (nm (α := Mem) (upA w12 (10 + x1.toNatClampNeg) (fillf 40 0 (w12 (10 + x1.toNatClampNeg)))) (fun w14 => (some w14))))))))))
def f_X7_fine (m11 : Mem) (x1 : Int32) : Option (Int32 × Mem) :=
  (nm (α := Mem) (up m11 0 9 0) (fun w11 => (some (x1, w11))))
def f_X7_row (m5 : Mem) (m11 : Mem) (x1 : Int32) (x2 : Int32) (x3 : Int32) : Option (Int32 × Mem × Mem) :=
  ((f_X7_isRow x1).bind (fun r11 => (if r11 = 0 then (some ((-1000001), m5, m11)) else (if x2 < 0 then (some ((-1000001), m5, m11)) else (if (2 : Int32) < x2 then (some ((-1000001), m5, m11)) else (if x3 ≤ (40 : Int32) then (if 0 ≤ x3 then ((f_X6_make m5 x1 x2 x3).bind (fun r12 => ((f_X7_fine m11 x3).bind (fun r13 => (some (r13.1, r12, r13.2)))))) else ((f_X7_found m11 (4 : Int32)).bind (fun r14 => (some (r14.1, m5, r14.2))))) else (some ((-1000001), m5, m11))))))))
def f_X6_isMissing (m5 : Mem) (x1 : Int32) : Option (Int32) :=
  (gd (inb x1 8) (if (m5 1 x1.toNatClampNeg) = ((-1) : Int32) then (some 1) else (some 0)))
def f_X6_hasStretch (m5 : Mem) (x1 : Int32) (x2 : Int32) (x3 : Int32) : Option (Int32) :=
  (if x2 < 0 then (some 0) else (if x3 < 0 then (some 0) else (gd (inb x1 8) (if (m5 2 x1.toNatClampNeg) < x2 then (some 0) else (gd (inb x1 8) (if ((m5 2 x1.toNatClampNeg) - x2) < x3 then (some 0) else (some 1)))))))
def f_X6_inLane (x0 : Int32) (x1 : Int32) : Option (Int32) :=
  (if x0 = 0 then (some x1.toInt8.toInt32) else (if x0 = (1 : Int32) then (some x1.toInt16.toInt32) else (some x1)))
def f_X6_put (m5 : Mem) (x1 : Int32) (x2 : Int32) (x3 : Int32) : Option (Int32 × Mem) :=
  (gd (inb x1 8) (gd (inb x1 8) ((f_X6_inLane (m5 1 x1.toNatClampNeg) x3).bind (fun r12 => (gd (inb x2 40) (nm (α := Mem) (up m5 (10 + x1.toNatClampNeg) x2.toNatClampNeg r12) (fun w13 => (gd (inb x1 8) (gd (inb x2 40) (some (w13 (10 + x1.toNatClampNeg) x2.toNatClampNeg, w13)))))))))))
def f_X7_set (m5 : Mem) (m11 : Mem) (x1 : Int32) (x2 : Int32) (x3 : Int32) : Option (Int32 × Mem × Mem) :=
  ((f_X7_isRow x1).bind (fun r11 => (if r11 = 0 then (some ((-1000001), m5, m11)) else ((f_X6_isMissing m5 x1).bind (fun r12 => (if r12 = 0 then ((f_X6_hasStretch m5 x1 x2 (1 : Int32)).bind (fun r13 => (if r13 = 0 then ((f_X7_found m11 (2 : Int32)).bind (fun r16 => (some (r16.1, m5, r16.2)))) else ((f_X6_put m5 x1 x2 x3).bind (fun r14 => ((f_X7_fine m11 r14.1).bind (fun r15 => (some (r15.1, r14.2, r15.2))))))))) else ((f_X7_found m11 (1 : Int32)).bind (fun r17 => (some (r17.1, m5, r17.2))))))))))
def f_X6_areOfOneLane (m5 : Mem) (x1 : Int32) (x2 : Int32) : Option (Int32) :=
  (gd (inb x1 8) (gd (inb x2 8) (if (m5 1 x1.toNatClampNeg) = (m5 1 x2.toNatClampNeg) then (some 1) else (some 0))))
def f_X6_move (m5 : Mem) (x1 : Int32) (x2 : Int32) (x3 : Int32) (x4 : Int32) (x5 : Int32) : Option (Mem) :=
  (gd (inb x1 8) (gd (inb x3 8) (gd (cpok x2 x4 x5 40 40) (nm (α := Mem) (upA m5 (10 + x3.toNatClampNeg) (va_cpy (m5 (10 + x1.toNatClampNeg)) (m5 (10 + x3.toNatClampNeg)) x2.toNatClampNeg x4.toNatClampNeg x5.toNatClampNeg)) (fun w13 => (some w13))))))
def f_X7_copy (m5 : Mem) (m11 : Mem) (x1 : Int32) (x2 : Int32) (x3 : Int32) (x4 : Int32) (x5 : Int32) : Option (Int32 × Mem × Mem) :=
  ((f_X7_isRow x1).bind (fun r11 => (if r11 = 0 then (some ((-1000001), m5, m11)) else ((f_X7_isRow x3).bind (fun r12 => (if r12 = 0 then (some ((-1000001), m5, m11)) else ((f_X6_isMissing m5 x1).bind (fun r13 => (if r13 = 0 then ((f_X6_isMissing m5 x3).bind (fun r15 => (if r15 = 0 then ((f_X6_areOfOneLane m5 x1 x3).bind (fun r16 => (if r16 = 0 then ((f_X7_found m11 (5 : Int32)).bind (fun r23 => (some (r23.1, m5, r23.2)))) else ((f_X6_hasStretch m5 x1 x2 x5).bind (fun r17 => (if r17 = 0 then ((f_X7_found m11 (2 : Int32)).bind (fun r18 => (some (r18.1, m5, r18.2)))) else ((f_X6_hasStretch m5 x3 x4 x5).bind (fun r19 => (if r19 = 0 then ((f_X7_found m11 (2 : Int32)).bind (fun r22 => (some (r22.1, m5, r22.2)))) else ((f_X6_move m5 x1 x2 x3 x4 x5).bind (fun r20 => ((f_X7_fine m11 x5).bind (fun r21 => (some (r21.1, r20, r21.2))))))))))))))) else ((f_X7_found m11 (1 : Int32)).bind (fun r24 => (some (r24.1, m5, r24.2))))))) else ((f_X7_found m11 (1 : Int32)).bind (fun r14 => (some (r14.1, m5, r14.2)))))))))))))
def f_X6_takeAway (m5 : Mem) (x1 : Int32) : Option (Int32 × Mem) :=
  (gd (inb x1 8) (nm (α := Mem) (up m5 1 x1.toNatClampNeg (-1)) (fun w11 => (gd (inb x1 8) (some (w11 2 x1.toNatClampNeg, w11))))))
def f_X7_drop (m5 : Mem) (m11 : Mem) (x1 : Int32) : Option (Int32 × Mem × Mem) :=
  ((f_X7_isRow x1).bind (fun r11 => (if r11 = 0 then (some ((-1000001), m5, m11)) else ((f_X6_isMissing m5 x1).bind (fun r12 => (if r12 = 0 then ((f_X6_takeAway m5 x1).bind (fun r13 => ((f_X7_fine m11 r13.1).bind (fun r14 => (some (r14.1, r13.2, r14.2)))))) else ((f_X7_found m11 (1 : Int32)).bind (fun r15 => (some (r15.1, m5, r15.2))))))))))
def f_X5_append_L20 (k : Int32 → Mem → Option (Int32 × Mem)) (x1 : Int64) : Nat → Int32 → Mem → Option (Int32 × Mem)
  | 0, _, _ => none
  | t + 1, u12, w13 =>
    (if u12 < 0 then (k u12 w13) else (gd (inb (w13 0 1) 500) (nm (α := Mem) (up w13 1 (w13 0 1).toNatClampNeg (vp_nar .byte (((x1 >>> ((8 * u12).toInt64 &&& 63)).toInt32).toInt8.toInt32))) (fun w14 => (nm (α := Mem) (up w14 0 1 ((w14 0 1) + 1)) (fun w15 => (f_X5_append_L20 k x1 t (u12 + (-1)) w15)))))))
def f_X5_append (m4 : Mem) (x1 : Int64) (x3 : Int32) : Option (Int32 × Mem) :=
  (if x3 ≤ (500 - (m4 0 1)) then (nm (α := Int32) (x3 - 1) (fun x11 => (f_X5_append_L20 (fun (u16 : Int32) (w17 : Mem) => (some (w17 0 1, w17))) x1 100000 x11 m4))) else (some ((-1000003), m4)))
def f_X7_feed (m4 : Mem) (x1 : Int64) (x3 : Int32) : Option (Int32 × Mem) :=
  (if x3 < (1 : Int32) then (some ((-1000001), m4)) else (if x3 ≤ (8 : Int32) then ((f_X5_append m4 x1 x3).bind (fun r11 => (some (r11.1, r11.2)))) else (some ((-1000001), m4))))
def f_X3_clear_L51 (k : Int32 → Mem → Option (Mem)) : Nat → Int32 → Mem → Option (Mem)
  | 0, _, _ => none
  | t + 1, u20, w21 =>
    (if (8 : Int32) ≤ u20 then (k u20 w21) else (gd (inb ((u20 * 8) + u20) 64) (nm (α := Mem) (up w21 11 ((u20 * 8) + u20).toNatClampNeg 0) (fun w22 => (f_X3_clear_L51 k t (u20 + 1) w22)))))
def f_X3_clear (m2 : Mem) : Option (Mem) :=
  (nm (α := Mem) (up m2 0 0 0) (fun w11 => (nm (α := Mem) (up w11 0 3 0) (fun w12 => (nm (α := Mem) (up w12 0 4 0) (fun w13 => (nm (α := Mem) (up w13 0 5 0) (fun w14 => (nm (α := Mem) (up w14 0 6 0) (fun w15 => (nm (α := Mem) (up w15 0 7 0) (fun w16 => (nm (α := Mem) (up w16 0 8 0) (fun w17 => (nm (α := Mem) (up w17 0 9 0) (fun w18 => (nm (α := Mem) (upA w18 11 (fillf 64 1000000 (w18 11))) (fun w19 => (f_X3_clear_L51 (fun (u23 : Int32) (w24 : Mem) => (nm (α := Mem) (upA w24 15 (fillf 7 0 (w24 15))) (fun w25 => (some w25))))  100000 0 w19)))))))))))))))))))
def f_X5_isGap (x0 : Int32) : Option (Int32) :=
  (if x0 = (32 : Int32) then (some 1) else (if x0 = (10 : Int32) then (some 1) else (some 0)))
def f_X5_isLetter (x0 : Int32) : Option (Int32) :=
  (if x0 < (97 : Int32) then (some 0) else (if (122 : Int32) < x0 then (some 0) else (some 1)))
def f_X5_readLetters_L5 (k : Mem → Option (Mem)) : Nat → Mem → Option (Mem)
  | 0, _ => none
  | t + 1, w12 =>
    (if (w12 0 1) ≤ (w12 0 6) then (k w12) else (gd (inb (w12 0 6) 500) ((f_X5_isLetter (w12 1 (w12 0 6).toNatClampNeg)).bind (fun r13 => (if r13 = 0 then (k w12) else (nm (α := Mem) (up w12 0 6 ((w12 0 6) + 1)) (fun w14 => (f_X5_readLetters_L5 k t w14))))))))
def f_X5_readLetters (m4 : Mem) : Option (Mem) :=
  (nm (α := Mem) (up m4 0 4 1) (fun w11 => (f_X5_readLetters_L5 (fun (w15 : Mem) => (some w15))  100000 w11)))
def f_X5_isFigure (x0 : Int32) : Option (Int32) :=
  (if x0 < (48 : Int32) then (some 0) else (if (57 : Int32) < x0 then (some 0) else (some 1)))
def f_X5_readFigures_L5 (k : Mem → Option (Mem)) : Nat → Mem → Option (Mem)
  | 0, _ => none
  | t + 1, w12 =>
    (if (w12 0 1) ≤ (w12 0 6) then (k w12) else (gd (inb (w12 0 6) 500) ((f_X5_isFigure (w12 1 (w12 0 6).toNatClampNeg)).bind (fun r13 => (if r13 = 0 then (k w12) else (if (3 : Int32) ≤ ((w12 0 6) - (w12 0 5)) then (nm (α := Mem) (up w12 0 6 ((w12 0 6) + 1)) (fun w14 => (f_X5_readFigures_L5 k t w14))) else (gd (inb (w12 0 6) 500) (nm (α := Mem) (up w12 0 7 (((10 * (w12 0 7)) + (w12 1 (w12 0 6).toNatClampNeg)) - 48)) (fun w15 => (nm (α := Mem) (up w15 0 6 ((w15 0 6) + 1)) (fun w16 => (f_X5_readFigures_L5 k t w16))))))))))))
def f_X5_readFigures (m4 : Mem) : Option (Mem) :=
  (nm (α := Mem) (up m4 0 7 0) (fun w11 => (f_X5_readFigures_L5 (fun (w17 : Mem) => (if (3 : Int32) < ((w17 0 6) - (w17 0 5)) then (nm (α := Mem) (up w17 0 4 4) (fun w18 => (some w18))) else (nm (α := Mem) (up w17 0 4 2) (fun w19 => (some w19)))))  100000 w11)))
def f_X5_readToken_L8 (k : Mem → Option (Mem)) : Nat → Mem → Option (Mem)
  | 0, _ => none
  | t + 1, w12 =>
    (if (w12 0 1) ≤ (w12 0 5) then (k w12) else (gd (inb (w12 0 5) 500) ((f_X5_isGap (w12 1 (w12 0 5).toNatClampNeg)).bind (fun r13 => (if r13 = 0 then (k w12) else (nm (α := Mem) (up w12 0 5 ((w12 0 5) + 1)) (fun w14 => (f_X5_readToken_L8 k t w14))))))))
def f_X5_readToken (m4 : Mem) : Option (Mem) :=
  (nm (α := Mem) (up m4 0 5 (m4 0 6)) (fun w11 => (f_X5_readToken_L8 (fun (w15 : Mem) => (nm (α := Mem) (up w15 0 6 (w15 0 5)) (fun w16 => (if (w16 0 5) < (w16 0 1) then (gd (inb (w16 0 5) 500) ((f_X5_isLetter (w16 1 (w16 0 5).toNatClampNeg)).bind (fun r17 => (if r17 = 0 then (gd (inb (w16 0 5) 500) ((f_X5_isFigure (w16 1 (w16 0 5).toNatClampNeg)).bind (fun r18 => (if r18 = 0 then (gd (inb (w16 0 5) 500) (if (w16 1 (w16 0 5).toNatClampNeg) = (59 : Int32) then (nm (α := Mem) (up w16 0 4 3) (fun w21 => (nm (α := Mem) (up w21 0 6 ((w21 0 6) + 1)) (fun w22 => (some w22))))) else (nm (α := Mem) (up w16 0 4 4) (fun w19 => (nm (α := Mem) (up w19 0 6 ((w19 0 6) + 1)) (fun w20 => (some w20))))))) else ((f_X5_readFigures w16).bind (fun r23 => (some r23))))))) else ((f_X5_readLetters w16).bind (fun r24 => (some r24))))))) else (nm (α := Mem) (up w16 0 4 0) (fun w25 => (some w25)))))))  100000 w11)))
def f_X5_isWord_L28 (k : Int32 → Option (Int32)) (i : Nat) (m4 : Mem) : Nat → Int32 → Option (Int32)
  | 0, _ => none
  | t + 1, u11 =>
    (if (stl i) ≤ u11 then (k u11) else (gd (inb ((m4 0 5) + u11) 500) (gd (inb u11 (swL.getD i 0)) (if (m4 1 ((m4 0 5) + u11).toNatClampNeg) = (stc i u11.toNatClampNeg) then (f_X5_isWord_L28 k i m4 t (u11 + 1)) else (some 0)))))
def f_X5_isWord (m4 : Mem) (i : Nat) : Option (Int32) :=
  (if (m4 0 4) = (1 : Int32) then (if ((m4 0 6) - (m4 0 5)) = (stl i) then (f_X5_isWord_L28 (fun (u12 : Int32) => (some 1)) i m4 100000 0) else (some 0)) else (some 0))
def f_X5_fail (m4 : Mem) (x1 : Int32) : Option (Int32 × Mem) :=
  (nm (α := Mem) (up m4 0 2 x1) (fun w11 => (nm (α := Mem) (up w11 0 3 (w11 0 5)) (fun w12 => (some (0, w12))))))
def f_X5_readNumber (m4 : Mem) (x1 : Int32) (x2 : Int32) : Option (Int32 × Mem) :=
  ((f_X5_readToken m4).bind (fun r11 => (if (r11 0 4) = (2 : Int32) then (if (r11 0 7) < x1 then ((f_X5_fail r11 (2 : Int32)).bind (fun r12 => (if r12.1 = 0 then (some (0, r12.2)) else (some (1, r12.2))))) else (if (r11 0 7) ≤ x2 then (some (1, r11)) else ((f_X5_fail r11 (2 : Int32)).bind (fun r13 => (if r13.1 = 0 then (some (0, r13.2)) else (some (1, r13.2))))))) else ((f_X5_fail r11 (1 : Int32)).bind (fun r14 => (gd (decide (r14.1 = 0 ∨ r14.1 = 1)) (some (r14.1, r14.2))))))))
def f_X5_readSign (m4 : Mem) : Option (Int32 × Mem) :=
  ((f_X5_readToken m4).bind (fun r11 => (if (r11 0 4) = (3 : Int32) then (some (1, r11)) else ((f_X5_fail r11 (1 : Int32)).bind (fun r12 => (if r12.1 = 0 then (some (0, r12.2)) else (some (1, r12.2))))))))
def f_X5_readLaw (m2 : Mem) (m4 : Mem) : Option (Int32 × Mem × Mem) :=
  ((f_X5_readToken m4).bind (fun r11 => ((f_X5_isWord r11 0).bind (fun r12 => (if r12 = 0 then ((f_X5_fail r11 (1 : Int32)).bind (fun r18 => (gd (decide (r18.1 = 0 ∨ r18.1 = 1)) (some (r18.1, m2, r18.2))))) else ((f_X5_readNumber r11 (0 : Int32) (50 : Int32)).bind (fun r13 => (if r13.1 = 0 then (some (0, m2, r13.2)) else (nm (α := Mem) (up m2 0 1 (r13.2 0 7)) (fun w14 => ((f_X5_readNumber r13.2 (1 : Int32) (20 : Int32)).bind (fun r15 => (if r15.1 = 0 then (some (0, w14, r15.2)) else (nm (α := Mem) (up w14 0 2 (r15.2 0 7)) (fun w16 => ((f_X5_readSign r15.2).bind (fun r17 => (gd (decide (r17.1 = 0 ∨ r17.1 = 1)) (some (r17.1, w16, r17.2))))))))))))))))))))
def f_X5_statementWord (m4 : Mem) : Option (Int32) :=
  ((f_X5_isWord m4 1).bind (fun r11 => (if r11 = 0 then ((f_X5_isWord m4 2).bind (fun r12 => (if r12 = 0 then ((f_X5_isWord m4 3).bind (fun r13 => (if r13 = 0 then ((f_X5_isWord m4 4).bind (fun r14 => (if r14 = 0 then ((f_X5_isWord m4 5).bind (fun r15 => (if r15 = 0 then (some 0) else (some 5)))) else (some 4)))) else (some 3)))) else (some 2)))) else (some 1))))
def f_X3_minutesBetween (m1 : Mem) (x1 : Int32) (x2 : Int32) : Option (Int32) :=
  (gd (inb ((x1 * 8) + x2) 64) (some (m1 11 ((x1 * 8) + x2).toNatClampNeg)))
def f_X3_addWay (m2 : Mem) (x1 : Int32) (x2 : Int32) (x3 : Int32) : Option (Mem) :=
  ((f_X3_minutesBetween m2 x1 x2).bind (fun r11 => (nm (α := Int32) (if r11 < x3 then r11 else x3) (fun x12 => (gd (inb ((x1 * 8) + x2) 64) (nm (α := Mem) (up m2 11 ((x1 * 8) + x2).toNatClampNeg x12) (fun w13 => (gd (inb ((x2 * 8) + x1) 64) (nm (α := Mem) (up w13 11 ((x2 * 8) + x1).toNatClampNeg x12) (fun w14 => (nm (α := Mem) (up w14 0 3 ((w14 0 3) + 1)) (fun w15 => (some w15)))))))))))))
def f_X5_readWay (m2 : Mem) (m4 : Mem) : Option (Int32 × Mem × Mem) :=
  (if (m2 0 3) < (16 : Int32) then ((f_X5_readNumber m4 (0 : Int32) (7 : Int32)).bind (fun r11 => (if r11.1 = 0 then (some (0, m2, r11.2)) else (nm (α := Int32) (r11.2 0 7) (fun x12 => ((f_X5_readNumber r11.2 (0 : Int32) (7 : Int32)).bind (fun r13 => (if r13.1 = 0 then (some (0, m2, r13.2)) else (nm (α := Int32) (r13.2 0 7) (fun x14 => (if x12 = x14 then ((f_X5_fail r13.2 (2 : Int32)).bind (fun r18 => (gd (decide (r18.1 = 0 ∨ r18.1 = 1)) (some (r18.1, m2, r18.2))))) else ((f_X5_readNumber r13.2 (1 : Int32) (99 : Int32)).bind (fun r15 => (if r15.1 = 0 then (some (0, m2, r15.2)) else ((f_X3_addWay m2 x12 x14 (r15.2 0 7)).bind (fun r16 => ((f_X5_readSign r15.2).bind (fun r17 => (gd (decide (r17.1 = 0 ∨ r17.1 = 1)) (some (r17.1, r16, r17.2))))))))))))))))))))) else ((f_X5_fail m4 (3 : Int32)).bind (fun r19 => (gd (decide (r19.1 = 0 ∨ r19.1 = 1)) (some (r19.1, m2, r19.2))))))
def f_X3_addHill (m2 : Mem) (x1 : Int32) : Option (Mem) :=
  (nm (α := Mem) (up m2 0 8 ((m2 0 8) ||| (1 <<< (x1 &&& 31)))) (fun w11 => (nm (α := Mem) (up w11 0 4 ((w11 0 4) + 1)) (fun w12 => (some w12)))))
def f_X5_readHill (m2 : Mem) (m4 : Mem) : Option (Int32 × Mem × Mem) :=
  (if (m2 0 4) < (7 : Int32) then ((f_X5_readNumber m4 (1 : Int32) (7 : Int32)).bind (fun r11 => (if r11.1 = 0 then (some (0, m2, r11.2)) else ((f_X3_addHill m2 (r11.2 0 7)).bind (fun r12 => ((f_X5_readSign r11.2).bind (fun r13 => (gd (decide (r13.1 = 0 ∨ r13.1 = 1)) (some (r13.1, r12, r13.2)))))))))) else ((f_X5_fail m4 (3 : Int32)).bind (fun r14 => (gd (decide (r14.1 = 0 ∨ r14.1 = 1)) (some (r14.1, m2, r14.2))))))
def f_X5_kindWord (m4 : Mem) : Option (Int32) :=
  ((f_X5_isWord m4 6).bind (fun r11 => (if r11 = 0 then ((f_X5_isWord m4 7).bind (fun r12 => (if r12 = 0 then ((f_X5_isWord m4 8).bind (fun r13 => (if r13 = 0 then ((f_X5_isWord m4 9).bind (fun r14 => (if r14 = 0 then ((f_X5_isWord m4 10).bind (fun r15 => (if r15 = 0 then (some 0) else (some 3)))) else (some 2)))) else (some 5)))) else (some 4)))) else (some 1))))
def f_X7_isOfKind_L4 (k : Int32 → Int32 → Option (Int32)) (x1 : Int32) : Nat → Int32 → Int32 → Option (Int32)
  | 0, _, _ => none
  | t + 1, u11, u12 =>
    (if (6 : Int32) ≤ u12 then (k u11 u12) else (if u11 < 0 then (k u11 u12) else (if (6 : Int32) ≤ u11 then (k u11 u12) else (if u11 = x1 then (some 1) else (gd (inb u11 6) (nm (α := Int32) (sta 0 u11.toNatClampNeg) (fun x13 => (f_X7_isOfKind_L4 k x1 t x13 (u12 + 1)))))))))
def f_X7_isOfKind (x0 : Int32) (x1 : Int32) : Option (Int32) :=
  (f_X7_isOfKind_L4 (fun (u14 : Int32) (u15 : Int32) => (some 0)) x1 100000 x0 0)
def f_X3_addPerson (m2 : Mem) (x1 : Int32) (x2 : Int32) (x3 : Int32) : Option (Mem) :=
  (gd (inb (m2 0 6) 7) (nm (α := Mem) (up m2 12 (m2 0 6).toNatClampNeg x1) (fun w11 => (gd (inb (w11 0 6) 7) (nm (α := Mem) (up w11 13 (w11 0 6).toNatClampNeg x2) (fun w12 => (gd (inb (w12 0 6) 7) (nm (α := Mem) (up w12 14 (w12 0 6).toNatClampNeg x3) (fun w13 => ((f_X7_isOfKind x1 (4 : Int32)).bind (fun r14 => (if r14 = 0 then (nm (α := Mem) (up w13 0 6 ((w13 0 6) + 1)) (fun w15 => (some w15))) else (nm (α := Mem) (up w13 0 9 ((w13 0 9) ||| (1 <<< ((w13 0 6) &&& 31)))) (fun w16 => (nm (α := Mem) (up w16 0 6 ((w16 0 6) + 1)) (fun w17 => (some w17)))))))))))))))))
def f_X5_readPerson (m2 : Mem) (m4 : Mem) : Option (Int32 × Mem × Mem) :=
  (if (m2 0 6) < (7 : Int32) then ((f_X5_readToken m4).bind (fun r11 => ((f_X5_kindWord r11).bind (fun r12 => (if r12 = 0 then ((f_X5_fail r11 (1 : Int32)).bind (fun r18 => (gd (decide (r18.1 = 0 ∨ r18.1 = 1)) (some (r18.1, m2, r18.2))))) else ((f_X5_readNumber r11 (1 : Int32) (7 : Int32)).bind (fun r13 => (if r13.1 = 0 then (some (0, m2, r13.2)) else (nm (α := Int32) (r13.2 0 7) (fun x14 => ((f_X5_readNumber r13.2 (0 : Int32) (9 : Int32)).bind (fun r15 => (if r15.1 = 0 then (some (0, m2, r15.2)) else ((f_X3_addPerson m2 r12 x14 (r15.2 0 7)).bind (fun r16 => ((f_X5_readSign r15.2).bind (fun r17 => (gd (decide (r17.1 = 0 ∨ r17.1 = 1)) (some (r17.1, r16, r17.2)))))))))))))))))))) else ((f_X5_fail m4 (3 : Int32)).bind (fun r19 => (gd (decide (r19.1 = 0 ∨ r19.1 = 1)) (some (r19.1, m2, r19.2))))))
def f_X3_carOf_L2 (k : Int32 → Option (Int32)) (x1 : Int32) (m1 : Mem) : Nat → Int32 → Option (Int32)
  | 0, _ => none
  | t + 1, u11 =>
    (if (m1 0 7) ≤ u11 then (k u11) else (gd (inb u11 3) (if (m1 16 u11.toNatClampNeg) = x1 then (some u11) else (f_X3_carOf_L2 k x1 m1 t (u11 + 1)))))
def f_X3_carOf (m1 : Mem) (x1 : Int32) : Option (Int32) :=
  (f_X3_carOf_L2 (fun (u12 : Int32) => (some (-1000000))) x1 m1 100000 0)
def f_X3_addCar (m2 : Mem) (x1 : Int32) (x2 : Int32) (x3 : Int32) : Option (Mem) :=
  (gd (inb (m2 0 7) 3) (nm (α := Mem) (up m2 16 (m2 0 7).toNatClampNeg x1) (fun w11 => (gd (inb (w11 0 7) 3) (nm (α := Mem) (up w11 17 (w11 0 7).toNatClampNeg x2) (fun w12 => (gd (inb (w12 0 7) 3) (nm (α := Mem) (up w12 18 (w12 0 7).toNatClampNeg x3) (fun w13 => (nm (α := Mem) (up w13 0 7 ((w13 0 7) + 1)) (fun w14 => (some w14))))))))))))
def f_X5_readCar (m2 : Mem) (m4 : Mem) : Option (Int32 × Mem × Mem) :=
  (if (m2 0 7) < (3 : Int32) then ((f_X5_readNumber m4 (0 : Int32) ((m2 0 6) - 1)).bind (fun r11 => (if r11.1 = 0 then (some (0, m2, r11.2)) else (nm (α := Int32) (r11.2 0 7) (fun x12 => ((f_X3_carOf m2 x12).bind (fun r13 => (if r13 = ((-1000000) : Int32) then ((f_X5_readNumber r11.2 (1 : Int32) (4 : Int32)).bind (fun r14 => (if r14.1 = 0 then (some (0, m2, r14.2)) else (nm (α := Int32) (r14.2 0 7) (fun x15 => ((f_X5_readNumber r14.2 (0 : Int32) (1 : Int32)).bind (fun r16 => (if r16.1 = 0 then (some (0, m2, r16.2)) else ((f_X3_addCar m2 x12 x15 (r16.2 0 7)).bind (fun r17 => ((f_X5_readSign r16.2).bind (fun r18 => (gd (decide (r18.1 = 0 ∨ r18.1 = 1)) (some (r18.1, r17, r18.2))))))))))))))) else ((f_X5_fail r11.2 (2 : Int32)).bind (fun r19 => (gd (decide (r19.1 = 0 ∨ r19.1 = 1)) (some (r19.1, m2, r19.2))))))))))))) else ((f_X5_fail m4 (3 : Int32)).bind (fun r20 => (gd (decide (r20.1 = 0 ∨ r20.1 = 1)) (some (r20.1, m2, r20.2))))))
def f_X3_addQuarrel (m2 : Mem) (x1 : Int32) (x2 : Int32) : Option (Mem) :=
  (gd (inb x1 7) (gd (inb x1 7) (nm (α := Mem) (up m2 15 x1.toNatClampNeg ((m2 15 x1.toNatClampNeg) ||| (1 <<< (x2 &&& 31)))) (fun w11 => (gd (inb x2 7) (gd (inb x2 7) (nm (α := Mem) (up w11 15 x2.toNatClampNeg ((w11 15 x2.toNatClampNeg) ||| (1 <<< (x1 &&& 31)))) (fun w12 => (nm (α := Mem) (up w12 0 5 ((w12 0 5) + 1)) (fun w13 => (some w13)))))))))))
def f_X5_readQuarrel (m2 : Mem) (m4 : Mem) : Option (Int32 × Mem × Mem) :=
  (if (m2 0 5) < (6 : Int32) then ((f_X5_readNumber m4 (0 : Int32) ((m2 0 6) - 1)).bind (fun r11 => (if r11.1 = 0 then (some (0, m2, r11.2)) else (nm (α := Int32) (r11.2 0 7) (fun x12 => ((f_X5_readNumber r11.2 (0 : Int32) ((m2 0 6) - 1)).bind (fun r13 => (if r13.1 = 0 then (some (0, m2, r13.2)) else (nm (α := Int32) (r13.2 0 7) (fun x14 => (if x12 = x14 then ((f_X5_fail r13.2 (2 : Int32)).bind (fun r17 => (gd (decide (r17.1 = 0 ∨ r17.1 = 1)) (some (r17.1, m2, r17.2))))) else ((f_X3_addQuarrel m2 x12 x14).bind (fun r15 => ((f_X5_readSign r13.2).bind (fun r16 => (gd (decide (r16.1 = 0 ∨ r16.1 = 1)) (some (r16.1, r15, r16.2)))))))))))))))))) else ((f_X5_fail m4 (3 : Int32)).bind (fun r18 => (gd (decide (r18.1 = 0 ∨ r18.1 = 1)) (some (r18.1, m2, r18.2))))))
def f_X5_readStatement (m2 : Mem) (m4 : Mem) : Option (Int32 × Mem × Mem) :=
  ((f_X5_statementWord m4).bind (fun r11 => (if r11 = 0 then ((f_X5_fail m4 (1 : Int32)).bind (fun r12 => (gd (decide (r12.1 = 0 ∨ r12.1 = 1)) (some (r12.1, m2, r12.2))))) else (if (m4 0 8) ≤ r11 then (nm (α := Mem) (up m4 0 8 r11) (fun w13 => (if r11 = 1 then ((f_X5_readWay m2 w13).bind (fun r14 => (gd (decide (r14.1 = 0 ∨ r14.1 = 1)) (some (r14.1, r14.2.1, r14.2.2))))) else (if r11 = 2 then ((f_X5_readHill m2 w13).bind (fun r15 => (gd (decide (r15.1 = 0 ∨ r15.1 = 1)) (some (r15.1, r15.2.1, r15.2.2))))) else (if r11 = 3 then ((f_X5_readPerson m2 w13).bind (fun r16 => (gd (decide (r16.1 = 0 ∨ r16.1 = 1)) (some (r16.1, r16.2.1, r16.2.2))))) else (if r11 = 4 then ((f_X5_readCar m2 w13).bind (fun r17 => (gd (decide (r17.1 = 0 ∨ r17.1 = 1)) (some (r17.1, r17.2.1, r17.2.2))))) else ((f_X5_readQuarrel m2 w13).bind (fun r18 => (gd (decide (r18.1 = 0 ∨ r18.1 = 1)) (some (r18.1, r18.2.1, r18.2.2))))))))))) else ((f_X5_fail m4 (1 : Int32)).bind (fun r19 => (gd (decide (r19.1 = 0 ∨ r19.1 = 1)) (some (r19.1, m2, r19.2)))))))))
def f_X3_finish_L18 (k : Int32 → Mem → Option (Mem)) (u11 : Int32) (u13 : Int32) : Nat → Int32 → Mem → Option (Mem)
  | 0, _, _ => none
  | t + 1, u15, w16 =>
    (if (8 : Int32) ≤ u15 then (k u15 w16) else ((f_X3_minutesBetween w16 u13 u11).bind (fun r17 => ((f_X3_minutesBetween w16 u11 u15).bind (fun r18 => (nm (α := Int32) (r17 + r18) (fun x19 => ((f_X3_minutesBetween w16 u13 u15).bind (fun r20 => (gd (inb ((u13 * 8) + u15) 64) (nm (α := Mem) (up w16 11 ((u13 * 8) + u15).toNatClampNeg (if x19 < r20 then x19 else r20)) (fun w21 => (f_X3_finish_L18 k u11 u13 t (u15 + 1) w21)))))))))))))
def f_X3_finish_L10 (k : Int32 → Mem → Option (Mem)) (u11 : Int32) : Nat → Int32 → Mem → Option (Mem)
  | 0, _, _ => none
  | t + 1, u13, w14 =>
    (if (8 : Int32) ≤ u13 then (k u13 w14) else (f_X3_finish_L18 (fun (u22 : Int32) (w23 : Mem) => (f_X3_finish_L10 k u11 t (u13 + 1) w23)) u11 u13 100000 0 w14))
def f_X3_finish_L2 (k : Int32 → Mem → Option (Mem)) : Nat → Int32 → Mem → Option (Mem)
  | 0, _, _ => none
  | t + 1, u11, w12 =>
    (if (8 : Int32) ≤ u11 then (k u11 w12) else (f_X3_finish_L10 (fun (u24 : Int32) (w25 : Mem) => (f_X3_finish_L2 k t (u11 + 1) w25)) u11 100000 0 w12))
def f_X3_finish (m2 : Mem) : Option (Mem) :=
  (f_X3_finish_L2 (fun (u26 : Int32) (w27 : Mem) => (nm (α := Mem) (up w27 0 0 1) (fun w28 => (some w28))))  100000 0 m2)
def f_X5_readInto_L22 (k : Int32 → Int32 → Mem → Mem → Option (Int32 × Mem × Mem)) : Nat → Int32 → Int32 → Mem → Mem → Option (Int32 × Mem × Mem)
  | 0, _, _, _, _ => none
  | t + 1, u16, u17, w18, w19 =>
    (if u16 = 0 then (k u16 u17 w18 w19) else (if (500 : Int32) < u17 then (k u16 u17 w18 w19) else ((f_X5_readToken w19).bind (fun r20 => (if (r20 0 4) = 0 then (k u16 u17 w18 r20) else ((f_X5_readStatement w18 r20).bind (fun r21 => (nm (α := Int32) (r21.1) (fun x22 => (f_X5_readInto_L22 k t x22 (u17 + 1) r21.2.1 r21.2.2))))))))))
def f_X5_readInto (m2 : Mem) (m4 : Mem) : Option (Int32 × Mem × Mem) :=
  (nm (α := Mem) (up m4 0 6 0) (fun w11 => (nm (α := Mem) (up w11 0 8 0) (fun w12 => ((f_X3_clear m2).bind (fun r13 => ((f_X5_readLaw r13 w12).bind (fun r14 => (nm (α := Int32) (r14.1) (fun x15 => (f_X5_readInto_L22 (fun (u23 : Int32) (u24 : Int32) (w25 : Mem) (w26 : Mem) => (nm (α := Mem) (up w26 0 1 0) (fun w27 => (if u23 = 0 then (gd (decide (u23 = 0 ∨ u23 = 1)) (some (u23, w25, w27))) else ((f_X3_finish w25).bind (fun r28 => (gd (decide (u23 = 0 ∨ u23 = 1)) (some (u23, r28, w27)))))))))  100000 x15 0 r14.2.1 r14.2.2)))))))))))
def f_X2_forget (m6 : Mem) : Option (Mem) :=
  (nm (α := Mem) (up m6 0 2 0) (fun w11 => (some w11)))
def f_X4_forget (m3 : Mem) : Option (Mem) :=
  (nm (α := Mem) (up m3 0 2 (-1)) (fun w11 => (nm (α := Mem) (upA w11 1 (fillf 384 (-1) (w11 1))) (fun w12 => (some w12)))))
def f_X7_beginAnew (m3 : Mem) (m6 : Mem) : Option (Mem × Mem) :=
  ((f_X2_forget m6).bind (fun r11 => ((f_X4_forget m3).bind (fun r12 => (some (r12, r11))))))
def f_X7_evening (m1 : Mem) (m2 : Mem) (m3 : Mem) (m4 : Mem) (m6 : Mem) (m11 : Mem) : Option (Int32 × Mem × Mem × Mem × Mem × Mem) :=
  ((f_X5_readInto m2 m4).bind (fun r11 => (if r11.1 = 0 then (some ((-1000100) - (r11.2.2 0 3), r11.2.1, m3, r11.2.2, m6, m11)) else ((f_X7_beginAnew m3 m6).bind (fun r12 => (some (r11.2.1 0 6, r11.2.1, r12.1, r11.2.2, r12.2, (up ((up m11 0 7 2)) 0 8 1))))))))
def f_X7_fault (m4 : Mem) : Option (Int32) :=
  (some (m4 0 2))
def f_X3_hasPerson (m1 : Mem) (x1 : Int32) : Option (Int32) :=
  (if x1 < 0 then (some 0) else (if (m1 0 6) ≤ x1 then (some 0) else (some 1)))
def f_X2_keep (m6 : Mem) (x1 : Int32) (x2 : Int32) : Option (Mem) :=
  (jn (α := Mem) (fun j15 => (if (m6 0 2) = (24 : Int32) then (gd (cpok 1 0 23 24 24) (nm (α := Mem) (upA m6 1 (va_cpy (m6 1) (m6 1) (1 : Int32).toNatClampNeg (0 : Int32).toNatClampNeg (23 : Int32).toNatClampNeg)) (fun w11 => (gd (cpok 1 0 23 24 24) (nm (α := Mem) (upA w11 2 (va_cpy (w11 2) (w11 2) (1 : Int32).toNatClampNeg (0 : Int32).toNatClampNeg (23 : Int32).toNatClampNeg)) (fun w12 => (nm (α := Mem) (up w12 0 2 ((w12 0 2) - 1)) (fun w13 => (j15 w13))))))))) else (j15 m6))) (fun a14 => (gd (inb (a14 0 2) 24) (nm (α := Mem) (up a14 1 (a14 0 2).toNatClampNeg x1) (fun w16 => (gd (inb (w16 0 2) 24) (nm (α := Mem) (up w16 2 (w16 0 2).toNatClampNeg x2) (fun w17 => (nm (α := Mem) (up w17 0 2 ((w17 0 2) + 1)) (fun w18 => (some w18)))))))))))
def f_X7_drink (m1 : Mem) (m6 : Mem) (x1 : Int32) (x2 : Int32) : Option (Int32 × Mem × Mem) :=
  ((f_X3_hasPerson m1 x1).bind (fun r11 => (if r11 = 0 then (some ((-1000001), m1, m6)) else (if x2 < (1 : Int32) then (some ((-1000001), m1, m6)) else (if x2 ≤ (9 : Int32) then (gd (inb x1 7) (if ((m1 14 x1.toNatClampNeg) + x2) ≤ (99 : Int32) then (gd (inb x1 7) (gd (inb x1 7) (nm (α := Mem) (up m1 14 x1.toNatClampNeg ((m1 14 x1.toNatClampNeg) + x2)) (fun w12 => ((f_X2_keep m6 x1 x2).bind (fun r13 => (gd (inb x1 7) (some (w12 14 x1.toNatClampNeg, w12, r13))))))))) else (some ((-1000003), m1, m6)))) else (some ((-1000001), m1, m6)))))))
def f_X2_takeBack (m1 : Mem) (m6 : Mem) : Option (Mem × Mem) :=
  (if (m6 0 2) ≤ 0 then (some (m1, m6)) else (nm (α := Mem) (up m6 0 2 ((m6 0 2) - 1)) (fun w11 => (gd (inb (w11 0 2) 24) (gd (inb (w11 1 (w11 0 2).toNatClampNeg) 7) (gd (inb (w11 0 2) 24) (gd (inb (w11 1 (w11 0 2).toNatClampNeg) 7) (nm (α := Mem) (up m1 14 (w11 1 (w11 0 2).toNatClampNeg).toNatClampNeg ((m1 14 (w11 1 (w11 0 2).toNatClampNeg).toNatClampNeg) - (w11 2 (w11 0 2).toNatClampNeg))) (fun w12 => (some (w12, w11)))))))))))
def f_X7_undo (m1 : Mem) (m6 : Mem) : Option (Int32 × Mem × Mem) :=
  (if (m6 0 2) = 0 then (some ((-1000002), m1, m6)) else ((f_X2_takeBack m1 m6).bind (fun r11 => (some (r11.2 0 2, r11.1, r11.2)))))
def f_X7_person (m1 : Mem) (x1 : Int32) (x2 : Int32) : Option (Int32) :=
  ((f_X3_hasPerson m1 x1).bind (fun r11 => (if r11 = 0 then (some (-1000001)) else (if x2 = 0 then (gd (inb x1 7) (some (m1 13 x1.toNatClampNeg))) else (if x2 = 1 then (gd (inb x1 7) (some (m1 14 x1.toNatClampNeg))) else (if x2 = 2 then ((f_X3_carOf m1 x1).bind (fun r12 => (some r12))) else (if x2 = 3 then (gd (inb x1 7) (some (m1 15 x1.toNatClampNeg))) else (some (-1000001)))))))))
def f_X3_hasCar (m1 : Mem) (x1 : Int32) : Option (Int32) :=
  (if x1 < 0 then (some 0) else (if (m1 0 7) ≤ x1 then (some 0) else (some 1)))
def f_X7_car (m1 : Mem) (x1 : Int32) (x2 : Int32) : Option (Int32) :=
  ((f_X3_hasCar m1 x1).bind (fun r11 => (if r11 = 0 then (some (-1000001)) else (if x2 = 0 then (gd (inb x1 3) (some (m1 16 x1.toNatClampNeg))) else (if x2 = 1 then (gd (inb x1 3) (some (m1 17 x1.toNatClampNeg))) else (if x2 = 2 then (gd (inb x1 3) (some (m1 18 x1.toNatClampNeg))) else (some (-1000001))))))))
def f_X3_areJoined (m1 : Mem) (x1 : Int32) (x2 : Int32) : Option (Int32) :=
  ((f_X3_minutesBetween m1 x1 x2).bind (fun r11 => (if (1000000 : Int32) ≤ r11 then (some 0) else (some 1))))
def f_X7_far (m1 : Mem) (x1 : Int32) (x2 : Int32) : Option (Int32) :=
  (if (m1 0 0) = 0 then (some (-1000002)) else (if x1 < 0 then (some (-1000001)) else (if (8 : Int32) ≤ x1 then (some (-1000001)) else (if x2 < 0 then (some (-1000001)) else (if x2 < (8 : Int32) then ((f_X3_areJoined m1 x1 x2).bind (fun r11 => (if r11 = 0 then (some (-1000000)) else ((f_X3_minutesBetween m1 x1 x2).bind (fun r12 => (some r12)))))) else (some (-1000001)))))))
def f_X7_isMinute (x0 : Int32) : Option (Int32) :=
  (if x0 < 0 then (some 0) else (if (600 : Int32) < x0 then (some 0) else (some 1)))
def f_X3_drunkAfter (m1 : Mem) (x1 : Int32) (x2 : Int32) : Option (Int32) :=
  (some (if (0 : Int32) < ((10 * x1) - ((m1 0 2) * (x2 / 60))) then ((10 * x1) - ((m1 0 2) * (x2 / 60))) else (0 : Int32)))
def f_X7_hasBit (x0 : Int32) (x1 : Int32) : Option (Int32) :=
  (if ((x0 >>> (x1 &&& 31)) &&& 1) = 0 then (some 0) else (some 1))
def f_X3_mayDrive (m1 : Mem) (x1 : Int32) (x2 : Int32) (x3 : Int32) : Option (Int32) :=
  ((f_X7_hasBit (m1 0 9) x1).bind (fun r11 => (if r11 = 0 then (gd (inb x1 7) ((f_X7_isOfKind (m1 12 x1.toNatClampNeg) (2 : Int32)).bind (fun r12 => (if r12 = 0 then ((f_X3_drunkAfter m1 x2 x3).bind (fun r13 => (if (m1 0 1) < r13 then (some 0) else (some 1)))) else (if x2 ≤ 0 then ((f_X3_drunkAfter m1 x2 x3).bind (fun r14 => (if (m1 0 1) < r14 then (some 0) else (some 1)))) else (some 0)))))) else (some 0))))
def f_X7_may (m1 : Mem) (x1 : Int32) (x2 : Int32) (x3 : Int32) : Option (Int32) :=
  ((f_X3_hasPerson m1 x1).bind (fun r11 => (if r11 = 0 then (some (-1000001)) else ((f_X7_isMinute x2).bind (fun r12 => (if r12 = 0 then (some (-1000001)) else (if x3 < 0 then (some (-1000001)) else (if x3 ≤ (1 : Int32) then (if x3 = 0 then (gd (inb x1 7) ((f_X3_drunkAfter m1 (m1 14 x1.toNatClampNeg) x2).bind (fun r14 => (some r14)))) else (gd (inb x1 7) ((f_X3_mayDrive m1 x1 (m1 14 x1.toNatClampNeg) x2).bind (fun r13 => (if r13 = 0 then (some 0) else (some 1)))))) else (some (-1000001))))))))))
def f_X7_soon_L16 (k : Int32 → Option (Int32)) (x1 : Int32) (m1 : Mem) : Nat → Int32 → Option (Int32)
  | 0, _ => none
  | t + 1, u12 =>
    (if (600 : Int32) < u12 then (k u12) else (gd (inb x1 7) ((f_X3_mayDrive m1 x1 (m1 14 x1.toNatClampNeg) u12).bind (fun r13 => (if r13 = 0 then (f_X7_soon_L16 k x1 m1 t (u12 + 60)) else (some u12))))))
def f_X7_soon (m1 : Mem) (x1 : Int32) : Option (Int32) :=
  ((f_X3_hasPerson m1 x1).bind (fun r11 => (if r11 = 0 then (some (-1000001)) else (f_X7_soon_L16 (fun (u14 : Int32) => (some (-1000000))) x1 m1 100000 0))))
def f_X7_commonDivisor_L2 (k : Int32 → Option (Int32)) (x0 : Int32) (x1 : Int32) : Nat → Int32 → Option (Int32)
  | 0, _ => none
  | t + 1, u11 =>
    (if u11 ≤ (1 : Int32) then (k u11) else (gd (decide (¬ u11 = 0)) (if (x0 - x0 / u11 * u11) = 0 then (gd (decide (¬ u11 = 0)) (if (x1 - x1 / u11 * u11) = 0 then (some u11) else (f_X7_commonDivisor_L2 k x0 x1 t (u11 + (-1))))) else (f_X7_commonDivisor_L2 k x0 x1 t (u11 + (-1))))))
def f_X7_commonDivisor (x0 : Int32) (x1 : Int32) : Option (Int32) :=
  (f_X7_commonDivisor_L2 (fun (u12 : Int32) => (some 1)) x0 x1 100000 x1)
def f_X7_odds_L48 (k : Int32 → Int32 → Option (Int32)) (x1 : Int32) (x2 : Int32) (x3 : Int32) (m1 : Mem) : Nat → Int32 → Int32 → Option (Int32)
  | 0, _, _ => none
  | t + 1, u13, u14 =>
    (if x3 < u14 then (k u13 u14) else (gd (inb x1 7) ((f_X3_mayDrive m1 x1 ((m1 14 x1.toNatClampNeg) + u14) x2).bind (fun r15 => (if r15 = 0 then (f_X7_odds_L48 k x1 x2 x3 m1 t u13 (u14 + 1)) else (f_X7_odds_L48 k x1 x2 x3 m1 t (u13 + 1) (u14 + 1)))))))
def f_X7_odds (m1 : Mem) (x1 : Int32) (x2 : Int32) (x3 : Int32) (x4 : Int32) : Option (Int32) :=
  ((f_X3_hasPerson m1 x1).bind (fun r11 => (if r11 = 0 then (some (-1000001)) else ((f_X7_isMinute x2).bind (fun r12 => (if r12 = 0 then (some (-1000001)) else (if x3 < 0 then (some (-1000001)) else (if (9 : Int32) < x3 then (some (-1000001)) else (if x4 < 0 then (some (-1000001)) else (if x4 ≤ (1 : Int32) then (f_X7_odds_L48 (fun (u16 : Int32) (u17 : Int32) => ((f_X7_commonDivisor u16 (x3 + 1)).bind (fun r18 => (if x4 = 0 then (gd (decide (¬ r18 = 0)) (some (u16 / r18))) else (gd (decide (¬ r18 = 0)) (some ((x3 + 1) / r18))))))) x1 x2 x3 m1 100000 0 0) else (some (-1000001))))))))))))
def f_X3_reaches (m1 : Mem) (x1 : Int32) (x2 : Int32) : Option (Int32) :=
  (gd (inb x2 7) (nm (α := Int32) (m1 13 x2.toNatClampNeg) (fun x11 => ((f_X3_areJoined m1 (0 : Int32) x11).bind (fun r12 => (if r12 = 0 then (some 0) else ((f_X7_hasBit (m1 0 8) x11).bind (fun r13 => (if r13 = 0 then (some 1) else (gd (inb x1 3) (if (m1 18 x1.toNatClampNeg) = (1 : Int32) then (some 1) else (some 0))))))))))))
def f_X3_carsThatGo_L4 (k : Int32 → Int32 → Option (Int32)) (x1 : Int32) (m1 : Mem) : Nat → Int32 → Int32 → Option (Int32)
  | 0, _, _ => none
  | t + 1, u11, u12 =>
    (if (m1 0 7) ≤ u12 then (k u11 u12) else (gd (inb u12 3) (nm (α := Int32) (m1 16 u12.toNatClampNeg) (fun x13 => (gd (inb x13 7) ((f_X3_mayDrive m1 x13 (m1 14 x13.toNatClampNeg) x1).bind (fun r14 => (if r14 = 0 then (f_X3_carsThatGo_L4 k x1 m1 t u11 (u12 + 1)) else ((f_X3_reaches m1 u12 x13).bind (fun r15 => (if r15 = 0 then (f_X3_carsThatGo_L4 k x1 m1 t u11 (u12 + 1)) else (nm (α := Int32) (u11 ||| (1 <<< (u12 &&& 31))) (fun x16 => (f_X3_carsThatGo_L4 k x1 m1 t x16 (u12 + 1)))))))))))))))
def f_X3_carsThatGo (m1 : Mem) (x1 : Int32) : Option (Int32) :=
  (f_X3_carsThatGo_L4 (fun (u17 : Int32) (u18 : Int32) => (some u17)) x1 m1 100000 0 0)
def f_X7_goes (m1 : Mem) (x1 : Int32) : Option (Int32) :=
  (if (m1 0 0) = 0 then (some (-1000002)) else ((f_X7_isMinute x1).bind (fun r11 => (if r11 = 0 then (some (-1000001)) else ((f_X3_carsThatGo m1 x1).bind (fun r12 => (some r12)))))))
def f_X3_siteOfOwner (m1 : Mem) (x1 : Int32) : Option (Int32) :=
  (gd (inb x1 3) (gd (inb (m1 16 x1.toNatClampNeg) 7) (some (m1 13 (m1 16 x1.toNatClampNeg).toNatClampNeg))))
def f_X4_walk_L86 (fs : Mem → Mem → Int32 → Int32 → Int32 → Int32 → Int32 → Option (Mem)) (k : Int32 → Mem → Option (Mem)) (x2 : Int32) (x3 : Int32) (x4 : Int32) (x5 : Int32) (x6 : Int32) (a11 : Int32) (m1 : Mem) : Nat → Int32 → Mem → Option (Mem)
  | 0, _, _ => none
  | t + 1, u13, w14 =>
    (if (m1 0 6) ≤ u13 then (k u13 w14) else (if (4 : Int32) ≤ x6 then (k u13 w14) else ((f_X7_hasBit a11 u13).bind (fun r15 => (if r15 = 0 then (f_X4_walk_L86 fs k x2 x3 x4 x5 x6 a11 m1 t (u13 + 1) w14) else (gd (inb x6 4) (nm (α := Mem) (up w14 10 x6.toNatClampNeg u13) (fun w16 => (gd (inb u13 7) ((f_X3_minutesBetween m1 x4 (m1 13 u13.toNatClampNeg)).bind (fun r17 => (nm (α := Int32) (x5 + r17) (fun x18 => (gd (inb u13 7) ((fs m1 w16 x2 (x3 &&& ((1 <<< (u13 &&& 31)) ^^^ (-1))) (m1 13 u13.toNatClampNeg) x18 (x6 + 1)).bind (fun r19 => (f_X4_walk_L86 fs k x2 x3 x4 x5 x6 a11 m1 t (u13 + 1) r19)))))))))))))))))
def f_X4_walk_B (fs : Mem → Mem → Int32 → Int32 → Int32 → Int32 → Int32 → Option (Mem)) (m1 : Mem) (m3 : Mem) (x2 : Int32) (x3 : Int32) (x4 : Int32) (x5 : Int32) (x6 : Int32) : Option (Mem) :=
  (if (m3 0 11) ≤ x5 then (some m3) else (if x6 ≤ (4 : Int32) then (if x3 = 0 then ((f_X3_minutesBetween m1 x4 x2).bind (fun r22 => (nm (α := Int32) (x5 + r22) (fun x23 => (if (m3 0 11) ≤ x23 then (some m3) else (nm (α := Mem) (up m3 0 11 x23) (fun w24 => (gd (cpok 0 0 4 4 4) (nm (α := Mem) (upA w24 11 (va_cpy (w24 10) (w24 11) (0 : Int32).toNatClampNeg (0 : Int32).toNatClampNeg (4 : Int32).toNatClampNeg)) (fun w25 => (some w25))))))))))) else (nm (α := Int32) (if (x3 &&& (m1 0 9)) = 0 then x3 else ((x3 &&& (m1 0 9)))) (fun a11 => (f_X4_walk_L86 fs (fun (u20 : Int32) (w21 : Mem) => (some w21)) x2 x3 x4 x5 x6 a11 m1 100000 0 m3)))) else (some m3)))
def f_X4_walk : Nat → Mem → Mem → Int32 → Int32 → Int32 → Int32 → Int32 → Option (Mem)
  | 0, _, _, _, _, _, _, _ => none
  | n + 1, m1, m3, x2, x3, x4, x5, x6 => f_X4_walk_B (f_X4_walk n) m1 m3 x2 x3 x4 x5 x6
def f_X4_minutesOf (m1 : Mem) (m3 : Mem) (x2 : Int32) (x3 : Int32) : Option (Int32 × Mem) :=
  (nm (α := Int32) ((x2 <<< (7 &&& 31)) ||| x3) (fun x11 => (gd (inb x11 384) (if (m3 1 x11.toNatClampNeg) = ((-1) : Int32) then (nm (α := Mem) (up m3 0 11 1000000) (fun w12 => ((f_X3_siteOfOwner m1 x2).bind (fun r13 => ((f_X4_walk 16 m1 w12 r13 x3 (0 : Int32) (0 : Int32) (0 : Int32)).bind (fun r14 => (gd (inb x11 384) (nm (α := Mem) (up r14 1 x11.toNatClampNeg (r14 0 11)) (fun w15 => (gd (inb x11 384) (some (w15 1 x11.toNatClampNeg, w15)))))))))))) else (gd (inb x11 384) (some (m3 1 x11.toNatClampNeg, m3)))))))
def f_X4_keepIfBetter_L5 (k : Int32 → Int32 → Mem → Option (Mem)) (m1 : Mem) : Nat → Int32 → Int32 → Mem → Option (Mem)
  | 0, _, _, _ => none
  | t + 1, u11, u12, w13 =>
    (if (m1 0 7) ≤ u12 then (k u11 u12 w13) else ((f_X7_hasBit (w13 0 7) u12).bind (fun r14 => (if r14 = 0 then (f_X4_keepIfBetter_L5 k m1 t u11 (u12 + 1) w13) else (gd (inb u12 3) ((f_X4_minutesOf m1 w13 u12 (w13 7 u12.toNatClampNeg)).bind (fun r15 => (nm (α := Int32) (u11 + r15.1) (fun x16 => (f_X4_keepIfBetter_L5 k m1 t x16 (u12 + 1) r15.2))))))))))
def f_X4_keepIfBetter (m1 : Mem) (m3 : Mem) (x2 : Int32) : Option (Mem) :=
  (f_X4_keepIfBetter_L5 (fun (u17 : Int32) (u18 : Int32) (w19 : Mem) => (nm (α := Int32) (bitc x2) (fun x20 => (if x20 < (w19 0 5) then (nm (α := Mem) (up w19 0 5 x20) (fun w21 => (nm (α := Mem) (up w21 0 4 u17) (fun w22 => (nm (α := Mem) (up w22 0 3 x2) (fun w23 => (gd (cpok 0 0 3 3 3) (nm (α := Mem) (upA w23 2 (va_cpy (w23 7) (w23 2) (0 : Int32).toNatClampNeg (0 : Int32).toNatClampNeg (3 : Int32).toNatClampNeg)) (fun w24 => (some w24)))))))))) else (if x20 = (w19 0 5) then (if (w19 0 4) ≤ u17 then (some w19) else (nm (α := Mem) (up w19 0 5 x20) (fun w25 => (nm (α := Mem) (up w25 0 4 u17) (fun w26 => (nm (α := Mem) (up w26 0 3 x2) (fun w27 => (gd (cpok 0 0 3 3 3) (nm (α := Mem) (upA w27 2 (va_cpy (w27 7) (w27 2) (0 : Int32).toNatClampNeg (0 : Int32).toNatClampNeg (3 : Int32).toNatClampNeg)) (fun w28 => (some w28))))))))))) else (some w19)))))) m1 100000 0 0 m3)
def f_X3_hasRoomFor (m1 : Mem) (x1 : Int32) (x2 : Int32) (x3 : Int32) : Option (Int32) :=
  (gd (inb x1 3) (nm (α := Int32) (x2 ||| (1 <<< ((m1 16 x1.toNatClampNeg) &&& 31))) (fun x11 => (gd (inb x1 3) (if (m1 17 x1.toNatClampNeg) ≤ (bitc x2) then (some 0) else (gd (inb x3 7) (if ((m1 15 x3.toNatClampNeg) &&& x11) = 0 then ((f_X3_reaches m1 x1 x3).bind (fun r12 => (if r12 = 0 then (some 0) else (some 1)))) else (some 0))))))))
def f_X4_seat_L55 (fs : Mem → Mem → Int32 → Int32 → Option (Mem)) (k : Int32 → Mem → Option (Mem)) (x2 : Int32) (x3 : Int32) (m1 : Mem) (x11 : Int32) : Nat → Int32 → Mem → Option (Mem)
  | 0, _, _ => none
  | t + 1, u12, w13 =>
    (if (m1 0 7) ≤ u12 then (k u12 w13) else ((f_X7_hasBit (w13 0 7) u12).bind (fun r14 => (if r14 = 0 then (f_X4_seat_L55 fs k x2 x3 m1 x11 t (u12 + 1) w13) else (gd (inb u12 3) ((f_X3_hasRoomFor m1 u12 (w13 7 u12.toNatClampNeg) x2).bind (fun r15 => (if r15 = 0 then (f_X4_seat_L55 fs k x2 x3 m1 x11 t (u12 + 1) w13) else (gd (inb u12 3) (gd (inb u12 3) (nm (α := Mem) (up w13 7 u12.toNatClampNeg ((w13 7 u12.toNatClampNeg) ||| x11)) (fun w16 => ((fs m1 w16 (x2 + 1) x3).bind (fun r17 => (gd (inb u12 3) (gd (inb u12 3) (nm (α := Mem) (up r17 7 u12.toNatClampNeg ((r17 7 u12.toNatClampNeg) &&& (x11 ^^^ (-1)))) (fun w18 => (f_X4_seat_L55 fs k x2 x3 m1 x11 t (u12 + 1) w18)))))))))))))))))))
def f_X4_seat_B (fs : Mem → Mem → Int32 → Int32 → Option (Mem)) (m1 : Mem) (m3 : Mem) (x2 : Int32) (x3 : Int32) : Option (Mem) :=
  (if (bitc x3) ≤ (m3 0 5) then (if x2 < (m1 0 6) then (nm (α := Int32) (1 <<< (x2 &&& 31)) (fun x11 => (if ((m3 0 8) &&& x11) = 0 then (f_X4_seat_L55 fs (fun (u19 : Int32) (w20 : Mem) => ((fs m1 w20 (x2 + 1) (x3 ||| x11)).bind (fun r21 => (some r21)))) x2 x3 m1 x11 100000 0 m3) else ((fs m1 m3 (x2 + 1) x3).bind (fun r22 => (some r22)))))) else ((f_X4_keepIfBetter m1 m3 x3).bind (fun r23 => (some r23)))) else (some m3))
def f_X4_seat : Nat → Mem → Mem → Int32 → Int32 → Option (Mem)
  | 0, _, _, _, _ => none
  | n + 1, m1, m3, x2, x3 => f_X4_seat_B (f_X4_seat n) m1 m3 x2 x3
def f_X4_plan_L26 (k : Int32 → Mem → Option (Mem)) (m1 : Mem) : Nat → Int32 → Mem → Option (Mem)
  | 0, _, _ => none
  | t + 1, u14, w15 =>
    (if (3 : Int32) ≤ u14 then (k u14 w15) else ((f_X7_hasBit (w15 0 7) u14).bind (fun r16 => (if r16 = 0 then (f_X4_plan_L26 k m1 t (u14 + 1) w15) else (gd (inb u14 3) (nm (α := Mem) (up w15 0 8 ((w15 0 8) ||| (1 <<< ((m1 16 u14.toNatClampNeg) &&& 31)))) (fun w17 => (f_X4_plan_L26 k m1 t (u14 + 1) w17))))))))
def f_X4_plan (m1 : Mem) (m3 : Mem) (x2 : Int32) : Option (Mem) :=
  (if (m3 0 2) = x2 then (some m3) else (nm (α := Mem) (up m3 0 2 x2) (fun w11 => (nm (α := Mem) (up w11 0 7 x2) (fun w12 => (nm (α := Mem) (up w12 0 8 0) (fun w13 => (f_X4_plan_L26 (fun (u18 : Int32) (w19 : Mem) => (nm (α := Mem) (up w19 0 5 8) (fun w20 => ((f_X4_seat 16 m1 w20 (0 : Int32) (0 : Int32)).bind (fun r21 => (some r21)))))) m1 100000 0 w13))))))))
def f_X4_ridersOf (m3 : Mem) (x1 : Int32) : Option (Int32) :=
  (gd (inb x1 3) (some (m3 2 x1.toNatClampNeg)))
def f_X7_home (m1 : Mem) (m3 : Mem) (x1 : Int32) (x2 : Int32) : Option (Int32 × Mem) :=
  (if (m1 0 0) = 0 then (some ((-1000002), m3)) else ((f_X7_isMinute x1).bind (fun r11 => (if r11 = 0 then (some ((-1000001), m3)) else (if x2 < 0 then (some ((-1000001), m3)) else (if x2 ≤ (2 : Int32) then ((f_X3_carsThatGo m1 x1).bind (fun r12 => ((f_X4_plan m1 m3 r12).bind (fun r13 => (if x2 = 0 then (some (bitc (r13 0 3), r13)) else (if x2 = 1 then (some (r13 0 4, r13)) else (if x2 = 2 then (some (r13 0 3, r13)) else ((f_X4_ridersOf r13 (x2 - 3)).bind (fun r14 => (some (r14, r13))))))))))) else ((f_X3_hasCar m1 (x2 - 3)).bind (fun r15 => (if r15 = 0 then (some ((-1000001), m3)) else ((f_X3_carsThatGo m1 x1).bind (fun r16 => ((f_X4_plan m1 m3 r16).bind (fun r17 => (if x2 = 0 then (some (bitc (r17 0 3), r17)) else (if x2 = 1 then (some (r17 0 4, r17)) else (if x2 = 2 then (some (r17 0 3, r17)) else ((f_X4_ridersOf r17 (x2 - 3)).bind (fun r18 => (some (r18, r17))))))))))))))))))))
def f_X4_setDownAs (m1 : Mem) (m3 : Mem) (x2 : Int32) (x3 : Int32) (x4 : Int32) : Option (Int32 × Mem) :=
  (if x4 < 0 then (some ((-1000000), m3)) else (if (bitc x3) ≤ x4 then (some ((-1000000), m3)) else (if x4 < (4 : Int32) then (nm (α := Mem) (up m3 0 11 1000000) (fun w11 => ((f_X3_siteOfOwner m1 x2).bind (fun r12 => ((f_X4_walk 16 m1 w11 r12 x3 (0 : Int32) (0 : Int32) (0 : Int32)).bind (fun r13 => (gd (inb x4 4) (some (r13 11 x4.toNatClampNeg, r13))))))))) else (some ((-1000000), m3)))))
def f_X7_order (m1 : Mem) (m3 : Mem) (x1 : Int32) (x2 : Int32) (x3 : Int32) : Option (Int32 × Mem) :=
  ((f_X7_isMinute x1).bind (fun r11 => (if r11 = 0 then (some ((-1000001), m3)) else ((f_X3_hasCar m1 x2).bind (fun r12 => (if r12 = 0 then (some ((-1000001), m3)) else (if ((-1) : Int32) ≤ x3 then ((f_X3_carsThatGo m1 x1).bind (fun r13 => ((f_X7_hasBit r13 x2).bind (fun r14 => (if r14 = 0 then (some ((-1000000), m3)) else ((f_X4_plan m1 m3 r13).bind (fun r15 => ((f_X4_ridersOf r15 x2).bind (fun r16 => (if x3 = ((-1) : Int32) then ((f_X4_minutesOf m1 r15 x2 r16).bind (fun r18 => (some (r18.1, r18.2)))) else ((f_X4_setDownAs m1 r15 x2 r16 x3).bind (fun r17 => (some (r17.1, r17.2)))))))))))))) else (some ((-1000001), m3)))))))))
def f_X7_detour_L42 (k : Int32 → Mem → Option (Int32 × Mem)) (x2 : Int32) (m1 : Mem) : Nat → Int32 → Mem → Option (Int32 × Mem)
  | 0, _, _ => none
  | t + 1, u15, w16 =>
    (if (m1 0 7) ≤ u15 then (k u15 w16) else ((f_X4_ridersOf w16 u15).bind (fun r17 => ((f_X7_hasBit r17 x2).bind (fun r18 => (if r18 = 0 then (f_X7_detour_L42 k x2 m1 t (u15 + 1) w16) else (nm (α := Int32) (r17 &&& ((1 <<< (x2 &&& 31)) ^^^ (-1))) (fun x19 => ((f_X4_minutesOf m1 w16 u15 r17).bind (fun r20 => ((f_X4_minutesOf m1 r20.2 u15 x19).bind (fun r21 => (some (r20.1 - r21.1, r21.2))))))))))))))
def f_X7_detour (m1 : Mem) (m3 : Mem) (x1 : Int32) (x2 : Int32) : Option (Int32 × Mem) :=
  ((f_X7_isMinute x1).bind (fun r11 => (if r11 = 0 then (some ((-1000001), m3)) else ((f_X3_hasPerson m1 x2).bind (fun r12 => (if r12 = 0 then (some ((-1000001), m3)) else ((f_X3_carsThatGo m1 x1).bind (fun r13 => ((f_X4_plan m1 m3 r13).bind (fun r14 => (f_X7_detour_L42 (fun (u22 : Int32) (w23 : Mem) => (some ((-1000000), w23))) x2 m1 100000 0 r14)))))))))))
def f_X3_peopleWhoDriveOnSunday_L4 (k : Int32 → Int32 → Option (Int32)) (m1 : Mem) : Nat → Int32 → Int32 → Option (Int32)
  | 0, _, _ => none
  | t + 1, u11, u12 =>
    (if (m1 0 6) ≤ u12 then (k u11 u12) else (gd (inb u12 7) ((f_X7_isOfKind (m1 12 u12.toNatClampNeg) (5 : Int32)).bind (fun r13 => (if r13 = 0 then (f_X3_peopleWhoDriveOnSunday_L4 k m1 t (u11 + 1) (u12 + 1)) else (f_X3_peopleWhoDriveOnSunday_L4 k m1 t u11 (u12 + 1)))))))
def f_X3_peopleWhoDriveOnSunday (m1 : Mem) : Option (Int32) :=
  (f_X3_peopleWhoDriveOnSunday_L4 (fun (u14 : Int32) (u15 : Int32) => (some u14)) m1 100000 0 0)
def f_X3_tripsFor_L21 (k : Int32 → Int32 → Option (Int32)) (x1 : Int32) (m1 : Mem) : Nat → Int32 → Int32 → Option (Int32)
  | 0, _, _ => none
  | t + 1, u12, u13 =>
    (if (m1 0 7) ≤ u13 then (k u12 u13) else ((f_X7_hasBit x1 u13).bind (fun r14 => (if r14 = 0 then (f_X3_tripsFor_L21 k x1 m1 t u12 (u13 + 1)) else (gd (inb u13 3) (nm (α := Int32) (if u12 < (m1 17 u13.toNatClampNeg) then (m1 17 u13.toNatClampNeg) else u12) (fun x15 => (f_X3_tripsFor_L21 k x1 m1 t x15 (u13 + 1)))))))))
def f_X3_tripsFor (m1 : Mem) (x1 : Int32) : Option (Int32) :=
  (nm (α := Int32) ((m1 0 7) - (bitc x1)) (fun x11 => (if x11 = 0 then (some 0) else (f_X3_tripsFor_L21 (fun (u16 : Int32) (u17 : Int32) => ((f_X3_peopleWhoDriveOnSunday m1).bind (fun r18 => (nm (α := Int32) (if (r18 - 1) < u16 then (r18 - 1) else u16) (fun x19 => (if (1 : Int32) ≤ x19 then (gd (decide (¬ x19 = 0)) (some (((x11 + x19) - 1) / x19))) else (some (-1000000)))))))) x1 m1 100000 0 0))))
def f_X7_fetch (m1 : Mem) (x1 : Int32) : Option (Int32) :=
  (if (m1 0 0) = 0 then (some (-1000002)) else ((f_X7_isMinute x1).bind (fun r11 => (if r11 = 0 then (some (-1000001)) else ((f_X3_carsThatGo m1 x1).bind (fun r12 => ((f_X3_tripsFor m1 r12).bind (fun r13 => (some r13)))))))))
def f_X3_farFromAll_L4 (k : Int32 → Int32 → Option (Int32)) (x1 : Int32) (m1 : Mem) : Nat → Int32 → Int32 → Option (Int32)
  | 0, _, _ => none
  | t + 1, u11, u12 =>
    (if (m1 0 6) ≤ u12 then (k u11 u12) else (gd (inb x1 7) (gd (inb u12 7) ((f_X3_minutesBetween m1 (m1 13 x1.toNatClampNeg) (m1 13 u12.toNatClampNeg)).bind (fun r13 => (nm (α := Int32) (u11 + r13) (fun x14 => (f_X3_farFromAll_L4 k x1 m1 t x14 (u12 + 1)))))))))
def f_X3_farFromAll (m1 : Mem) (x1 : Int32) : Option (Int32) :=
  (f_X3_farFromAll_L4 (fun (u15 : Int32) (u16 : Int32) => (some u15)) x1 m1 100000 0 0)
def f_X3_bestHouse_L8 (k : Int32 → Int32 → Int32 → Option (Int32)) (m1 : Mem) : Nat → Int32 → Int32 → Int32 → Option (Int32)
  | 0, _, _, _ => none
  | t + 1, u11, u12, u13 =>
    (if (m1 0 6) ≤ u13 then (k u11 u12 u13) else ((f_X3_farFromAll m1 u13).bind (fun r14 => (if u12 ≤ r14 then (f_X3_bestHouse_L8 k m1 t u11 u12 (u13 + 1)) else (f_X3_bestHouse_L8 k m1 t u13 r14 (u13 + 1))))))
def f_X3_bestHouse (m1 : Mem) : Option (Int32) :=
  (f_X3_bestHouse_L8 (fun (u15 : Int32) (u16 : Int32) (u17 : Int32) => (some u15)) m1 100000 (-1000000) 1000000 0)
def f_X7_house (m1 : Mem) (x1 : Int32) : Option (Int32) :=
  (if (m1 0 0) = 0 then (some (-1000002)) else (if x1 < 0 then (some (-1000001)) else (if x1 ≤ (1 : Int32) then ((f_X3_bestHouse m1).bind (fun r11 => (if r11 = ((-1000000) : Int32) then (some (-1000000)) else (if x1 = 0 then (some r11) else ((f_X3_farFromAll m1 r11).bind (fun r12 => (some r12))))))) else (some (-1000001)))))
def f_X6_item (m5 : Mem) (x1 : Int32) (x2 : Int32) : Option (Int32) :=
  (gd (inb x1 8) (gd (inb x2 40) (some (m5 (10 + x1.toNatClampNeg) x2.toNatClampNeg))))
def f_X1_countDrives_L11 (k : Int32 → Mem → Option (Int32 × Mem)) (x2 : Int32) (x3 : Int32) (x4 : Int32) (m5 : Mem) : Nat → Int32 → Mem → Option (Int32 × Mem)
  | 0, _, _ => none
  | t + 1, u12, w13 =>
    (if x3 ≤ u12 then (k u12 w13) else ((f_X6_item m5 x2 u12).bind (fun r14 => (if r14 < 0 then (some (0, w13)) else (if r14 < x4 then (gd (inb r14 7) (gd (inb r14 7) (nm (α := Mem) (up w13 1 r14.toNatClampNeg ((w13 1 r14.toNatClampNeg) + 1)) (fun w15 => (f_X1_countDrives_L11 k x2 x3 x4 m5 t (u12 + 1) w15))))) else (some (0, w13)))))))
def f_X1_countDrives (m5 : Mem) (m7 : Mem) (x2 : Int32) (x3 : Int32) (x4 : Int32) : Option (Int32 × Mem) :=
  (nm (α := Mem) (upA m7 1 (fillf 7 0 (m7 1))) (fun w11 => (f_X1_countDrives_L11 (fun (u16 : Int32) (w17 : Mem) => (some (1, w17))) x2 x3 x4 m5 100000 0 w11)))
def f_X1_firstOfMost_L4 (k : Int32 → Int32 → Option (Int32)) (x1 : Int32) (m7 : Mem) : Nat → Int32 → Int32 → Option (Int32)
  | 0, _, _ => none
  | t + 1, u11, u12 =>
    (if x1 ≤ u12 then (k u11 u12) else (gd (inb u12 7) (gd (inb u11 7) (if (m7 1 u12.toNatClampNeg) ≤ (m7 1 u11.toNatClampNeg) then (f_X1_firstOfMost_L4 k x1 m7 t u11 (u12 + 1)) else (f_X1_firstOfMost_L4 k x1 m7 t u12 (u12 + 1))))))
def f_X1_firstOfMost (m7 : Mem) (x1 : Int32) : Option (Int32) :=
  (f_X1_firstOfMost_L4 (fun (u13 : Int32) (u14 : Int32) => (some u13)) x1 m7 100000 0 1)
def f_X1_missingDrives_L16 (k : Int32 → Int32 → Option (Int32)) (x1 : Int32) (m7 : Mem) (x12 : Int32) : Nat → Int32 → Int32 → Option (Int32)
  | 0, _, _ => none
  | t + 1, u13, u14 =>
    (if x1 ≤ u14 then (k u13 u14) else (gd (inb u14 7) (nm (α := Int32) (u13 + (x12 - (m7 1 u14.toNatClampNeg))) (fun x15 => (f_X1_missingDrives_L16 k x1 m7 x12 t x15 (u14 + 1))))))
def f_X1_missingDrives (m7 : Mem) (x1 : Int32) : Option (Int32) :=
  ((f_X1_firstOfMost m7 x1).bind (fun r11 => (gd (inb r11 7) (nm (α := Int32) (m7 1 r11.toNatClampNeg) (fun x12 => (f_X1_missingDrives_L16 (fun (u16 : Int32) (u17 : Int32) => (some u16)) x1 m7 x12 100000 0 0))))))
def f_X1_firstOfFewest_L4 (k : Int32 → Int32 → Option (Int32)) (x1 : Int32) (m7 : Mem) : Nat → Int32 → Int32 → Option (Int32)
  | 0, _, _ => none
  | t + 1, u11, u12 =>
    (if x1 ≤ u12 then (k u11 u12) else (gd (inb u12 7) (gd (inb u11 7) (if (m7 1 u11.toNatClampNeg) ≤ (m7 1 u12.toNatClampNeg) then (f_X1_firstOfFewest_L4 k x1 m7 t u11 (u12 + 1)) else (f_X1_firstOfFewest_L4 k x1 m7 t u12 (u12 + 1))))))
def f_X1_firstOfFewest (m7 : Mem) (x1 : Int32) : Option (Int32) :=
  (f_X1_firstOfFewest_L4 (fun (u13 : Int32) (u14 : Int32) => (some u13)) x1 m7 100000 0 1)
def f_X7_turn (m1 : Mem) (m5 : Mem) (m7 : Mem) (m11 : Mem) (x1 : Int32) (x2 : Int32) (x3 : Int32) : Option (Int32 × Mem × Mem) :=
  (if (m1 0 6) = 0 then (some ((-1000002), m7, m11)) else ((f_X7_isRow x1).bind (fun r11 => (if r11 = 0 then (some ((-1000001), m7, m11)) else (if x2 < 0 then (some ((-1000001), m7, m11)) else (if (40 : Int32) < x2 then (some ((-1000001), m7, m11)) else (if x3 < 0 then (some ((-1000001), m7, m11)) else (if x3 ≤ (2 : Int32) then ((f_X6_isMissing m5 x1).bind (fun r12 => (if r12 = 0 then ((f_X6_hasStretch m5 x1 (0 : Int32) x2).bind (fun r13 => (if r13 = 0 then ((f_X7_found m11 (2 : Int32)).bind (fun r20 => (some (r20.1, m7, r20.2)))) else ((f_X1_countDrives m5 m7 x1 x2 (m1 0 6)).bind (fun r14 => (if r14.1 = 0 then (some ((-1000001), r14.2, m11)) else (if x3 = (2 : Int32) then ((f_X1_missingDrives r14.2 (m1 0 6)).bind (fun r18 => ((f_X7_fine m11 r18).bind (fun r19 => (some (r19.1, r14.2, r19.2)))))) else ((f_X1_firstOfFewest r14.2 (m1 0 6)).bind (fun r15 => (if x3 = 0 then ((f_X7_fine m11 r15).bind (fun r17 => (some (r17.1, r14.2, r17.2)))) else (gd (inb r15 7) ((f_X7_fine m11 (r14.2 1 r15.toNatClampNeg)).bind (fun r16 => (some (r16.1, r14.2, r16.2))))))))))))))) else ((f_X7_found m11 (1 : Int32)).bind (fun r21 => (some (r21.1, m7, r21.2))))))) else (some ((-1000001), m7, m11))))))))))
def f_X1_countSitters_L66 (k : Int32 → Mem → Option (Int32 × Mem)) (x4 : Int32) (r16 : Int32) : Nat → Int32 → Mem → Option (Int32 × Mem)
  | 0, _, _ => none
  | t + 1, u18, w19 =>
    (if x4 ≤ u18 then (k u18 w19) else (gd (inb u18 7) (gd (inb u18 7) (nm (α := Mem) (up w19 1 u18.toNatClampNeg ((w19 1 u18.toNatClampNeg) + ((r16 >>> (u18 &&& 31)) &&& 1))) (fun w20 => (f_X1_countSitters_L66 k x4 r16 t (u18 + 1) w20))))))
def f_X1_countSitters_L25 (k : Int32 → Mem → Option (Int32 × Mem)) (x2 : Int32) (x3 : Int32) (x4 : Int32) (m5 : Mem) (x12 : Int32) : Nat → Int32 → Mem → Option (Int32 × Mem)
  | 0, _, _ => none
  | t + 1, u14, w15 =>
    (if x3 ≤ u14 then (k u14 w15) else ((f_X6_item m5 x2 u14).bind (fun r16 => (if (r16 &&& (x12 ^^^ (-1))) = 0 then (nm (α := Mem) (up w15 0 1 ((w15 0 1) &&& r16)) (fun w17 => (f_X1_countSitters_L66 (fun (u21 : Int32) (w22 : Mem) => (f_X1_countSitters_L25 k x2 x3 x4 m5 x12 t (u14 + 1) w22)) x4 r16 100000 0 w17))) else (some (0, w15))))))
def f_X1_countSitters (m5 : Mem) (m7 : Mem) (x2 : Int32) (x3 : Int32) (x4 : Int32) : Option (Int32 × Mem) :=
  (nm (α := Mem) (upA m7 1 (fillf 7 0 (m7 1))) (fun w11 => (nm (α := Int32) ((1 <<< (x4 &&& 31)) - 1) (fun x12 => (nm (α := Mem) (up w11 0 1 x12) (fun w13 => (f_X1_countSitters_L25 (fun (u23 : Int32) (w24 : Mem) => (some (1, w24))) x2 x3 x4 m5 x12 100000 0 w13)))))))
def f_X7_gloves (m1 : Mem) (m5 : Mem) (m7 : Mem) (m11 : Mem) (x1 : Int32) (x2 : Int32) (x3 : Int32) : Option (Int32 × Mem × Mem) :=
  (if (m1 0 6) = 0 then (some ((-1000002), m7, m11)) else ((f_X7_isRow x1).bind (fun r11 => (if r11 = 0 then (some ((-1000001), m7, m11)) else (if x2 < (1 : Int32) then (some ((-1000001), m7, m11)) else (if (40 : Int32) < x2 then (some ((-1000001), m7, m11)) else (if x3 < 0 then (some ((-1000001), m7, m11)) else (if x3 ≤ (1 : Int32) then ((f_X6_isMissing m5 x1).bind (fun r12 => (if r12 = 0 then ((f_X6_hasStretch m5 x1 (0 : Int32) x2).bind (fun r13 => (if r13 = 0 then ((f_X7_found m11 (2 : Int32)).bind (fun r18 => (some (r18.1, m7, r18.2)))) else ((f_X1_countSitters m5 m7 x1 x2 (m1 0 6)).bind (fun r14 => (if r14.1 = 0 then (some ((-1000001), r14.2, m11)) else (if x3 = 0 then ((f_X7_fine m11 (r14.2 0 1)).bind (fun r17 => (some (r17.1, r14.2, r17.2)))) else ((f_X1_firstOfMost r14.2 (m1 0 6)).bind (fun r15 => ((f_X7_fine m11 r15).bind (fun r16 => (some (r16.1, r14.2, r16.2))))))))))))) else ((f_X7_found m11 (1 : Int32)).bind (fun r19 => (some (r19.1, m7, r19.2))))))) else (some ((-1000001), m7, m11))))))))))
def f_X3_takeFrom (m1 : Mem) (m9 : Mem) : Option (Mem) :=
  (gd (decide (m9 0 0 = 0 ∨ m9 0 0 = 1)) (nm (α := Mem) (up m1 0 0 (m9 0 0)) (fun w11 => (nm (α := Mem) (up w11 0 1 (m9 0 1)) (fun w12 => (nm (α := Mem) (up w12 0 2 (m9 0 2)) (fun w13 => (nm (α := Mem) (up w13 0 3 (m9 0 3)) (fun w14 => (nm (α := Mem) (up w14 0 4 (m9 0 4)) (fun w15 => (nm (α := Mem) (up w15 0 5 (m9 0 5)) (fun w16 => (nm (α := Mem) (up w16 0 6 (m9 0 6)) (fun w17 => (nm (α := Mem) (up w17 0 7 (m9 0 7)) (fun w18 => (nm (α := Mem) (up w18 0 8 (m9 0 8)) (fun w19 => (nm (α := Mem) (up w19 0 9 (m9 0 9)) (fun w20 => (gd (cpok 0 0 64 64 64) (nm (α := Mem) (upA w20 11 (va_cpy (m9 11) (w20 11) (0 : Int32).toNatClampNeg (0 : Int32).toNatClampNeg (64 : Int32).toNatClampNeg)) (fun w21 => (gd (cpok 0 0 7 7 7) (nm (α := Mem) (upA w21 12 (va_cpy (m9 12) (w21 12) (0 : Int32).toNatClampNeg (0 : Int32).toNatClampNeg (7 : Int32).toNatClampNeg)) (fun w22 => (gd (cpok 0 0 7 7 7) (nm (α := Mem) (upA w22 13 (va_cpy (m9 13) (w22 13) (0 : Int32).toNatClampNeg (0 : Int32).toNatClampNeg (7 : Int32).toNatClampNeg)) (fun w23 => (gd (cpok 0 0 7 7 7) (nm (α := Mem) (upA w23 14 (va_cpy (m9 14) (w23 14) (0 : Int32).toNatClampNeg (0 : Int32).toNatClampNeg (7 : Int32).toNatClampNeg)) (fun w24 => (gd (cpok 0 0 7 7 7) (nm (α := Mem) (upA w24 15 (va_cpy (m9 15) (w24 15) (0 : Int32).toNatClampNeg (0 : Int32).toNatClampNeg (7 : Int32).toNatClampNeg)) (fun w25 => (gd (cpok 0 0 3 3 3) (nm (α := Mem) (upA w25 16 (va_cpy (m9 16) (w25 16) (0 : Int32).toNatClampNeg (0 : Int32).toNatClampNeg (3 : Int32).toNatClampNeg)) (fun w26 => (gd (cpok 0 0 3 3 3) (nm (α := Mem) (upA w26 17 (va_cpy (m9 17) (w26 17) (0 : Int32).toNatClampNeg (0 : Int32).toNatClampNeg (3 : Int32).toNatClampNeg)) (fun w27 => (gd (cpok 0 0 3 3 3) (nm (α := Mem) (upA w27 18 (va_cpy (m9 18) (w27 18) (0 : Int32).toNatClampNeg (0 : Int32).toNatClampNeg (3 : Int32).toNatClampNeg)) (fun w28 => (some w28))))))))))))))))))))))))))))))))))))))))))))))
def f_X7_image (m1 : Mem) (m9 : Mem) (m10 : Mem) (x1 : Int32) : Option (Int32 × Mem × Mem) :=
  (if x1 < 0 then (some ((-1000001), m9, m10)) else (if x1 < (2 : Int32) then (if (m1 0 0) = 0 then (some ((-1000002), m9, m10)) else (gd (inb x1 2) (if x1 = 0 then ((f_X3_takeFrom m9 m1).bind (fun r12 => (some (1, r12, m10)))) else (if x1 = 1 then ((f_X3_takeFrom m10 m1).bind (fun r13 => (some (1, m9, r13)))) else none)))) else (some ((-1000001), m9, m10))))
def f_X7_restore (m1 : Mem) (m3 : Mem) (m6 : Mem) (m9 : Mem) (m10 : Mem) (x1 : Int32) : Option (Int32 × Mem × Mem × Mem) :=
  (if x1 < 0 then (some ((-1000001), m1, m3, m6)) else (if x1 < (2 : Int32) then (gd (inb x1 2) (if x1 = 0 then (if (m9 0 0) = 0 then (some ((-1000002), m1, m3, m6)) else (gd (inb x1 2) (if x1 = 0 then ((f_X3_takeFrom m1 m9).bind (fun r13 => ((f_X7_beginAnew m3 m6).bind (fun r14 => (some (1, r13, r14.1, r14.2)))))) else (if x1 = 1 then ((f_X3_takeFrom m1 m10).bind (fun r15 => ((f_X7_beginAnew m3 m6).bind (fun r16 => (some (1, r15, r16.1, r16.2)))))) else none)))) else (if x1 = 1 then (if (m10 0 0) = 0 then (some ((-1000002), m1, m3, m6)) else (gd (inb x1 2) (if x1 = 0 then ((f_X3_takeFrom m1 m9).bind (fun r18 => ((f_X7_beginAnew m3 m6).bind (fun r19 => (some (1, r18, r19.1, r19.2)))))) else (if x1 = 1 then ((f_X3_takeFrom m1 m10).bind (fun r20 => ((f_X7_beginAnew m3 m6).bind (fun r21 => (some (1, r20, r21.1, r21.2)))))) else none)))) else none))) else (some ((-1000001), m1, m3, m6))))
def f_X7_kind (m1 : Mem) (x1 : Int32) : Option (Int32) :=
  ((f_X3_hasPerson m1 x1).bind (fun r11 => (if r11 = 0 then (some (-1000001)) else (gd (inb x1 7) (some (m1 12 x1.toNatClampNeg))))))
def f_X7_as (m1 : Mem) (m11 : Mem) (x1 : Int32) (x2 : Int32) : Option (Int32 × Mem) :=
  ((f_X3_hasPerson m1 x1).bind (fun r11 => (if r11 = 0 then (some ((-1000001), m11)) else (if x2 < 0 then (some ((-1000001), m11)) else (if x2 ≤ (5 : Int32) then (gd (inb x1 7) ((f_X7_isOfKind (m1 12 x1.toNatClampNeg) x2).bind (fun r12 => (if r12 = 0 then ((f_X7_found m11 (3 : Int32)).bind (fun r13 => (some (r13.1, r13.2)))) else ((f_X7_fine m11 x1).bind (fun r14 => (some (r14.1, r14.2)))))))) else (some ((-1000001), m11)))))))
def f_X0_pose_L26 (fs : Mem → Mem → Int32 → Int32 → Int32 → Option (Int32 × Mem)) (k : Int32 → Int32 → Option (Int32 × Mem)) : Nat → Int32 → Int32 → Option (Int32 × Mem)
  | 0, _, _ => none
  | t + 1, u12, u13 =>
    (if (6 : Int32) ≤ u13 then (k u12 u13) else (if u12 ≤ 0 then (k u12 u13) else (gd (inb u12 6) (if (sta 2 u12.toNatClampNeg) = 0 then (gd (inb u12 6) (nm (α := Int32) (sta 0 u12.toNatClampNeg) (fun x14 => (f_X0_pose_L26 fs k t x14 (u13 + 1))))) else (k u12 u13)))))
def f_X0_pose_L26b (fs : Mem → Mem → Int32 → Int32 → Int32 → Option (Int32 × Mem)) (k : Int32 → Int32 → Option (Int32 × Mem)) : Nat → Int32 → Int32 → Option (Int32 × Mem)
  | 0, _, _ => none
  | t + 1, u19, u20 =>
    (if (6 : Int32) ≤ u20 then (k u19 u20) else (if u19 ≤ 0 then (k u19 u20) else (gd (inb u19 6) (if (sta 1 u19.toNatClampNeg) = 0 then (gd (inb u19 6) (nm (α := Int32) (sta 0 u19.toNatClampNeg) (fun x21 => (f_X0_pose_L26b fs k t x21 (u20 + 1))))) else (k u19 u20)))))
def f_X0_pose (fs : Mem → Mem → Int32 → Int32 → Int32 → Option (Int32 × Mem)) (m1 : Mem) (m8 : Mem) (x2 : Int32) (x3 : Int32) (x4 : Int32) : Option (Int32 × Mem) :=
  (if x3 = 0 then (gd (inb x2 7) (nm (α := Int32) (m1 12 x2.toNatClampNeg) (fun x18 => (f_X0_pose_L26b fs (fun (u22 : Int32) (u23 : Int32) => (gd (inb (if u22 < (0 : Int32) then (0 : Int32) else u22) 6) ((fs m1 m8 x2 (sta 1 (if u22 < (0 : Int32) then (0 : Int32) else u22).toNatClampNeg) x4).bind (fun r24 => (some (r24.1, r24.2))))))  100000 x18 0)))) else (gd (inb x2 7) (nm (α := Int32) (m1 12 x2.toNatClampNeg) (fun x11 => (f_X0_pose_L26 fs (fun (u15 : Int32) (u16 : Int32) => (gd (inb (if u15 < (0 : Int32) then (0 : Int32) else u15) 6) ((fs m1 m8 x2 (sta 2 (if u15 < (0 : Int32) then (0 : Int32) else u15).toNatClampNeg) x4).bind (fun r17 => (some (r17.1, r17.2))))))  100000 x11 0)))))
def f_X0_leave (m8 : Mem) (x1 : Int32) : Option (Mem) :=
  (if (16 : Int32) ≤ (m8 0 1) then (some m8) else (gd (inb (m8 0 1) 16) (nm (α := Mem) (up m8 1 (m8 0 1).toNatClampNeg x1) (fun w11 => (nm (α := Mem) (up w11 0 1 ((w11 0 1) + 1)) (fun w12 => (some w12)))))))
def f_X0_begin_B (fs : Mem → Mem → Int32 → Int32 → Int32 → Option (Int32 × Mem)) (m1 : Mem) (m8 : Mem) (x2 : Int32) (x3 : Int32) (x4 : Int32) : Option (Int32 × Mem) :=
  (if x4 ≤ (16 : Int32) then ((f_X0_leave m8 x3).bind (fun r11 => (nm (α := Int32) (x4 + 1) (fun x12 => (if x3 = 10 then (gd (inb x2 7) (some (m1 14 x2.toNatClampNeg, r11))) else (if x3 = 11 then ((fs m1 r11 x2 (10 : Int32) x12).bind (fun r13 => ((f_X0_pose  fs m1 r13.2 x2 (1 : Int32) x12).bind (fun r14 => (some (r13.1 + r14.1, r14.2)))))) else (if x3 = 12 then ((fs m1 r11 x2 (11 : Int32) x12).bind (fun r15 => (some (-r15.1, r15.2)))) else (if x3 = 13 then ((fs m1 r11 x2 (10 : Int32) x12).bind (fun r16 => (some (r16.1 - 100, r16.2)))) else (if x3 = 14 then ((fs m1 r11 x2 (13 : Int32) x12).bind (fun r17 => (some (2 * r17.1, r17.2)))) else (if x3 = 15 then ((fs m1 r11 x2 (21 : Int32) x12).bind (fun r18 => (some (2 * r18.1, r18.2)))) else (if x3 = 16 then ((fs m1 r11 x2 (21 : Int32) x12).bind (fun r19 => (some (2 * r19.1, r19.2)))) else (if x3 = 17 then ((fs m1 r11 x2 (21 : Int32) x12).bind (fun r20 => (some (2 * r20.1, r20.2)))) else (if x3 = 18 then ((fs m1 r11 x2 (21 : Int32) x12).bind (fun r21 => (some (2 * r21.1, r21.2)))) else (if x3 = 19 then ((fs m1 r11 x2 (21 : Int32) x12).bind (fun r22 => (some (2 * r22.1, r22.2)))) else (if x3 = 20 then (some (x2, r11)) else (if x3 = 21 then ((fs m1 r11 x2 (20 : Int32) x12).bind (fun r23 => (gd (inb x2 7) (some (r23.1 + (10 * (m1 13 x2.toNatClampNeg)), r23.2))))) else (if x3 = 22 then ((fs m1 r11 x2 (21 : Int32) x12).bind (fun r24 => (some (r24.1 - 1000, r24.2)))) else (if x3 = 23 then ((fs m1 r11 x2 (20 : Int32) x12).bind (fun r25 => ((f_X0_pose  fs m1 r25.2 x2 (0 : Int32) x12).bind (fun r26 => (some (r25.1 - r26.1, r26.2)))))) else ((fs m1 r11 x2 (21 : Int32) x12).bind (fun r27 => (some (2 * r27.1, r27.2)))))))))))))))))))))) else (some (0, m8)))
def f_X0_begin : Nat → Mem → Mem → Int32 → Int32 → Int32 → Option (Int32 × Mem)
  | 0, _, _, _, _, _ => none
  | n + 1, m1, m8, x2, x3, x4 => f_X0_begin_B (f_X0_begin n) m1 m8 x2 x3 x4
def f_X0_forget (m8 : Mem) : Option (Mem) :=
  (nm (α := Mem) (up m8 0 1 0) (fun w11 => (some w11)))
def f_X7_ask (m1 : Mem) (m8 : Mem) (x1 : Int32) (x2 : Int32) : Option (Int32 × Mem) :=
  ((f_X3_hasPerson m1 x1).bind (fun r11 => (if r11 = 0 then (some ((-1000001), m8)) else (if x2 < 0 then (some ((-1000001), m8)) else (if x2 ≤ (1 : Int32) then ((f_X0_forget m8).bind (fun r12 => ((f_X0_pose (f_X0_begin 28) m1 r12 x1 x2 (0 : Int32)).bind (fun r13 => (some (r13.1, r13.2)))))) else (some ((-1000001), m8)))))))
def f_X7_trace (m8 : Mem) (x1 : Int32) : Option (Int32) :=
  (if x1 < 0 then (some (-1000000)) else (if (m8 0 1) ≤ x1 then (some (-1000000)) else (gd (inb x1 16) (some (m8 1 x1.toNatClampNeg)))))
def f_X6_present_L4 (k : Int32 → Int32 → Option (Int32)) (m5 : Mem) : Nat → Int32 → Int32 → Option (Int32)
  | 0, _, _ => none
  | t + 1, u11, u12 =>
    (if (8 : Int32) ≤ u12 then (k u11 u12) else ((f_X6_isMissing m5 u12).bind (fun r13 => (if r13 = 0 then (f_X6_present_L4 k m5 t (u11 + 1) (u12 + 1)) else (f_X6_present_L4 k m5 t u11 (u12 + 1))))))
def f_X6_present (m5 : Mem) : Option (Int32) :=
  (f_X6_present_L4 (fun (u14 : Int32) (u15 : Int32) => (some u14)) m5 100000 0 0)
def f_X3_glassesInAll_L4 (k : Int32 → Int32 → Option (Int32)) (m1 : Mem) : Nat → Int32 → Int32 → Option (Int32)
  | 0, _, _ => none
  | t + 1, u11, u12 =>
    (if (m1 0 6) ≤ u12 then (k u11 u12) else (gd (inb u12 7) (nm (α := Int32) (u11 + (m1 14 u12.toNatClampNeg)) (fun x13 => (f_X3_glassesInAll_L4 k m1 t x13 (u12 + 1))))))
def f_X3_glassesInAll (m1 : Mem) : Option (Int32) :=
  (f_X3_glassesInAll_L4 (fun (u14 : Int32) (u15 : Int32) => (some u14)) m1 100000 0 0)
def f_X7_count (m1 : Mem) (m4 : Mem) (m5 : Mem) (m6 : Mem) (x1 : Int32) : Option (Int32) :=
  (if x1 = 0 then ((f_X6_present m5).bind (fun r11 => (some r11))) else (if x1 = 1 then (some (m1 0 6)) else (if x1 = 2 then (some (m1 0 7)) else (if x1 = 3 then (some (m1 0 5)) else (if x1 = 4 then (some (m6 0 2)) else (if x1 = 5 then ((f_X3_glassesInAll m1).bind (fun r12 => (some r12))) else (if x1 = 6 then (some (m4 0 1)) else (some (-1000001)))))))))
def f_X7_status (m11 : Mem) : Option (Int32) :=
  (some (m11 0 9))
def f_law_0 (L : Nat) (sx : Nat → Int32) (m0 m1 m2 m3 m4 m5 m6 m7 m8 m9 m10 m11 : Mem) (u : Int32) (k : Mem → Mem → Mem → Mem → Mem → Mem → Mem → Mem → Mem → Mem → Mem → Mem → Option M12) : Option M12 :=
  (gd (inb (u + 1) L) (gd (inb (u + 2) L) (gd (inb (u + 3) L) ((f_X7_row m5 m11 (sx (u + 1).toNatClampNeg) (sx (u + 2).toNatClampNeg) (sx (u + 3).toNatClampNeg)).bind (fun r11 => (gd (inb (u + 1) L) (gd (inb (u + 2) L) (gd (inb (u + 3) L) ((f_X8_row m0 (sx (u + 1).toNatClampNeg) (sx (u + 2).toNatClampNeg) (sx (u + 3).toNatClampNeg)).bind (fun r12 => (if r11.1 = r12.1 then (k r12.2 m1 m2 m3 m4 r11.2.1 m6 m7 m8 m9 m10 r11.2.2) else (none))))))))))))
def f_law_1 (L : Nat) (sx : Nat → Int32) (m0 m1 m2 m3 m4 m5 m6 m7 m8 m9 m10 m11 : Mem) (u : Int32) (k : Mem → Mem → Mem → Mem → Mem → Mem → Mem → Mem → Mem → Mem → Mem → Mem → Option M12) : Option M12 :=
  (gd (inb (u + 1) L) (gd (inb (u + 2) L) (gd (inb (u + 3) L) ((f_X7_set m5 m11 (sx (u + 1).toNatClampNeg) (sx (u + 2).toNatClampNeg) (sx (u + 3).toNatClampNeg)).bind (fun r11 => (gd (inb (u + 1) L) (gd (inb (u + 2) L) (gd (inb (u + 3) L) ((f_X8_set m0 (sx (u + 1).toNatClampNeg) (sx (u + 2).toNatClampNeg) (sx (u + 3).toNatClampNeg)).bind (fun r12 => (if r11.1 = r12.1 then (k r12.2 m1 m2 m3 m4 r11.2.1 m6 m7 m8 m9 m10 r11.2.2) else (none))))))))))))
def f_law_2 (L : Nat) (sx : Nat → Int32) (m0 m1 m2 m3 m4 m5 m6 m7 m8 m9 m10 m11 : Mem) (u : Int32) (k : Mem → Mem → Mem → Mem → Mem → Mem → Mem → Mem → Mem → Mem → Mem → Mem → Option M12) : Option M12 :=
  (gd (inb (u + 1) L) (gd (inb (u + 2) L) (gd (inb (u + 3) L) (gd (inb (u + 4) L) (gd (inb (u + 5) L) ((f_X7_copy m5 m11 (sx (u + 1).toNatClampNeg) (sx (u + 2).toNatClampNeg) (sx (u + 3).toNatClampNeg) (sx (u + 4).toNatClampNeg) (sx (u + 5).toNatClampNeg)).bind (fun r11 => (gd (inb (u + 1) L) (gd (inb (u + 2) L) (gd (inb (u + 3) L) (gd (inb (u + 4) L) (gd (inb (u + 5) L) ((f_X8_copy m0 (sx (u + 1).toNatClampNeg) (sx (u + 2).toNatClampNeg) (sx (u + 3).toNatClampNeg) (sx (u + 4).toNatClampNeg) (sx (u + 5).toNatClampNeg)).bind (fun r12 => (if r11.1 = r12.1 then (k r12.2 m1 m2 m3 m4 r11.2.1 m6 m7 m8 m9 m10 r11.2.2) else (none))))))))))))))))
def f_law_3 (L : Nat) (sx : Nat → Int32) (m0 m1 m2 m3 m4 m5 m6 m7 m8 m9 m10 m11 : Mem) (u : Int32) (k : Mem → Mem → Mem → Mem → Mem → Mem → Mem → Mem → Mem → Mem → Mem → Mem → Option M12) : Option M12 :=
  (gd (inb (u + 1) L) ((f_X7_drop m5 m11 (sx (u + 1).toNatClampNeg)).bind (fun r11 => (gd (inb (u + 1) L) ((f_X8_drop m0 (sx (u + 1).toNatClampNeg)).bind (fun r12 => (if r11.1 = r12.1 then (k r12.2 m1 m2 m3 m4 r11.2.1 m6 m7 m8 m9 m10 r11.2.2) else (none))))))))
def f_law_4 (L : Nat) (sx : Nat → Int32) (m0 m1 m2 m3 m4 m5 m6 m7 m8 m9 m10 m11 : Mem) (u : Int32) (k : Mem → Mem → Mem → Mem → Mem → Mem → Mem → Mem → Mem → Mem → Mem → Mem → Option M12) : Option M12 :=
  (gd (inb (u + 1) L) (gd (inb (u + 2) L) (gd (inb (u + 3) L) ((f_X7_feed m4 ((((sx (u + 1).toNatClampNeg).toInt64) <<< ((32 : Int32).toInt64 &&& 63)) ||| (((sx (u + 2).toNatClampNeg).toInt64) &&& 4294967295)) (sx (u + 3).toNatClampNeg)).bind (fun r11 => (gd (inb (u + 1) L) (gd (inb (u + 2) L) (gd (inb (u + 3) L) ((f_X8_feed m0 ((((sx (u + 1).toNatClampNeg).toInt64) <<< ((32 : Int32).toInt64 &&& 63)) ||| (((sx (u + 2).toNatClampNeg).toInt64) &&& 4294967295)) (sx (u + 3).toNatClampNeg)).bind (fun r12 => (if r11.1 = r12.1 then (k r12.2 m1 m2 m3 r11.2 m5 m6 m7 m8 m9 m10 m11) else (none))))))))))))
def f_law_5 (L : Nat) (sx : Nat → Int32) (m0 m1 m2 m3 m4 m5 m6 m7 m8 m9 m10 m11 : Mem) (u : Int32) (k : Mem → Mem → Mem → Mem → Mem → Mem → Mem → Mem → Mem → Mem → Mem → Mem → Option M12) : Option M12 :=
  ((f_X7_evening m1 m2 m3 m4 m6 m11).bind (fun r11 => ((f_X8_evening m0).bind (fun r12 => (if r11.1 = r12.1 then (if r11.2.2.2.2.2 0 7 = 1 then k r12.2 m1 r11.2.1 r11.2.2.1 r11.2.2.2.1 m5 r11.2.2.2.2.1 m7 m8 m9 m10 r11.2.2.2.2.2 else (k r12.2 r11.2.1 m1 r11.2.2.1 r11.2.2.2.1 m5 r11.2.2.2.2.1 m7 m8 m9 m10 (sw11 r11.2.2.2.2.2)).map swap12) else (none))))))
def f_law_6 (L : Nat) (sx : Nat → Int32) (m0 m1 m2 m3 m4 m5 m6 m7 m8 m9 m10 m11 : Mem) (u : Int32) (k : Mem → Mem → Mem → Mem → Mem → Mem → Mem → Mem → Mem → Mem → Mem → Mem → Option M12) : Option M12 :=
  ((f_X7_fault m4).bind (fun r11 => ((f_X8_fault m0).bind (fun r12 => (if r11 = r12.1 then (k r12.2 m1 m2 m3 m4 m5 m6 m7 m8 m9 m10 m11) else (none))))))
def f_law_7 (L : Nat) (sx : Nat → Int32) (m0 m1 m2 m3 m4 m5 m6 m7 m8 m9 m10 m11 : Mem) (u : Int32) (k : Mem → Mem → Mem → Mem → Mem → Mem → Mem → Mem → Mem → Mem → Mem → Mem → Option M12) : Option M12 :=
  (gd (inb (u + 1) L) (gd (inb (u + 2) L) ((f_X7_drink m1 m6 (sx (u + 1).toNatClampNeg) (sx (u + 2).toNatClampNeg)).bind (fun r11 => (gd (inb (u + 1) L) (gd (inb (u + 2) L) ((f_X8_drink m0 (sx (u + 1).toNatClampNeg) (sx (u + 2).toNatClampNeg)).bind (fun r12 => (if r11.1 = r12.1 then (k r12.2 r11.2.1 m2 m3 m4 m5 r11.2.2 m7 m8 m9 m10 m11) else (none))))))))))
def f_law_8 (L : Nat) (sx : Nat → Int32) (m0 m1 m2 m3 m4 m5 m6 m7 m8 m9 m10 m11 : Mem) (u : Int32) (k : Mem → Mem → Mem → Mem → Mem → Mem → Mem → Mem → Mem → Mem → Mem → Mem → Option M12) : Option M12 :=
  ((f_X7_undo m1 m6).bind (fun r11 => ((f_X8_undo m0).bind (fun r12 => (if r11.1 = r12.1 then (k r12.2 r11.2.1 m2 m3 m4 m5 r11.2.2 m7 m8 m9 m10 m11) else (none))))))
def f_law_9 (L : Nat) (sx : Nat → Int32) (m0 m1 m2 m3 m4 m5 m6 m7 m8 m9 m10 m11 : Mem) (u : Int32) (k : Mem → Mem → Mem → Mem → Mem → Mem → Mem → Mem → Mem → Mem → Mem → Mem → Option M12) : Option M12 :=
  (gd (inb (u + 1) L) (gd (inb (u + 2) L) ((f_X7_person m1 (sx (u + 1).toNatClampNeg) (sx (u + 2).toNatClampNeg)).bind (fun r11 => (gd (inb (u + 1) L) (gd (inb (u + 2) L) ((f_X8_person m0 (sx (u + 1).toNatClampNeg) (sx (u + 2).toNatClampNeg)).bind (fun r12 => (if r11 = r12.1 then (k r12.2 m1 m2 m3 m4 m5 m6 m7 m8 m9 m10 m11) else (none))))))))))
def f_law_10 (L : Nat) (sx : Nat → Int32) (m0 m1 m2 m3 m4 m5 m6 m7 m8 m9 m10 m11 : Mem) (u : Int32) (k : Mem → Mem → Mem → Mem → Mem → Mem → Mem → Mem → Mem → Mem → Mem → Mem → Option M12) : Option M12 :=
  (gd (inb (u + 1) L) (gd (inb (u + 2) L) ((f_X7_car m1 (sx (u + 1).toNatClampNeg) (sx (u + 2).toNatClampNeg)).bind (fun r11 => (gd (inb (u + 1) L) (gd (inb (u + 2) L) ((f_X8_car m0 (sx (u + 1).toNatClampNeg) (sx (u + 2).toNatClampNeg)).bind (fun r12 => (if r11 = r12.1 then (k r12.2 m1 m2 m3 m4 m5 m6 m7 m8 m9 m10 m11) else (none))))))))))
def f_law_11 (L : Nat) (sx : Nat → Int32) (m0 m1 m2 m3 m4 m5 m6 m7 m8 m9 m10 m11 : Mem) (u : Int32) (k : Mem → Mem → Mem → Mem → Mem → Mem → Mem → Mem → Mem → Mem → Mem → Mem → Option M12) : Option M12 :=
  (gd (inb (u + 1) L) (gd (inb (u + 2) L) ((f_X7_far m1 (sx (u + 1).toNatClampNeg) (sx (u + 2).toNatClampNeg)).bind (fun r11 => (gd (inb (u + 1) L) (gd (inb (u + 2) L) ((f_X8_far m0 (sx (u + 1).toNatClampNeg) (sx (u + 2).toNatClampNeg)).bind (fun r12 => (if r11 = r12.1 then (k r12.2 m1 m2 m3 m4 m5 m6 m7 m8 m9 m10 m11) else (none))))))))))
def f_law_12 (L : Nat) (sx : Nat → Int32) (m0 m1 m2 m3 m4 m5 m6 m7 m8 m9 m10 m11 : Mem) (u : Int32) (k : Mem → Mem → Mem → Mem → Mem → Mem → Mem → Mem → Mem → Mem → Mem → Mem → Option M12) : Option M12 :=
  (gd (inb (u + 1) L) (gd (inb (u + 2) L) (gd (inb (u + 3) L) ((f_X7_may m1 (sx (u + 1).toNatClampNeg) (sx (u + 2).toNatClampNeg) (sx (u + 3).toNatClampNeg)).bind (fun r11 => (gd (inb (u + 1) L) (gd (inb (u + 2) L) (gd (inb (u + 3) L) ((f_X8_may m0 (sx (u + 1).toNatClampNeg) (sx (u + 2).toNatClampNeg) (sx (u + 3).toNatClampNeg)).bind (fun r12 => (if r11 = r12.1 then (k r12.2 m1 m2 m3 m4 m5 m6 m7 m8 m9 m10 m11) else (none))))))))))))
def f_law_13 (L : Nat) (sx : Nat → Int32) (m0 m1 m2 m3 m4 m5 m6 m7 m8 m9 m10 m11 : Mem) (u : Int32) (k : Mem → Mem → Mem → Mem → Mem → Mem → Mem → Mem → Mem → Mem → Mem → Mem → Option M12) : Option M12 :=
  (gd (inb (u + 1) L) ((f_X7_soon m1 (sx (u + 1).toNatClampNeg)).bind (fun r11 => (gd (inb (u + 1) L) ((f_X8_soon m0 (sx (u + 1).toNatClampNeg)).bind (fun r12 => (if r11 = r12.1 then (k r12.2 m1 m2 m3 m4 m5 m6 m7 m8 m9 m10 m11) else (none))))))))
def f_law_14 (L : Nat) (sx : Nat → Int32) (m0 m1 m2 m3 m4 m5 m6 m7 m8 m9 m10 m11 : Mem) (u : Int32) (k : Mem → Mem → Mem → Mem → Mem → Mem → Mem → Mem → Mem → Mem → Mem → Mem → Option M12) : Option M12 :=
  (gd (inb (u + 1) L) (gd (inb (u + 2) L) (gd (inb (u + 3) L) (gd (inb (u + 4) L) ((f_X7_odds m1 (sx (u + 1).toNatClampNeg) (sx (u + 2).toNatClampNeg) (sx (u + 3).toNatClampNeg) (sx (u + 4).toNatClampNeg)).bind (fun r11 => (gd (inb (u + 1) L) (gd (inb (u + 2) L) (gd (inb (u + 3) L) (gd (inb (u + 4) L) ((f_X8_odds m0 (sx (u + 1).toNatClampNeg) (sx (u + 2).toNatClampNeg) (sx (u + 3).toNatClampNeg) (sx (u + 4).toNatClampNeg)).bind (fun r12 => (if r11 = r12.1 then (k r12.2 m1 m2 m3 m4 m5 m6 m7 m8 m9 m10 m11) else (none))))))))))))))
def f_law_15 (L : Nat) (sx : Nat → Int32) (m0 m1 m2 m3 m4 m5 m6 m7 m8 m9 m10 m11 : Mem) (u : Int32) (k : Mem → Mem → Mem → Mem → Mem → Mem → Mem → Mem → Mem → Mem → Mem → Mem → Option M12) : Option M12 :=
  (gd (inb (u + 1) L) ((f_X7_goes m1 (sx (u + 1).toNatClampNeg)).bind (fun r11 => (gd (inb (u + 1) L) ((f_X8_goes m0 (sx (u + 1).toNatClampNeg)).bind (fun r12 => (if r11 = r12.1 then (k r12.2 m1 m2 m3 m4 m5 m6 m7 m8 m9 m10 m11) else (none))))))))
def f_law_16 (L : Nat) (sx : Nat → Int32) (m0 m1 m2 m3 m4 m5 m6 m7 m8 m9 m10 m11 : Mem) (u : Int32) (k : Mem → Mem → Mem → Mem → Mem → Mem → Mem → Mem → Mem → Mem → Mem → Mem → Option M12) : Option M12 :=
  (gd (inb (u + 1) L) (gd (inb (u + 2) L) ((f_X7_home m1 m3 (sx (u + 1).toNatClampNeg) (sx (u + 2).toNatClampNeg)).bind (fun r11 => (gd (inb (u + 1) L) (gd (inb (u + 2) L) ((f_X8_home m0 (sx (u + 1).toNatClampNeg) (sx (u + 2).toNatClampNeg)).bind (fun r12 => (if r11.1 = r12.1 then (k r12.2 m1 m2 r11.2 m4 m5 m6 m7 m8 m9 m10 m11) else (none))))))))))
def f_law_17 (L : Nat) (sx : Nat → Int32) (m0 m1 m2 m3 m4 m5 m6 m7 m8 m9 m10 m11 : Mem) (u : Int32) (k : Mem → Mem → Mem → Mem → Mem → Mem → Mem → Mem → Mem → Mem → Mem → Mem → Option M12) : Option M12 :=
  (gd (inb (u + 1) L) (gd (inb (u + 2) L) (gd (inb (u + 3) L) ((f_X7_order m1 m3 (sx (u + 1).toNatClampNeg) (sx (u + 2).toNatClampNeg) (sx (u + 3).toNatClampNeg)).bind (fun r11 => (gd (inb (u + 1) L) (gd (inb (u + 2) L) (gd (inb (u + 3) L) ((f_X8_order m0 (sx (u + 1).toNatClampNeg) (sx (u + 2).toNatClampNeg) (sx (u + 3).toNatClampNeg)).bind (fun r12 => (if r11.1 = r12.1 then (k r12.2 m1 m2 r11.2 m4 m5 m6 m7 m8 m9 m10 m11) else (none))))))))))))
def f_law_18 (L : Nat) (sx : Nat → Int32) (m0 m1 m2 m3 m4 m5 m6 m7 m8 m9 m10 m11 : Mem) (u : Int32) (k : Mem → Mem → Mem → Mem → Mem → Mem → Mem → Mem → Mem → Mem → Mem → Mem → Option M12) : Option M12 :=
  (gd (inb (u + 1) L) (gd (inb (u + 2) L) ((f_X7_detour m1 m3 (sx (u + 1).toNatClampNeg) (sx (u + 2).toNatClampNeg)).bind (fun r11 => (gd (inb (u + 1) L) (gd (inb (u + 2) L) ((f_X8_detour m0 (sx (u + 1).toNatClampNeg) (sx (u + 2).toNatClampNeg)).bind (fun r12 => (if r11.1 = r12.1 then (k r12.2 m1 m2 r11.2 m4 m5 m6 m7 m8 m9 m10 m11) else (none))))))))))
def f_law_19 (L : Nat) (sx : Nat → Int32) (m0 m1 m2 m3 m4 m5 m6 m7 m8 m9 m10 m11 : Mem) (u : Int32) (k : Mem → Mem → Mem → Mem → Mem → Mem → Mem → Mem → Mem → Mem → Mem → Mem → Option M12) : Option M12 :=
  (gd (inb (u + 1) L) ((f_X7_fetch m1 (sx (u + 1).toNatClampNeg)).bind (fun r11 => (gd (inb (u + 1) L) ((f_X8_fetch m0 (sx (u + 1).toNatClampNeg)).bind (fun r12 => (if r11 = r12.1 then (k r12.2 m1 m2 m3 m4 m5 m6 m7 m8 m9 m10 m11) else (none))))))))
def f_law_20 (L : Nat) (sx : Nat → Int32) (m0 m1 m2 m3 m4 m5 m6 m7 m8 m9 m10 m11 : Mem) (u : Int32) (k : Mem → Mem → Mem → Mem → Mem → Mem → Mem → Mem → Mem → Mem → Mem → Mem → Option M12) : Option M12 :=
  (gd (inb (u + 1) L) ((f_X7_house m1 (sx (u + 1).toNatClampNeg)).bind (fun r11 => (gd (inb (u + 1) L) ((f_X8_house m0 (sx (u + 1).toNatClampNeg)).bind (fun r12 => (if r11 = r12.1 then (k r12.2 m1 m2 m3 m4 m5 m6 m7 m8 m9 m10 m11) else (none))))))))
def f_law_21 (L : Nat) (sx : Nat → Int32) (m0 m1 m2 m3 m4 m5 m6 m7 m8 m9 m10 m11 : Mem) (u : Int32) (k : Mem → Mem → Mem → Mem → Mem → Mem → Mem → Mem → Mem → Mem → Mem → Mem → Option M12) : Option M12 :=
  (gd (inb (u + 1) L) (gd (inb (u + 2) L) (gd (inb (u + 3) L) ((f_X7_turn m1 m5 m7 m11 (sx (u + 1).toNatClampNeg) (sx (u + 2).toNatClampNeg) (sx (u + 3).toNatClampNeg)).bind (fun r11 => (gd (inb (u + 1) L) (gd (inb (u + 2) L) (gd (inb (u + 3) L) ((f_X8_turn m0 (sx (u + 1).toNatClampNeg) (sx (u + 2).toNatClampNeg) (sx (u + 3).toNatClampNeg)).bind (fun r12 => (if r11.1 = r12.1 then (k r12.2 m1 m2 m3 m4 m5 m6 r11.2.1 m8 m9 m10 r11.2.2) else (none))))))))))))
def f_law_22 (L : Nat) (sx : Nat → Int32) (m0 m1 m2 m3 m4 m5 m6 m7 m8 m9 m10 m11 : Mem) (u : Int32) (k : Mem → Mem → Mem → Mem → Mem → Mem → Mem → Mem → Mem → Mem → Mem → Mem → Option M12) : Option M12 :=
  (gd (inb (u + 1) L) (gd (inb (u + 2) L) (gd (inb (u + 3) L) ((f_X7_gloves m1 m5 m7 m11 (sx (u + 1).toNatClampNeg) (sx (u + 2).toNatClampNeg) (sx (u + 3).toNatClampNeg)).bind (fun r11 => (gd (inb (u + 1) L) (gd (inb (u + 2) L) (gd (inb (u + 3) L) ((f_X8_gloves m0 (sx (u + 1).toNatClampNeg) (sx (u + 2).toNatClampNeg) (sx (u + 3).toNatClampNeg)).bind (fun r12 => (if r11.1 = r12.1 then (k r12.2 m1 m2 m3 m4 m5 m6 r11.2.1 m8 m9 m10 r11.2.2) else (none))))))))))))
def f_law_23 (L : Nat) (sx : Nat → Int32) (m0 m1 m2 m3 m4 m5 m6 m7 m8 m9 m10 m11 : Mem) (u : Int32) (k : Mem → Mem → Mem → Mem → Mem → Mem → Mem → Mem → Mem → Mem → Mem → Mem → Option M12) : Option M12 :=
  (gd (inb (u + 1) L) ((f_X7_image m1 m9 m10 (sx (u + 1).toNatClampNeg)).bind (fun r11 => (gd (inb (u + 1) L) ((f_X8_image m0 (sx (u + 1).toNatClampNeg)).bind (fun r12 => (if r11.1 = r12.1 then (k r12.2 m1 m2 m3 m4 m5 m6 m7 m8 r11.2.1 r11.2.2 m11) else (none))))))))
def f_law_24 (L : Nat) (sx : Nat → Int32) (m0 m1 m2 m3 m4 m5 m6 m7 m8 m9 m10 m11 : Mem) (u : Int32) (k : Mem → Mem → Mem → Mem → Mem → Mem → Mem → Mem → Mem → Mem → Mem → Mem → Option M12) : Option M12 :=
  (gd (inb (u + 1) L) ((f_X7_restore m1 m3 m6 m9 m10 (sx (u + 1).toNatClampNeg)).bind (fun r11 => (gd (inb (u + 1) L) ((f_X8_restore m0 (sx (u + 1).toNatClampNeg)).bind (fun r12 => (if r11.1 = r12.1 then (k r12.2 r11.2.1 m2 r11.2.2.1 m4 m5 r11.2.2.2 m7 m8 m9 m10 m11) else (none))))))))
def f_law_25 (L : Nat) (sx : Nat → Int32) (m0 m1 m2 m3 m4 m5 m6 m7 m8 m9 m10 m11 : Mem) (u : Int32) (k : Mem → Mem → Mem → Mem → Mem → Mem → Mem → Mem → Mem → Mem → Mem → Mem → Option M12) : Option M12 :=
  (gd (inb (u + 1) L) ((f_X7_kind m1 (sx (u + 1).toNatClampNeg)).bind (fun r11 => (gd (inb (u + 1) L) ((f_X8_kind m0 (sx (u + 1).toNatClampNeg)).bind (fun r12 => (if r11 = r12.1 then (k r12.2 m1 m2 m3 m4 m5 m6 m7 m8 m9 m10 m11) else (none))))))))
def f_law_26 (L : Nat) (sx : Nat → Int32) (m0 m1 m2 m3 m4 m5 m6 m7 m8 m9 m10 m11 : Mem) (u : Int32) (k : Mem → Mem → Mem → Mem → Mem → Mem → Mem → Mem → Mem → Mem → Mem → Mem → Option M12) : Option M12 :=
  (gd (inb (u + 1) L) (gd (inb (u + 2) L) ((f_X7_as m1 m11 (sx (u + 1).toNatClampNeg) (sx (u + 2).toNatClampNeg)).bind (fun r11 => (gd (inb (u + 1) L) (gd (inb (u + 2) L) ((f_X8_as m0 (sx (u + 1).toNatClampNeg) (sx (u + 2).toNatClampNeg)).bind (fun r12 => (if r11.1 = r12.1 then (k r12.2 m1 m2 m3 m4 m5 m6 m7 m8 m9 m10 r11.2) else (none))))))))))
def f_law_27 (L : Nat) (sx : Nat → Int32) (m0 m1 m2 m3 m4 m5 m6 m7 m8 m9 m10 m11 : Mem) (u : Int32) (k : Mem → Mem → Mem → Mem → Mem → Mem → Mem → Mem → Mem → Mem → Mem → Mem → Option M12) : Option M12 :=
  (gd (inb (u + 1) L) (gd (inb (u + 2) L) ((f_X7_ask m1 m8 (sx (u + 1).toNatClampNeg) (sx (u + 2).toNatClampNeg)).bind (fun r11 => (gd (inb (u + 1) L) (gd (inb (u + 2) L) ((f_X8_ask m0 (sx (u + 1).toNatClampNeg) (sx (u + 2).toNatClampNeg)).bind (fun r12 => (if r11.1 = r12.1 then (k r12.2 m1 m2 m3 m4 m5 m6 m7 r11.2 m9 m10 m11) else (none))))))))))
def f_law_28 (L : Nat) (sx : Nat → Int32) (m0 m1 m2 m3 m4 m5 m6 m7 m8 m9 m10 m11 : Mem) (u : Int32) (k : Mem → Mem → Mem → Mem → Mem → Mem → Mem → Mem → Mem → Mem → Mem → Mem → Option M12) : Option M12 :=
  (gd (inb (u + 1) L) ((f_X7_trace m8 (sx (u + 1).toNatClampNeg)).bind (fun r11 => (gd (inb (u + 1) L) ((f_X8_trace m0 (sx (u + 1).toNatClampNeg)).bind (fun r12 => (if r11 = r12.1 then (k r12.2 m1 m2 m3 m4 m5 m6 m7 m8 m9 m10 m11) else (none))))))))
def f_law_29 (L : Nat) (sx : Nat → Int32) (m0 m1 m2 m3 m4 m5 m6 m7 m8 m9 m10 m11 : Mem) (u : Int32) (k : Mem → Mem → Mem → Mem → Mem → Mem → Mem → Mem → Mem → Mem → Mem → Mem → Option M12) : Option M12 :=
  (gd (inb (u + 1) L) ((f_X7_count m1 m4 m5 m6 (sx (u + 1).toNatClampNeg)).bind (fun r11 => (gd (inb (u + 1) L) ((f_X8_count m0 (sx (u + 1).toNatClampNeg)).bind (fun r12 => (if r11 = r12.1 then (k r12.2 m1 m2 m3 m4 m5 m6 m7 m8 m9 m10 m11) else (none))))))))
def f_law_30 (L : Nat) (sx : Nat → Int32) (m0 m1 m2 m3 m4 m5 m6 m7 m8 m9 m10 m11 : Mem) (u : Int32) (k : Mem → Mem → Mem → Mem → Mem → Mem → Mem → Mem → Mem → Mem → Mem → Mem → Option M12) : Option M12 :=
  ((f_X7_status m11).bind (fun r11 => ((f_X8_status m0).bind (fun r12 => (if r11 = r12.1 then (k r12.2 m1 m2 m3 m4 m5 m6 m7 m8 m9 m10 m11) else (none))))))
def f_law (L : Nat) (sx : Nat → Int32) : Nat → Mem → Mem → Mem → Mem → Mem → Mem → Mem → Mem → Mem → Mem → Mem → Mem → Int32 → Option M12
  | 0, _, _, _, _, _, _, _, _, _, _, _, _, _ => none
  | t + 1, m0, m1, m2, m3, m4, m5, m6, m7, m8, m9, m10, m11, u =>
    (if (Int32.ofNat L) - 6 < u then some (m0, m1, m2, m3, m4, m5, m6, m7, m8, m9, m10, m11) else (gd (inb u L) (nm (α := Int32) ((sx u.toNatClampNeg) &&& 31) (fun x => (if x = 0 then (f_law_0 L sx m0 m1 m2 m3 m4 m5 m6 m7 m8 m9 m10 m11 u (fun m0 m1 m2 m3 m4 m5 m6 m7 m8 m9 m10 m11 => f_law L sx t m0 m1 m2 m3 m4 m5 m6 m7 m8 m9 m10 m11 (u + 6))) else (if x = 1 then (f_law_1 L sx m0 m1 m2 m3 m4 m5 m6 m7 m8 m9 m10 m11 u (fun m0 m1 m2 m3 m4 m5 m6 m7 m8 m9 m10 m11 => f_law L sx t m0 m1 m2 m3 m4 m5 m6 m7 m8 m9 m10 m11 (u + 6))) else (if x = 2 then (f_law_2 L sx m0 m1 m2 m3 m4 m5 m6 m7 m8 m9 m10 m11 u (fun m0 m1 m2 m3 m4 m5 m6 m7 m8 m9 m10 m11 => f_law L sx t m0 m1 m2 m3 m4 m5 m6 m7 m8 m9 m10 m11 (u + 6))) else (if x = 3 then (f_law_3 L sx m0 m1 m2 m3 m4 m5 m6 m7 m8 m9 m10 m11 u (fun m0 m1 m2 m3 m4 m5 m6 m7 m8 m9 m10 m11 => f_law L sx t m0 m1 m2 m3 m4 m5 m6 m7 m8 m9 m10 m11 (u + 6))) else (if x = 4 then (f_law_4 L sx m0 m1 m2 m3 m4 m5 m6 m7 m8 m9 m10 m11 u (fun m0 m1 m2 m3 m4 m5 m6 m7 m8 m9 m10 m11 => f_law L sx t m0 m1 m2 m3 m4 m5 m6 m7 m8 m9 m10 m11 (u + 6))) else (if x = 5 then (f_law_5 L sx m0 m1 m2 m3 m4 m5 m6 m7 m8 m9 m10 m11 u (fun m0 m1 m2 m3 m4 m5 m6 m7 m8 m9 m10 m11 => f_law L sx t m0 m1 m2 m3 m4 m5 m6 m7 m8 m9 m10 m11 (u + 6))) else (if x = 6 then (f_law_6 L sx m0 m1 m2 m3 m4 m5 m6 m7 m8 m9 m10 m11 u (fun m0 m1 m2 m3 m4 m5 m6 m7 m8 m9 m10 m11 => f_law L sx t m0 m1 m2 m3 m4 m5 m6 m7 m8 m9 m10 m11 (u + 6))) else (if x = 7 then (f_law_7 L sx m0 m1 m2 m3 m4 m5 m6 m7 m8 m9 m10 m11 u (fun m0 m1 m2 m3 m4 m5 m6 m7 m8 m9 m10 m11 => f_law L sx t m0 m1 m2 m3 m4 m5 m6 m7 m8 m9 m10 m11 (u + 6))) else (if x = 8 then (f_law_8 L sx m0 m1 m2 m3 m4 m5 m6 m7 m8 m9 m10 m11 u (fun m0 m1 m2 m3 m4 m5 m6 m7 m8 m9 m10 m11 => f_law L sx t m0 m1 m2 m3 m4 m5 m6 m7 m8 m9 m10 m11 (u + 6))) else (if x = 9 then (f_law_9 L sx m0 m1 m2 m3 m4 m5 m6 m7 m8 m9 m10 m11 u (fun m0 m1 m2 m3 m4 m5 m6 m7 m8 m9 m10 m11 => f_law L sx t m0 m1 m2 m3 m4 m5 m6 m7 m8 m9 m10 m11 (u + 6))) else (if x = 10 then (f_law_10 L sx m0 m1 m2 m3 m4 m5 m6 m7 m8 m9 m10 m11 u (fun m0 m1 m2 m3 m4 m5 m6 m7 m8 m9 m10 m11 => f_law L sx t m0 m1 m2 m3 m4 m5 m6 m7 m8 m9 m10 m11 (u + 6))) else (if x = 11 then (f_law_11 L sx m0 m1 m2 m3 m4 m5 m6 m7 m8 m9 m10 m11 u (fun m0 m1 m2 m3 m4 m5 m6 m7 m8 m9 m10 m11 => f_law L sx t m0 m1 m2 m3 m4 m5 m6 m7 m8 m9 m10 m11 (u + 6))) else (if x = 12 then (f_law_12 L sx m0 m1 m2 m3 m4 m5 m6 m7 m8 m9 m10 m11 u (fun m0 m1 m2 m3 m4 m5 m6 m7 m8 m9 m10 m11 => f_law L sx t m0 m1 m2 m3 m4 m5 m6 m7 m8 m9 m10 m11 (u + 6))) else (if x = 13 then (f_law_13 L sx m0 m1 m2 m3 m4 m5 m6 m7 m8 m9 m10 m11 u (fun m0 m1 m2 m3 m4 m5 m6 m7 m8 m9 m10 m11 => f_law L sx t m0 m1 m2 m3 m4 m5 m6 m7 m8 m9 m10 m11 (u + 6))) else (if x = 14 then (f_law_14 L sx m0 m1 m2 m3 m4 m5 m6 m7 m8 m9 m10 m11 u (fun m0 m1 m2 m3 m4 m5 m6 m7 m8 m9 m10 m11 => f_law L sx t m0 m1 m2 m3 m4 m5 m6 m7 m8 m9 m10 m11 (u + 6))) else (if x = 15 then (f_law_15 L sx m0 m1 m2 m3 m4 m5 m6 m7 m8 m9 m10 m11 u (fun m0 m1 m2 m3 m4 m5 m6 m7 m8 m9 m10 m11 => f_law L sx t m0 m1 m2 m3 m4 m5 m6 m7 m8 m9 m10 m11 (u + 6))) else (if x = 16 then (f_law_16 L sx m0 m1 m2 m3 m4 m5 m6 m7 m8 m9 m10 m11 u (fun m0 m1 m2 m3 m4 m5 m6 m7 m8 m9 m10 m11 => f_law L sx t m0 m1 m2 m3 m4 m5 m6 m7 m8 m9 m10 m11 (u + 6))) else (if x = 17 then (f_law_17 L sx m0 m1 m2 m3 m4 m5 m6 m7 m8 m9 m10 m11 u (fun m0 m1 m2 m3 m4 m5 m6 m7 m8 m9 m10 m11 => f_law L sx t m0 m1 m2 m3 m4 m5 m6 m7 m8 m9 m10 m11 (u + 6))) else (if x = 18 then (f_law_18 L sx m0 m1 m2 m3 m4 m5 m6 m7 m8 m9 m10 m11 u (fun m0 m1 m2 m3 m4 m5 m6 m7 m8 m9 m10 m11 => f_law L sx t m0 m1 m2 m3 m4 m5 m6 m7 m8 m9 m10 m11 (u + 6))) else (if x = 19 then (f_law_19 L sx m0 m1 m2 m3 m4 m5 m6 m7 m8 m9 m10 m11 u (fun m0 m1 m2 m3 m4 m5 m6 m7 m8 m9 m10 m11 => f_law L sx t m0 m1 m2 m3 m4 m5 m6 m7 m8 m9 m10 m11 (u + 6))) else (if x = 20 then (f_law_20 L sx m0 m1 m2 m3 m4 m5 m6 m7 m8 m9 m10 m11 u (fun m0 m1 m2 m3 m4 m5 m6 m7 m8 m9 m10 m11 => f_law L sx t m0 m1 m2 m3 m4 m5 m6 m7 m8 m9 m10 m11 (u + 6))) else (if x = 21 then (f_law_21 L sx m0 m1 m2 m3 m4 m5 m6 m7 m8 m9 m10 m11 u (fun m0 m1 m2 m3 m4 m5 m6 m7 m8 m9 m10 m11 => f_law L sx t m0 m1 m2 m3 m4 m5 m6 m7 m8 m9 m10 m11 (u + 6))) else (if x = 22 then (f_law_22 L sx m0 m1 m2 m3 m4 m5 m6 m7 m8 m9 m10 m11 u (fun m0 m1 m2 m3 m4 m5 m6 m7 m8 m9 m10 m11 => f_law L sx t m0 m1 m2 m3 m4 m5 m6 m7 m8 m9 m10 m11 (u + 6))) else (if x = 23 then (f_law_23 L sx m0 m1 m2 m3 m4 m5 m6 m7 m8 m9 m10 m11 u (fun m0 m1 m2 m3 m4 m5 m6 m7 m8 m9 m10 m11 => f_law L sx t m0 m1 m2 m3 m4 m5 m6 m7 m8 m9 m10 m11 (u + 6))) else (if x = 24 then (f_law_24 L sx m0 m1 m2 m3 m4 m5 m6 m7 m8 m9 m10 m11 u (fun m0 m1 m2 m3 m4 m5 m6 m7 m8 m9 m10 m11 => f_law L sx t m0 m1 m2 m3 m4 m5 m6 m7 m8 m9 m10 m11 (u + 6))) else (if x = 25 then (f_law_25 L sx m0 m1 m2 m3 m4 m5 m6 m7 m8 m9 m10 m11 u (fun m0 m1 m2 m3 m4 m5 m6 m7 m8 m9 m10 m11 => f_law L sx t m0 m1 m2 m3 m4 m5 m6 m7 m8 m9 m10 m11 (u + 6))) else (if x = 26 then (f_law_26 L sx m0 m1 m2 m3 m4 m5 m6 m7 m8 m9 m10 m11 u (fun m0 m1 m2 m3 m4 m5 m6 m7 m8 m9 m10 m11 => f_law L sx t m0 m1 m2 m3 m4 m5 m6 m7 m8 m9 m10 m11 (u + 6))) else (if x = 27 then (f_law_27 L sx m0 m1 m2 m3 m4 m5 m6 m7 m8 m9 m10 m11 u (fun m0 m1 m2 m3 m4 m5 m6 m7 m8 m9 m10 m11 => f_law L sx t m0 m1 m2 m3 m4 m5 m6 m7 m8 m9 m10 m11 (u + 6))) else (if x = 28 then (f_law_28 L sx m0 m1 m2 m3 m4 m5 m6 m7 m8 m9 m10 m11 u (fun m0 m1 m2 m3 m4 m5 m6 m7 m8 m9 m10 m11 => f_law L sx t m0 m1 m2 m3 m4 m5 m6 m7 m8 m9 m10 m11 (u + 6))) else (if x = 29 then (f_law_29 L sx m0 m1 m2 m3 m4 m5 m6 m7 m8 m9 m10 m11 u (fun m0 m1 m2 m3 m4 m5 m6 m7 m8 m9 m10 m11 => f_law L sx t m0 m1 m2 m3 m4 m5 m6 m7 m8 m9 m10 m11 (u + 6))) else (if x = 30 then (f_law_30 L sx m0 m1 m2 m3 m4 m5 m6 m7 m8 m9 m10 m11 u (fun m0 m1 m2 m3 m4 m5 m6 m7 m8 m9 m10 m11 => f_law L sx t m0 m1 m2 m3 m4 m5 m6 m7 m8 m9 m10 m11 (u + 6))) else (f_law L sx t m0 m1 m2 m3 m4 m5 m6 m7 m8 m9 m10 m11 (u + 6)))))))))))))))))))))))))))))))))))))
