/-! THE CORE: a mathematical memory for the cells of both sides, and a judgement K that ties a walk of bytecode to a pure program of type Option R. -/
abbrev Mem : Type := Nat → Nat → Int32
def z0 : Mem := fun _ _ => 0
/-- one row of a memory -/
def upA (m : Mem) (s : Nat) (f : Nat → Int32) : Mem := fun s' => if s' = s then f else m s'
/-- one place of a memory -/
def up (m : Mem) (s i : Nat) (v : Int32) : Mem := upA m s (upd (m s) i v)
/-- what the cell of a code holds -/
def xs (Ms : List Mem) (c : Nat) : Nat → Int32 := (Ms.getD (c / 1000) z0) (c % 1000)
/-- an abstract value's concrete one -/
def tv (ad : Nat → Nat) : Value → Value
  | .ref c => .ref (ad c)
  | v => v
def tvp (ad : Nat → Nat) (q : Nat × Value) : Nat × Value := (q.1, tv ad q.2)
/-- what a cell is: an object (its class, of each field: 0 a number, 1 the array of its own place, 2 a group that may change, n + 3 group n); an array of numbers (its type, its length); an array of references (its type, length, first code, step) -/
abbrev KD : Type := (Nat × List Nat) ⊕ (Nat × Nat) ⊕ (Nat × Nat × Nat × Nat)
def kdE : List (Option KD) := [some (.inl (3, [0, 0, 0, 0, 0, 0, 0, 0, 0, 0, 1, 1, 1, 1, 1, 1, 1, 1])), none, none, none, none, none, none, none, none, none, none,
  some (.inr (.inl (0, 64))), some (.inr (.inl (0, 7))), some (.inr (.inl (0, 7))), some (.inr (.inl (0, 7))), some (.inr (.inl (0, 7))), some (.inr (.inl (0, 3))), some (.inr (.inl (0, 3))), some (.inr (.inl (0, 3)))]
def kdM : List (Option KD) := [some (.inl (8, [0, 0, 1, 1, 1, 1, 1, 0, 1, 1, 0, 1, 0, 0, 0, 0, 0, 0, 0, 0, 0, 1, 1, 1, 1, 1, 0, 0, 0, 1, 0, 1, 1, 1, 1, 1, 0])), none, none,
  some (.inr (.inl (0, 8))), some (.inr (.inl (0, 8))), some (.inr (.inl (0, 320))), some (.inr (.inl (0, 109))), some (.inr (.inl (0, 109))), none, some (.inr (.inl (0, 24))), some (.inr (.inl (0, 24))), none, some (.inr (.inl (0, 500))),
  none, none, none, none, none, none, none, none, none, some (.inr (.inl (0, 384))), some (.inr (.inl (0, 4))), some (.inr (.inl (0, 4))), some (.inr (.inl (0, 4))), some (.inr (.inl (0, 3))), none, none, none, some (.inr (.inl (0, 7))), none,
  some (.inr (.inl (0, 4))), some (.inr (.inl (0, 7))), some (.inr (.inl (2, 2))), some (.inr (.inl (0, 218))), some (.inr (.inl (0, 16)))]
def kdL : List (List (Option KD)) := [kdM, kdE, kdE,
  [some (.inl (4, [1, 1, 0, 0, 0, 0, 1, 0, 0, 1, 1, 0])), some (.inr (.inl (0, 384))), some (.inr (.inl (0, 3))), none, none, none, none, some (.inr (.inl (0, 3))), none, none, some (.inr (.inl (0, 4))), some (.inr (.inl (0, 4)))],
  [some (.inl (5, [1, 0, 0, 0, 0, 0, 0, 0, 0])), some (.inr (.inl (1, 500)))],
  [some (.inl (6, [1, 1, 1])), some (.inr (.inl (0, 8))), some (.inr (.inl (0, 8))), some (.inr (.inr (4, 8, 5010, 1))), none, none, none, none, none, none,
    some (.inr (.inl (0, 40))), some (.inr (.inl (0, 40))), some (.inr (.inl (0, 40))), some (.inr (.inl (0, 40))), some (.inr (.inl (0, 40))), some (.inr (.inl (0, 40))), some (.inr (.inl (0, 40))), some (.inr (.inl (0, 40)))],
  [some (.inl (2, [1, 1, 0])), some (.inr (.inl (0, 24))), some (.inr (.inl (0, 24)))],
  [some (.inl (1, [1, 0])), some (.inr (.inl (0, 7)))],
  [some (.inl (0, [1, 0])), some (.inr (.inl (0, 16)))],
  kdE, kdE,
  [some (.inl (7, [8, 7, 1, 9, 6, 10, 11, 2, 2, 0])), none, none, some (.inr (.inr (3, 2, 9000, 1000)))]]
def kd (c : Nat) : Option KD := (kdL.getD (c / 1000) []).getD (c % 1000) none
/-- a field's abstract value -/
def av (f : Nat → Int32) (c k : Nat) : Nat → Value
  | 0 => .int (f k)
  | 1 => .ref (c + k + 1)
  | 2 => .ref (1000 * (f k).toNatClampNeg)
  | n + 3 => .ref (1000 * n)
def avs (f : Nat → Int32) (c : Nat) (fcs : List Nat) : List Value := fcs.mapIdx fun k fc => av f c k fc
def el (ad : Nat → Nat) (cy : Nat → ClassId) (c : Nat) (f : Nat → Int32) : KD → va_E
  | .inl (ci, fcs) => .inr (ci, (avs f c fcs).map (tv ad))
  | .inr (.inl (t, n)) => .inl (cy t, n, .inl f)
  | .inr (.inr (t, n, b, st)) => .inl (cy t, n, .inr (.inr (.inr (.inr (fun j => if j < n then some (ad (b + st * j)) else none)))))
/-- the launch, the classes, the addresses of the codes, the array classes, where new cells begin, the script -/
abbrev GE : Type := Launch × va_G × (Nat → Nat) × (Nat → ClassId) × Nat × Nat × (Nat → Int32)
abbrev gD (G : GE) : va_G := G.2.1
abbrev gA (G : GE) : Nat → Nat := G.2.2.1
abbrev gC (G : GE) : Nat → ClassId := G.2.2.2.1
abbrev gZ (G : GE) : Nat → Prop := fun q => G.2.2.2.2.1 ≤ q
/-- the heap holds the memories -/
def wd (G : GE) (Ms : List Mem) (H : Heap) : Prop := ∀ (c : Nat) (k : KD), kd c = some k → va_at (gD G) vwCl (gA G c, el (gA G) (gC G) c (xs Ms c) k) H
/-- the codes have their own addresses, all new ones -/
def dj (G : GE) : Prop := (∀ (c c' : Nat) (k k' : KD), kd c = some k → kd c' = some k' → gA G c = gA G c' → c = c') ∧ ∀ (c : Nat) (k : KD), kd c = some k → gZ G (gA G c)
def tysL (cy : Nat → ClassId) : List (ClassId × FieldType) := [(cy 0, .int), (cy 1, .byte), (cy 2, .boolean), (cy 3, .object RX3), (cy 4, .array .int)]
def stN : List String := ["KIND_ABOVE", "SIZE_BODIES", "MARK_BODIES"]
def stV : List (List Int32) := [[-1, 0, 1, 1, 0, 4], [10, 11, 0, 12, 13, 14], [20, 21, 22, 24, 23, 0]]
def swK : List Nat := [53, 99, 101, 103, 105, 107, 132, 134, 136, 138, 140]
def swT : List String := ["law", "way", "hill", "person", "car", "quarrel", "plain", "sick", "child", "driver", "stranger"]
def swB : List (List Int32) := [[108, 97, 119], [119, 97, 121], [104, 105, 108, 108], [112, 101, 114, 115, 111, 110], [99, 97, 114], [113, 117, 97, 114, 114, 101, 108], [112, 108, 97, 105, 110], [115, 105, 99, 107], [99, 104, 105, 108, 100], [100, 114, 105, 118, 101, 114], [115, 116, 114, 97, 110, 103, 101, 114]]
def swL : List Nat := [3, 3, 4, 6, 3, 7, 5, 4, 5, 6, 8]
/-- what holds of the tables, and of the cells that nobody writes: static arrays (codes 22000 ..), texts (20000 .., their bytes 21000 ..), the script (23000) -/
def FX (G : GE) (U : State) (H : Heap) : Prop :=
  (∀ w ∈ okl, w.before #[] U = true) ∧ va_K (gD G) vwCl (tysL (gC G)) U ∧
  (∀ i : Nat, i < 3 → va_Z RX7 (stN.getD i "") "[I" (.ref (gA G (22000 + i))) (gZ G) U H ∧ va_T .int (gA G (22000 + i)) 6 (fun j => .int ((stV.getD i []).getD j 0)) (gZ G) U H) ∧
  vk_S 11 swL swB (fun i => gA G (20000 + i)) (fun i => gA G (21000 + i)) (gZ G) U H ∧
  (∀ i : Nat, i < 11 → vk_R RX5 (swK.getD i 0) (swT.getD i "") (gA G (20000 + i)) U) ∧
  va_Z RJ0 "COMPACT_STRINGS" "Z" (.int 1) (gZ G) U H ∧ (va_Z RJ3 "SIOOBE_FORMATTER" "Ljava/util/function/BiFunction;" .null (gZ G) U H ∨ va_Z RJ3 "SIOOBE_FORMATTER" "Ljava/util/function/BiFunction;" (.ref (gA G 24000)) (gZ G) U H) ∧
  va_X (gA G 23000) G.2.2.2.2.2.1 G.2.2.2.2.2.2 U H ∧ ¬ gZ G (gA G 23000) ∧ gA G 23000 < H.size
/-- a method: its class, code, locals, what it answers, its height over the leaves -/
abbrev MI : Type := String × ByteArray × Nat × Option FieldType × Nat
def CX (G : GE) (M : MI) (p : Program) (s : State) (m : MethodId) (meth : Method) (c : Code) (R : Room) (cells slots : Nat) : Prop :=
  p.tables.exec = Jvm.exec ∧ c.code = M.2.1 ∧ c.maxLocals = M.2.2.1 ∧ meth.sig.returnType = M.2.2.2.1 ∧ meth.locks = false ∧ s.vm.findClass M.1 = some m.cls ∧ FX G s s.heap ∧ gZ G s.heap.size ∧ dj G ∧
  M.2.2.2.2 ≤ R.frames ∧ 60 * M.2.2.2.2 ≤ R.locals ∧ cells ≤ R.cells ∧ slots ≤ R.slots
/-- the instruction that answers so -/
def rti : Option Value → Instr
  | none => .return_
  | some (.long _) => .lreturn
  | some _ => .ireturn
/-- what a method of this type may answer -/
def rok : Option FieldType → Option Value → Prop
  | none, none => True
  | some .long, some (.long _) => True
  | some ty, some (.int v) => narrow ty (.int v) = .int v
  | _, _ => False
/-- THE JUDGEMENT: at pc, with these locals, this stack and these memories, where the pure program x comes to r, the machine comes to a return with what E says of r -/
def K (G : GE) (M : MI) {R : Type} (E : R → Option Value × List Mem) (pc : Nat) (lv : List (Nat × Value)) (st : List Value) (Ms : List Mem) (x : Option R) : Prop :=
  ∀ (p : Program) (e : Env) (s : State) (m : MethodId) (args : Array Value) (below : List Frame) (meth : Method) (c : Code) (Rm : Room) (cells slots : Nat) (Q : State → Prop) (H : Heap) (locs : List Loc) (ls : Array Slot) (r : R),
    CX G M p s m meth c Rm cells slots → x = some r →
    (∀ (pc' : Nat) (H' : Heap) (locs' : List Loc) (ls' : Array Slot), decode M.2.1 pc' = .ok (rti (E r).1, 1) → rok M.2.2.2.1 (E r).1 → wd G (E r).2 H' → va_S (gZ G) s.heap H' locs' →
      W p G.1 e Rm s m args below meth c H' locs' cells slots Q (F0 m pc' ls' ((E r).1.toList.map (tv (gA G))))) →
    wd G Ms H → va_S (gZ G) s.heap H locs → lv_has ls M.2.2.1 (lv.map (tvp (gA G))) →
    W p G.1 e Rm s m args below meth c H locs cells slots Q (F0 m pc ls (st.map (tv (gA G))))
def nm {α : Type} {R : Type} (a : α) (k : α → Option R) : Option R := k a
def gd {R : Type} (b : Bool) (x : Option R) : Option R := if b = true then x else none
def inb (i : Int32) (n : Nat) : Bool := decide (¬ (i < 0 ∨ n ≤ i.toNatClampNeg))
theorem inb_in {i : Int32} {n : Nat} (h : inb i n = true) : vp_in i n := fun q => absurd q (of_decide_eq_true (p := ¬ (i < 0 ∨ n ≤ i.toNatClampNeg)) h)
theorem gd_some {R : Type} {b : Bool} {x : Option R} {r : R} (h : gd b x = some r) : b = true ∧ x = some r := by
  unfold gd at h
  by_cases hb : b = true
  · rw [if_pos hb] at h; exact ⟨hb, h⟩
  · rw [if_neg hb] at h; cases h
