
-- THE LITTLE LANGUAGE. A value; a store (ints, longs, pointers, by kind of cell, number of the cell, place); locals; a point of a method.
abbrev zV : Type := Int32 ⊕ Int64 ⊕ (Nat × Nat)
abbrev zM : Type := (Nat → Nat → Nat → Int32) × (Nat → Nat → Nat → Int64) × (Nat → Nat → Nat → Nat)
abbrev zL : Type := List (Option zV)
abbrev zF : Type := zL → List zV → zM → Prop
abbrev zQ : Type := List zV → zM → Prop
def zsI (M : zM) (k i s : Nat) (v : Int32) : zM := (fun a b c => if a = k ∧ b = i ∧ c = s then v else M.1 a b c, M.2)
def zsL (M : zM) (k i s : Nat) (v : Int64) : zM := (M.1, fun a b c => if a = k ∧ b = i ∧ c = s then v else M.2.1 a b c, M.2.2)
def zsP (M : zM) (k i s : Nat) (v : Nat) : zM := (M.1, M.2.1, fun a b c => if a = k ∧ b = i ∧ c = s then v else M.2.2 a b c)
def zcp (M : zM) (k i sp k' i' dp n : Nat) : zM := (fun a b c => if a = k' ∧ b = i' ∧ dp ≤ c ∧ c < dp + n then M.1 k i (sp + (c - dp)) else M.1 a b c, M.2)
def zg : zL → Nat → Option zV
  | [], _ => none
  | a :: _, 0 => a
  | _ :: r, n + 1 => zg r n
def zset : zL → Nat → Option zV → zL
  | [], _, _ => []
  | _ :: r, 0, v => v :: r
  | a :: r, n + 1, v => a :: zset r n v
def zlong (v : Option zV) : Bool := match v with
  | some (.inr (.inl _)) => true
  | _ => false
def zbef (ls : zL) (i : Nat) : Bool := match i with
  | 0 => false
  | j + 1 => zlong (zg ls j)
def zcat (v : zV) : Nat := match v with
  | .inr (.inl _) => 2
  | _ => 1
-- kinds of cells: (how many, sort, class or array type, length, slots); a slot: (0 int, 1 boolean, 2 long, 3 fixed pointer, 4 pointer; kind pointed at; number there = a * i + b * s + c)
abbrev zS : Type := Nat × Nat × Nat × Nat × Nat
abbrev zR : Type := Nat × Nat × Nat × Nat × List zS

abbrev classes : List vw_C := vwCl
def zty : Nat → FieldType := fun k => match k with
  | 0 => .int
  | 1 => .byte
  | 2 => .boolean
  | 3 => .long
  | 4 => .object "KnockBank$Hand"
  | 5 => .object "KnockBank$Wood"
  | 6 => .object "KnockBank$Rap"
  | _ => .object "KnockBank$Law"
def zTab : List zR := [(1, 0, 0, 0, [(3, 13, 1, 0, 0), (0, 0, 0, 0, 0), (0, 0, 0, 0, 0), (0, 0, 0, 0, 0), (0, 0, 0, 0, 0), (0, 0, 0, 0, 0)]),
  (12, 0, 1, 0, [(3, 14, 1, 0, 0), (3, 15, 1, 0, 0), (0, 0, 0, 0, 0), (0, 0, 0, 0, 0), (0, 0, 0, 0, 0)]),
  (6, 0, 2, 0, [(3, 16, 1, 0, 0), (3, 17, 1, 0, 0), (0, 0, 0, 0, 0)]),
  (1, 0, 3, 0, [(3, 18, 1, 0, 0), (3, 19, 1, 0, 0), (3, 20, 1, 0, 0), (3, 21, 1, 0, 0), (3, 22, 1, 0, 0), (0, 0, 0, 0, 0), (0, 0, 0, 0, 0)]),
  (20, 0, 4, 0, [(0, 0, 0, 0, 0), (0, 0, 0, 0, 0), (0, 0, 0, 0, 0)]),
  (1, 0, 5, 0, [(3, 7, 0, 0, 0), (3, 23, 1, 0, 0), (3, 24, 1, 0, 0), (4, 9, 0, 0, 0), (4, 2, 0, 0, 0), (0, 0, 0, 0, 0), (0, 0, 0, 0, 0), (1, 0, 0, 0, 0), (0, 0, 0, 0, 0), (0, 0, 0, 0, 0)]),
  (1, 0, 6, 0, [(3, 25, 1, 0, 0), (3, 26, 1, 0, 0), (4, 9, 0, 0, 0), (0, 0, 0, 0, 0), (0, 0, 0, 0, 0)]),
  (1, 0, 7, 0, [(3, 27, 1, 0, 0), (3, 28, 1, 0, 0), (3, 29, 1, 0, 0), (3, 30, 1, 0, 0), (4, 47, 0, 0, 0), (0, 0, 0, 0, 0), (0, 0, 0, 0, 0), (0, 0, 0, 0, 0), (0, 0, 0, 0, 0), (0, 0, 0, 0, 0), (0, 0, 0, 0, 0), (0, 0, 0, 0, 0)]),
  (3, 0, 8, 0, [(4, 9, 0, 0, 0), (3, 31, 1, 0, 0), (3, 32, 1, 0, 0), (3, 33, 1, 0, 0), (3, 34, 1, 0, 0), (3, 35, 1, 0, 0), (3, 36, 1, 0, 0), (3, 37, 1, 0, 0), (3, 38, 1, 0, 0), (3, 39, 1, 0, 0), (3, 40, 1, 0, 0), (3, 41, 1, 0, 0), (3, 42, 1, 0, 0), (0, 0, 0, 0, 0), (0, 0, 0, 0, 0), (0, 0, 0, 0, 0), (0, 0, 0, 0, 0), (0, 0, 0, 0, 0)]),
  (2, 0, 9, 0, [(3, 43, 1, 0, 0), (3, 44, 1, 0, 0), (3, 45, 1, 0, 0), (3, 46, 1, 0, 0), (0, 0, 0, 0, 0), (0, 0, 0, 0, 0), (0, 0, 0, 0, 0), (0, 0, 0, 0, 0), (0, 0, 0, 0, 0), (1, 0, 0, 0, 0), (1, 0, 0, 0, 0), (0, 0, 0, 0, 0), (0, 0, 0, 0, 0), (0, 0, 0, 0, 0), (0, 0, 0, 0, 0)]),
  (8, 0, 10, 0, [(0, 0, 0, 0, 0), (0, 0, 0, 0, 0), (0, 0, 0, 0, 0), (0, 0, 0, 0, 0)]),
  (1, 0, 11, 0, [(3, 47, 1, 0, 0), (3, 5, 0, 0, 0), (3, 8, 0, 0, 0), (3, 8, 0, 0, 1), (3, 8, 0, 0, 2), (3, 0, 0, 0, 0), (3, 3, 0, 0, 0), (3, 6, 0, 0, 0), (3, 48, 1, 0, 0), (3, 49, 1, 0, 0), (3, 50, 1, 0, 0), (4, 9, 0, 0, 0), (4, 9, 0, 0, 0), (0, 0, 0, 0, 0), (1, 0, 0, 0, 0)]),
  (1, 0, 12, 0, [(3, 51, 1, 0, 0), (0, 0, 0, 0, 0), (0, 0, 0, 0, 0), (3, 52, 1, 0, 0), (0, 0, 0, 0, 0), (0, 0, 0, 0, 0), (0, 0, 0, 0, 0), (0, 0, 0, 0, 0), (0, 0, 0, 0, 0), (0, 0, 0, 0, 0), (0, 0, 0, 0, 0), (0, 0, 0, 0, 0), (0, 0, 0, 0, 0), (0, 0, 0, 0, 0), (0, 0, 0, 0, 0), (0, 0, 0, 0, 0), (0, 0, 0, 0, 0), (0, 0, 0, 0, 0), (0, 0, 0, 0, 0), (0, 0, 0, 0, 0), (3, 53, 1, 0, 0), (3, 54, 1, 0, 0), (3, 55, 1, 0, 0), (3, 56, 1, 0, 0), (3, 57, 1, 0, 0), (3, 58, 1, 0, 0), (3, 59, 1, 0, 0), (3, 60, 1, 0, 0), (3, 61, 1, 0, 0), (3, 62, 1, 0, 0), (3, 63, 1, 0, 0), (3, 64, 1, 0, 0), (3, 65, 1, 0, 0), (3, 66, 1, 0, 0), (3, 67, 1, 0, 0), (3, 68, 1, 0, 0), (3, 69, 1, 0, 0), (3, 70, 1, 0, 0), (3, 71, 1, 0, 0), (3, 72, 1, 0, 0), (3, 73, 1, 0, 0), (0, 0, 0, 0, 0), (0, 0, 0, 0, 0), (0, 0, 0, 0, 0), (0, 0, 0, 0, 0), (1, 0, 0, 0, 0), (1, 0, 0, 0, 0), (3, 74, 1, 0, 0), (3, 75, 1, 0, 0), (1, 0, 0, 0, 0), (3, 76, 1, 0, 0), (3, 77, 1, 0, 0), (3, 78, 1, 0, 0), (3, 79, 1, 0, 0), (3, 80, 1, 0, 0), (3, 81, 1, 0, 0), (3, 82, 1, 0, 0), (3, 83, 1, 0, 0), (3, 84, 1, 0, 0), (3, 85, 1, 0, 0), (3, 86, 1, 0, 0), (2, 0, 0, 0, 0), (3, 87, 1, 0, 0), (1, 0, 0, 0, 0), (0, 0, 0, 0, 0), (0, 0, 0, 0, 0), (0, 0, 0, 0, 0), (0, 0, 0, 0, 0), (3, 88, 1, 0, 0), (0, 0, 0, 0, 0), (0, 0, 0, 0, 0), (3, 89, 1, 0, 0), (3, 90, 1, 0, 0), (0, 0, 0, 0, 0), (3, 91, 1, 0, 0), (1, 0, 0, 0, 0), (3, 92, 1, 0, 0), (3, 93, 1, 0, 0), (2, 0, 0, 0, 0)]),
  (1, 1, 0, 80, []),
  (12, 1, 0, 6, []),
  (12, 1, 0, 128, []),
  (6, 1, 0, 64, []),
  (6, 2, 3, 64, []),
  (1, 1, 0, 24, []),
  (1, 1, 0, 24, []),
  (1, 1, 2, 24, []),
  (1, 1, 0, 24, []),
  (1, 1, 2, 24, []),
  (1, 1, 0, 72, []),
  (1, 1, 2, 9, []),
  (1, 1, 0, 6, []),
  (1, 1, 0, 384, []),
  (1, 1, 0, 19, []),
  (1, 1, 0, 701, []),
  (1, 1, 0, 701, []),
  (1, 1, 0, 701, []),
  (3, 1, 0, 6, []),
  (3, 1, 0, 6, []),
  (3, 1, 0, 6, []),
  (3, 1, 0, 4, []),
  (3, 1, 0, 4, []),
  (3, 1, 0, 10, []),
  (3, 1, 0, 10, []),
  (3, 1, 0, 10, []),
  (3, 1, 0, 10, []),
  (3, 1, 0, 10, []),
  (3, 1, 0, 6, []),
  (3, 2, 3, 7, []),
  (2, 3, 4, 6, [(3, 1, 6, 1, 0)]),
  (2, 3, 5, 4, [(3, 10, 4, 1, 0)]),
  (2, 3, 6, 10, [(3, 4, 10, 1, 0)]),
  (2, 3, 7, 3, [(3, 2, 3, 1, 0)]),
  (1, 1, 1, 700, []),
  (1, 1, 0, 6, []),
  (1, 1, 0, 128, []),
  (1, 1, 2, 31, []),
  (1, 1, 0, 700, []),
  (1, 1, 0, 90, []),
  (1, 1, 2, 2, []),
  (1, 1, 0, 4, []),
  (1, 1, 0, 12, []),
  (1, 1, 0, 12, []),
  (1, 1, 0, 12, []),
  (1, 1, 0, 72, []),
  (1, 1, 0, 8, []),
  (1, 1, 0, 8, []),
  (1, 1, 0, 8, []),
  (1, 1, 0, 8, []),
  (1, 1, 0, 20, []),
  (1, 1, 0, 20, []),
  (1, 1, 0, 20, []),
  (1, 1, 2, 6, []),
  (1, 1, 0, 6, []),
  (1, 1, 0, 6, []),
  (1, 1, 0, 128, []),
  (1, 1, 0, 128, []),
  (1, 1, 0, 128, []),
  (1, 1, 0, 96, []),
  (1, 1, 0, 96, []),
  (1, 2, 3, 7, []),
  (1, 2, 3, 64, []),
  (1, 1, 0, 12, []),
  (1, 1, 0, 12, []),
  (1, 1, 0, 8, []),
  (1, 1, 0, 20, []),
  (1, 1, 0, 20, []),
  (1, 1, 0, 20, []),
  (1, 1, 0, 20, []),
  (1, 1, 2, 20, []),
  (1, 1, 0, 20, []),
  (1, 1, 0, 120, []),
  (1, 1, 0, 2, []),
  (1, 1, 0, 6, []),
  (1, 1, 0, 6, []),
  (1, 1, 0, 72, []),
  (1, 1, 2, 24, []),
  (1, 1, 0, 800, []),
  (1, 1, 0, 40, []),
  (1, 1, 0, 97, []),
  (1, 2, 3, 1, [])]

def zt (k : Nat) : zR := zTab.getD k (0, 9, 0, 0, [])
abbrev zcnt (k : Nat) : Nat := (zt k).1
abbrev zsrt (k : Nat) : Nat := (zt k).2.1
abbrev zaux (k : Nat) : Nat := (zt k).2.2.1
abbrev zlen (k : Nat) : Nat := (zt k).2.2.2.1
abbrev zsl (k s : Nat) : zS := (zt k).2.2.2.2.getD s (9, 0, 0, 0, 0)
def zok (v : zV) : Prop := match v with
  | .inr (.inr (k, i)) => i < zcnt k
  | _ => True
def zin (i : Int32) (n : Nat) : Prop := 0 ≤ i.toInt ∧ i.toInt < (n : Int)
def zb (x : Int32) : Prop := x = 0 ∨ x = 1
-- steps
def g_int (n : Int32) (f : zF) : zF := fun ls st M => f ls (.inl n :: st) M
def g_lng (n : Int64) (f : zF) : zF := fun ls st M => f ls (.inr (.inl n) :: st) M
def g_ild (i : Nat) (f : zF) : zF := fun ls st M => match zg ls i with
  | some (.inl x) => f ls (.inl x :: st) M
  | _ => False
def g_lld (i : Nat) (f : zF) : zF := fun ls st M => match zg ls i with
  | some (.inr (.inl x)) => f ls (.inr (.inl x) :: st) M
  | _ => False
def g_ald (i : Nat) (f : zF) : zF := fun ls st M => match zg ls i with
  | some (.inr (.inr x)) => f ls (.inr (.inr x) :: st) M
  | _ => False
def g_ist (i : Nat) (f : zF) : zF := fun ls st M => match st with
  | .inl x :: r => bif zbef ls i then False else f (zset ls i (some (.inl x))) r M
  | _ => False
def g_ast (i : Nat) (f : zF) : zF := fun ls st M => match st with
  | .inr (.inr x) :: r => bif zbef ls i then False else f (zset ls i (some (.inr (.inr x)))) r M
  | _ => False
def g_lst (i : Nat) (f : zF) : zF := fun ls st M => match st with
  | .inr (.inl x) :: r => bif zbef ls i then False else f (zset (zset ls i (some (.inr (.inl x)))) (i + 1) none) r M
  | _ => False
def g_inc (i : Nat) (n : Int32) (f : zF) : zF := fun ls st M => match zg ls i with
  | some (.inl x) => bif zbef ls i then False else f (zset ls i (some (.inl (x + n)))) st M
  | _ => False
def g_ii (op : Int32 → Int32 → Int32) (f : zF) : zF := fun ls st M => match st with
  | .inl y :: .inl x :: r => f ls (.inl (op x y) :: r) M
  | _ => False
def g_id (op : Int32 → Int32 → Int32) (f : zF) : zF := fun ls st M => match st with
  | .inl y :: .inl x :: r => ¬ y = 0 ∧ f ls (.inl (op x y) :: r) M
  | _ => False
def g_i (op : Int32 → Int32) (f : zF) : zF := fun ls st M => match st with
  | .inl x :: r => f ls (.inl (op x) :: r) M
  | _ => False
def g_ll (op : Int64 → Int64 → Int64) (f : zF) : zF := fun ls st M => match st with
  | .inr (.inl y) :: .inr (.inl x) :: r => f ls (.inr (.inl (op x y)) :: r) M
  | _ => False
def g_ld (op : Int64 → Int64 → Int64) (f : zF) : zF := fun ls st M => match st with
  | .inr (.inl y) :: .inr (.inl x) :: r => ¬ y = 0 ∧ f ls (.inr (.inl (op x y)) :: r) M
  | _ => False
def g_l (op : Int64 → Int64) (f : zF) : zF := fun ls st M => match st with
  | .inr (.inl x) :: r => f ls (.inr (.inl (op x)) :: r) M
  | _ => False
def g_cmp (f : zF) : zF := fun ls st M => match st with
  | .inr (.inl y) :: .inr (.inl x) :: r => f ls (.inl (lg_cmp x y) :: r) M
  | _ => False
def g_i2l (f : zF) : zF := fun ls st M => match st with
  | .inl x :: r => f ls (.inr (.inl x.toInt64) :: r) M
  | _ => False
def g_l2i (f : zF) : zF := fun ls st M => match st with
  | .inr (.inl x) :: r => f ls (.inl x.toInt32 :: r) M
  | _ => False
def g_if (c : Int32 → Prop) (f g : zF) : zF := fun ls st M => match st with
  | .inl x :: r => (c x → f ls r M) ∧ (¬ c x → g ls r M)
  | _ => False
def g_ic (c : Int32 → Int32 → Prop) (f g : zF) : zF := fun ls st M => match st with
  | .inl y :: .inl x :: r => (c x y → f ls r M) ∧ (¬ c x y → g ls r M)
  | _ => False
def g_dup (f : zF) : zF := fun ls st M => match st with
  | v :: r => bif zcat v == 1 then f ls (v :: v :: r) M else False
  | _ => False
def g_pop (f : zF) : zF := fun ls st M => match st with
  | v :: r => bif zcat v == 1 then f ls r M else False
  | _ => False
def g_dup2 (f : zF) : zF := fun ls st M => match st with
  | v :: u :: r => bif zcat v == 1 && zcat u == 1 then f ls (v :: u :: v :: u :: r) M else False
  | _ => False
-- switches: cases (key, point) ahead, then the rest
def g_sw : List (Int32 × Nat × zF) → zF → zF
  | [], d => fun ls st M => match st with
    | .inl _ :: r => d ls r M
    | _ => False
  | q :: cs, d => fun ls st M => match st with
    | .inl x :: r => (x = q.1 → q.2.2 ls r M) ∧ (¬ x = q.1 → g_sw cs d ls (.inl x :: r) M)
    | _ => False
-- fields: of kind k, slot s
def g_gI (k s : Nat) (f : zF) : zF := fun ls st M => match st with
  | .inr (.inr (k', i)) :: r => bif k' == k then f ls (.inl (M.1 k i s) :: r) M else False
  | _ => False
def g_gL (k s : Nat) (f : zF) : zF := fun ls st M => match st with
  | .inr (.inr (k', i)) :: r => bif k' == k then f ls (.inr (.inl (M.2.1 k i s)) :: r) M else False
  | _ => False
def g_gR (k s tk a c : Nat) (f : zF) : zF := fun ls st M => match st with
  | .inr (.inr (k', i)) :: r => bif k' == k then f ls (.inr (.inr (tk, a * i + c)) :: r) M else False
  | _ => False
def g_g1 (k s tk : Nat) (f : zF) : zF := fun ls st M => match st with
  | .inr (.inr (k', i)) :: r => bif k' == k then f ls (.inr (.inr (tk, i)) :: r) M else False
  | _ => False
def g_g0 (k s tk c : Nat) (f : zF) : zF := fun ls st M => match st with
  | .inr (.inr (k', _)) :: r => bif k' == k then f ls (.inr (.inr (tk, c)) :: r) M else False
  | _ => False
def g_gP (k s tk : Nat) (f : zF) : zF := fun ls st M => match st with
  | .inr (.inr (k', i)) :: r => bif k' == k then M.2.2 k i s < zcnt tk ∧ f ls (.inr (.inr (tk, M.2.2 k i s)) :: r) M else False
  | _ => False
def g_pI (k s : Nat) (f : zF) : zF := fun ls st M => match st with
  | .inl v :: .inr (.inr (k', i)) :: r => bif k' == k then f ls r (zsI M k i s v) else False
  | _ => False
def g_pZ (k s : Nat) (f : zF) : zF := fun ls st M => match st with
  | .inl v :: .inr (.inr (k', i)) :: r => bif k' == k then zb v ∧ f ls r (zsI M k i s v) else False
  | _ => False
def g_pL (k s : Nat) (f : zF) : zF := fun ls st M => match st with
  | .inr (.inl v) :: .inr (.inr (k', i)) :: r => bif k' == k then f ls r (zsL M k i s v) else False
  | _ => False
def g_pP (k s tk : Nat) (f : zF) : zF := fun ls st M => match st with
  | .inr (.inr (k2, j)) :: .inr (.inr (k', i)) :: r => bif k' == k && k2 == tk then f ls r (zsP M k i s j) else False
  | _ => False
-- arrays
def g_al (t : Nat) (f : zF) : zF := fun ls st M => match st with
  | .inl j :: .inr (.inr (k, i)) :: r => bif zsrt k == 1 && zaux k == t then zin j (zlen k) ∧ f ls (.inl (M.1 k i j.toNatClampNeg) :: r) M else False
  | _ => False
def g_as (t : Nat) (nr : Int32 → Int32) (f : zF) : zF := fun ls st M => match st with
  | .inl v :: .inl j :: .inr (.inr (k, i)) :: r => bif zsrt k == 1 && zaux k == t then zin j (zlen k) ∧ f ls r (zsI M k i j.toNatClampNeg (nr v)) else False
  | _ => False
def g_all (f : zF) : zF := fun ls st M => match st with
  | .inl j :: .inr (.inr (k, i)) :: r => bif zsrt k == 2 && zaux k == 3 then zin j (zlen k) ∧ f ls (.inr (.inl (M.2.1 k i j.toNatClampNeg)) :: r) M else False
  | _ => False
def g_asl (f : zF) : zF := fun ls st M => match st with
  | .inr (.inl v) :: .inl j :: .inr (.inr (k, i)) :: r => bif zsrt k == 2 && zaux k == 3 then zin j (zlen k) ∧ f ls r (zsL M k i j.toNatClampNeg v) else False
  | _ => False
def g_alr (k tk per : Nat) (f : zF) : zF := fun ls st M => match st with
  | .inl j :: .inr (.inr (k', i)) :: r => bif k' == k then zin j (zlen k) ∧ f ls (.inr (.inr (tk, per * i + j.toNatClampNeg)) :: r) M else False
  | _ => False
def g_len (f : zF) : zF := fun ls st M => match st with
  | .inr (.inr (k, _)) :: r => bif zsrt k == 1 || zsrt k == 2 then f ls (.inl (Int32.ofNat (zlen k)) :: r) M else False
  | _ => False
def g_cpy (f : zF) : zF := fun ls st M => match st with
  | .inl n :: .inl dp :: .inr (.inr (k', i')) :: .inl sp :: .inr (.inr (k, i)) :: r => bif zsrt k == 1 && (zsrt k' == 1 && (zaux k == 0 && (zaux k' == 0 && Nat.ble ((r.map zcat).sum) 8))) then
      (0 ≤ sp.toInt ∧ 0 ≤ dp.toInt ∧ 0 ≤ n.toInt ∧ sp.toInt + n.toInt ≤ (zlen k : Int) ∧ dp.toInt + n.toInt ≤ (zlen k' : Int)) ∧ f ls r (zcp M k i sp.toNatClampNeg k' i' dp.toNatClampNeg n.toNatClampNeg) else False
  | _ => False
-- Math
def g_m2 (op : Int32 → Int32 → Int32) (f : zF) : zF := fun ls st M => match st with
  | .inl y :: .inl x :: r => bif Nat.ble ((r.map zcat).sum) 8 then f ls (.inl (op x y) :: r) M else False
  | _ => False
def g_m1 (op : Int32 → Int32) (f : zF) : zF := fun ls st M => match st with
  | .inl x :: r => bif Nat.ble ((r.map zcat).sum) 8 then f ls (.inl (op x) :: r) M else False
  | _ => False
def g_m2l (op : Int64 → Int64 → Int64) (f : zF) : zF := fun ls st M => match st with
  | .inr (.inl y) :: .inr (.inl x) :: r => bif Nat.ble ((r.map zcat).sum) 8 then f ls (.inr (.inl (op x y)) :: r) M else False
  | _ => False
def g_m1l (op : Int64 → Int64) (f : zF) : zF := fun ls st M => match st with
  | .inr (.inl x) :: r => bif Nat.ble ((r.map zcat).sum) 8 then f ls (.inr (.inl (op x)) :: r) M else False
  | _ => False
-- calls: of n values on the stack (the receiver among them), and the ends
def g_call (m : zQ → List zV → zM → Prop) (n : Nat) (f : zF) : zF := fun ls st M => bif Nat.ble n st.length && Nat.ble (((st.drop n).map zcat).sum) 8 then m (fun r M' => f ls (r ++ st.drop n) M') (st.take n).reverse M else False
def g_cv (k : Nat) (m : zQ → List zV → zM → Prop) (n : Nat) (f : zF) : zF := fun ls st M => match (st.take (n + 1)).reverse with
  | .inr (.inr (k', i)) :: as => bif k' == k && (Nat.ble (((st.drop (n + 1)).map zcat).sum) 8 && as.length == n) then m (fun r M' => f ls (r ++ st.drop (n + 1)) M') (.inr (.inr (k', i)) :: as) M else False
  | _ => False
def g_ri (K : zQ) : zF := fun _ st M => match st with
  | [.inl x] => K [.inl x] M
  | _ => False
def g_rz (K : zQ) : zF := fun _ st M => match st with
  | [.inl x] => zb x ∧ K [.inl x] M
  | _ => False
def g_rl (K : zQ) : zF := fun _ st M => match st with
  | [.inr (.inl x)] => K [.inr (.inl x)] M
  | _ => False
def g_rv (K : zQ) : zF := fun _ st M => match st with
  | [] => K [] M
  | _ => False
-- loops: how often is chosen at the entry
def ziter (b : zF → zF) : Nat → zF
  | 0 => fun _ _ _ => False
  | n + 1 => b (ziter b n)
def g_loop (b : zF → zF) : zF := fun ls st M => ∃ n, ziter b n ls st M
def zent (n : Nat) : List zV → zL
  | [] => List.replicate n none
  | .inl x :: r => some (.inl x) :: zent (n - 1) r
  | .inr (.inl x) :: r => some (.inr (.inl x)) :: none :: zent (n - 2) r
  | .inr (.inr x) :: r => some (.inr (.inr x)) :: zent (n - 1) r


-- THE MACHINE BENEATH. G: launch, where the new cells begin, classes and slots, array classes, addresses. X: a run of a method. Y: the method (class, code, locals, answer, room).
abbrev zG : Type := Launch × Nat × va_G × (Nat → ClassId) × (Nat → Nat → Nat)
abbrev zX : Type := Program × Env × State × MethodId × Array Value × List Frame × Method × Code
abbrev zY : Type := String × ByteArray × Nat × Option FieldType × Room
def zcv (G : zG) (v : zV) : Value := match v with
  | .inl x => .int x
  | .inr (.inl x) => .long x
  | .inr (.inr q) => .ref (G.2.2.2.2 q.1 q.2)
def zfv (G : zG) (M : zM) (k i s : Nat) (d : zS) : Value := match d.1 with
  | 0 => .int (M.1 k i s)
  | 1 => .int (M.1 k i s)
  | 2 => .long (M.2.1 k i s)
  | 3 => .ref (G.2.2.2.2 d.2.1 (d.2.2.1 * i + d.2.2.2.2))
  | _ => if M.2.2 k i s < zcnt d.2.1 then .ref (G.2.2.2.2 d.2.1 (M.2.2 k i s)) else .null
def zcell (G : zG) (M : zM) (k i : Nat) : va_E := match zsrt k with
  | 0 => .inr (zaux k, (List.range (zt k).2.2.2.2.length).map fun s => zfv G M k i s (zsl k s))
  | 1 => .inl (G.2.2.2.1 (zaux k), zlen k, .inl (M.1 k i))
  | 2 => .inl (G.2.2.2.1 (zaux k), zlen k, .inr (.inl (M.2.1 k i)))
  | _ => .inl (G.2.2.2.1 (zaux k), zlen k, .inr (.inr (.inr (.inr (fun j => some (G.2.2.2.2 (zsl k 0).2.1 ((zsl k 0).2.2.1 * i + (zsl k 0).2.2.2.1 * j + (zsl k 0).2.2.2.2)))))))
def zRep (G : zG) (M : zM) (H : Heap) : Prop := ∀ k i, i < zcnt k → va_at G.2.2.1 classes (G.2.2.2.2 k i, zcell G M k i) H
def zKn (G : zG) (U : State) : Prop := va_K G.2.2.1 classes ((List.range 8).map fun j => (G.2.2.2.1 j, zty j)) U ∧ ∀ w ∈ znest, va_Nw w U
def zInj (G : zG) : Prop := (∀ k i k' i', i < zcnt k → i' < zcnt k' → G.2.2.2.2 k i = G.2.2.2.2 k' i' → k = k' ∧ i = i') ∧ ∀ k i, i < zcnt k → G.2.1 ≤ G.2.2.2.2 k i
abbrev zA (G : zG) : Nat → Prop := fun q => G.2.1 ≤ q
def zlst (G : zG) : Nat → zL → List (Nat × Value)
  | _, [] => []
  | n, none :: r => zlst G (n + 1) r
  | n, some v :: r => (n, zcv G v) :: zlst G (n + 1) r
def zLc (G : zG) (nL : Nat) (arr : Array Slot) (ls : zL) : Prop := lv_has arr nL (zlst G 0 ls) ∧ ls.length = nL ∧ ∀ i v, zg ls i = some v → zok v
abbrev zW (G : zG) (X : zX) (Y : zY) (H : Heap) (locs : List Loc) (Q : State → Prop) (g : JFrame) : Prop :=
  W X.1 G.1 X.2.1 Y.2.2.2.2 X.2.2.1 X.2.2.2.1 X.2.2.2.2.1 X.2.2.2.2.2.1 X.2.2.2.2.2.2.1 X.2.2.2.2.2.2.2 H locs 0 0 Q g
abbrev zFr (X : zX) (pc : Nat) (arr : Array Slot) (st : List Value) : JFrame := F0 X.2.2.2.1 pc arr st
def zC (G : zG) (X : zX) (Y : zY) : Prop :=
  X.1.tables.exec = Jvm.exec ∧ X.2.2.2.2.2.2.2.code = Y.2.1 ∧ X.2.2.2.2.2.2.2.maxLocals = Y.2.2.1 ∧ X.2.2.1.vm.findClass Y.1 = some X.2.2.2.1.cls ∧ (∀ w ∈ zgw, w.before X.2.2.2.2.1 X.2.2.1 = true) ∧ X.2.2.2.2.2.2.1.sig.returnType = Y.2.2.2.1 ∧ X.2.2.2.2.2.2.1.locks = false ∧ zKn G X.2.2.1 ∧ zInj G
def zAt (G : zG) (X : zX) (Y : zY) (Q : State → Prop) (pc : Nat) (f : zF) : Prop :=
  ∀ (ls : zL) (st : List zV) (M : zM) (H : Heap) (locs : List Loc) (arr : Array Slot), f ls st M → zRep G M H → va_S (zA G) X.2.2.1.heap H locs → zLc G Y.2.2.1 arr ls → (∀ v ∈ st, zok v) → zW G X Y H locs Q (zFr X pc arr (st.map (zcv G)))
theorem zcat_cv (G : zG) (v : zV) : (zcv G v).category = zcat v := by
  rcases v with x | x | x <;> rfl
theorem zlst_mem {G : zG} : ∀ {ls : zL} {n : Nat} {q : Nat × Value}, q ∈ zlst G n ls ↔ ∃ j v, zg ls j = some v ∧ q = (n + j, zcv G v) := by
  intro ls
  induction ls with
  | nil => intro n q; simp [zlst, zg]
  | cons a r ih =>
    intro n q
    cases a with
    | none =>
      simp only [zlst]
      rw [ih]
      constructor
      · rintro ⟨j, v, h1, h2⟩
        exact ⟨j + 1, v, h1, by rw [h2]; congr 1; omega⟩
      · rintro ⟨j, v, h1, h2⟩
        cases j with
        | zero => cases h1
        | succ j => exact ⟨j, v, h1, by rw [h2]; congr 1; omega⟩
    | some a =>
      simp only [zlst, List.mem_cons]
      rw [ih]
      constructor
      · rintro (h | ⟨j, v, h1, h2⟩)
        · exact ⟨0, a, rfl, h⟩
        · exact ⟨j + 1, v, h1, by rw [h2]; congr 1; omega⟩
      · rintro ⟨j, v, h1, h2⟩
        cases j with
        | zero => left; cases h1; exact h2
        | succ j => exact Or.inr ⟨j, v, h1, by rw [h2]; congr 1; omega⟩
theorem zg_set : ∀ {ls : zL} {i j : Nat} {v : Option zV}, i < ls.length → zg (zset ls i v) j = if j = i then v else zg ls j := by
  intro ls
  induction ls with
  | nil => intro i j v h; simp at h
  | cons a r ih =>
    intro i j v h
    cases i with
    | zero =>
      cases j with
      | zero => simp [zset, zg]
      | succ j => simp [zset, zg]
    | succ i =>
      cases j with
      | zero => simp [zset, zg]
      | succ j =>
        simp only [zset, zg]
        rw [ih (by simpa using h)]
        simp
theorem zset_len : ∀ {ls : zL} {i : Nat} {v : Option zV}, (zset ls i v).length = ls.length := by
  intro ls
  induction ls with
  | nil => intro i v; rfl
  | cons a r ih =>
    intro i v
    cases i with
    | zero => rfl
    | succ i => simp [zset, ih]
theorem zg_lt : ∀ {ls : zL} {i : Nat} {v : zV}, zg ls i = some v → i < ls.length := by
  intro ls
  induction ls with
  | nil => intro i v h; cases h
  | cons a r ih =>
    intro i v h
    cases i with
    | zero => simp
    | succ i => simpa using ih h
theorem zLc.at {G : zG} {nL : Nat} {arr : Array Slot} {ls : zL} (h : zLc G nL arr ls) {i : Nat} {v : zV} (hg : zg ls i = some v) : arr[i]? = some (.val (zcv G v)) :=
  h.1.2.2 (i, zcv G v) (zlst_mem.mpr ⟨i, v, hg, by simp⟩)
theorem zLc.put1 {G : zG} {nL : Nat} {arr arr' : Array Slot} {ls : zL} (h : zLc G nL arr ls) {i : Nat} {v : zV} (hi : i < ls.length) (hb : zbef ls i = false) (hv : zok v)
    (hn : lv_has arr' nL ((i, zcv G v) :: (zlst G 0 ls).filter (fun q => !(q.1 == i) && !(q.1 + 1 == i && q.2.category == 2)))) : zLc G nL arr' (zset ls i (some v)) := by
  refine ⟨⟨hn.1, hn.2.1, fun q hq => hn.2.2 q ?_⟩, by rw [zset_len]; exact h.2.1, fun j u hj => ?_⟩
  · obtain ⟨j, u, h1, h2⟩ := zlst_mem.mp hq
    rw [zg_set hi] at h1
    by_cases e : j = i
    · rw [if_pos e] at h1
      cases h1
      rw [h2, e, Nat.zero_add]
      exact List.mem_cons_self
    · rw [if_neg e] at h1
      refine List.mem_cons_of_mem _ (List.mem_filter.mpr ⟨zlst_mem.mpr ⟨j, u, h1, h2⟩, ?_⟩)
      subst h2
      simp only [Nat.zero_add, zcat_cv]
      have e1 : (j == i) = false := by simpa using e
      rw [e1]
      by_cases e2 : j + 1 = i
      · subst e2
        have h3 : zlong (zg ls j) = false := hb
        rw [h1] at h3
        have : (zcat u == 2) = false := by
          rcases u with x | x | x
          · rfl
          · cases h3
          · rfl
        rw [this]; simp
      · have : (j + 1 == i) = false := by simpa using e2
        rw [this]; rfl
  · rw [zg_set hi] at hj
    by_cases e : j = i
    · rw [if_pos e] at hj
      cases hj
      exact hv
    · rw [if_neg e] at hj
      exact h.2.2 j u hj
theorem zLc.put2 {G : zG} {nL : Nat} {arr arr' : Array Slot} {ls : zL} (h : zLc G nL arr ls) {i : Nat} {x : Int64} (hi : i + 1 < ls.length) (hb : zbef ls i = false)
    (hn : lv_has arr' nL ((i, Value.long x) :: (zlst G 0 ls).filter (fun q => !(q.1 == i) && (!(q.1 == i + 1) && !(q.1 + 1 == i && q.2.category == 2))))) : zLc G nL arr' (zset (zset ls i (some (.inr (.inl x)))) (i + 1) none) := by
  have hi0 : i < ls.length := by omega
  have hi1 : i + 1 < (zset ls i (some (.inr (.inl x)))).length := by rw [zset_len]; exact hi
  refine ⟨⟨hn.1, hn.2.1, fun q hq => hn.2.2 q ?_⟩, by rw [zset_len, zset_len]; exact h.2.1, fun j u hj => ?_⟩
  · obtain ⟨j, u, h1, h2⟩ := zlst_mem.mp hq
    rw [zg_set hi1] at h1
    by_cases e0 : j = i + 1
    · rw [if_pos e0] at h1; cases h1
    rw [if_neg e0, zg_set hi0] at h1
    by_cases e : j = i
    · rw [if_pos e] at h1
      cases h1
      rw [h2, e, Nat.zero_add]
      exact List.mem_cons_self
    · rw [if_neg e] at h1
      refine List.mem_cons_of_mem _ (List.mem_filter.mpr ⟨zlst_mem.mpr ⟨j, u, h1, h2⟩, ?_⟩)
      subst h2
      simp only [Nat.zero_add, zcat_cv]
      have e1 : (j == i) = false := by simpa using e
      have e1' : (j == i + 1) = false := by simpa using e0
      rw [e1, e1']
      by_cases e2 : j + 1 = i
      · subst e2
        have h3 : zlong (zg ls j) = false := hb
        rw [h1] at h3
        have : (zcat u == 2) = false := by
          rcases u with x | x | x
          · rfl
          · cases h3
          · rfl
        rw [this]; simp
      · have : (j + 1 == i) = false := by simpa using e2
        rw [this]; rfl
  · rw [zg_set hi1] at hj
    by_cases e0 : j = i + 1
    · rw [if_pos e0] at hj; cases hj
    rw [if_neg e0, zg_set hi0] at hj
    by_cases e : j = i
    · rw [if_pos e] at hj
      cases hj
      trivial
    · rw [if_neg e] at hj
      exact h.2.2 j u hj
section ZS
variable {G : zG} {X : zX} {Y : zY} {Q : State → Prop} {pc : Nat} {f g : zF}

theorem s_iconst (h : zC G X Y) {n : Int} {v : Int32} (hd : decode Y.2.1 pc = .ok (.iconst n, 1)) (hv : Int32.ofInt n = v) (k : zAt G X Y Q (pc + 1) f) : zAt G X Y Q pc (g_int v f) := by
  intro ls st M H locs arr hf hM hS hL hst
  obtain ⟨hx, hb, hml, hown, hts, hr, hlk, hK, hI⟩ := h
  exact lv_iconst hx hb hd hv (k _ _ _ _ _ _ hf hM hS hL (List.forall_mem_cons.mpr ⟨trivial, hst⟩))
theorem s_bipush (h : zC G X Y) {n : Int} {v : Int32} (hd : decode Y.2.1 pc = .ok (.bipush n, 2)) (hv : (Int8.ofInt n).toInt32 = v) (k : zAt G X Y Q (pc + 2) f) : zAt G X Y Q pc (g_int v f) := by
  intro ls st M H locs arr hf hM hS hL hst
  obtain ⟨hx, hb, hml, hown, hts, hr, hlk, hK, hI⟩ := h
  exact lv_bipush hx hb hd hv (k _ _ _ _ _ _ hf hM hS hL (List.forall_mem_cons.mpr ⟨trivial, hst⟩))
theorem s_sipush (h : zC G X Y) {n : Int} {v : Int32} (hd : decode Y.2.1 pc = .ok (.sipush n, 3)) (hv : (Int16.ofInt n).toInt32 = v) (k : zAt G X Y Q (pc + 3) f) : zAt G X Y Q pc (g_int v f) := by
  intro ls st M H locs arr hf hM hS hL hst
  obtain ⟨hx, hb, hml, hown, hts, hr, hlk, hK, hI⟩ := h
  exact lv_sipush hx hb hd hv (k _ _ _ _ _ _ hf hM hS hL (List.forall_mem_cons.mpr ⟨trivial, hst⟩))
theorem s_lconst (h : zC G X Y) {n : Fin 2} {v : Int64} (hd : decode Y.2.1 pc = .ok (.lconst n, 1)) (hv : Int64.ofNat (n : Nat) = v) (k : zAt G X Y Q (pc + 1) f) : zAt G X Y Q pc (g_lng v f) := by
  intro ls st M H locs arr hf hM hS hL hst
  obtain ⟨hx, hb, hml, hown, hts, hr, hlk, hK, hI⟩ := h
  exact lv_lconst hx hb hd hv (k _ _ _ _ _ _ hf hM hS hL (List.forall_mem_cons.mpr ⟨trivial, hst⟩))
theorem s_ldc (h : zC G X Y) {n : Nat} {v : Int32} (hw : Cond.constant Y.1 n v ∈ zgw) (hd : decode Y.2.1 pc = .ok (.ldc n, 2)) (k : zAt G X Y Q (pc + 2) f) : zAt G X Y Q pc (g_int v f) := by
  intro ls st M H locs arr hf hM hS hL hst
  obtain ⟨hx, hb, hml, hown, hts, hr, hlk, hK, hI⟩ := h
  exact lv_ldc hx hb hown (hts _ hw) hd (k _ _ _ _ _ _ hf hM hS hL (List.forall_mem_cons.mpr ⟨trivial, hst⟩))
theorem s_ldc2 (h : zC G X Y) {n : Nat} {v : Int64} (hw : Cond.constantLong Y.1 n v ∈ zgw) (hd : decode Y.2.1 pc = .ok (.ldc2_w n, 3)) (k : zAt G X Y Q (pc + 3) f) : zAt G X Y Q pc (g_lng v f) := by
  intro ls st M H locs arr hf hM hS hL hst
  obtain ⟨hx, hb, hml, hown, hts, hr, hlk, hK, hI⟩ := h
  exact lv_ldc2 hx hb hown (hts _ hw) hd (k _ _ _ _ _ _ hf hM hS hL (List.forall_mem_cons.mpr ⟨trivial, hst⟩))
theorem s_ldcw (h : zC G X Y) {n : Nat} {v : Int32} (hw : Cond.constant Y.1 n v ∈ zgw) (hd : decode Y.2.1 pc = .ok (.ldc_w n, 3)) (k : zAt G X Y Q (pc + 3) f) : zAt G X Y Q pc (g_int v f) := by
  intro ls st M H locs arr hf hM hS hL hst
  obtain ⟨hx, hb, hml, hown, hts, hr, hlk, hK, hI⟩ := h
  exact lv_ldcw hx hb hown (hts _ hw) hd (k _ _ _ _ _ _ hf hM hS hL (List.forall_mem_cons.mpr ⟨trivial, hst⟩))
theorem s_iload_n (h : zC G X Y) {k9 : Fin 4} {i : Nat} (hd : decode Y.2.1 pc = .ok (.iload_n k9, 1)) (hi : (k9 : Nat) = i) (k : zAt G X Y Q (pc + 1) f) : zAt G X Y Q pc (g_ild i f) := by
  intro ls st M H locs arr hf hM hS hL hst
  obtain ⟨hx, hb, hml, hown, hts, hr, hlk, hK, hI⟩ := h
  unfold g_ild at hf
  split at hf
  · rename_i x9 hg
    exact lv_iload_n hx hb hd hi (hL.at hg) (k _ _ _ _ _ _ hf hM hS hL (List.forall_mem_cons.mpr ⟨hL.2.2 _ _ hg, hst⟩))
  · exact hf.elim
theorem s_iload (h : zC G X Y) {i : Nat} (hd : decode Y.2.1 pc = .ok (.iload i, 2)) (k : zAt G X Y Q (pc + 2) f) : zAt G X Y Q pc (g_ild i f) := by
  intro ls st M H locs arr hf hM hS hL hst
  obtain ⟨hx, hb, hml, hown, hts, hr, hlk, hK, hI⟩ := h
  unfold g_ild at hf
  split at hf
  · rename_i x9 hg
    exact lv_iload hx hb hd (hL.at hg) (k _ _ _ _ _ _ hf hM hS hL (List.forall_mem_cons.mpr ⟨hL.2.2 _ _ hg, hst⟩))
  · exact hf.elim
theorem s_lload_n (h : zC G X Y) {k9 : Fin 4} {i : Nat} (hd : decode Y.2.1 pc = .ok (.lload_n k9, 1)) (hi : (k9 : Nat) = i) (k : zAt G X Y Q (pc + 1) f) : zAt G X Y Q pc (g_lld i f) := by
  intro ls st M H locs arr hf hM hS hL hst
  obtain ⟨hx, hb, hml, hown, hts, hr, hlk, hK, hI⟩ := h
  unfold g_lld at hf
  split at hf
  · rename_i x9 hg
    exact lv_lload_n hx hb hd hi (hL.at hg) (k _ _ _ _ _ _ hf hM hS hL (List.forall_mem_cons.mpr ⟨hL.2.2 _ _ hg, hst⟩))
  · exact hf.elim
theorem s_lload (h : zC G X Y) {i : Nat} (hd : decode Y.2.1 pc = .ok (.lload i, 2)) (k : zAt G X Y Q (pc + 2) f) : zAt G X Y Q pc (g_lld i f) := by
  intro ls st M H locs arr hf hM hS hL hst
  obtain ⟨hx, hb, hml, hown, hts, hr, hlk, hK, hI⟩ := h
  unfold g_lld at hf
  split at hf
  · rename_i x9 hg
    exact lv_lload hx hb hd (hL.at hg) (k _ _ _ _ _ _ hf hM hS hL (List.forall_mem_cons.mpr ⟨hL.2.2 _ _ hg, hst⟩))
  · exact hf.elim
theorem s_aload_n (h : zC G X Y) {k9 : Fin 4} {i : Nat} (hd : decode Y.2.1 pc = .ok (.aload_n k9, 1)) (hi : (k9 : Nat) = i) (k : zAt G X Y Q (pc + 1) f) : zAt G X Y Q pc (g_ald i f) := by
  intro ls st M H locs arr hf hM hS hL hst
  obtain ⟨hx, hb, hml, hown, hts, hr, hlk, hK, hI⟩ := h
  unfold g_ald at hf
  split at hf
  · rename_i x9 hg
    exact lv_aload_n hx hb hd hi (hL.at hg) (k _ _ _ _ _ _ hf hM hS hL (List.forall_mem_cons.mpr ⟨hL.2.2 _ _ hg, hst⟩))
  · exact hf.elim
theorem s_aload (h : zC G X Y) {i : Nat} (hd : decode Y.2.1 pc = .ok (.aload i, 2)) (k : zAt G X Y Q (pc + 2) f) : zAt G X Y Q pc (g_ald i f) := by
  intro ls st M H locs arr hf hM hS hL hst
  obtain ⟨hx, hb, hml, hown, hts, hr, hlk, hK, hI⟩ := h
  unfold g_ald at hf
  split at hf
  · rename_i x9 hg
    exact lv_aload hx hb hd (hL.at hg) (k _ _ _ _ _ _ hf hM hS hL (List.forall_mem_cons.mpr ⟨hL.2.2 _ _ hg, hst⟩))
  · exact hf.elim
theorem s_istore_n (h : zC G X Y) {k9 : Fin 4} {i : Nat} (hd : decode Y.2.1 pc = .ok (.istore_n k9, 1)) (hi : (k9 : Nat) = i) (hn : i < Y.2.2.1) (k : zAt G X Y Q (pc + 1) f) : zAt G X Y Q pc (g_ist i f) := by
  intro ls st M H locs arr hf hM hS hL hst
  obtain ⟨hx, hb, hml, hown, hts, hr, hlk, hK, hI⟩ := h
  unfold g_ist at hf
  split at hf
  · rename_i x9 r9
    cases hz : zbef ls i with
    | true => rw [hz] at hf; exact hf.elim
    | false =>
      rw [hz] at hf
      have ho := (List.forall_mem_cons.mp hst)
      refine lv_istore_n hx hb hd hi hL.1 hn rfl (fun arr' hl' => ?_)
      exact k _ _ _ _ _ _ hf hM hS (hL.put1 (by rw [hL.2.1]; exact hn) hz ho.1 hl') ho.2
  · exact hf.elim
theorem s_istore (h : zC G X Y) {i : Nat} (hd : decode Y.2.1 pc = .ok (.istore i, 2)) (hn : i < Y.2.2.1) (k : zAt G X Y Q (pc + 2) f) : zAt G X Y Q pc (g_ist i f) := by
  intro ls st M H locs arr hf hM hS hL hst
  obtain ⟨hx, hb, hml, hown, hts, hr, hlk, hK, hI⟩ := h
  unfold g_ist at hf
  split at hf
  · rename_i x9 r9
    cases hz : zbef ls i with
    | true => rw [hz] at hf; exact hf.elim
    | false =>
      rw [hz] at hf
      have ho := (List.forall_mem_cons.mp hst)
      refine lv_istore hx hb hd hL.1 hn rfl (fun arr' hl' => ?_)
      exact k _ _ _ _ _ _ hf hM hS (hL.put1 (by rw [hL.2.1]; exact hn) hz ho.1 hl') ho.2
  · exact hf.elim
theorem s_astore_n (h : zC G X Y) {k9 : Fin 4} {i : Nat} (hd : decode Y.2.1 pc = .ok (.astore_n k9, 1)) (hi : (k9 : Nat) = i) (hn : i < Y.2.2.1) (k : zAt G X Y Q (pc + 1) f) : zAt G X Y Q pc (g_ast i f) := by
  intro ls st M H locs arr hf hM hS hL hst
  obtain ⟨hx, hb, hml, hown, hts, hr, hlk, hK, hI⟩ := h
  unfold g_ast at hf
  split at hf
  · rename_i x9 r9
    cases hz : zbef ls i with
    | true => rw [hz] at hf; exact hf.elim
    | false =>
      rw [hz] at hf
      have ho := (List.forall_mem_cons.mp hst)
      refine lv_astore_n hx hb hd hi hL.1 hn rfl (fun arr' hl' => ?_)
      exact k _ _ _ _ _ _ hf hM hS (hL.put1 (by rw [hL.2.1]; exact hn) hz ho.1 hl') ho.2
  · exact hf.elim
theorem s_astore (h : zC G X Y) {i : Nat} (hd : decode Y.2.1 pc = .ok (.astore i, 2)) (hn : i < Y.2.2.1) (k : zAt G X Y Q (pc + 2) f) : zAt G X Y Q pc (g_ast i f) := by
  intro ls st M H locs arr hf hM hS hL hst
  obtain ⟨hx, hb, hml, hown, hts, hr, hlk, hK, hI⟩ := h
  unfold g_ast at hf
  split at hf
  · rename_i x9 r9
    cases hz : zbef ls i with
    | true => rw [hz] at hf; exact hf.elim
    | false =>
      rw [hz] at hf
      have ho := (List.forall_mem_cons.mp hst)
      refine lv_astore hx hb hd hL.1 hn rfl (fun arr' hl' => ?_)
      exact k _ _ _ _ _ _ hf hM hS (hL.put1 (by rw [hL.2.1]; exact hn) hz ho.1 hl') ho.2
  · exact hf.elim
theorem s_lstore_n (h : zC G X Y) {k9 : Fin 4} {i : Nat} (hd : decode Y.2.1 pc = .ok (.lstore_n k9, 1)) (hi : (k9 : Nat) = i) (hn : i + 1 < Y.2.2.1) (k : zAt G X Y Q (pc + 1) f) : zAt G X Y Q pc (g_lst i f) := by
  intro ls st M H locs arr hf hM hS hL hst
  obtain ⟨hx, hb, hml, hown, hts, hr, hlk, hK, hI⟩ := h
  unfold g_lst at hf
  split at hf
  · rename_i x9 r9
    cases hz : zbef ls i with
    | true => rw [hz] at hf; exact hf.elim
    | false =>
      rw [hz] at hf
      have ho := (List.forall_mem_cons.mp hst)
      refine lv_lstore_n hx hb hd hi hL.1 hn rfl (fun arr' hl' => ?_)
      exact k _ _ _ _ _ _ hf hM hS (hL.put2 (by rw [hL.2.1]; exact hn) hz hl') ho.2
  · exact hf.elim
theorem s_lstore (h : zC G X Y) {i : Nat} (hd : decode Y.2.1 pc = .ok (.lstore i, 2)) (hn : i + 1 < Y.2.2.1) (k : zAt G X Y Q (pc + 2) f) : zAt G X Y Q pc (g_lst i f) := by
  intro ls st M H locs arr hf hM hS hL hst
  obtain ⟨hx, hb, hml, hown, hts, hr, hlk, hK, hI⟩ := h
  unfold g_lst at hf
  split at hf
  · rename_i x9 r9
    cases hz : zbef ls i with
    | true => rw [hz] at hf; exact hf.elim
    | false =>
      rw [hz] at hf
      have ho := (List.forall_mem_cons.mp hst)
      refine lv_lstore hx hb hd hL.1 hn rfl (fun arr' hl' => ?_)
      exact k _ _ _ _ _ _ hf hM hS (hL.put2 (by rw [hL.2.1]; exact hn) hz hl') ho.2
  · exact hf.elim
theorem s_iinc (h : zC G X Y) {i : Nat} {n : Int} {v : Int32} (hd : decode Y.2.1 pc = .ok (.iinc i n, 3)) (hv : Int32.ofInt n = v) (hn : i < Y.2.2.1) (k : zAt G X Y Q (pc + 3) f) : zAt G X Y Q pc (g_inc i v f) := by
  intro ls st M H locs arr hf hM hS hL hst
  obtain ⟨hx, hb, hml, hown, hts, hr, hlk, hK, hI⟩ := h
  unfold g_inc at hf
  split at hf
  · rename_i x9 hg
    cases hz : zbef ls i with
    | true => rw [hz] at hf; exact hf.elim
    | false =>
      rw [hz] at hf
      subst hv
      obtain ⟨j, hj⟩ := List.getElem?_of_mem (zlst_mem.mpr ⟨i, _, hg, rfl⟩ : (0 + i, zcv G (.inl x9)) ∈ zlst G 0 ls)
      rw [Nat.zero_add] at hj
      refine lv_iinc hx hb hd hL.1 hj rfl hn rfl (fun arr' hl' => ?_)
      exact k _ _ _ _ _ _ hf hM hS (hL.put1 (v := .inl (x9 + Int32.ofInt n)) (by rw [hL.2.1]; exact hn) hz trivial hl') hst
  · exact hf.elim
theorem s_iadd (h : zC G X Y) (hd : decode Y.2.1 pc = .ok (.iadd, 1)) (k : zAt G X Y Q (pc + 1) f) : zAt G X Y Q pc (g_ii (fun x y => x + y) f) := by
  intro ls st M H locs arr hf hM hS hL hst
  obtain ⟨hx, hb, hml, hown, hts, hr, hlk, hK, hI⟩ := h
  unfold g_ii at hf
  split at hf
  · have ho := List.forall_mem_cons.mp hst
    have ho2 := List.forall_mem_cons.mp ho.2
    exact lv_iadd hx hb hd (k _ _ _ _ _ _ hf hM hS hL (List.forall_mem_cons.mpr ⟨trivial, ho2.2⟩))
  · exact hf.elim
theorem s_isub (h : zC G X Y) (hd : decode Y.2.1 pc = .ok (.isub, 1)) (k : zAt G X Y Q (pc + 1) f) : zAt G X Y Q pc (g_ii (fun x y => x - y) f) := by
  intro ls st M H locs arr hf hM hS hL hst
  obtain ⟨hx, hb, hml, hown, hts, hr, hlk, hK, hI⟩ := h
  unfold g_ii at hf
  split at hf
  · have ho := List.forall_mem_cons.mp hst
    have ho2 := List.forall_mem_cons.mp ho.2
    exact lv_isub hx hb hd (k _ _ _ _ _ _ hf hM hS hL (List.forall_mem_cons.mpr ⟨trivial, ho2.2⟩))
  · exact hf.elim
theorem s_imul (h : zC G X Y) (hd : decode Y.2.1 pc = .ok (.imul, 1)) (k : zAt G X Y Q (pc + 1) f) : zAt G X Y Q pc (g_ii (fun x y => x * y) f) := by
  intro ls st M H locs arr hf hM hS hL hst
  obtain ⟨hx, hb, hml, hown, hts, hr, hlk, hK, hI⟩ := h
  unfold g_ii at hf
  split at hf
  · have ho := List.forall_mem_cons.mp hst
    have ho2 := List.forall_mem_cons.mp ho.2
    exact lv_imul hx hb hd (k _ _ _ _ _ _ hf hM hS hL (List.forall_mem_cons.mpr ⟨trivial, ho2.2⟩))
  · exact hf.elim
theorem s_iand (h : zC G X Y) (hd : decode Y.2.1 pc = .ok (.iand, 1)) (k : zAt G X Y Q (pc + 1) f) : zAt G X Y Q pc (g_ii (fun x y => x &&& y) f) := by
  intro ls st M H locs arr hf hM hS hL hst
  obtain ⟨hx, hb, hml, hown, hts, hr, hlk, hK, hI⟩ := h
  unfold g_ii at hf
  split at hf
  · have ho := List.forall_mem_cons.mp hst
    have ho2 := List.forall_mem_cons.mp ho.2
    exact lv_iand hx hb hd (k _ _ _ _ _ _ hf hM hS hL (List.forall_mem_cons.mpr ⟨trivial, ho2.2⟩))
  · exact hf.elim
theorem s_ior (h : zC G X Y) (hd : decode Y.2.1 pc = .ok (.ior, 1)) (k : zAt G X Y Q (pc + 1) f) : zAt G X Y Q pc (g_ii (fun x y => x ||| y) f) := by
  intro ls st M H locs arr hf hM hS hL hst
  obtain ⟨hx, hb, hml, hown, hts, hr, hlk, hK, hI⟩ := h
  unfold g_ii at hf
  split at hf
  · have ho := List.forall_mem_cons.mp hst
    have ho2 := List.forall_mem_cons.mp ho.2
    exact lv_ior hx hb hd (k _ _ _ _ _ _ hf hM hS hL (List.forall_mem_cons.mpr ⟨trivial, ho2.2⟩))
  · exact hf.elim
theorem s_ixor (h : zC G X Y) (hd : decode Y.2.1 pc = .ok (.ixor, 1)) (k : zAt G X Y Q (pc + 1) f) : zAt G X Y Q pc (g_ii (fun x y => x ^^^ y) f) := by
  intro ls st M H locs arr hf hM hS hL hst
  obtain ⟨hx, hb, hml, hown, hts, hr, hlk, hK, hI⟩ := h
  unfold g_ii at hf
  split at hf
  · have ho := List.forall_mem_cons.mp hst
    have ho2 := List.forall_mem_cons.mp ho.2
    exact lv_ixor hx hb hd (k _ _ _ _ _ _ hf hM hS hL (List.forall_mem_cons.mpr ⟨trivial, ho2.2⟩))
  · exact hf.elim
theorem s_ishl (h : zC G X Y) (hd : decode Y.2.1 pc = .ok (.ishl, 1)) (k : zAt G X Y Q (pc + 1) f) : zAt G X Y Q pc (g_ii (fun x y => x <<< (y &&& 31)) f) := by
  intro ls st M H locs arr hf hM hS hL hst
  obtain ⟨hx, hb, hml, hown, hts, hr, hlk, hK, hI⟩ := h
  unfold g_ii at hf
  split at hf
  · have ho := List.forall_mem_cons.mp hst
    have ho2 := List.forall_mem_cons.mp ho.2
    exact lv_ishl hx hb hd (k _ _ _ _ _ _ hf hM hS hL (List.forall_mem_cons.mpr ⟨trivial, ho2.2⟩))
  · exact hf.elim
theorem s_ishr (h : zC G X Y) (hd : decode Y.2.1 pc = .ok (.ishr, 1)) (k : zAt G X Y Q (pc + 1) f) : zAt G X Y Q pc (g_ii (fun x y => x >>> (y &&& 31)) f) := by
  intro ls st M H locs arr hf hM hS hL hst
  obtain ⟨hx, hb, hml, hown, hts, hr, hlk, hK, hI⟩ := h
  unfold g_ii at hf
  split at hf
  · have ho := List.forall_mem_cons.mp hst
    have ho2 := List.forall_mem_cons.mp ho.2
    exact lv_ishr hx hb hd (k _ _ _ _ _ _ hf hM hS hL (List.forall_mem_cons.mpr ⟨trivial, ho2.2⟩))
  · exact hf.elim
theorem s_idiv (h : zC G X Y) (hd : decode Y.2.1 pc = .ok (.idiv, 1)) (k : zAt G X Y Q (pc + 1) f) : zAt G X Y Q pc (g_id (fun x y => x / y) f) := by
  intro ls st M H locs arr hf hM hS hL hst
  obtain ⟨hx, hb, hml, hown, hts, hr, hlk, hK, hI⟩ := h
  unfold g_id at hf
  split at hf
  · have ho := List.forall_mem_cons.mp hst
    have ho2 := List.forall_mem_cons.mp ho.2
    exact lv_idiv hx hb hd hf.1 (k _ _ _ _ _ _ hf.2 hM hS hL (List.forall_mem_cons.mpr ⟨trivial, ho2.2⟩))
  · exact hf.elim
theorem s_irem (h : zC G X Y) (hd : decode Y.2.1 pc = .ok (.irem, 1)) (k : zAt G X Y Q (pc + 1) f) : zAt G X Y Q pc (g_id (fun x y => x - x / y * y) f) := by
  intro ls st M H locs arr hf hM hS hL hst
  obtain ⟨hx, hb, hml, hown, hts, hr, hlk, hK, hI⟩ := h
  unfold g_id at hf
  split at hf
  · have ho := List.forall_mem_cons.mp hst
    have ho2 := List.forall_mem_cons.mp ho.2
    exact lv_irem hx hb hd hf.1 (k _ _ _ _ _ _ hf.2 hM hS hL (List.forall_mem_cons.mpr ⟨trivial, ho2.2⟩))
  · exact hf.elim
theorem s_ladd (h : zC G X Y) (hd : decode Y.2.1 pc = .ok (.ladd, 1)) (k : zAt G X Y Q (pc + 1) f) : zAt G X Y Q pc (g_ll (fun x y => x + y) f) := by
  intro ls st M H locs arr hf hM hS hL hst
  obtain ⟨hx, hb, hml, hown, hts, hr, hlk, hK, hI⟩ := h
  unfold g_ll at hf
  split at hf
  · have ho := List.forall_mem_cons.mp hst
    have ho2 := List.forall_mem_cons.mp ho.2
    exact lv_ladd hx hb hd (k _ _ _ _ _ _ hf hM hS hL (List.forall_mem_cons.mpr ⟨trivial, ho2.2⟩))
  · exact hf.elim
theorem s_lsub (h : zC G X Y) (hd : decode Y.2.1 pc = .ok (.lsub, 1)) (k : zAt G X Y Q (pc + 1) f) : zAt G X Y Q pc (g_ll (fun x y => x - y) f) := by
  intro ls st M H locs arr hf hM hS hL hst
  obtain ⟨hx, hb, hml, hown, hts, hr, hlk, hK, hI⟩ := h
  unfold g_ll at hf
  split at hf
  · have ho := List.forall_mem_cons.mp hst
    have ho2 := List.forall_mem_cons.mp ho.2
    exact lv_lsub hx hb hd (k _ _ _ _ _ _ hf hM hS hL (List.forall_mem_cons.mpr ⟨trivial, ho2.2⟩))
  · exact hf.elim
theorem s_lmul (h : zC G X Y) (hd : decode Y.2.1 pc = .ok (.lmul, 1)) (k : zAt G X Y Q (pc + 1) f) : zAt G X Y Q pc (g_ll (fun x y => x * y) f) := by
  intro ls st M H locs arr hf hM hS hL hst
  obtain ⟨hx, hb, hml, hown, hts, hr, hlk, hK, hI⟩ := h
  unfold g_ll at hf
  split at hf
  · have ho := List.forall_mem_cons.mp hst
    have ho2 := List.forall_mem_cons.mp ho.2
    exact lv_lmul hx hb hd (k _ _ _ _ _ _ hf hM hS hL (List.forall_mem_cons.mpr ⟨trivial, ho2.2⟩))
  · exact hf.elim
theorem s_land (h : zC G X Y) (hd : decode Y.2.1 pc = .ok (.land, 1)) (k : zAt G X Y Q (pc + 1) f) : zAt G X Y Q pc (g_ll (fun x y => x &&& y) f) := by
  intro ls st M H locs arr hf hM hS hL hst
  obtain ⟨hx, hb, hml, hown, hts, hr, hlk, hK, hI⟩ := h
  unfold g_ll at hf
  split at hf
  · have ho := List.forall_mem_cons.mp hst
    have ho2 := List.forall_mem_cons.mp ho.2
    exact lv_land hx hb hd (k _ _ _ _ _ _ hf hM hS hL (List.forall_mem_cons.mpr ⟨trivial, ho2.2⟩))
  · exact hf.elim
theorem s_ldiv (h : zC G X Y) (hd : decode Y.2.1 pc = .ok (.ldiv, 1)) (k : zAt G X Y Q (pc + 1) f) : zAt G X Y Q pc (g_ld (fun x y => x / y) f) := by
  intro ls st M H locs arr hf hM hS hL hst
  obtain ⟨hx, hb, hml, hown, hts, hr, hlk, hK, hI⟩ := h
  unfold g_ld at hf
  split at hf
  · have ho := List.forall_mem_cons.mp hst
    have ho2 := List.forall_mem_cons.mp ho.2
    exact lv_ldiv hx hb hd hf.1 (k _ _ _ _ _ _ hf.2 hM hS hL (List.forall_mem_cons.mpr ⟨trivial, ho2.2⟩))
  · exact hf.elim
theorem s_lrem (h : zC G X Y) (hd : decode Y.2.1 pc = .ok (.lrem, 1)) (k : zAt G X Y Q (pc + 1) f) : zAt G X Y Q pc (g_ld (fun x y => x - x / y * y) f) := by
  intro ls st M H locs arr hf hM hS hL hst
  obtain ⟨hx, hb, hml, hown, hts, hr, hlk, hK, hI⟩ := h
  unfold g_ld at hf
  split at hf
  · have ho := List.forall_mem_cons.mp hst
    have ho2 := List.forall_mem_cons.mp ho.2
    exact lv_lrem hx hb hd hf.1 (k _ _ _ _ _ _ hf.2 hM hS hL (List.forall_mem_cons.mpr ⟨trivial, ho2.2⟩))
  · exact hf.elim
theorem s_ineg (h : zC G X Y) (hd : decode Y.2.1 pc = .ok (.ineg, 1)) (k : zAt G X Y Q (pc + 1) f) : zAt G X Y Q pc (g_i (fun x => -x) f) := by
  intro ls st M H locs arr hf hM hS hL hst
  obtain ⟨hx, hb, hml, hown, hts, hr, hlk, hK, hI⟩ := h
  unfold g_i at hf
  split at hf
  · have ho := List.forall_mem_cons.mp hst
    exact lv_ineg hx hb hd (k _ _ _ _ _ _ hf hM hS hL (List.forall_mem_cons.mpr ⟨trivial, ho.2⟩))
  · exact hf.elim
theorem s_lneg (h : zC G X Y) (hd : decode Y.2.1 pc = .ok (.lneg, 1)) (k : zAt G X Y Q (pc + 1) f) : zAt G X Y Q pc (g_l (fun x => -x) f) := by
  intro ls st M H locs arr hf hM hS hL hst
  obtain ⟨hx, hb, hml, hown, hts, hr, hlk, hK, hI⟩ := h
  unfold g_l at hf
  split at hf
  · have ho := List.forall_mem_cons.mp hst
    exact lv_lneg hx hb hd (k _ _ _ _ _ _ hf hM hS hL (List.forall_mem_cons.mpr ⟨trivial, ho.2⟩))
  · exact hf.elim
theorem s_i2b (h : zC G X Y) (hd : decode Y.2.1 pc = .ok (.i2b, 1)) (k : zAt G X Y Q (pc + 1) f) : zAt G X Y Q pc (g_i (fun x => x.toInt8.toInt32) f) := by
  intro ls st M H locs arr hf hM hS hL hst
  obtain ⟨hx, hb, hml, hown, hts, hr, hlk, hK, hI⟩ := h
  unfold g_i at hf
  split at hf
  · have ho := List.forall_mem_cons.mp hst
    exact lv_i2b hx hb hd rfl (k _ _ _ _ _ _ hf hM hS hL (List.forall_mem_cons.mpr ⟨trivial, ho.2⟩))
  · exact hf.elim
theorem s_iushr (h : zC G X Y) (hd : decode Y.2.1 pc = .ok (.iushr, 1)) (k : zAt G X Y Q (pc + 1) f) : zAt G X Y Q pc (g_ii (fun x y => (x.toUInt32 >>> (y.toUInt32 &&& 31)).toInt32) f) := by
  intro ls st M H locs arr hf hM hS hL hst
  obtain ⟨hx, hb, hml, hown, hts, hr, hlk, hK, hI⟩ := h
  unfold g_ii at hf
  split at hf
  · have ho := List.forall_mem_cons.mp hst
    have ho2 := List.forall_mem_cons.mp ho.2
    exact lv_iushr hx hb hd rfl (k _ _ _ _ _ _ hf hM hS hL (List.forall_mem_cons.mpr ⟨trivial, ho2.2⟩))
  · exact hf.elim
theorem s_lcmp (h : zC G X Y) (hd : decode Y.2.1 pc = .ok (.lcmp, 1)) (k : zAt G X Y Q (pc + 1) f) : zAt G X Y Q pc (g_cmp f) := by
  intro ls st M H locs arr hf hM hS hL hst
  obtain ⟨hx, hb, hml, hown, hts, hr, hlk, hK, hI⟩ := h
  unfold g_cmp at hf
  split at hf
  · have ho := List.forall_mem_cons.mp hst
    have ho2 := List.forall_mem_cons.mp ho.2
    exact W.lcmp hx hb hd (k _ _ _ _ _ _ hf hM hS hL (List.forall_mem_cons.mpr ⟨trivial, ho2.2⟩))
  · exact hf.elim
theorem s_i2l (h : zC G X Y) (hd : decode Y.2.1 pc = .ok (.i2l, 1)) (k : zAt G X Y Q (pc + 1) f) : zAt G X Y Q pc (g_i2l f) := by
  intro ls st M H locs arr hf hM hS hL hst
  obtain ⟨hx, hb, hml, hown, hts, hr, hlk, hK, hI⟩ := h
  unfold g_i2l at hf
  split at hf
  · have ho := List.forall_mem_cons.mp hst
    exact lv_i2l hx hb hd rfl (k _ _ _ _ _ _ hf hM hS hL (List.forall_mem_cons.mpr ⟨trivial, ho.2⟩))
  · exact hf.elim
theorem s_l2i (h : zC G X Y) (hd : decode Y.2.1 pc = .ok (.l2i, 1)) (k : zAt G X Y Q (pc + 1) f) : zAt G X Y Q pc (g_l2i f) := by
  intro ls st M H locs arr hf hM hS hL hst
  obtain ⟨hx, hb, hml, hown, hts, hr, hlk, hK, hI⟩ := h
  unfold g_l2i at hf
  split at hf
  · have ho := List.forall_mem_cons.mp hst
    exact lv_l2i hx hb hd rfl (k _ _ _ _ _ _ hf hM hS hL (List.forall_mem_cons.mpr ⟨trivial, ho.2⟩))
  · exact hf.elim
theorem s_if_eq (h : zC G X Y) {off : Int} {tgt : Nat} (hd : decode Y.2.1 pc = .ok (.ifCond .eq off, 3)) (ht : (pc : Int) + off = (tgt : Int)) (kt : zAt G X Y Q tgt f) (kf : zAt G X Y Q (pc + 3) g) : zAt G X Y Q pc (g_if (fun x => x = 0) f g) := by
  intro ls st M H locs arr hf hM hS hL hst
  obtain ⟨hx, hb, hml, hown, hts, hr, hlk, hK, hI⟩ := h
  unfold g_if at hf
  split at hf
  · have ho := List.forall_mem_cons.mp hst
    exact lv_if_eq hx hb hd ht (fun q => kt _ _ _ _ _ _ (hf.1 q) hM hS hL ho.2) (fun q => kf _ _ _ _ _ _ (hf.2 q) hM hS hL ho.2)
  · exact hf.elim
theorem s_if_lt (h : zC G X Y) {off : Int} {tgt : Nat} (hd : decode Y.2.1 pc = .ok (.ifCond .lt off, 3)) (ht : (pc : Int) + off = (tgt : Int)) (kt : zAt G X Y Q tgt f) (kf : zAt G X Y Q (pc + 3) g) : zAt G X Y Q pc (g_if (fun x => x < 0) f g) := by
  intro ls st M H locs arr hf hM hS hL hst
  obtain ⟨hx, hb, hml, hown, hts, hr, hlk, hK, hI⟩ := h
  unfold g_if at hf
  split at hf
  · have ho := List.forall_mem_cons.mp hst
    exact lv_if_lt hx hb hd ht (fun q => kt _ _ _ _ _ _ (hf.1 q) hM hS hL ho.2) (fun q => kf _ _ _ _ _ _ (hf.2 q) hM hS hL ho.2)
  · exact hf.elim
theorem s_if_ge (h : zC G X Y) {off : Int} {tgt : Nat} (hd : decode Y.2.1 pc = .ok (.ifCond .ge off, 3)) (ht : (pc : Int) + off = (tgt : Int)) (kt : zAt G X Y Q tgt f) (kf : zAt G X Y Q (pc + 3) g) : zAt G X Y Q pc (g_if (fun x => 0 ≤ x) f g) := by
  intro ls st M H locs arr hf hM hS hL hst
  obtain ⟨hx, hb, hml, hown, hts, hr, hlk, hK, hI⟩ := h
  unfold g_if at hf
  split at hf
  · have ho := List.forall_mem_cons.mp hst
    exact lv_if_ge hx hb hd ht (fun q => kt _ _ _ _ _ _ (hf.1 q) hM hS hL ho.2) (fun q => kf _ _ _ _ _ _ (hf.2 q) hM hS hL ho.2)
  · exact hf.elim
theorem s_if_gt (h : zC G X Y) {off : Int} {tgt : Nat} (hd : decode Y.2.1 pc = .ok (.ifCond .gt off, 3)) (ht : (pc : Int) + off = (tgt : Int)) (kt : zAt G X Y Q tgt f) (kf : zAt G X Y Q (pc + 3) g) : zAt G X Y Q pc (g_if (fun x => 0 < x) f g) := by
  intro ls st M H locs arr hf hM hS hL hst
  obtain ⟨hx, hb, hml, hown, hts, hr, hlk, hK, hI⟩ := h
  unfold g_if at hf
  split at hf
  · have ho := List.forall_mem_cons.mp hst
    exact lv_if_gt hx hb hd ht (fun q => kt _ _ _ _ _ _ (hf.1 q) hM hS hL ho.2) (fun q => kf _ _ _ _ _ _ (hf.2 q) hM hS hL ho.2)
  · exact hf.elim
theorem s_if_le (h : zC G X Y) {off : Int} {tgt : Nat} (hd : decode Y.2.1 pc = .ok (.ifCond .le off, 3)) (ht : (pc : Int) + off = (tgt : Int)) (kt : zAt G X Y Q tgt f) (kf : zAt G X Y Q (pc + 3) g) : zAt G X Y Q pc (g_if (fun x => x ≤ 0) f g) := by
  intro ls st M H locs arr hf hM hS hL hst
  obtain ⟨hx, hb, hml, hown, hts, hr, hlk, hK, hI⟩ := h
  unfold g_if at hf
  split at hf
  · have ho := List.forall_mem_cons.mp hst
    exact lv_if_le hx hb hd ht (fun q => kt _ _ _ _ _ _ (hf.1 q) hM hS hL ho.2) (fun q => kf _ _ _ _ _ _ (hf.2 q) hM hS hL ho.2)
  · exact hf.elim
theorem s_icmp_eq (h : zC G X Y) {off : Int} {tgt : Nat} (hd : decode Y.2.1 pc = .ok (.if_icmp .eq off, 3)) (ht : (pc : Int) + off = (tgt : Int)) (kt : zAt G X Y Q tgt f) (kf : zAt G X Y Q (pc + 3) g) : zAt G X Y Q pc (g_ic (fun x y => x = y) f g) := by
  intro ls st M H locs arr hf hM hS hL hst
  obtain ⟨hx, hb, hml, hown, hts, hr, hlk, hK, hI⟩ := h
  unfold g_ic at hf
  split at hf
  · have ho := List.forall_mem_cons.mp hst
    have ho2 := List.forall_mem_cons.mp ho.2
    exact lv_icmp_eq hx hb hd ht (fun q => kt _ _ _ _ _ _ (hf.1 q) hM hS hL ho2.2) (fun q => kf _ _ _ _ _ _ (hf.2 q) hM hS hL ho2.2)
  · exact hf.elim
theorem s_icmp_lt (h : zC G X Y) {off : Int} {tgt : Nat} (hd : decode Y.2.1 pc = .ok (.if_icmp .lt off, 3)) (ht : (pc : Int) + off = (tgt : Int)) (kt : zAt G X Y Q tgt f) (kf : zAt G X Y Q (pc + 3) g) : zAt G X Y Q pc (g_ic (fun x y => x < y) f g) := by
  intro ls st M H locs arr hf hM hS hL hst
  obtain ⟨hx, hb, hml, hown, hts, hr, hlk, hK, hI⟩ := h
  unfold g_ic at hf
  split at hf
  · have ho := List.forall_mem_cons.mp hst
    have ho2 := List.forall_mem_cons.mp ho.2
    exact lv_icmp_lt hx hb hd ht (fun q => kt _ _ _ _ _ _ (hf.1 q) hM hS hL ho2.2) (fun q => kf _ _ _ _ _ _ (hf.2 q) hM hS hL ho2.2)
  · exact hf.elim
theorem s_icmp_ge (h : zC G X Y) {off : Int} {tgt : Nat} (hd : decode Y.2.1 pc = .ok (.if_icmp .ge off, 3)) (ht : (pc : Int) + off = (tgt : Int)) (kt : zAt G X Y Q tgt f) (kf : zAt G X Y Q (pc + 3) g) : zAt G X Y Q pc (g_ic (fun x y => y ≤ x) f g) := by
  intro ls st M H locs arr hf hM hS hL hst
  obtain ⟨hx, hb, hml, hown, hts, hr, hlk, hK, hI⟩ := h
  unfold g_ic at hf
  split at hf
  · have ho := List.forall_mem_cons.mp hst
    have ho2 := List.forall_mem_cons.mp ho.2
    exact lv_icmp_ge hx hb hd ht (fun q => kt _ _ _ _ _ _ (hf.1 q) hM hS hL ho2.2) (fun q => kf _ _ _ _ _ _ (hf.2 q) hM hS hL ho2.2)
  · exact hf.elim
theorem s_icmp_gt (h : zC G X Y) {off : Int} {tgt : Nat} (hd : decode Y.2.1 pc = .ok (.if_icmp .gt off, 3)) (ht : (pc : Int) + off = (tgt : Int)) (kt : zAt G X Y Q tgt f) (kf : zAt G X Y Q (pc + 3) g) : zAt G X Y Q pc (g_ic (fun x y => y < x) f g) := by
  intro ls st M H locs arr hf hM hS hL hst
  obtain ⟨hx, hb, hml, hown, hts, hr, hlk, hK, hI⟩ := h
  unfold g_ic at hf
  split at hf
  · have ho := List.forall_mem_cons.mp hst
    have ho2 := List.forall_mem_cons.mp ho.2
    exact lv_icmp_gt hx hb hd ht (fun q => kt _ _ _ _ _ _ (hf.1 q) hM hS hL ho2.2) (fun q => kf _ _ _ _ _ _ (hf.2 q) hM hS hL ho2.2)
  · exact hf.elim
theorem s_icmp_le (h : zC G X Y) {off : Int} {tgt : Nat} (hd : decode Y.2.1 pc = .ok (.if_icmp .le off, 3)) (ht : (pc : Int) + off = (tgt : Int)) (kt : zAt G X Y Q tgt f) (kf : zAt G X Y Q (pc + 3) g) : zAt G X Y Q pc (g_ic (fun x y => x ≤ y) f g) := by
  intro ls st M H locs arr hf hM hS hL hst
  obtain ⟨hx, hb, hml, hown, hts, hr, hlk, hK, hI⟩ := h
  unfold g_ic at hf
  split at hf
  · have ho := List.forall_mem_cons.mp hst
    have ho2 := List.forall_mem_cons.mp ho.2
    exact lv_icmp_le hx hb hd ht (fun q => kt _ _ _ _ _ _ (hf.1 q) hM hS hL ho2.2) (fun q => kf _ _ _ _ _ _ (hf.2 q) hM hS hL ho2.2)
  · exact hf.elim
theorem s_if_ne (h : zC G X Y) {off : Int} {tgt : Nat} (hd : decode Y.2.1 pc = .ok (.ifCond .ne off, 3)) (ht : (pc : Int) + off = (tgt : Int)) (kt : zAt G X Y Q tgt f) (kf : zAt G X Y Q (pc + 3) g) : zAt G X Y Q pc (g_if (fun x => x = 0) g f) := by
  intro ls st M H locs arr hf hM hS hL hst
  obtain ⟨hx, hb, hml, hown, hts, hr, hlk, hK, hI⟩ := h
  unfold g_if at hf
  split at hf
  · have ho := List.forall_mem_cons.mp hst
    exact lv_if_ne hx hb hd ht (fun q => kt _ _ _ _ _ _ (hf.2 q) hM hS hL ho.2) (fun q => kf _ _ _ _ _ _ (hf.1 q) hM hS hL ho.2)
  · exact hf.elim
theorem s_icmp_ne (h : zC G X Y) {off : Int} {tgt : Nat} (hd : decode Y.2.1 pc = .ok (.if_icmp .ne off, 3)) (ht : (pc : Int) + off = (tgt : Int)) (kt : zAt G X Y Q tgt f) (kf : zAt G X Y Q (pc + 3) g) : zAt G X Y Q pc (g_ic (fun x y => x = y) g f) := by
  intro ls st M H locs arr hf hM hS hL hst
  obtain ⟨hx, hb, hml, hown, hts, hr, hlk, hK, hI⟩ := h
  unfold g_ic at hf
  split at hf
  · have ho := List.forall_mem_cons.mp hst
    have ho2 := List.forall_mem_cons.mp ho.2
    exact lv_icmp_ne hx hb hd ht (fun q => kt _ _ _ _ _ _ (hf.2 q) hM hS hL ho2.2) (fun q => kf _ _ _ _ _ _ (hf.1 q) hM hS hL ho2.2)
  · exact hf.elim
theorem s_goto (h : zC G X Y) {off : Int} {tgt : Nat} (hd : decode Y.2.1 pc = .ok (.goto off, 3)) (ht : (pc : Int) + off = (tgt : Int)) (k : zAt G X Y Q tgt f) : zAt G X Y Q pc f := by
  intro ls st M H locs arr hf hM hS hL hst
  obtain ⟨hx, hb, hml, hown, hts, hr, hlk, hK, hI⟩ := h
  exact lv_goto hx hb hd ht (k _ _ _ _ _ _ hf hM hS hL hst)
theorem s_dup (h : zC G X Y) (hd : decode Y.2.1 pc = .ok (.dup, 1)) (k : zAt G X Y Q (pc + 1) f) : zAt G X Y Q pc (g_dup f) := by
  intro ls st M H locs arr hf hM hS hL hst
  obtain ⟨hx, hb, hml, hown, hts, hr, hlk, hK, hI⟩ := h
  unfold g_dup at hf
  split at hf
  · rename_i v r
    cases hz : (zcat v == 1) with
    | false => rw [hz] at hf; exact hf.elim
    | true =>
      rw [hz] at hf
      have ho := List.forall_mem_cons.mp hst
      exact lv_dup hx hb hd (by rw [zcat_cv]; simpa using hz) (k _ _ _ _ _ _ hf hM hS hL (List.forall_mem_cons.mpr ⟨ho.1, hst⟩))
  · exact hf.elim
theorem s_pop (h : zC G X Y) (hd : decode Y.2.1 pc = .ok (.pop, 1)) (k : zAt G X Y Q (pc + 1) f) : zAt G X Y Q pc (g_pop f) := by
  intro ls st M H locs arr hf hM hS hL hst
  obtain ⟨hx, hb, hml, hown, hts, hr, hlk, hK, hI⟩ := h
  unfold g_pop at hf
  split at hf
  · rename_i v r
    cases hz : (zcat v == 1) with
    | false => rw [hz] at hf; exact hf.elim
    | true =>
      rw [hz] at hf
      have ho := List.forall_mem_cons.mp hst
      exact lv_pop hx hb hd (by rw [zcat_cv]; simpa using hz) (k _ _ _ _ _ _ hf hM hS hL ho.2)
  · exact hf.elim
theorem s_dup2 (h : zC G X Y) (hd : decode Y.2.1 pc = .ok (.dup2, 1)) (k : zAt G X Y Q (pc + 1) f) : zAt G X Y Q pc (g_dup2 f) := by
  intro ls st M H locs arr hf hM hS hL hst
  obtain ⟨hx, hb, hml, hown, hts, hr, hlk, hK, hI⟩ := h
  unfold g_dup2 at hf
  split at hf
  · rename_i v u r
    cases hz : (zcat v == 1 && zcat u == 1) with
    | false => rw [hz] at hf; exact hf.elim
    | true =>
      rw [hz] at hf
      have ho := List.forall_mem_cons.mp hst
      have ho2 := List.forall_mem_cons.mp ho.2
      have hz2 := Bool.and_eq_true_iff.mp hz
      exact lv_dup2_11 hx hb hd (by rw [zcat_cv]; simpa using hz2.1) (by rw [zcat_cv]; simpa using hz2.2) (k _ _ _ _ _ _ hf hM hS hL (List.forall_mem_cons.mpr ⟨ho.1, List.forall_mem_cons.mpr ⟨ho2.1, hst⟩⟩))
  · exact hf.elim
-- loops
theorem s_loop {b : zF → zF} (hb : ∀ self, zAt G X Y Q pc self → zAt G X Y Q pc (b self)) : zAt G X Y Q pc (g_loop b) := by
  have key : ∀ n, zAt G X Y Q pc (ziter b n) := by
    intro n
    induction n with
    | zero => intro ls st M H locs arr hf; exact hf.elim
    | succ n ih => exact hb _ ih
  intro ls st M H locs arr hf hM hS hL hst
  obtain ⟨n, hn⟩ := hf
  exact key n ls st M H locs arr hn hM hS hL hst
-- switches
theorem s_swx {sel : Int32 → Nat} (step : ∀ (x : Int32) (H : Heap) (locs : List Loc) (arr : Array Slot) (rest : List Value), zW G X Y H locs Q (zFr X (sel x) arr rest) → zW G X Y H locs Q (zFr X pc arr (.int x :: rest)))
    {d : zF} {dt : Nat} (hd : zAt G X Y Q dt d) : ∀ (cs : List (Int32 × Nat × zF)), (∀ q ∈ cs, sel q.1 = q.2.1 ∧ zAt G X Y Q q.2.1 q.2.2) → ∀ (ls : zL) (st : List zV) (M : zM) (H : Heap) (locs : List Loc) (arr : Array Slot), (∀ x r, st = .inl x :: r → (∀ q ∈ cs, ¬ x = q.1) → sel x = dt) → g_sw cs d ls st M → zRep G M H → va_S (zA G) X.2.2.1.heap H locs → zLc G Y.2.2.1 arr ls → (∀ v ∈ st, zok v) → zW G X Y H locs Q (zFr X pc arr (st.map (zcv G))) := by
  intro cs
  induction cs with
  | nil =>
    intro _ ls st M H locs arr hx hf hM hS hL hst
    unfold g_sw at hf
    split at hf
    · rename_i x r
      refine step x H locs arr (r.map (zcv G)) ?_
      rw [hx x r rfl (fun q h => by cases h)]
      exact hd _ _ _ _ _ _ hf hM hS hL (List.forall_mem_cons.mp hst).2
    · exact hf.elim
  | cons q cs ih =>
    intro hcs ls st M H locs arr hx hf hM hS hL hst
    unfold g_sw at hf
    split at hf
    · rename_i x r
      by_cases e : x = q.1
      · refine step x H locs arr (r.map (zcv G)) ?_
        have hq := hcs q List.mem_cons_self
        rw [e, hq.1]
        exact hq.2 _ _ _ _ _ _ (hf.1 e) hM hS hL (List.forall_mem_cons.mp hst).2
      · exact ih (fun q h => hcs q (List.mem_cons_of_mem _ h)) ls _ M H locs arr (fun x' r' e' h' => hx x' r' e' (fun q2 h2 => by
          rcases List.mem_cons.mp h2 with rfl | h2
          · cases e'; exact e
          · exact h' q2 h2)) (hf.2 e) hM hS hL hst
    · exact hf.elim
def ztsel (pc : Nat) (dflt lo hi : Int) (offs : List Int) (x : Int32) : Nat := if x.toInt < lo ∨ hi < x.toInt then ((pc : Int) + dflt).toNat else ((pc : Int) + offs.getD (x.toInt - lo).toNat dflt).toNat
theorem s_table (h : zC G X Y) {dflt lo hi : Int} {offs : Array Int} {len : Nat} (hdg : decode Y.2.1 pc = .ok (.tableswitch dflt lo hi offs, len)) {cs : List (Int32 × Nat × zF)} {d : zF} {dt : Nat} (ks : List (Int32 × Nat)) (hks : cs.map (fun q => (q.1, q.2.1)) = ks)
    (hck : (hi - lo).toNat < offs.size ∧ (0 ≤ (pc : Int) + dflt ∧ ∀ o ∈ offs.toList, 0 ≤ (pc : Int) + o) ∧ ((pc : Int) + dflt).toNat = dt ∧ (∀ j : Nat, j < offs.size → (ks.getD j (0, 0)).1.toInt = lo + j) ∧ ks.length = offs.size ∧ ∀ q ∈ ks, ztsel pc dflt lo hi offs.toList q.1 = q.2)
    (hd : zAt G X Y Q dt d) (hcs : ∀ q ∈ cs, zAt G X Y Q q.2.1 q.2.2) : zAt G X Y Q pc (g_sw cs d) := by
  intro ls st M H locs arr hf hM hS hL hst
  obtain ⟨hx, hb, hml, hown, hts, hr, hlk, hK, hI⟩ := h
  obtain ⟨hlen, hpos, hdt, hcov, hcl, hsel⟩ := hck
  refine s_swx (sel := ztsel pc dflt lo hi offs.toList) (dt := dt) ?_ hd cs (fun q hq => ⟨hsel (q.1, q.2.1) (by rw [← hks]; exact List.mem_map.mpr ⟨q, hq, rfl⟩), hcs q hq⟩) ls st M H locs arr ?_ hf hM hS hL hst
  · intro x H locs arr rest hk
    by_cases ho : x.toInt < lo ∨ hi < x.toInt
    · refine lv_tableOut (tgt := dt) hx hb hdg ho (by rw [← hdt]; exact (Int.toNat_of_nonneg hpos.1).symm) ?_
      unfold ztsel at hk
      rw [if_pos ho, hdt] at hk
      exact hk
    · have h1 : ¬ x.toInt < lo := fun q => ho (Or.inl q)
      have h2 : ¬ hi < x.toInt := fun q => ho (Or.inr q)
      have hj : (x.toInt - lo).toNat < offs.size := by omega
      have he : offs[(x.toInt - lo).toNat]? = some (offs.toList.getD (x.toInt - lo).toNat dflt) := by
        rw [Array.getElem?_eq_getElem hj]
        congr 1
        rw [List.getD_eq_getElem?_getD, Array.getElem?_toList, Array.getElem?_eq_getElem hj]
        rfl
      have hm : offs.toList.getD (x.toInt - lo).toNat dflt ∈ offs.toList := by
        rw [List.getD_eq_getElem?_getD, Array.getElem?_toList, Array.getElem?_eq_getElem hj]
        exact Array.getElem_mem_toList hj
      refine lv_tableIn (tgt := ztsel pc dflt lo hi offs.toList x) hx hb hdg h1 h2 he ?_ hk
      unfold ztsel
      rw [if_neg ho]
      exact (Int.toNat_of_nonneg (hpos.2 _ hm)).symm
  · intro x r _ hno
    unfold ztsel
    by_cases ho : x.toInt < lo ∨ hi < x.toInt
    · rw [if_pos ho]; exact hdt
    · exfalso
      have hj : (x.toInt - lo).toNat < offs.size := by omega
      have hj2 : (x.toInt - lo).toNat < ks.length := by omega
      have hc := hcov _ hj
      rw [List.getD_eq_getElem?_getD, List.getElem?_eq_getElem hj2] at hc
      have hm : ks[(x.toInt - lo).toNat] ∈ ks := List.getElem_mem hj2
      have hc : (ks[(x.toInt - lo).toNat]).1.toInt = lo + ((x.toInt - lo).toNat : Int) := hc
      generalize ks[(x.toInt - lo).toNat] = z at hm hc
      rw [← hks] at hm
      obtain ⟨q, hq, he⟩ := List.mem_map.mp hm
      refine hno q hq ?_
      apply Int32.toInt_inj.mp
      have e9 : q.1 = z.1 := congrArg Prod.fst he
      rw [e9]
      omega
theorem s_lookup (h : zC G X Y) {dflt : Int} {ps : Array (Int × Int)} {len : Nat} (hdg : decode Y.2.1 pc = .ok (.lookupswitch dflt ps, len)) {cs : List (Int32 × Nat × zF)} {d : zF} {dt : Nat} (ks : List (Int32 × Nat)) (hks : cs.map (fun q => (q.1, q.2.1)) = ks)
    (hck : (ps.toList.zip (ps.toList.drop 1)).all (fun (a, next) => a.1 < next.1) = true ∧ (0 ≤ (pc : Int) + dflt ∧ ∀ o ∈ ps.toList, 0 ≤ (pc : Int) + o.2) ∧ ((pc : Int) + dflt).toNat = dt ∧ ks.map (fun q => (q.1.toInt, (q.2 : Int))) = ps.toList.map (fun o => (o.1, (pc : Int) + o.2)) ∧ ∀ q ∈ ks, ((pc : Int) + Op.lookupswitch.offset ps.toList dflt q.1.toInt).toNat = q.2)
    (hd : zAt G X Y Q dt d) (hcs : ∀ q ∈ cs, zAt G X Y Q q.2.1 q.2.2) : zAt G X Y Q pc (g_sw cs d) := by
  intro ls st M H locs arr hf hM hS hL hst
  obtain ⟨hx, hb, hml, hown, hts, hr, hlk, hK, hI⟩ := h
  obtain ⟨hp, hpos, hdt, hcs0, hsel⟩ := hck
  have hoff : ∀ (L : List (Int × Int)) (z : Int), Op.lookupswitch.offset L dflt z = dflt ∨ ∃ o ∈ L, o.1 = z ∧ Op.lookupswitch.offset L dflt z = o.2 := by
    intro L
    induction L with
    | nil => intro z; left; rfl
    | cons a r ih =>
      intro z
      obtain ⟨a1, a2⟩ := a
      rw [Op.lookupswitch.offset_cons]
      by_cases e : a1 = z
      · right; exact ⟨(a1, a2), List.mem_cons_self, e, by simp [e]⟩
      · rcases ih z with h | ⟨o, h1, h2, h3⟩
        · left; simp [e, h]
        · right; exact ⟨o, List.mem_cons_of_mem _ h1, h2, by simp [e, h3]⟩
  refine s_swx (sel := fun x => ((pc : Int) + Op.lookupswitch.offset ps.toList dflt x.toInt).toNat) (dt := dt) ?_ hd cs (fun q hq => ⟨hsel (q.1, q.2.1) (by rw [← hks]; exact List.mem_map.mpr ⟨q, hq, rfl⟩), hcs q hq⟩) ls st M H locs arr ?_ hf hM hS hL hst
  · intro x H locs arr rest hk
    refine lv_lookup (tgt := ((pc : Int) + Op.lookupswitch.offset ps.toList dflt x.toInt).toNat) hx hb hdg hp rfl ?_ hk
    rcases hoff ps.toList x.toInt with h | ⟨o, h1, h2, h3⟩
    · rw [h]; exact (Int.toNat_of_nonneg hpos.1).symm
    · rw [h3]; exact (Int.toNat_of_nonneg (hpos.2 o h1)).symm
  · intro x r _ hno
    show ((pc : Int) + Op.lookupswitch.offset ps.toList dflt x.toInt).toNat = dt
    rcases hoff ps.toList x.toInt with h | ⟨o, h1, h2, h3⟩
    · rw [h]; exact hdt
    · exfalso
      have hm : (o.1, (pc : Int) + o.2) ∈ ks.map (fun q => (q.1.toInt, (q.2 : Int))) := by rw [hcs0]; exact List.mem_map.mpr ⟨o, h1, rfl⟩
      obtain ⟨q, hq, he⟩ := List.mem_map.mp hm
      have e1 : q.1.toInt = o.1 := congrArg Prod.fst he
      rw [← hks] at hq
      obtain ⟨q2, hq2, he2⟩ := List.mem_map.mp hq
      exact hno q2 hq2 (Int32.toInt_inj.mp (by rw [show q2.1 = q.1 from congrArg Prod.fst he2, e1, h2]))

def zCl (k : Nat) (C : String) (T : u_T) (N : Nat) (ty : Nat → FieldType) : Prop := zsrt k = 0 ∧ zaux k = k ∧ (zt k).2.2.2.2.length = N ∧ classes[k]? = some (C, T, N) ∧ (∀ w ∈ u_ws C T N, w ∈ zgw) ∧ (∀ j, j < N → parseFieldDescriptor (T j).2.2.1 = some (ty j)) ∧ ∀ a, a < N → ∀ b, b < N → a ≠ b → (T a).2.1 ≠ (T b).2.1
theorem zcell_obj {G : zG} {M : zM} {k i : Nat} (hk : zsrt k = 0) : zcell G M k i = .inr (zaux k, (List.range (zt k).2.2.2.2.length).map fun s => zfv G M k i s (zsl k s)) := by
  unfold zcell; rw [hk]; try rfl
theorem zcell_ints {G : zG} {M : zM} {k i : Nat} (hk : zsrt k = 1) : zcell G M k i = .inl (G.2.2.2.1 (zaux k), zlen k, .inl (M.1 k i)) := by
  unfold zcell; rw [hk]; try rfl
theorem zcell_longs {G : zG} {M : zM} {k i : Nat} (hk : zsrt k = 2) : zcell G M k i = .inl (G.2.2.2.1 (zaux k), zlen k, .inr (.inl (M.2.1 k i))) := by
  unfold zcell; rw [hk]; try rfl
theorem zcell_refs {G : zG} {M : zM} {k i : Nat} (hk : zsrt k = 3) : zcell G M k i = .inl (G.2.2.2.1 (zaux k), zlen k, .inr (.inr (.inr (.inr (fun j => some (G.2.2.2.2 (zsl k 0).2.1 ((zsl k 0).2.2.1 * i + (zsl k 0).2.2.2.1 * j + (zsl k 0).2.2.2.2))))))) := by
  unfold zcell; rw [hk]; try rfl
theorem zat1 {G : zG} {M : zM} {H : Heap} {k i : Nat} {e : va_E} (hM : zRep G M H) (hi : i < zcnt k) (he : zcell G M k i = e) : va_P G.2.2.1 classes [(G.2.2.2.2 k i, e)] H := by
  intro j q hq
  have hj : j < 1 := (List.getElem?_eq_some_iff.mp hq).1
  rw [show j = 0 by omega] at hq
  cases hq
  have h9 := hM k i hi
  rw [he] at h9
  exact h9
theorem zgetf (h : zC G X Y) {k s : Nat} {C : String} {T : u_T} {N : Nat} {ty : Nat → FieldType} (hc : zCl k C T N ty) (hs : s < N) {n : Nat} (hl : Cond.fieldLink Y.1 n (T s).1 (T s).2.1 (T s).2.2.1 ∈ zgw) (hd : decode Y.2.1 pc = .ok (.getfield n, 3))
    {M : zM} {H : Heap} {locs : List Loc} {arr : Array Slot} {rest : List Value} {i : Nat} (hM : zRep G M H) (hi : i < zcnt k) (kk : zW G X Y H locs Q (zFr X (pc + 3) arr (zfv G M k i s (zsl k s) :: rest))) : zW G X Y H locs Q (zFr X pc arr (.ref (G.2.2.2.2 k i) :: rest)) := by
  obtain ⟨hx, hb, hml, hown, hts, hr, hlk, hK, hI⟩ := h
  obtain ⟨c1, c2, c3, c4, c5, c6, c7⟩ := hc
  have hP := zat1 hM hi (zcell_obj c1)
  rw [c2, c3] at hP
  refine va_get (D := G.2.2.1) (ci := k) (v := zfv G M k i s (zsl k s)) (C := C) (T := T) (N := N) hx hb hts c5 hown hK.1 hP 0 rfl c4 s hs (hts _ hl) (fun _ h9 => h9) ?_ hd kk
  rw [List.getElem?_map, List.getElem?_range hs]
  rfl
theorem s_gI (h : zC G X Y) {k s : Nat} {C : String} {T : u_T} {N : Nat} {ty : Nat → FieldType} (hc : zCl k C T N ty) (hs : s < N) (hk : (zsl k s).1 = 0 ∨ (zsl k s).1 = 1) {n : Nat} (hl : Cond.fieldLink Y.1 n (T s).1 (T s).2.1 (T s).2.2.1 ∈ zgw) (hd : decode Y.2.1 pc = .ok (.getfield n, 3)) (kk : zAt G X Y Q (pc + 3) f) : zAt G X Y Q pc (g_gI k s f) := by
  intro ls st M H locs arr hf hM hS hL hst
  unfold g_gI at hf
  split at hf
  · rename_i k' i r
    cases hz : (k' == k) with
    | false => rw [hz] at hf; exact hf.elim
    | true =>
      rw [hz] at hf
      have e : k' = k := by simpa using hz
      subst e
      have ho := List.forall_mem_cons.mp hst
      refine zgetf h hc hs hl hd hM ho.1 ?_
      have : zfv G M k' i s (zsl k' s) = .int (M.1 k' i s) := by
        unfold zfv
        rcases hk with e | e <;> rw [e] <;> rfl
      rw [this]
      exact kk _ _ _ _ _ _ hf hM hS hL (List.forall_mem_cons.mpr ⟨trivial, ho.2⟩)
  · exact hf.elim
theorem s_gL (h : zC G X Y) {k s : Nat} {C : String} {T : u_T} {N : Nat} {ty : Nat → FieldType} (hc : zCl k C T N ty) (hs : s < N) (hk : (zsl k s).1 = 2) {n : Nat} (hl : Cond.fieldLink Y.1 n (T s).1 (T s).2.1 (T s).2.2.1 ∈ zgw) (hd : decode Y.2.1 pc = .ok (.getfield n, 3)) (kk : zAt G X Y Q (pc + 3) f) : zAt G X Y Q pc (g_gL k s f) := by
  intro ls st M H locs arr hf hM hS hL hst
  unfold g_gL at hf
  split at hf
  · rename_i k' i r
    cases hz : (k' == k) with
    | false => rw [hz] at hf; exact hf.elim
    | true =>
      rw [hz] at hf
      have e : k' = k := by simpa using hz
      subst e
      have ho := List.forall_mem_cons.mp hst
      refine zgetf h hc hs hl hd hM ho.1 ?_
      have : zfv G M k' i s (zsl k' s) = .long (M.2.1 k' i s) := by
        unfold zfv
        rw [hk]
        try rfl
      rw [this]
      exact kk _ _ _ _ _ _ hf hM hS hL (List.forall_mem_cons.mpr ⟨trivial, ho.2⟩)
  · exact hf.elim
theorem s_gR (h : zC G X Y) {k s tk a c : Nat} {C : String} {T : u_T} {N : Nat} {ty : Nat → FieldType} (hc : zCl k C T N ty) (hs : s < N) (hk : zsl k s = (3, tk, a, 0, c)) (hv : ∀ i, i < zcnt k → a * i + c < zcnt tk) {n : Nat} (hl : Cond.fieldLink Y.1 n (T s).1 (T s).2.1 (T s).2.2.1 ∈ zgw) (hd : decode Y.2.1 pc = .ok (.getfield n, 3)) (kk : zAt G X Y Q (pc + 3) f) : zAt G X Y Q pc (g_gR k s tk a c f) := by
  intro ls st M H locs arr hf hM hS hL hst
  unfold g_gR at hf
  split at hf
  · rename_i k' i r
    cases hz : (k' == k) with
    | false => rw [hz] at hf; exact hf.elim
    | true =>
      rw [hz] at hf
      have e : k' = k := by simpa using hz
      subst e
      have ho := List.forall_mem_cons.mp hst
      refine zgetf h hc hs hl hd hM ho.1 ?_
      have : zfv G M k' i s (zsl k' s) = .ref (G.2.2.2.2 tk (a * i + c)) := by
        unfold zfv
        rw [hk]
        try rfl
      rw [this]
      exact kk _ _ _ _ _ _ hf hM hS hL (List.forall_mem_cons.mpr ⟨hv i ho.1, ho.2⟩)
  · exact hf.elim
theorem s_g1 (h : zC G X Y) {k s tk : Nat} {C : String} {T : u_T} {N : Nat} {ty : Nat → FieldType} (hc : zCl k C T N ty) (hs : s < N) (hk : zsl k s = (3, tk, 1, 0, 0)) (hv : ∀ i, i < zcnt k → 1 * i + 0 < zcnt tk) {n : Nat} (hl : Cond.fieldLink Y.1 n (T s).1 (T s).2.1 (T s).2.2.1 ∈ zgw) (hd : decode Y.2.1 pc = .ok (.getfield n, 3)) (kk : zAt G X Y Q (pc + 3) f) : zAt G X Y Q pc (g_g1 k s tk f) := by
  have e : g_g1 k s tk f = g_gR k s tk 1 0 f := by
    funext ls st M
    unfold g_g1 g_gR
    simp only [Nat.one_mul, Nat.add_zero]
  rw [e]
  exact s_gR h hc hs hk hv hl hd kk
theorem s_g0 (h : zC G X Y) {k s tk c : Nat} {C : String} {T : u_T} {N : Nat} {ty : Nat → FieldType} (hc : zCl k C T N ty) (hs : s < N) (hk : zsl k s = (3, tk, 0, 0, c)) (hv : ∀ i, i < zcnt k → 0 * i + c < zcnt tk) {n : Nat} (hl : Cond.fieldLink Y.1 n (T s).1 (T s).2.1 (T s).2.2.1 ∈ zgw) (hd : decode Y.2.1 pc = .ok (.getfield n, 3)) (kk : zAt G X Y Q (pc + 3) f) : zAt G X Y Q pc (g_g0 k s tk c f) := by
  have e : g_g0 k s tk c f = g_gR k s tk 0 c f := by
    funext ls st M
    unfold g_g0 g_gR
    simp only [Nat.zero_mul, Nat.zero_add]
  rw [e]
  exact s_gR h hc hs hk hv hl hd kk
theorem s_gP (h : zC G X Y) {k s tk : Nat} {C : String} {T : u_T} {N : Nat} {ty : Nat → FieldType} (hc : zCl k C T N ty) (hs : s < N) (hk : zsl k s = (4, tk, 0, 0, 0)) {n : Nat} (hl : Cond.fieldLink Y.1 n (T s).1 (T s).2.1 (T s).2.2.1 ∈ zgw) (hd : decode Y.2.1 pc = .ok (.getfield n, 3)) (kk : zAt G X Y Q (pc + 3) f) : zAt G X Y Q pc (g_gP k s tk f) := by
  intro ls st M H locs arr hf hM hS hL hst
  unfold g_gP at hf
  split at hf
  · rename_i k' i r
    cases hz : (k' == k) with
    | false => rw [hz] at hf; exact hf.elim
    | true =>
      rw [hz] at hf
      have e : k' = k := by simpa using hz
      subst e
      have ho := List.forall_mem_cons.mp hst
      have hf : M.2.2 k' i s < zcnt tk ∧ f ls (.inr (.inr (tk, M.2.2 k' i s)) :: r) M := hf
      refine zgetf h hc hs hl hd hM ho.1 ?_
      have : zfv G M k' i s (zsl k' s) = .ref (G.2.2.2.2 tk (M.2.2 k' i s)) := by
        unfold zfv
        rw [hk]
        exact if_pos hf.1
      rw [this]
      exact kk _ _ _ _ _ _ hf.2 hM hS hL (List.forall_mem_cons.mpr ⟨hf.1, ho.2⟩)
  · exact hf.elim
theorem zputf (h : zC G X Y) {k s : Nat} {C : String} {T : u_T} {N : Nat} {ty : Nat → FieldType} (hc : zCl k C T N ty) (hs : s < N) (hfin : (T s).2.2.2 = false) {n : Nat} (hl : Cond.fieldLink Y.1 n (T s).1 (T s).2.1 (T s).2.2.1 ∈ zgw) (hd : decode Y.2.1 pc = .ok (.putfield n, 3))
    {M M' : zM} {H : Heap} {locs : List Loc} {arr : Array Slot} {rest : List Value} {i : Nat} {v : Value} (hM : zRep G M H) (hS0 : va_S (zA G) X.2.2.1.heap H locs) (hi : i < zcnt k) (hn : narrow (ty s) v = v) (hfit : fits (ty s) v = true) (hv : zfv G M' k i s (zsl k s) = v) (hot : ∀ s', s' ≠ s → zfv G M' k i s' (zsl k s') = zfv G M k i s' (zsl k s')) (hoc : ∀ k' i', i' < zcnt k' → ¬ (k' = k ∧ i' = i) → zcell G M' k' i' = zcell G M k' i')
    (kk : ∀ (H1 : Heap) (locs1 : List Loc), zRep G M' H1 → va_S (zA G) X.2.2.1.heap H1 locs1 → zW G X Y H1 locs1 Q (zFr X (pc + 3) arr rest)) : zW G X Y H locs Q (zFr X pc arr (v :: .ref (G.2.2.2.2 k i) :: rest)) := by
  obtain ⟨hx, hb, hml, hown, hts, hr, hlk, hK, hI⟩ := h
  obtain ⟨c1, c2, c3, c4, c5, c6, c7⟩ := hc
  have hK1 := hK.1
  have hap := va_apart (own := Y.1) hts c5 ty c6 c7 hK1 c4
  have hP := zat1 hM hi (zcell_obj c1)
  rw [c2, c3] at hP
  obtain ⟨r, h1, cell, q1, q2, q3, q4⟩ := hP 0 _ rfl
  have hr : r = (C, T, N) := Option.some.inj (h1.symm.trans c4)
  subst hr
  obtain ⟨hS, hfc, kC, hkC, hkind⟩ := hK1.1 k _ c4
  obtain ⟨cf, kf, fi, f9, hi9, hsl⟩ := hS s hs
  have hlay := hts _ (c5 _ (u_in_lay hs))
  unfold u_lay at hlay
  rw [if_neg (by rw [hfin]; decide)] at hlay
  have hst := (u_facts hfc hkC (u_lays hts c5 hs) hi9).1
  have h6 := u_store hfc hkC hkind hlay hi9 (c6 s hs) hn hfit
  refine W.putK hx hb (f := f9) ⟨hown, hts _ hl, ⟨_, _, _, hi9⟩, hst⟩ (by rw [q2]; exact h6) q1 q3 (by rw [hsl]; exact k2_hasslot (q4 s hs)) rfl rfl hd fun H' e1 e2 e3 => ?_
  rw [hsl] at e1 ⊢
  refine kk H' _ ?_ (hS0.put e2 e3 (hI.2 k i hi))
  intro k' i' hi'
  by_cases e : k' = k ∧ i' = i
  · obtain ⟨rfl, rfl⟩ := e
    rw [zcell_obj c1, c2, c3]
    refine ⟨_, c4, t_OB.to (V := updV (vp_V ((List.range N).map fun s => zfv G M k' i' s (zsl k' s))) s v) ⟨_, e1, q2, q3, t_set q4 hap hs v⟩ (fun j hj => ?_)⟩
    have e9 : ∀ (M9 : zM), vp_V ((List.range N).map fun s => zfv G M9 k' i' s (zsl k' s)) j = zfv G M9 k' i' j (zsl k' j) := by
      intro M9
      unfold vp_V
      rw [List.getD_eq_getElem?_getD, List.getElem?_map, List.getElem?_range hj]
      rfl
    rw [e9]
    unfold updV
    by_cases ej : j = s
    · subst ej
      rw [if_pos rfl]
      exact hv.symm
    · rw [if_neg ej, e9, hot j ej]
  · have hne : G.2.2.2.2 k' i' ≠ G.2.2.2.2 k i := fun q => e (hI.1 k' i' k i hi' hi q)
    rw [hoc k' i' hi' e]
    exact (hM k' i' hi').kept (e3 _ hne)
theorem zfv_sI {G : zG} {M : zM} {k i s : Nat} {v : Int32} {k' i' s' : Nat} {d : zS} (h : ¬ (k' = k ∧ i' = i ∧ s' = s)) : zfv G (zsI M k i s v) k' i' s' d = zfv G M k' i' s' d := by
  unfold zfv zsI
  simp only [if_neg h]
theorem zcell_sI {G : zG} {M : zM} {k i s : Nat} {v : Int32} {k' i' : Nat} (h : ¬ (k' = k ∧ i' = i)) : zcell G (zsI M k i s v) k' i' = zcell G M k' i' := by
  have h1 : ∀ c, ¬ (k' = k ∧ i' = i ∧ c = s) := fun c q => h ⟨q.1, q.2.1⟩
  have h2 : (zsI M k i s v).1 k' i' = M.1 k' i' := by
    funext c
    unfold zsI
    simp only [if_neg (h1 c)]
  unfold zcell
  rw [h2]
  simp only [zfv_sI (h1 _)]
  rfl
theorem zcell_sL {G : zG} {M : zM} {k i s : Nat} {v : Int64} {k' i' : Nat} (h : ¬ (k' = k ∧ i' = i)) : zcell G (zsL M k i s v) k' i' = zcell G M k' i' := by
  have h1 : ∀ c, ¬ (k' = k ∧ i' = i ∧ c = s) := fun c q => h ⟨q.1, q.2.1⟩
  have h2 : (zsL M k i s v).2.1 k' i' = M.2.1 k' i' := by
    funext c
    unfold zsL
    simp only [if_neg (h1 c)]
  have h3 : ∀ c d, zfv G (zsL M k i s v) k' i' c d = zfv G M k' i' c d := fun c d => by
    unfold zfv zsL
    simp only [if_neg (h1 c)]
  unfold zcell
  rw [h2]
  simp only [h3]
  rfl
theorem zcell_sP {G : zG} {M : zM} {k i s : Nat} {v : Nat} {k' i' : Nat} (h : ¬ (k' = k ∧ i' = i)) : zcell G (zsP M k i s v) k' i' = zcell G M k' i' := by
  have h1 : ∀ c, ¬ (k' = k ∧ i' = i ∧ c = s) := fun c q => h ⟨q.1, q.2.1⟩
  have h3 : ∀ c d, zfv G (zsP M k i s v) k' i' c d = zfv G M k' i' c d := fun c d => by
    unfold zfv zsP
    simp only [if_neg (h1 c)]
  unfold zcell
  simp only [h3]
  rfl
theorem s_pI (h : zC G X Y) {k s : Nat} {C : String} {T : u_T} {N : Nat} {ty : Nat → FieldType} (hc : zCl k C T N ty) (hs : s < N) (hk : (zsl k s).1 = 0) (hty : ty s = .int) (hfin : (T s).2.2.2 = false) {n : Nat} (hl : Cond.fieldLink Y.1 n (T s).1 (T s).2.1 (T s).2.2.1 ∈ zgw) (hd : decode Y.2.1 pc = .ok (.putfield n, 3)) (kk : zAt G X Y Q (pc + 3) f) : zAt G X Y Q pc (g_pI k s f) := by
  intro ls st M H locs arr hf hM hS hL hst
  unfold g_pI at hf
  split at hf
  · rename_i v k' i r
    cases hz : (k' == k) with
    | false => rw [hz] at hf; exact hf.elim
    | true =>
      rw [hz] at hf
      have e : k' = k := by simpa using hz
      subst e
      have ho := List.forall_mem_cons.mp hst
      have ho2 := List.forall_mem_cons.mp ho.2
      refine zputf (M' := zsI M k' i s v) h hc hs hfin hl hd hM hS ho2.1 (by rw [hty]; rfl) (by rw [hty]; rfl) ?_ (fun s' e => zfv_sI (fun q => e q.2.2)) (fun k2 i2 _ e => zcell_sI e) (fun H1 locs1 hM1 hS1 => kk _ _ _ _ _ _ hf hM1 hS1 hL ho2.2)
      unfold zfv
      rw [hk]
      simp [zsI, zcv]
  · exact hf.elim
theorem zb_nar {x : Int32} (h : zb x) : narrow .boolean (.int x) = .int x ∧ fits .boolean (.int x) = true := by
  rcases h with rfl | rfl <;> exact ⟨by decide, by decide⟩
theorem s_pZ (h : zC G X Y) {k s : Nat} {C : String} {T : u_T} {N : Nat} {ty : Nat → FieldType} (hc : zCl k C T N ty) (hs : s < N) (hk : (zsl k s).1 = 1) (hty : ty s = .boolean) (hfin : (T s).2.2.2 = false) {n : Nat} (hl : Cond.fieldLink Y.1 n (T s).1 (T s).2.1 (T s).2.2.1 ∈ zgw) (hd : decode Y.2.1 pc = .ok (.putfield n, 3)) (kk : zAt G X Y Q (pc + 3) f) : zAt G X Y Q pc (g_pZ k s f) := by
  intro ls st M H locs arr hf hM hS hL hst
  unfold g_pZ at hf
  split at hf
  · rename_i v k' i r
    cases hz : (k' == k) with
    | false => rw [hz] at hf; exact hf.elim
    | true =>
      rw [hz] at hf
      have e : k' = k := by simpa using hz
      subst e
      have ho := List.forall_mem_cons.mp hst
      have ho2 := List.forall_mem_cons.mp ho.2
      have hf : zb v ∧ f ls r (zsI M k' i s v) := hf
      refine zputf (M' := zsI M k' i s v) h hc hs hfin hl hd hM hS ho2.1 (by rw [hty]; exact (zb_nar hf.1).1) (by rw [hty]; exact (zb_nar hf.1).2) ?_ (fun s' e => zfv_sI (fun q => e q.2.2)) (fun k2 i2 _ e => zcell_sI e) (fun H1 locs1 hM1 hS1 => kk _ _ _ _ _ _ hf.2 hM1 hS1 hL ho2.2)
      unfold zfv
      rw [hk]
      simp [zsI, zcv]
  · exact hf.elim
theorem s_pL (h : zC G X Y) {k s : Nat} {C : String} {T : u_T} {N : Nat} {ty : Nat → FieldType} (hc : zCl k C T N ty) (hs : s < N) (hk : (zsl k s).1 = 2) (hty : ty s = .long) (hfin : (T s).2.2.2 = false) {n : Nat} (hl : Cond.fieldLink Y.1 n (T s).1 (T s).2.1 (T s).2.2.1 ∈ zgw) (hd : decode Y.2.1 pc = .ok (.putfield n, 3)) (kk : zAt G X Y Q (pc + 3) f) : zAt G X Y Q pc (g_pL k s f) := by
  intro ls st M H locs arr hf hM hS hL hst
  unfold g_pL at hf
  split at hf
  · rename_i v k' i r
    cases hz : (k' == k) with
    | false => rw [hz] at hf; exact hf.elim
    | true =>
      rw [hz] at hf
      have e : k' = k := by simpa using hz
      subst e
      have ho := List.forall_mem_cons.mp hst
      have ho2 := List.forall_mem_cons.mp ho.2
      refine zputf (M' := zsL M k' i s v) h hc hs hfin hl hd hM hS ho2.1 (by rw [hty]; rfl) (by rw [hty]; rfl) ?_ (fun s' e => ?_) (fun k2 i2 _ e => zcell_sL e) (fun H1 locs1 hM1 hS1 => kk _ _ _ _ _ _ hf hM1 hS1 hL ho2.2)
      · unfold zfv
        rw [hk]
        simp [zsL, zcv]
      · unfold zfv zsL
        simp only [e, and_false, if_false]
  · exact hf.elim
theorem s_pP (h : zC G X Y) {k s tk : Nat} {C : String} {T : u_T} {N : Nat} {ty : Nat → FieldType} (hc : zCl k C T N ty) (hs : s < N) (hk : zsl k s = (4, tk, 0, 0, 0)) (hty : ∀ a : Nat, narrow (ty s) (.ref a) = .ref a ∧ fits (ty s) (.ref a) = true) (hfin : (T s).2.2.2 = false) {n : Nat} (hl : Cond.fieldLink Y.1 n (T s).1 (T s).2.1 (T s).2.2.1 ∈ zgw) (hd : decode Y.2.1 pc = .ok (.putfield n, 3)) (kk : zAt G X Y Q (pc + 3) f) : zAt G X Y Q pc (g_pP k s tk f) := by
  intro ls st M H locs arr hf hM hS hL hst
  unfold g_pP at hf
  split at hf
  · rename_i k2 j k' i r
    cases hz : (k' == k && k2 == tk) with
    | false => rw [hz] at hf; exact hf.elim
    | true =>
      rw [hz] at hf
      have e := Bool.and_eq_true_iff.mp hz
      have e1 : k' = k := by simpa using e.1
      have e2 : k2 = tk := by simpa using e.2
      subst e1; subst e2
      have ho := List.forall_mem_cons.mp hst
      have ho2 := List.forall_mem_cons.mp ho.2
      have hj : j < zcnt k2 := ho.1
      refine zputf (M' := zsP M k' i s j) h hc hs hfin hl hd hM hS ho2.1 (hty _).1 (hty _).2 ?_ (fun s' e => ?_) (fun k2 i2 _ e => zcell_sP e) (fun H1 locs1 hM1 hS1 => kk _ _ _ _ _ _ hf hM1 hS1 hL ho2.2)
      · unfold zfv
        rw [hk]
        simp only [zsP, and_self, if_true, if_pos hj]
        rfl
      · unfold zfv zsP
        simp only [e, and_false, if_false]
  · exact hf.elim

theorem zin_vp {i : Int32} {n : Nat} (h : zin i n) : vp_in i n := by
  rintro (q | q)
  · have := Int32.lt_iff_toInt_lt.mp q
    have h0 : (0 : Int32).toInt = 0 := rfl
    rw [h0] at this
    exact absurd h.1 (by omega)
  · have h1 := h.1
    have h2 := h.2
    unfold Int32.toNatClampNeg at q
    omega
theorem zKn.ty {G : zG} {U : State} (h : zKn G U) {j : Nat} (hj : j < 8) : ((List.range 8).map fun j => (G.2.2.2.1 j, zty j))[j]? = some (G.2.2.2.1 j, zty j) := by
  rw [List.getElem?_map, List.getElem?_range hj]; rfl
theorem s_arraylength (h : zC G X Y) (hd : decode Y.2.1 pc = .ok (.arraylength, 1)) (hal : ∀ k, zaux k < 8 ∨ zsrt k = 0) (kk : zAt G X Y Q (pc + 1) f) : zAt G X Y Q pc (g_len f) := by
  intro ls st M H locs arr hf hM hS hL hst
  obtain ⟨hx, hb, hml, hown, hts, hr, hlk, hK, hI⟩ := h
  unfold g_len at hf
  split at hf
  · rename_i k i r
    cases hz : (zsrt k == 1 || zsrt k == 2) with
    | false => rw [hz] at hf; exact hf.elim
    | true =>
      rw [hz] at hf
      have ho := List.forall_mem_cons.mp hst
      have hi : i < zcnt k := ho.1
      rcases Bool.or_eq_true_iff.mp hz with e | e
      · have e : zsrt k = 1 := by simpa using e
        have ha : zaux k < 8 := (hal k).resolve_right (by rw [e]; decide)
        exact va_alen hx hb hK.1 (zat1 hM hi (zcell_ints e)) 0 (zaux k) rfl (hK.ty ha) rfl hd (kk _ _ _ _ _ _ hf hM hS hL (List.forall_mem_cons.mpr ⟨trivial, ho.2⟩))
      · have e : zsrt k = 2 := by simpa using e
        have ha : zaux k < 8 := (hal k).resolve_right (by rw [e]; decide)
        exact va_alen hx hb hK.1 (zat1 hM hi (zcell_longs e)) 0 (zaux k) rfl (hK.ty ha) rfl hd (kk _ _ _ _ _ _ hf hM hS hL (List.forall_mem_cons.mpr ⟨trivial, ho.2⟩))
  · exact hf.elim

theorem s_iaload0 (h : zC G X Y) (hd : decode Y.2.1 pc = .ok (.iaload, 1)) (kk : zAt G X Y Q (pc + 1) f) : zAt G X Y Q pc (g_al 0 f) := by
  intro ls st M H locs arr hf hM hS hL hst
  obtain ⟨hx, hb, hml, hown, hts, hr, hlk, hK, hI⟩ := h
  unfold g_al at hf
  split at hf
  · rename_i j k i r
    cases hz : (zsrt k == 1 && zaux k == 0) with
    | false => rw [hz] at hf; exact hf.elim
    | true =>
      rw [hz] at hf
      have hf : zin j (zlen k) ∧ f ls (.inl (M.1 k i j.toNatClampNeg) :: r) M := hf
      have e := Bool.and_eq_true_iff.mp hz
      have e1 : zsrt k = 1 := by simpa using e.1
      have e2 : zaux k = 0 := by simpa using e.2
      have ho := List.forall_mem_cons.mp hst
      have ho2 := List.forall_mem_cons.mp ho.2
      have hP := zat1 hM (i := i) (k := k) ho2.1 (zcell_ints e1)
      rw [e2] at hP
      exact va_iald hx hb hK.1 hP 0 0 rfl (hK.ty (by decide)) (zin_vp hf.1) hd (kk _ _ _ _ _ _ hf.2 hM hS hL (List.forall_mem_cons.mpr ⟨trivial, ho2.2⟩))
  · exact hf.elim
theorem s_baload1 (h : zC G X Y) (hd : decode Y.2.1 pc = .ok (.baload, 1)) (kk : zAt G X Y Q (pc + 1) f) : zAt G X Y Q pc (g_al 1 f) := by
  intro ls st M H locs arr hf hM hS hL hst
  obtain ⟨hx, hb, hml, hown, hts, hr, hlk, hK, hI⟩ := h
  unfold g_al at hf
  split at hf
  · rename_i j k i r
    cases hz : (zsrt k == 1 && zaux k == 1) with
    | false => rw [hz] at hf; exact hf.elim
    | true =>
      rw [hz] at hf
      have hf : zin j (zlen k) ∧ f ls (.inl (M.1 k i j.toNatClampNeg) :: r) M := hf
      have e := Bool.and_eq_true_iff.mp hz
      have e1 : zsrt k = 1 := by simpa using e.1
      have e2 : zaux k = 1 := by simpa using e.2
      have ho := List.forall_mem_cons.mp hst
      have ho2 := List.forall_mem_cons.mp ho.2
      have hP := zat1 hM (i := i) (k := k) ho2.1 (zcell_ints e1)
      rw [e2] at hP
      exact va_bald hx hb hK.1 hP 0 1 rfl (hK.ty (by decide)) (zin_vp hf.1) hd (kk _ _ _ _ _ _ hf.2 hM hS hL (List.forall_mem_cons.mpr ⟨trivial, ho2.2⟩))
  · exact hf.elim
theorem s_baload2 (h : zC G X Y) (hd : decode Y.2.1 pc = .ok (.baload, 1)) (kk : zAt G X Y Q (pc + 1) f) : zAt G X Y Q pc (g_al 2 f) := by
  intro ls st M H locs arr hf hM hS hL hst
  obtain ⟨hx, hb, hml, hown, hts, hr, hlk, hK, hI⟩ := h
  unfold g_al at hf
  split at hf
  · rename_i j k i r
    cases hz : (zsrt k == 1 && zaux k == 2) with
    | false => rw [hz] at hf; exact hf.elim
    | true =>
      rw [hz] at hf
      have hf : zin j (zlen k) ∧ f ls (.inl (M.1 k i j.toNatClampNeg) :: r) M := hf
      have e := Bool.and_eq_true_iff.mp hz
      have e1 : zsrt k = 1 := by simpa using e.1
      have e2 : zaux k = 2 := by simpa using e.2
      have ho := List.forall_mem_cons.mp hst
      have ho2 := List.forall_mem_cons.mp ho.2
      have hP := zat1 hM (i := i) (k := k) ho2.1 (zcell_ints e1)
      rw [e2] at hP
      exact va_zald hx hb hK.1 hP 0 2 rfl (hK.ty (by decide)) (zin_vp hf.1) hd (kk _ _ _ _ _ _ hf.2 hM hS hL (List.forall_mem_cons.mpr ⟨trivial, ho2.2⟩))
  · exact hf.elim
theorem s_laload (h : zC G X Y) (hd : decode Y.2.1 pc = .ok (.laload, 1)) (kk : zAt G X Y Q (pc + 1) f) : zAt G X Y Q pc (g_all f) := by
  intro ls st M H locs arr hf hM hS hL hst
  obtain ⟨hx, hb, hml, hown, hts, hr, hlk, hK, hI⟩ := h
  unfold g_all at hf
  split at hf
  · rename_i j k i r
    cases hz : (zsrt k == 2 && zaux k == 3) with
    | false => rw [hz] at hf; exact hf.elim
    | true =>
      rw [hz] at hf
      have hf : zin j (zlen k) ∧ f ls (.inr (.inl (M.2.1 k i j.toNatClampNeg)) :: r) M := hf
      have e := Bool.and_eq_true_iff.mp hz
      have e1 : zsrt k = 2 := by simpa using e.1
      have e2 : zaux k = 3 := by simpa using e.2
      have ho := List.forall_mem_cons.mp hst
      have ho2 := List.forall_mem_cons.mp ho.2
      have hP := zat1 hM (i := i) (k := k) ho2.1 (zcell_longs e1)
      rw [e2] at hP
      exact va_lald hx hb hK.1 hP 0 3 rfl (hK.ty (by decide)) (zin_vp hf.1) hd (kk _ _ _ _ _ _ hf.2 hM hS hL (List.forall_mem_cons.mpr ⟨trivial, ho2.2⟩))
  · exact hf.elim
theorem s_aaload (h : zC G X Y) {k t tk per : Nat} {C : String} (ht : t < 8) (hC : zty t = .object C) (hk : zsrt k = 3 ∧ zaux k = t ∧ zsl k 0 = (3, tk, per, 1, 0)) (hv : ∀ i, i < zcnt k → ∀ j, j < zlen k → per * i + j < zcnt tk) (hd : decode Y.2.1 pc = .ok (.aaload, 1)) (kk : zAt G X Y Q (pc + 1) f) : zAt G X Y Q pc (g_alr k tk per f) := by
  intro ls st M H locs arr hf hM hS hL hst
  obtain ⟨hx, hb, hml, hown, hts, hr, hlk, hK, hI⟩ := h
  obtain ⟨e1, e2, e4⟩ := hk
  unfold g_alr at hf
  split at hf
  · rename_i j k' i r
    cases hz : (k' == k) with
    | false => rw [hz] at hf; exact hf.elim
    | true =>
      rw [hz] at hf
      have hf : zin j (zlen k) ∧ f ls (.inr (.inr (tk, per * i + j.toNatClampNeg)) :: r) M := hf
      have e3 : k' = k := by simpa using hz
      subst e3
      have ho := List.forall_mem_cons.mp hst
      have ho2 := List.forall_mem_cons.mp ho.2
      have hP := zat1 hM (i := i) (k := k') ho2.1 (zcell_refs e1)
      rw [e2, e4] at hP
      simp only [Nat.one_mul, Nat.add_zero] at hP
      have hj : j.toNatClampNeg < zlen k' := by
        have h1 := hf.1.1
        have h2 := hf.1.2
        unfold Int32.toNatClampNeg
        omega
      have ht2 := hK.ty ht
      rw [hC] at ht2
      exact va_aldq hx hb hK.1 hP 0 t rfl ht2 (zin_vp hf.1) hd (kk _ _ _ _ _ _ hf.2 hM hS hL (List.forall_mem_cons.mpr ⟨hv i ho2.1 _ hj, ho2.2⟩))
  · exact hf.elim
theorem zarr_put {M M' : zM} {H H1 : Heap} {k i : Nat} (hI : zInj G) (hM : zRep G M H) (hi : i < zcnt k) (hoc : ∀ k' i', i' < zcnt k' → ¬ (k' = k ∧ i' = i) → zcell G M' k' i' = zcell G M k' i') (h1 : va_at G.2.2.1 classes (G.2.2.2.2 k i, zcell G M' k i) H1) (e3 : ∀ q, q ≠ G.2.2.2.2 k i → H1[q]? = H[q]?) : zRep G M' H1 := by
  intro k' i' hi'
  by_cases e : k' = k ∧ i' = i
  · obtain ⟨rfl, rfl⟩ := e
    exact h1
  · have hne : G.2.2.2.2 k' i' ≠ G.2.2.2.2 k i := fun q => e (hI.1 k' i' k i hi' hi q)
    rw [hoc k' i' hi' e]
    exact (hM k' i' hi').kept (e3 _ hne)

theorem s_iastore0 (h : zC G X Y) (hd : decode Y.2.1 pc = .ok (.iastore, 1)) (kk : zAt G X Y Q (pc + 1) f) : zAt G X Y Q pc (g_as 0 (fun x => x) f) := by
  intro ls st M H locs arr hf hM hS hL hst
  obtain ⟨hx, hb, hml, hown, hts, hr, hlk, hK, hI⟩ := h
  unfold g_as at hf
  split at hf
  · rename_i x j k i r
    cases hz : (zsrt k == 1 && zaux k == 0) with
    | false => rw [hz] at hf; exact hf.elim
    | true =>
      rw [hz] at hf
      have hf : zin j (zlen k) ∧ f ls r (zsI M k i j.toNatClampNeg (x)) := hf
      have e := Bool.and_eq_true_iff.mp hz
      have e1 : zsrt k = 1 := by simpa using e.1
      have e2 : zaux k = 0 := by simpa using e.2
      have ho := List.forall_mem_cons.mp hst
      have ho2 := List.forall_mem_cons.mp ho.2
      have ho3 := List.forall_mem_cons.mp ho2.2
      have hi : i < zcnt k := ho3.1
      have hP : H[G.2.2.2.2 k i]? = some (vp_cell (G.2.2.2.1 0) (zlen k, .inl (M.1 k i))) := by
        have h9 := hM k i hi
        rw [zcell_ints e1, e2] at h9
        exact h9
      have hin := zin_vp hf.1
      refine W.iast hx hb hP ((hK.1.2 0 _ (hK.ty (by decide))).1 (zlen k) (fun j => .int (M.1 k i j))) (fun q => by cases q) (by show ¬ (j < 0 ∨ (arrV _ _ _).slots.size ≤ _); rw [arrV_size]; exact hin) rfl rfl hd fun H1 e z oq => ?_
      refine kk _ _ _ _ _ _ hf.2 (zarr_put hI hM hi (fun k' i' _ q => zcell_sI q) ?_ oq) (hS.put z oq (hI.2 k i hi)) hL ho3.2
      rw [zcell_ints e1, e2]
      show H1[_]? = some (vp_cell _ _)
      rw [e, vp_cell_i, vp_cell_i, arrV_store]
      congr 2
      funext q
      by_cases hq : q = j.toNatClampNeg
      · subst hq
        simp [updV, zsI, vp_nar, narrow]
      · simp [updV, zsI, hq]
  · exact hf.elim
theorem s_bastore1 (h : zC G X Y) (hd : decode Y.2.1 pc = .ok (.bastore, 1)) (kk : zAt G X Y Q (pc + 1) f) : zAt G X Y Q pc (g_as 1 (fun x => vp_nar .byte x) f) := by
  intro ls st M H locs arr hf hM hS hL hst
  obtain ⟨hx, hb, hml, hown, hts, hr, hlk, hK, hI⟩ := h
  unfold g_as at hf
  split at hf
  · rename_i x j k i r
    cases hz : (zsrt k == 1 && zaux k == 1) with
    | false => rw [hz] at hf; exact hf.elim
    | true =>
      rw [hz] at hf
      have hf : zin j (zlen k) ∧ f ls r (zsI M k i j.toNatClampNeg (vp_nar .byte x)) := hf
      have e := Bool.and_eq_true_iff.mp hz
      have e1 : zsrt k = 1 := by simpa using e.1
      have e2 : zaux k = 1 := by simpa using e.2
      have ho := List.forall_mem_cons.mp hst
      have ho2 := List.forall_mem_cons.mp ho.2
      have ho3 := List.forall_mem_cons.mp ho2.2
      have hi : i < zcnt k := ho3.1
      have hP : H[G.2.2.2.2 k i]? = some (vp_cell (G.2.2.2.1 1) (zlen k, .inl (M.1 k i))) := by
        have h9 := hM k i hi
        rw [zcell_ints e1, e2] at h9
        exact h9
      have hin := zin_vp hf.1
      refine W.bast hx hb hP ((hK.1.2 1 _ (hK.ty (by decide))).1 (zlen k) (fun j => .int (M.1 k i j))) (fun q => by cases q) (by show ¬ (j < 0 ∨ (arrV _ _ _).slots.size ≤ _); rw [arrV_size]; exact hin) rfl rfl hd fun H1 e z oq => ?_
      refine kk _ _ _ _ _ _ hf.2 (zarr_put hI hM hi (fun k' i' _ q => zcell_sI q) ?_ oq) (hS.put z oq (hI.2 k i hi)) hL ho3.2
      rw [zcell_ints e1, e2]
      show H1[_]? = some (vp_cell _ _)
      rw [e, vp_cell_i, vp_cell_i, arrV_store]
      congr 2
      funext q
      by_cases hq : q = j.toNatClampNeg
      · subst hq
        simp [updV, zsI, vp_nar, narrow]
      · simp [updV, zsI, hq]
  · exact hf.elim
theorem s_bastore2 (h : zC G X Y) (hd : decode Y.2.1 pc = .ok (.bastore, 1)) (kk : zAt G X Y Q (pc + 1) f) : zAt G X Y Q pc (g_as 2 (fun x => vp_nar .boolean x) f) := by
  intro ls st M H locs arr hf hM hS hL hst
  obtain ⟨hx, hb, hml, hown, hts, hr, hlk, hK, hI⟩ := h
  unfold g_as at hf
  split at hf
  · rename_i x j k i r
    cases hz : (zsrt k == 1 && zaux k == 2) with
    | false => rw [hz] at hf; exact hf.elim
    | true =>
      rw [hz] at hf
      have hf : zin j (zlen k) ∧ f ls r (zsI M k i j.toNatClampNeg (vp_nar .boolean x)) := hf
      have e := Bool.and_eq_true_iff.mp hz
      have e1 : zsrt k = 1 := by simpa using e.1
      have e2 : zaux k = 2 := by simpa using e.2
      have ho := List.forall_mem_cons.mp hst
      have ho2 := List.forall_mem_cons.mp ho.2
      have ho3 := List.forall_mem_cons.mp ho2.2
      have hi : i < zcnt k := ho3.1
      have hP : H[G.2.2.2.2 k i]? = some (vp_cell (G.2.2.2.1 2) (zlen k, .inl (M.1 k i))) := by
        have h9 := hM k i hi
        rw [zcell_ints e1, e2] at h9
        exact h9
      have hin := zin_vp hf.1
      refine W.zast hx hb hP ((hK.1.2 2 _ (hK.ty (by decide))).1 (zlen k) (fun j => .int (M.1 k i j))) (fun q => by cases q) (by show ¬ (j < 0 ∨ (arrV _ _ _).slots.size ≤ _); rw [arrV_size]; exact hin) rfl rfl hd fun H1 e z oq => ?_
      refine kk _ _ _ _ _ _ hf.2 (zarr_put hI hM hi (fun k' i' _ q => zcell_sI q) ?_ oq) (hS.put z oq (hI.2 k i hi)) hL ho3.2
      rw [zcell_ints e1, e2]
      show H1[_]? = some (vp_cell _ _)
      rw [e, vp_cell_i, vp_cell_i, arrV_store]
      congr 2
      funext q
      by_cases hq : q = j.toNatClampNeg
      · subst hq
        simp [updV, zsI, vp_nar, narrow]
      · simp [updV, zsI, hq]
  · exact hf.elim
theorem s_lastore (h : zC G X Y) (hd : decode Y.2.1 pc = .ok (.lastore, 1)) (kk : zAt G X Y Q (pc + 1) f) : zAt G X Y Q pc (g_asl f) := by
  intro ls st M H locs arr hf hM hS hL hst
  obtain ⟨hx, hb, hml, hown, hts, hr, hlk, hK, hI⟩ := h
  unfold g_asl at hf
  split at hf
  · rename_i x j k i r
    cases hz : (zsrt k == 2 && zaux k == 3) with
    | false => rw [hz] at hf; exact hf.elim
    | true =>
      rw [hz] at hf
      have hf : zin j (zlen k) ∧ f ls r (zsL M k i j.toNatClampNeg x) := hf
      have e := Bool.and_eq_true_iff.mp hz
      have e1 : zsrt k = 2 := by simpa using e.1
      have e2 : zaux k = 3 := by simpa using e.2
      have ho := List.forall_mem_cons.mp hst
      have ho2 := List.forall_mem_cons.mp ho.2
      have ho3 := List.forall_mem_cons.mp ho2.2
      have hi : i < zcnt k := ho3.1
      have hP : H[G.2.2.2.2 k i]? = some (vp_cell (G.2.2.2.1 3) (zlen k, .inr (.inl (M.2.1 k i)))) := by
        have h9 := hM k i hi
        rw [zcell_longs e1, e2] at h9
        exact h9
      have hin := zin_vp hf.1
      refine W.last hx hb hP ((hK.1.2 3 _ (hK.ty (by decide))).1 (zlen k) (fun j => .long (M.2.1 k i j))) (fun q => by cases q) (by show ¬ (j < 0 ∨ (arrV _ _ _).slots.size ≤ _); rw [arrV_size]; exact hin) rfl rfl hd fun H1 e z oq => ?_
      refine kk _ _ _ _ _ _ hf.2 (zarr_put hI hM hi (fun k' i' _ q => zcell_sL q) ?_ oq) (hS.put z oq (hI.2 k i hi)) hL ho3.2
      rw [zcell_longs e1, e2]
      show H1[_]? = some (vp_cell _ _)
      rw [e, vp_cell_l, vp_cell_l, arrV_store]
      congr 2
      funext q
      by_cases hq : q = j.toNatClampNeg
      · subst hq
        simp [updV, zsL]
      · simp [updV, zsL, hq]
  · exact hf.elim
-- Math: its own static methods
theorem zsum_le {G : zG} {r : List zV} (h : Nat.ble ((r.map zcat).sum) 8 = true) : ((r.map (zcv G)).map fun v => v.category).sum ≤ 8 := by
  rw [List.map_map, show ((fun v : Value => v.category) ∘ zcv G) = zcat from funext (zcat_cv G)]
  exact Nat.le_of_ble_eq_true h
def zMw (own : String) (n : Nat) (y : MethodName) (c : ByteArray) (nl : Nat) (ret : Option FieldType) : Prop := Cond.methodLink own n y ∈ zgw ∧ Cond.static y ∈ zgw ∧ Cond.initialized "java/lang/Math" ∈ zgw ∧ Cond.code y c nl ret ∈ zgw

theorem s_max (h : zC G X Y) {n : Nat} (hw : zMw Y.1 n Lib.Math.max.name Lib.Math.max.code 2 (some .int)) (hfr : 1 ≤ Y.2.2.2.2.frames) (hlo : 8 + 13 ≤ Y.2.2.2.2.locals) (hd : decode Y.2.1 pc = .ok (.invokestatic n, 3)) (kk : zAt G X Y Q (pc + 3) f) : zAt G X Y Q pc (g_m2 (fun x y => if x < y then y else x) f) := by
  intro ls st M H locs arr hf hM hS hL hst
  obtain ⟨hx, hb, hml, hown, hts, hr, hlk, hK, hI⟩ := h
  unfold g_m2 at hf
  split at hf
  · rename_i y x r
    cases hz : Nat.ble ((r.map zcat).sum) 8 with
    | false => rw [hz] at hf; exact hf.elim
    | true =>
      rw [hz] at hf
      have ho := List.forall_mem_cons.mp hst
      have ho2 := List.forall_mem_cons.mp ho.2
      have hsum := zsum_le (G := G) hz
      exact va_mmax hx hb (by rw [hml]; exact hL.1.1.symm) hown (hts _ hw.1) (hts _ hw.2.1) (hts _ hw.2.2.1) (hts _ hw.2.2.2) hfr (Nat.le_trans (Nat.add_le_add_right hsum _) hlo) (Nat.zero_le _) (Nat.zero_le _) hd (kk _ _ _ _ _ _ hf hM hS hL (List.forall_mem_cons.mpr ⟨trivial, ho2.2⟩))
  · exact hf.elim
theorem s_min (h : zC G X Y) {n : Nat} (hw : zMw Y.1 n Lib.Math.min.name Lib.Math.min.code 2 (some .int)) (hfr : 1 ≤ Y.2.2.2.2.frames) (hlo : 8 + 13 ≤ Y.2.2.2.2.locals) (hd : decode Y.2.1 pc = .ok (.invokestatic n, 3)) (kk : zAt G X Y Q (pc + 3) f) : zAt G X Y Q pc (g_m2 (fun x y => if y < x then y else x) f) := by
  intro ls st M H locs arr hf hM hS hL hst
  obtain ⟨hx, hb, hml, hown, hts, hr, hlk, hK, hI⟩ := h
  unfold g_m2 at hf
  split at hf
  · rename_i y x r
    cases hz : Nat.ble ((r.map zcat).sum) 8 with
    | false => rw [hz] at hf; exact hf.elim
    | true =>
      rw [hz] at hf
      have ho := List.forall_mem_cons.mp hst
      have ho2 := List.forall_mem_cons.mp ho.2
      have hsum := zsum_le (G := G) hz
      exact va_mmin hx hb (by rw [hml]; exact hL.1.1.symm) hown (hts _ hw.1) (hts _ hw.2.1) (hts _ hw.2.2.1) (hts _ hw.2.2.2) hfr (Nat.le_trans (Nat.add_le_add_right hsum _) hlo) (Nat.zero_le _) (Nat.zero_le _) hd (kk _ _ _ _ _ _ hf hM hS hL (List.forall_mem_cons.mpr ⟨trivial, ho2.2⟩))
  · exact hf.elim
theorem s_abs (h : zC G X Y) {n : Nat} (hw : zMw Y.1 n Lib.Math.abs.name Lib.Math.abs.code 1 (some .int)) (hfr : 1 ≤ Y.2.2.2.2.frames) (hlo : 8 + 13 ≤ Y.2.2.2.2.locals) (hd : decode Y.2.1 pc = .ok (.invokestatic n, 3)) (kk : zAt G X Y Q (pc + 3) f) : zAt G X Y Q pc (g_m1 (fun x => if 0 ≤ x then x else 0 - x) f) := by
  intro ls st M H locs arr hf hM hS hL hst
  obtain ⟨hx, hb, hml, hown, hts, hr, hlk, hK, hI⟩ := h
  unfold g_m1 at hf
  split at hf
  · rename_i x r
    cases hz : Nat.ble ((r.map zcat).sum) 8 with
    | false => rw [hz] at hf; exact hf.elim
    | true =>
      rw [hz] at hf
      have ho2 := List.forall_mem_cons.mp hst
      have hsum := zsum_le (G := G) hz
      exact va_mabs hx hb (by rw [hml]; exact hL.1.1.symm) hown (hts _ hw.1) (hts _ hw.2.1) (hts _ hw.2.2.1) (hts _ hw.2.2.2) hfr (Nat.le_trans (Nat.add_le_add_right hsum _) hlo) (Nat.zero_le _) (Nat.zero_le _) hd (kk _ _ _ _ _ _ hf hM hS hL (List.forall_mem_cons.mpr ⟨trivial, ho2.2⟩))
  · exact hf.elim
theorem s_maxl (h : zC G X Y) {n : Nat} (hw : zMw Y.1 n Lib.MathLoose.max_long.x Lib.MathLoose.max_long.code 4 (some .long)) (hfr : 1 ≤ Y.2.2.2.2.frames) (hlo : 8 + 15 ≤ Y.2.2.2.2.locals) (hd : decode Y.2.1 pc = .ok (.invokestatic n, 3)) (kk : zAt G X Y Q (pc + 3) f) : zAt G X Y Q pc (g_m2l (fun x y => if y < x then x else y) f) := by
  intro ls st M H locs arr hf hM hS hL hst
  obtain ⟨hx, hb, hml, hown, hts, hr, hlk, hK, hI⟩ := h
  unfold g_m2l at hf
  split at hf
  · rename_i y x r
    cases hz : Nat.ble ((r.map zcat).sum) 8 with
    | false => rw [hz] at hf; exact hf.elim
    | true =>
      rw [hz] at hf
      have ho := List.forall_mem_cons.mp hst
      have ho2 := List.forall_mem_cons.mp ho.2
      have hsum := zsum_le (G := G) hz
      exact va_mmax_long hx hb (by rw [hml]; exact hL.1.1.symm) hown (hts _ hw.1) (hts _ hw.2.1) (hts _ hw.2.2.1) (hts _ hw.2.2.2) hfr (Nat.le_trans (Nat.add_le_add_right hsum _) hlo) (Nat.zero_le _) (Nat.zero_le _) hd (kk _ _ _ _ _ _ hf hM hS hL (List.forall_mem_cons.mpr ⟨trivial, ho2.2⟩))
  · exact hf.elim
theorem s_minl (h : zC G X Y) {n : Nat} (hw : zMw Y.1 n Lib.MathLoose.min_long.x Lib.MathLoose.min_long.code 4 (some .long)) (hfr : 1 ≤ Y.2.2.2.2.frames) (hlo : 8 + 15 ≤ Y.2.2.2.2.locals) (hd : decode Y.2.1 pc = .ok (.invokestatic n, 3)) (kk : zAt G X Y Q (pc + 3) f) : zAt G X Y Q pc (g_m2l (fun x y => if y < x then y else x) f) := by
  intro ls st M H locs arr hf hM hS hL hst
  obtain ⟨hx, hb, hml, hown, hts, hr, hlk, hK, hI⟩ := h
  unfold g_m2l at hf
  split at hf
  · rename_i y x r
    cases hz : Nat.ble ((r.map zcat).sum) 8 with
    | false => rw [hz] at hf; exact hf.elim
    | true =>
      rw [hz] at hf
      have ho := List.forall_mem_cons.mp hst
      have ho2 := List.forall_mem_cons.mp ho.2
      have hsum := zsum_le (G := G) hz
      exact va_mmin_long hx hb (by rw [hml]; exact hL.1.1.symm) hown (hts _ hw.1) (hts _ hw.2.1) (hts _ hw.2.2.1) (hts _ hw.2.2.2) hfr (Nat.le_trans (Nat.add_le_add_right hsum _) hlo) (Nat.zero_le _) (Nat.zero_le _) hd (kk _ _ _ _ _ _ hf hM hS hL (List.forall_mem_cons.mpr ⟨trivial, ho2.2⟩))
  · exact hf.elim
theorem s_absl (h : zC G X Y) {n : Nat} (hw : zMw Y.1 n Lib.MathLoose.abs_long.x Lib.MathLoose.abs_long.code 2 (some .long)) (hfr : 1 ≤ Y.2.2.2.2.frames) (hlo : 8 + 13 ≤ Y.2.2.2.2.locals) (hd : decode Y.2.1 pc = .ok (.invokestatic n, 3)) (kk : zAt G X Y Q (pc + 3) f) : zAt G X Y Q pc (g_m1l (fun x => if 0 < x then x else -x) f) := by
  intro ls st M H locs arr hf hM hS hL hst
  obtain ⟨hx, hb, hml, hown, hts, hr, hlk, hK, hI⟩ := h
  unfold g_m1l at hf
  split at hf
  · rename_i x r
    cases hz : Nat.ble ((r.map zcat).sum) 8 with
    | false => rw [hz] at hf; exact hf.elim
    | true =>
      rw [hz] at hf
      have ho2 := List.forall_mem_cons.mp hst
      have hsum := zsum_le (G := G) hz
      exact va_mabs_long hx hb (by rw [hml]; exact hL.1.1.symm) hown (hts _ hw.1) (hts _ hw.2.1) (hts _ hw.2.2.1) (hts _ hw.2.2.2) hfr (Nat.le_trans (Nat.add_le_add_right hsum _) hlo) (Nat.zero_le _) (Nat.zero_le _) hd (kk _ _ _ _ _ _ hf hM hS hL (List.forall_mem_cons.mpr ⟨trivial, ho2.2⟩))
  · exact hf.elim
end ZS
def zws (y : MethodName) (Y : zY) : List Cond := Cond.code y Y.2.1 Y.2.2.1 Y.2.2.2.1 :: zgw
def zPre (G : zG) (as : List zV) (M : zM) : Array Value → State → Prop := fun v U => v = (as.map (zcv G)).toArray ∧ zRep G M U.heap ∧ zKn G U
def zPost (G : zG) (K : zQ) : Array Value → State → Outcome → State → Prop := fun _ st oc t => (∃ (r : List zV) (M : zM), oc = .returned ((r.map (zcv G)).head?) ∧ r.length ≤ 1 ∧ K r M ∧ zRep G M t.heap ∧ ∀ v ∈ r, zok v) ∧ va_F (zA G) st t
def zMet (G : zG) (y : MethodName) (Y : zY) (m : zQ → List zV → zM → Prop) : Prop := ∀ (K : zQ) (as : List zV) (M : zM), m K as M → (∀ v ∈ as, zok v) → zInj G → Met G.1 y (zws y Y) Y.2.2.2.2 (zPre G as M) (zPost G K) 0 0 (zA G)
abbrev zMQ (G : zG) (X : zX) (K : zQ) : State → Prop := MQ X.2.2.2.2.2.1 (zPost G K) X.2.2.2.2.1 X.2.2.1 0 0 (zA G)
theorem zKn.warm {G : zG} {s U : State} (hW : s.WarmedH U.vm) (h : zKn G s) : zKn G U := ⟨va_K.moved hW.alike h.1, fun w hw => by
  have h2 := h.2 w hw
  rw [List.mem_singleton.mp hw] at h2 ⊢
  exact va_Nw.warmM hW h2⟩
theorem zKn.same {G : zG} {s U : State} (hv : s.vm = U.vm) (h : zKn G s) : zKn G U := ⟨va_K.moved (by rw [hv]; exact Vm.Alike.refl U.vm) h.1, fun w hw => by
  have h2 := h.2 w hw
  rw [List.mem_singleton.mp hw] at h2 ⊢
  exact va_Nw.same rfl hv h2⟩
theorem zPre_blind {G : zG} {as : List zV} {M : zM} : FrameBlind (zPre G as M) := fun a U g mk q => ⟨q.1, q.2.1, zKn.same (s := U) rfl q.2.2⟩
section ZE
variable {G : zG} {X : zX} {Y : zY} {K : zQ} {pc : Nat}
theorem s_ireturn (h : zC G X Y) (hty : Y.2.2.2.1 = some .int) (hd : decode Y.2.1 pc = .ok (.ireturn, 1)) : zAt G X Y (zMQ G X K) pc (g_ri K) := by
  intro ls st M H locs arr hf hM hS hL hst
  obtain ⟨hx, hb, hml, hown, hts, hr, hlk, hK, hI⟩ := h
  unfold g_ri at hf
  split at hf
  · rename_i x
    exact W.iret hx hb (by rw [hr, hty]) (fun t ht hW => ⟨⟨[.inl x], M, rfl, Nat.le_refl 1, hf, by rw [ht]; exact hM, fun v hv => by rw [List.mem_singleton.mp hv]; trivial⟩, hS.F ht⟩) hS.2.2 hd hlk
  · exact hf.elim
theorem s_zreturn (h : zC G X Y) (hty : Y.2.2.2.1 = some .boolean) (hd : decode Y.2.1 pc = .ok (.ireturn, 1)) : zAt G X Y (zMQ G X K) pc (g_rz K) := by
  intro ls st M H locs arr hf hM hS hL hst
  obtain ⟨hx, hb, hml, hown, hts, hr, hlk, hK, hI⟩ := h
  unfold g_rz at hf
  split at hf
  · rename_i x
    exact W.zret (ty := .boolean) hx hb (by rw [hr, hty]) (zb_nar hf.1).1 (fun t ht hW => ⟨⟨[.inl x], M, rfl, Nat.le_refl 1, hf.2, by rw [ht]; exact hM, fun v hv => by rw [List.mem_singleton.mp hv]; trivial⟩, hS.F ht⟩) hS.2.2 hd hlk
  · exact hf.elim
theorem s_lreturn (h : zC G X Y) (hty : Y.2.2.2.1 = some .long) (hd : decode Y.2.1 pc = .ok (.lreturn, 1)) : zAt G X Y (zMQ G X K) pc (g_rl K) := by
  intro ls st M H locs arr hf hM hS hL hst
  obtain ⟨hx, hb, hml, hown, hts, hr, hlk, hK, hI⟩ := h
  unfold g_rl at hf
  split at hf
  · rename_i x
    exact W.lret hx hb (by rw [hr, hty]) (fun t ht hW => ⟨⟨[.inr (.inl x)], M, rfl, Nat.le_refl 1, hf, by rw [ht]; exact hM, fun v hv => by rw [List.mem_singleton.mp hv]; trivial⟩, hS.F ht⟩) hS.2.2 hd hlk
  · exact hf.elim
theorem s_return (h : zC G X Y) (hty : Y.2.2.2.1 = none) (hd : decode Y.2.1 pc = .ok (.return_, 1)) : zAt G X Y (zMQ G X K) pc (g_rv K) := by
  intro ls st M H locs arr hf hM hS hL hst
  obtain ⟨hx, hb, hml, hown, hts, hr, hlk, hK, hI⟩ := h
  unfold g_rv at hf
  split at hf
  · exact W.vret hx hb (by rw [hr, hty]) (fun t ht hW => ⟨⟨[], M, rfl, Nat.zero_le 1, hf, by rw [ht]; exact hM, fun v hv => by cases hv⟩, hS.F ht⟩) hS.2.2 hd hlk
  · exact hf.elim
end ZE
section ZS2
variable {G : zG} {X : zX} {Y : zY} {Q : State → Prop} {pc : Nat} {f g : zF}
theorem zrun {H : Heap} {locs : List Loc} {arr : Array Slot} {st0 rest : List Value} {K : zQ} {a : Array Value} {rs : List zV} (hrs : rest = rs.map (zcv G)) (hr : va_Run X.1 G.1 X.2.1 Y.2.2.2.2 X.2.2.1 X.2.2.2.1 X.2.2.2.2.1 X.2.2.2.2.2.1 X.2.2.2.2.2.2.1 X.2.2.2.2.2.2.2 H locs 0 0 0 0 (zFr X pc arr st0) rest (zPost G K a) (zA G)) (hS : va_S (zA G) X.2.2.1.heap H locs)
    (kk : ∀ (r : List zV) (M : zM) (H1 : Heap) (locs1 : List Loc), K r M → zRep G M H1 → (∀ v ∈ r, zok v) → va_S (zA G) X.2.2.1.heap H1 locs1 → zW G X Y H1 locs1 Q (zFr X (pc + 3) arr ((r ++ rs).map (zcv G)))) : zW G X Y H locs Q (zFr X pc arr st0) := by
  intro T hT X9
  obtain ⟨v, st₀, t, T', L, h0, X', hL, e1, e2, ⟨⟨r, M, hv, hlen, hK, hM, hok⟩, hz, hk⟩, st⟩ := hr T hT X9
  rw [h0] at hz hk
  have hv : v = (r.map (zcv G)).head? := by cases hv; rfl
  obtain ⟨t2, a1, b1⟩ := kk r M T'.heap (locs ++ L) hK (by rw [e1]; exact hM) hok
    ⟨Nat.le_trans hS.1 (by rw [e1]; exact hz), fun q h1 h2 => by rw [e1, hk q (Nat.lt_of_lt_of_le h1 hS.1) h2]; exact hS.2.1 q h1 h2, fun q hq => by
      rcases List.mem_append.mp hq with h | h
      · exact hS.2.2 q h
      · exact hL q h⟩ T' rfl X'
  refine ⟨t2, st t2 ?_, b1⟩
  have e : v.toList ++ rest = (r ++ rs).map (zcv G) := by
    rw [hv, hrs, List.map_append]
    congr 1
    match r, hlen with
    | [], _ => rfl
    | [x], _ => rfl
    | x :: y :: z, h => simp at h
  rw [e]
  exact a1
def zMd (y : MethodName) (n : Nat) : Prop := y.cls ≠ "java/lang/invoke/MethodHandle" ∧ y.cls ≠ "java/lang/invoke/VarHandle" ∧ (parseMethodDescriptor y.desc).map (fun d => d.parameters.length) = some n
def zRm (Y' Y : zY) : Prop := Y'.2.2.2.2.cells = 0 ∧ Y'.2.2.2.2.slots = 0 ∧ Y'.2.2.2.2.frames + 1 ≤ Y.2.2.2.2.frames ∧ 8 + (Y'.2.2.1 + 11) + Y'.2.2.2.2.locals ≤ Y.2.2.2.2.locals
theorem zstk {G : zG} {st : List zV} {n : Nat} {as : List zV} (h : (st.take n).reverse = as) : st.map (zcv G) = (as.map (zcv G)).reverse ++ (st.drop n).map (zcv G) := by
  rw [← h, ← List.map_reverse, List.reverse_reverse, ← List.map_append, List.take_append_drop]
theorem ztake {st : List zV} {n : Nat} {as : List zV} (h : (st.take n).reverse = as) (hst : ∀ v ∈ st, zok v) : (∀ v ∈ as, zok v) ∧ ∀ v ∈ st.drop n, zok v := by
  refine ⟨fun v hv => hst v ?_, fun v hv => hst v (List.mem_of_mem_drop hv)⟩
  rw [← h] at hv
  exact List.mem_of_mem_take (List.mem_reverse.mp hv)
theorem s_callV (h : zC G X Y) {m : zQ → List zV → zM → Prop} {y : MethodName} {Y' : zY} {k n idx : Nat} {C : String} {T : u_T} {N : Nat} {ty : Nat → FieldType} (hm : zMet G y Y' m) (hc : zCl k C T N ty) (hyC : y.cls = C) (hmd : zMd y n) (hrm : zRm Y' Y)
    (hw : Cond.methodLink Y.1 idx y ∈ zgw ∧ Cond.instanceMethod y ∈ zgw ∧ Cond.selects C y y ∈ zgw ∧ Cond.initialized C ∈ zgw ∧ Cond.code y Y'.2.1 Y'.2.2.1 Y'.2.2.2.1 ∈ zgw) (hd : decode Y.2.1 pc = .ok (.invokevirtual idx, 3)) (kk : zAt G X Y Q (pc + 3) f) : zAt G X Y Q pc (g_cv k m n f) := by
  intro ls st M H locs arr hf hM hS hL hst
  obtain ⟨hx, hb, hml, hown, hts, hr, hlk, hK, hI⟩ := h
  unfold g_cv at hf
  split at hf
  · rename_i k' i as hrev
    cases hz : (k' == k && (Nat.ble (((st.drop (n + 1)).map zcat).sum) 8 && as.length == n)) with
    | false => rw [hz] at hf; exact hf.elim
    | true =>
      rw [hz] at hf
      have e := Bool.and_eq_true_iff.mp hz
      have e2 := Bool.and_eq_true_iff.mp e.2
      have e1 : k' = k := by simpa using e.1
      have en : as.length = n := by simpa using e2.2
      subst e1
      obtain ⟨hok, hrest⟩ := ztake hrev hst
      have hMet := hm _ _ _ hf hok hI
      have hs := zstk (G := G) hrev
      have hi : i < zcnt k' := (List.forall_mem_cons.mp hok).1
      obtain ⟨c1, c2, c3, c4, c5, c6, c7⟩ := hc
      have hP := zat1 hM hi (zcell_obj c1)
      rw [c2] at hP
      have hG : GoodIn zgw (wsV Y.1 idx C y (zws y Y')) := zgw_in (fun w h => by
        rcases List.mem_append.mp h with h | h
        · simp only [List.mem_cons, List.not_mem_nil, or_false] at h
          rcases h with rfl | rfl | rfl | rfl
          · exact hw.1
          · exact hw.2.1
          · exact hw.2.2.1
          · exact hw.2.2.2.1
        · rcases List.mem_cons.mp h with rfl | h
          · exact hw.2.2.2.2
          · exact h)
      have run := va_runV (e := X.2.1) (below := X.2.2.2.2.2.1) (meth := X.2.2.2.2.2.2.1) (locs := locs) (As := as.map (zcv G)) (rest := (st.drop (n + 1)).map (zcv G)) (b := G.2.2.2.2 k' i) (g := zFr X pc arr (st.map (zcv G))) (cells := 0) (slots := 0) ⟨hx, hb, hml, hown, hts⟩ hMet
        (cwV n hts hG rfl hrm.1 hrm.2.1 ⟨hyC, hmd⟩ hrm.2.2) ⟨zPre_blind, va_recv hK.1 hP (q0 := 0) c4 rfl, fun U hU hW => ⟨rfl, by rw [hU]; exact hM, hK.warm hW⟩⟩ rfl (by rw [List.length_map]; exact en) hL.1.1 (by show st.map (zcv G) = _; rw [hs]; simp [zcv]) (lv_room (zsum_le e2.1)) hd ⟨Nat.zero_le _, Nat.zero_le _⟩
      exact zrun rfl run hS (fun r M1 H1 locs1 hK1 hM1 hr1 hS1 => kk _ _ _ _ _ _ hK1 hM1 hS1 hL (fun v hv => (List.mem_append.mp hv).elim (hr1 v) (hrest v)))
  · exact hf.elim
theorem s_callS (h : zC G X Y) {m : zQ → List zV → zM → Prop} {y : MethodName} {Y' : zY} {n idx : Nat} (hm : zMet G y Y' m) (hmd : zMd y n) (hrm : zRm Y' Y)
    (hw : Cond.methodLink Y.1 idx y ∈ zgw ∧ Cond.static y ∈ zgw ∧ Cond.initialized y.cls ∈ zgw ∧ Cond.code y Y'.2.1 Y'.2.2.1 Y'.2.2.2.1 ∈ zgw) (hd : decode Y.2.1 pc = .ok (.invokestatic idx, 3)) (kk : zAt G X Y Q (pc + 3) f) : zAt G X Y Q pc (g_call m n f) := by
  intro ls st M H locs arr hf hM hS hL hst
  obtain ⟨hx, hb, hml, hown, hts, hr, hlk, hK, hI⟩ := h
  unfold g_call at hf
  cases hz : (Nat.ble n st.length && Nat.ble (((st.drop n).map zcat).sum) 8) with
  | false => rw [hz] at hf; exact hf.elim
  | true =>
    rw [hz] at hf
    have e := Bool.and_eq_true_iff.mp hz
    obtain ⟨hok, hrest⟩ := ztake (n := n) rfl hst
    have hMet := hm _ _ _ hf hok hI
    have hs := zstk (G := G) (st := st) (n := n) rfl
    have hG : GoodIn zgw (zws y Y') := zgw_in (fun w h => by
      rcases List.mem_cons.mp h with rfl | h
      · exact hw.2.2.2
      · exact h)
    have run := va_runS (e := X.2.1) (below := X.2.2.2.2.2.1) (meth := X.2.2.2.2.2.2.1) (locs := locs) (As := (st.take n).reverse.map (zcv G)) (rest := (st.drop n).map (zcv G)) (g := zFr X pc arr (st.map (zcv G))) (cells := 0) (slots := 0) ⟨hx, hb, hml, hown, hts⟩ hMet
      ⟨callB_of n hts hG rfl hrm.1 hrm.2.1 (hts _ hw.2.2.1) (hts _ hw.1) hmd hrm.2.2, hts _ hw.2.1⟩ ⟨zPre_blind, fun U hU hW => ⟨rfl, by rw [hU]; exact hM, hK.warm hW⟩⟩ rfl (by rw [List.length_map, List.length_reverse, List.length_take]; exact Nat.min_eq_left (Nat.le_of_ble_eq_true e.1)) hL.1.1 hs (lv_room (zsum_le e.2)) hd ⟨Nat.zero_le _, Nat.zero_le _⟩
    exact zrun rfl run hS (fun r M1 H1 locs1 hK1 hM1 hr1 hS1 => kk _ _ _ _ _ _ hK1 hM1 hS1 hL (fun v hv => (List.mem_append.mp hv).elim (hr1 v) (hrest v)))
theorem s_callSN (h : zC G X Y) {m : zQ → List zV → zM → Prop} {y : MethodName} {Y' : zY} {n idx : Nat} {host : String} (hm : zMet G y Y' m) (hmd : zMd y n) (hrm : zRm Y' Y)
    (hn : Cond.methodLinkNest Y.1 idx y host ∈ znest) (hw : Cond.static y ∈ zgw ∧ Cond.initialized y.cls ∈ zgw ∧ Cond.code y Y'.2.1 Y'.2.2.1 Y'.2.2.2.1 ∈ zgw) (hd : decode Y.2.1 pc = .ok (.invokestatic idx, 3)) (kk : zAt G X Y Q (pc + 3) f) : zAt G X Y Q pc (g_call m n f) := by
  intro ls st M H locs arr hf hM hS hL hst
  obtain ⟨hx, hb, hml, hown, hts, hr, hlk, hK, hI⟩ := h
  unfold g_call at hf
  cases hz : (Nat.ble n st.length && Nat.ble (((st.drop n).map zcat).sum) 8) with
  | false => rw [hz] at hf; exact hf.elim
  | true =>
    rw [hz] at hf
    have e := Bool.and_eq_true_iff.mp hz
    obtain ⟨hok, hrest⟩ := ztake (n := n) rfl hst
    have hMet := hm _ _ _ hf hok hI
    have hs := zstk (G := G) (st := st) (n := n) rfl
    have hG : GoodIn zgw (zws y Y') := zgw_in (fun w h => by
      rcases List.mem_cons.mp h with rfl | h
      · exact hw.2.2
      · exact h)
    have run := va_runSN (e := X.2.1) (below := X.2.2.2.2.2.1) (meth := X.2.2.2.2.2.2.1) (locs := locs) (As := (st.take n).reverse.map (zcv G)) (rest := (st.drop n).map (zcv G)) (g := zFr X pc arr (st.map (zcv G))) (cells := 0) (slots := 0) ⟨hx, hb, hml, hown, hts⟩ hMet
      ⟨va_cnB n hts hG rfl hrm.1 hrm.2.1 (hK.2 _ hn) (hts _ hw.2.1) hmd hrm.2.2, hts _ hw.1, trivial⟩ ⟨zPre_blind, fun U hU hW => ⟨rfl, by rw [hU]; exact hM, hK.warm hW⟩⟩ rfl (by rw [List.length_map, List.length_reverse, List.length_take]; exact Nat.min_eq_left (Nat.le_of_ble_eq_true e.1)) hL.1.1 hs (lv_room (zsum_le e.2)) hd ⟨Nat.zero_le _, Nat.zero_le _⟩
    exact zrun rfl run hS (fun r M1 H1 locs1 hK1 hM1 hr1 hS1 => kk _ _ _ _ _ _ hK1 hM1 hS1 hL (fun v hv => (List.mem_append.mp hv).elim (hr1 v) (hrest v)))

def zids : List (Nat × Nat) := (List.range 95).flatMap fun k => (List.range (zcnt k)).map fun i => (k, i)
theorem zids_nodup : zids.Nodup := by decide +kernel
theorem zcnt_out : ∀ k, ¬ k < 95 → zcnt k = 0 := by
  intro k hk
  have : zTab.getD k (0, 9, 0, 0, []) = (0, 9, 0, 0, []) := by
    rw [List.getD_eq_getElem?_getD, List.getElem?_eq_none (by show 95 ≤ k; omega)]
    rfl
  unfold zcnt zt
  rw [this]
theorem zids_mem {k i : Nat} : (k, i) ∈ zids ↔ i < zcnt k := by
  constructor
  · intro h
    obtain ⟨k', h1, h2⟩ := List.mem_flatMap.mp h
    obtain ⟨i', h3, h4⟩ := List.mem_map.mp h2
    cases h4
    exact List.mem_range.mp h3
  · intro h
    refine List.mem_flatMap.mpr ⟨k, List.mem_range.mpr ?_, List.mem_map.mpr ⟨i, List.mem_range.mpr h, rfl⟩⟩
    apply Classical.byContradiction
    intro q
    rw [zcnt_out k q] at h
    omega
def zall (G : zG) (M : zM) : va_W := zids.map fun q => (G.2.2.2.2 q.1 q.2, zcell G M q.1 q.2)
theorem zall_get {G : zG} {M : zM} {j : Nat} {q : Nat × va_E} (h : (zall G M)[j]? = some q) : ∃ k i, zids[j]? = some (k, i) ∧ i < zcnt k ∧ q = (G.2.2.2.2 k i, zcell G M k i) := by
  unfold zall at h
  rw [List.getElem?_map] at h
  cases hj : zids[j]? with
  | none => rw [hj] at h; cases h
  | some x =>
    rw [hj] at h
    obtain ⟨k, i⟩ := x
    exact ⟨k, i, rfl, zids_mem.mp (List.mem_of_getElem? hj), (Option.some.inj h).symm⟩
theorem zall_at {G : zG} {M : zM} {k i : Nat} (h : i < zcnt k) : ∃ j : Nat, zids[j]? = some (k, i) ∧ (zall G M)[j]? = some (G.2.2.2.2 k i, zcell G M k i) := by
  obtain ⟨j, hj⟩ := List.getElem?_of_mem (zids_mem.mpr h)
  refine ⟨j, hj, ?_⟩
  unfold zall
  rw [List.getElem?_map, hj]
  rfl
theorem zids_inj {j j' : Nat} {x : Nat × Nat} (h : zids[j]? = some x) (h' : zids[j']? = some x) : j = j' := by
  have h1 := (List.getElem?_eq_some_iff.mp h)
  have h2 := (List.getElem?_eq_some_iff.mp h')
  obtain ⟨a1, a2⟩ := h1
  obtain ⟨b1, b2⟩ := h2
  have hp := List.pairwise_iff_getElem.mp zids_nodup
  rcases Nat.lt_trichotomy j j' with q | q | q
  · exact absurd (a2.trans b2.symm) (hp j j' a1 b1 q)
  · exact q
  · exact absurd (b2.trans a2.symm) (hp j' j b1 a1 q)
theorem zall_P {G : zG} {M : zM} {H : Heap} (hM : zRep G M H) : va_P G.2.2.1 classes (zall G M) H := fun j q hq => by
  obtain ⟨k, i, h1, h2, rfl⟩ := zall_get hq
  exact hM k i h2
theorem zall_D {G : zG} {M : zM} (hI : zInj G) : va_D (zA G) (zall G M) := by
  refine ⟨fun i j p q hp hq e => ?_, fun j q hq => ?_⟩
  · obtain ⟨k1, i1, h1, h2, rfl⟩ := zall_get hp
    obtain ⟨k2, i2, h3, h4, rfl⟩ := zall_get hq
    obtain ⟨rfl, rfl⟩ := hI.1 k1 i1 k2 i2 h2 h4 e
    exact zids_inj h1 h3
  · obtain ⟨k, i, h1, h2, rfl⟩ := zall_get hq
    exact hI.2 k i h2
theorem zcell_cp {G : zG} {M : zM} {k i sp k' i' dp n k2 i2 : Nat} (h : ¬ (k2 = k' ∧ i2 = i')) : zcell G (zcp M k i sp k' i' dp n) k2 i2 = zcell G M k2 i2 := by
  have h1 : ∀ c, ¬ (k2 = k' ∧ i2 = i' ∧ dp ≤ c ∧ c < dp + n) := fun c q => h ⟨q.1, q.2.1⟩
  have h2 : (zcp M k i sp k' i' dp n).1 k2 i2 = M.1 k2 i2 := by
    funext c
    unfold zcp
    simp only [if_neg (h1 c)]
  have h3 : ∀ c d, zfv G (zcp M k i sp k' i' dp n) k2 i2 c d = zfv G M k2 i2 c d := fun c d => by
    unfold zfv zcp
    simp only [if_neg (h1 c)]
  unfold zcell
  rw [h2]
  simp only [h3]
  rfl
theorem s_arraycopy (h : zC G X Y) {n : Nat} (hw : Cond.methodLink Y.1 n arraycopyName ∈ zgw ∧ Cond.native arraycopyName ∈ zgw ∧ Cond.static arraycopyName ∈ zgw ∧ Cond.initialized "java/lang/System" ∈ zgw) (hfr : 1 ≤ Y.2.2.2.2.frames) (hlo : 8 + (nativeFrameWords "java/lang/System" "arraycopy" 5 + 11) ≤ Y.2.2.2.2.locals) (hd : decode Y.2.1 pc = .ok (.invokestatic n, 3)) (kk : zAt G X Y Q (pc + 3) f) : zAt G X Y Q pc (g_cpy f) := by
  intro ls st M H locs arr hf hM hS hL hst
  obtain ⟨hx, hb, hml, hown, hts, hr, hlk, hK, hI⟩ := h
  unfold g_cpy at hf
  split at hf
  · rename_i n dp k' i' sp k i r
    cases hz : (zsrt k == 1 && (zsrt k' == 1 && (zaux k == 0 && (zaux k' == 0 && Nat.ble ((r.map zcat).sum) 8)))) with
    | false => rw [hz] at hf; exact hf.elim
    | true =>
      rw [hz] at hf
      have hf : (0 ≤ sp.toInt ∧ 0 ≤ dp.toInt ∧ 0 ≤ n.toInt ∧ sp.toInt + n.toInt ≤ (zlen k : Int) ∧ dp.toInt + n.toInt ≤ (zlen k' : Int)) ∧ f ls r (zcp M k i sp.toNatClampNeg k' i' dp.toNatClampNeg n.toNatClampNeg) := hf
      simp only [Bool.and_eq_true, beq_iff_eq] at hz
      obtain ⟨z1, z2, z3, z4, z5⟩ := hz
      have o1 := List.forall_mem_cons.mp hst
      have o2 := List.forall_mem_cons.mp o1.2
      have o3 := List.forall_mem_cons.mp o2.2
      have o4 := List.forall_mem_cons.mp o3.2
      have o5 := List.forall_mem_cons.mp o4.2
      have hi' : i' < zcnt k' := o3.1
      have hi : i < zcnt k := o5.1
      obtain ⟨⟨g1, g2, g3, g4, g5⟩, hf⟩ := hf
      obtain ⟨q0, j0, hq0⟩ := zall_at (G := G) (M := M) hi
      obtain ⟨q1, j1, hq1⟩ := zall_at (G := G) (M := M) hi'
      rw [zcell_ints z1, z3] at hq0
      rw [zcell_ints z2, z4] at hq1
      have nz : ∀ z : Int32, 0 ≤ z.toInt → ¬ z < 0 := fun z hz q => by
        have := Int32.lt_iff_toInt_lt.mp q
        have h0 : (0 : Int32).toInt = 0 := rfl
        omega
      refine va_copyi hx hb (by rw [hml]; exact hL.1.1.symm) hown (hts _ hw.1) (hts _ hw.2.1) (hts _ hw.2.2.1) (hts _ hw.2.2.2) hK.1 (zall_P hM) (zall_D hI) hS q0 q1 0 0 hq0 hq1 (hK.ty (by decide)) (hK.ty (by decide)) rfl (nz _ g1) (nz _ g2) (nz _ g3) ?_ ?_ (fun _ _ => rfl) hfr (Nat.le_trans (Nat.add_le_add_right (zsum_le z5) _) hlo) hd (fun H1 locs1 hP1 hD1 hS1 => ?_)
      · unfold Int32.toNatClampNeg; omega
      · unfold Int32.toNatClampNeg; omega
      · refine kk _ _ _ _ _ _ hf ?_ hS1 hL o5.2
        intro k2 i2 hi2
        obtain ⟨j, hj, hja⟩ := zall_at (G := G) (M := M) hi2
        by_cases e : j = q1
        · subst e
          rw [j1] at hj
          cases hj
          have := hP1 j _ (List.getElem?_set_self (List.getElem?_eq_some_iff.mp hja).1)
          have e2 : (fun c => (zcp M k i sp.toNatClampNeg k' i' dp.toNatClampNeg n.toNatClampNeg).1 k' i' c) = va_cpy (M.1 k i) (M.1 k' i') sp.toNatClampNeg dp.toNatClampNeg n.toNatClampNeg := by
            funext c
            simp [zcp, va_cpy]
          rw [zcell_ints z2, z4]
          have e3 : (zcp M k i sp.toNatClampNeg k' i' dp.toNatClampNeg n.toNatClampNeg).1 k' i' = va_cpy (M.1 k i) (M.1 k' i') sp.toNatClampNeg dp.toNatClampNeg n.toNatClampNeg := e2
          rw [e3]
          exact this
        · have hne : ¬ (k2 = k' ∧ i2 = i') := fun q => e (by
            obtain ⟨rfl, rfl⟩ := q
            exact zids_inj hj j1)
          rw [zcell_cp hne]
          refine hP1 j _ ?_
          rw [List.getElem?_set_ne (fun q => e q.symm)]
          exact hja
  · exact hf.elim
end ZS2
def zwd : List zV → Nat
  | [] => 0
  | v :: r => zcat v + zwd r
def g_ent (n : Nat) (f : zF) (as : List zV) (M : zM) : Prop := bif Nat.ble (zwd as) n then f (zent n as) [] M else False
theorem zlst_rep {G : zG} : ∀ (n i : Nat), zlst G i (List.replicate n none) = [] := by
  intro n
  induction n with
  | zero => intro i; rfl
  | succ n ih => intro i; exact ih (i + 1)
theorem zent_lst {G : zG} : ∀ (as : List zV) (n i : Nat), zlst G i (zent n as) = lv_args i (as.map (zcv G)) := by
  intro as
  induction as with
  | nil => intro n i; exact zlst_rep n i
  | cons v r ih =>
    intro n i
    rcases v with x | x | x
    · show (i, _) :: zlst G (i + 1) (zent (n - 1) r) = _
      rw [ih]; rfl
    · show (i, _) :: zlst G (i + 1 + 1) (zent (n - 2) r) = _
      rw [ih]; rfl
    · show (i, _) :: zlst G (i + 1) (zent (n - 1) r) = _
      rw [ih]; rfl
theorem zent_len : ∀ (as : List zV) (n : Nat), zwd as ≤ n → (zent n as).length = n := by
  intro as
  induction as with
  | nil => intro n _; simp [zent]
  | cons v r ih =>
    intro n h
    unfold zwd at h
    rcases v with x | x | x
    · have h : 1 + zwd r ≤ n := h
      show (zent (n - 1) r).length + 1 = n
      rw [ih _ (by omega)]; omega
    · have h : 2 + zwd r ≤ n := h
      show (zent (n - 2) r).length + 1 + 1 = n
      rw [ih _ (by omega)]; omega
    · have h : 1 + zwd r ≤ n := h
      show (zent (n - 1) r).length + 1 = n
      rw [ih _ (by omega)]; omega
theorem zent_mem : ∀ (as : List zV) (n i : Nat) (v : zV), zg (zent n as) i = some v → v ∈ as := by
  intro as
  induction as with
  | nil =>
    intro n
    induction n with
    | zero => intro i v h; cases h
    | succ n ih =>
      intro i v h
      cases i with
      | zero => cases h
      | succ i => exact ih i v h
  | cons u r ih =>
    intro n i v h
    rcases u with x | x | x
    · cases i with
      | zero => cases h; exact List.mem_cons_self
      | succ i => exact List.mem_cons_of_mem _ (ih _ i v h)
    · cases i with
      | zero => cases h; exact List.mem_cons_self
      | succ i => cases i with
        | zero => cases h
        | succ i => exact List.mem_cons_of_mem _ (ih _ i v h)
    · cases i with
      | zero => cases h; exact List.mem_cons_self
      | succ i => exact List.mem_cons_of_mem _ (ih _ i v h)
theorem zwd_sl {G : zG} : ∀ (as : List zV), (lg_sl (as.map (zcv G))).length = zwd as := by
  intro as
  induction as with
  | nil => rfl
  | cons v r ih =>
    rcases v with x | x | x
    · show _ = 1 + zwd r
      rw [← ih]; simp [lg_sl, zcv, Value.category]; try omega
    · show _ = 2 + zwd r
      rw [← ih]; simp [lg_sl, zcv, Value.category]; try omega
    · show _ = 1 + zwd r
      rw [← ih]; simp [lg_sl, zcv, Value.category]; try omega
theorem zMet_of {G : zG} {y : MethodName} {Y : zY} {body : zQ → zF} (hy : plainName y.cls = true) (hcl : y.cls = Y.1) (hb : ∀ (X : zX) (K : zQ), zC G X Y → zAt G X Y (zMQ G X K) 0 (body K)) : zMet G y Y (fun K as M => g_ent Y.2.2.1 (body K) as M) := by
  intro K as M hf hok hI
  have hf : g_ent Y.2.2.1 (body K) as M := hf
  unfold g_ent at hf
  cases hz : Nat.ble (zwd as) Y.2.2.1 with
  | false => rw [hz] at hf; exact hf.elim
  | true =>
    rw [hz] at hf
    have hw := Nat.le_of_ble_eq_true hz
    refine Met.ofW (cc := Y.2.1) (maxL := Y.2.2.1) (ret := Y.2.2.2.1) hy rfl ?_
    intro p e s m args below meth c s₁ B hml hv
    obtain ⟨rfl, hM, hK⟩ := hv
    have hts : ∀ w ∈ zgw, w.before ((as.map (zcv G)).toArray) s = true := fun w h => atoms_spec (ws := zws y Y) B.pre w (List.mem_cons_of_mem _ h)
    have hown : s.vm.findClass Y.1 = some m.cls := by rw [← hcl]; exact findClass_of_methodNamed B.named
    have hC : zC G (p, e, s, m, (as.map (zcv G)).toArray, below, meth, c) Y := ⟨B.exec, B.bytes, hml, hown, hts, B.returns, B.notSynchronized, hK, hI⟩
    have hl := lv_entry (as.map (zcv G)) (n := Y.2.2.1) (by rw [zwd_sl]; exact hw)
    rw [lg_entry_eq]
    refine hb (p, e, s, m, (as.map (zcv G)).toArray, below, meth, c) K hC (zent Y.2.2.1 as) [] M s.heap [] _ hf hM va_S.rf ⟨?_, zent_len as _ hw, fun i v hg => hok v (zent_mem as _ i v hg)⟩ (fun v h => by cases h)
    rw [zent_lst]
    exact hl
