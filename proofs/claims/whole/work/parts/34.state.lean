/-! the constant cells: 0 .. 38 the words, 39 .. 77 their texts, 78 .. 86 the messages, 87 Word.ALL, 88 the switch table, 89 the script, 90 .. 128 the texts' bytes, 129 .. 131 what static fields of the JDK name -/
def v_cst : List va_E := [.inr (13, [.ref 39, .int 0, .int 0, .int 0]), .inr (13, [.ref 40, .int 0, .int 0, .int 1]), .inr (13, [.ref 41, .int 0, .int 1, .int 2]), .inr (13, [.ref 42, .int 0, .int 1, .int 3]), .inr (13, [.ref 43, .int 0, .int 1, .int 4]), .inr (13, [.ref 44, .int 1, .int 2, .int 5]), .inr (13, [.ref 45, .int 1, .int 2, .int 6]), .inr (13, [.ref 46, .int 1, .int 2, .int 7]), .inr (13, [.ref 47, .int 1, .int 2, .int 8]), .inr (13, [.ref 48, .int 1, .int 2, .int 9]), .inr (13, [.ref 49, .int 1, .int 2, .int 10]), .inr (13, [.ref 50, .int 1, .int 2, .int 11]), .inr (13, [.ref 51, .int 1, .int 2, .int 12]), .inr (13, [.ref 52, .int 1, .int 2, .int 13]), .inr (13, [.ref 53, .int 2, .int 3, .int 14]), .inr (13, [.ref 54, .int 2, .int 3, .int 15]), .inr (13, [.ref 55, .int 2, .int 3, .int 16]), .inr (13, [.ref 56, .int 2, .int 3, .int 17]), .inr (13, [.ref 57, .int 2, .int 4, .int 18]), .inr (13, [.ref 58, .int 2, .int 4, .int 19]), .inr (13, [.ref 59, .int 2, .int 4, .int 20]), .inr (13, [.ref 60, .int 2, .int 5, .int 21]), .inr (13, [.ref 61, .int 2, .int 5, .int 22]), .inr (13, [.ref 62, .int 2, .int 5, .int 23]), .inr (13, [.ref 63, .int 2, .int 5, .int 24]), .inr (13, [.ref 64, .int 2, .int 5, .int 25]), .inr (13, [.ref 65, .int 2, .int 5, .int 26]), .inr (13, [.ref 66, .int 2, .int 6, .int 27]), .inr (13, [.ref 67, .int 2, .int 6, .int 28]), .inr (13, [.ref 68, .int 2, .int 6, .int 29]), .inr (13, [.ref 69, .int 1, .int 6, .int 30]), .inr (13, [.ref 70, .int 1, .int 7, .int 31]), .inr (13, [.ref 71, .int 2, .int 7, .int 32]), .inr (13, [.ref 72, .int 1, .int 7, .int 33]), .inr (13, [.ref 73, .int 1, .int 8, .int 34]), .inr (13, [.ref 74, .int 1, .int 8, .int 35]), .inr (13, [.ref 75, .int 2, .int 8, .int 36]), .inr (13, [.ref 76, .int 1, .int 9, .int 37]), .inr (13, [.ref 77, .int 1, .int 9, .int 38]), .inr (14, [.ref 90, .int 0]), .inr (14, [.ref 91, .int 0]), .inr (14, [.ref 92, .int 0]), .inr (14, [.ref 93, .int 0]), .inr (14, [.ref 94, .int 0]), .inr (14, [.ref 95, .int 0]), .inr (14, [.ref 96, .int 0]), .inr (14, [.ref 97, .int 0]), .inr (14, [.ref 98, .int 0]), .inr (14, [.ref 99, .int 0]), .inr (14, [.ref 100, .int 0]), .inr (14, [.ref 101, .int 0]), .inr (14, [.ref 102, .int 0]), .inr (14, [.ref 103, .int 0]), .inr (14, [.ref 104, .int 0]), .inr (14, [.ref 105, .int 0]), .inr (14, [.ref 106, .int 0]), .inr (14, [.ref 107, .int 0]), .inr (14, [.ref 108, .int 0]), .inr (14, [.ref 109, .int 0]), .inr (14, [.ref 110, .int 0]), .inr (14, [.ref 111, .int 0]), .inr (14, [.ref 112, .int 0]), .inr (14, [.ref 113, .int 0]), .inr (14, [.ref 114, .int 0]), .inr (14, [.ref 115, .int 0]), .inr (14, [.ref 116, .int 0]), .inr (14, [.ref 117, .int 0]), .inr (14, [.ref 118, .int 0]), .inr (14, [.ref 119, .int 0]), .inr (14, [.ref 120, .int 0]), .inr (14, [.ref 121, .int 0]), .inr (14, [.ref 122, .int 0]), .inr (14, [.ref 123, .int 0]), .inr (14, [.ref 124, .int 0]), .inr (14, [.ref 125, .int 0]), .inr (14, [.ref 126, .int 0]), .inr (14, [.ref 127, .int 0]), .inr (14, [.ref 128, .int 0]), ax_dm, ax_dm, ax_dm, ax_dm, ax_dm, ax_dm, ax_dm, ax_dm, ax_dm, ax_dm, ax_dm, ax_dm, ax_dm, ax_dm, ax_dm, ax_dm, ax_dm, ax_dm, ax_dm, ax_dm, ax_dm, ax_dm, ax_dm, ax_dm, ax_dm, ax_dm, ax_dm, ax_dm, ax_dm, ax_dm, ax_dm, ax_dm, ax_dm, ax_dm, ax_dm, ax_dm, ax_dm, ax_dm, ax_dm, ax_dm, ax_dm, ax_dm, ax_dm, ax_dm, ax_dm, ax_dm, ax_dm, ax_dm, ax_dm, ax_dm, ax_dm, ax_dm, ax_dm, ax_dm]
/-! the class's cells, 132 .. 152: its ints 'i', its arrays of ints 'a', its arrays of references 'r', the reader's row
i: 0 rowLength, 1 functionCount, 2 telling.count, 3 fault.what, 4 fault.place, 5 reader.count, 6 reader.depth, 7 reader.length, 8 reader.numeral, 9 machine.size, 10 machine.chosen
a: 0 row, 1 telling.numbers, 2 inputNumbers, 3 outputNumbers, 4 given, 5 reader.numbers, 6 onward, 7 otherwise, 8 opened, 9 waiting, 10 first, 11 second, 12 machine.values, 13 truths
r: 0 functions, 1 reader.words -/
abbrev x_S : Type := (Nat → Int32) × (Nat → Nat → Int32) × (Nat → Nat → Option Nat) × Value
def x_cs (S : x_S) : List va_E :=
  [.inr (0, [.ref 133, .int (S.1 0), .ref 134, .ref 136, .int (S.1 1), .ref 137, .ref 138, .ref 139, .ref 140, .ref 141, .ref 150]),
   .inl (1, 8192, .inl (S.2.1 0)),
   .inr (1, [.ref 135, .int (S.1 2)]), .inl (0, 96, .inl (S.2.1 1)),
   .inl (4, 24, .inr (.inr (.inr (.inr (S.2.2.1 0))))),
   .inl (0, 4, .inl (S.2.1 2)), .inl (0, 4, .inl (S.2.1 3)), .inl (0, 4, .inl (S.2.1 4)),
   .inr (2, [.int (S.1 3), .int (S.1 4)]),
   .inr (3, [.ref 142, .ref 143, .ref 144, .ref 145, .int (S.1 5), .ref 146, .ref 147, .ref 148, .ref 149, .int (S.1 6), S.2.2.2, .int (S.1 7), .int (S.1 8)]),
   .inl (5, 400, .inr (.inr (.inr (.inr (S.2.2.1 1))))), .inl (0, 400, .inl (S.2.1 5)), .inl (0, 400, .inl (S.2.1 6)), .inl (0, 400, .inl (S.2.1 7)),
   .inl (0, 13, .inl (S.2.1 8)), .inl (0, 13, .inl (S.2.1 9)), .inl (0, 13, .inl (S.2.1 10)), .inl (0, 13, .inl (S.2.1 11)),
   .inr (4, [.ref 151, .ref 152, .int (S.1 9), .int (S.1 10)]),
   .inl (0, 60, .inl (S.2.1 12)), .inl (3, 60, .inl (S.2.1 13))]
/-! the reference's cells, 153 .. 172: its ints 'i', its arrays of ints 'a', of longs 'l'
i: 0 refusal, 1 size, 2 told, 3 faultKind, 4 faultPlace, 5 functions, 6 words, 7 wrong, 8 wrongAt, 9 depth, 10 open, 11 place, 12 stitchedTo
a: 0 row, 1 telling, 2 inputs, 3 outputs, 4 kinds, 5 takes, 6 gives, 7 numbers, 8 sizes, 9 bytes, 10 wholes, 11 begins, 12 ends, 13 isTruth, 14 returns
l: 0 corners, 1 rests, 2 given, 3 stack -/
abbrev x_M : Type := (Nat → Int32) × (Nat → Nat → Int32) × (Nat → Nat → Int64)
def x_ms (M : x_M) : List va_E :=
  [.inr (9, [.int (M.1 0), .int (M.1 1), .ref 154, .int (M.1 2), .ref 155, .ref 156, .ref 157, .int (M.1 3), .int (M.1 4), .int (M.1 5), .ref 158, .ref 159, .ref 160, .ref 161, .ref 162, .ref 163, .ref 164, .ref 165, .ref 166, .ref 167, .int (M.1 6), .ref 168, .ref 169, .int (M.1 7), .int (M.1 8), .int (M.1 9), .ref 170, .ref 171, .ref 172, .int (M.1 10), .int (M.1 11), .int (M.1 12)]),
   .inl (1, 8192, .inl (M.2.1 0)), .inl (0, 96, .inl (M.2.1 1)), .inl (0, 4, .inl (M.2.1 2)), .inl (0, 4, .inl (M.2.1 3)),
   .inl (0, 24, .inl (M.2.1 4)), .inl (0, 24, .inl (M.2.1 5)), .inl (0, 24, .inl (M.2.1 6)), .inl (0, 2304, .inl (M.2.1 7)), .inl (0, 24, .inl (M.2.1 8)),
   .inl (1, 196608, .inl (M.2.1 9)), .inl (2, 8, .inr (.inl (M.2.2 0))), .inl (0, 4, .inl (M.2.1 10)), .inl (2, 4, .inr (.inl (M.2.2 1))), .inl (2, 4, .inr (.inl (M.2.2 2))),
   .inl (0, 402, .inl (M.2.1 11)), .inl (0, 402, .inl (M.2.1 12)), .inl (2, 60, .inr (.inl (M.2.2 3))), .inl (3, 60, .inl (M.2.1 13)), .inl (0, 20, .inl (M.2.1 14))]
/-- the heap: constants, the class, the rest -/
def x_hC (S : x_S) (tl : List va_E) : List va_E := v_cst ++ (x_cs S ++ tl)
/-- .. constants, the class, the reference, the rest -/
def x_hM (S : x_S) (M : x_M) (tl : List va_E) : List va_E := x_hC S (x_ms M ++ tl)
def x_i (S : x_S) (k : Nat) (x : Int32) : x_S := (upd S.1 k x, S.2)
def x_a (S : x_S) (k j : Nat) (x : Int32) : x_S := (S.1, va_up S.2.1 k (upd (S.2.1 k) j x), S.2.2)
def x_r (S : x_S) (k j : Nat) (x : Option Nat) : x_S := (S.1, S.2.1, va_up S.2.2.1 k (va_up (S.2.2.1 k) j x), S.2.2.2)
def y_i (M : x_M) (k : Nat) (x : Int32) : x_M := (upd M.1 k x, M.2)
def y_a (M : x_M) (k j : Nat) (x : Int32) : x_M := (M.1, va_up M.2.1 k (upd (M.2.1 k) j x), M.2.2)
def y_l (M : x_M) (k j : Nat) (x : Int64) : x_M := (M.1, M.2.1, va_up M.2.2 k (vp_updL (M.2.2 k) j x))
