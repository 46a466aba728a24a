/-! SHAPE: every cell of the start keeps its shape; what varies is read off -/
def cI (x : px_C) (k : Nat) : Int32 := match x with
  | .inl (_, fs) => (match fs[k]? with
    | some (.int v) => v
    | _ => 0)
  | _ => 0
def cJ (x : px_C) (k : Nat) : Int64 := match x with
  | .inl (_, fs) => (match fs[k]? with
    | some (.long v) => v
    | _ => 0)
  | _ => 0
def cV (x : px_C) (k : Nat) : Value := match x with
  | .inl (_, fs) => (match fs[k]? with
    | some v => v
    | none => .null)
  | _ => .null
def cA (x : px_C) : Nat → Int32 := match x with
  | .inr (_, _, .inl f) => f
  | _ => fun _ => 0
def cL (x : px_C) : Nat → Int64 := match x with
  | .inr (_, _, .inr (.inl f)) => f
  | _ => fun _ => 0
def cR (x : px_C) : Nat → Option Nat := match x with
  | .inr (_, _, .inr (.inr f)) => f
  | _ => fun _ => none
def fillF (x : px_C) : Nat → List Value → List Value
  | _, [] => []
  | k, .int _ :: ts => .int (cI x k) :: fillF x (k + 1) ts
  | k, .long _ :: ts => .long (cJ x k) :: fillF x (k + 1) ts
  | k, .null :: ts => cV x k :: fillF x (k + 1) ts
  | k, t :: ts => t :: fillF x (k + 1) ts
/-- x's data in t's shape -/
def fillC (x t : px_C) : px_C := match t with
  | .inl (c, ts) => .inl (c, fillF x 0 ts)
  | .inr (t, n, .inl _) => .inr (t, n, .inl (cA x))
  | .inr (t, n, .inr (.inl _)) => .inr (t, n, .inr (.inl (cL x)))
  | .inr (t, n, .inr (.inr f)) => .inr (t, n, .inr (.inr (if 16 < t then f else cR x)))
def cell (h : px_H) (r : Nat) : px_C := (h.2[r]?).getD (.inl (0, []))
/-- the cells of the start, written out -/
def hpT : List px_C := [
  .inl (0, [.ref 1, .ref 24, .ref 45, .ref 47, .ref 421, .ref 454, .ref 457]),
  .inr (17, 2, .inr (.inr (yrd2 0))),
  .inl (7, [.ref 3, .int 0, .ref 5, .ref 6, .ref 7, .ref 8, .int 0, .ref 9, .ref 10, .int 0, .ref 11, .ref 12]),
  .inl (1, [.ref 4, .int 0]),
  .inr (0, 40000, .inl (fun _ => 0)),
  .inr (2, 60, .inr (.inl (fun _ => 0))),
  .inr (1, 60, .inl (fun _ => 0)),
  .inr (1, 60, .inl (fun _ => 0)),
  .inr (3, 60, .inl (fun _ => 0)),
  .inr (2, 60, .inr (.inl (fun _ => 0))),
  .inr (2, 60, .inr (.inl (fun _ => 0))),
  .inr (2, 8, .inr (.inl (fun _ => 0))),
  .inr (3, 8, .inl (fun _ => 0)),
  .inl (7, [.ref 14, .int 0, .ref 16, .ref 17, .ref 18, .ref 19, .int 0, .ref 20, .ref 21, .int 0, .ref 22, .ref 23]),
  .inl (1, [.ref 15, .int 0]),
  .inr (0, 40000, .inl (fun _ => 0)),
  .inr (2, 60, .inr (.inl (fun _ => 0))),
  .inr (1, 60, .inl (fun _ => 0)),
  .inr (1, 60, .inl (fun _ => 0)),
  .inr (3, 60, .inl (fun _ => 0)),
  .inr (2, 60, .inr (.inl (fun _ => 0))),
  .inr (2, 60, .inr (.inl (fun _ => 0))),
  .inr (2, 8, .inr (.inl (fun _ => 0))),
  .inr (3, 8, .inl (fun _ => 0)),
  .inr (18, 4, .inr (.inr (tra4 0))),
  .inl (8, [.int 0, .int 0, .int 0, .int 0, .int 0, .int 0, .int 0, .int 0, .long 0, .ref 26, .ref 28]),
  .inl (1, [.ref 27, .int 0]),
  .inr (0, 231, .inl (fun _ => 0)),
  .inl (1, [.ref 29, .int 0]),
  .inr (0, 4120, .inl (fun _ => 0)),
  .inl (8, [.int 0, .int 0, .int 0, .int 0, .int 0, .int 0, .int 0, .int 0, .long 0, .ref 31, .ref 33]),
  .inl (1, [.ref 32, .int 0]),
  .inr (0, 231, .inl (fun _ => 0)),
  .inl (1, [.ref 34, .int 0]),
  .inr (0, 4120, .inl (fun _ => 0)),
  .inl (8, [.int 0, .int 0, .int 0, .int 0, .int 0, .int 0, .int 0, .int 0, .long 0, .ref 36, .ref 38]),
  .inl (1, [.ref 37, .int 0]),
  .inr (0, 231, .inl (fun _ => 0)),
  .inl (1, [.ref 39, .int 0]),
  .inr (0, 4120, .inl (fun _ => 0)),
  .inl (8, [.int 0, .int 0, .int 0, .int 0, .int 0, .int 0, .int 0, .int 0, .long 0, .ref 41, .ref 43]),
  .inl (1, [.ref 42, .int 0]),
  .inr (0, 231, .inl (fun _ => 0)),
  .inl (1, [.ref 44, .int 0]),
  .inr (0, 4120, .inl (fun _ => 0)),
  .inl (1, [.ref 46, .int 0]),
  .inr (0, 600, .inl (fun _ => 0)),
  .inl (10, [.int 0, .int (-1), .int 0, .int 0, .int 0, .int 0, .int 0, .long 0, .ref 48, .ref 81, .ref 83, .ref 85, .ref 87, .ref 249, .ref 411, .ref 414]),
  .inl (6, [.ref 49, .int 0, .ref 50, .int 0]),
  .inr (2, 12, .inr (.inl (fun _ => 0))),
  .inr (15, 6, .inr (.inr (refsC 51 5 6))),
  .inl (5, [.ref 52, .ref 54]),
  .inl (1, [.ref 53, .int 0]),
  .inr (0, 8, .inl (fun _ => 0)),
  .inl (1, [.ref 55, .int 0]),
  .inr (0, 12, .inl (fun _ => 0)),
  .inl (5, [.ref 57, .ref 59]),
  .inl (1, [.ref 58, .int 0]),
  .inr (0, 8, .inl (fun _ => 0)),
  .inl (1, [.ref 60, .int 0]),
  .inr (0, 12, .inl (fun _ => 0)),
  .inl (5, [.ref 62, .ref 64]),
  .inl (1, [.ref 63, .int 0]),
  .inr (0, 8, .inl (fun _ => 0)),
  .inl (1, [.ref 65, .int 0]),
  .inr (0, 12, .inl (fun _ => 0)),
  .inl (5, [.ref 67, .ref 69]),
  .inl (1, [.ref 68, .int 0]),
  .inr (0, 8, .inl (fun _ => 0)),
  .inl (1, [.ref 70, .int 0]),
  .inr (0, 12, .inl (fun _ => 0)),
  .inl (5, [.ref 72, .ref 74]),
  .inl (1, [.ref 73, .int 0]),
  .inr (0, 8, .inl (fun _ => 0)),
  .inl (1, [.ref 75, .int 0]),
  .inr (0, 12, .inl (fun _ => 0)),
  .inl (5, [.ref 77, .ref 79]),
  .inl (1, [.ref 78, .int 0]),
  .inr (0, 8, .inl (fun _ => 0)),
  .inl (1, [.ref 80, .int 0]),
  .inr (0, 12, .inl (fun _ => 0)),
  .inl (1, [.ref 82, .int 0]),
  .inr (0, 831, .inl (fun _ => 0)),
  .inl (1, [.ref 84, .int 0]),
  .inr (0, 200, .inl (fun _ => 0)),
  .inl (1, [.ref 86, .int 0]),
  .inr (0, 4120, .inl (fun _ => 0)),
  .inl (3, [.ref 88, .int 0]),
  .inr (12, 80, .inr (.inr (refsC 89 2 80))),
  .inl (2, [.ref 90, .int 0, .int 0, .null, .int 0, .int 0]),
  .inr (0, 35, .inl (fun _ => 0)),
  .inl (2, [.ref 92, .int 0, .int 0, .null, .int 0, .int 0]),
  .inr (0, 35, .inl (fun _ => 0)),
  .inl (2, [.ref 94, .int 0, .int 0, .null, .int 0, .int 0]),
  .inr (0, 35, .inl (fun _ => 0)),
  .inl (2, [.ref 96, .int 0, .int 0, .null, .int 0, .int 0]),
  .inr (0, 35, .inl (fun _ => 0)),
  .inl (2, [.ref 98, .int 0, .int 0, .null, .int 0, .int 0]),
  .inr (0, 35, .inl (fun _ => 0)),
  .inl (2, [.ref 100, .int 0, .int 0, .null, .int 0, .int 0]),
  .inr (0, 35, .inl (fun _ => 0)),
  .inl (2, [.ref 102, .int 0, .int 0, .null, .int 0, .int 0]),
  .inr (0, 35, .inl (fun _ => 0)),
  .inl (2, [.ref 104, .int 0, .int 0, .null, .int 0, .int 0]),
  .inr (0, 35, .inl (fun _ => 0)),
  .inl (2, [.ref 106, .int 0, .int 0, .null, .int 0, .int 0]),
  .inr (0, 35, .inl (fun _ => 0)),
  .inl (2, [.ref 108, .int 0, .int 0, .null, .int 0, .int 0]),
  .inr (0, 35, .inl (fun _ => 0)),
  .inl (2, [.ref 110, .int 0, .int 0, .null, .int 0, .int 0]),
  .inr (0, 35, .inl (fun _ => 0)),
  .inl (2, [.ref 112, .int 0, .int 0, .null, .int 0, .int 0]),
  .inr (0, 35, .inl (fun _ => 0)),
  .inl (2, [.ref 114, .int 0, .int 0, .null, .int 0, .int 0]),
  .inr (0, 35, .inl (fun _ => 0)),
  .inl (2, [.ref 116, .int 0, .int 0, .null, .int 0, .int 0]),
  .inr (0, 35, .inl (fun _ => 0)),
  .inl (2, [.ref 118, .int 0, .int 0, .null, .int 0, .int 0]),
  .inr (0, 35, .inl (fun _ => 0)),
  .inl (2, [.ref 120, .int 0, .int 0, .null, .int 0, .int 0]),
  .inr (0, 35, .inl (fun _ => 0)),
  .inl (2, [.ref 122, .int 0, .int 0, .null, .int 0, .int 0]),
  .inr (0, 35, .inl (fun _ => 0)),
  .inl (2, [.ref 124, .int 0, .int 0, .null, .int 0, .int 0]),
  .inr (0, 35, .inl (fun _ => 0)),
  .inl (2, [.ref 126, .int 0, .int 0, .null, .int 0, .int 0]),
  .inr (0, 35, .inl (fun _ => 0)),
  .inl (2, [.ref 128, .int 0, .int 0, .null, .int 0, .int 0]),
  .inr (0, 35, .inl (fun _ => 0)),
  .inl (2, [.ref 130, .int 0, .int 0, .null, .int 0, .int 0]),
  .inr (0, 35, .inl (fun _ => 0)),
  .inl (2, [.ref 132, .int 0, .int 0, .null, .int 0, .int 0]),
  .inr (0, 35, .inl (fun _ => 0)),
  .inl (2, [.ref 134, .int 0, .int 0, .null, .int 0, .int 0]),
  .inr (0, 35, .inl (fun _ => 0)),
  .inl (2, [.ref 136, .int 0, .int 0, .null, .int 0, .int 0]),
  .inr (0, 35, .inl (fun _ => 0)),
  .inl (2, [.ref 138, .int 0, .int 0, .null, .int 0, .int 0]),
  .inr (0, 35, .inl (fun _ => 0)),
  .inl (2, [.ref 140, .int 0, .int 0, .null, .int 0, .int 0]),
  .inr (0, 35, .inl (fun _ => 0)),
  .inl (2, [.ref 142, .int 0, .int 0, .null, .int 0, .int 0]),
  .inr (0, 35, .inl (fun _ => 0)),
  .inl (2, [.ref 144, .int 0, .int 0, .null, .int 0, .int 0]),
  .inr (0, 35, .inl (fun _ => 0)),
  .inl (2, [.ref 146, .int 0, .int 0, .null, .int 0, .int 0]),
  .inr (0, 35, .inl (fun _ => 0)),
  .inl (2, [.ref 148, .int 0, .int 0, .null, .int 0, .int 0]),
  .inr (0, 35, .inl (fun _ => 0)),
  .inl (2, [.ref 150, .int 0, .int 0, .null, .int 0, .int 0]),
  .inr (0, 35, .inl (fun _ => 0)),
  .inl (2, [.ref 152, .int 0, .int 0, .null, .int 0, .int 0]),
  .inr (0, 35, .inl (fun _ => 0)),
  .inl (2, [.ref 154, .int 0, .int 0, .null, .int 0, .int 0]),
  .inr (0, 35, .inl (fun _ => 0)),
  .inl (2, [.ref 156, .int 0, .int 0, .null, .int 0, .int 0]),
  .inr (0, 35, .inl (fun _ => 0)),
  .inl (2, [.ref 158, .int 0, .int 0, .null, .int 0, .int 0]),
  .inr (0, 35, .inl (fun _ => 0)),
  .inl (2, [.ref 160, .int 0, .int 0, .null, .int 0, .int 0]),
  .inr (0, 35, .inl (fun _ => 0)),
  .inl (2, [.ref 162, .int 0, .int 0, .null, .int 0, .int 0]),
  .inr (0, 35, .inl (fun _ => 0)),
  .inl (2, [.ref 164, .int 0, .int 0, .null, .int 0, .int 0]),
  .inr (0, 35, .inl (fun _ => 0)),
  .inl (2, [.ref 166, .int 0, .int 0, .null, .int 0, .int 0]),
  .inr (0, 35, .inl (fun _ => 0)),
  .inl (2, [.ref 168, .int 0, .int 0, .null, .int 0, .int 0]),
  .inr (0, 35, .inl (fun _ => 0)),
  .inl (2, [.ref 170, .int 0, .int 0, .null, .int 0, .int 0]),
  .inr (0, 35, .inl (fun _ => 0)),
  .inl (2, [.ref 172, .int 0, .int 0, .null, .int 0, .int 0]),
  .inr (0, 35, .inl (fun _ => 0)),
  .inl (2, [.ref 174, .int 0, .int 0, .null, .int 0, .int 0]),
  .inr (0, 35, .inl (fun _ => 0)),
  .inl (2, [.ref 176, .int 0, .int 0, .null, .int 0, .int 0]),
  .inr (0, 35, .inl (fun _ => 0)),
  .inl (2, [.ref 178, .int 0, .int 0, .null, .int 0, .int 0]),
  .inr (0, 35, .inl (fun _ => 0)),
  .inl (2, [.ref 180, .int 0, .int 0, .null, .int 0, .int 0]),
  .inr (0, 35, .inl (fun _ => 0)),
  .inl (2, [.ref 182, .int 0, .int 0, .null, .int 0, .int 0]),
  .inr (0, 35, .inl (fun _ => 0)),
  .inl (2, [.ref 184, .int 0, .int 0, .null, .int 0, .int 0]),
  .inr (0, 35, .inl (fun _ => 0)),
  .inl (2, [.ref 186, .int 0, .int 0, .null, .int 0, .int 0]),
  .inr (0, 35, .inl (fun _ => 0)),
  .inl (2, [.ref 188, .int 0, .int 0, .null, .int 0, .int 0]),
  .inr (0, 35, .inl (fun _ => 0)),
  .inl (2, [.ref 190, .int 0, .int 0, .null, .int 0, .int 0]),
  .inr (0, 35, .inl (fun _ => 0)),
  .inl (2, [.ref 192, .int 0, .int 0, .null, .int 0, .int 0]),
  .inr (0, 35, .inl (fun _ => 0)),
  .inl (2, [.ref 194, .int 0, .int 0, .null, .int 0, .int 0]),
  .inr (0, 35, .inl (fun _ => 0)),
  .inl (2, [.ref 196, .int 0, .int 0, .null, .int 0, .int 0]),
  .inr (0, 35, .inl (fun _ => 0)),
  .inl (2, [.ref 198, .int 0, .int 0, .null, .int 0, .int 0]),
  .inr (0, 35, .inl (fun _ => 0)),
  .inl (2, [.ref 200, .int 0, .int 0, .null, .int 0, .int 0]),
  .inr (0, 35, .inl (fun _ => 0)),
  .inl (2, [.ref 202, .int 0, .int 0, .null, .int 0, .int 0]),
  .inr (0, 35, .inl (fun _ => 0)),
  .inl (2, [.ref 204, .int 0, .int 0, .null, .int 0, .int 0]),
  .inr (0, 35, .inl (fun _ => 0)),
  .inl (2, [.ref 206, .int 0, .int 0, .null, .int 0, .int 0]),
  .inr (0, 35, .inl (fun _ => 0)),
  .inl (2, [.ref 208, .int 0, .int 0, .null, .int 0, .int 0]),
  .inr (0, 35, .inl (fun _ => 0)),
  .inl (2, [.ref 210, .int 0, .int 0, .null, .int 0, .int 0]),
  .inr (0, 35, .inl (fun _ => 0)),
  .inl (2, [.ref 212, .int 0, .int 0, .null, .int 0, .int 0]),
  .inr (0, 35, .inl (fun _ => 0)),
  .inl (2, [.ref 214, .int 0, .int 0, .null, .int 0, .int 0]),
  .inr (0, 35, .inl (fun _ => 0)),
  .inl (2, [.ref 216, .int 0, .int 0, .null, .int 0, .int 0]),
  .inr (0, 35, .inl (fun _ => 0)),
  .inl (2, [.ref 218, .int 0, .int 0, .null, .int 0, .int 0]),
  .inr (0, 35, .inl (fun _ => 0)),
  .inl (2, [.ref 220, .int 0, .int 0, .null, .int 0, .int 0]),
  .inr (0, 35, .inl (fun _ => 0)),
  .inl (2, [.ref 222, .int 0, .int 0, .null, .int 0, .int 0]),
  .inr (0, 35, .inl (fun _ => 0)),
  .inl (2, [.ref 224, .int 0, .int 0, .null, .int 0, .int 0]),
  .inr (0, 35, .inl (fun _ => 0)),
  .inl (2, [.ref 226, .int 0, .int 0, .null, .int 0, .int 0]),
  .inr (0, 35, .inl (fun _ => 0)),
  .inl (2, [.ref 228, .int 0, .int 0, .null, .int 0, .int 0]),
  .inr (0, 35, .inl (fun _ => 0)),
  .inl (2, [.ref 230, .int 0, .int 0, .null, .int 0, .int 0]),
  .inr (0, 35, .inl (fun _ => 0)),
  .inl (2, [.ref 232, .int 0, .int 0, .null, .int 0, .int 0]),
  .inr (0, 35, .inl (fun _ => 0)),
  .inl (2, [.ref 234, .int 0, .int 0, .null, .int 0, .int 0]),
  .inr (0, 35, .inl (fun _ => 0)),
  .inl (2, [.ref 236, .int 0, .int 0, .null, .int 0, .int 0]),
  .inr (0, 35, .inl (fun _ => 0)),
  .inl (2, [.ref 238, .int 0, .int 0, .null, .int 0, .int 0]),
  .inr (0, 35, .inl (fun _ => 0)),
  .inl (2, [.ref 240, .int 0, .int 0, .null, .int 0, .int 0]),
  .inr (0, 35, .inl (fun _ => 0)),
  .inl (2, [.ref 242, .int 0, .int 0, .null, .int 0, .int 0]),
  .inr (0, 35, .inl (fun _ => 0)),
  .inl (2, [.ref 244, .int 0, .int 0, .null, .int 0, .int 0]),
  .inr (0, 35, .inl (fun _ => 0)),
  .inl (2, [.ref 246, .int 0, .int 0, .null, .int 0, .int 0]),
  .inr (0, 35, .inl (fun _ => 0)),
  .inl (2, [.ref 248, .int 0, .int 0, .null, .int 0, .int 0]),
  .inr (0, 35, .inl (fun _ => 0)),
  .inl (3, [.ref 250, .int 0]),
  .inr (12, 80, .inr (.inr (refsC 251 2 80))),
  .inl (2, [.ref 252, .int 0, .int 0, .null, .int 0, .int 0]),
  .inr (0, 35, .inl (fun _ => 0)),
  .inl (2, [.ref 254, .int 0, .int 0, .null, .int 0, .int 0]),
  .inr (0, 35, .inl (fun _ => 0)),
  .inl (2, [.ref 256, .int 0, .int 0, .null, .int 0, .int 0]),
  .inr (0, 35, .inl (fun _ => 0)),
  .inl (2, [.ref 258, .int 0, .int 0, .null, .int 0, .int 0]),
  .inr (0, 35, .inl (fun _ => 0)),
  .inl (2, [.ref 260, .int 0, .int 0, .null, .int 0, .int 0]),
  .inr (0, 35, .inl (fun _ => 0)),
  .inl (2, [.ref 262, .int 0, .int 0, .null, .int 0, .int 0]),
  .inr (0, 35, .inl (fun _ => 0)),
  .inl (2, [.ref 264, .int 0, .int 0, .null, .int 0, .int 0]),
  .inr (0, 35, .inl (fun _ => 0)),
  .inl (2, [.ref 266, .int 0, .int 0, .null, .int 0, .int 0]),
  .inr (0, 35, .inl (fun _ => 0)),
  .inl (2, [.ref 268, .int 0, .int 0, .null, .int 0, .int 0]),
  .inr (0, 35, .inl (fun _ => 0)),
  .inl (2, [.ref 270, .int 0, .int 0, .null, .int 0, .int 0]),
  .inr (0, 35, .inl (fun _ => 0)),
  .inl (2, [.ref 272, .int 0, .int 0, .null, .int 0, .int 0]),
  .inr (0, 35, .inl (fun _ => 0)),
  .inl (2, [.ref 274, .int 0, .int 0, .null, .int 0, .int 0]),
  .inr (0, 35, .inl (fun _ => 0)),
  .inl (2, [.ref 276, .int 0, .int 0, .null, .int 0, .int 0]),
  .inr (0, 35, .inl (fun _ => 0)),
  .inl (2, [.ref 278, .int 0, .int 0, .null, .int 0, .int 0]),
  .inr (0, 35, .inl (fun _ => 0)),
  .inl (2, [.ref 280, .int 0, .int 0, .null, .int 0, .int 0]),
  .inr (0, 35, .inl (fun _ => 0)),
  .inl (2, [.ref 282, .int 0, .int 0, .null, .int 0, .int 0]),
  .inr (0, 35, .inl (fun _ => 0)),
  .inl (2, [.ref 284, .int 0, .int 0, .null, .int 0, .int 0]),
  .inr (0, 35, .inl (fun _ => 0)),
  .inl (2, [.ref 286, .int 0, .int 0, .null, .int 0, .int 0]),
  .inr (0, 35, .inl (fun _ => 0)),
  .inl (2, [.ref 288, .int 0, .int 0, .null, .int 0, .int 0]),
  .inr (0, 35, .inl (fun _ => 0)),
  .inl (2, [.ref 290, .int 0, .int 0, .null, .int 0, .int 0]),
  .inr (0, 35, .inl (fun _ => 0)),
  .inl (2, [.ref 292, .int 0, .int 0, .null, .int 0, .int 0]),
  .inr (0, 35, .inl (fun _ => 0)),
  .inl (2, [.ref 294, .int 0, .int 0, .null, .int 0, .int 0]),
  .inr (0, 35, .inl (fun _ => 0)),
  .inl (2, [.ref 296, .int 0, .int 0, .null, .int 0, .int 0]),
  .inr (0, 35, .inl (fun _ => 0)),
  .inl (2, [.ref 298, .int 0, .int 0, .null, .int 0, .int 0]),
  .inr (0, 35, .inl (fun _ => 0)),
  .inl (2, [.ref 300, .int 0, .int 0, .null, .int 0, .int 0]),
  .inr (0, 35, .inl (fun _ => 0)),
  .inl (2, [.ref 302, .int 0, .int 0, .null, .int 0, .int 0]),
  .inr (0, 35, .inl (fun _ => 0)),
  .inl (2, [.ref 304, .int 0, .int 0, .null, .int 0, .int 0]),
  .inr (0, 35, .inl (fun _ => 0)),
  .inl (2, [.ref 306, .int 0, .int 0, .null, .int 0, .int 0]),
  .inr (0, 35, .inl (fun _ => 0)),
  .inl (2, [.ref 308, .int 0, .int 0, .null, .int 0, .int 0]),
  .inr (0, 35, .inl (fun _ => 0)),
  .inl (2, [.ref 310, .int 0, .int 0, .null, .int 0, .int 0]),
  .inr (0, 35, .inl (fun _ => 0)),
  .inl (2, [.ref 312, .int 0, .int 0, .null, .int 0, .int 0]),
  .inr (0, 35, .inl (fun _ => 0)),
  .inl (2, [.ref 314, .int 0, .int 0, .null, .int 0, .int 0]),
  .inr (0, 35, .inl (fun _ => 0)),
  .inl (2, [.ref 316, .int 0, .int 0, .null, .int 0, .int 0]),
  .inr (0, 35, .inl (fun _ => 0)),
  .inl (2, [.ref 318, .int 0, .int 0, .null, .int 0, .int 0]),
  .inr (0, 35, .inl (fun _ => 0)),
  .inl (2, [.ref 320, .int 0, .int 0, .null, .int 0, .int 0]),
  .inr (0, 35, .inl (fun _ => 0)),
  .inl (2, [.ref 322, .int 0, .int 0, .null, .int 0, .int 0]),
  .inr (0, 35, .inl (fun _ => 0)),
  .inl (2, [.ref 324, .int 0, .int 0, .null, .int 0, .int 0]),
  .inr (0, 35, .inl (fun _ => 0)),
  .inl (2, [.ref 326, .int 0, .int 0, .null, .int 0, .int 0]),
  .inr (0, 35, .inl (fun _ => 0)),
  .inl (2, [.ref 328, .int 0, .int 0, .null, .int 0, .int 0]),
  .inr (0, 35, .inl (fun _ => 0)),
  .inl (2, [.ref 330, .int 0, .int 0, .null, .int 0, .int 0]),
  .inr (0, 35, .inl (fun _ => 0)),
  .inl (2, [.ref 332, .int 0, .int 0, .null, .int 0, .int 0]),
  .inr (0, 35, .inl (fun _ => 0)),
  .inl (2, [.ref 334, .int 0, .int 0, .null, .int 0, .int 0]),
  .inr (0, 35, .inl (fun _ => 0)),
  .inl (2, [.ref 336, .int 0, .int 0, .null, .int 0, .int 0]),
  .inr (0, 35, .inl (fun _ => 0)),
  .inl (2, [.ref 338, .int 0, .int 0, .null, .int 0, .int 0]),
  .inr (0, 35, .inl (fun _ => 0)),
  .inl (2, [.ref 340, .int 0, .int 0, .null, .int 0, .int 0]),
  .inr (0, 35, .inl (fun _ => 0)),
  .inl (2, [.ref 342, .int 0, .int 0, .null, .int 0, .int 0]),
  .inr (0, 35, .inl (fun _ => 0)),
  .inl (2, [.ref 344, .int 0, .int 0, .null, .int 0, .int 0]),
  .inr (0, 35, .inl (fun _ => 0)),
  .inl (2, [.ref 346, .int 0, .int 0, .null, .int 0, .int 0]),
  .inr (0, 35, .inl (fun _ => 0)),
  .inl (2, [.ref 348, .int 0, .int 0, .null, .int 0, .int 0]),
  .inr (0, 35, .inl (fun _ => 0)),
  .inl (2, [.ref 350, .int 0, .int 0, .null, .int 0, .int 0]),
  .inr (0, 35, .inl (fun _ => 0)),
  .inl (2, [.ref 352, .int 0, .int 0, .null, .int 0, .int 0]),
  .inr (0, 35, .inl (fun _ => 0)),
  .inl (2, [.ref 354, .int 0, .int 0, .null, .int 0, .int 0]),
  .inr (0, 35, .inl (fun _ => 0)),
  .inl (2, [.ref 356, .int 0, .int 0, .null, .int 0, .int 0]),
  .inr (0, 35, .inl (fun _ => 0)),
  .inl (2, [.ref 358, .int 0, .int 0, .null, .int 0, .int 0]),
  .inr (0, 35, .inl (fun _ => 0)),
  .inl (2, [.ref 360, .int 0, .int 0, .null, .int 0, .int 0]),
  .inr (0, 35, .inl (fun _ => 0)),
  .inl (2, [.ref 362, .int 0, .int 0, .null, .int 0, .int 0]),
  .inr (0, 35, .inl (fun _ => 0)),
  .inl (2, [.ref 364, .int 0, .int 0, .null, .int 0, .int 0]),
  .inr (0, 35, .inl (fun _ => 0)),
  .inl (2, [.ref 366, .int 0, .int 0, .null, .int 0, .int 0]),
  .inr (0, 35, .inl (fun _ => 0)),
  .inl (2, [.ref 368, .int 0, .int 0, .null, .int 0, .int 0]),
  .inr (0, 35, .inl (fun _ => 0)),
  .inl (2, [.ref 370, .int 0, .int 0, .null, .int 0, .int 0]),
  .inr (0, 35, .inl (fun _ => 0)),
  .inl (2, [.ref 372, .int 0, .int 0, .null, .int 0, .int 0]),
  .inr (0, 35, .inl (fun _ => 0)),
  .inl (2, [.ref 374, .int 0, .int 0, .null, .int 0, .int 0]),
  .inr (0, 35, .inl (fun _ => 0)),
  .inl (2, [.ref 376, .int 0, .int 0, .null, .int 0, .int 0]),
  .inr (0, 35, .inl (fun _ => 0)),
  .inl (2, [.ref 378, .int 0, .int 0, .null, .int 0, .int 0]),
  .inr (0, 35, .inl (fun _ => 0)),
  .inl (2, [.ref 380, .int 0, .int 0, .null, .int 0, .int 0]),
  .inr (0, 35, .inl (fun _ => 0)),
  .inl (2, [.ref 382, .int 0, .int 0, .null, .int 0, .int 0]),
  .inr (0, 35, .inl (fun _ => 0)),
  .inl (2, [.ref 384, .int 0, .int 0, .null, .int 0, .int 0]),
  .inr (0, 35, .inl (fun _ => 0)),
  .inl (2, [.ref 386, .int 0, .int 0, .null, .int 0, .int 0]),
  .inr (0, 35, .inl (fun _ => 0)),
  .inl (2, [.ref 388, .int 0, .int 0, .null, .int 0, .int 0]),
  .inr (0, 35, .inl (fun _ => 0)),
  .inl (2, [.ref 390, .int 0, .int 0, .null, .int 0, .int 0]),
  .inr (0, 35, .inl (fun _ => 0)),
  .inl (2, [.ref 392, .int 0, .int 0, .null, .int 0, .int 0]),
  .inr (0, 35, .inl (fun _ => 0)),
  .inl (2, [.ref 394, .int 0, .int 0, .null, .int 0, .int 0]),
  .inr (0, 35, .inl (fun _ => 0)),
  .inl (2, [.ref 396, .int 0, .int 0, .null, .int 0, .int 0]),
  .inr (0, 35, .inl (fun _ => 0)),
  .inl (2, [.ref 398, .int 0, .int 0, .null, .int 0, .int 0]),
  .inr (0, 35, .inl (fun _ => 0)),
  .inl (2, [.ref 400, .int 0, .int 0, .null, .int 0, .int 0]),
  .inr (0, 35, .inl (fun _ => 0)),
  .inl (2, [.ref 402, .int 0, .int 0, .null, .int 0, .int 0]),
  .inr (0, 35, .inl (fun _ => 0)),
  .inl (2, [.ref 404, .int 0, .int 0, .null, .int 0, .int 0]),
  .inr (0, 35, .inl (fun _ => 0)),
  .inl (2, [.ref 406, .int 0, .int 0, .null, .int 0, .int 0]),
  .inr (0, 35, .inl (fun _ => 0)),
  .inl (2, [.ref 408, .int 0, .int 0, .null, .int 0, .int 0]),
  .inr (0, 35, .inl (fun _ => 0)),
  .inl (2, [.ref 410, .int 0, .int 0, .null, .int 0, .int 0]),
  .inr (0, 35, .inl (fun _ => 0)),
  .inl (4, [.ref 412]),
  .inl (2, [.ref 413, .int 0, .int 0, .null, .int 0, .int 0]),
  .inr (0, 35, .inl (fun _ => 0)),
  .inl (9, [.ref 415, .ref 417, .ref 419, .int 0]),
  .inl (1, [.ref 416, .int 0]),
  .inr (0, 26000, .inl (fun _ => 0)),
  .inl (2, [.ref 418, .int 0, .int 0, .null, .int 0, .int 0]),
  .inr (0, 35, .inl (fun _ => 0)),
  .inl (2, [.ref 420, .int 0, .int 0, .null, .int 0, .int 0]),
  .inr (0, 35, .inl (fun _ => 0)),
  .inl (6, [.ref 422, .int 0, .ref 423, .int 0]),
  .inr (2, 12, .inr (.inl (fun _ => 0))),
  .inr (15, 6, .inr (.inr (refsC 424 5 6))),
  .inl (5, [.ref 425, .ref 427]),
  .inl (1, [.ref 426, .int 0]),
  .inr (0, 8, .inl (fun _ => 0)),
  .inl (1, [.ref 428, .int 0]),
  .inr (0, 12, .inl (fun _ => 0)),
  .inl (5, [.ref 430, .ref 432]),
  .inl (1, [.ref 431, .int 0]),
  .inr (0, 8, .inl (fun _ => 0)),
  .inl (1, [.ref 433, .int 0]),
  .inr (0, 12, .inl (fun _ => 0)),
  .inl (5, [.ref 435, .ref 437]),
  .inl (1, [.ref 436, .int 0]),
  .inr (0, 8, .inl (fun _ => 0)),
  .inl (1, [.ref 438, .int 0]),
  .inr (0, 12, .inl (fun _ => 0)),
  .inl (5, [.ref 440, .ref 442]),
  .inl (1, [.ref 441, .int 0]),
  .inr (0, 8, .inl (fun _ => 0)),
  .inl (1, [.ref 443, .int 0]),
  .inr (0, 12, .inl (fun _ => 0)),
  .inl (5, [.ref 445, .ref 447]),
  .inl (1, [.ref 446, .int 0]),
  .inr (0, 8, .inl (fun _ => 0)),
  .inl (1, [.ref 448, .int 0]),
  .inr (0, 12, .inl (fun _ => 0)),
  .inl (5, [.ref 450, .ref 452]),
  .inl (1, [.ref 451, .int 0]),
  .inr (0, 8, .inl (fun _ => 0)),
  .inl (1, [.ref 453, .int 0]),
  .inr (0, 12, .inl (fun _ => 0)),
  .inl (4, [.ref 455]),
  .inl (2, [.ref 456, .int 0, .int 0, .null, .int 0, .int 0]),
  .inr (0, 35, .inl (fun _ => 0)),
  .inl (3, [.ref 458, .int 0]),
  .inr (12, 80, .inr (.inr (refsC 459 2 80))),
  .inl (2, [.ref 460, .int 0, .int 0, .null, .int 0, .int 0]),
  .inr (0, 35, .inl (fun _ => 0)),
  .inl (2, [.ref 462, .int 0, .int 0, .null, .int 0, .int 0]),
  .inr (0, 35, .inl (fun _ => 0)),
  .inl (2, [.ref 464, .int 0, .int 0, .null, .int 0, .int 0]),
  .inr (0, 35, .inl (fun _ => 0)),
  .inl (2, [.ref 466, .int 0, .int 0, .null, .int 0, .int 0]),
  .inr (0, 35, .inl (fun _ => 0)),
  .inl (2, [.ref 468, .int 0, .int 0, .null, .int 0, .int 0]),
  .inr (0, 35, .inl (fun _ => 0)),
  .inl (2, [.ref 470, .int 0, .int 0, .null, .int 0, .int 0]),
  .inr (0, 35, .inl (fun _ => 0)),
  .inl (2, [.ref 472, .int 0, .int 0, .null, .int 0, .int 0]),
  .inr (0, 35, .inl (fun _ => 0)),
  .inl (2, [.ref 474, .int 0, .int 0, .null, .int 0, .int 0]),
  .inr (0, 35, .inl (fun _ => 0)),
  .inl (2, [.ref 476, .int 0, .int 0, .null, .int 0, .int 0]),
  .inr (0, 35, .inl (fun _ => 0)),
  .inl (2, [.ref 478, .int 0, .int 0, .null, .int 0, .int 0]),
  .inr (0, 35, .inl (fun _ => 0)),
  .inl (2, [.ref 480, .int 0, .int 0, .null, .int 0, .int 0]),
  .inr (0, 35, .inl (fun _ => 0)),
  .inl (2, [.ref 482, .int 0, .int 0, .null, .int 0, .int 0]),
  .inr (0, 35, .inl (fun _ => 0)),
  .inl (2, [.ref 484, .int 0, .int 0, .null, .int 0, .int 0]),
  .inr (0, 35, .inl (fun _ => 0)),
  .inl (2, [.ref 486, .int 0, .int 0, .null, .int 0, .int 0]),
  .inr (0, 35, .inl (fun _ => 0)),
  .inl (2, [.ref 488, .int 0, .int 0, .null, .int 0, .int 0]),
  .inr (0, 35, .inl (fun _ => 0)),
  .inl (2, [.ref 490, .int 0, .int 0, .null, .int 0, .int 0]),
  .inr (0, 35, .inl (fun _ => 0)),
  .inl (2, [.ref 492, .int 0, .int 0, .null, .int 0, .int 0]),
  .inr (0, 35, .inl (fun _ => 0)),
  .inl (2, [.ref 494, .int 0, .int 0, .null, .int 0, .int 0]),
  .inr (0, 35, .inl (fun _ => 0)),
  .inl (2, [.ref 496, .int 0, .int 0, .null, .int 0, .int 0]),
  .inr (0, 35, .inl (fun _ => 0)),
  .inl (2, [.ref 498, .int 0, .int 0, .null, .int 0, .int 0]),
  .inr (0, 35, .inl (fun _ => 0)),
  .inl (2, [.ref 500, .int 0, .int 0, .null, .int 0, .int 0]),
  .inr (0, 35, .inl (fun _ => 0)),
  .inl (2, [.ref 502, .int 0, .int 0, .null, .int 0, .int 0]),
  .inr (0, 35, .inl (fun _ => 0)),
  .inl (2, [.ref 504, .int 0, .int 0, .null, .int 0, .int 0]),
  .inr (0, 35, .inl (fun _ => 0)),
  .inl (2, [.ref 506, .int 0, .int 0, .null, .int 0, .int 0]),
  .inr (0, 35, .inl (fun _ => 0)),
  .inl (2, [.ref 508, .int 0, .int 0, .null, .int 0, .int 0]),
  .inr (0, 35, .inl (fun _ => 0)),
  .inl (2, [.ref 510, .int 0, .int 0, .null, .int 0, .int 0]),
  .inr (0, 35, .inl (fun _ => 0)),
  .inl (2, [.ref 512, .int 0, .int 0, .null, .int 0, .int 0]),
  .inr (0, 35, .inl (fun _ => 0)),
  .inl (2, [.ref 514, .int 0, .int 0, .null, .int 0, .int 0]),
  .inr (0, 35, .inl (fun _ => 0)),
  .inl (2, [.ref 516, .int 0, .int 0, .null, .int 0, .int 0]),
  .inr (0, 35, .inl (fun _ => 0)),
  .inl (2, [.ref 518, .int 0, .int 0, .null, .int 0, .int 0]),
  .inr (0, 35, .inl (fun _ => 0)),
  .inl (2, [.ref 520, .int 0, .int 0, .null, .int 0, .int 0]),
  .inr (0, 35, .inl (fun _ => 0)),
  .inl (2, [.ref 522, .int 0, .int 0, .null, .int 0, .int 0]),
  .inr (0, 35, .inl (fun _ => 0)),
  .inl (2, [.ref 524, .int 0, .int 0, .null, .int 0, .int 0]),
  .inr (0, 35, .inl (fun _ => 0)),
  .inl (2, [.ref 526, .int 0, .int 0, .null, .int 0, .int 0]),
  .inr (0, 35, .inl (fun _ => 0)),
  .inl (2, [.ref 528, .int 0, .int 0, .null, .int 0, .int 0]),
  .inr (0, 35, .inl (fun _ => 0)),
  .inl (2, [.ref 530, .int 0, .int 0, .null, .int 0, .int 0]),
  .inr (0, 35, .inl (fun _ => 0)),
  .inl (2, [.ref 532, .int 0, .int 0, .null, .int 0, .int 0]),
  .inr (0, 35, .inl (fun _ => 0)),
  .inl (2, [.ref 534, .int 0, .int 0, .null, .int 0, .int 0]),
  .inr (0, 35, .inl (fun _ => 0)),
  .inl (2, [.ref 536, .int 0, .int 0, .null, .int 0, .int 0]),
  .inr (0, 35, .inl (fun _ => 0)),
  .inl (2, [.ref 538, .int 0, .int 0, .null, .int 0, .int 0]),
  .inr (0, 35, .inl (fun _ => 0)),
  .inl (2, [.ref 540, .int 0, .int 0, .null, .int 0, .int 0]),
  .inr (0, 35, .inl (fun _ => 0)),
  .inl (2, [.ref 542, .int 0, .int 0, .null, .int 0, .int 0]),
  .inr (0, 35, .inl (fun _ => 0)),
  .inl (2, [.ref 544, .int 0, .int 0, .null, .int 0, .int 0]),
  .inr (0, 35, .inl (fun _ => 0)),
  .inl (2, [.ref 546, .int 0, .int 0, .null, .int 0, .int 0]),
  .inr (0, 35, .inl (fun _ => 0)),
  .inl (2, [.ref 548, .int 0, .int 0, .null, .int 0, .int 0]),
  .inr (0, 35, .inl (fun _ => 0)),
  .inl (2, [.ref 550, .int 0, .int 0, .null, .int 0, .int 0]),
  .inr (0, 35, .inl (fun _ => 0)),
  .inl (2, [.ref 552, .int 0, .int 0, .null, .int 0, .int 0]),
  .inr (0, 35, .inl (fun _ => 0)),
  .inl (2, [.ref 554, .int 0, .int 0, .null, .int 0, .int 0]),
  .inr (0, 35, .inl (fun _ => 0)),
  .inl (2, [.ref 556, .int 0, .int 0, .null, .int 0, .int 0]),
  .inr (0, 35, .inl (fun _ => 0)),
  .inl (2, [.ref 558, .int 0, .int 0, .null, .int 0, .int 0]),
  .inr (0, 35, .inl (fun _ => 0)),
  .inl (2, [.ref 560, .int 0, .int 0, .null, .int 0, .int 0]),
  .inr (0, 35, .inl (fun _ => 0)),
  .inl (2, [.ref 562, .int 0, .int 0, .null, .int 0, .int 0]),
  .inr (0, 35, .inl (fun _ => 0)),
  .inl (2, [.ref 564, .int 0, .int 0, .null, .int 0, .int 0]),
  .inr (0, 35, .inl (fun _ => 0)),
  .inl (2, [.ref 566, .int 0, .int 0, .null, .int 0, .int 0]),
  .inr (0, 35, .inl (fun _ => 0)),
  .inl (2, [.ref 568, .int 0, .int 0, .null, .int 0, .int 0]),
  .inr (0, 35, .inl (fun _ => 0)),
  .inl (2, [.ref 570, .int 0, .int 0, .null, .int 0, .int 0]),
  .inr (0, 35, .inl (fun _ => 0)),
  .inl (2, [.ref 572, .int 0, .int 0, .null, .int 0, .int 0]),
  .inr (0, 35, .inl (fun _ => 0)),
  .inl (2, [.ref 574, .int 0, .int 0, .null, .int 0, .int 0]),
  .inr (0, 35, .inl (fun _ => 0)),
  .inl (2, [.ref 576, .int 0, .int 0, .null, .int 0, .int 0]),
  .inr (0, 35, .inl (fun _ => 0)),
  .inl (2, [.ref 578, .int 0, .int 0, .null, .int 0, .int 0]),
  .inr (0, 35, .inl (fun _ => 0)),
  .inl (2, [.ref 580, .int 0, .int 0, .null, .int 0, .int 0]),
  .inr (0, 35, .inl (fun _ => 0)),
  .inl (2, [.ref 582, .int 0, .int 0, .null, .int 0, .int 0]),
  .inr (0, 35, .inl (fun _ => 0)),
  .inl (2, [.ref 584, .int 0, .int 0, .null, .int 0, .int 0]),
  .inr (0, 35, .inl (fun _ => 0)),
  .inl (2, [.ref 586, .int 0, .int 0, .null, .int 0, .int 0]),
  .inr (0, 35, .inl (fun _ => 0)),
  .inl (2, [.ref 588, .int 0, .int 0, .null, .int 0, .int 0]),
  .inr (0, 35, .inl (fun _ => 0)),
  .inl (2, [.ref 590, .int 0, .int 0, .null, .int 0, .int 0]),
  .inr (0, 35, .inl (fun _ => 0)),
  .inl (2, [.ref 592, .int 0, .int 0, .null, .int 0, .int 0]),
  .inr (0, 35, .inl (fun _ => 0)),
  .inl (2, [.ref 594, .int 0, .int 0, .null, .int 0, .int 0]),
  .inr (0, 35, .inl (fun _ => 0)),
  .inl (2, [.ref 596, .int 0, .int 0, .null, .int 0, .int 0]),
  .inr (0, 35, .inl (fun _ => 0)),
  .inl (2, [.ref 598, .int 0, .int 0, .null, .int 0, .int 0]),
  .inr (0, 35, .inl (fun _ => 0)),
  .inl (2, [.ref 600, .int 0, .int 0, .null, .int 0, .int 0]),
  .inr (0, 35, .inl (fun _ => 0)),
  .inl (2, [.ref 602, .int 0, .int 0, .null, .int 0, .int 0]),
  .inr (0, 35, .inl (fun _ => 0)),
  .inl (2, [.ref 604, .int 0, .int 0, .null, .int 0, .int 0]),
  .inr (0, 35, .inl (fun _ => 0)),
  .inl (2, [.ref 606, .int 0, .int 0, .null, .int 0, .int 0]),
  .inr (0, 35, .inl (fun _ => 0)),
  .inl (2, [.ref 608, .int 0, .int 0, .null, .int 0, .int 0]),
  .inr (0, 35, .inl (fun _ => 0)),
  .inl (2, [.ref 610, .int 0, .int 0, .null, .int 0, .int 0]),
  .inr (0, 35, .inl (fun _ => 0)),
  .inl (2, [.ref 612, .int 0, .int 0, .null, .int 0, .int 0]),
  .inr (0, 35, .inl (fun _ => 0)),
  .inl (2, [.ref 614, .int 0, .int 0, .null, .int 0, .int 0]),
  .inr (0, 35, .inl (fun _ => 0)),
  .inl (2, [.ref 616, .int 0, .int 0, .null, .int 0, .int 0]),
  .inr (0, 35, .inl (fun _ => 0)),
  .inl (2, [.ref 618, .int 0, .int 0, .null, .int 0, .int 0]),
  .inr (0, 35, .inl (fun _ => 0)),
  .inl (11, [.int 0, .ref 620, .int 0, .ref 621, .ref 622, .ref 623, .ref 624, .ref 625, .ref 626, .ref 627, .ref 628, .ref 629, .ref 630, .ref 631, .ref 632, .ref 633, .ref 634, .int 0, .ref 635, .ref 636, .int 0, .ref 637, .ref 638, .ref 639, .ref 640, .ref 641, .int 0, .ref 642, .ref 643, .ref 644, .ref 645, .ref 646, .int 0, .ref 647, .int 0, .ref 648, .int 0, .ref 649, .int 0, .ref 650, .ref 651, .ref 652, .ref 653, .int 0, .int (-1), .int 0, .int 0, .int 0, .ref 654, .ref 655, .ref 656, .ref 657, .ref 658, .ref 659, .ref 660, .ref 661, .ref 662, .ref 663, .ref 664, .ref 665, .ref 666, .ref 667]),
  .inr (1, 600, .inl (fun _ => 0)),
  .inr (1, 2, .inl (fun _ => 0)),
  .inr (2, 122, .inr (.inl (fun _ => 0))),
  .inr (1, 122, .inl (fun _ => 0)),
  .inr (1, 122, .inl (fun _ => 0)),
  .inr (1, 80000, .inl (fun _ => 0)),
  .inr (1, 2, .inl (fun _ => 0)),
  .inr (2, 16, .inr (.inl (fun _ => 0))),
  .inr (3, 16, .inl (fun _ => 0)),
  .inr (1, 2, .inl (fun _ => 0)),
  .inr (2, 120, .inr (.inl (fun _ => 0))),
  .inr (2, 120, .inr (.inl (fun _ => 0))),
  .inr (1, 80000, .inl (fun _ => 0)),
  .inr (1, 2, .inl (fun _ => 0)),
  .inr (1, 2, .inl (fun _ => 0)),
  .inr (3, 61, .inl (fun _ => 0)),
  .inr (1, 40100, .inl (fun _ => 0)),
  .inr (1, 2952, .inl (fun _ => 0)),
  .inr (1, 82, .inl (fun _ => 0)),
  .inr (1, 82, .inl (fun _ => 0)),
  .inr (1, 82, .inl (fun _ => 0)),
  .inr (1, 82082, .inl (fun _ => 0)),
  .inr (1, 1656, .inl (fun _ => 0)),
  .inr (1, 46, .inl (fun _ => 0)),
  .inr (1, 46, .inl (fun _ => 0)),
  .inr (1, 46, .inl (fun _ => 0)),
  .inr (1, 46046, .inl (fun _ => 0)),
  .inr (1, 240, .inl (fun _ => 0)),
  .inr (1, 240, .inl (fun _ => 0)),
  .inr (2, 13, .inr (.inl (fun _ => 0))),
  .inr (1, 56, .inl (fun _ => 0)),
  .inr (1, 7, .inl (fun _ => 0)),
  .inr (1, 84, .inl (fun _ => 0)),
  .inr (1, 7, .inl (fun _ => 0)),
  .inr (1, 9000, .inl (fun _ => 0)),
  .inr (3, 4, .inl (fun _ => 0)),
  .inr (1, 4, .inl (fun _ => 0)),
  .inr (1, 4, .inl (fun _ => 0)),
  .inr (1, 4, .inl (fun _ => 0)),
  .inr (3, 4, .inl (fun _ => 0)),
  .inr (1, 4, .inl (fun _ => 0)),
  .inr (3, 4, .inl (fun _ => 0)),
  .inr (3, 4, .inl (fun _ => 0)),
  .inr (2, 4, .inr (.inl (fun _ => 0))),
  .inr (1, 1200, .inl (fun _ => 0)),
  .inr (1, 4, .inl (fun _ => 0)),
  .inr (1, 24000, .inl (fun _ => 0)),
  .inr (1, 4, .inl (fun _ => 0)),
  .inr (2, 1, .inr (.inl (fun _ => 0)))]
set_option maxRecDepth 16384 in
theorem hpC_T : hpC = hpT := by rfl
def tmpl (r : Nat) : px_C := (hpT[r]?).getD (.inl (0, []))
def shape (h : px_H) : Prop := 669 ≤ h.2.length ∧ ∀ r, r < 669 → fillC (cell h r) (tmpl r) = cell h r
set_option maxRecDepth 16384 in
theorem cell_some {h : px_H} {r : Nat} (hr : r < h.2.length) : h.2[r]? = some (cell h r) := by
  unfold cell; rw [List.getElem?_eq_getElem hr]; rfl
set_option maxRecDepth 16384 in
theorem cell_wr (h : px_H) (r r' : Nat) (x : px_C) : cell (px_wr h r x) r' = if r = r' ∧ r < h.2.length then x else cell h r' := by
  unfold cell
  rw [wr_at]
  by_cases e : r = r'
  · subst e
    rw [if_pos rfl]
    by_cases hl : r < h.2.length
    · rw [if_pos hl, if_pos ⟨rfl, hl⟩]; rfl
    · rw [if_neg hl, if_neg (fun q => hl q.2), List.getElem?_eq_none (by omega)]
  · rw [if_neg e, if_neg (fun q => e q.1)]
set_option maxRecDepth 16384 in
theorem cell_al {h : px_H} (w r : Nat) (x : px_C) (hr : r < h.2.length) : cell (px_al h w x) r = cell h r := by
  unfold cell; rw [al_at, if_pos hr]
set_option maxRecDepth 16384 in
theorem shape_at {h : px_H} (hs : shape h) {r : Nat} (hr : r < 669) : h.2[r]? = some (fillC (cell h r) (tmpl r)) := by
  rw [hs.2 r hr]; exact cell_some (by have := hs.1; omega)
set_option maxRecDepth 16384 in
theorem shape_wr {h : px_H} (hs : shape h) {r : Nat} {x : px_C} (hx : fillC x (tmpl r) = x) : shape (px_wr h r x) := by
  refine ⟨by rw [px_wr_len]; exact hs.1, fun r' hr' => ?_⟩
  rw [cell_wr]
  by_cases e : r = r' ∧ r < h.2.length
  · rw [if_pos e, ← e.1]; exact hx
  · rw [if_neg e]; exact hs.2 r' hr'
set_option maxRecDepth 16384 in
theorem shape_al {h : px_H} (hs : shape h) (w : Nat) (x : px_C) : shape (px_al h w x) := by
  refine ⟨by rw [px_al_len]; have := hs.1; omega, fun r hr => ?_⟩
  rw [cell_al w r x (by have := hs.1; omega)]; exact hs.2 r hr
set_option maxRecDepth 16384 in
theorem shape_1 {h : px_H} (hs : shape h) : ∀ r, r < 669 → (r < h.2.length) = True := fun r hr => eq_true (by have := hs.1; omega)
set_option maxRecDepth 16384 in
theorem shape_2 {h : px_H} (hs : shape h) : ∀ r, r < 669 → (r < h.2.length + 1) = True := fun r hr => eq_true (by have := hs.1; omega)
def fI (h : px_H) (r k : Nat) : Int32 := cI (cell h r) k
def fJ (h : px_H) (r k : Nat) : Int64 := cJ (cell h r) k
def iA (h : px_H) (r : Nat) : Nat → Int32 := cA (cell h r)
def lA (h : px_H) (r : Nat) : Nat → Int64 := cL (cell h r)
def rA (h : px_H) (r : Nat) : Nat → Option Nat := cR (cell h r)
set_option maxRecDepth 16384 in
theorem fillF_self (c : Nat) (fs : List Value) : ∀ (ts : List Value) (k : Nat), (∀ j, fs[k + j]? = ts[j]?) → fillF (.inl (c, fs)) k ts = ts := by
  intro ts
  induction ts with
  | nil => intro k _; rfl
  | cons t ts ih =>
    intro k hk
    have h0 : fs[k]? = some t := by have := hk 0; rw [Nat.add_zero] at this; rw [this]; rfl
    have ht : fillF (.inl (c, fs)) (k + 1) ts = ts := ih (k + 1) (fun j => by have := hk (j + 1); rw [show k + (j + 1) = k + 1 + j by omega] at this; rw [this]; rfl)
    cases t <;> simp only [fillF, cI, cJ, cV, h0, ht]
set_option maxRecDepth 16384 in
theorem fill_self (t : px_C) : fillC t t = t := by
  match t with
  | .inl (c, ts) => show (Sum.inl (c, fillF (.inl (c, ts)) 0 ts) : px_C) = _; rw [fillF_self c ts ts 0 (fun j => by rw [Nat.zero_add])]
  | .inr (_, _, .inl _) => rfl
  | .inr (_, _, .inr (.inl _)) => rfl
  | .inr (t, n, .inr (.inr f)) => show (Sum.inr (t, n, .inr (.inr (if 16 < t then f else f))) : px_C) = _; rw [ite_self]
set_option maxRecDepth 16384 in
theorem shape_0 : shape (510129, hpC) := by
  rw [hpC_T]
  refine ⟨by rw [← hpC_T, hpC_len]; decide, fun r hr => ?_⟩
  exact fill_self (tmpl r)
set_option maxRecDepth 16384 in
theorem yr_0 : yrd2 0 0 = some 2 := rfl
set_option maxRecDepth 16384 in
theorem yr_1 : yrd2 0 1 = some 13 := rfl
set_option maxRecDepth 16384 in
theorem tr_0 : tra4 0 0 = some 25 := rfl
set_option maxRecDepth 16384 in
theorem tr_1 : tra4 0 1 = some 30 := rfl
set_option maxRecDepth 16384 in
theorem tr_2 : tra4 0 2 = some 35 := rfl
set_option maxRecDepth 16384 in
theorem tr_3 : tra4 0 3 = some 40 := rfl
set_option maxRecDepth 16384 in
theorem at_0 {h : px_H} (hs : shape h) : h.2[0]? = some (.inl (0, iyaF)) := (shape_at hs (by decide)).trans rfl
set_option maxRecDepth 16384 in
theorem at_1 {h : px_H} (hs : shape h) : h.2[1]? = some (.inr (17, 2, .inr (.inr (yrd2 0)))) := (shape_at hs (by decide)).trans rfl
set_option maxRecDepth 16384 in
theorem at_2 {h : px_H} (hs : shape h) : h.2[2]? = some (.inl (7, [.ref 3, .int (fI h 2 1), .ref 5, .ref 6, .ref 7, .ref 8, .int (fI h 2 6), .ref 9, .ref 10, .int (fI h 2 9), .ref 11, .ref 12])) := (shape_at hs (by decide)).trans rfl
set_option maxRecDepth 16384 in
theorem at_3 {h : px_H} (hs : shape h) : h.2[3]? = some (.inl (1, [.ref 4, .int (fI h 3 1)])) := (shape_at hs (by decide)).trans rfl
set_option maxRecDepth 16384 in
theorem at_4 {h : px_H} (hs : shape h) : h.2[4]? = some (.inr (0, 40000, .inl (iA h 4))) := (shape_at hs (by decide)).trans rfl
set_option maxRecDepth 16384 in
theorem at_5 {h : px_H} (hs : shape h) : h.2[5]? = some (.inr (2, 60, .inr (.inl (lA h 5)))) := (shape_at hs (by decide)).trans rfl
set_option maxRecDepth 16384 in
theorem at_6 {h : px_H} (hs : shape h) : h.2[6]? = some (.inr (1, 60, .inl (iA h 6))) := (shape_at hs (by decide)).trans rfl
set_option maxRecDepth 16384 in
theorem at_7 {h : px_H} (hs : shape h) : h.2[7]? = some (.inr (1, 60, .inl (iA h 7))) := (shape_at hs (by decide)).trans rfl
set_option maxRecDepth 16384 in
theorem at_8 {h : px_H} (hs : shape h) : h.2[8]? = some (.inr (3, 60, .inl (iA h 8))) := (shape_at hs (by decide)).trans rfl
set_option maxRecDepth 16384 in
theorem at_9 {h : px_H} (hs : shape h) : h.2[9]? = some (.inr (2, 60, .inr (.inl (lA h 9)))) := (shape_at hs (by decide)).trans rfl
set_option maxRecDepth 16384 in
theorem at_10 {h : px_H} (hs : shape h) : h.2[10]? = some (.inr (2, 60, .inr (.inl (lA h 10)))) := (shape_at hs (by decide)).trans rfl
set_option maxRecDepth 16384 in
theorem at_11 {h : px_H} (hs : shape h) : h.2[11]? = some (.inr (2, 8, .inr (.inl (lA h 11)))) := (shape_at hs (by decide)).trans rfl
set_option maxRecDepth 16384 in
theorem at_12 {h : px_H} (hs : shape h) : h.2[12]? = some (.inr (3, 8, .inl (iA h 12))) := (shape_at hs (by decide)).trans rfl
set_option maxRecDepth 16384 in
theorem at_13 {h : px_H} (hs : shape h) : h.2[13]? = some (.inl (7, [.ref 14, .int (fI h 13 1), .ref 16, .ref 17, .ref 18, .ref 19, .int (fI h 13 6), .ref 20, .ref 21, .int (fI h 13 9), .ref 22, .ref 23])) := (shape_at hs (by decide)).trans rfl
set_option maxRecDepth 16384 in
theorem at_14 {h : px_H} (hs : shape h) : h.2[14]? = some (.inl (1, [.ref 15, .int (fI h 14 1)])) := (shape_at hs (by decide)).trans rfl
set_option maxRecDepth 16384 in
theorem at_15 {h : px_H} (hs : shape h) : h.2[15]? = some (.inr (0, 40000, .inl (iA h 15))) := (shape_at hs (by decide)).trans rfl
set_option maxRecDepth 16384 in
theorem at_16 {h : px_H} (hs : shape h) : h.2[16]? = some (.inr (2, 60, .inr (.inl (lA h 16)))) := (shape_at hs (by decide)).trans rfl
set_option maxRecDepth 16384 in
theorem at_17 {h : px_H} (hs : shape h) : h.2[17]? = some (.inr (1, 60, .inl (iA h 17))) := (shape_at hs (by decide)).trans rfl
set_option maxRecDepth 16384 in
theorem at_18 {h : px_H} (hs : shape h) : h.2[18]? = some (.inr (1, 60, .inl (iA h 18))) := (shape_at hs (by decide)).trans rfl
set_option maxRecDepth 16384 in
theorem at_19 {h : px_H} (hs : shape h) : h.2[19]? = some (.inr (3, 60, .inl (iA h 19))) := (shape_at hs (by decide)).trans rfl
set_option maxRecDepth 16384 in
theorem at_20 {h : px_H} (hs : shape h) : h.2[20]? = some (.inr (2, 60, .inr (.inl (lA h 20)))) := (shape_at hs (by decide)).trans rfl
set_option maxRecDepth 16384 in
theorem at_21 {h : px_H} (hs : shape h) : h.2[21]? = some (.inr (2, 60, .inr (.inl (lA h 21)))) := (shape_at hs (by decide)).trans rfl
set_option maxRecDepth 16384 in
theorem at_22 {h : px_H} (hs : shape h) : h.2[22]? = some (.inr (2, 8, .inr (.inl (lA h 22)))) := (shape_at hs (by decide)).trans rfl
set_option maxRecDepth 16384 in
theorem at_23 {h : px_H} (hs : shape h) : h.2[23]? = some (.inr (3, 8, .inl (iA h 23))) := (shape_at hs (by decide)).trans rfl
set_option maxRecDepth 16384 in
theorem at_24 {h : px_H} (hs : shape h) : h.2[24]? = some (.inr (18, 4, .inr (.inr (tra4 0)))) := (shape_at hs (by decide)).trans rfl
set_option maxRecDepth 16384 in
theorem at_25 {h : px_H} (hs : shape h) : h.2[25]? = some (.inl (8, [.int (fI h 25 0), .int (fI h 25 1), .int (fI h 25 2), .int (fI h 25 3), .int (fI h 25 4), .int (fI h 25 5), .int (fI h 25 6), .int (fI h 25 7), .long (fJ h 25 8), .ref 26, .ref 28])) := (shape_at hs (by decide)).trans rfl
set_option maxRecDepth 16384 in
theorem at_26 {h : px_H} (hs : shape h) : h.2[26]? = some (.inl (1, [.ref 27, .int (fI h 26 1)])) := (shape_at hs (by decide)).trans rfl
set_option maxRecDepth 16384 in
theorem at_27 {h : px_H} (hs : shape h) : h.2[27]? = some (.inr (0, 231, .inl (iA h 27))) := (shape_at hs (by decide)).trans rfl
set_option maxRecDepth 16384 in
theorem at_28 {h : px_H} (hs : shape h) : h.2[28]? = some (.inl (1, [.ref 29, .int (fI h 28 1)])) := (shape_at hs (by decide)).trans rfl
set_option maxRecDepth 16384 in
theorem at_29 {h : px_H} (hs : shape h) : h.2[29]? = some (.inr (0, 4120, .inl (iA h 29))) := (shape_at hs (by decide)).trans rfl
set_option maxRecDepth 16384 in
theorem at_30 {h : px_H} (hs : shape h) : h.2[30]? = some (.inl (8, [.int (fI h 30 0), .int (fI h 30 1), .int (fI h 30 2), .int (fI h 30 3), .int (fI h 30 4), .int (fI h 30 5), .int (fI h 30 6), .int (fI h 30 7), .long (fJ h 30 8), .ref 31, .ref 33])) := (shape_at hs (by decide)).trans rfl
set_option maxRecDepth 16384 in
theorem at_31 {h : px_H} (hs : shape h) : h.2[31]? = some (.inl (1, [.ref 32, .int (fI h 31 1)])) := (shape_at hs (by decide)).trans rfl
set_option maxRecDepth 16384 in
theorem at_32 {h : px_H} (hs : shape h) : h.2[32]? = some (.inr (0, 231, .inl (iA h 32))) := (shape_at hs (by decide)).trans rfl
set_option maxRecDepth 16384 in
theorem at_33 {h : px_H} (hs : shape h) : h.2[33]? = some (.inl (1, [.ref 34, .int (fI h 33 1)])) := (shape_at hs (by decide)).trans rfl
set_option maxRecDepth 16384 in
theorem at_34 {h : px_H} (hs : shape h) : h.2[34]? = some (.inr (0, 4120, .inl (iA h 34))) := (shape_at hs (by decide)).trans rfl
set_option maxRecDepth 16384 in
theorem at_35 {h : px_H} (hs : shape h) : h.2[35]? = some (.inl (8, [.int (fI h 35 0), .int (fI h 35 1), .int (fI h 35 2), .int (fI h 35 3), .int (fI h 35 4), .int (fI h 35 5), .int (fI h 35 6), .int (fI h 35 7), .long (fJ h 35 8), .ref 36, .ref 38])) := (shape_at hs (by decide)).trans rfl
set_option maxRecDepth 16384 in
theorem at_36 {h : px_H} (hs : shape h) : h.2[36]? = some (.inl (1, [.ref 37, .int (fI h 36 1)])) := (shape_at hs (by decide)).trans rfl
set_option maxRecDepth 16384 in
theorem at_37 {h : px_H} (hs : shape h) : h.2[37]? = some (.inr (0, 231, .inl (iA h 37))) := (shape_at hs (by decide)).trans rfl
set_option maxRecDepth 16384 in
theorem at_38 {h : px_H} (hs : shape h) : h.2[38]? = some (.inl (1, [.ref 39, .int (fI h 38 1)])) := (shape_at hs (by decide)).trans rfl
set_option maxRecDepth 16384 in
theorem at_39 {h : px_H} (hs : shape h) : h.2[39]? = some (.inr (0, 4120, .inl (iA h 39))) := (shape_at hs (by decide)).trans rfl
set_option maxRecDepth 16384 in
theorem at_40 {h : px_H} (hs : shape h) : h.2[40]? = some (.inl (8, [.int (fI h 40 0), .int (fI h 40 1), .int (fI h 40 2), .int (fI h 40 3), .int (fI h 40 4), .int (fI h 40 5), .int (fI h 40 6), .int (fI h 40 7), .long (fJ h 40 8), .ref 41, .ref 43])) := (shape_at hs (by decide)).trans rfl
set_option maxRecDepth 16384 in
theorem at_41 {h : px_H} (hs : shape h) : h.2[41]? = some (.inl (1, [.ref 42, .int (fI h 41 1)])) := (shape_at hs (by decide)).trans rfl
set_option maxRecDepth 16384 in
theorem at_42 {h : px_H} (hs : shape h) : h.2[42]? = some (.inr (0, 231, .inl (iA h 42))) := (shape_at hs (by decide)).trans rfl
set_option maxRecDepth 16384 in
theorem at_43 {h : px_H} (hs : shape h) : h.2[43]? = some (.inl (1, [.ref 44, .int (fI h 43 1)])) := (shape_at hs (by decide)).trans rfl
set_option maxRecDepth 16384 in
theorem at_44 {h : px_H} (hs : shape h) : h.2[44]? = some (.inr (0, 4120, .inl (iA h 44))) := (shape_at hs (by decide)).trans rfl
set_option maxRecDepth 16384 in
theorem at_45 {h : px_H} (hs : shape h) : h.2[45]? = some (.inl (1, [.ref 46, .int (fI h 45 1)])) := (shape_at hs (by decide)).trans rfl
set_option maxRecDepth 16384 in
theorem at_46 {h : px_H} (hs : shape h) : h.2[46]? = some (.inr (0, 600, .inl (iA h 46))) := (shape_at hs (by decide)).trans rfl
set_option maxRecDepth 16384 in
theorem at_47 {h : px_H} (hs : shape h) : h.2[47]? = some (.inl (10, [.int (fI h 47 0), .int (fI h 47 1), .int (fI h 47 2), .int (fI h 47 3), .int (fI h 47 4), .int (fI h 47 5), .int (fI h 47 6), .long (fJ h 47 7), .ref 48, .ref 81, .ref 83, .ref 85, .ref 87, .ref 249, .ref 411, .ref 414])) := (shape_at hs (by decide)).trans rfl
set_option maxRecDepth 16384 in
theorem at_48 {h : px_H} (hs : shape h) : h.2[48]? = some (.inl (6, [.ref 49, .int (fI h 48 1), .ref 50, .int (fI h 48 3)])) := (shape_at hs (by decide)).trans rfl
set_option maxRecDepth 16384 in
theorem at_49 {h : px_H} (hs : shape h) : h.2[49]? = some (.inr (2, 12, .inr (.inl (lA h 49)))) := (shape_at hs (by decide)).trans rfl
set_option maxRecDepth 16384 in
theorem at_50 {h : px_H} (hs : shape h) : h.2[50]? = some (.inr (15, 6, .inr (.inr (rA h 50)))) := (shape_at hs (by decide)).trans rfl
set_option maxRecDepth 16384 in
theorem at_51 {h : px_H} (hs : shape h) : h.2[51]? = some (.inl (5, [.ref 52, .ref 54])) := (shape_at hs (by decide)).trans rfl
set_option maxRecDepth 16384 in
theorem at_52 {h : px_H} (hs : shape h) : h.2[52]? = some (.inl (1, [.ref 53, .int (fI h 52 1)])) := (shape_at hs (by decide)).trans rfl
set_option maxRecDepth 16384 in
theorem at_53 {h : px_H} (hs : shape h) : h.2[53]? = some (.inr (0, 8, .inl (iA h 53))) := (shape_at hs (by decide)).trans rfl
set_option maxRecDepth 16384 in
theorem at_54 {h : px_H} (hs : shape h) : h.2[54]? = some (.inl (1, [.ref 55, .int (fI h 54 1)])) := (shape_at hs (by decide)).trans rfl
set_option maxRecDepth 16384 in
theorem at_55 {h : px_H} (hs : shape h) : h.2[55]? = some (.inr (0, 12, .inl (iA h 55))) := (shape_at hs (by decide)).trans rfl
set_option maxRecDepth 16384 in
theorem at_56 {h : px_H} (hs : shape h) : h.2[56]? = some (.inl (5, [.ref 57, .ref 59])) := (shape_at hs (by decide)).trans rfl
set_option maxRecDepth 16384 in
theorem at_57 {h : px_H} (hs : shape h) : h.2[57]? = some (.inl (1, [.ref 58, .int (fI h 57 1)])) := (shape_at hs (by decide)).trans rfl
set_option maxRecDepth 16384 in
theorem at_58 {h : px_H} (hs : shape h) : h.2[58]? = some (.inr (0, 8, .inl (iA h 58))) := (shape_at hs (by decide)).trans rfl
set_option maxRecDepth 16384 in
theorem at_59 {h : px_H} (hs : shape h) : h.2[59]? = some (.inl (1, [.ref 60, .int (fI h 59 1)])) := (shape_at hs (by decide)).trans rfl
set_option maxRecDepth 16384 in
theorem at_60 {h : px_H} (hs : shape h) : h.2[60]? = some (.inr (0, 12, .inl (iA h 60))) := (shape_at hs (by decide)).trans rfl
set_option maxRecDepth 16384 in
theorem at_61 {h : px_H} (hs : shape h) : h.2[61]? = some (.inl (5, [.ref 62, .ref 64])) := (shape_at hs (by decide)).trans rfl
set_option maxRecDepth 16384 in
theorem at_62 {h : px_H} (hs : shape h) : h.2[62]? = some (.inl (1, [.ref 63, .int (fI h 62 1)])) := (shape_at hs (by decide)).trans rfl
set_option maxRecDepth 16384 in
theorem at_63 {h : px_H} (hs : shape h) : h.2[63]? = some (.inr (0, 8, .inl (iA h 63))) := (shape_at hs (by decide)).trans rfl
set_option maxRecDepth 16384 in
theorem at_64 {h : px_H} (hs : shape h) : h.2[64]? = some (.inl (1, [.ref 65, .int (fI h 64 1)])) := (shape_at hs (by decide)).trans rfl
set_option maxRecDepth 16384 in
theorem at_65 {h : px_H} (hs : shape h) : h.2[65]? = some (.inr (0, 12, .inl (iA h 65))) := (shape_at hs (by decide)).trans rfl
set_option maxRecDepth 16384 in
theorem at_66 {h : px_H} (hs : shape h) : h.2[66]? = some (.inl (5, [.ref 67, .ref 69])) := (shape_at hs (by decide)).trans rfl
set_option maxRecDepth 16384 in
theorem at_67 {h : px_H} (hs : shape h) : h.2[67]? = some (.inl (1, [.ref 68, .int (fI h 67 1)])) := (shape_at hs (by decide)).trans rfl
set_option maxRecDepth 16384 in
theorem at_68 {h : px_H} (hs : shape h) : h.2[68]? = some (.inr (0, 8, .inl (iA h 68))) := (shape_at hs (by decide)).trans rfl
set_option maxRecDepth 16384 in
theorem at_69 {h : px_H} (hs : shape h) : h.2[69]? = some (.inl (1, [.ref 70, .int (fI h 69 1)])) := (shape_at hs (by decide)).trans rfl
set_option maxRecDepth 16384 in
theorem at_70 {h : px_H} (hs : shape h) : h.2[70]? = some (.inr (0, 12, .inl (iA h 70))) := (shape_at hs (by decide)).trans rfl
set_option maxRecDepth 16384 in
theorem at_71 {h : px_H} (hs : shape h) : h.2[71]? = some (.inl (5, [.ref 72, .ref 74])) := (shape_at hs (by decide)).trans rfl
set_option maxRecDepth 16384 in
theorem at_72 {h : px_H} (hs : shape h) : h.2[72]? = some (.inl (1, [.ref 73, .int (fI h 72 1)])) := (shape_at hs (by decide)).trans rfl
set_option maxRecDepth 16384 in
theorem at_73 {h : px_H} (hs : shape h) : h.2[73]? = some (.inr (0, 8, .inl (iA h 73))) := (shape_at hs (by decide)).trans rfl
set_option maxRecDepth 16384 in
theorem at_74 {h : px_H} (hs : shape h) : h.2[74]? = some (.inl (1, [.ref 75, .int (fI h 74 1)])) := (shape_at hs (by decide)).trans rfl
set_option maxRecDepth 16384 in
theorem at_75 {h : px_H} (hs : shape h) : h.2[75]? = some (.inr (0, 12, .inl (iA h 75))) := (shape_at hs (by decide)).trans rfl
set_option maxRecDepth 16384 in
theorem at_76 {h : px_H} (hs : shape h) : h.2[76]? = some (.inl (5, [.ref 77, .ref 79])) := (shape_at hs (by decide)).trans rfl
set_option maxRecDepth 16384 in
theorem at_77 {h : px_H} (hs : shape h) : h.2[77]? = some (.inl (1, [.ref 78, .int (fI h 77 1)])) := (shape_at hs (by decide)).trans rfl
set_option maxRecDepth 16384 in
theorem at_78 {h : px_H} (hs : shape h) : h.2[78]? = some (.inr (0, 8, .inl (iA h 78))) := (shape_at hs (by decide)).trans rfl
set_option maxRecDepth 16384 in
theorem at_79 {h : px_H} (hs : shape h) : h.2[79]? = some (.inl (1, [.ref 80, .int (fI h 79 1)])) := (shape_at hs (by decide)).trans rfl
set_option maxRecDepth 16384 in
theorem at_80 {h : px_H} (hs : shape h) : h.2[80]? = some (.inr (0, 12, .inl (iA h 80))) := (shape_at hs (by decide)).trans rfl
set_option maxRecDepth 16384 in
theorem at_81 {h : px_H} (hs : shape h) : h.2[81]? = some (.inl (1, [.ref 82, .int (fI h 81 1)])) := (shape_at hs (by decide)).trans rfl
set_option maxRecDepth 16384 in
theorem at_82 {h : px_H} (hs : shape h) : h.2[82]? = some (.inr (0, 831, .inl (iA h 82))) := (shape_at hs (by decide)).trans rfl
set_option maxRecDepth 16384 in
theorem at_83 {h : px_H} (hs : shape h) : h.2[83]? = some (.inl (1, [.ref 84, .int (fI h 83 1)])) := (shape_at hs (by decide)).trans rfl
set_option maxRecDepth 16384 in
theorem at_84 {h : px_H} (hs : shape h) : h.2[84]? = some (.inr (0, 200, .inl (iA h 84))) := (shape_at hs (by decide)).trans rfl
set_option maxRecDepth 16384 in
theorem at_85 {h : px_H} (hs : shape h) : h.2[85]? = some (.inl (1, [.ref 86, .int (fI h 85 1)])) := (shape_at hs (by decide)).trans rfl
set_option maxRecDepth 16384 in
theorem at_86 {h : px_H} (hs : shape h) : h.2[86]? = some (.inr (0, 4120, .inl (iA h 86))) := (shape_at hs (by decide)).trans rfl
set_option maxRecDepth 16384 in
theorem at_87 {h : px_H} (hs : shape h) : h.2[87]? = some (.inl (3, [.ref 88, .int (fI h 87 1)])) := (shape_at hs (by decide)).trans rfl
set_option maxRecDepth 16384 in
theorem at_88 {h : px_H} (hs : shape h) : h.2[88]? = some (.inr (12, 80, .inr (.inr (rA h 88)))) := (shape_at hs (by decide)).trans rfl
set_option maxRecDepth 16384 in
theorem at_249 {h : px_H} (hs : shape h) : h.2[249]? = some (.inl (3, [.ref 250, .int (fI h 249 1)])) := (shape_at hs (by decide)).trans rfl
set_option maxRecDepth 16384 in
theorem at_250 {h : px_H} (hs : shape h) : h.2[250]? = some (.inr (12, 80, .inr (.inr (rA h 250)))) := (shape_at hs (by decide)).trans rfl
set_option maxRecDepth 16384 in
theorem at_411 {h : px_H} (hs : shape h) : h.2[411]? = some (.inl (4, [.ref 412])) := (shape_at hs (by decide)).trans rfl
set_option maxRecDepth 16384 in
theorem at_412 {h : px_H} (hs : shape h) : h.2[412]? = some (.inl (2, [.ref 413, .int (fI h 412 1), .int (fI h 412 2), cV (cell h 412) 3, .int (fI h 412 4), .int (fI h 412 5)])) := (shape_at hs (by decide)).trans rfl
set_option maxRecDepth 16384 in
theorem at_413 {h : px_H} (hs : shape h) : h.2[413]? = some (.inr (0, 35, .inl (iA h 413))) := (shape_at hs (by decide)).trans rfl
set_option maxRecDepth 16384 in
theorem at_414 {h : px_H} (hs : shape h) : h.2[414]? = some (.inl (9, [.ref 415, .ref 417, .ref 419, .int (fI h 414 3)])) := (shape_at hs (by decide)).trans rfl
set_option maxRecDepth 16384 in
theorem at_415 {h : px_H} (hs : shape h) : h.2[415]? = some (.inl (1, [.ref 416, .int (fI h 415 1)])) := (shape_at hs (by decide)).trans rfl
set_option maxRecDepth 16384 in
theorem at_416 {h : px_H} (hs : shape h) : h.2[416]? = some (.inr (0, 26000, .inl (iA h 416))) := (shape_at hs (by decide)).trans rfl
set_option maxRecDepth 16384 in
theorem at_417 {h : px_H} (hs : shape h) : h.2[417]? = some (.inl (2, [.ref 418, .int (fI h 417 1), .int (fI h 417 2), cV (cell h 417) 3, .int (fI h 417 4), .int (fI h 417 5)])) := (shape_at hs (by decide)).trans rfl
set_option maxRecDepth 16384 in
theorem at_418 {h : px_H} (hs : shape h) : h.2[418]? = some (.inr (0, 35, .inl (iA h 418))) := (shape_at hs (by decide)).trans rfl
set_option maxRecDepth 16384 in
theorem at_419 {h : px_H} (hs : shape h) : h.2[419]? = some (.inl (2, [.ref 420, .int (fI h 419 1), .int (fI h 419 2), cV (cell h 419) 3, .int (fI h 419 4), .int (fI h 419 5)])) := (shape_at hs (by decide)).trans rfl
set_option maxRecDepth 16384 in
theorem at_420 {h : px_H} (hs : shape h) : h.2[420]? = some (.inr (0, 35, .inl (iA h 420))) := (shape_at hs (by decide)).trans rfl
set_option maxRecDepth 16384 in
theorem at_421 {h : px_H} (hs : shape h) : h.2[421]? = some (.inl (6, [.ref 422, .int (fI h 421 1), .ref 423, .int (fI h 421 3)])) := (shape_at hs (by decide)).trans rfl
set_option maxRecDepth 16384 in
theorem at_422 {h : px_H} (hs : shape h) : h.2[422]? = some (.inr (2, 12, .inr (.inl (lA h 422)))) := (shape_at hs (by decide)).trans rfl
set_option maxRecDepth 16384 in
theorem at_423 {h : px_H} (hs : shape h) : h.2[423]? = some (.inr (15, 6, .inr (.inr (rA h 423)))) := (shape_at hs (by decide)).trans rfl
set_option maxRecDepth 16384 in
theorem at_424 {h : px_H} (hs : shape h) : h.2[424]? = some (.inl (5, [.ref 425, .ref 427])) := (shape_at hs (by decide)).trans rfl
set_option maxRecDepth 16384 in
theorem at_425 {h : px_H} (hs : shape h) : h.2[425]? = some (.inl (1, [.ref 426, .int (fI h 425 1)])) := (shape_at hs (by decide)).trans rfl
set_option maxRecDepth 16384 in
theorem at_426 {h : px_H} (hs : shape h) : h.2[426]? = some (.inr (0, 8, .inl (iA h 426))) := (shape_at hs (by decide)).trans rfl
set_option maxRecDepth 16384 in
theorem at_427 {h : px_H} (hs : shape h) : h.2[427]? = some (.inl (1, [.ref 428, .int (fI h 427 1)])) := (shape_at hs (by decide)).trans rfl
set_option maxRecDepth 16384 in
theorem at_428 {h : px_H} (hs : shape h) : h.2[428]? = some (.inr (0, 12, .inl (iA h 428))) := (shape_at hs (by decide)).trans rfl
set_option maxRecDepth 16384 in
theorem at_429 {h : px_H} (hs : shape h) : h.2[429]? = some (.inl (5, [.ref 430, .ref 432])) := (shape_at hs (by decide)).trans rfl
set_option maxRecDepth 16384 in
theorem at_430 {h : px_H} (hs : shape h) : h.2[430]? = some (.inl (1, [.ref 431, .int (fI h 430 1)])) := (shape_at hs (by decide)).trans rfl
set_option maxRecDepth 16384 in
theorem at_431 {h : px_H} (hs : shape h) : h.2[431]? = some (.inr (0, 8, .inl (iA h 431))) := (shape_at hs (by decide)).trans rfl
set_option maxRecDepth 16384 in
theorem at_432 {h : px_H} (hs : shape h) : h.2[432]? = some (.inl (1, [.ref 433, .int (fI h 432 1)])) := (shape_at hs (by decide)).trans rfl
set_option maxRecDepth 16384 in
theorem at_433 {h : px_H} (hs : shape h) : h.2[433]? = some (.inr (0, 12, .inl (iA h 433))) := (shape_at hs (by decide)).trans rfl
set_option maxRecDepth 16384 in
theorem at_434 {h : px_H} (hs : shape h) : h.2[434]? = some (.inl (5, [.ref 435, .ref 437])) := (shape_at hs (by decide)).trans rfl
set_option maxRecDepth 16384 in
theorem at_435 {h : px_H} (hs : shape h) : h.2[435]? = some (.inl (1, [.ref 436, .int (fI h 435 1)])) := (shape_at hs (by decide)).trans rfl
set_option maxRecDepth 16384 in
theorem at_436 {h : px_H} (hs : shape h) : h.2[436]? = some (.inr (0, 8, .inl (iA h 436))) := (shape_at hs (by decide)).trans rfl
set_option maxRecDepth 16384 in
theorem at_437 {h : px_H} (hs : shape h) : h.2[437]? = some (.inl (1, [.ref 438, .int (fI h 437 1)])) := (shape_at hs (by decide)).trans rfl
set_option maxRecDepth 16384 in
theorem at_438 {h : px_H} (hs : shape h) : h.2[438]? = some (.inr (0, 12, .inl (iA h 438))) := (shape_at hs (by decide)).trans rfl
set_option maxRecDepth 16384 in
theorem at_439 {h : px_H} (hs : shape h) : h.2[439]? = some (.inl (5, [.ref 440, .ref 442])) := (shape_at hs (by decide)).trans rfl
set_option maxRecDepth 16384 in
theorem at_440 {h : px_H} (hs : shape h) : h.2[440]? = some (.inl (1, [.ref 441, .int (fI h 440 1)])) := (shape_at hs (by decide)).trans rfl
set_option maxRecDepth 16384 in
theorem at_441 {h : px_H} (hs : shape h) : h.2[441]? = some (.inr (0, 8, .inl (iA h 441))) := (shape_at hs (by decide)).trans rfl
set_option maxRecDepth 16384 in
theorem at_442 {h : px_H} (hs : shape h) : h.2[442]? = some (.inl (1, [.ref 443, .int (fI h 442 1)])) := (shape_at hs (by decide)).trans rfl
set_option maxRecDepth 16384 in
theorem at_443 {h : px_H} (hs : shape h) : h.2[443]? = some (.inr (0, 12, .inl (iA h 443))) := (shape_at hs (by decide)).trans rfl
set_option maxRecDepth 16384 in
theorem at_444 {h : px_H} (hs : shape h) : h.2[444]? = some (.inl (5, [.ref 445, .ref 447])) := (shape_at hs (by decide)).trans rfl
set_option maxRecDepth 16384 in
theorem at_445 {h : px_H} (hs : shape h) : h.2[445]? = some (.inl (1, [.ref 446, .int (fI h 445 1)])) := (shape_at hs (by decide)).trans rfl
set_option maxRecDepth 16384 in
theorem at_446 {h : px_H} (hs : shape h) : h.2[446]? = some (.inr (0, 8, .inl (iA h 446))) := (shape_at hs (by decide)).trans rfl
set_option maxRecDepth 16384 in
theorem at_447 {h : px_H} (hs : shape h) : h.2[447]? = some (.inl (1, [.ref 448, .int (fI h 447 1)])) := (shape_at hs (by decide)).trans rfl
set_option maxRecDepth 16384 in
theorem at_448 {h : px_H} (hs : shape h) : h.2[448]? = some (.inr (0, 12, .inl (iA h 448))) := (shape_at hs (by decide)).trans rfl
set_option maxRecDepth 16384 in
theorem at_449 {h : px_H} (hs : shape h) : h.2[449]? = some (.inl (5, [.ref 450, .ref 452])) := (shape_at hs (by decide)).trans rfl
set_option maxRecDepth 16384 in
theorem at_450 {h : px_H} (hs : shape h) : h.2[450]? = some (.inl (1, [.ref 451, .int (fI h 450 1)])) := (shape_at hs (by decide)).trans rfl
set_option maxRecDepth 16384 in
theorem at_451 {h : px_H} (hs : shape h) : h.2[451]? = some (.inr (0, 8, .inl (iA h 451))) := (shape_at hs (by decide)).trans rfl
set_option maxRecDepth 16384 in
theorem at_452 {h : px_H} (hs : shape h) : h.2[452]? = some (.inl (1, [.ref 453, .int (fI h 452 1)])) := (shape_at hs (by decide)).trans rfl
set_option maxRecDepth 16384 in
theorem at_453 {h : px_H} (hs : shape h) : h.2[453]? = some (.inr (0, 12, .inl (iA h 453))) := (shape_at hs (by decide)).trans rfl
set_option maxRecDepth 16384 in
theorem at_454 {h : px_H} (hs : shape h) : h.2[454]? = some (.inl (4, [.ref 455])) := (shape_at hs (by decide)).trans rfl
set_option maxRecDepth 16384 in
theorem at_455 {h : px_H} (hs : shape h) : h.2[455]? = some (.inl (2, [.ref 456, .int (fI h 455 1), .int (fI h 455 2), cV (cell h 455) 3, .int (fI h 455 4), .int (fI h 455 5)])) := (shape_at hs (by decide)).trans rfl
set_option maxRecDepth 16384 in
theorem at_456 {h : px_H} (hs : shape h) : h.2[456]? = some (.inr (0, 35, .inl (iA h 456))) := (shape_at hs (by decide)).trans rfl
set_option maxRecDepth 16384 in
theorem at_457 {h : px_H} (hs : shape h) : h.2[457]? = some (.inl (3, [.ref 458, .int (fI h 457 1)])) := (shape_at hs (by decide)).trans rfl
set_option maxRecDepth 16384 in
theorem at_458 {h : px_H} (hs : shape h) : h.2[458]? = some (.inr (12, 80, .inr (.inr (rA h 458)))) := (shape_at hs (by decide)).trans rfl
set_option maxRecDepth 16384 in
theorem at_619 {h : px_H} (hs : shape h) : h.2[619]? = some (.inl (11, modF (fI h 619))) := (shape_at hs (by decide)).trans rfl
set_option maxRecDepth 16384 in
theorem at_620 {h : px_H} (hs : shape h) : h.2[620]? = some (.inr (1, 600, .inl (iA h 620))) := (shape_at hs (by decide)).trans rfl
set_option maxRecDepth 16384 in
theorem at_621 {h : px_H} (hs : shape h) : h.2[621]? = some (.inr (1, 2, .inl (iA h 621))) := (shape_at hs (by decide)).trans rfl
set_option maxRecDepth 16384 in
theorem at_622 {h : px_H} (hs : shape h) : h.2[622]? = some (.inr (2, 122, .inr (.inl (lA h 622)))) := (shape_at hs (by decide)).trans rfl
set_option maxRecDepth 16384 in
theorem at_623 {h : px_H} (hs : shape h) : h.2[623]? = some (.inr (1, 122, .inl (iA h 623))) := (shape_at hs (by decide)).trans rfl
set_option maxRecDepth 16384 in
theorem at_624 {h : px_H} (hs : shape h) : h.2[624]? = some (.inr (1, 122, .inl (iA h 624))) := (shape_at hs (by decide)).trans rfl
set_option maxRecDepth 16384 in
theorem at_625 {h : px_H} (hs : shape h) : h.2[625]? = some (.inr (1, 80000, .inl (iA h 625))) := (shape_at hs (by decide)).trans rfl
set_option maxRecDepth 16384 in
theorem at_626 {h : px_H} (hs : shape h) : h.2[626]? = some (.inr (1, 2, .inl (iA h 626))) := (shape_at hs (by decide)).trans rfl
set_option maxRecDepth 16384 in
theorem at_627 {h : px_H} (hs : shape h) : h.2[627]? = some (.inr (2, 16, .inr (.inl (lA h 627)))) := (shape_at hs (by decide)).trans rfl
set_option maxRecDepth 16384 in
theorem at_628 {h : px_H} (hs : shape h) : h.2[628]? = some (.inr (3, 16, .inl (iA h 628))) := (shape_at hs (by decide)).trans rfl
set_option maxRecDepth 16384 in
theorem at_629 {h : px_H} (hs : shape h) : h.2[629]? = some (.inr (1, 2, .inl (iA h 629))) := (shape_at hs (by decide)).trans rfl
set_option maxRecDepth 16384 in
theorem at_630 {h : px_H} (hs : shape h) : h.2[630]? = some (.inr (2, 120, .inr (.inl (lA h 630)))) := (shape_at hs (by decide)).trans rfl
set_option maxRecDepth 16384 in
theorem at_631 {h : px_H} (hs : shape h) : h.2[631]? = some (.inr (2, 120, .inr (.inl (lA h 631)))) := (shape_at hs (by decide)).trans rfl
set_option maxRecDepth 16384 in
theorem at_632 {h : px_H} (hs : shape h) : h.2[632]? = some (.inr (1, 80000, .inl (iA h 632))) := (shape_at hs (by decide)).trans rfl
set_option maxRecDepth 16384 in
theorem at_633 {h : px_H} (hs : shape h) : h.2[633]? = some (.inr (1, 2, .inl (iA h 633))) := (shape_at hs (by decide)).trans rfl
set_option maxRecDepth 16384 in
theorem at_634 {h : px_H} (hs : shape h) : h.2[634]? = some (.inr (1, 2, .inl (iA h 634))) := (shape_at hs (by decide)).trans rfl
set_option maxRecDepth 16384 in
theorem at_635 {h : px_H} (hs : shape h) : h.2[635]? = some (.inr (3, 61, .inl (iA h 635))) := (shape_at hs (by decide)).trans rfl
set_option maxRecDepth 16384 in
theorem at_636 {h : px_H} (hs : shape h) : h.2[636]? = some (.inr (1, 40100, .inl (iA h 636))) := (shape_at hs (by decide)).trans rfl
set_option maxRecDepth 16384 in
theorem at_637 {h : px_H} (hs : shape h) : h.2[637]? = some (.inr (1, 2952, .inl (iA h 637))) := (shape_at hs (by decide)).trans rfl
set_option maxRecDepth 16384 in
theorem at_638 {h : px_H} (hs : shape h) : h.2[638]? = some (.inr (1, 82, .inl (iA h 638))) := (shape_at hs (by decide)).trans rfl
set_option maxRecDepth 16384 in
theorem at_639 {h : px_H} (hs : shape h) : h.2[639]? = some (.inr (1, 82, .inl (iA h 639))) := (shape_at hs (by decide)).trans rfl
set_option maxRecDepth 16384 in
theorem at_640 {h : px_H} (hs : shape h) : h.2[640]? = some (.inr (1, 82, .inl (iA h 640))) := (shape_at hs (by decide)).trans rfl
set_option maxRecDepth 16384 in
theorem at_641 {h : px_H} (hs : shape h) : h.2[641]? = some (.inr (1, 82082, .inl (iA h 641))) := (shape_at hs (by decide)).trans rfl
set_option maxRecDepth 16384 in
theorem at_642 {h : px_H} (hs : shape h) : h.2[642]? = some (.inr (1, 1656, .inl (iA h 642))) := (shape_at hs (by decide)).trans rfl
set_option maxRecDepth 16384 in
theorem at_643 {h : px_H} (hs : shape h) : h.2[643]? = some (.inr (1, 46, .inl (iA h 643))) := (shape_at hs (by decide)).trans rfl
set_option maxRecDepth 16384 in
theorem at_644 {h : px_H} (hs : shape h) : h.2[644]? = some (.inr (1, 46, .inl (iA h 644))) := (shape_at hs (by decide)).trans rfl
set_option maxRecDepth 16384 in
theorem at_645 {h : px_H} (hs : shape h) : h.2[645]? = some (.inr (1, 46, .inl (iA h 645))) := (shape_at hs (by decide)).trans rfl
set_option maxRecDepth 16384 in
theorem at_646 {h : px_H} (hs : shape h) : h.2[646]? = some (.inr (1, 46046, .inl (iA h 646))) := (shape_at hs (by decide)).trans rfl
set_option maxRecDepth 16384 in
theorem at_647 {h : px_H} (hs : shape h) : h.2[647]? = some (.inr (1, 240, .inl (iA h 647))) := (shape_at hs (by decide)).trans rfl
set_option maxRecDepth 16384 in
theorem at_648 {h : px_H} (hs : shape h) : h.2[648]? = some (.inr (1, 240, .inl (iA h 648))) := (shape_at hs (by decide)).trans rfl
set_option maxRecDepth 16384 in
theorem at_649 {h : px_H} (hs : shape h) : h.2[649]? = some (.inr (2, 13, .inr (.inl (lA h 649)))) := (shape_at hs (by decide)).trans rfl
set_option maxRecDepth 16384 in
theorem at_650 {h : px_H} (hs : shape h) : h.2[650]? = some (.inr (1, 56, .inl (iA h 650))) := (shape_at hs (by decide)).trans rfl
set_option maxRecDepth 16384 in
theorem at_651 {h : px_H} (hs : shape h) : h.2[651]? = some (.inr (1, 7, .inl (iA h 651))) := (shape_at hs (by decide)).trans rfl
set_option maxRecDepth 16384 in
theorem at_652 {h : px_H} (hs : shape h) : h.2[652]? = some (.inr (1, 84, .inl (iA h 652))) := (shape_at hs (by decide)).trans rfl
set_option maxRecDepth 16384 in
theorem at_653 {h : px_H} (hs : shape h) : h.2[653]? = some (.inr (1, 7, .inl (iA h 653))) := (shape_at hs (by decide)).trans rfl
set_option maxRecDepth 16384 in
theorem at_654 {h : px_H} (hs : shape h) : h.2[654]? = some (.inr (1, 9000, .inl (iA h 654))) := (shape_at hs (by decide)).trans rfl
set_option maxRecDepth 16384 in
theorem at_655 {h : px_H} (hs : shape h) : h.2[655]? = some (.inr (3, 4, .inl (iA h 655))) := (shape_at hs (by decide)).trans rfl
set_option maxRecDepth 16384 in
theorem at_656 {h : px_H} (hs : shape h) : h.2[656]? = some (.inr (1, 4, .inl (iA h 656))) := (shape_at hs (by decide)).trans rfl
set_option maxRecDepth 16384 in
theorem at_657 {h : px_H} (hs : shape h) : h.2[657]? = some (.inr (1, 4, .inl (iA h 657))) := (shape_at hs (by decide)).trans rfl
set_option maxRecDepth 16384 in
theorem at_658 {h : px_H} (hs : shape h) : h.2[658]? = some (.inr (1, 4, .inl (iA h 658))) := (shape_at hs (by decide)).trans rfl
set_option maxRecDepth 16384 in
theorem at_659 {h : px_H} (hs : shape h) : h.2[659]? = some (.inr (3, 4, .inl (iA h 659))) := (shape_at hs (by decide)).trans rfl
set_option maxRecDepth 16384 in
theorem at_660 {h : px_H} (hs : shape h) : h.2[660]? = some (.inr (1, 4, .inl (iA h 660))) := (shape_at hs (by decide)).trans rfl
set_option maxRecDepth 16384 in
theorem at_661 {h : px_H} (hs : shape h) : h.2[661]? = some (.inr (3, 4, .inl (iA h 661))) := (shape_at hs (by decide)).trans rfl
set_option maxRecDepth 16384 in
theorem at_662 {h : px_H} (hs : shape h) : h.2[662]? = some (.inr (3, 4, .inl (iA h 662))) := (shape_at hs (by decide)).trans rfl
set_option maxRecDepth 16384 in
theorem at_663 {h : px_H} (hs : shape h) : h.2[663]? = some (.inr (2, 4, .inr (.inl (lA h 663)))) := (shape_at hs (by decide)).trans rfl
set_option maxRecDepth 16384 in
theorem at_664 {h : px_H} (hs : shape h) : h.2[664]? = some (.inr (1, 1200, .inl (iA h 664))) := (shape_at hs (by decide)).trans rfl
set_option maxRecDepth 16384 in
theorem at_665 {h : px_H} (hs : shape h) : h.2[665]? = some (.inr (1, 4, .inl (iA h 665))) := (shape_at hs (by decide)).trans rfl
set_option maxRecDepth 16384 in
theorem at_666 {h : px_H} (hs : shape h) : h.2[666]? = some (.inr (1, 24000, .inl (iA h 666))) := (shape_at hs (by decide)).trans rfl
set_option maxRecDepth 16384 in
theorem at_667 {h : px_H} (hs : shape h) : h.2[667]? = some (.inr (1, 4, .inl (iA h 667))) := (shape_at hs (by decide)).trans rfl
set_option maxRecDepth 16384 in
theorem at_668 {h : px_H} (hs : shape h) : h.2[668]? = some (.inr (2, 1, .inr (.inl (lA h 668)))) := (shape_at hs (by decide)).trans rfl
