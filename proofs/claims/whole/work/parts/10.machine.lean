/-! THE PURE MACHINE: values of the machine's own type, a reference by the number of its cell among those made since the law began ('.retAddr 0': the script; '.retAddr (k+1)': a String constant); cells as lists; one run of a method's own instructions. -/
abbrev px_A : Type := (Nat → Int32) ⊕ ((Nat → Int64) ⊕ (Nat → Option Nat))
/-- an object: the number of its class, its fields; an array: its tag, length, contents -/
abbrev px_C : Type := (Nat × List Value) ⊕ (Nat × Nat × px_A)
/-- slots made, cells made -/
abbrev px_H : Type := Nat × List px_C
abbrev px_L : Type := List (Option Value)
/-- a handler: start, end, handler, pool index, number of the class -/
abbrev px_Hd : Type := Nat × Nat × Nat × Nat × Nat
/-- a method: number of its class, the class's name, its name, bytes, locals, answer's type, arguments (with the receiver), frames and words below it, handlers -/
abbrev px_M : Type := Nat × String × MethodName × ByteArray × Nat × Option FieldType × Nat × Nat × Nat × List px_Hd
abbrev px_Mo (M : px_M) : Nat := M.1
abbrev px_Mn (M : px_M) : String := M.2.1
abbrev px_Mm (M : px_M) : MethodName := M.2.2.1
abbrev px_Mb (M : px_M) : ByteArray := M.2.2.2.1
abbrev px_Ml (M : px_M) : Nat := M.2.2.2.2.1
abbrev px_Mr (M : px_M) : Option FieldType := M.2.2.2.2.2.1
abbrev px_Ma (M : px_M) : Nat := M.2.2.2.2.2.2.1
abbrev px_Mf (M : px_M) : Nat := M.2.2.2.2.2.2.2.1
abbrev px_Mw (M : px_M) : Nat := M.2.2.2.2.2.2.2.2.1
abbrev px_Mh (M : px_M) : List px_Hd := M.2.2.2.2.2.2.2.2.2
/-- the program: instructions; methods; fields (class, place, kind of type, final) by class and pool index; callees; classes; constants; a class's fresh fields -/
abbrev px_G : Type := (Nat → Nat → Option (Instr × Nat)) × (Nat → Option px_M) × (Nat → Nat → Option (Nat × Nat × Nat × Bool)) × (Nat → Nat → Option Nat) × (Nat → Nat → Option Nat) × (Nat → Nat → Option Value) × (Nat → List Value)
abbrev px_Gi (G : px_G) : Nat → Nat → Option (Instr × Nat) := G.1
abbrev px_Gm (G : px_G) : Nat → Option px_M := G.2.1
abbrev px_Gf (G : px_G) : Nat → Nat → Option (Nat × Nat × Nat × Bool) := G.2.2.1
abbrev px_Gc (G : px_G) : Nat → Nat → Option Nat := G.2.2.2.1
abbrev px_Gk (G : px_G) : Nat → Nat → Option Nat := G.2.2.2.2.1
abbrev px_Gv (G : px_G) : Nat → Nat → Option Value := G.2.2.2.2.2.1
abbrev px_Gd (G : px_G) : Nat → List Value := G.2.2.2.2.2.2
/-- the whole room: cells, slots -/
def px_CT : Nat := 601024
def px_ST : Nat := 7293034
/-- classes below this number are the program's own, those from it on are exceptions -/
def px_NC : Nat := 12
/-- arrays: 0 byte, 1 int, 2 long, 3 boolean, 10 + c: of the class c -/
def px_tags : List Nat := [0, 1, 2, 3, 12, 15, 17, 18]
abbrev px_R : Type := Nat × px_L × List Value × px_H
/-! helpers -/
def px_isInt : Value → Bool
  | .int _ => true
  | _ => false
def px_isLong : Value → Bool
  | .long _ => true
  | _ => false
def px_isRef : Value → Bool
  | .null => true
  | .ref _ => true
  | .retAddr _ => true
  | _ => false
def px_ld (L : px_L) (i : Nat) (ok : Value → Bool) : Option Value :=
  match L[i]? with
  | some (some v) => if ok v = true then some v else none
  | _ => none
/-- a long whose second half is written over is lost -/
def px_kill : Option Value → Option Value
  | some (.long _) => none
  | some (.double _) => none
  | o => o
def px_st1 : px_L → Nat → Value → px_L
  | [], _, _ => []
  | _ :: t, 0, v => some v :: t
  | o :: t, 1, v => px_kill o :: px_st1 t 0 v
  | o :: t, i + 2, v => o :: px_st1 t (i + 1) v
def px_cl1 : px_L → px_L
  | [] => []
  | _ :: t => none :: t
def px_st2 : px_L → Nat → Value → px_L
  | [], _, _ => []
  | _ :: t, 0, v => some v :: px_cl1 t
  | o :: t, 1, v => px_kill o :: px_st2 t 0 v
  | o :: t, i + 2, v => o :: px_st2 t (i + 1) v
def px_c1 : ClassFile.Cond → Int32 → Bool
  | .eq, x => decide (x = 0)
  | .ne, x => decide (¬ x = 0)
  | .lt, x => decide (x < 0)
  | .ge, x => decide (0 ≤ x)
  | .gt, x => decide (0 < x)
  | .le, x => decide (x ≤ 0)
def px_c2 : ClassFile.Cond → Int32 → Int32 → Bool
  | .eq, x, y => decide (x = y)
  | .ne, x, y => decide (¬ x = y)
  | .lt, x, y => decide (x < y)
  | .ge, x, y => decide (y ≤ x)
  | .gt, x, y => decide (y < x)
  | .le, x, y => decide (x ≤ y)
def px_jmp (pc : Nat) (off : Int) (b : Bool) (L : px_L) (S : List Value) (h : px_H) : Option px_R :=
  if 0 ≤ (pc : Int) + off then some (if b = true then ((pc : Int) + off).toNat else pc + 3, L, S, h) else none
def px_ii (f : Int32 → Int32 → Int32) : List Value → Option (List Value)
  | .int y :: .int x :: S => some (.int (f x y) :: S)
  | _ => none
def px_jj (f : Int64 → Int64 → Int64) : List Value → Option (List Value)
  | .long y :: .long x :: S => some (.long (f x y) :: S)
  | _ => none
def px_ji (f : Int64 → Int32 → Int64) : List Value → Option (List Value)
  | .int y :: .long x :: S => some (.long (f x y) :: S)
  | _ => none
def px_i1 (f : Int32 → Value) : List Value → Option (List Value)
  | .int x :: S => some (f x :: S)
  | _ => none
def px_j1 (f : Int64 → Value) : List Value → Option (List Value)
  | .long x :: S => some (f x :: S)
  | _ => none
def px_dup : List Value → Option (List Value)
  | a :: S => if a.category = 1 then some (a :: a :: S) else none
  | _ => none
def px_pop : List Value → Option (List Value)
  | a :: S => if a.category = 1 then some S else none
  | _ => none
def px_dup_x1 : List Value → Option (List Value)
  | a :: b :: S => if a.category = 1 ∧ b.category = 1 then some (a :: b :: a :: S) else none
  | _ => none
def px_dup_x2 : List Value → Option (List Value)
  | a :: b :: d :: S => if a.category = 1 ∧ b.category = 1 ∧ d.category = 1 then some (a :: b :: d :: a :: S) else none
  | _ => none
def px_dup2 : List Value → Option (List Value)
  | a :: S => if a.category = 2 then some (a :: a :: S) else match S with
    | b :: S' => if b.category = 1 then some (a :: b :: a :: b :: S') else none
    | _ => none
  | _ => none
def px_pop2 : List Value → Option (List Value)
  | a :: S => if a.category = 2 then some S else match S with
    | b :: S' => if b.category = 1 then some S' else none
    | _ => none
  | _ => none
def px_to (pc : Nat) (L : px_L) (h : px_H) (o : Option (List Value)) : Option px_R := o.map (fun S => (pc, L, S, h))
/-- what a field of a kind takes: 0 int, 1 boolean, 2 long, 3 reference -/
def px_fit : Nat → Value → Bool
  | 0, .int _ => true
  | 1, .int x => decide (x = 0 ∨ x = 1)
  | 2, .long _ => true
  | 3, .null => true
  | 3, .ref _ => true
  | _, _ => false
def px_up {α : Type} (f : Nat → α) (k : Nat) (v : α) : Nat → α := fun j => if j = k then v else f j
/-- an index within -/
def px_in (i : Int32) (n : Nat) : Bool := decide (¬ (i < 0 ∨ n ≤ i.toNatClampNeg))
def px_rf : Option Nat → Value
  | none => .null
  | some r => .ref r
def px_get (G : px_G) (M : px_M) (idx : Nat) (S : List Value) (h : px_H) : Option (List Value) :=
  match S with
  | .ref r :: S => match px_Gf G (px_Mo M) idx, h.2[r]? with
    | some (c, f, _, _), some (.inl (c', fs)) => if c' = c then (match fs[f]? with
      | some v => some (v :: S)
      | none => none) else none
    | _, _ => none
  | _ => none
def px_put (G : px_G) (M : px_M) (idx : Nat) (S : List Value) (h : px_H) : Option (List Value × px_H) :=
  match S with
  | v :: .ref r :: S => match px_Gf G (px_Mo M) idx, h.2[r]? with
    | some (c, f, t, fin), some (.inl (c', fs)) =>
      if c' = c ∧ f < fs.length ∧ px_fit t v = true ∧ (fin = true → (px_Mm M).name = "<init>" ∧ c = px_Mo M) then some (S, (h.1, h.2.set r (.inl (c, fs.set f v)))) else none
    | _, _ => none
  | _ => none
def px_iald (sx : Nat × (Nat → Int32)) (tags : List Nat) (S : List Value) (h : px_H) : Option (List Value) :=
  match S with
  | .int i :: .ref r :: S => match h.2[r]? with
    | some (.inr (t, n, .inl f)) => if t ∈ tags ∧ px_in i n = true then some (.int (f i.toNatClampNeg) :: S) else none
    | _ => none
  | .int i :: .retAddr 0 :: S => if 1 ∈ tags ∧ px_in i sx.1 = true then some (.int (sx.2 i.toNatClampNeg) :: S) else none
  | _ => none
def px_lald (S : List Value) (h : px_H) : Option (List Value) :=
  match S with
  | .int i :: .ref r :: S => match h.2[r]? with
    | some (.inr (t, n, .inr (.inl f))) => if t = 2 ∧ px_in i n = true then some (.long (f i.toNatClampNeg) :: S) else none
    | _ => none
  | _ => none
def px_aald (S : List Value) (h : px_H) : Option (List Value) :=
  match S with
  | .int i :: .ref r :: S => match h.2[r]? with
    | some (.inr (t, n, .inr (.inr f))) => if (t ∈ px_tags ∧ 10 ≤ t) ∧ px_in i n = true then some (px_rf (f i.toNatClampNeg) :: S) else none
    | _ => none
  | _ => none
def px_nar (t : Nat) (x : Int32) : Int32 := if t = 0 then vp_nar .byte x else if t = 3 then vp_nar .boolean x else x
def px_iast (tags : List Nat) (S : List Value) (h : px_H) : Option (List Value × px_H) :=
  match S with
  | .int x :: .int i :: .ref r :: S => match h.2[r]? with
    | some (.inr (t, n, .inl f)) => if t ∈ tags ∧ px_in i n = true then some (S, (h.1, h.2.set r (.inr (t, n, .inl (px_up f i.toNatClampNeg (px_nar t x)))))) else none
    | _ => none
  | _ => none
def px_last (S : List Value) (h : px_H) : Option (List Value × px_H) :=
  match S with
  | .long x :: .int i :: .ref r :: S => match h.2[r]? with
    | some (.inr (t, n, .inr (.inl f))) => if t = 2 ∧ px_in i n = true then some (S, (h.1, h.2.set r (.inr (t, n, .inr (.inl (px_up f i.toNatClampNeg x)))))) else none
    | _ => none
  | _ => none
def px_aast (S : List Value) (h : px_H) : Option (List Value × px_H) :=
  match S with
  | .ref v :: .int i :: .ref r :: S => match h.2[r]?, h.2[v]? with
    | some (.inr (t, n, .inr (.inr f))), some (.inl (c, _)) => if (t ∈ px_tags ∧ t = 10 + c) ∧ px_in i n = true then some (S, (h.1, h.2.set r (.inr (t, n, .inr (.inr (px_up f i.toNatClampNeg (some v))))))) else none
    | _, _ => none
  | .null :: .int i :: .ref r :: S => match h.2[r]? with
    | some (.inr (t, n, .inr (.inr f))) => if (t ∈ px_tags ∧ 10 ≤ t) ∧ px_in i n = true then some (S, (h.1, h.2.set r (.inr (t, n, .inr (.inr (px_up f i.toNatClampNeg none)))))) else none
    | _ => none
  | _ => none
def px_alen (sx : Nat × (Nat → Int32)) (S : List Value) (h : px_H) : Option (List Value) :=
  match S with
  | .ref r :: S => match h.2[r]? with
    | some (.inr (t, n, _)) => if t ∈ px_tags then some (.int (Int32.ofNat n) :: S) else none
    | _ => none
  | .retAddr 0 :: S => some (.int (Int32.ofNat sx.1) :: S)
  | _ => none
/-- the tag and the first contents of a fresh array -/
def px_atag : ArrayType → Option (Nat × px_A)
  | .byte => some (0, .inl (fun _ => 0))
  | .int => some (1, .inl (fun _ => 0))
  | .long => some (2, .inr (.inl (fun _ => 0)))
  | .boolean => some (3, .inl (fun _ => 0))
  | _ => none
def px_newa (o : Option (Nat × px_A)) (S : List Value) (h : px_H) : Option (List Value × px_H) :=
  match S, o with
  | .int n :: S, some (t, a) => if t ∈ px_tags ∧ ¬ n < 0 ∧ n.toNatClampNeg ≤ 1000000 ∧ h.2.length + 1 ≤ px_CT ∧ h.1 + n.toNatClampNeg ≤ px_ST then some (.ref h.2.length :: S, (h.1 + n.toNatClampNeg, h.2 ++ [.inr (t, n.toNatClampNeg, a)])) else none
  | _, _ => none
def px_new (G : px_G) (o : Option Nat) (S : List Value) (h : px_H) : Option (List Value × px_H) :=
  match o with
  | some c => if c < px_NC ∧ h.2.length + 1 ≤ px_CT ∧ h.1 + (px_Gd G c).length ≤ px_ST then some (.ref h.2.length :: S, (h.1 + (px_Gd G c).length, h.2 ++ [.inl (c, px_Gd G c)])) else none
  | none => none
def px_toH (pc : Nat) (L : px_L) (o : Option (List Value × px_H)) : Option px_R := o.map (fun q => (pc, L, q.1, q.2))
def px_acmp : List Value → Option (Bool × List Value)
  | .ref a :: .ref b :: S => some (decide (b = a), S)
  | .null :: .null :: S => some (true, S)
  | .null :: .ref _ :: S => some (false, S)
  | .ref _ :: .null :: S => some (false, S)
  | _ => none
def px_null : List Value → Option (Bool × List Value)
  | .ref _ :: S => some (false, S)
  | .retAddr _ :: S => some (false, S)
  | .null :: S => some (true, S)
  | _ => none
def px_inc (pc : Nat) (L : px_L) (S : List Value) (h : px_H) (i : Nat) (n : Int) : Option px_R :=
  match px_ld L i px_isInt with
  | some (.int x) => some (pc + 3, px_st1 L i (.int (x + Int32.ofInt n)), S, h)
  | _ => none
def px_sto (pc : Nat) (L : px_L) (h : px_H) (i : Nat) (ok : Value → Bool) : List Value → Option px_R
  | v :: S => if ok v = true ∧ i < L.length then some (pc, px_st1 L i v, S, h) else none
  | _ => none
def px_sto2 (pc : Nat) (L : px_L) (h : px_H) (i : Nat) : List Value → Option px_R
  | .long x :: S => if i + 1 < L.length then some (pc, px_st2 L i (.long x), S, h) else none
  | _ => none
def px_tsw (pc : Nat) (L : px_L) (h : px_H) (d lo hi : Int) (offs : Array Int) : List Value → Option px_R
  | .int x :: S => if x.toInt < lo ∨ hi < x.toInt then (if 0 ≤ (pc : Int) + d then some (((pc : Int) + d).toNat, L, S, h) else none)
    else match offs[(x.toInt - lo).toNat]? with
      | some o => if 0 ≤ (pc : Int) + o then some (((pc : Int) + o).toNat, L, S, h) else none
      | none => none
  | _ => none
def px_lsw (pc : Nat) (L : px_L) (h : px_H) (d : Int) (ps : Array (Int × Int)) : List Value → Option px_R
  | .int x :: S => if (ps.toList.zip (ps.toList.drop 1)).all (fun (a, next) => a.1 < next.1) = true ∧ 0 ≤ (pc : Int) + Op.lookupswitch.offset ps.toList d x.toInt then some (((pc : Int) + Op.lookupswitch.offset ps.toList d x.toInt).toNat, L, S, h) else none
  | _ => none
/-! the String constants: class and pool index, text; bytes; .retAddr (k + 1) is the k-th -/
def px_txt : List (String × Nat × String) := [("ImageYard$Builder", 125, "FROM empty"), ("ImageYard$Builder", 131, "FROM "), ("ImageYard$Builder", 88, "ENV"), ("ImageYard$Builder", 98, "RUN"), ("ImageYard$Builder", 104, "COPY"), ("ImageYard$Shell", 56, "mkdir"), ("ImageYard$Shell", 62, "rm"), ("ImageYard$Shell", 64, "put"), ("ImageYard$Shell", 66, "add"), ("ImageYard$Shell", 68, "move"), ("ImageYard$Shell", 70, "join")]
def px_sb : List (List Int32) := [[70, 82, 79, 77, 32, 101, 109, 112, 116, 121], [70, 82, 79, 77, 32], [69, 78, 86], [82, 85, 78], [67, 79, 80, 89], [109, 107, 100, 105, 114], [114, 109], [112, 117, 116], [97, 100, 100], [109, 111, 118, 101], [106, 111, 105, 110]]
def px_sl : List Nat := [10, 5, 3, 3, 4, 5, 2, 3, 3, 4, 4]
/-- one instruction that neither calls nor leaves -/
def px_one (G : px_G) (sx : Nat × (Nat → Int32)) (M : px_M) (pc : Nat) (L : px_L) (S : List Value) (h : px_H) : Instr → Option px_R
  | .iconst n => some (pc + 1, L, .int (Int32.ofInt n) :: S, h)
  | .bipush n => some (pc + 2, L, .int (Int8.ofInt n).toInt32 :: S, h)
  | .sipush n => some (pc + 3, L, .int (Int16.ofInt n).toInt32 :: S, h)
  | .lconst n => some (pc + 1, L, .long (Int64.ofNat n) :: S, h)
  | .aconst_null => some (pc + 1, L, .null :: S, h)
  | .ldc i => match px_Gv G (px_Mo M) i with
    | some (.int v) => some (pc + 2, L, .int v :: S, h)
    | some (.retAddr k) => some (pc + 2, L, .retAddr k :: S, h)
    | _ => none
  | .ldc_w i => match px_Gv G (px_Mo M) i with
    | some (.int v) => some (pc + 3, L, .int v :: S, h)
    | _ => none
  | .ldc2_w i => match px_Gv G (px_Mo M) i with
    | some (.long v) => some (pc + 3, L, .long v :: S, h)
    | _ => none
  | .iload i => px_to (pc + 2) L h ((px_ld L i px_isInt).map (· :: S))
  | .iload_n i => px_to (pc + 1) L h ((px_ld L i px_isInt).map (· :: S))
  | .lload i => px_to (pc + 2) L h ((px_ld L i px_isLong).map (· :: S))
  | .lload_n i => px_to (pc + 1) L h ((px_ld L i px_isLong).map (· :: S))
  | .aload i => px_to (pc + 2) L h ((px_ld L i px_isRef).map (· :: S))
  | .aload_n i => px_to (pc + 1) L h ((px_ld L i px_isRef).map (· :: S))
  | .istore i => px_sto (pc + 2) L h i px_isInt S
  | .istore_n i => px_sto (pc + 1) L h i px_isInt S
  | .lstore i => px_sto2 (pc + 2) L h i S
  | .lstore_n i => px_sto2 (pc + 1) L h i S
  | .astore i => px_sto (pc + 2) L h i px_isRef S
  | .astore_n i => px_sto (pc + 1) L h i px_isRef S
  | .iinc i n => px_inc pc L S h i n
  | .iadd => px_to (pc + 1) L h (px_ii (fun x y => x + y) S)
  | .isub => px_to (pc + 1) L h (px_ii (fun x y => x - y) S)
  | .imul => px_to (pc + 1) L h (px_ii (fun x y => x * y) S)
  | .iand => px_to (pc + 1) L h (px_ii (fun x y => x &&& y) S)
  | .ior => px_to (pc + 1) L h (px_ii (fun x y => x ||| y) S)
  | .ixor => px_to (pc + 1) L h (px_ii (fun x y => x ^^^ y) S)
  | .idiv => match S with
    | .int y :: .int x :: S => if y = 0 then none else some (pc + 1, L, .int (x / y) :: S, h)
    | _ => none
  | .irem => match S with
    | .int y :: .int x :: S => if y = 0 then none else some (pc + 1, L, .int (x - x / y * y) :: S, h)
    | _ => none
  | .ineg => px_to (pc + 1) L h (px_i1 (fun x => .int (-x)) S)
  | .ishl => px_to (pc + 1) L h (px_ii (fun x y => x <<< (y &&& 31)) S)
  | .ishr => px_to (pc + 1) L h (px_ii (fun x y => x >>> (y &&& 31)) S)
  | .iushr => px_to (pc + 1) L h (px_ii (fun x y => (x.toUInt32 >>> (y.toUInt32 &&& Int32.toUInt32 31)).toInt32) S)
  | .ladd => px_to (pc + 1) L h (px_jj (fun x y => x + y) S)
  | .lsub => px_to (pc + 1) L h (px_jj (fun x y => x - y) S)
  | .lmul => px_to (pc + 1) L h (px_jj (fun x y => x * y) S)
  | .land => px_to (pc + 1) L h (px_jj (fun x y => x &&& y) S)
  | .lor => px_to (pc + 1) L h (px_jj (fun x y => x ||| y) S)
  | .lxor => px_to (pc + 1) L h (px_jj (fun x y => x ^^^ y) S)
  | .lshl => px_to (pc + 1) L h (px_ji (fun x y => x <<< (y.toInt64 &&& 63)) S)
  | .lshr => px_to (pc + 1) L h (px_ji (fun x y => x >>> (y.toInt64 &&& 63)) S)
  | .lushr => px_to (pc + 1) L h (px_ji (fun x y => (x.toUInt64 >>> (y.toInt64.toUInt64 &&& Int64.toUInt64 63)).toInt64) S)
  | .lcmp => match S with
    | .long y :: .long x :: S => some (pc + 1, L, .int (lg_cmp x y) :: S, h)
    | _ => none
  | .i2l => px_to (pc + 1) L h (px_i1 (fun x => .long x.toInt64) S)
  | .l2i => px_to (pc + 1) L h (px_j1 (fun x => .int x.toInt32) S)
  | .i2b => px_to (pc + 1) L h (px_i1 (fun x => .int x.toInt8.toInt32) S)
  | .i2s => px_to (pc + 1) L h (px_i1 (fun x => .int x.toInt16.toInt32) S)
  | .i2c => px_to (pc + 1) L h (px_i1 (fun x => .int (x.toUInt32 % 65536).toInt32) S)
  | .dup => px_to (pc + 1) L h (px_dup S)
  | .pop => px_to (pc + 1) L h (px_pop S)
  | .dup_x1 => px_to (pc + 1) L h (px_dup_x1 S)
  | .dup_x2 => px_to (pc + 1) L h (px_dup_x2 S)
  | .dup2 => px_to (pc + 1) L h (px_dup2 S)
  | .pop2 => px_to (pc + 1) L h (px_pop2 S)
  | .ifCond c off => match S with
    | .int x :: S => px_jmp pc off (px_c1 c x) L S h
    | _ => none
  | .if_icmp c off => match S with
    | .int y :: .int x :: S => px_jmp pc off (px_c2 c x y) L S h
    | _ => none
  | .if_acmp .eq off => match px_acmp S with
    | some (b, S) => px_jmp pc off b L S h
    | none => none
  | .if_acmp .ne off => match px_acmp S with
    | some (b, S) => px_jmp pc off (!b) L S h
    | none => none
  | .ifnull off => match px_null S with
    | some (b, S) => px_jmp pc off b L S h
    | none => none
  | .ifnonnull off => match px_null S with
    | some (b, S) => px_jmp pc off (!b) L S h
    | none => none
  | .goto off => px_jmp pc off true L S h
  | .tableswitch d lo hi offs => px_tsw pc L h d lo hi offs S
  | .lookupswitch d ps => px_lsw pc L h d ps S
  | .getfield i => px_to (pc + 3) L h (px_get G M i S h)
  | .putfield i => px_toH (pc + 3) L (px_put G M i S h)
  | .iaload => px_to (pc + 1) L h (px_iald sx [1] S h)
  | .baload => px_to (pc + 1) L h (px_iald sx [0, 3] S h)
  | .laload => px_to (pc + 1) L h (px_lald S h)
  | .aaload => px_to (pc + 1) L h (px_aald S h)
  | .iastore => px_toH (pc + 1) L (px_iast [1] S h)
  | .bastore => px_toH (pc + 1) L (px_iast [0, 3] S h)
  | .lastore => px_toH (pc + 1) L (px_last S h)
  | .aastore => px_toH (pc + 1) L (px_aast S h)
  | .arraylength => px_to (pc + 1) L h (px_alen sx S h)
  | .newarray t => px_toH (pc + 2) L (px_newa (px_atag t) S h)
  | .anewarray i => px_toH (pc + 3) L (px_newa ((px_Gk G (px_Mo M) i).map fun c => (10 + c, .inr (.inr (fun _ => none)))) S h)
  | .new i => px_toH (pc + 3) L (px_new G (px_Gk G (px_Mo M) i) S h)
  | _ => none
